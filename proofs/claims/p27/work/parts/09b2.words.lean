set_option maxRecDepth 20000 in
theorem ggX10_march_X1_caughtOnes : GoodIn wsX10_march wsX1_caughtOnes := goodIn_r _ [188, 25, 213, 214, 215, 216] (by decide +kernel) (by decide +kernel)
set_option maxRecDepth 20000 in
theorem gX10_march_X1_caughtOnes : GoodIn wsX10_march (wsV RX10 194 RX1 yX1_caughtOnes wsX1_caughtOnes) := goodIn_app (goodIn_of _ (by decide +kernel)) ggX10_march_X1_caughtOnes
set_option maxRecDepth 20000 in
theorem ggX10_march_X1_strongTogether : GoodIn wsX10_march wsX1_strongTogether := goodIn_r _ [192, 23, 34, 51, 52, 53, 21, 54, 25, 85, 86, 87, 88, 213, 214, 215, 216, 217, 218, 219, 220, 221, 222, 223, 224, 225, 226, 227, 228] (by decide +kernel) (by decide +kernel)
set_option maxRecDepth 20000 in
theorem gX10_march_X1_strongTogether : GoodIn wsX10_march (wsV RX10 378 RX1 yX1_strongTogether wsX1_strongTogether) := goodIn_app (goodIn_of _ (by decide +kernel)) ggX10_march_X1_strongTogether
set_option maxRecDepth 20000 in
theorem ggX10_march_X1_day : GoodIn wsX10_march wsX1_day := goodIn_r _ [114, 25, 213, 214, 215, 216] (by decide +kernel) (by decide +kernel)
set_option maxRecDepth 20000 in
theorem gX10_march_X1_day : GoodIn wsX10_march (wsV RX10 187 RX1 yX1_day wsX1_day) := goodIn_app (goodIn_of _ (by decide +kernel)) ggX10_march_X1_day
set_option maxRecDepth 20000 in
theorem ggX10_span_X10_needWithin : GoodIn wsX10_span wsX10_needWithin := goodIn_ca (goodIn_r _ [17, 18, 19, 16, 20, 21, 22, 23, 24, 25, 26, 27, 191, 192, 193, 194, 195, 196, 197, 198, 199, 200, 201, 202, 203, 204, 205, 206, 207, 208, 209] (by decide +kernel) (by decide +kernel)) (goodIn_sub (fun _ h => List.mem_cons_of_mem _ (List.mem_append_right _ h)) (by decide +kernel))
set_option maxRecDepth 20000 in
theorem gX10_span_X10_needWithin : GoodIn wsX10_span (wsV RX10 180 RX10 yX10_needWithin wsX10_needWithin) := goodIn_app (goodIn_of _ (by decide +kernel)) ggX10_span_X10_needWithin
set_option maxRecDepth 20000 in
theorem ggX10_span_X1_copyFrom : GoodIn wsX10_span wsX1_copyFrom := goodIn_r _ [32, 33, 34, 35, 36, 37, 38, 39, 222, 223, 224, 225] (by decide +kernel) (by decide +kernel)
set_option maxRecDepth 20000 in
theorem gX10_span_X1_copyFrom : GoodIn wsX10_span (wsV RX10 297 RX1 yX1_copyFrom wsX1_copyFrom) := goodIn_app (goodIn_of _ (by decide +kernel)) ggX10_span_X1_copyFrom
set_option maxRecDepth 20000 in
theorem ggX10_span_X1_drawDays : GoodIn wsX10_span wsX1_drawDays := goodIn_r _ [43, 33, 44, 45, 46, 47, 31, 48, 49, 50, 51, 52, 53, 54, 55, 56, 57, 58, 59, 60, 61, 62, 63, 64, 35, 65, 66, 67, 68, 69, 70, 71, 72, 73, 74, 75, 76, 8, 77, 78, 79, 80, 81, 82, 34, 83, 84, 85, 86, 87, 88, 89, 90, 91, 92, 93, 94, 95, 96, 97, 98, 99, 100, 101, 102, 103, 104, 105, 106, 107, 108, 109, 110, 111, 112, 113, 114, 115, 116, 117, 118, 119, 120, 121, 122, 123, 124, 125, 126, 127, 128, 129, 130, 131, 132, 133, 134, 135, 136, 137, 138, 139, 140, 7, 9, 141, 11, 12, 142, 143, 144, 145, 146, 147, 148, 149, 150, 151, 152, 153, 154, 155, 156, 157, 158, 159, 160, 161, 162, 163, 164, 165, 166, 167, 168, 169, 170, 16, 171, 172, 173, 174, 175, 176, 177, 178, 179, 180, 181, 182, 183, 184, 185, 186, 187, 188, 189, 222, 223, 224, 225, 210, 211, 212, 213, 214, 215, 216, 217, 218, 219, 220, 221, 226, 227, 228, 229, 230] (by decide +kernel) (by decide +kernel)
set_option maxRecDepth 20000 in
theorem gX10_span_X1_drawDays : GoodIn wsX10_span (wsV RX10 375 RX1 yX1_drawDays wsX1_drawDays) := goodIn_app (goodIn_of _ (by decide +kernel)) ggX10_span_X1_drawDays
set_option maxRecDepth 20000 in
theorem ggX10_span_X1_isCaught : GoodIn wsX10_span wsX1_isCaught := goodIn_r _ [64, 35, 222, 223, 224, 225] (by decide +kernel) (by decide +kernel)
set_option maxRecDepth 20000 in
theorem gX10_span_X1_isCaught : GoodIn wsX10_span (wsV RX10 230 RX1 yX1_isCaught wsX1_isCaught) := goodIn_app (goodIn_of _ (by decide +kernel)) ggX10_span_X1_isCaught
set_option maxRecDepth 20000 in
theorem ggX10_image_X5_copyFrom : GoodIn wsX10_image wsX5_copyFrom := goodIn_r _ [9, 10, 11, 12, 13, 14, 15, 40, 41] (by decide +kernel) (by decide +kernel)
set_option maxRecDepth 20000 in
theorem gX10_image_X5_copyFrom : GoodIn wsX10_image (wsV RX10 392 RX5 yX5_copyFrom wsX5_copyFrom) := goodIn_app (goodIn_of _ (by decide +kernel)) ggX10_image_X5_copyFrom
set_option maxRecDepth 20000 in
theorem ggX10_image_X5_push : GoodIn wsX10_image wsX5_push := goodIn_r _ [19, 11, 20, 10, 12, 13, 14, 15, 40, 41, 42, 43, 44, 45] (by decide +kernel) (by decide +kernel)
set_option maxRecDepth 20000 in
theorem gX10_image_X5_push : GoodIn wsX10_image (wsV RX10 155 RX5 yX5_push wsX5_push) := goodIn_app (goodIn_of _ (by decide +kernel)) ggX10_image_X5_push
set_option maxRecDepth 20000 in
theorem ggX10_restore_X5_pop : GoodIn wsX10_restore wsX5_pop := goodIn_r _ [10, 11, 12, 13, 14, 15, 16, 17, 41, 42, 43, 44, 45, 46] (by decide +kernel) (by decide +kernel)
set_option maxRecDepth 20000 in
theorem gX10_restore_X5_pop : GoodIn wsX10_restore (wsV RX10 177 RX5 yX5_pop wsX5_pop) := goodIn_app (goodIn_of _ (by decide +kernel)) ggX10_restore_X5_pop
set_option maxRecDepth 20000 in
theorem ggX10_restore_X5_copyFrom : GoodIn wsX10_restore wsX5_copyFrom := goodIn_r _ [21, 12, 11, 14, 15, 16, 17, 41, 42] (by decide +kernel) (by decide +kernel)
set_option maxRecDepth 20000 in
theorem gX10_restore_X5_copyFrom : GoodIn wsX10_restore (wsV RX10 392 RX5 yX5_copyFrom wsX5_copyFrom) := goodIn_app (goodIn_of _ (by decide +kernel)) ggX10_restore_X5_copyFrom
set_option maxRecDepth 20000 in
theorem ggX10_openText_X10_needWithin : GoodIn wsX10_openText wsX10_needWithin := goodIn_ca (goodIn_r _ [11, 12, 13, 10, 14, 15, 16, 17, 18, 19, 20, 21, 34, 35, 36, 37, 38, 39, 40, 41, 42, 43, 44, 45, 46, 47, 48, 49, 50, 51, 52] (by decide +kernel) (by decide +kernel)) (goodIn_sub (fun _ h => List.mem_cons_of_mem _ (List.mem_append_right _ h)) (by decide +kernel))
set_option maxRecDepth 20000 in
theorem gX10_openText_X10_needWithin : GoodIn wsX10_openText (wsV RX10 180 RX10 yX10_needWithin wsX10_needWithin) := goodIn_app (goodIn_of _ (by decide +kernel)) ggX10_openText_X10_needWithin
set_option maxRecDepth 20000 in
theorem ggX10_openText_X8_open : GoodIn wsX10_openText wsX8_open := goodIn_r _ [26, 27, 4, 5, 6, 28, 29, 30, 31, 32, 33, 53, 54, 55, 56, 57, 58, 59] (by decide +kernel) (by decide +kernel)
set_option maxRecDepth 20000 in
theorem gX10_openText_X8_open : GoodIn wsX10_openText (wsV RX10 398 RX8 yX8_open wsX8_open) := goodIn_app (goodIn_of _ (by decide +kernel)) ggX10_openText_X8_open
set_option maxRecDepth 20000 in
theorem ggX10_needForm_X10_within : GoodIn wsX10_needForm wsX10_within := goodIn_r _ [9] (by decide +kernel) (by decide +kernel)
set_option maxRecDepth 20000 in
theorem gX10_needForm_X10_within : GoodIn wsX10_needForm (va_wsS RX10 257 yX10_within wsX10_within) := goodIn_app (goodIn_of _ (by decide +kernel)) ggX10_needForm_X10_within
set_option maxRecDepth 20000 in
theorem ggX10_needHare_X10_within : GoodIn wsX10_needHare wsX10_within := goodIn_r _ [9] (by decide +kernel) (by decide +kernel)
set_option maxRecDepth 20000 in
theorem gX10_needHare_X10_within : GoodIn wsX10_needHare (va_wsS RX10 257 yX10_within wsX10_within) := goodIn_app (goodIn_of _ (by decide +kernel)) ggX10_needHare_X10_within
set_option maxRecDepth 20000 in
theorem ggX10_needWithin_X10_within : GoodIn wsX10_needWithin wsX10_within := goodIn_r _ [4] (by decide +kernel) (by decide +kernel)
set_option maxRecDepth 20000 in
theorem gX10_needWithin_X10_within : GoodIn wsX10_needWithin (va_wsS RX10 257 yX10_within wsX10_within) := goodIn_app (goodIn_of _ (by decide +kernel)) ggX10_needWithin_X10_within
set_option maxRecDepth 20000 in
theorem ggX10_needWithin_X10_needLegal : GoodIn wsX10_needWithin wsX10_needLegal := goodIn_ca (goodIn_r _ [8, 9, 10, 11, 12, 13, 14, 15, 16, 17, 18, 19, 20, 21, 22, 23, 24, 25, 26, 27, 28, 29, 30] (by decide +kernel) (by decide +kernel)) (goodIn_sub (fun _ h => List.mem_cons_of_mem _ (List.mem_append_right _ h)) (by decide +kernel))
set_option maxRecDepth 20000 in
theorem gX10_needWithin_X10_needLegal : GoodIn wsX10_needWithin (wsV RX10 322 RX10 yX10_needLegal wsX10_needLegal) := goodIn_app (goodIn_of _ (by decide +kernel)) ggX10_needWithin_X10_needLegal
set_option maxRecDepth 20000 in
theorem ggX10_ordersWon_X10_holds : GoodIn wsX10_ordersWon wsX10_holds := goodIn_r _ [8] (by decide +kernel) (by decide +kernel)
set_option maxRecDepth 20000 in
theorem gX10_ordersWon_X10_holds : GoodIn wsX10_ordersWon (va_wsS RX10 332 yX10_holds wsX10_holds) := goodIn_app (goodIn_of _ (by decide +kernel)) ggX10_ordersWon_X10_holds
set_option maxRecDepth 20000 in
theorem ggX10_ordersWon_X1_strong : GoodIn wsX10_ordersWon wsX1_strong := goodIn_r _ [13, 14, 17, 18, 19, 20] (by decide +kernel) (by decide +kernel)
set_option maxRecDepth 20000 in
theorem gX10_ordersWon_X1_strong : GoodIn wsX10_ordersWon (wsV RX10 236 RX1 yX1_strong wsX1_strong) := goodIn_app (goodIn_of _ (by decide +kernel)) ggX10_ordersWon_X1_strong
set_option maxRecDepth 20000 in
theorem ggX10_ordersWon_X10_ordersWon : GoodIn wsX10_ordersWon wsX10_ordersWon := goodIn_r _ [0, 1, 2, 3, 4, 5, 6, 7, 8, 9, 10, 11, 12, 13, 14, 15, 16, 17, 18, 19, 20] (by decide +kernel) (by decide +kernel)
set_option maxRecDepth 20000 in
theorem gX10_ordersWon_X10_ordersWon : GoodIn wsX10_ordersWon (va_wsS RX10 335 yX10_ordersWon wsX10_ordersWon) := goodIn_app (goodIn_of _ (by decide +kernel)) ggX10_ordersWon_X10_ordersWon
set_option maxRecDepth 20000 in
theorem ggX11_init_X11_clears : GoodIn wsX11_init wsX11_clears := goodIn_r _ [40, 41, 42, 43, 11, 60, 61, 62, 63, 64, 65, 66, 67, 68, 69, 70, 71, 72, 73, 74, 75, 76, 77, 78, 79, 80, 81, 82, 83, 84, 85, 86, 87, 88, 89, 90, 91, 92, 93, 94, 95, 96, 97, 98, 99, 100, 101, 102, 103, 104, 105, 106, 107, 108, 109, 110, 111, 112, 113, 114] (by decide +kernel) (by decide +kernel)
set_option maxRecDepth 20000 in
theorem gX11_init_X11_clears : GoodIn wsX11_init (wsV RX11 105 RX11 yX11_clears wsX11_clears) := goodIn_app (goodIn_of _ (by decide +kernel)) ggX11_init_X11_clears
set_option maxRecDepth 20000 in
theorem ggX11_init_X11_sets : GoodIn wsX11_init wsX11_sets := goodIn_r _ [47, 41, 48, 42, 49, 43, 50, 8, 12, 9, 13, 10, 14, 51, 52, 53, 54, 55, 27, 23, 11, 56, 57, 58, 39, 59, 60, 61, 62, 63, 64, 65, 66, 67, 68, 69, 70, 71, 72, 73, 74, 75, 76, 77, 78, 79, 80, 81, 82, 83, 84, 85, 86, 87, 88, 89, 90, 91, 92, 93, 94, 95, 96, 97, 98, 99, 100, 101, 102, 103, 104, 105, 106, 107, 108, 109, 110, 111, 112, 113, 114] (by decide +kernel) (by decide +kernel)
set_option maxRecDepth 20000 in
theorem gX11_init_X11_sets : GoodIn wsX11_init (wsV RX11 108 RX11 yX11_sets wsX11_sets) := goodIn_app (goodIn_of _ (by decide +kernel)) ggX11_init_X11_sets
set_option maxRecDepth 20000 in
theorem ggX11_word_X11_here : GoodIn wsX11_word wsX11_here := goodIn_r _ [8, 1, 2, 3, 12, 13, 14, 15, 16, 17, 18, 19, 20, 21, 22, 23, 24, 25, 26, 27, 28, 29, 30, 31, 32, 33, 34, 35, 36, 37, 38, 39, 40, 41, 42, 43, 44, 45, 46, 47, 48, 49, 50, 51, 52, 53, 54, 55, 56, 57, 58, 59, 60, 61, 62, 63, 64, 65, 66] (by decide +kernel) (by decide +kernel)
set_option maxRecDepth 20000 in
theorem gX11_word_X11_here : GoodIn wsX11_word (wsV RX11 126 RX11 yX11_here wsX11_here) := goodIn_app (goodIn_of _ (by decide +kernel)) ggX11_word_X11_here
set_option maxRecDepth 20000 in
theorem ggX11_word_X11_isSmall : GoodIn wsX11_word wsX11_isSmall := goodIn_r _ [11] (by decide +kernel) (by decide +kernel)
set_option maxRecDepth 20000 in
theorem gX11_word_X11_isSmall : GoodIn wsX11_word (va_wsS RX11 130 yX11_isSmall wsX11_isSmall) := goodIn_app (goodIn_of _ (by decide +kernel)) ggX11_word_X11_isSmall
set_option maxRecDepth 20000 in
theorem ggX11_of_J0_length_8abf5 : GoodIn wsX11_of wsJ0_length_8abf5 := goodIn_r _ [5, 6, 7, 8, 9, 4, 10, 11, 12] (by decide +kernel) (by decide +kernel)
set_option maxRecDepth 20000 in
theorem gX11_of_J0_length_8abf5 : GoodIn wsX11_of (wsV RX11 134 RJ0 yJ0_length_8abf5 wsJ0_length_8abf5) := goodIn_app (goodIn_of _ (by decide +kernel)) ggX11_of_J0_length_8abf5
set_option maxRecDepth 20000 in
theorem ggX11_of_J0_charAt_5068e : GoodIn wsX11_of wsJ0_charAt_5068e := goodIn_r _ [16, 6, 17, 18, 19, 4, 20, 11, 12, 21, 22, 23, 24, 25, 26, 27, 28, 29, 30, 31, 32, 33, 34, 35, 36, 37, 38, 39, 40, 41, 42, 43, 44, 45, 46, 47, 48, 49] (by decide +kernel) (by decide +kernel)
set_option maxRecDepth 20000 in
theorem gX11_of_J0_charAt_5068e : GoodIn wsX11_of (wsV RX11 139 RJ0 yJ0_charAt_5068e wsJ0_charAt_5068e) := goodIn_app (goodIn_of _ (by decide +kernel)) ggX11_of_J0_charAt_5068e
set_option maxRecDepth 20000 in
theorem ggX11_pass_X11_isSmall : GoodIn wsX11_pass wsX11_isSmall := goodIn_r _ [7] (by decide +kernel) (by decide +kernel)
set_option maxRecDepth 20000 in
theorem gX11_pass_X11_isSmall : GoodIn wsX11_pass (va_wsS RX11 130 yX11_isSmall wsX11_isSmall) := goodIn_app (goodIn_of _ (by decide +kernel)) ggX11_pass_X11_isSmall
set_option maxRecDepth 20000 in
theorem ggX11_readNumber_X11_fine : GoodIn wsX11_readNumber wsX11_fine := goodIn_r _ [8, 9, 22, 23, 24, 25, 26, 27, 28, 29, 30, 31, 32, 33, 34, 35, 36, 37, 38, 39, 40, 41, 42, 43, 44, 45, 46, 47, 48, 49, 50, 51, 52, 53, 54, 55, 56, 57, 58, 59, 60, 61, 62, 63, 64, 65, 66, 67, 68, 69, 70, 71, 72, 73, 74, 75, 76] (by decide +kernel) (by decide +kernel)
set_option maxRecDepth 20000 in
theorem gX11_readNumber_X11_fine : GoodIn wsX11_readNumber (wsV RX11 143 RX11 yX11_fine wsX11_fine) := goodIn_app (goodIn_of _ (by decide +kernel)) ggX11_readNumber_X11_fine
set_option maxRecDepth 20000 in
theorem ggX11_readNumber_X11_here : GoodIn wsX11_readNumber wsX11_here := goodIn_r _ [13, 1, 2, 3, 22, 23, 24, 25, 26, 27, 28, 29, 30, 31, 32, 33, 34, 35, 36, 37, 38, 39, 40, 41, 42, 43, 44, 45, 46, 47, 48, 49, 50, 51, 52, 53, 54, 55, 56, 57, 58, 59, 60, 61, 62, 63, 64, 65, 66, 67, 68, 69, 70, 71, 72, 73, 74, 75, 76] (by decide +kernel) (by decide +kernel)
set_option maxRecDepth 20000 in
theorem gX11_readNumber_X11_here : GoodIn wsX11_readNumber (wsV RX11 126 RX11 yX11_here wsX11_here) := goodIn_app (goodIn_of _ (by decide +kernel)) ggX11_readNumber_X11_here
set_option maxRecDepth 20000 in
theorem ggX11_readNumber_X11_isDigit : GoodIn wsX11_readNumber wsX11_isDigit := goodIn_r _ [16] (by decide +kernel) (by decide +kernel)
set_option maxRecDepth 20000 in
theorem gX11_readNumber_X11_isDigit : GoodIn wsX11_readNumber (va_wsS RX11 147 yX11_isDigit wsX11_isDigit) := goodIn_app (goodIn_of _ (by decide +kernel)) ggX11_readNumber_X11_isDigit
set_option maxRecDepth 20000 in
theorem ggX11_readNumber_X11_wrong : GoodIn wsX11_readNumber wsX11_wrong := goodIn_r _ [20, 9, 21, 22, 23, 24, 25, 26, 27, 28, 29, 30, 31, 32, 33, 34, 35, 36, 37, 38, 39, 40, 41, 42, 43, 44, 45, 46, 47, 48, 49, 50, 51, 52, 53, 54, 55, 56, 57, 58, 59, 60, 61, 62, 63, 64, 65, 66, 67, 68, 69, 70, 71, 72, 73, 74, 75, 76] (by decide +kernel) (by decide +kernel)
set_option maxRecDepth 20000 in
theorem gX11_readNumber_X11_wrong : GoodIn wsX11_readNumber (wsV RX11 150 RX11 yX11_wrong wsX11_wrong) := goodIn_app (goodIn_of _ (by decide +kernel)) ggX11_readNumber_X11_wrong
set_option maxRecDepth 20000 in
theorem ggX11_sign_X11_fine : GoodIn wsX11_sign wsX11_fine := goodIn_r _ [6, 7, 19, 20, 21, 22, 23, 24, 25, 26, 27, 28, 29, 30, 31, 32, 33, 34, 35, 36, 37, 38, 39, 40, 41, 42, 43, 44, 45, 46, 47, 48, 49, 50, 51, 52, 53, 54, 55, 56, 57, 58, 59, 60, 61, 62, 63, 64, 65, 66, 67, 68, 69, 70, 71, 72, 73] (by decide +kernel) (by decide +kernel)
set_option maxRecDepth 20000 in
theorem gX11_sign_X11_fine : GoodIn wsX11_sign (wsV RX11 143 RX11 yX11_fine wsX11_fine) := goodIn_app (goodIn_of _ (by decide +kernel)) ggX11_sign_X11_fine
set_option maxRecDepth 20000 in
theorem ggX11_sign_X11_here : GoodIn wsX11_sign wsX11_here := goodIn_r _ [11, 1, 12, 13, 19, 20, 21, 22, 23, 24, 25, 26, 27, 28, 29, 30, 31, 32, 33, 34, 35, 36, 37, 38, 39, 40, 41, 42, 43, 44, 45, 46, 47, 48, 49, 50, 51, 52, 53, 54, 55, 56, 57, 58, 59, 60, 61, 62, 63, 64, 65, 66, 67, 68, 69, 70, 71, 72, 73] (by decide +kernel) (by decide +kernel)
set_option maxRecDepth 20000 in
theorem gX11_sign_X11_here : GoodIn wsX11_sign (wsV RX11 126 RX11 yX11_here wsX11_here) := goodIn_app (goodIn_of _ (by decide +kernel)) ggX11_sign_X11_here
set_option maxRecDepth 20000 in
theorem ggX11_sign_X11_wrong : GoodIn wsX11_sign wsX11_wrong := goodIn_r _ [17, 7, 18, 19, 20, 21, 22, 23, 24, 25, 26, 27, 28, 29, 30, 31, 32, 33, 34, 35, 36, 37, 38, 39, 40, 41, 42, 43, 44, 45, 46, 47, 48, 49, 50, 51, 52, 53, 54, 55, 56, 57, 58, 59, 60, 61, 62, 63, 64, 65, 66, 67, 68, 69, 70, 71, 72, 73] (by decide +kernel) (by decide +kernel)
set_option maxRecDepth 20000 in
theorem gX11_sign_X11_wrong : GoodIn wsX11_sign (wsV RX11 150 RX11 yX11_wrong wsX11_wrong) := goodIn_app (goodIn_of _ (by decide +kernel)) ggX11_sign_X11_wrong
set_option maxRecDepth 20000 in
theorem ggX11_isMore_X11_here : GoodIn wsX11_isMore wsX11_here := goodIn_r _ [7, 1, 2, 8, 9, 10, 11, 12, 13, 14, 15, 16, 17, 18, 19, 20, 21, 22, 23, 24, 25, 26, 27, 28, 29, 30, 31, 32, 33, 34, 35, 36, 37, 38, 39, 40, 41, 42, 43, 44, 45, 46, 47, 48, 49, 50, 51, 52, 53, 54, 55, 56, 57, 58, 59, 60, 61, 62, 63] (by decide +kernel) (by decide +kernel)
set_option maxRecDepth 20000 in
theorem gX11_isMore_X11_here : GoodIn wsX11_isMore (wsV RX11 126 RX11 yX11_here wsX11_here) := goodIn_app (goodIn_of _ (by decide +kernel)) ggX11_isMore_X11_here
set_option maxRecDepth 20000 in
theorem ggX11_result_X11_fine : GoodIn wsX11_result wsX11_fine := goodIn_r _ [8, 1, 9, 10, 11, 12, 13, 14, 15, 16, 17, 18, 19, 20, 21, 22, 23, 24, 25, 26, 27, 28, 29, 30, 31, 32, 33, 34, 35, 36, 37, 38, 39, 40, 41, 42, 43, 44, 45, 46, 47, 48, 49, 50, 51, 52, 53, 54, 55, 56, 57, 58, 59, 60, 61, 62, 63] (by decide +kernel) (by decide +kernel)
set_option maxRecDepth 20000 in
theorem gX11_result_X11_fine : GoodIn wsX11_result (wsV RX11 143 RX11 yX11_fine wsX11_fine) := goodIn_app (goodIn_of _ (by decide +kernel)) ggX11_result_X11_fine
set_option maxRecDepth 20000 in
theorem ggX11_sets_X11_copies : GoodIn wsX11_sets wsX11_copies := goodIn_r _ [25] (by decide +kernel) (by decide +kernel)
set_option maxRecDepth 20000 in
theorem gX11_sets_X11_copies : GoodIn wsX11_sets (wsV RX11 175 RX11 yX11_copies wsX11_copies) := goodIn_app (goodIn_of _ (by decide +kernel)) ggX11_sets_X11_copies
set_option maxRecDepth 20000 in
theorem ggX11_readHare_X11_readNumber : GoodIn wsX11_readHare wsX11_readNumber := goodIn_r _ [6, 7, 8, 9, 10, 11, 12, 5, 13, 14, 15, 16, 17, 18, 19, 20, 21, 22, 23, 24, 25, 26, 27, 28, 29, 30, 31, 32, 33, 34, 35, 36, 37, 38, 39, 40, 41, 42, 43, 44, 45, 46, 47, 48, 49, 50, 51, 52, 53, 54, 55, 56, 57, 58, 59, 60, 61, 62, 63, 64, 65, 66, 67, 68, 69, 70, 71, 72, 73, 74, 75, 76, 77, 78, 79, 80, 81] (by decide +kernel) (by decide +kernel)
set_option maxRecDepth 20000 in
theorem gX11_readHare_X11_readNumber : GoodIn wsX11_readHare (wsV RX11 194 RX11 yX11_readNumber wsX11_readNumber) := goodIn_app (goodIn_of _ (by decide +kernel)) ggX11_readHare_X11_readNumber
set_option maxRecDepth 20000 in
theorem ggX11_readDebt_X11_readHare : GoodIn wsX11_readDebt wsX11_readHare := goodIn_r _ [7, 8, 9, 10, 11, 6, 12, 1, 13, 14, 15, 16, 17, 18, 19, 20, 21, 22, 23, 24, 25, 26, 27, 28, 29, 30, 31, 32, 33, 34, 35, 36, 37, 38, 39, 40, 41, 42, 43, 44, 45, 46, 47, 48, 49, 50, 51, 52, 53, 54, 55, 56, 57, 58, 59, 60, 61, 62, 63, 64, 65, 66, 67, 68, 69, 70, 71, 72, 73, 74, 75, 76, 77, 78, 79, 80, 81, 82, 83, 84, 85, 86] (by decide +kernel) (by decide +kernel)
set_option maxRecDepth 20000 in
theorem gX11_readDebt_X11_readHare : GoodIn wsX11_readDebt (wsV RX11 198 RX11 yX11_readHare wsX11_readHare) := goodIn_app (goodIn_of _ (by decide +kernel)) ggX11_readDebt_X11_readHare
set_option maxRecDepth 20000 in
theorem ggX11_readDebt_X11_here : GoodIn wsX11_readDebt wsX11_here := goodIn_r _ [23, 1, 13, 14, 32, 33, 34, 35, 36, 37, 38, 39, 40, 41, 42, 43, 44, 45, 46, 47, 48, 49, 50, 51, 52, 53, 54, 55, 56, 57, 58, 59, 60, 61, 62, 63, 64, 65, 66, 67, 68, 69, 70, 71, 72, 73, 74, 75, 76, 77, 78, 79, 80, 81, 82, 83, 84, 85, 86] (by decide +kernel) (by decide +kernel)
set_option maxRecDepth 20000 in
theorem gX11_readDebt_X11_here : GoodIn wsX11_readDebt (wsV RX11 126 RX11 yX11_here wsX11_here) := goodIn_app (goodIn_of _ (by decide +kernel)) ggX11_readDebt_X11_here
set_option maxRecDepth 20000 in
theorem ggX11_readDebt_X11_fine : GoodIn wsX11_readDebt wsX11_fine := goodIn_r _ [18, 19, 32, 33, 34, 35, 36, 37, 38, 39, 40, 41, 42, 43, 44, 45, 46, 47, 48, 49, 50, 51, 52, 53, 54, 55, 56, 57, 58, 59, 60, 61, 62, 63, 64, 65, 66, 67, 68, 69, 70, 71, 72, 73, 74, 75, 76, 77, 78, 79, 80, 81, 82, 83, 84, 85, 86] (by decide +kernel) (by decide +kernel)
set_option maxRecDepth 20000 in
theorem gX11_readDebt_X11_fine : GoodIn wsX11_readDebt (wsV RX11 143 RX11 yX11_fine wsX11_fine) := goodIn_app (goodIn_of _ (by decide +kernel)) ggX11_readDebt_X11_fine
set_option maxRecDepth 20000 in
theorem ggX11_readDebt_X11_wrong : GoodIn wsX11_readDebt wsX11_wrong := goodIn_r _ [30, 19, 31, 32, 33, 34, 35, 36, 37, 38, 39, 40, 41, 42, 43, 44, 45, 46, 47, 48, 49, 50, 51, 52, 53, 54, 55, 56, 57, 58, 59, 60, 61, 62, 63, 64, 65, 66, 67, 68, 69, 70, 71, 72, 73, 74, 75, 76, 77, 78, 79, 80, 81, 82, 83, 84, 85, 86] (by decide +kernel) (by decide +kernel)
set_option maxRecDepth 20000 in
theorem gX11_readDebt_X11_wrong : GoodIn wsX11_readDebt (wsV RX11 150 RX11 yX11_wrong wsX11_wrong) := goodIn_app (goodIn_of _ (by decide +kernel)) ggX11_readDebt_X11_wrong
set_option maxRecDepth 20000 in
theorem ggX11_readDebt_X11_readNumber : GoodIn wsX11_readDebt wsX11_readNumber := goodIn_r _ [12, 1, 13, 14, 15, 16, 17, 6, 18, 19, 20, 21, 22, 23, 24, 25, 26, 27, 28, 29, 30, 31, 32, 33, 34, 35, 36, 37, 38, 39, 40, 41, 42, 43, 44, 45, 46, 47, 48, 49, 50, 51, 52, 53, 54, 55, 56, 57, 58, 59, 60, 61, 62, 63, 64, 65, 66, 67, 68, 69, 70, 71, 72, 73, 74, 75, 76, 77, 78, 79, 80, 81, 82, 83, 84, 85, 86] (by decide +kernel) (by decide +kernel)
set_option maxRecDepth 20000 in
theorem gX11_readDebt_X11_readNumber : GoodIn wsX11_readDebt (wsV RX11 194 RX11 yX11_readNumber wsX11_readNumber) := goodIn_app (goodIn_of _ (by decide +kernel)) ggX11_readDebt_X11_readNumber
set_option maxRecDepth 20000 in
theorem ggX11_isRow_X11_of : GoodIn wsX11_isRow wsX11_of := goodIn_r _ [4, 5, 6, 7, 8, 9, 10, 11, 12, 13, 14, 15, 16, 17, 18, 19, 20, 21, 22, 23, 24, 25, 26, 27, 28, 29, 30, 31, 32, 33, 34, 35, 36, 37, 38, 39, 40, 41, 42, 43, 44, 45, 46, 47, 48, 49, 50, 51, 52, 53] (by decide +kernel) (by decide +kernel)
set_option maxRecDepth 20000 in
theorem gX11_isRow_X11_of : GoodIn wsX11_isRow (va_wsS RX11 202 yX11_of wsX11_of) := goodIn_app (goodIn_of _ (by decide +kernel)) ggX11_isRow_X11_of
set_option maxRecDepth 20000 in
theorem ggX11_isFull_X11_of : GoodIn wsX11_isFull wsX11_of := goodIn_r _ [7, 8, 9, 10, 11, 12, 13, 14, 15, 16, 17, 18, 19, 20, 21, 22, 23, 24, 25, 26, 27, 28, 29, 30, 31, 32, 33, 34, 35, 36, 37, 38, 39, 40, 41, 42, 43, 44, 45, 46, 47, 48, 49, 50, 51, 52, 53, 54, 55, 56] (by decide +kernel) (by decide +kernel)
set_option maxRecDepth 20000 in
theorem gX11_isFull_X11_of : GoodIn wsX11_isFull (va_wsS RX11 202 yX11_of wsX11_of) := goodIn_app (goodIn_of _ (by decide +kernel)) ggX11_isFull_X11_of
set_option maxRecDepth 20000 in
theorem ggX11_readRow_X11_of : GoodIn wsX11_readRow wsX11_of := goodIn_r _ [10, 11, 12, 13, 14, 15, 16, 17, 18, 19, 20, 21, 22, 23, 24, 25, 26, 27, 28, 29, 30, 31, 32, 33, 34, 35, 36, 37, 38, 39, 40, 41, 42, 43, 44, 45, 46, 47, 48, 49, 50, 51, 52, 53, 54, 55, 56, 57, 58, 59] (by decide +kernel) (by decide +kernel)
set_option maxRecDepth 20000 in
theorem gX11_readRow_X11_of : GoodIn wsX11_readRow (va_wsS RX11 202 yX11_of wsX11_of) := goodIn_app (goodIn_of _ (by decide +kernel)) ggX11_readRow_X11_of
set_option maxRecDepth 20000 in
theorem ggX11_readRow_X11_readNumber : GoodIn wsX11_readRow wsX11_readNumber := goodIn_r _ [63, 64, 65, 66, 67, 68, 69, 9, 70, 71, 72, 73, 74, 75, 76, 77, 78, 79, 80, 81, 82, 83, 93, 94, 95, 96, 97, 98, 99, 100, 101, 102, 103, 104, 105, 106, 107, 108, 109, 110, 111, 112, 113, 114, 115, 116, 117, 118, 119, 120, 121, 122, 123, 124, 125, 126, 127, 128, 129, 130, 131, 132, 133, 134, 135, 136, 137, 138, 139, 140, 141, 142, 143, 144, 145, 146, 147] (by decide +kernel) (by decide +kernel)
set_option maxRecDepth 20000 in
theorem gX11_readRow_X11_readNumber : GoodIn wsX11_readRow (wsV RX11 194 RX11 yX11_readNumber wsX11_readNumber) := goodIn_app (goodIn_of _ (by decide +kernel)) ggX11_readRow_X11_readNumber
set_option maxRecDepth 20000 in
theorem ggX11_readRow_X11_readDebt : GoodIn wsX11_readRow wsX11_readDebt := goodIn_r _ [87, 64, 88, 89, 90, 91, 9, 92, 4, 60, 61, 62, 63, 65, 66, 67, 68, 69, 70, 71, 72, 73, 74, 75, 76, 77, 78, 79, 80, 81, 82, 83, 93, 94, 95, 96, 97, 98, 99, 100, 101, 102, 103, 104, 105, 106, 107, 108, 109, 110, 111, 112, 113, 114, 115, 116, 117, 118, 119, 120, 121, 122, 123, 124, 125, 126, 127, 128, 129, 130, 131, 132, 133, 134, 135, 136, 137, 138, 139, 140, 141, 142, 143, 144, 145, 146, 147] (by decide +kernel) (by decide +kernel)
set_option maxRecDepth 20000 in
theorem gX11_readRow_X11_readDebt : GoodIn wsX11_readRow (wsV RX11 210 RX11 yX11_readDebt wsX11_readDebt) := goodIn_app (goodIn_of _ (by decide +kernel)) ggX11_readRow_X11_readDebt
set_option maxRecDepth 20000 in
theorem ggX11_down_X11_may : GoodIn wsX11_down wsX11_may := goodIn_r _ [10, 1, 11, 165, 166, 167, 168, 169, 170, 171, 172, 173, 174, 175, 176, 177, 178, 179, 180, 181, 182, 183, 184, 185, 186, 187, 188, 189, 190, 191, 192, 193, 194, 195, 196, 197, 198, 199, 200, 201, 202, 203, 204, 205, 206, 207, 208, 209, 210, 211, 212, 213, 214, 215, 216, 217, 218, 219] (by decide +kernel) (by decide +kernel)
set_option maxRecDepth 20000 in
theorem gX11_down_X11_may : GoodIn wsX11_down (wsV RX11 213 RX11 yX11_may wsX11_may) := goodIn_app (goodIn_of _ (by decide +kernel)) ggX11_down_X11_may
set_option maxRecDepth 20000 in
theorem ggX11_down_X11_begins : GoodIn wsX11_down wsX11_begins := goodIn_r _ [15, 2, 16, 17, 3, 5, 18, 165, 166, 167, 168, 169, 170, 171, 172, 173, 174, 175, 176, 177, 178, 179, 180, 181, 182, 183, 184, 185, 186, 187, 188, 189, 190, 191, 192, 193, 194, 195, 196, 197, 198, 199, 200, 201, 202, 203, 204, 205, 206, 207, 208, 209, 210, 211, 212, 213, 214, 215, 216, 217, 218, 219] (by decide +kernel) (by decide +kernel)
set_option maxRecDepth 20000 in
theorem gX11_down_X11_begins : GoodIn wsX11_down (wsV RX11 217 RX11 yX11_begins wsX11_begins) := goodIn_app (goodIn_of _ (by decide +kernel)) ggX11_down_X11_begins
set_option maxRecDepth 20000 in
theorem ggX11_down_X11_clears : GoodIn wsX11_down wsX11_clears := goodIn_r _ [22, 23, 4, 24, 25, 165, 166, 167, 168, 169, 170, 171, 172, 173, 174, 175, 176, 177, 178, 179, 180, 181, 182, 183, 184, 185, 186, 187, 188, 189, 190, 191, 192, 193, 194, 195, 196, 197, 198, 199, 200, 201, 202, 203, 204, 205, 206, 207, 208, 209, 210, 211, 212, 213, 214, 215, 216, 217, 218, 219] (by decide +kernel) (by decide +kernel)
set_option maxRecDepth 20000 in
theorem gX11_down_X11_clears : GoodIn wsX11_down (wsV RX11 105 RX11 yX11_clears wsX11_clears) := goodIn_app (goodIn_of _ (by decide +kernel)) ggX11_down_X11_clears
set_option maxRecDepth 20000 in
theorem ggX11_down_X11_fine : GoodIn wsX11_down wsX11_fine := goodIn_r _ [29, 5, 165, 166, 167, 168, 169, 170, 171, 172, 173, 174, 175, 176, 177, 178, 179, 180, 181, 182, 183, 184, 185, 186, 187, 188, 189, 190, 191, 192, 193, 194, 195, 196, 197, 198, 199, 200, 201, 202, 203, 204, 205, 206, 207, 208, 209, 210, 211, 212, 213, 214, 215, 216, 217, 218, 219] (by decide +kernel) (by decide +kernel)
set_option maxRecDepth 20000 in
theorem gX11_down_X11_fine : GoodIn wsX11_down (wsV RX11 143 RX11 yX11_fine wsX11_fine) := goodIn_app (goodIn_of _ (by decide +kernel)) ggX11_down_X11_fine
set_option maxRecDepth 20000 in
theorem ggX11_down_X11_isMore : GoodIn wsX11_down wsX11_isMore := goodIn_r _ [33, 3, 17, 34, 35, 36, 9, 37, 38, 165, 166, 167, 168, 169, 170, 171, 172, 173, 174, 175, 176, 177, 178, 179, 180, 181, 182, 183, 184, 185, 186, 187, 188, 189, 190, 191, 192, 193, 194, 195, 196, 197, 198, 199, 200, 201, 202, 203, 204, 205, 206, 207, 208, 209, 210, 211, 212, 213, 214, 215, 216, 217, 218, 219] (by decide +kernel) (by decide +kernel)
set_option maxRecDepth 20000 in
theorem gX11_down_X11_isMore : GoodIn wsX11_down (wsV RX11 221 RX11 yX11_isMore wsX11_isMore) := goodIn_app (goodIn_of _ (by decide +kernel)) ggX11_down_X11_isMore
set_option maxRecDepth 20000 in
theorem ggX11_down_X11_word : GoodIn wsX11_down wsX11_word := goodIn_r _ [42, 3, 17, 38, 34, 35, 36, 9, 37, 43, 44, 45, 165, 166, 167, 168, 169, 170, 171, 172, 173, 174, 175, 176, 177, 178, 179, 180, 181, 182, 183, 184, 185, 186, 187, 188, 189, 190, 191, 192, 193, 194, 195, 196, 197, 198, 199, 200, 201, 202, 203, 204, 205, 206, 207, 208, 209, 210, 211, 212, 213, 214, 215, 216, 217, 218, 219] (by decide +kernel) (by decide +kernel)
set_option maxRecDepth 20000 in
theorem gX11_down_X11_word : GoodIn wsX11_down (wsV RX11 224 RX11 yX11_word wsX11_word) := goodIn_app (goodIn_of _ (by decide +kernel)) ggX11_down_X11_word
set_option maxRecDepth 20000 in
theorem ggX11_down_X11_isRow : GoodIn wsX11_down wsX11_isRow := goodIn_r _ [48, 49, 50, 9, 51, 52, 53, 54, 55, 56, 57, 58, 59, 60, 61, 62, 63, 64, 65, 66, 67, 68, 69, 70, 71, 72, 73, 74, 75, 76, 77, 78, 79, 80, 81, 82, 83, 84, 85, 86, 87, 88, 89, 90, 91, 92, 93, 94, 95, 96, 97, 98, 99, 100] (by decide +kernel) (by decide +kernel)
set_option maxRecDepth 20000 in
theorem gX11_down_X11_isRow : GoodIn wsX11_down (va_wsS RX11 227 yX11_isRow wsX11_isRow) := goodIn_app (goodIn_of _ (by decide +kernel)) ggX11_down_X11_isRow
set_option maxRecDepth 20000 in
theorem ggX11_down_X11_wrong : GoodIn wsX11_down wsX11_wrong := goodIn_r _ [104, 5, 105, 165, 166, 167, 168, 169, 170, 171, 172, 173, 174, 175, 176, 177, 178, 179, 180, 181, 182, 183, 184, 185, 186, 187, 188, 189, 190, 191, 192, 193, 194, 195, 196, 197, 198, 199, 200, 201, 202, 203, 204, 205, 206, 207, 208, 209, 210, 211, 212, 213, 214, 215, 216, 217, 218, 219] (by decide +kernel) (by decide +kernel)
set_option maxRecDepth 20000 in
theorem gX11_down_X11_wrong : GoodIn wsX11_down (wsV RX11 150 RX11 yX11_wrong wsX11_wrong) := goodIn_app (goodIn_of _ (by decide +kernel)) ggX11_down_X11_wrong
set_option maxRecDepth 20000 in
theorem ggX11_down_X11_isFull : GoodIn wsX11_down wsX11_isFull := goodIn_r _ [109, 23, 4, 24, 49, 50, 9, 51, 52, 53, 54, 55, 56, 57, 58, 59, 60, 61, 62, 63, 64, 65, 66, 67, 68, 69, 70, 71, 72, 73, 74, 75, 76, 77, 78, 79, 80, 81, 82, 83, 84, 85, 86, 87, 88, 89, 90, 91, 92, 93, 94, 95, 96, 97, 98, 99, 100, 165, 166, 167, 168, 169, 170, 171, 172, 173, 174, 175, 176, 177, 178, 179, 180, 181, 182, 183, 184, 185, 186, 187, 188, 189, 190, 191, 192, 193, 194, 195, 196, 197, 198, 199, 200, 201, 202, 203, 204, 205, 206, 207, 208, 209, 210, 211, 212, 213, 214, 215, 216, 217, 218, 219] (by decide +kernel) (by decide +kernel)
set_option maxRecDepth 20000 in
theorem gX11_down_X11_isFull : GoodIn wsX11_down (wsV RX11 230 RX11 yX11_isFull wsX11_isFull) := goodIn_app (goodIn_of _ (by decide +kernel)) ggX11_down_X11_isFull
set_option maxRecDepth 20000 in
theorem ggX11_down_X11_pass : GoodIn wsX11_down wsX11_pass := goodIn_r _ [113, 3, 17, 38, 43, 44, 9, 45, 165, 166, 167, 168, 169, 170, 171, 172, 173, 174, 175, 176, 177, 178, 179, 180, 181, 182, 183, 184, 185, 186, 187, 188, 189, 190, 191, 192, 193, 194, 195, 196, 197, 198, 199, 200, 201, 202, 203, 204, 205, 206, 207, 208, 209, 210, 211, 212, 213, 214, 215, 216, 217, 218, 219] (by decide +kernel) (by decide +kernel)
set_option maxRecDepth 20000 in
theorem gX11_down_X11_pass : GoodIn wsX11_down (wsV RX11 233 RX11 yX11_pass wsX11_pass) := goodIn_app (goodIn_of _ (by decide +kernel)) ggX11_down_X11_pass
set_option maxRecDepth 20000 in
theorem ggX11_down_X11_readRow : GoodIn wsX11_down wsX11_readRow := goodIn_r _ [117, 118, 23, 119, 4, 120, 24, 49, 50, 9, 51, 52, 53, 54, 55, 56, 57, 58, 59, 60, 61, 62, 63, 64, 65, 66, 67, 68, 69, 70, 71, 72, 73, 74, 75, 76, 77, 78, 79, 80, 81, 82, 83, 84, 85, 86, 87, 88, 89, 90, 91, 92, 93, 94, 95, 96, 97, 98, 99, 100, 121, 122, 123, 124, 3, 17, 38, 26, 27, 28, 29, 5, 34, 35, 36, 37, 125, 126, 127, 101, 102, 103, 104, 105, 128, 129, 130, 131, 25, 132, 133, 134, 135, 165, 166, 167, 168, 169, 170, 171, 172, 173, 174, 175, 176, 177, 178, 179, 180, 181, 182, 183, 184, 185, 186, 187, 188, 189, 190, 191, 192, 193, 194, 195, 196, 197, 198, 199, 200, 201, 202, 203, 204, 205, 206, 207, 208, 209, 210, 211, 212, 213, 214, 215, 216, 217, 218, 219] (by decide +kernel) (by decide +kernel)
set_option maxRecDepth 20000 in
theorem gX11_down_X11_readRow : GoodIn wsX11_down (wsV RX11 236 RX11 yX11_readRow wsX11_readRow) := goodIn_app (goodIn_of _ (by decide +kernel)) ggX11_down_X11_readRow
set_option maxRecDepth 20000 in
theorem ggX11_down_X11_sign : GoodIn wsX11_down wsX11_sign := goodIn_r _ [139, 3, 26, 27, 28, 9, 29, 5, 34, 35, 36, 37, 17, 38, 101, 102, 103, 104, 105, 165, 166, 167, 168, 169, 170, 171, 172, 173, 174, 175, 176, 177, 178, 179, 180, 181, 182, 183, 184, 185, 186, 187, 188, 189, 190, 191, 192, 193, 194, 195, 196, 197, 198, 199, 200, 201, 202, 203, 204, 205, 206, 207, 208, 209, 210, 211, 212, 213, 214, 215, 216, 217, 218, 219] (by decide +kernel) (by decide +kernel)
set_option maxRecDepth 20000 in
theorem gX11_down_X11_sign : GoodIn wsX11_down (wsV RX11 239 RX11 yX11_sign wsX11_sign) := goodIn_app (goodIn_of _ (by decide +kernel)) ggX11_down_X11_sign
set_option maxRecDepth 20000 in
theorem ggX11_down_X11_result : GoodIn wsX11_down wsX11_result := goodIn_r _ [143, 5, 16, 105, 26, 27, 28, 9, 29, 165, 166, 167, 168, 169, 170, 171, 172, 173, 174, 175, 176, 177, 178, 179, 180, 181, 182, 183, 184, 185, 186, 187, 188, 189, 190, 191, 192, 193, 194, 195, 196, 197, 198, 199, 200, 201, 202, 203, 204, 205, 206, 207, 208, 209, 210, 211, 212, 213, 214, 215, 216, 217, 218, 219] (by decide +kernel) (by decide +kernel)
set_option maxRecDepth 20000 in
theorem gX11_down_X11_result : GoodIn wsX11_down (wsV RX11 242 RX11 yX11_result wsX11_result) := goodIn_app (goodIn_of _ (by decide +kernel)) ggX11_down_X11_result
set_option maxRecDepth 20000 in
theorem ggX11_down_X11_sets : GoodIn wsX11_down wsX11_sets := goodIn_r _ [147, 23, 148, 4, 149, 24, 150, 118, 151, 119, 152, 120, 153, 154, 155, 156, 157, 158, 159, 160, 25, 161, 162, 163, 9, 164, 165, 166, 167, 168, 169, 170, 171, 172, 173, 174, 175, 176, 177, 178, 179, 180, 181, 182, 183, 184, 185, 186, 187, 188, 189, 190, 191, 192, 193, 194, 195, 196, 197, 198, 199, 200, 201, 202, 203, 204, 205, 206, 207, 208, 209, 210, 211, 212, 213, 214, 215, 216, 217, 218, 219] (by decide +kernel) (by decide +kernel)
set_option maxRecDepth 20000 in
theorem gX11_down_X11_sets : GoodIn wsX11_down (wsV RX11 108 RX11 yX11_sets wsX11_sets) := goodIn_app (goodIn_of _ (by decide +kernel)) ggX11_down_X11_sets
set_option maxRecDepth 20000 in
theorem ggX11_emit_X11_fine : GoodIn wsX11_emit wsX11_fine := goodIn_r _ [8, 9, 10, 11, 12, 13, 14, 15, 16, 17, 18, 19, 20, 21, 22, 23, 24, 25, 26, 27, 28, 29, 30, 31, 32, 33, 34, 35, 36, 37, 38, 39, 40, 41, 42, 43, 44, 45, 46, 47, 48, 49, 50, 51, 52, 53, 54, 55, 56, 57, 58, 59, 60, 61, 62, 63, 64] (by decide +kernel) (by decide +kernel)
set_option maxRecDepth 20000 in
theorem gX11_emit_X11_fine : GoodIn wsX11_emit (wsV RX11 143 RX11 yX11_fine wsX11_fine) := goodIn_app (goodIn_of _ (by decide +kernel)) ggX11_emit_X11_fine
set_option maxRecDepth 20000 in
theorem ggX11_opensOne_X11_fine : GoodIn wsX11_opensOne wsX11_fine := goodIn_r _ [7, 8, 14, 15, 16, 17, 18, 19, 20, 21, 22, 23, 24, 25, 26, 27, 28, 29, 30, 31, 32, 33, 34, 35, 36, 37, 38, 39, 40, 41, 42, 43, 44, 45, 46, 47, 48, 49, 50, 51, 52, 53, 54, 55, 56, 57, 58, 59, 60, 61, 62, 63, 64, 65, 66, 67, 68] (by decide +kernel) (by decide +kernel)
set_option maxRecDepth 20000 in
theorem gX11_opensOne_X11_fine : GoodIn wsX11_opensOne (wsV RX11 143 RX11 yX11_fine wsX11_fine) := goodIn_app (goodIn_of _ (by decide +kernel)) ggX11_opensOne_X11_fine
set_option maxRecDepth 20000 in
theorem ggX11_opensOne_X11_wrong : GoodIn wsX11_opensOne wsX11_wrong := goodIn_r _ [12, 8, 13, 14, 15, 16, 17, 18, 19, 20, 21, 22, 23, 24, 25, 26, 27, 28, 29, 30, 31, 32, 33, 34, 35, 36, 37, 38, 39, 40, 41, 42, 43, 44, 45, 46, 47, 48, 49, 50, 51, 52, 53, 54, 55, 56, 57, 58, 59, 60, 61, 62, 63, 64, 65, 66, 67, 68] (by decide +kernel) (by decide +kernel)
set_option maxRecDepth 20000 in
theorem gX11_opensOne_X11_wrong : GoodIn wsX11_opensOne (wsV RX11 150 RX11 yX11_wrong wsX11_wrong) := goodIn_app (goodIn_of _ (by decide +kernel)) ggX11_opensOne_X11_wrong
set_option maxRecDepth 20000 in
theorem ggX11_readSum_X11_readProduct : GoodIn wsX11_readSum wsX11_readProduct := goodIn_r _ [24, 1, 25, 26, 27, 5, 6, 7, 8, 9, 10, 11, 12, 13, 14, 15, 16, 17, 18, 19, 20, 21, 22, 23, 0, 2, 3, 4, 28, 29, 30, 31, 32, 33, 34, 35, 36, 37, 38, 39, 40, 41, 42, 43, 44, 45, 46, 47, 48, 49, 50, 51, 52, 53, 54, 55, 56, 57, 58, 59, 60, 61, 62, 63, 64, 65, 66, 67, 68, 69, 70, 71, 72, 73, 74, 75, 76, 77, 78, 79, 80, 81, 82, 83, 84, 85, 86, 87, 88, 89, 90, 91, 92, 93, 94, 95, 96, 97, 98, 99, 100, 101, 102, 103, 104, 105, 106, 107, 108, 109, 110, 111, 112, 113, 114, 115, 116, 117, 118, 119, 120, 121, 122, 123, 124, 125, 126, 127, 128, 129, 130, 131, 132, 133, 134, 135, 136, 137, 138, 139, 140, 141, 142, 143, 144, 145, 146, 147, 148, 149, 150, 151, 152, 153, 154, 155, 156, 157, 158, 159, 160, 161, 162, 163, 164, 165, 166, 167, 168, 169, 170, 171, 172, 173, 174, 175, 176, 177, 178] (by decide +kernel) (by decide +kernel)
set_option maxRecDepth 20000 in
theorem gX11_readSum_X11_readProduct : GoodIn wsX11_readSum (wsV RX11 249 RX11 yX11_readProduct wsX11_readProduct) := goodIn_app (goodIn_of _ (by decide +kernel)) ggX11_readSum_X11_readProduct
set_option maxRecDepth 20000 in
theorem ggX11_readSum_X11_fine : GoodIn wsX11_readSum wsX11_fine := goodIn_r _ [9, 10, 124, 125, 126, 127, 128, 129, 130, 131, 132, 133, 134, 135, 136, 137, 138, 139, 140, 141, 142, 143, 144, 145, 146, 147, 148, 149, 150, 151, 152, 153, 154, 155, 156, 157, 158, 159, 160, 161, 162, 163, 164, 165, 166, 167, 168, 169, 170, 171, 172, 173, 174, 175, 176, 177, 178] (by decide +kernel) (by decide +kernel)
set_option maxRecDepth 20000 in
theorem gX11_readSum_X11_fine : GoodIn wsX11_readSum (wsV RX11 143 RX11 yX11_fine wsX11_fine) := goodIn_app (goodIn_of _ (by decide +kernel)) ggX11_readSum_X11_fine
set_option maxRecDepth 20000 in
theorem ggX11_readSum_X11_here : GoodIn wsX11_readSum wsX11_here := goodIn_r _ [14, 1, 15, 16, 124, 125, 126, 127, 128, 129, 130, 131, 132, 133, 134, 135, 136, 137, 138, 139, 140, 141, 142, 143, 144, 145, 146, 147, 148, 149, 150, 151, 152, 153, 154, 155, 156, 157, 158, 159, 160, 161, 162, 163, 164, 165, 166, 167, 168, 169, 170, 171, 172, 173, 174, 175, 176, 177, 178] (by decide +kernel) (by decide +kernel)
set_option maxRecDepth 20000 in
theorem gX11_readSum_X11_here : GoodIn wsX11_readSum (wsV RX11 126 RX11 yX11_here wsX11_here) := goodIn_app (goodIn_of _ (by decide +kernel)) ggX11_readSum_X11_here
set_option maxRecDepth 20000 in
theorem ggX11_readSum_X11_emit : GoodIn wsX11_readSum wsX11_emit := goodIn_r _ [20, 21, 22, 23, 6, 7, 8, 5, 9, 10, 124, 125, 126, 127, 128, 129, 130, 131, 132, 133, 134, 135, 136, 137, 138, 139, 140, 141, 142, 143, 144, 145, 146, 147, 148, 149, 150, 151, 152, 153, 154, 155, 156, 157, 158, 159, 160, 161, 162, 163, 164, 165, 166, 167, 168, 169, 170, 171, 172, 173, 174, 175, 176, 177, 178] (by decide +kernel) (by decide +kernel)
set_option maxRecDepth 20000 in
theorem gX11_readSum_X11_emit : GoodIn wsX11_readSum (wsV RX11 252 RX11 yX11_emit wsX11_emit) := goodIn_app (goodIn_of _ (by decide +kernel)) ggX11_readSum_X11_emit
set_option maxRecDepth 20000 in
theorem ggX11_readProduct_X11_readUnit : GoodIn wsX11_readProduct wsX11_readUnit := goodIn_r _ [46, 29, 1, 6, 7, 8, 5, 9, 10, 11, 12, 13, 14, 15, 16, 30, 31, 32, 33, 34, 35, 36, 37, 38, 43, 44, 45, 39, 40, 41, 42, 47, 48, 49, 50, 51, 52, 53, 17, 18, 19, 20, 21, 22, 23, 54, 55, 56, 57, 58, 59, 60, 61, 62, 63, 64, 65, 66, 67, 68, 69, 70, 71, 72, 73, 74, 75, 76, 77, 78, 79, 80, 81, 82, 83, 84, 85, 86, 87, 88, 89, 90, 91, 92, 93, 94, 95, 96, 97, 98, 99, 100, 101, 102, 103, 104, 105, 106, 107, 108, 109, 110, 111, 112, 113, 114, 115, 116, 117, 118, 119, 120, 121, 122, 123, 0, 2, 3, 4, 24, 25, 26, 27, 28, 124, 125, 126, 127, 128, 129, 130, 131, 132, 133, 134, 135, 136, 137, 138, 139, 140, 141, 142, 143, 144, 145, 146, 147, 148, 149, 150, 151, 152, 153, 154, 155, 156, 157, 158, 159, 160, 161, 162, 163, 164, 165, 166, 167, 168, 169, 170, 171, 172, 173, 174, 175, 176, 177, 178] (by decide +kernel) (by decide +kernel)
set_option maxRecDepth 20000 in
theorem gX11_readProduct_X11_readUnit : GoodIn wsX11_readProduct (wsV RX11 255 RX11 yX11_readUnit wsX11_readUnit) := goodIn_app (goodIn_of _ (by decide +kernel)) ggX11_readProduct_X11_readUnit
set_option maxRecDepth 20000 in
theorem ggX11_readProduct_X11_fine : GoodIn wsX11_readProduct wsX11_fine := goodIn_r _ [9, 10, 124, 125, 126, 127, 128, 129, 130, 131, 132, 133, 134, 135, 136, 137, 138, 139, 140, 141, 142, 143, 144, 145, 146, 147, 148, 149, 150, 151, 152, 153, 154, 155, 156, 157, 158, 159, 160, 161, 162, 163, 164, 165, 166, 167, 168, 169, 170, 171, 172, 173, 174, 175, 176, 177, 178] (by decide +kernel) (by decide +kernel)
set_option maxRecDepth 20000 in
theorem gX11_readProduct_X11_fine : GoodIn wsX11_readProduct (wsV RX11 143 RX11 yX11_fine wsX11_fine) := goodIn_app (goodIn_of _ (by decide +kernel)) ggX11_readProduct_X11_fine
set_option maxRecDepth 20000 in
theorem ggX11_readProduct_X11_here : GoodIn wsX11_readProduct wsX11_here := goodIn_r _ [14, 1, 15, 16, 124, 125, 126, 127, 128, 129, 130, 131, 132, 133, 134, 135, 136, 137, 138, 139, 140, 141, 142, 143, 144, 145, 146, 147, 148, 149, 150, 151, 152, 153, 154, 155, 156, 157, 158, 159, 160, 161, 162, 163, 164, 165, 166, 167, 168, 169, 170, 171, 172, 173, 174, 175, 176, 177, 178] (by decide +kernel) (by decide +kernel)
set_option maxRecDepth 20000 in
theorem gX11_readProduct_X11_here : GoodIn wsX11_readProduct (wsV RX11 126 RX11 yX11_here wsX11_here) := goodIn_app (goodIn_of _ (by decide +kernel)) ggX11_readProduct_X11_here
set_option maxRecDepth 20000 in
theorem ggX11_readProduct_X11_emit : GoodIn wsX11_readProduct wsX11_emit := goodIn_r _ [20, 21, 22, 23, 6, 7, 8, 5, 9, 10, 124, 125, 126, 127, 128, 129, 130, 131, 132, 133, 134, 135, 136, 137, 138, 139, 140, 141, 142, 143, 144, 145, 146, 147, 148, 149, 150, 151, 152, 153, 154, 155, 156, 157, 158, 159, 160, 161, 162, 163, 164, 165, 166, 167, 168, 169, 170, 171, 172, 173, 174, 175, 176, 177, 178] (by decide +kernel) (by decide +kernel)
set_option maxRecDepth 20000 in
theorem gX11_readProduct_X11_emit : GoodIn wsX11_readProduct (wsV RX11 252 RX11 yX11_emit wsX11_emit) := goodIn_app (goodIn_of _ (by decide +kernel)) ggX11_readProduct_X11_emit
set_option maxRecDepth 20000 in
theorem ggX11_readTwo_X11_opensOne : GoodIn wsX11_readTwo wsX11_opensOne := goodIn_r _ [6, 1, 7, 8, 9, 10, 5, 11, 12, 13, 14, 15, 16, 17, 124, 125, 126, 127, 128, 129, 130, 131, 132, 133, 134, 135, 136, 137, 138, 139, 140, 141, 142, 143, 144, 145, 146, 147, 148, 149, 150, 151, 152, 153, 154, 155, 156, 157, 158, 159, 160, 161, 162, 163, 164, 165, 166, 167, 168, 169, 170, 171, 172, 173, 174, 175, 176, 177, 178] (by decide +kernel) (by decide +kernel)
set_option maxRecDepth 20000 in
theorem gX11_readTwo_X11_opensOne : GoodIn wsX11_readTwo (wsV RX11 258 RX11 yX11_opensOne wsX11_opensOne) := goodIn_app (goodIn_of _ (by decide +kernel)) ggX11_readTwo_X11_opensOne
set_option maxRecDepth 20000 in
theorem ggX11_readTwo_X11_sign : GoodIn wsX11_readTwo wsX11_sign := goodIn_r _ [21, 7, 8, 9, 10, 5, 11, 12, 22, 23, 24, 25, 26, 27, 13, 14, 15, 16, 17, 124, 125, 126, 127, 128, 129, 130, 131, 132, 133, 134, 135, 136, 137, 138, 139, 140, 141, 142, 143, 144, 145, 146, 147, 148, 149, 150, 151, 152, 153, 154, 155, 156, 157, 158, 159, 160, 161, 162, 163, 164, 165, 166, 167, 168, 169, 170, 171, 172, 173, 174, 175, 176, 177, 178] (by decide +kernel) (by decide +kernel)
set_option maxRecDepth 20000 in
theorem gX11_readTwo_X11_sign : GoodIn wsX11_readTwo (wsV RX11 239 RX11 yX11_sign wsX11_sign) := goodIn_app (goodIn_of _ (by decide +kernel)) ggX11_readTwo_X11_sign
set_option maxRecDepth 20000 in
theorem ggX11_readTwo_X11_readSum : GoodIn wsX11_readTwo wsX11_readSum := goodIn_r _ [42, 7, 43, 44, 45, 5, 8, 9, 10, 11, 12, 22, 23, 24, 25, 26, 27, 31, 32, 33, 34, 35, 36, 37, 38, 39, 40, 41, 0, 1, 2, 3, 4, 6, 13, 14, 15, 16, 17, 18, 19, 20, 21, 28, 29, 30, 46, 47, 48, 49, 50, 51, 52, 53, 54, 55, 56, 57, 58, 59, 60, 61, 62, 63, 64, 65, 66, 67, 68, 69, 70, 71, 72, 73, 74, 75, 76, 77, 78, 79, 80, 81, 82, 83, 84, 85, 86, 87, 88, 89, 90, 91, 92, 93, 94, 95, 96, 97, 98, 99, 100, 101, 102, 103, 104, 105, 106, 107, 108, 109, 110, 111, 112, 113, 114, 115, 116, 117, 118, 119, 120, 121, 122, 123, 124, 125, 126, 127, 128, 129, 130, 131, 132, 133, 134, 135, 136, 137, 138, 139, 140, 141, 142, 143, 144, 145, 146, 147, 148, 149, 150, 151, 152, 153, 154, 155, 156, 157, 158, 159, 160, 161, 162, 163, 164, 165, 166, 167, 168, 169, 170, 171, 172, 173, 174, 175, 176, 177, 178] (by decide +kernel) (by decide +kernel)
set_option maxRecDepth 20000 in
theorem gX11_readTwo_X11_readSum : GoodIn wsX11_readTwo (wsV RX11 261 RX11 yX11_readSum wsX11_readSum) := goodIn_app (goodIn_of _ (by decide +kernel)) ggX11_readTwo_X11_readSum
set_option maxRecDepth 20000 in
theorem ggX11_readTwo_X11_emit : GoodIn wsX11_readTwo wsX11_emit := goodIn_r _ [34, 35, 36, 37, 8, 9, 10, 5, 11, 12, 124, 125, 126, 127, 128, 129, 130, 131, 132, 133, 134, 135, 136, 137, 138, 139, 140, 141, 142, 143, 144, 145, 146, 147, 148, 149, 150, 151, 152, 153, 154, 155, 156, 157, 158, 159, 160, 161, 162, 163, 164, 165, 166, 167, 168, 169, 170, 171, 172, 173, 174, 175, 176, 177, 178] (by decide +kernel) (by decide +kernel)
set_option maxRecDepth 20000 in
theorem gX11_readTwo_X11_emit : GoodIn wsX11_readTwo (wsV RX11 252 RX11 yX11_emit wsX11_emit) := goodIn_app (goodIn_of _ (by decide +kernel)) ggX11_readTwo_X11_emit
set_option maxRecDepth 20000 in
theorem ggX11_factHere_X11_word : GoodIn wsX11_factHere wsX11_word := goodIn_r _ [5, 6, 7, 8, 9, 10, 11, 4, 12, 13, 14, 15, 68, 69, 70, 71, 72, 73, 74, 75, 76, 77, 78, 79, 80, 81, 82, 83, 84, 85, 86, 87, 88, 89, 90, 91, 92, 93, 94, 95, 96, 97, 98, 99, 100, 101, 102, 103, 104, 105, 106, 107, 108, 109, 110, 111, 112, 113, 114, 115, 116, 117, 118, 119, 120, 121, 122] (by decide +kernel) (by decide +kernel)
set_option maxRecDepth 20000 in
theorem gX11_factHere_X11_word : GoodIn wsX11_factHere (wsV RX11 224 RX11 yX11_word wsX11_word) := goodIn_app (goodIn_of _ (by decide +kernel)) ggX11_factHere_X11_word
set_option maxRecDepth 20000 in
theorem ggX11_factHere_X11_of : GoodIn wsX11_factHere wsX11_of := goodIn_r _ [18, 19, 20, 21, 22, 23, 24, 25, 26, 27, 28, 29, 30, 31, 32, 33, 34, 35, 36, 37, 38, 39, 40, 41, 42, 43, 44, 45, 46, 47, 48, 49, 50, 51, 52, 53, 54, 55, 56, 57, 58, 59, 60, 61, 62, 63, 64, 65, 66, 67] (by decide +kernel) (by decide +kernel)
set_option maxRecDepth 20000 in
theorem gX11_factHere_X11_of : GoodIn wsX11_factHere (va_wsS RX11 202 yX11_of wsX11_of) := goodIn_app (goodIn_of _ (by decide +kernel)) ggX11_factHere_X11_of
set_option maxRecDepth 20000 in
theorem ggX11_readUnit_X11_fine : GoodIn wsX11_readUnit wsX11_fine := goodIn_r _ [7, 8, 124, 125, 126, 127, 128, 129, 130, 131, 132, 133, 134, 135, 136, 137, 138, 139, 140, 141, 142, 143, 144, 145, 146, 147, 148, 149, 150, 151, 152, 153, 154, 155, 156, 157, 158, 159, 160, 161, 162, 163, 164, 165, 166, 167, 168, 169, 170, 171, 172, 173, 174, 175, 176, 177, 178] (by decide +kernel) (by decide +kernel)
set_option maxRecDepth 20000 in
theorem gX11_readUnit_X11_fine : GoodIn wsX11_readUnit (wsV RX11 143 RX11 yX11_fine wsX11_fine) := goodIn_app (goodIn_of _ (by decide +kernel)) ggX11_readUnit_X11_fine
set_option maxRecDepth 20000 in
theorem ggX11_readUnit_X11_here : GoodIn wsX11_readUnit wsX11_here := goodIn_r _ [12, 2, 13, 14, 124, 125, 126, 127, 128, 129, 130, 131, 132, 133, 134, 135, 136, 137, 138, 139, 140, 141, 142, 143, 144, 145, 146, 147, 148, 149, 150, 151, 152, 153, 154, 155, 156, 157, 158, 159, 160, 161, 162, 163, 164, 165, 166, 167, 168, 169, 170, 171, 172, 173, 174, 175, 176, 177, 178] (by decide +kernel) (by decide +kernel)
set_option maxRecDepth 20000 in
theorem gX11_readUnit_X11_here : GoodIn wsX11_readUnit (wsV RX11 126 RX11 yX11_here wsX11_here) := goodIn_app (goodIn_of _ (by decide +kernel)) ggX11_readUnit_X11_here
set_option maxRecDepth 20000 in
theorem ggX11_readUnit_X11_opensOne : GoodIn wsX11_readUnit wsX11_opensOne := goodIn_r _ [18, 1, 2, 3, 4, 5, 6, 7, 8, 19, 20, 21, 22, 23, 124, 125, 126, 127, 128, 129, 130, 131, 132, 133, 134, 135, 136, 137, 138, 139, 140, 141, 142, 143, 144, 145, 146, 147, 148, 149, 150, 151, 152, 153, 154, 155, 156, 157, 158, 159, 160, 161, 162, 163, 164, 165, 166, 167, 168, 169, 170, 171, 172, 173, 174, 175, 176, 177, 178] (by decide +kernel) (by decide +kernel)
set_option maxRecDepth 20000 in
theorem gX11_readUnit_X11_opensOne : GoodIn wsX11_readUnit (wsV RX11 258 RX11 yX11_opensOne wsX11_opensOne) := goodIn_app (goodIn_of _ (by decide +kernel)) ggX11_readUnit_X11_opensOne
set_option maxRecDepth 20000 in
theorem ggX11_readUnit_X11_readSum : GoodIn wsX11_readUnit wsX11_readSum := goodIn_r _ [119, 2, 120, 121, 122, 6, 3, 4, 5, 7, 8, 9, 10, 11, 12, 13, 14, 38, 39, 40, 41, 42, 43, 44, 115, 116, 117, 118, 123, 1, 15, 16, 17, 18, 19, 20, 21, 22, 23, 27, 28, 29, 30, 24, 25, 26, 0, 31, 32, 33, 34, 35, 36, 37, 45, 46, 47, 48, 49, 50, 51, 52, 53, 54, 55, 56, 57, 58, 59, 60, 61, 62, 63, 64, 65, 66, 67, 68, 69, 70, 71, 72, 73, 74, 75, 76, 77, 78, 79, 80, 81, 82, 83, 84, 85, 86, 87, 88, 89, 90, 91, 92, 93, 94, 95, 96, 97, 98, 99, 100, 101, 102, 103, 104, 105, 106, 107, 108, 109, 110, 111, 112, 113, 114, 124, 125, 126, 127, 128, 129, 130, 131, 132, 133, 134, 135, 136, 137, 138, 139, 140, 141, 142, 143, 144, 145, 146, 147, 148, 149, 150, 151, 152, 153, 154, 155, 156, 157, 158, 159, 160, 161, 162, 163, 164, 165, 166, 167, 168, 169, 170, 171, 172, 173, 174, 175, 176, 177, 178] (by decide +kernel) (by decide +kernel)
set_option maxRecDepth 20000 in
theorem gX11_readUnit_X11_readSum : GoodIn wsX11_readUnit (wsV RX11 261 RX11 yX11_readSum wsX11_readSum) := goodIn_app (goodIn_of _ (by decide +kernel)) ggX11_readUnit_X11_readSum
set_option maxRecDepth 20000 in
theorem ggX11_readUnit_X11_sign : GoodIn wsX11_readUnit wsX11_sign := goodIn_r _ [30, 2, 3, 4, 5, 6, 7, 8, 9, 10, 11, 12, 13, 14, 19, 20, 21, 22, 23, 124, 125, 126, 127, 128, 129, 130, 131, 132, 133, 134, 135, 136, 137, 138, 139, 140, 141, 142, 143, 144, 145, 146, 147, 148, 149, 150, 151, 152, 153, 154, 155, 156, 157, 158, 159, 160, 161, 162, 163, 164, 165, 166, 167, 168, 169, 170, 171, 172, 173, 174, 175, 176, 177, 178] (by decide +kernel) (by decide +kernel)
set_option maxRecDepth 20000 in
theorem gX11_readUnit_X11_sign : GoodIn wsX11_readUnit (wsV RX11 239 RX11 yX11_sign wsX11_sign) := goodIn_app (goodIn_of _ (by decide +kernel)) ggX11_readUnit_X11_sign
set_option maxRecDepth 20000 in
theorem ggX11_readUnit_X11_isDigit : GoodIn wsX11_readUnit wsX11_isDigit := goodIn_r _ [33] (by decide +kernel) (by decide +kernel)
set_option maxRecDepth 20000 in
theorem gX11_readUnit_X11_isDigit : GoodIn wsX11_readUnit (va_wsS RX11 147 yX11_isDigit wsX11_isDigit) := goodIn_app (goodIn_of _ (by decide +kernel)) ggX11_readUnit_X11_isDigit
set_option maxRecDepth 20000 in
theorem ggX11_readUnit_X11_readNumber : GoodIn wsX11_readUnit wsX11_readNumber := goodIn_r _ [37, 2, 13, 14, 3, 4, 5, 6, 7, 8, 9, 10, 11, 12, 31, 32, 33, 19, 20, 21, 22, 23, 124, 125, 126, 127, 128, 129, 130, 131, 132, 133, 134, 135, 136, 137, 138, 139, 140, 141, 142, 143, 144, 145, 146, 147, 148, 149, 150, 151, 152, 153, 154, 155, 156, 157, 158, 159, 160, 161, 162, 163, 164, 165, 166, 167, 168, 169, 170, 171, 172, 173, 174, 175, 176, 177, 178] (by decide +kernel) (by decide +kernel)
set_option maxRecDepth 20000 in
theorem gX11_readUnit_X11_readNumber : GoodIn wsX11_readUnit (wsV RX11 194 RX11 yX11_readNumber wsX11_readNumber) := goodIn_app (goodIn_of _ (by decide +kernel)) ggX11_readUnit_X11_readNumber
set_option maxRecDepth 20000 in
theorem ggX11_readUnit_X11_emit : GoodIn wsX11_readUnit wsX11_emit := goodIn_r _ [41, 42, 43, 44, 3, 4, 5, 6, 7, 8, 124, 125, 126, 127, 128, 129, 130, 131, 132, 133, 134, 135, 136, 137, 138, 139, 140, 141, 142, 143, 144, 145, 146, 147, 148, 149, 150, 151, 152, 153, 154, 155, 156, 157, 158, 159, 160, 161, 162, 163, 164, 165, 166, 167, 168, 169, 170, 171, 172, 173, 174, 175, 176, 177, 178] (by decide +kernel) (by decide +kernel)
set_option maxRecDepth 20000 in
theorem gX11_readUnit_X11_emit : GoodIn wsX11_readUnit (wsV RX11 252 RX11 yX11_emit wsX11_emit) := goodIn_app (goodIn_of _ (by decide +kernel)) ggX11_readUnit_X11_emit
set_option maxRecDepth 20000 in
theorem ggX11_readUnit_X11_word : GoodIn wsX11_readUnit wsX11_word := goodIn_r _ [48, 2, 13, 14, 9, 10, 11, 6, 12, 49, 50, 51, 124, 125, 126, 127, 128, 129, 130, 131, 132, 133, 134, 135, 136, 137, 138, 139, 140, 141, 142, 143, 144, 145, 146, 147, 148, 149, 150, 151, 152, 153, 154, 155, 156, 157, 158, 159, 160, 161, 162, 163, 164, 165, 166, 167, 168, 169, 170, 171, 172, 173, 174, 175, 176, 177, 178] (by decide +kernel) (by decide +kernel)
set_option maxRecDepth 20000 in
theorem gX11_readUnit_X11_word : GoodIn wsX11_readUnit (wsV RX11 224 RX11 yX11_word wsX11_word) := goodIn_app (goodIn_of _ (by decide +kernel)) ggX11_readUnit_X11_word
set_option maxRecDepth 20000 in
theorem ggX11_readUnit_X11_of : GoodIn wsX11_readUnit wsX11_of := goodIn_r _ [54, 55, 56, 57, 58, 59, 60, 61, 62, 63, 64, 65, 66, 67, 68, 69, 70, 71, 72, 73, 74, 75, 76, 77, 78, 79, 80, 81, 82, 83, 84, 85, 86, 87, 88, 89, 90, 91, 92, 93, 94, 95, 96, 97, 98, 99, 100, 101, 102, 103] (by decide +kernel) (by decide +kernel)
set_option maxRecDepth 20000 in
theorem gX11_readUnit_X11_of : GoodIn wsX11_readUnit (va_wsS RX11 202 yX11_of wsX11_of) := goodIn_app (goodIn_of _ (by decide +kernel)) ggX11_readUnit_X11_of
set_option maxRecDepth 20000 in
theorem ggX11_readUnit_X11_readTwo : GoodIn wsX11_readUnit wsX11_readTwo := goodIn_r _ [123, 1, 15, 16, 17, 6, 18, 2, 3, 4, 5, 7, 8, 19, 20, 21, 22, 23, 27, 28, 29, 30, 9, 10, 11, 12, 13, 14, 24, 25, 26, 38, 39, 40, 41, 42, 43, 44, 115, 116, 117, 118, 119, 120, 121, 122, 0, 31, 32, 33, 34, 35, 36, 37, 45, 46, 47, 48, 49, 50, 51, 52, 53, 54, 55, 56, 57, 58, 59, 60, 61, 62, 63, 64, 65, 66, 67, 68, 69, 70, 71, 72, 73, 74, 75, 76, 77, 78, 79, 80, 81, 82, 83, 84, 85, 86, 87, 88, 89, 90, 91, 92, 93, 94, 95, 96, 97, 98, 99, 100, 101, 102, 103, 104, 105, 106, 107, 108, 109, 110, 111, 112, 113, 114, 124, 125, 126, 127, 128, 129, 130, 131, 132, 133, 134, 135, 136, 137, 138, 139, 140, 141, 142, 143, 144, 145, 146, 147, 148, 149, 150, 151, 152, 153, 154, 155, 156, 157, 158, 159, 160, 161, 162, 163, 164, 165, 166, 167, 168, 169, 170, 171, 172, 173, 174, 175, 176, 177, 178] (by decide +kernel) (by decide +kernel)
set_option maxRecDepth 20000 in
theorem gX11_readUnit_X11_readTwo : GoodIn wsX11_readUnit (wsV RX11 280 RX11 yX11_readTwo wsX11_readTwo) := goodIn_app (goodIn_of _ (by decide +kernel)) ggX11_readUnit_X11_readTwo
set_option maxRecDepth 20000 in
theorem ggX11_readUnit_X11_factHere : GoodIn wsX11_readUnit wsX11_factHere := goodIn_r _ [110, 45, 46, 47, 6, 48, 2, 13, 14, 9, 10, 11, 12, 49, 50, 51, 52, 53, 54, 55, 56, 57, 58, 59, 60, 61, 62, 63, 64, 65, 66, 67, 68, 69, 70, 71, 72, 73, 74, 75, 76, 77, 78, 79, 80, 81, 82, 83, 84, 85, 86, 87, 88, 89, 90, 91, 92, 93, 94, 95, 96, 97, 98, 99, 100, 101, 102, 103, 124, 125, 126, 127, 128, 129, 130, 131, 132, 133, 134, 135, 136, 137, 138, 139, 140, 141, 142, 143, 144, 145, 146, 147, 148, 149, 150, 151, 152, 153, 154, 155, 156, 157, 158, 159, 160, 161, 162, 163, 164, 165, 166, 167, 168, 169, 170, 171, 172, 173, 174, 175, 176, 177, 178] (by decide +kernel) (by decide +kernel)
set_option maxRecDepth 20000 in
theorem gX11_readUnit_X11_factHere : GoodIn wsX11_readUnit (wsV RX11 285 RX11 yX11_factHere wsX11_factHere) := goodIn_app (goodIn_of _ (by decide +kernel)) ggX11_readUnit_X11_factHere
set_option maxRecDepth 20000 in
theorem ggX11_readUnit_X11_wrong : GoodIn wsX11_readUnit wsX11_wrong := goodIn_r _ [22, 8, 23, 124, 125, 126, 127, 128, 129, 130, 131, 132, 133, 134, 135, 136, 137, 138, 139, 140, 141, 142, 143, 144, 145, 146, 147, 148, 149, 150, 151, 152, 153, 154, 155, 156, 157, 158, 159, 160, 161, 162, 163, 164, 165, 166, 167, 168, 169, 170, 171, 172, 173, 174, 175, 176, 177, 178] (by decide +kernel) (by decide +kernel)
set_option maxRecDepth 20000 in
theorem gX11_readUnit_X11_wrong : GoodIn wsX11_readUnit (wsV RX11 150 RX11 yX11_wrong wsX11_wrong) := goodIn_app (goodIn_of _ (by decide +kernel)) ggX11_readUnit_X11_wrong
set_option maxRecDepth 20000 in
theorem ggX11_readUnit_X11_pass : GoodIn wsX11_readUnit wsX11_pass := goodIn_r _ [114, 2, 13, 14, 49, 50, 6, 51, 124, 125, 126, 127, 128, 129, 130, 131, 132, 133, 134, 135, 136, 137, 138, 139, 140, 141, 142, 143, 144, 145, 146, 147, 148, 149, 150, 151, 152, 153, 154, 155, 156, 157, 158, 159, 160, 161, 162, 163, 164, 165, 166, 167, 168, 169, 170, 171, 172, 173, 174, 175, 176, 177, 178] (by decide +kernel) (by decide +kernel)
set_option maxRecDepth 20000 in
theorem gX11_readUnit_X11_pass : GoodIn wsX11_readUnit (wsV RX11 233 RX11 yX11_pass wsX11_pass) := goodIn_app (goodIn_of _ (by decide +kernel)) ggX11_readUnit_X11_pass
set_option maxRecDepth 20000 in
theorem ggX11_law_X11_may : GoodIn wsX11_law wsX11_may := goodIn_r _ [15, 1, 16, 152, 153, 154, 155, 156, 157, 158, 159, 160, 161, 162, 163, 164, 165, 166, 167, 168, 169, 170, 171, 172, 173, 174, 175, 176, 177, 178, 179, 180, 181, 182, 183, 184, 185, 186, 187, 188, 189, 190, 191, 192, 193, 194, 195, 196, 197, 198, 199, 200, 201, 202, 203, 204, 205, 206] (by decide +kernel) (by decide +kernel)
set_option maxRecDepth 20000 in
theorem gX11_law_X11_may : GoodIn wsX11_law (wsV RX11 213 RX11 yX11_may wsX11_may) := goodIn_app (goodIn_of _ (by decide +kernel)) ggX11_law_X11_may
set_option maxRecDepth 20000 in
theorem ggX11_law_X11_begins : GoodIn wsX11_law wsX11_begins := goodIn_r _ [20, 2, 21, 22, 4, 5, 23, 152, 153, 154, 155, 156, 157, 158, 159, 160, 161, 162, 163, 164, 165, 166, 167, 168, 169, 170, 171, 172, 173, 174, 175, 176, 177, 178, 179, 180, 181, 182, 183, 184, 185, 186, 187, 188, 189, 190, 191, 192, 193, 194, 195, 196, 197, 198, 199, 200, 201, 202, 203, 204, 205, 206] (by decide +kernel) (by decide +kernel)
set_option maxRecDepth 20000 in
theorem gX11_law_X11_begins : GoodIn wsX11_law (wsV RX11 217 RX11 yX11_begins wsX11_begins) := goodIn_app (goodIn_of _ (by decide +kernel)) ggX11_law_X11_begins
set_option maxRecDepth 20000 in
theorem ggX11_law_X11_readSum : GoodIn wsX11_law wsX11_readSum := goodIn_r _ [27, 4, 28, 29, 30, 14, 31, 32, 33, 34, 5, 35, 36, 37, 38, 22, 39, 40, 41, 42, 43, 7, 3, 9, 44, 45, 46, 47, 48, 23, 49, 50, 51, 52, 53, 54, 55, 56, 57, 58, 59, 60, 61, 24, 25, 26, 62, 63, 64, 65, 66, 67, 68, 69, 70, 71, 72, 73, 74, 75, 76, 77, 78, 79, 80, 81, 82, 83, 84, 85, 86, 87, 88, 89, 90, 91, 92, 93, 94, 95, 96, 97, 98, 99, 100, 101, 102, 103, 104, 105, 106, 107, 108, 109, 110, 111, 112, 113, 114, 115, 116, 117, 118, 119, 120, 121, 122, 123, 124, 125, 126, 127, 128, 129, 130, 131, 132, 133, 134, 135, 136, 137, 138, 139, 152, 153, 154, 155, 156, 157, 158, 159, 160, 161, 162, 163, 164, 165, 166, 167, 168, 169, 170, 171, 172, 173, 174, 175, 176, 177, 178, 179, 180, 181, 182, 183, 184, 185, 186, 187, 188, 189, 190, 191, 192, 193, 194, 195, 196, 197, 198, 199, 200, 201, 202, 203, 204, 205, 206] (by decide +kernel) (by decide +kernel)
set_option maxRecDepth 20000 in
theorem gX11_law_X11_readSum : GoodIn wsX11_law (wsV RX11 261 RX11 yX11_readSum wsX11_readSum) := goodIn_app (goodIn_of _ (by decide +kernel)) ggX11_law_X11_readSum
set_option maxRecDepth 20000 in
theorem ggX11_law_X11_fine : GoodIn wsX11_law wsX11_fine := goodIn_r _ [34, 5, 152, 153, 154, 155, 156, 157, 158, 159, 160, 161, 162, 163, 164, 165, 166, 167, 168, 169, 170, 171, 172, 173, 174, 175, 176, 177, 178, 179, 180, 181, 182, 183, 184, 185, 186, 187, 188, 189, 190, 191, 192, 193, 194, 195, 196, 197, 198, 199, 200, 201, 202, 203, 204, 205, 206] (by decide +kernel) (by decide +kernel)
set_option maxRecDepth 20000 in
theorem gX11_law_X11_fine : GoodIn wsX11_law (wsV RX11 143 RX11 yX11_fine wsX11_fine) := goodIn_app (goodIn_of _ (by decide +kernel)) ggX11_law_X11_fine
set_option maxRecDepth 20000 in
theorem ggX11_law_X11_isMore : GoodIn wsX11_law wsX11_isMore := goodIn_r _ [143, 4, 22, 35, 36, 37, 14, 38, 39, 152, 153, 154, 155, 156, 157, 158, 159, 160, 161, 162, 163, 164, 165, 166, 167, 168, 169, 170, 171, 172, 173, 174, 175, 176, 177, 178, 179, 180, 181, 182, 183, 184, 185, 186, 187, 188, 189, 190, 191, 192, 193, 194, 195, 196, 197, 198, 199, 200, 201, 202, 203, 204, 205, 206] (by decide +kernel) (by decide +kernel)
set_option maxRecDepth 20000 in
theorem gX11_law_X11_isMore : GoodIn wsX11_law (wsV RX11 221 RX11 yX11_isMore wsX11_isMore) := goodIn_app (goodIn_of _ (by decide +kernel)) ggX11_law_X11_isMore
set_option maxRecDepth 20000 in
theorem ggX11_law_X11_wrong : GoodIn wsX11_law wsX11_wrong := goodIn_r _ [56, 5, 57, 152, 153, 154, 155, 156, 157, 158, 159, 160, 161, 162, 163, 164, 165, 166, 167, 168, 169, 170, 171, 172, 173, 174, 175, 176, 177, 178, 179, 180, 181, 182, 183, 184, 185, 186, 187, 188, 189, 190, 191, 192, 193, 194, 195, 196, 197, 198, 199, 200, 201, 202, 203, 204, 205, 206] (by decide +kernel) (by decide +kernel)
set_option maxRecDepth 20000 in
theorem gX11_law_X11_wrong : GoodIn wsX11_law (wsV RX11 150 RX11 yX11_wrong wsX11_wrong) := goodIn_app (goodIn_of _ (by decide +kernel)) ggX11_law_X11_wrong
set_option maxRecDepth 20000 in
theorem ggX11_law_X11_result : GoodIn wsX11_law wsX11_result := goodIn_r _ [147, 5, 21, 57, 31, 32, 33, 14, 34, 152, 153, 154, 155, 156, 157, 158, 159, 160, 161, 162, 163, 164, 165, 166, 167, 168, 169, 170, 171, 172, 173, 174, 175, 176, 177, 178, 179, 180, 181, 182, 183, 184, 185, 186, 187, 188, 189, 190, 191, 192, 193, 194, 195, 196, 197, 198, 199, 200, 201, 202, 203, 204, 205, 206] (by decide +kernel) (by decide +kernel)
set_option maxRecDepth 20000 in
theorem gX11_law_X11_result : GoodIn wsX11_law (wsV RX11 242 RX11 yX11_result wsX11_result) := goodIn_app (goodIn_of _ (by decide +kernel)) ggX11_law_X11_result
set_option maxRecDepth 20000 in
theorem ggX11_law_X11_copies : GoodIn wsX11_law wsX11_copies := goodIn_r _ [151] (by decide +kernel) (by decide +kernel)
set_option maxRecDepth 20000 in
theorem gX11_law_X11_copies : GoodIn wsX11_law (wsV RX11 175 RX11 yX11_copies wsX11_copies) := goodIn_app (goodIn_of _ (by decide +kernel)) ggX11_law_X11_copies
set_option maxRecDepth 20000 in
theorem ggX11_valueNow_X11_both : GoodIn wsX11_valueNow wsX11_both := goodIn_r _ [9] (by decide +kernel) (by decide +kernel)
set_option maxRecDepth 20000 in
theorem gX11_valueNow_X11_both : GoodIn wsX11_valueNow (va_wsS RX11 288 yX11_both wsX11_both) := goodIn_app (goodIn_of _ (by decide +kernel)) ggX11_valueNow_X11_both
set_option maxRecDepth 20000 in
theorem ggX11_leapNow_X11_valueNow : GoodIn wsX11_leapNow wsX11_valueNow := goodIn_r _ [7, 1, 8, 9, 10, 2, 11, 12, 6, 13, 14, 15, 16, 17, 18, 19, 20, 21, 22, 23, 24, 25, 26, 27, 28, 29, 30, 31, 32, 33, 34, 35, 36, 37, 38, 39, 40, 41, 42, 43, 44, 45, 46, 47, 48, 49, 50, 51, 52, 53, 54, 55, 56, 57, 58, 59, 60, 61, 62, 63, 64, 65, 66, 67, 68] (by decide +kernel) (by decide +kernel)
set_option maxRecDepth 20000 in
theorem gX11_leapNow_X11_valueNow : GoodIn wsX11_leapNow (wsV RX11 292 RX11 yX11_valueNow wsX11_valueNow) := goodIn_app (goodIn_of _ (by decide +kernel)) ggX11_leapNow_X11_valueNow
set_option maxRecDepth 20000 in
theorem ggX11_tellsStep_X11_fine : GoodIn wsX11_tellsStep wsX11_fine := goodIn_r _ [7, 8, 9, 10, 11, 12, 13, 14, 15, 16, 17, 18, 19, 20, 21, 22, 23, 24, 25, 26, 27, 28, 29, 30, 31, 32, 33, 34, 35, 36, 37, 38, 39, 40, 41, 42, 43, 44, 45, 46, 47, 48, 49, 50, 51, 52, 53, 54, 55, 56, 57, 58, 59, 60, 61, 62, 63] (by decide +kernel) (by decide +kernel)
set_option maxRecDepth 20000 in
theorem gX11_tellsStep_X11_fine : GoodIn wsX11_tellsStep (wsV RX11 143 RX11 yX11_fine wsX11_fine) := goodIn_app (goodIn_of _ (by decide +kernel)) ggX11_tellsStep_X11_fine
set_option maxRecDepth 20000 in
theorem ggX11_readLiving_X11_readNumber : GoodIn wsX11_readLiving wsX11_readNumber := goodIn_r _ [6, 7, 8, 9, 10, 11, 12, 5, 13, 14, 15, 16, 17, 18, 19, 20, 21, 22, 23, 24, 25, 26, 27, 28, 29, 30, 31, 32, 33, 34, 35, 36, 37, 38, 39, 40, 41, 42, 43, 44, 45, 46, 47, 48, 49, 50, 51, 52, 53, 54, 55, 56, 57, 58, 59, 60, 61, 62, 63, 64, 65, 66, 67, 68, 69, 70, 71, 72, 73, 74, 75, 76, 77, 78, 79, 80, 81] (by decide +kernel) (by decide +kernel)
set_option maxRecDepth 20000 in
theorem gX11_readLiving_X11_readNumber : GoodIn wsX11_readLiving (wsV RX11 194 RX11 yX11_readNumber wsX11_readNumber) := goodIn_app (goodIn_of _ (by decide +kernel)) ggX11_readLiving_X11_readNumber
set_option maxRecDepth 20000 in
theorem ggX11_readStep_X11_word : GoodIn wsX11_readStep wsX11_word := goodIn_r _ [10, 5, 11, 12, 13, 14, 15, 9, 16, 17, 18, 19, 113, 114, 115, 116, 117, 118, 119, 120, 121, 122, 123, 124, 125, 126, 127, 128, 129, 130, 131, 132, 133, 134, 135, 136, 137, 138, 139, 140, 141, 142, 143, 144, 145, 146, 147, 148, 149, 150, 151, 152, 153, 154, 155, 156, 157, 158, 159, 160, 161, 162, 163, 164, 165, 166, 167] (by decide +kernel) (by decide +kernel)
set_option maxRecDepth 20000 in
theorem gX11_readStep_X11_word : GoodIn wsX11_readStep (wsV RX11 224 RX11 yX11_word wsX11_word) := goodIn_app (goodIn_of _ (by decide +kernel)) ggX11_readStep_X11_word
set_option maxRecDepth 20000 in
theorem ggX11_readStep_X11_of : GoodIn wsX11_readStep wsX11_of := goodIn_r _ [22, 23, 24, 25, 26, 27, 28, 29, 30, 31, 32, 33, 34, 35, 36, 37, 38, 39, 40, 41, 42, 43, 44, 45, 46, 47, 48, 49, 50, 51, 52, 53, 54, 55, 56, 57, 58, 59, 60, 61, 62, 63, 64, 65, 66, 67, 68, 69, 70, 71] (by decide +kernel) (by decide +kernel)
set_option maxRecDepth 20000 in
theorem gX11_readStep_X11_of : GoodIn wsX11_readStep (va_wsS RX11 202 yX11_of wsX11_of) := goodIn_app (goodIn_of _ (by decide +kernel)) ggX11_readStep_X11_of
set_option maxRecDepth 20000 in
theorem ggX11_readStep_X11_pass : GoodIn wsX11_readStep wsX11_pass := goodIn_r _ [75, 5, 11, 12, 17, 18, 9, 19, 113, 114, 115, 116, 117, 118, 119, 120, 121, 122, 123, 124, 125, 126, 127, 128, 129, 130, 131, 132, 133, 134, 135, 136, 137, 138, 139, 140, 141, 142, 143, 144, 145, 146, 147, 148, 149, 150, 151, 152, 153, 154, 155, 156, 157, 158, 159, 160, 161, 162, 163, 164, 165, 166, 167] (by decide +kernel) (by decide +kernel)
set_option maxRecDepth 20000 in
theorem gX11_readStep_X11_pass : GoodIn wsX11_readStep (wsV RX11 233 RX11 yX11_pass wsX11_pass) := goodIn_app (goodIn_of _ (by decide +kernel)) ggX11_readStep_X11_pass
set_option maxRecDepth 20000 in
theorem ggX11_readStep_X11_tellsStep : GoodIn wsX11_readStep wsX11_tellsStep := goodIn_r _ [79, 4, 2, 80, 81, 82, 9, 83, 84, 113, 114, 115, 116, 117, 118, 119, 120, 121, 122, 123, 124, 125, 126, 127, 128, 129, 130, 131, 132, 133, 134, 135, 136, 137, 138, 139, 140, 141, 142, 143, 144, 145, 146, 147, 148, 149, 150, 151, 152, 153, 154, 155, 156, 157, 158, 159, 160, 161, 162, 163, 164, 165, 166, 167] (by decide +kernel) (by decide +kernel)
set_option maxRecDepth 20000 in
theorem gX11_readStep_X11_tellsStep : GoodIn wsX11_readStep (wsV RX11 298 RX11 yX11_tellsStep wsX11_tellsStep) := goodIn_app (goodIn_of _ (by decide +kernel)) ggX11_readStep_X11_tellsStep
set_option maxRecDepth 20000 in
theorem ggX11_readStep_X11_readLiving : GoodIn wsX11_readStep wsX11_readLiving := goodIn_r _ [88, 89, 90, 91, 92, 9, 93, 5, 11, 12, 80, 81, 82, 83, 84, 13, 14, 15, 16, 94, 95, 96, 97, 98, 99, 100, 101, 113, 114, 115, 116, 117, 118, 119, 120, 121, 122, 123, 124, 125, 126, 127, 128, 129, 130, 131, 132, 133, 134, 135, 136, 137, 138, 139, 140, 141, 142, 143, 144, 145, 146, 147, 148, 149, 150, 151, 152, 153, 154, 155, 156, 157, 158, 159, 160, 161, 162, 163, 164, 165, 166, 167] (by decide +kernel) (by decide +kernel)
set_option maxRecDepth 20000 in
theorem gX11_readStep_X11_readLiving : GoodIn wsX11_readStep (wsV RX11 304 RX11 yX11_readLiving wsX11_readLiving) := goodIn_app (goodIn_of _ (by decide +kernel)) ggX11_readStep_X11_readLiving
set_option maxRecDepth 20000 in
theorem ggX11_readStep_X11_readNumber : GoodIn wsX11_readStep wsX11_readNumber := goodIn_r _ [93, 5, 11, 12, 80, 81, 82, 9, 83, 84, 13, 14, 15, 16, 94, 95, 96, 97, 98, 99, 100, 101, 113, 114, 115, 116, 117, 118, 119, 120, 121, 122, 123, 124, 125, 126, 127, 128, 129, 130, 131, 132, 133, 134, 135, 136, 137, 138, 139, 140, 141, 142, 143, 144, 145, 146, 147, 148, 149, 150, 151, 152, 153, 154, 155, 156, 157, 158, 159, 160, 161, 162, 163, 164, 165, 166, 167] (by decide +kernel) (by decide +kernel)
set_option maxRecDepth 20000 in
theorem gX11_readStep_X11_readNumber : GoodIn wsX11_readStep (wsV RX11 194 RX11 yX11_readNumber wsX11_readNumber) := goodIn_app (goodIn_of _ (by decide +kernel)) ggX11_readStep_X11_readNumber
set_option maxRecDepth 20000 in
theorem ggX11_readStep_X11_opensOne : GoodIn wsX11_readStep wsX11_opensOne := goodIn_r _ [105, 3, 5, 80, 81, 82, 9, 83, 84, 97, 98, 99, 100, 101, 113, 114, 115, 116, 117, 118, 119, 120, 121, 122, 123, 124, 125, 126, 127, 128, 129, 130, 131, 132, 133, 134, 135, 136, 137, 138, 139, 140, 141, 142, 143, 144, 145, 146, 147, 148, 149, 150, 151, 152, 153, 154, 155, 156, 157, 158, 159, 160, 161, 162, 163, 164, 165, 166, 167] (by decide +kernel) (by decide +kernel)
set_option maxRecDepth 20000 in
theorem gX11_readStep_X11_opensOne : GoodIn wsX11_readStep (wsV RX11 258 RX11 yX11_opensOne wsX11_opensOne) := goodIn_app (goodIn_of _ (by decide +kernel)) ggX11_readStep_X11_opensOne
set_option maxRecDepth 20000 in
theorem ggX11_readStep_X11_sign : GoodIn wsX11_readStep wsX11_sign := goodIn_r _ [109, 5, 80, 81, 82, 9, 83, 84, 13, 14, 15, 16, 11, 12, 97, 98, 99, 100, 101, 113, 114, 115, 116, 117, 118, 119, 120, 121, 122, 123, 124, 125, 126, 127, 128, 129, 130, 131, 132, 133, 134, 135, 136, 137, 138, 139, 140, 141, 142, 143, 144, 145, 146, 147, 148, 149, 150, 151, 152, 153, 154, 155, 156, 157, 158, 159, 160, 161, 162, 163, 164, 165, 166, 167] (by decide +kernel) (by decide +kernel)
set_option maxRecDepth 20000 in
theorem gX11_readStep_X11_sign : GoodIn wsX11_readStep (wsV RX11 239 RX11 yX11_sign wsX11_sign) := goodIn_app (goodIn_of _ (by decide +kernel)) ggX11_readStep_X11_sign
set_option maxRecDepth 20000 in
theorem ggX11_readStep_X11_fine : GoodIn wsX11_readStep wsX11_fine := goodIn_r _ [83, 84, 113, 114, 115, 116, 117, 118, 119, 120, 121, 122, 123, 124, 125, 126, 127, 128, 129, 130, 131, 132, 133, 134, 135, 136, 137, 138, 139, 140, 141, 142, 143, 144, 145, 146, 147, 148, 149, 150, 151, 152, 153, 154, 155, 156, 157, 158, 159, 160, 161, 162, 163, 164, 165, 166, 167] (by decide +kernel) (by decide +kernel)
set_option maxRecDepth 20000 in
theorem gX11_readStep_X11_fine : GoodIn wsX11_readStep (wsV RX11 143 RX11 yX11_fine wsX11_fine) := goodIn_app (goodIn_of _ (by decide +kernel)) ggX11_readStep_X11_fine
set_option maxRecDepth 20000 in
theorem ggX11_readStep_X11_here : GoodIn wsX11_readStep wsX11_here := goodIn_r _ [16, 5, 11, 12, 113, 114, 115, 116, 117, 118, 119, 120, 121, 122, 123, 124, 125, 126, 127, 128, 129, 130, 131, 132, 133, 134, 135, 136, 137, 138, 139, 140, 141, 142, 143, 144, 145, 146, 147, 148, 149, 150, 151, 152, 153, 154, 155, 156, 157, 158, 159, 160, 161, 162, 163, 164, 165, 166, 167] (by decide +kernel) (by decide +kernel)
set_option maxRecDepth 20000 in
theorem gX11_readStep_X11_here : GoodIn wsX11_readStep (wsV RX11 126 RX11 yX11_here wsX11_here) := goodIn_app (goodIn_of _ (by decide +kernel)) ggX11_readStep_X11_here
set_option maxRecDepth 20000 in
theorem ggX11_readStep_X11_readStep : GoodIn wsX11_readStep wsX11_readStep := goodIn_r _ [0, 1, 2, 3, 4, 5, 6, 7, 8, 9, 10, 11, 12, 13, 14, 15, 16, 17, 18, 19, 20, 21, 22, 23, 24, 25, 26, 27, 28, 29, 30, 31, 32, 33, 34, 35, 36, 37, 38, 39, 40, 41, 42, 43, 44, 45, 46, 47, 48, 49, 50, 51, 52, 53, 54, 55, 56, 57, 58, 59, 60, 61, 62, 63, 64, 65, 66, 67, 68, 69, 70, 71, 72, 73, 74, 75, 76, 77, 78, 79, 80, 81, 82, 83, 84, 85, 86, 87, 88, 89, 90, 91, 92, 93, 94, 95, 96, 97, 98, 99, 100, 101, 102, 103, 104, 105, 106, 107, 108, 109, 110, 111, 112, 113, 114, 115, 116, 117, 118, 119, 120, 121, 122, 123, 124, 125, 126, 127, 128, 129, 130, 131, 132, 133, 134, 135, 136, 137, 138, 139, 140, 141, 142, 143, 144, 145, 146, 147, 148, 149, 150, 151, 152, 153, 154, 155, 156, 157, 158, 159, 160, 161, 162, 163, 164, 165, 166, 167] (by decide +kernel) (by decide +kernel)
set_option maxRecDepth 20000 in
theorem gX11_readStep_X11_readStep : GoodIn wsX11_readStep (wsV RX11 313 RX11 yX11_readStep wsX11_readStep) := goodIn_app (goodIn_of _ (by decide +kernel)) ggX11_readStep_X11_readStep
set_option maxRecDepth 20000 in
theorem ggX11_readStep_X11_wrong : GoodIn wsX11_readStep wsX11_wrong := goodIn_r _ [100, 84, 101, 113, 114, 115, 116, 117, 118, 119, 120, 121, 122, 123, 124, 125, 126, 127, 128, 129, 130, 131, 132, 133, 134, 135, 136, 137, 138, 139, 140, 141, 142, 143, 144, 145, 146, 147, 148, 149, 150, 151, 152, 153, 154, 155, 156, 157, 158, 159, 160, 161, 162, 163, 164, 165, 166, 167] (by decide +kernel) (by decide +kernel)
set_option maxRecDepth 20000 in
theorem gX11_readStep_X11_wrong : GoodIn wsX11_readStep (wsV RX11 150 RX11 yX11_wrong wsX11_wrong) := goodIn_app (goodIn_of _ (by decide +kernel)) ggX11_readStep_X11_wrong
set_option maxRecDepth 20000 in
theorem ggX11_work_X11_may : GoodIn wsX11_work wsX11_may := goodIn_r _ [19, 1, 20, 245, 246, 247, 248, 249, 250, 251, 252, 253, 254, 255, 256, 257, 258, 259, 260, 261, 262, 263, 264, 265, 266, 267, 268, 269, 270, 271, 272, 273, 274, 275, 276, 277, 278, 279, 280, 281, 282, 283, 284, 285, 286, 287, 288, 289, 290, 291, 292, 293, 294, 295, 296, 297, 298, 299] (by decide +kernel) (by decide +kernel)
set_option maxRecDepth 20000 in
theorem gX11_work_X11_may : GoodIn wsX11_work (wsV RX11 213 RX11 yX11_may wsX11_may) := goodIn_app (goodIn_of _ (by decide +kernel)) ggX11_work_X11_may
set_option maxRecDepth 20000 in
theorem ggX11_work_X11_begins : GoodIn wsX11_work wsX11_begins := goodIn_r _ [24, 2, 25, 26, 27, 5, 28, 245, 246, 247, 248, 249, 250, 251, 252, 253, 254, 255, 256, 257, 258, 259, 260, 261, 262, 263, 264, 265, 266, 267, 268, 269, 270, 271, 272, 273, 274, 275, 276, 277, 278, 279, 280, 281, 282, 283, 284, 285, 286, 287, 288, 289, 290, 291, 292, 293, 294, 295, 296, 297, 298, 299] (by decide +kernel) (by decide +kernel)
set_option maxRecDepth 20000 in
theorem gX11_work_X11_begins : GoodIn wsX11_work (wsV RX11 217 RX11 yX11_begins wsX11_begins) := goodIn_app (goodIn_of _ (by decide +kernel)) ggX11_work_X11_begins
set_option maxRecDepth 20000 in
theorem ggX11_work_X11_result : GoodIn wsX11_work wsX11_result := goodIn_r _ [32, 5, 25, 33, 34, 35, 36, 18, 37, 245, 246, 247, 248, 249, 250, 251, 252, 253, 254, 255, 256, 257, 258, 259, 260, 261, 262, 263, 264, 265, 266, 267, 268, 269, 270, 271, 272, 273, 274, 275, 276, 277, 278, 279, 280, 281, 282, 283, 284, 285, 286, 287, 288, 289, 290, 291, 292, 293, 294, 295, 296, 297, 298, 299] (by decide +kernel) (by decide +kernel)
set_option maxRecDepth 20000 in
theorem gX11_work_X11_result : GoodIn wsX11_work (wsV RX11 242 RX11 yX11_result wsX11_result) := goodIn_app (goodIn_of _ (by decide +kernel)) ggX11_work_X11_result
set_option maxRecDepth 20000 in
theorem ggX11_work_X11_fine : GoodIn wsX11_work wsX11_fine := goodIn_r _ [37, 5, 245, 246, 247, 248, 249, 250, 251, 252, 253, 254, 255, 256, 257, 258, 259, 260, 261, 262, 263, 264, 265, 266, 267, 268, 269, 270, 271, 272, 273, 274, 275, 276, 277, 278, 279, 280, 281, 282, 283, 284, 285, 286, 287, 288, 289, 290, 291, 292, 293, 294, 295, 296, 297, 298, 299] (by decide +kernel) (by decide +kernel)
set_option maxRecDepth 20000 in
theorem gX11_work_X11_fine : GoodIn wsX11_work (wsV RX11 143 RX11 yX11_fine wsX11_fine) := goodIn_app (goodIn_of _ (by decide +kernel)) ggX11_work_X11_fine
set_option maxRecDepth 20000 in
theorem ggX11_work_X11_isMore : GoodIn wsX11_work wsX11_isMore := goodIn_r _ [41, 27, 26, 42, 43, 44, 18, 45, 46, 245, 246, 247, 248, 249, 250, 251, 252, 253, 254, 255, 256, 257, 258, 259, 260, 261, 262, 263, 264, 265, 266, 267, 268, 269, 270, 271, 272, 273, 274, 275, 276, 277, 278, 279, 280, 281, 282, 283, 284, 285, 286, 287, 288, 289, 290, 291, 292, 293, 294, 295, 296, 297, 298, 299] (by decide +kernel) (by decide +kernel)
set_option maxRecDepth 20000 in
theorem gX11_work_X11_isMore : GoodIn wsX11_work (wsV RX11 221 RX11 yX11_isMore wsX11_isMore) := goodIn_app (goodIn_of _ (by decide +kernel)) ggX11_work_X11_isMore
set_option maxRecDepth 20000 in
theorem ggX11_work_X11_readStep : GoodIn wsX11_work wsX11_readStep := goodIn_r _ [50, 51, 4, 28, 6, 27, 52, 53, 54, 18, 55, 26, 46, 42, 43, 44, 45, 56, 57, 58, 59, 60, 61, 62, 63, 64, 65, 66, 67, 68, 69, 70, 71, 72, 73, 74, 75, 76, 77, 78, 79, 80, 81, 82, 83, 84, 85, 86, 87, 88, 89, 90, 91, 92, 93, 94, 95, 96, 97, 98, 99, 100, 101, 102, 103, 104, 105, 106, 107, 108, 109, 110, 111, 112, 113, 114, 115, 116, 117, 118, 34, 35, 36, 37, 5, 119, 120, 121, 122, 123, 124, 125, 126, 127, 128, 129, 130, 131, 132, 133, 134, 33, 135, 136, 137, 138, 139, 140, 141, 142, 47, 48, 49, 245, 246, 247, 248, 249, 250, 251, 252, 253, 254, 255, 256, 257, 258, 259, 260, 261, 262, 263, 264, 265, 266, 267, 268, 269, 270, 271, 272, 273, 274, 275, 276, 277, 278, 279, 280, 281, 282, 283, 284, 285, 286, 287, 288, 289, 290, 291, 292, 293, 294, 295, 296, 297, 298, 299] (by decide +kernel) (by decide +kernel)
set_option maxRecDepth 20000 in
theorem gX11_work_X11_readStep : GoodIn wsX11_work (wsV RX11 313 RX11 yX11_readStep wsX11_readStep) := goodIn_app (goodIn_of _ (by decide +kernel)) ggX11_work_X11_readStep
set_option maxRecDepth 20000 in
theorem ggX11_work_X11_copies : GoodIn wsX11_work wsX11_copies := goodIn_r _ [146] (by decide +kernel) (by decide +kernel)
set_option maxRecDepth 20000 in
theorem gX11_work_X11_copies : GoodIn wsX11_work (wsV RX11 175 RX11 yX11_copies wsX11_copies) := goodIn_app (goodIn_of _ (by decide +kernel)) ggX11_work_X11_copies
set_option maxRecDepth 20000 in
theorem ggX11_work_X11_take : GoodIn wsX11_work wsX11_take := goodIn_r _ [150, 9, 13, 143, 144, 145, 18, 146, 245, 246, 247, 248, 249, 250, 251, 252, 253, 254, 255, 256, 257, 258, 259, 260, 261, 262, 263, 264, 265, 266, 267, 268, 269, 270, 271, 272, 273, 274, 275, 276, 277, 278, 279, 280, 281, 282, 283, 284, 285, 286, 287, 288, 289, 290, 291, 292, 293, 294, 295, 296, 297, 298, 299] (by decide +kernel) (by decide +kernel)
set_option maxRecDepth 20000 in
theorem gX11_work_X11_take : GoodIn wsX11_work (wsV RX11 316 RX11 yX11_take wsX11_take) := goodIn_app (goodIn_of _ (by decide +kernel)) ggX11_work_X11_take
set_option maxRecDepth 20000 in
theorem ggX11_work_X11_goesSteps : GoodIn wsX11_work wsX11_goesSteps := goodIn_r _ [154, 10, 7, 11, 12, 151, 152, 153, 18, 155, 156, 157, 158, 13, 159, 160, 161, 162, 163, 164, 165, 166, 167, 168, 169, 170, 171, 172, 173, 174, 175, 176, 177, 178, 179, 180, 181, 182, 183, 184, 185, 186, 123, 187, 188, 189, 190, 191, 192, 193, 194, 195, 196, 197, 198, 199, 200, 201, 202, 203, 204, 205, 206, 207, 208, 209, 210, 211, 212, 213, 214, 215, 216, 217, 218, 219, 220, 221, 222, 223, 224, 225, 226, 227, 228, 229, 230, 231, 232, 233, 234, 235, 236, 237, 238, 239, 240, 241, 242, 243, 244, 245, 246, 247, 248, 249, 250, 251, 252, 253, 254, 255, 256, 257, 258, 259, 260, 261, 262, 263, 264, 265, 266, 267, 268, 269, 270, 271, 272, 273, 274, 275, 276, 277, 278, 279, 280, 281, 282, 283, 284, 285, 286, 287, 288, 289, 290, 291, 292, 293, 294, 295, 296, 297, 298, 299] (by decide +kernel) (by decide +kernel)
set_option maxRecDepth 20000 in
theorem gX11_work_X11_goesSteps : GoodIn wsX11_work (wsV RX11 328 RX11 yX11_goesSteps wsX11_goesSteps) := goodIn_app (goodIn_of _ (by decide +kernel)) ggX11_work_X11_goesSteps
set_option maxRecDepth 20000 in
theorem ggX11_goesSteps_X11_goesSteps : GoodIn wsX11_goesSteps wsX11_goesSteps := goodIn_r _ [0, 1, 2, 3, 4, 5, 6, 7, 8, 9, 10, 11, 12, 13, 14, 15, 16, 17, 18, 19, 20, 21, 22, 23, 24, 25, 26, 27, 28, 29, 30, 31, 32, 33, 34, 35, 36, 37, 38, 39, 40, 41, 42, 43, 44, 45, 46, 47, 48, 49, 50, 51, 52, 53, 54, 55, 56, 57, 58, 59, 60, 61, 62, 63, 64, 65, 66, 67, 68, 69, 70, 71, 72, 73, 74, 75, 76, 77, 78, 79, 80, 81, 82, 83, 84, 85, 86, 87, 88, 89, 90, 91, 92, 93, 94, 95, 96, 97, 98, 99, 100, 101, 102, 103, 104, 105, 106, 107, 108, 109, 110, 111, 112, 113, 114, 115, 116, 117, 118, 119, 120, 121, 122, 123, 124, 125, 126, 127, 128, 129, 130, 131, 132, 133, 134, 135, 136, 137, 138, 139, 140, 141, 142, 143, 144, 145, 146, 147, 148, 149, 150, 151, 152, 153, 154, 155] (by decide +kernel) (by decide +kernel)
set_option maxRecDepth 20000 in
theorem gX11_goesSteps_X11_goesSteps : GoodIn wsX11_goesSteps (wsV RX11 328 RX11 yX11_goesSteps wsX11_goesSteps) := goodIn_app (goodIn_of _ (by decide +kernel)) ggX11_goesSteps_X11_goesSteps
set_option maxRecDepth 20000 in
theorem ggX11_goesSteps_X11_isDone : GoodIn wsX11_goesSteps wsX11_isDone := goodIn_r _ [12, 13, 14, 15, 16, 8, 17, 18, 19, 20, 21, 22, 23, 24, 25, 26, 27, 28, 29, 30, 31, 32, 33, 34, 35, 36, 37, 38, 39, 40, 41, 42, 43, 44, 45, 46, 47, 48, 49, 50, 51, 52, 53, 54, 55, 56, 57, 58, 59, 60, 61, 62, 63, 64, 65, 66, 67, 68, 69, 70, 71, 72, 73, 74, 75, 76, 77, 78, 79, 80, 81, 82, 83, 84, 85, 86, 87, 88, 89, 90, 91, 92, 93, 94, 95, 96, 97, 98, 99, 100, 101, 102, 103, 104, 105, 106, 107, 108, 109, 110, 111, 112, 113, 114, 115, 116, 117, 118, 119, 120, 121, 122, 123, 124, 125, 126, 127, 128, 129, 130, 131, 132, 133, 134, 135, 136, 137, 138, 139, 140, 141, 142, 143, 144, 145, 146, 147, 148, 149, 150, 151, 152, 153, 154, 155] (by decide +kernel) (by decide +kernel)
set_option maxRecDepth 20000 in
theorem gX11_goesSteps_X11_isDone : GoodIn wsX11_goesSteps (wsV RX11 331 RX11 yX11_isDone wsX11_isDone) := goodIn_app (goodIn_of _ (by decide +kernel)) ggX11_goesSteps_X11_isDone
set_option maxRecDepth 20000 in
theorem ggX11_take_X11_copies : GoodIn wsX11_take wsX11_copies := goodIn_r _ [7] (by decide +kernel) (by decide +kernel)
set_option maxRecDepth 20000 in
theorem gX11_take_X11_copies : GoodIn wsX11_take (wsV RX11 175 RX11 yX11_copies wsX11_copies) := goodIn_app (goodIn_of _ (by decide +kernel)) ggX11_take_X11_copies
set_option maxRecDepth 20000 in
theorem ggX11_farOf_X11_size : GoodIn wsX11_farOf wsX11_size := goodIn_r _ [5] (by decide +kernel) (by decide +kernel)
set_option maxRecDepth 20000 in
theorem gX11_farOf_X11_size : GoodIn wsX11_farOf (va_wsS RX11 335 yX11_size wsX11_size) := goodIn_app (goodIn_of _ (by decide +kernel)) ggX11_farOf_X11_size
set_option maxRecDepth 20000 in
theorem ggX11_isSafe_X11_size : GoodIn wsX11_isSafe wsX11_size := goodIn_r _ [7] (by decide +kernel) (by decide +kernel)
set_option maxRecDepth 20000 in
theorem gX11_isSafe_X11_size : GoodIn wsX11_isSafe (va_wsS RX11 335 yX11_size wsX11_size) := goodIn_app (goodIn_of _ (by decide +kernel)) ggX11_isSafe_X11_size
set_option maxRecDepth 20000 in
theorem ggX11_leapOf_X11_leapNow : GoodIn wsX11_leapOf wsX11_leapNow := goodIn_r _ [6, 7, 1, 8, 9, 10, 5, 11, 12, 13, 14, 15, 16, 17, 18, 19, 20, 21, 22, 23, 24, 25, 26, 27, 28, 29, 30, 31, 32, 33, 34, 35, 36, 37, 38, 39, 40, 41, 42, 43, 44, 45, 46, 47, 48, 49, 50, 51, 52, 53, 54, 55, 56, 57, 58, 59, 60, 61, 62, 63, 64, 65, 66, 67, 68, 69, 70, 71, 72] (by decide +kernel) (by decide +kernel)
set_option maxRecDepth 20000 in
theorem gX11_leapOf_X11_leapNow : GoodIn wsX11_leapOf (wsV RX11 337 RX11 yX11_leapNow wsX11_leapNow) := goodIn_app (goodIn_of _ (by decide +kernel)) ggX11_leapOf_X11_leapNow
set_option maxRecDepth 20000 in
theorem ggX11_leapBy_X11_isCaught : GoodIn wsX11_leapBy wsX11_isCaught := goodIn_r _ [6, 1, 43, 44, 45, 46, 47, 48, 49, 50, 51, 52, 53, 54, 55, 56, 57, 58, 59, 60, 61, 62, 63, 64, 65, 66, 67, 68, 69, 70, 71, 72, 73, 74, 75, 76, 77, 78, 79, 80, 81, 82, 83, 84, 85, 86, 87, 88, 89, 90, 91, 92, 93, 94, 95, 96, 97] (by decide +kernel) (by decide +kernel)
set_option maxRecDepth 20000 in
theorem gX11_leapBy_X11_isCaught : GoodIn wsX11_leapBy (wsV RX11 340 RX11 yX11_isCaught wsX11_isCaught) := goodIn_app (goodIn_of _ (by decide +kernel)) ggX11_leapBy_X11_isCaught
set_option maxRecDepth 20000 in
theorem ggX11_leapBy_X11_owes : GoodIn wsX11_leapBy wsX11_owes := goodIn_r _ [10, 11, 1, 43, 44, 45, 46, 47, 48, 49, 50, 51, 52, 53, 54, 55, 56, 57, 58, 59, 60, 61, 62, 63, 64, 65, 66, 67, 68, 69, 70, 71, 72, 73, 74, 75, 76, 77, 78, 79, 80, 81, 82, 83, 84, 85, 86, 87, 88, 89, 90, 91, 92, 93, 94, 95, 96, 97] (by decide +kernel) (by decide +kernel)
set_option maxRecDepth 20000 in
theorem gX11_leapBy_X11_owes : GoodIn wsX11_leapBy (wsV RX11 343 RX11 yX11_owes wsX11_owes) := goodIn_app (goodIn_of _ (by decide +kernel)) ggX11_leapBy_X11_owes
set_option maxRecDepth 20000 in
theorem ggX11_leapBy_X11_isOwed : GoodIn wsX11_leapBy wsX11_isOwed := goodIn_r _ [15, 11, 1, 43, 44, 45, 46, 47, 48, 49, 50, 51, 52, 53, 54, 55, 56, 57, 58, 59, 60, 61, 62, 63, 64, 65, 66, 67, 68, 69, 70, 71, 72, 73, 74, 75, 76, 77, 78, 79, 80, 81, 82, 83, 84, 85, 86, 87, 88, 89, 90, 91, 92, 93, 94, 95, 96, 97] (by decide +kernel) (by decide +kernel)
set_option maxRecDepth 20000 in
theorem gX11_leapBy_X11_isOwed : GoodIn wsX11_leapBy (wsV RX11 345 RX11 yX11_isOwed wsX11_isOwed) := goodIn_app (goodIn_of _ (by decide +kernel)) ggX11_leapBy_X11_isOwed
set_option maxRecDepth 20000 in
theorem ggX11_leapBy_X11_sitIn : GoodIn wsX11_leapBy wsX11_sitIn := goodIn_r _ [19, 11, 1, 43, 44, 45, 46, 47, 48, 49, 50, 51, 52, 53, 54, 55, 56, 57, 58, 59, 60, 61, 62, 63, 64, 65, 66, 67, 68, 69, 70, 71, 72, 73, 74, 75, 76, 77, 78, 79, 80, 81, 82, 83, 84, 85, 86, 87, 88, 89, 90, 91, 92, 93, 94, 95, 96, 97] (by decide +kernel) (by decide +kernel)
set_option maxRecDepth 20000 in
theorem gX11_leapBy_X11_sitIn : GoodIn wsX11_leapBy (wsV RX11 348 RX11 yX11_sitIn wsX11_sitIn) := goodIn_app (goodIn_of _ (by decide +kernel)) ggX11_leapBy_X11_sitIn
set_option maxRecDepth 20000 in
theorem ggX11_leapBy_X11_ones : GoodIn wsX11_leapBy wsX11_ones := goodIn_r _ [22] (by decide +kernel) (by decide +kernel)
set_option maxRecDepth 20000 in
theorem gX11_leapBy_X11_ones : GoodIn wsX11_leapBy (va_wsS RX11 351 yX11_ones wsX11_ones) := goodIn_app (goodIn_of _ (by decide +kernel)) ggX11_leapBy_X11_ones
set_option maxRecDepth 20000 in
theorem ggX11_leapBy_X11_leapOf : GoodIn wsX11_leapBy wsX11_leapOf := goodIn_r _ [26, 27, 28, 29, 30, 5, 31, 32, 33, 34, 35, 36, 37, 38, 39, 40, 41, 42, 43, 44, 45, 46, 47, 48, 49, 50, 51, 52, 53, 54, 55, 56, 57, 58, 59, 60, 61, 62, 63, 64, 65, 66, 67, 68, 69, 70, 71, 72, 73, 74, 75, 76, 77, 78, 79, 80, 81, 82, 83, 84, 85, 86, 87, 88, 89, 90, 91, 92, 93, 94, 95, 96, 97] (by decide +kernel) (by decide +kernel)
set_option maxRecDepth 20000 in
theorem gX11_leapBy_X11_leapOf : GoodIn wsX11_leapBy (wsV RX11 354 RX11 yX11_leapOf wsX11_leapOf) := goodIn_app (goodIn_of _ (by decide +kernel)) ggX11_leapBy_X11_leapOf
set_option maxRecDepth 20000 in
theorem ggX11_canLeap_X11_isCaught : GoodIn wsX11_canLeap wsX11_isCaught := goodIn_r _ [6, 1, 55, 56, 57, 58, 59, 60, 61, 62, 63, 64, 65, 66, 67, 68, 69, 70, 71, 72, 73, 74, 75, 76, 77, 78, 79, 80, 81, 82, 83, 84, 85, 86, 87, 88, 89, 90, 91, 92, 93, 94, 95, 96, 97, 98, 99, 100, 101, 102, 103, 104, 105, 106, 107, 108, 109] (by decide +kernel) (by decide +kernel)
set_option maxRecDepth 20000 in
theorem gX11_canLeap_X11_isCaught : GoodIn wsX11_canLeap (wsV RX11 340 RX11 yX11_isCaught wsX11_isCaught) := goodIn_app (goodIn_of _ (by decide +kernel)) ggX11_canLeap_X11_isCaught
set_option maxRecDepth 20000 in
theorem ggX11_canLeap_X11_farOf : GoodIn wsX11_canLeap wsX11_farOf := goodIn_r _ [10, 11, 12, 13, 5, 14, 55, 56, 57, 58, 59, 60, 61, 62, 63, 64, 65, 66, 67, 68, 69, 70, 71, 72, 73, 74, 75, 76, 77, 78, 79, 80, 81, 82, 83, 84, 85, 86, 87, 88, 89, 90, 91, 92, 93, 94, 95, 96, 97, 98, 99, 100, 101, 102, 103, 104, 105, 106, 107, 108, 109] (by decide +kernel) (by decide +kernel)
set_option maxRecDepth 20000 in
theorem gX11_canLeap_X11_farOf : GoodIn wsX11_canLeap (wsV RX11 358 RX11 yX11_farOf wsX11_farOf) := goodIn_app (goodIn_of _ (by decide +kernel)) ggX11_canLeap_X11_farOf
set_option maxRecDepth 20000 in
theorem ggX11_canLeap_X11_leapBy : GoodIn wsX11_canLeap wsX11_leapBy := goodIn_r _ [18, 1, 2, 3, 4, 5, 6, 19, 20, 21, 22, 23, 24, 25, 26, 27, 28, 29, 30, 31, 32, 33, 34, 35, 36, 37, 38, 39, 40, 41, 42, 43, 44, 45, 46, 47, 48, 49, 50, 51, 52, 53, 54, 55, 56, 57, 58, 59, 60, 61, 62, 63, 64, 65, 66, 67, 68, 69, 70, 71, 72, 73, 74, 75, 76, 77, 78, 79, 80, 81, 82, 83, 84, 85, 86, 87, 88, 89, 90, 91, 92, 93, 94, 95, 96, 97, 98, 99, 100, 101, 102, 103, 104, 105, 106, 107, 108, 109] (by decide +kernel) (by decide +kernel)
set_option maxRecDepth 20000 in
theorem gX11_canLeap_X11_leapBy : GoodIn wsX11_canLeap (wsV RX11 361 RX11 yX11_leapBy wsX11_leapBy) := goodIn_app (goodIn_of _ (by decide +kernel)) ggX11_canLeap_X11_leapBy
set_option maxRecDepth 20000 in
theorem ggX11_leapsTo_X11_canLeap : GoodIn wsX11_leapsTo wsX11_canLeap := goodIn_r _ [6, 1, 7, 8, 9, 5, 10, 11, 12, 13, 14, 15, 16, 17, 18, 19, 20, 21, 22, 23, 24, 25, 26, 27, 28, 29, 30, 31, 32, 33, 34, 35, 36, 37, 38, 39, 40, 41, 42, 43, 44, 45, 46, 47, 48, 49, 50, 51, 52, 53, 54, 55, 56, 57, 58, 59, 60, 61, 62, 63, 64, 65, 66, 67, 68, 69, 70, 71, 72, 73, 74, 75, 76, 77, 78, 79, 80, 81, 82, 83, 84, 85, 86, 87, 88, 89, 90, 91, 92, 93, 94, 95, 96, 97, 98, 99, 100, 101, 102, 103, 104, 105, 106, 107, 108, 109, 110, 111, 112, 113] (by decide +kernel) (by decide +kernel)
set_option maxRecDepth 20000 in
theorem gX11_leapsTo_X11_canLeap : GoodIn wsX11_leapsTo (wsV RX11 364 RX11 yX11_canLeap wsX11_canLeap) := goodIn_app (goodIn_of _ (by decide +kernel)) ggX11_leapsTo_X11_canLeap
set_option maxRecDepth 20000 in
theorem ggX11_boxes_X11_isCaught : GoodIn wsX11_boxes wsX11_isCaught := goodIn_r _ [6, 1, 7, 8, 9, 10, 11, 12, 13, 14, 15, 16, 17, 18, 19, 20, 21, 22, 23, 24, 25, 26, 27, 28, 29, 30, 31, 32, 33, 34, 35, 36, 37, 38, 39, 40, 41, 42, 43, 44, 45, 46, 47, 48, 49, 50, 51, 52, 53, 54, 55, 56, 57, 58, 59, 60, 61] (by decide +kernel) (by decide +kernel)
set_option maxRecDepth 20000 in
theorem gX11_boxes_X11_isCaught : GoodIn wsX11_boxes (wsV RX11 340 RX11 yX11_isCaught wsX11_isCaught) := goodIn_app (goodIn_of _ (by decide +kernel)) ggX11_boxes_X11_isCaught
set_option maxRecDepth 20000 in
theorem ggX11_pays_X11_isCaught : GoodIn wsX11_pays wsX11_isCaught := goodIn_r _ [6, 1, 7, 8, 9, 10, 11, 12, 13, 14, 15, 16, 17, 18, 19, 20, 21, 22, 23, 24, 25, 26, 27, 28, 29, 30, 31, 32, 33, 34, 35, 36, 37, 38, 39, 40, 41, 42, 43, 44, 45, 46, 47, 48, 49, 50, 51, 52, 53, 54, 55, 56, 57, 58, 59, 60, 61] (by decide +kernel) (by decide +kernel)
set_option maxRecDepth 20000 in
theorem gX11_pays_X11_isCaught : GoodIn wsX11_pays (wsV RX11 340 RX11 yX11_isCaught wsX11_isCaught) := goodIn_app (goodIn_of _ (by decide +kernel)) ggX11_pays_X11_isCaught
set_option maxRecDepth 20000 in
theorem ggX11_wouldBeCaught_X11_isCaught : GoodIn wsX11_wouldBeCaught wsX11_isCaught := goodIn_r _ [6, 1, 17, 18, 19, 20, 21, 22, 23, 24, 25, 26, 27, 28, 29, 30, 31, 32, 33, 34, 35, 36, 37, 38, 39, 40, 41, 42, 43, 44, 45, 46, 47, 48, 49, 50, 51, 52, 53, 54, 55, 56, 57, 58, 59, 60, 61, 62, 63, 64, 65, 66, 67, 68, 69, 70, 71] (by decide +kernel) (by decide +kernel)
set_option maxRecDepth 20000 in
theorem gX11_wouldBeCaught_X11_isCaught : GoodIn wsX11_wouldBeCaught (wsV RX11 340 RX11 yX11_isCaught wsX11_isCaught) := goodIn_app (goodIn_of _ (by decide +kernel)) ggX11_wouldBeCaught_X11_isCaught
set_option maxRecDepth 20000 in
theorem ggX11_wouldBeCaught_X11_isSafe : GoodIn wsX11_wouldBeCaught wsX11_isSafe := goodIn_r _ [10, 11, 12, 13, 14, 15, 5, 16, 17, 18, 19, 20, 21, 22, 23, 24, 25, 26, 27, 28, 29, 30, 31, 32, 33, 34, 35, 36, 37, 38, 39, 40, 41, 42, 43, 44, 45, 46, 47, 48, 49, 50, 51, 52, 53, 54, 55, 56, 57, 58, 59, 60, 61, 62, 63, 64, 65, 66, 67, 68, 69, 70, 71] (by decide +kernel) (by decide +kernel)
set_option maxRecDepth 20000 in
theorem gX11_wouldBeCaught_X11_isSafe : GoodIn wsX11_wouldBeCaught (wsV RX11 368 RX11 yX11_isSafe wsX11_isSafe) := goodIn_app (goodIn_of _ (by decide +kernel)) ggX11_wouldBeCaught_X11_isSafe
set_option maxRecDepth 20000 in
theorem ggX11_strokes_X11_wouldBeCaught : GoodIn wsX11_strokes wsX11_wouldBeCaught := goodIn_r _ [8, 2, 9, 10, 11, 7, 12, 13, 14, 15, 16, 17, 18, 19, 20, 21, 22, 23, 24, 25, 26, 27, 28, 29, 30, 31, 32, 33, 34, 35, 36, 37, 38, 39, 40, 41, 42, 43, 44, 45, 46, 47, 48, 49, 50, 51, 52, 53, 54, 55, 56, 57, 58, 59, 60, 61, 62, 63, 64, 65, 66, 67, 68, 69, 70, 71, 72, 73, 74, 75, 76, 77] (by decide +kernel) (by decide +kernel)
set_option maxRecDepth 20000 in
theorem gX11_strokes_X11_wouldBeCaught : GoodIn wsX11_strokes (wsV RX11 371 RX11 yX11_wouldBeCaught wsX11_wouldBeCaught) := goodIn_app (goodIn_of _ (by decide +kernel)) ggX11_strokes_X11_wouldBeCaught
set_option maxRecDepth 20000 in
theorem ggX11_strokes_X11_isCaught : GoodIn wsX11_strokes wsX11_isCaught := goodIn_r _ [12, 2, 23, 24, 25, 26, 27, 28, 29, 30, 31, 32, 33, 34, 35, 36, 37, 38, 39, 40, 41, 42, 43, 44, 45, 46, 47, 48, 49, 50, 51, 52, 53, 54, 55, 56, 57, 58, 59, 60, 61, 62, 63, 64, 65, 66, 67, 68, 69, 70, 71, 72, 73, 74, 75, 76, 77] (by decide +kernel) (by decide +kernel)
set_option maxRecDepth 20000 in
theorem gX11_strokes_X11_isCaught : GoodIn wsX11_strokes (wsV RX11 340 RX11 yX11_isCaught wsX11_isCaught) := goodIn_app (goodIn_of _ (by decide +kernel)) ggX11_strokes_X11_isCaught
set_option maxRecDepth 20000 in
theorem ggX11_passes_X11_isCaught : GoodIn wsX11_passes wsX11_isCaught := goodIn_r _ [7, 2, 27, 28, 29, 30, 31, 32, 33, 34, 35, 36, 37, 38, 39, 40, 41, 42, 43, 44, 45, 46, 47, 48, 49, 50, 51, 52, 53, 54, 55, 56, 57, 58, 59, 60, 61, 62, 63, 64, 65, 66, 67, 68, 69, 70, 71, 72, 73, 74, 75, 76, 77, 78, 79, 80, 81] (by decide +kernel) (by decide +kernel)
set_option maxRecDepth 20000 in
theorem gX11_passes_X11_isCaught : GoodIn wsX11_passes (wsV RX11 340 RX11 yX11_isCaught wsX11_isCaught) := goodIn_app (goodIn_of _ (by decide +kernel)) ggX11_passes_X11_isCaught
set_option maxRecDepth 20000 in
theorem ggX11_passes_X11_strokes : GoodIn wsX11_passes wsX11_strokes := goodIn_r _ [11, 1, 2, 12, 13, 14, 15, 6, 16, 3, 4, 5, 7, 17, 18, 19, 20, 21, 22, 23, 24, 25, 26, 27, 28, 29, 30, 31, 32, 33, 34, 35, 36, 37, 38, 39, 40, 41, 42, 43, 44, 45, 46, 47, 48, 49, 50, 51, 52, 53, 54, 55, 56, 57, 58, 59, 60, 61, 62, 63, 64, 65, 66, 67, 68, 69, 70, 71, 72, 73, 74, 75, 76, 77, 78, 79, 80, 81] (by decide +kernel) (by decide +kernel)
set_option maxRecDepth 20000 in
theorem gX11_passes_X11_strokes : GoodIn wsX11_passes (wsV RX11 374 RX11 yX11_strokes wsX11_strokes) := goodIn_app (goodIn_of _ (by decide +kernel)) ggX11_passes_X11_strokes
set_option maxRecDepth 20000 in
theorem ggX11_isDone_X11_leapsTo : GoodIn wsX11_isDone wsX11_leapsTo := goodIn_r _ [6, 1, 7, 8, 9, 5, 10, 11, 12, 13, 14, 15, 16, 17, 18, 19, 20, 21, 22, 23, 24, 25, 26, 27, 28, 29, 30, 31, 32, 33, 34, 35, 36, 37, 38, 39, 40, 41, 42, 43, 44, 45, 46, 47, 48, 49, 50, 51, 52, 53, 54, 55, 56, 57, 58, 59, 60, 61, 62, 90, 91, 92, 93, 94, 95, 96, 97, 98, 99, 100, 101, 102, 103, 104, 105, 106, 107, 108, 109, 110, 111, 112, 113, 114, 115, 116, 117, 118, 119, 120, 121, 122, 123, 124, 125, 126, 127, 128, 129, 130, 131, 132, 133, 134, 135, 136, 137, 138, 139, 140, 141, 142, 143, 144] (by decide +kernel) (by decide +kernel)
set_option maxRecDepth 20000 in
theorem gX11_isDone_X11_leapsTo : GoodIn wsX11_isDone (wsV RX11 377 RX11 yX11_leapsTo wsX11_leapsTo) := goodIn_app (goodIn_of _ (by decide +kernel)) ggX11_isDone_X11_leapsTo
set_option maxRecDepth 20000 in
theorem ggX11_isDone_X11_boxes : GoodIn wsX11_isDone wsX11_boxes := goodIn_r _ [66, 1, 11, 12, 13, 5, 14, 90, 91, 92, 93, 94, 95, 96, 97, 98, 99, 100, 101, 102, 103, 104, 105, 106, 107, 108, 109, 110, 111, 112, 113, 114, 115, 116, 117, 118, 119, 120, 121, 122, 123, 124, 125, 126, 127, 128, 129, 130, 131, 132, 133, 134, 135, 136, 137, 138, 139, 140, 141, 142, 143, 144] (by decide +kernel) (by decide +kernel)
set_option maxRecDepth 20000 in
theorem gX11_isDone_X11_boxes : GoodIn wsX11_isDone (wsV RX11 380 RX11 yX11_boxes wsX11_boxes) := goodIn_app (goodIn_of _ (by decide +kernel)) ggX11_isDone_X11_boxes
set_option maxRecDepth 20000 in
theorem ggX11_isDone_X11_pays : GoodIn wsX11_isDone wsX11_pays := goodIn_r _ [70, 1, 11, 12, 13, 5, 14, 90, 91, 92, 93, 94, 95, 96, 97, 98, 99, 100, 101, 102, 103, 104, 105, 106, 107, 108, 109, 110, 111, 112, 113, 114, 115, 116, 117, 118, 119, 120, 121, 122, 123, 124, 125, 126, 127, 128, 129, 130, 131, 132, 133, 134, 135, 136, 137, 138, 139, 140, 141, 142, 143, 144] (by decide +kernel) (by decide +kernel)
set_option maxRecDepth 20000 in
theorem gX11_isDone_X11_pays : GoodIn wsX11_isDone (wsV RX11 383 RX11 yX11_pays wsX11_pays) := goodIn_app (goodIn_of _ (by decide +kernel)) ggX11_isDone_X11_pays
set_option maxRecDepth 20000 in
theorem ggX11_isDone_X11_passes : GoodIn wsX11_isDone wsX11_passes := goodIn_r _ [74, 31, 1, 11, 12, 13, 5, 14, 75, 76, 77, 78, 79, 80, 81, 82, 83, 84, 85, 86, 87, 88, 19, 89, 20, 21, 22, 90, 91, 92, 93, 94, 95, 96, 97, 98, 99, 100, 101, 102, 103, 104, 105, 106, 107, 108, 109, 110, 111, 112, 113, 114, 115, 116, 117, 118, 119, 120, 121, 122, 123, 124, 125, 126, 127, 128, 129, 130, 131, 132, 133, 134, 135, 136, 137, 138, 139, 140, 141, 142, 143, 144] (by decide +kernel) (by decide +kernel)
set_option maxRecDepth 20000 in
theorem gX11_isDone_X11_passes : GoodIn wsX11_isDone (wsV RX11 387 RX11 yX11_passes wsX11_passes) := goodIn_app (goodIn_of _ (by decide +kernel)) ggX11_isDone_X11_passes
set_option maxRecDepth 20000 in
theorem ggX11_book_X11_may : GoodIn wsX11_book wsX11_may := goodIn_r _ [13, 1, 14, 59, 60, 61, 62, 63, 64, 65, 66, 67, 68, 69, 70, 71, 72, 73, 74, 75, 76, 77, 78, 79, 80, 81, 82, 83, 84, 85, 86, 87, 88, 89, 90, 91, 92, 93, 94, 95, 96, 97, 98, 99, 100, 101, 102, 103, 104, 105, 106, 107, 108, 109, 110, 111, 112, 113] (by decide +kernel) (by decide +kernel)
set_option maxRecDepth 20000 in
theorem gX11_book_X11_may : GoodIn wsX11_book (wsV RX11 213 RX11 yX11_may wsX11_may) := goodIn_app (goodIn_of _ (by decide +kernel)) ggX11_book_X11_may
set_option maxRecDepth 20000 in
theorem ggX11_book_X11_begins : GoodIn wsX11_book wsX11_begins := goodIn_r _ [18, 2, 19, 20, 4, 6, 21, 59, 60, 61, 62, 63, 64, 65, 66, 67, 68, 69, 70, 71, 72, 73, 74, 75, 76, 77, 78, 79, 80, 81, 82, 83, 84, 85, 86, 87, 88, 89, 90, 91, 92, 93, 94, 95, 96, 97, 98, 99, 100, 101, 102, 103, 104, 105, 106, 107, 108, 109, 110, 111, 112, 113] (by decide +kernel) (by decide +kernel)
set_option maxRecDepth 20000 in
theorem gX11_book_X11_begins : GoodIn wsX11_book (wsV RX11 217 RX11 yX11_begins wsX11_begins) := goodIn_app (goodIn_of _ (by decide +kernel)) ggX11_book_X11_begins
set_option maxRecDepth 20000 in
theorem ggX11_book_X11_fine : GoodIn wsX11_book wsX11_fine := goodIn_r _ [25, 6, 59, 60, 61, 62, 63, 64, 65, 66, 67, 68, 69, 70, 71, 72, 73, 74, 75, 76, 77, 78, 79, 80, 81, 82, 83, 84, 85, 86, 87, 88, 89, 90, 91, 92, 93, 94, 95, 96, 97, 98, 99, 100, 101, 102, 103, 104, 105, 106, 107, 108, 109, 110, 111, 112, 113] (by decide +kernel) (by decide +kernel)
set_option maxRecDepth 20000 in
theorem gX11_book_X11_fine : GoodIn wsX11_book (wsV RX11 143 RX11 yX11_fine wsX11_fine) := goodIn_app (goodIn_of _ (by decide +kernel)) ggX11_book_X11_fine
set_option maxRecDepth 20000 in
theorem ggX11_book_X11_isMore : GoodIn wsX11_book wsX11_isMore := goodIn_r _ [29, 4, 20, 30, 31, 32, 12, 33, 34, 59, 60, 61, 62, 63, 64, 65, 66, 67, 68, 69, 70, 71, 72, 73, 74, 75, 76, 77, 78, 79, 80, 81, 82, 83, 84, 85, 86, 87, 88, 89, 90, 91, 92, 93, 94, 95, 96, 97, 98, 99, 100, 101, 102, 103, 104, 105, 106, 107, 108, 109, 110, 111, 112, 113] (by decide +kernel) (by decide +kernel)
set_option maxRecDepth 20000 in
theorem gX11_book_X11_isMore : GoodIn wsX11_book (wsV RX11 221 RX11 yX11_isMore wsX11_isMore) := goodIn_app (goodIn_of _ (by decide +kernel)) ggX11_book_X11_isMore
set_option maxRecDepth 20000 in
theorem ggX11_book_X11_here : GoodIn wsX11_book wsX11_here := goodIn_r _ [33, 4, 20, 34, 59, 60, 61, 62, 63, 64, 65, 66, 67, 68, 69, 70, 71, 72, 73, 74, 75, 76, 77, 78, 79, 80, 81, 82, 83, 84, 85, 86, 87, 88, 89, 90, 91, 92, 93, 94, 95, 96, 97, 98, 99, 100, 101, 102, 103, 104, 105, 106, 107, 108, 109, 110, 111, 112, 113] (by decide +kernel) (by decide +kernel)
set_option maxRecDepth 20000 in
theorem gX11_book_X11_here : GoodIn wsX11_book (wsV RX11 126 RX11 yX11_here wsX11_here) := goodIn_app (goodIn_of _ (by decide +kernel)) ggX11_book_X11_here
set_option maxRecDepth 20000 in
theorem ggX11_book_X11_readNumber : GoodIn wsX11_book wsX11_readNumber := goodIn_r _ [38, 4, 20, 34, 22, 23, 24, 12, 25, 6, 30, 31, 32, 33, 39, 40, 41, 42, 43, 44, 45, 46, 59, 60, 61, 62, 63, 64, 65, 66, 67, 68, 69, 70, 71, 72, 73, 74, 75, 76, 77, 78, 79, 80, 81, 82, 83, 84, 85, 86, 87, 88, 89, 90, 91, 92, 93, 94, 95, 96, 97, 98, 99, 100, 101, 102, 103, 104, 105, 106, 107, 108, 109, 110, 111, 112, 113] (by decide +kernel) (by decide +kernel)
set_option maxRecDepth 20000 in
theorem gX11_book_X11_readNumber : GoodIn wsX11_book (wsV RX11 194 RX11 yX11_readNumber wsX11_readNumber) := goodIn_app (goodIn_of _ (by decide +kernel)) ggX11_book_X11_readNumber
set_option maxRecDepth 20000 in
theorem ggX11_book_X11_wrong : GoodIn wsX11_book wsX11_wrong := goodIn_r _ [45, 6, 46, 59, 60, 61, 62, 63, 64, 65, 66, 67, 68, 69, 70, 71, 72, 73, 74, 75, 76, 77, 78, 79, 80, 81, 82, 83, 84, 85, 86, 87, 88, 89, 90, 91, 92, 93, 94, 95, 96, 97, 98, 99, 100, 101, 102, 103, 104, 105, 106, 107, 108, 109, 110, 111, 112, 113] (by decide +kernel) (by decide +kernel)
set_option maxRecDepth 20000 in
theorem gX11_book_X11_wrong : GoodIn wsX11_book (wsV RX11 150 RX11 yX11_wrong wsX11_wrong) := goodIn_app (goodIn_of _ (by decide +kernel)) ggX11_book_X11_wrong
set_option maxRecDepth 20000 in
theorem ggX11_book_X11_sign : GoodIn wsX11_book wsX11_sign := goodIn_r _ [50, 4, 22, 23, 24, 12, 25, 6, 30, 31, 32, 33, 20, 34, 42, 43, 44, 45, 46, 59, 60, 61, 62, 63, 64, 65, 66, 67, 68, 69, 70, 71, 72, 73, 74, 75, 76, 77, 78, 79, 80, 81, 82, 83, 84, 85, 86, 87, 88, 89, 90, 91, 92, 93, 94, 95, 96, 97, 98, 99, 100, 101, 102, 103, 104, 105, 106, 107, 108, 109, 110, 111, 112, 113] (by decide +kernel) (by decide +kernel)
set_option maxRecDepth 20000 in
theorem gX11_book_X11_sign : GoodIn wsX11_book (wsV RX11 239 RX11 yX11_sign wsX11_sign) := goodIn_app (goodIn_of _ (by decide +kernel)) ggX11_book_X11_sign
set_option maxRecDepth 20000 in
theorem ggX11_book_X11_result : GoodIn wsX11_book wsX11_result := goodIn_r _ [54, 6, 19, 46, 22, 23, 24, 12, 25, 59, 60, 61, 62, 63, 64, 65, 66, 67, 68, 69, 70, 71, 72, 73, 74, 75, 76, 77, 78, 79, 80, 81, 82, 83, 84, 85, 86, 87, 88, 89, 90, 91, 92, 93, 94, 95, 96, 97, 98, 99, 100, 101, 102, 103, 104, 105, 106, 107, 108, 109, 110, 111, 112, 113] (by decide +kernel) (by decide +kernel)
set_option maxRecDepth 20000 in
theorem gX11_book_X11_result : GoodIn wsX11_book (wsV RX11 242 RX11 yX11_result wsX11_result) := goodIn_app (goodIn_of _ (by decide +kernel)) ggX11_book_X11_result
set_option maxRecDepth 20000 in
theorem ggX11_book_X11_copies : GoodIn wsX11_book wsX11_copies := goodIn_r _ [58] (by decide +kernel) (by decide +kernel)
set_option maxRecDepth 20000 in
theorem gX11_book_X11_copies : GoodIn wsX11_book (wsV RX11 175 RX11 yX11_copies wsX11_copies) := goodIn_app (goodIn_of _ (by decide +kernel)) ggX11_book_X11_copies
set_option maxRecDepth 20000 in
theorem ggX11_caughtNow_X11_isCaught : GoodIn wsX11_caughtNow wsX11_isCaught := goodIn_r _ [6, 7, 8, 9, 10, 11, 12, 13, 14, 15, 16, 17, 18, 19, 20, 21, 22, 23, 24, 25, 26, 27, 28, 29, 30, 31, 32, 33, 34, 35, 36, 37, 38, 39, 40, 41, 42, 43, 44, 45, 46, 47, 48, 49, 50, 51, 52, 53, 54, 55, 56, 57, 58, 59, 60, 61, 62] (by decide +kernel) (by decide +kernel)
set_option maxRecDepth 20000 in
theorem gX11_caughtNow_X11_isCaught : GoodIn wsX11_caughtNow (wsV RX11 340 RX11 yX11_isCaught wsX11_isCaught) := goodIn_app (goodIn_of _ (by decide +kernel)) ggX11_caughtNow_X11_isCaught
set_option maxRecDepth 20000 in
theorem ggX11_bitsTold_X11_wouldBeCaught : GoodIn wsX11_bitsTold wsX11_wouldBeCaught := goodIn_r _ [7, 2, 8, 9, 10, 6, 11, 12, 13, 14, 15, 16, 17, 18, 19, 20, 21, 22, 23, 24, 25, 26, 27, 28, 29, 30, 31, 32, 33, 34, 35, 36, 37, 38, 39, 40, 41, 42, 43, 44, 45, 46, 47, 48, 49, 50, 51, 52, 53, 54, 55, 56, 57, 58, 59, 60, 61, 62, 63, 64, 65, 66, 67, 68, 69, 70, 71, 72, 73, 74, 75, 76] (by decide +kernel) (by decide +kernel)
set_option maxRecDepth 20000 in
theorem gX11_bitsTold_X11_wouldBeCaught : GoodIn wsX11_bitsTold (wsV RX11 371 RX11 yX11_wouldBeCaught wsX11_wouldBeCaught) := goodIn_app (goodIn_of _ (by decide +kernel)) ggX11_bitsTold_X11_wouldBeCaught
set_option maxRecDepth 20000 in
theorem ggX11_safeForms_X11_isSafe : GoodIn wsX11_safeForms wsX11_isSafe := goodIn_r _ [6, 7, 8, 9, 10, 11, 5, 12, 13, 14, 15, 16, 17, 18, 19, 20, 21, 22, 23, 24, 25, 26, 27, 28, 29, 30, 31, 32, 33, 34, 35, 36, 37, 38, 39, 40, 41, 42, 43, 44, 45, 46, 47, 48, 49, 50, 51, 52, 53, 54, 55, 56, 57, 58, 59, 60, 61, 62, 63, 64, 65, 66, 67] (by decide +kernel) (by decide +kernel)
set_option maxRecDepth 20000 in
theorem gX11_safeForms_X11_isSafe : GoodIn wsX11_safeForms (wsV RX11 368 RX11 yX11_isSafe wsX11_isSafe) := goodIn_app (goodIn_of _ (by decide +kernel)) ggX11_safeForms_X11_isSafe
set_option maxRecDepth 20000 in
theorem ggX11_told_X11_within : GoodIn wsX11_told wsX11_within := goodIn_r _ [11] (by decide +kernel) (by decide +kernel)
set_option maxRecDepth 20000 in
theorem gX11_told_X11_within : GoodIn wsX11_told (va_wsS RX11 390 yX11_within wsX11_within) := goodIn_app (goodIn_of _ (by decide +kernel)) ggX11_told_X11_within
set_option maxRecDepth 20000 in
theorem ggX11_told_X11_may : GoodIn wsX11_told wsX11_may := goodIn_r _ [15, 1, 16, 59, 60, 61, 62, 63, 64, 65, 66, 67, 68, 69, 70, 71, 72, 73, 74, 75, 76, 77, 78, 79, 80, 81, 82, 83, 84, 85, 86, 87, 88, 89, 90, 91, 92, 93, 94, 95, 96, 97, 98, 99, 100, 101, 102, 103, 104, 105, 106, 107, 108, 109, 110, 111, 112, 113] (by decide +kernel) (by decide +kernel)
set_option maxRecDepth 20000 in
theorem gX11_told_X11_may : GoodIn wsX11_told (wsV RX11 213 RX11 yX11_may wsX11_may) := goodIn_app (goodIn_of _ (by decide +kernel)) ggX11_told_X11_may
