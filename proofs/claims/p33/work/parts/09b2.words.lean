set_option maxRecDepth 20000 in
theorem ggX10_march_X1_caughtOnes : GoodIn wsX10_march wsX1_caughtOnes := qaf qq5 (by decide +kernel) qOX
set_option maxRecDepth 20000 in
theorem gX10_march_X1_caughtOnes : GoodIn wsX10_march (wsV RX10 194 RX1 yX1_caughtOnes wsX1_caughtOnes) := goodIn_app (qag qq5 [2560, 2561, 2562, 78] rfl (by decide +kernel)) ggX10_march_X1_caughtOnes
set_option maxRecDepth 20000 in
theorem ggX10_march_X1_strongTogether : GoodIn wsX10_march wsX1_strongTogether := qaf qq5 (by decide +kernel) qab8
set_option maxRecDepth 20000 in
theorem gX10_march_X1_strongTogether : GoodIn wsX10_march (wsV RX10 378 RX1 yX1_strongTogether wsX1_strongTogether) := goodIn_app (qag qq5 [4102, 4103, 4104, 78] rfl (by decide +kernel)) ggX10_march_X1_strongTogether
set_option maxRecDepth 20000 in
theorem ggX10_march_X1_day : GoodIn wsX10_march wsX1_day := qaf qq5 (by decide +kernel) qauZ
set_option maxRecDepth 20000 in
theorem gX10_march_X1_day : GoodIn wsX10_march (wsV RX10 187 RX1 yX1_day wsX1_day) := goodIn_app (qag qq5 [2518, 1873, 1874, 78] rfl (by decide +kernel)) ggX10_march_X1_day
set_option maxRecDepth 20000 in
theorem ggX10_span_X10_needWithin : GoodIn wsX10_span wsX10_needWithin := goodIn_ca (qaf qnA (by decide +kernel) qdG) (goodIn_sub (fun _ h => List.mem_cons_of_mem _ (List.mem_append_right _ h)) (by decide +kernel))
set_option maxRecDepth 20000 in
theorem gX10_span_X10_needWithin : GoodIn wsX10_span (wsV RX10 180 RX10 yX10_needWithin wsX10_needWithin) := goodIn_app (qag qnA [653, 654, 655, 2] rfl (by decide +kernel)) ggX10_span_X10_needWithin
set_option maxRecDepth 20000 in
theorem ggX10_span_X1_copyFrom : GoodIn wsX10_span wsX1_copyFrom := qaf qnA (by decide +kernel) qWr
set_option maxRecDepth 20000 in
theorem gX10_span_X1_copyFrom : GoodIn wsX10_span (wsV RX10 297 RX1 yX1_copyFrom wsX1_copyFrom) := goodIn_app (qag qnA [2961, 2962, 2963, 78] rfl (by decide +kernel)) ggX10_span_X1_copyFrom
set_option maxRecDepth 20000 in
theorem ggX10_span_X1_drawDays : GoodIn wsX10_span wsX1_drawDays := qaf qnA (by decide +kernel) qahJ
set_option maxRecDepth 20000 in
theorem gX10_span_X1_drawDays : GoodIn wsX10_span (wsV RX10 375 RX1 yX1_drawDays wsX1_drawDays) := goodIn_app (qag qnA [4037, 4038, 4039, 78] rfl (by decide +kernel)) ggX10_span_X1_drawDays
set_option maxRecDepth 20000 in
theorem ggX10_span_X1_isCaught : GoodIn wsX10_span wsX1_isCaught := qaf qnA (by decide +kernel) qoU
set_option maxRecDepth 20000 in
theorem gX10_span_X1_isCaught : GoodIn wsX10_span (wsV RX10 230 RX1 yX1_isCaught wsX1_isCaught) := goodIn_app (qag qnA [2755, 1742, 1743, 78] rfl (by decide +kernel)) ggX10_span_X1_isCaught
set_option maxRecDepth 20000 in
theorem ggX10_image_X5_copyFrom : GoodIn wsX10_image wsX5_copyFrom := qaf qz0 (by decide +kernel) qaf0
set_option maxRecDepth 20000 in
theorem gX10_image_X5_copyFrom : GoodIn wsX10_image (wsV RX10 392 RX5 yX5_copyFrom wsX5_copyFrom) := goodIn_app (qag qz0 [4181, 4182, 4183, 83] rfl (by decide +kernel)) ggX10_image_X5_copyFrom
set_option maxRecDepth 20000 in
theorem ggX10_image_X5_push : GoodIn wsX10_image wsX5_push := qaf qz0 (by decide +kernel) qaST
set_option maxRecDepth 20000 in
theorem gX10_image_X5_push : GoodIn wsX10_image (wsV RX10 155 RX5 yX5_push wsX5_push) := goodIn_app (qag qz0 [1672, 1673, 1674, 83] rfl (by decide +kernel)) ggX10_image_X5_push
set_option maxRecDepth 20000 in
theorem ggX10_restore_X5_pop : GoodIn wsX10_restore wsX5_pop := qaf qtL (by decide +kernel) qa0R
set_option maxRecDepth 20000 in
theorem gX10_restore_X5_pop : GoodIn wsX10_restore (wsV RX10 177 RX5 yX5_pop wsX5_pop) := goodIn_app (qag qtL [2501, 2502, 2503, 83] rfl (by decide +kernel)) ggX10_restore_X5_pop
set_option maxRecDepth 20000 in
theorem ggX10_restore_X5_copyFrom : GoodIn wsX10_restore wsX5_copyFrom := qaf qtL (by decide +kernel) qaf0
set_option maxRecDepth 20000 in
theorem gX10_restore_X5_copyFrom : GoodIn wsX10_restore (wsV RX10 392 RX5 yX5_copyFrom wsX5_copyFrom) := goodIn_app (qag qtL [4181, 4182, 4183, 83] rfl (by decide +kernel)) ggX10_restore_X5_copyFrom
set_option maxRecDepth 20000 in
theorem ggX10_openText_X10_needWithin : GoodIn wsX10_openText wsX10_needWithin := goodIn_ca (qaf qpp (by decide +kernel) qdG) (goodIn_sub (fun _ h => List.mem_cons_of_mem _ (List.mem_append_right _ h)) (by decide +kernel))
set_option maxRecDepth 20000 in
theorem gX10_openText_X10_needWithin : GoodIn wsX10_openText (wsV RX10 180 RX10 yX10_needWithin wsX10_needWithin) := goodIn_app (qag qpp [653, 654, 655, 2] rfl (by decide +kernel)) ggX10_openText_X10_needWithin
set_option maxRecDepth 20000 in
theorem ggX10_openText_X8_open : GoodIn wsX10_openText wsX8_open := qaf qpp (by decide +kernel) qa72
set_option maxRecDepth 20000 in
theorem gX10_openText_X8_open : GoodIn wsX10_openText (wsV RX10 398 RX8 yX8_open wsX8_open) := goodIn_app (qag qpp [707, 708, 709, 15] rfl (by decide +kernel)) ggX10_openText_X8_open
set_option maxRecDepth 20000 in
theorem ggX10_needForm_X10_within : GoodIn wsX10_needForm wsX10_within := qaf qtP (by decide +kernel) qCb
set_option maxRecDepth 20000 in
theorem gX10_needForm_X10_within : GoodIn wsX10_needForm (va_wsS RX10 257 yX10_within wsX10_within) := goodIn_app (qag qtP [657, 658, 2] rfl (by decide +kernel)) ggX10_needForm_X10_within
set_option maxRecDepth 20000 in
theorem ggX10_needHare_X10_within : GoodIn wsX10_needHare wsX10_within := qaf qtD (by decide +kernel) qCb
set_option maxRecDepth 20000 in
theorem gX10_needHare_X10_within : GoodIn wsX10_needHare (va_wsS RX10 257 yX10_within wsX10_within) := goodIn_app (qag qtD [657, 658, 2] rfl (by decide +kernel)) ggX10_needHare_X10_within
set_option maxRecDepth 20000 in
theorem ggX10_needWithin_X10_within : GoodIn wsX10_needWithin wsX10_within := qaf qEF (by decide +kernel) qCb
set_option maxRecDepth 20000 in
theorem gX10_needWithin_X10_within : GoodIn wsX10_needWithin (va_wsS RX10 257 yX10_within wsX10_within) := goodIn_app (qag qEF [657, 658, 2] rfl (by decide +kernel)) ggX10_needWithin_X10_within
set_option maxRecDepth 20000 in
theorem ggX10_needWithin_X10_needLegal : GoodIn wsX10_needWithin wsX10_needLegal := goodIn_ca (qaf qEF (by decide +kernel) q1n) (goodIn_sub (fun _ h => List.mem_cons_of_mem _ (List.mem_append_right _ h)) (by decide +kernel))
set_option maxRecDepth 20000 in
theorem gX10_needWithin_X10_needLegal : GoodIn wsX10_needWithin (wsV RX10 322 RX10 yX10_needLegal wsX10_needLegal) := goodIn_app (qag qEF [660, 661, 662, 2] rfl (by decide +kernel)) ggX10_needWithin_X10_needLegal
set_option maxRecDepth 20000 in
theorem ggX10_ordersWon_X10_holds : GoodIn wsX10_ordersWon wsX10_holds := qaf qk0 (by decide +kernel) qq0
set_option maxRecDepth 20000 in
theorem gX10_ordersWon_X10_holds : GoodIn wsX10_ordersWon (va_wsS RX10 332 yX10_holds wsX10_holds) := goodIn_app (qag qk0 [3400, 2052, 2] rfl (by decide +kernel)) ggX10_ordersWon_X10_holds
set_option maxRecDepth 20000 in
theorem ggX10_ordersWon_X1_strong : GoodIn wsX10_ordersWon wsX1_strong := qaf qk0 (by decide +kernel) qFh
set_option maxRecDepth 20000 in
theorem gX10_ordersWon_X1_strong : GoodIn wsX10_ordersWon (wsV RX10 236 RX1 yX1_strong wsX1_strong) := goodIn_app (qag qk0 [2757, 1809, 1810, 78] rfl (by decide +kernel)) ggX10_ordersWon_X1_strong
set_option maxRecDepth 20000 in
theorem ggX10_ordersWon_X10_ordersWon : GoodIn wsX10_ordersWon wsX10_ordersWon := qaf qk0 (by decide +kernel) q2L
set_option maxRecDepth 20000 in
theorem gX10_ordersWon_X10_ordersWon : GoodIn wsX10_ordersWon (va_wsS RX10 335 yX10_ordersWon wsX10_ordersWon) := goodIn_app (qag qk0 [3401, 3402, 2] rfl (by decide +kernel)) ggX10_ordersWon_X10_ordersWon
set_option maxRecDepth 20000 in
theorem ggX11_init_X11_clears : GoodIn wsX11_init wsX11_clears := qaf qcy (by decide +kernel) qaoy
set_option maxRecDepth 20000 in
theorem gX11_init_X11_clears : GoodIn wsX11_init (wsV RX11 105 RX11 yX11_clears wsX11_clears) := goodIn_app (qag qcy [468, 469, 470, 5] rfl (by decide +kernel)) ggX11_init_X11_clears
set_option maxRecDepth 20000 in
theorem ggX11_init_X11_sets : GoodIn wsX11_init wsX11_sets := qaf qcy (by decide +kernel) qaLN
set_option maxRecDepth 20000 in
theorem gX11_init_X11_sets : GoodIn wsX11_init (wsV RX11 108 RX11 yX11_sets wsX11_sets) := goodIn_app (qag qcy [515, 516, 517, 5] rfl (by decide +kernel)) ggX11_init_X11_sets
set_option maxRecDepth 20000 in
theorem ggX11_word_X11_here : GoodIn wsX11_word wsX11_here := qaf qGv (by decide +kernel) qAE
set_option maxRecDepth 20000 in
theorem gX11_word_X11_here : GoodIn wsX11_word (wsV RX11 126 RX11 yX11_here wsX11_here) := goodIn_app (qag qGv [1163, 1164, 1165, 5] rfl (by decide +kernel)) ggX11_word_X11_here
set_option maxRecDepth 20000 in
theorem ggX11_word_X11_isSmall : GoodIn wsX11_word wsX11_isSmall := qaf qGv (by decide +kernel) qadn
set_option maxRecDepth 20000 in
theorem gX11_word_X11_isSmall : GoodIn wsX11_word (va_wsS RX11 130 yX11_isSmall wsX11_isSmall) := goodIn_app (qag qGv [1171, 1172, 5] rfl (by decide +kernel)) ggX11_word_X11_isSmall
set_option maxRecDepth 20000 in
theorem ggX11_of_J0_length_8abf5 : GoodIn wsX11_of wsJ0_length_8abf5 := qaf qau7 (by decide +kernel) qVw
set_option maxRecDepth 20000 in
theorem gX11_of_J0_length_8abf5 : GoodIn wsX11_of (wsV RX11 134 RJ0 yJ0_length_8abf5 wsJ0_length_8abf5) := goodIn_app (qag qau7 [1220, 784, 785, 786] rfl (by decide +kernel)) ggX11_of_J0_length_8abf5
set_option maxRecDepth 20000 in
theorem ggX11_of_J0_charAt_5068e : GoodIn wsX11_of wsJ0_charAt_5068e := qaf qau7 (by decide +kernel) qV2
set_option maxRecDepth 20000 in
theorem gX11_of_J0_charAt_5068e : GoodIn wsX11_of (wsV RX11 139 RJ0 yJ0_charAt_5068e wsJ0_charAt_5068e) := goodIn_app (qag qau7 [1221, 841, 842, 786] rfl (by decide +kernel)) ggX11_of_J0_charAt_5068e
set_option maxRecDepth 20000 in
theorem ggX11_pass_X11_isSmall : GoodIn wsX11_pass wsX11_isSmall := qaf qOE (by decide +kernel) qadn
set_option maxRecDepth 20000 in
theorem gX11_pass_X11_isSmall : GoodIn wsX11_pass (va_wsS RX11 130 yX11_isSmall wsX11_isSmall) := goodIn_app (qag qOE [1171, 1172, 5] rfl (by decide +kernel)) ggX11_pass_X11_isSmall
set_option maxRecDepth 20000 in
theorem ggX11_readNumber_X11_fine : GoodIn wsX11_readNumber wsX11_fine := qaf qmZ (by decide +kernel) qsV
set_option maxRecDepth 20000 in
theorem gX11_readNumber_X11_fine : GoodIn wsX11_readNumber (wsV RX11 143 RX11 yX11_fine wsX11_fine) := goodIn_app (qag qmZ [1155, 1156, 1157, 5] rfl (by decide +kernel)) ggX11_readNumber_X11_fine
set_option maxRecDepth 20000 in
theorem ggX11_readNumber_X11_here : GoodIn wsX11_readNumber wsX11_here := qaf qmZ (by decide +kernel) qAE
set_option maxRecDepth 20000 in
theorem gX11_readNumber_X11_here : GoodIn wsX11_readNumber (wsV RX11 126 RX11 yX11_here wsX11_here) := goodIn_app (qag qmZ [1163, 1164, 1165, 5] rfl (by decide +kernel)) ggX11_readNumber_X11_here
set_option maxRecDepth 20000 in
theorem ggX11_readNumber_X11_isDigit : GoodIn wsX11_readNumber wsX11_isDigit := qaf qmZ (by decide +kernel) qagj
set_option maxRecDepth 20000 in
theorem gX11_readNumber_X11_isDigit : GoodIn wsX11_readNumber (va_wsS RX11 147 yX11_isDigit wsX11_isDigit) := goodIn_app (qag qmZ [1283, 1284, 5] rfl (by decide +kernel)) ggX11_readNumber_X11_isDigit
set_option maxRecDepth 20000 in
theorem ggX11_readNumber_X11_wrong : GoodIn wsX11_readNumber wsX11_wrong := qaf qmZ (by decide +kernel) qzR
set_option maxRecDepth 20000 in
theorem gX11_readNumber_X11_wrong : GoodIn wsX11_readNumber (wsV RX11 150 RX11 yX11_wrong wsX11_wrong) := goodIn_app (qag qmZ [1222, 1223, 1224, 5] rfl (by decide +kernel)) ggX11_readNumber_X11_wrong
set_option maxRecDepth 20000 in
theorem ggX11_sign_X11_fine : GoodIn wsX11_sign wsX11_fine := qaf qGr (by decide +kernel) qsV
set_option maxRecDepth 20000 in
theorem gX11_sign_X11_fine : GoodIn wsX11_sign (wsV RX11 143 RX11 yX11_fine wsX11_fine) := goodIn_app (qag qGr [1155, 1156, 1157, 5] rfl (by decide +kernel)) ggX11_sign_X11_fine
set_option maxRecDepth 20000 in
theorem ggX11_sign_X11_here : GoodIn wsX11_sign wsX11_here := qaf qGr (by decide +kernel) qAE
set_option maxRecDepth 20000 in
theorem gX11_sign_X11_here : GoodIn wsX11_sign (wsV RX11 126 RX11 yX11_here wsX11_here) := goodIn_app (qag qGr [1163, 1164, 1165, 5] rfl (by decide +kernel)) ggX11_sign_X11_here
set_option maxRecDepth 20000 in
theorem ggX11_sign_X11_wrong : GoodIn wsX11_sign wsX11_wrong := qaf qGr (by decide +kernel) qzR
set_option maxRecDepth 20000 in
theorem gX11_sign_X11_wrong : GoodIn wsX11_sign (wsV RX11 150 RX11 yX11_wrong wsX11_wrong) := goodIn_app (qag qGr [1222, 1223, 1224, 5] rfl (by decide +kernel)) ggX11_sign_X11_wrong
set_option maxRecDepth 20000 in
theorem ggX11_isMore_X11_here : GoodIn wsX11_isMore wsX11_here := qaf qLs (by decide +kernel) qAE
set_option maxRecDepth 20000 in
theorem gX11_isMore_X11_here : GoodIn wsX11_isMore (wsV RX11 126 RX11 yX11_here wsX11_here) := goodIn_app (qag qLs [1163, 1164, 1165, 5] rfl (by decide +kernel)) ggX11_isMore_X11_here
set_option maxRecDepth 20000 in
theorem ggX11_result_X11_fine : GoodIn wsX11_result wsX11_fine := qaf qGH (by decide +kernel) qsV
set_option maxRecDepth 20000 in
theorem gX11_result_X11_fine : GoodIn wsX11_result (wsV RX11 143 RX11 yX11_fine wsX11_fine) := goodIn_app (qag qGH [1155, 1156, 1157, 5] rfl (by decide +kernel)) ggX11_result_X11_fine
set_option maxRecDepth 20000 in
theorem ggX11_sets_X11_copies : GoodIn wsX11_sets wsX11_copies := qaf qm7 (by decide +kernel) qLe
set_option maxRecDepth 20000 in
theorem gX11_sets_X11_copies : GoodIn wsX11_sets (wsV RX11 175 RX11 yX11_copies wsX11_copies) := goodIn_app (qag qm7 [527, 528, 529, 5] rfl (by decide +kernel)) ggX11_sets_X11_copies
set_option maxRecDepth 20000 in
theorem ggX11_readHare_X11_readNumber : GoodIn wsX11_readHare wsX11_readNumber := qaf qKt (by decide +kernel) quK
set_option maxRecDepth 20000 in
theorem gX11_readHare_X11_readNumber : GoodIn wsX11_readHare (wsV RX11 194 RX11 yX11_readNumber wsX11_readNumber) := goodIn_app (qag qKt [1239, 1280, 1281, 5] rfl (by decide +kernel)) ggX11_readHare_X11_readNumber
set_option maxRecDepth 20000 in
theorem ggX11_readDebt_X11_readHare : GoodIn wsX11_readDebt wsX11_readHare := qaf qoi (by decide +kernel) qaIT
set_option maxRecDepth 20000 in
theorem gX11_readDebt_X11_readHare : GoodIn wsX11_readDebt (wsV RX11 198 RX11 yX11_readHare wsX11_readHare) := goodIn_app (qag qoi [1290, 1291, 1292, 5] rfl (by decide +kernel)) ggX11_readDebt_X11_readHare
set_option maxRecDepth 20000 in
theorem ggX11_readDebt_X11_here : GoodIn wsX11_readDebt wsX11_here := qaf qoi (by decide +kernel) qAE
set_option maxRecDepth 20000 in
theorem gX11_readDebt_X11_here : GoodIn wsX11_readDebt (wsV RX11 126 RX11 yX11_here wsX11_here) := goodIn_app (qag qoi [1163, 1164, 1165, 5] rfl (by decide +kernel)) ggX11_readDebt_X11_here
set_option maxRecDepth 20000 in
theorem ggX11_readDebt_X11_fine : GoodIn wsX11_readDebt wsX11_fine := qaf qoi (by decide +kernel) qsV
set_option maxRecDepth 20000 in
theorem gX11_readDebt_X11_fine : GoodIn wsX11_readDebt (wsV RX11 143 RX11 yX11_fine wsX11_fine) := goodIn_app (qag qoi [1155, 1156, 1157, 5] rfl (by decide +kernel)) ggX11_readDebt_X11_fine
set_option maxRecDepth 20000 in
theorem ggX11_readDebt_X11_wrong : GoodIn wsX11_readDebt wsX11_wrong := qaf qoi (by decide +kernel) qzR
set_option maxRecDepth 20000 in
theorem gX11_readDebt_X11_wrong : GoodIn wsX11_readDebt (wsV RX11 150 RX11 yX11_wrong wsX11_wrong) := goodIn_app (qag qoi [1222, 1223, 1224, 5] rfl (by decide +kernel)) ggX11_readDebt_X11_wrong
set_option maxRecDepth 20000 in
theorem ggX11_readDebt_X11_readNumber : GoodIn wsX11_readDebt wsX11_readNumber := qaf qoi (by decide +kernel) quK
set_option maxRecDepth 20000 in
theorem gX11_readDebt_X11_readNumber : GoodIn wsX11_readDebt (wsV RX11 194 RX11 yX11_readNumber wsX11_readNumber) := goodIn_app (qag qoi [1239, 1280, 1281, 5] rfl (by decide +kernel)) ggX11_readDebt_X11_readNumber
set_option maxRecDepth 20000 in
theorem ggX11_isRow_X11_of : GoodIn wsX11_isRow wsX11_of := qaf qaCA (by decide +kernel) q4U
set_option maxRecDepth 20000 in
theorem gX11_isRow_X11_of : GoodIn wsX11_isRow (va_wsS RX11 202 yX11_of wsX11_of) := goodIn_app (qag qaCA [1217, 1218, 5] rfl (by decide +kernel)) ggX11_isRow_X11_of
set_option maxRecDepth 20000 in
theorem ggX11_isFull_X11_of : GoodIn wsX11_isFull wsX11_of := qaf qGp (by decide +kernel) q4U
set_option maxRecDepth 20000 in
theorem gX11_isFull_X11_of : GoodIn wsX11_isFull (va_wsS RX11 202 yX11_of wsX11_of) := goodIn_app (qag qGp [1217, 1218, 5] rfl (by decide +kernel)) ggX11_isFull_X11_of
set_option maxRecDepth 20000 in
theorem ggX11_readRow_X11_of : GoodIn wsX11_readRow wsX11_of := qaf qpH (by decide +kernel) q4U
set_option maxRecDepth 20000 in
theorem gX11_readRow_X11_of : GoodIn wsX11_readRow (va_wsS RX11 202 yX11_of wsX11_of) := goodIn_app (qag qpH [1217, 1218, 5] rfl (by decide +kernel)) ggX11_readRow_X11_of
set_option maxRecDepth 20000 in
theorem ggX11_readRow_X11_readNumber : GoodIn wsX11_readRow wsX11_readNumber := qaf qpH (by decide +kernel) quK
set_option maxRecDepth 20000 in
theorem gX11_readRow_X11_readNumber : GoodIn wsX11_readRow (wsV RX11 194 RX11 yX11_readNumber wsX11_readNumber) := goodIn_app (qag qpH [1239, 1280, 1281, 5] rfl (by decide +kernel)) ggX11_readRow_X11_readNumber
set_option maxRecDepth 20000 in
theorem ggX11_readRow_X11_readDebt : GoodIn wsX11_readRow wsX11_readDebt := qaf qpH (by decide +kernel) qaJ1
set_option maxRecDepth 20000 in
theorem gX11_readRow_X11_readDebt : GoodIn wsX11_readRow (wsV RX11 210 RX11 yX11_readDebt wsX11_readDebt) := goodIn_app (qag qpH [1286, 1287, 1288, 5] rfl (by decide +kernel)) ggX11_readRow_X11_readDebt
set_option maxRecDepth 20000 in
theorem ggX11_down_X11_may : GoodIn wsX11_down wsX11_may := qaf qdJ (by decide +kernel) qoO
set_option maxRecDepth 20000 in
theorem gX11_down_X11_may : GoodIn wsX11_down (wsV RX11 213 RX11 yX11_may wsX11_may) := goodIn_app (qag qdJ [1105, 1106, 1107, 5] rfl (by decide +kernel)) ggX11_down_X11_may
set_option maxRecDepth 20000 in
theorem ggX11_down_X11_begins : GoodIn wsX11_down wsX11_begins := qaf qdJ (by decide +kernel) qRI
set_option maxRecDepth 20000 in
theorem gX11_down_X11_begins : GoodIn wsX11_down (wsV RX11 217 RX11 yX11_begins wsX11_begins) := goodIn_app (qag qdJ [1109, 1110, 1111, 5] rfl (by decide +kernel)) ggX11_down_X11_begins
set_option maxRecDepth 20000 in
theorem ggX11_down_X11_clears : GoodIn wsX11_down wsX11_clears := qaf qdJ (by decide +kernel) qaoy
set_option maxRecDepth 20000 in
theorem gX11_down_X11_clears : GoodIn wsX11_down (wsV RX11 105 RX11 yX11_clears wsX11_clears) := goodIn_app (qag qdJ [468, 469, 470, 5] rfl (by decide +kernel)) ggX11_down_X11_clears
set_option maxRecDepth 20000 in
theorem ggX11_down_X11_fine : GoodIn wsX11_down wsX11_fine := qaf qdJ (by decide +kernel) qsV
set_option maxRecDepth 20000 in
theorem gX11_down_X11_fine : GoodIn wsX11_down (wsV RX11 143 RX11 yX11_fine wsX11_fine) := goodIn_app (qag qdJ [1155, 1156, 1157, 5] rfl (by decide +kernel)) ggX11_down_X11_fine
set_option maxRecDepth 20000 in
theorem ggX11_down_X11_isMore : GoodIn wsX11_down wsX11_isMore := qaf qdJ (by decide +kernel) qR9
set_option maxRecDepth 20000 in
theorem gX11_down_X11_isMore : GoodIn wsX11_down (wsV RX11 221 RX11 yX11_isMore wsX11_isMore) := goodIn_app (qag qdJ [1159, 1160, 1161, 5] rfl (by decide +kernel)) ggX11_down_X11_isMore
set_option maxRecDepth 20000 in
theorem ggX11_down_X11_word : GoodIn wsX11_down wsX11_word := qaf qdJ (by decide +kernel) q5k
set_option maxRecDepth 20000 in
theorem gX11_down_X11_word : GoodIn wsX11_down (wsV RX11 224 RX11 yX11_word wsX11_word) := goodIn_app (qag qdJ [1167, 1168, 1169, 5] rfl (by decide +kernel)) ggX11_down_X11_word
set_option maxRecDepth 20000 in
theorem ggX11_down_X11_isRow : GoodIn wsX11_down wsX11_isRow := qaf qdJ (by decide +kernel) qaZI
set_option maxRecDepth 20000 in
theorem gX11_down_X11_isRow : GoodIn wsX11_down (va_wsS RX11 227 yX11_isRow wsX11_isRow) := goodIn_app (qag qdJ [1174, 1175, 5] rfl (by decide +kernel)) ggX11_down_X11_isRow
set_option maxRecDepth 20000 in
theorem ggX11_down_X11_wrong : GoodIn wsX11_down wsX11_wrong := qaf qdJ (by decide +kernel) qzR
set_option maxRecDepth 20000 in
theorem gX11_down_X11_wrong : GoodIn wsX11_down (wsV RX11 150 RX11 yX11_wrong wsX11_wrong) := goodIn_app (qag qdJ [1222, 1223, 1224, 5] rfl (by decide +kernel)) ggX11_down_X11_wrong
set_option maxRecDepth 20000 in
theorem ggX11_down_X11_isFull : GoodIn wsX11_down wsX11_isFull := qaf qdJ (by decide +kernel) qaVP
set_option maxRecDepth 20000 in
theorem gX11_down_X11_isFull : GoodIn wsX11_down (wsV RX11 230 RX11 yX11_isFull wsX11_isFull) := goodIn_app (qag qdJ [1227, 1228, 1229, 5] rfl (by decide +kernel)) ggX11_down_X11_isFull
set_option maxRecDepth 20000 in
theorem ggX11_down_X11_pass : GoodIn wsX11_down wsX11_pass := qaf qdJ (by decide +kernel) qajF
set_option maxRecDepth 20000 in
theorem gX11_down_X11_pass : GoodIn wsX11_down (wsV RX11 233 RX11 yX11_pass wsX11_pass) := goodIn_app (qag qdJ [1231, 1232, 1233, 5] rfl (by decide +kernel)) ggX11_down_X11_pass
set_option maxRecDepth 20000 in
theorem ggX11_down_X11_readRow : GoodIn wsX11_down wsX11_readRow := qaf qdJ (by decide +kernel) qaMU
set_option maxRecDepth 20000 in
theorem gX11_down_X11_readRow : GoodIn wsX11_down (wsV RX11 236 RX11 yX11_readRow wsX11_readRow) := goodIn_app (qag qdJ [1235, 1236, 1237, 5] rfl (by decide +kernel)) ggX11_down_X11_readRow
set_option maxRecDepth 20000 in
theorem ggX11_down_X11_sign : GoodIn wsX11_down wsX11_sign := qaf qdJ (by decide +kernel) qVi
set_option maxRecDepth 20000 in
theorem gX11_down_X11_sign : GoodIn wsX11_down (wsV RX11 239 RX11 yX11_sign wsX11_sign) := goodIn_app (qag qdJ [1294, 1295, 1296, 5] rfl (by decide +kernel)) ggX11_down_X11_sign
set_option maxRecDepth 20000 in
theorem ggX11_down_X11_result : GoodIn wsX11_down wsX11_result := qaf qdJ (by decide +kernel) qSA
set_option maxRecDepth 20000 in
theorem gX11_down_X11_result : GoodIn wsX11_down (wsV RX11 242 RX11 yX11_result wsX11_result) := goodIn_app (qag qdJ [1298, 1299, 1300, 5] rfl (by decide +kernel)) ggX11_down_X11_result
set_option maxRecDepth 20000 in
theorem ggX11_down_X11_sets : GoodIn wsX11_down wsX11_sets := qaf qdJ (by decide +kernel) qaLN
set_option maxRecDepth 20000 in
theorem gX11_down_X11_sets : GoodIn wsX11_down (wsV RX11 108 RX11 yX11_sets wsX11_sets) := goodIn_app (qag qdJ [515, 516, 517, 5] rfl (by decide +kernel)) ggX11_down_X11_sets
set_option maxRecDepth 20000 in
theorem ggX11_emit_X11_fine : GoodIn wsX11_emit wsX11_fine := qaf qOD (by decide +kernel) qsV
set_option maxRecDepth 20000 in
theorem gX11_emit_X11_fine : GoodIn wsX11_emit (wsV RX11 143 RX11 yX11_fine wsX11_fine) := goodIn_app (qag qOD [1155, 1156, 1157, 5] rfl (by decide +kernel)) ggX11_emit_X11_fine
set_option maxRecDepth 20000 in
theorem ggX11_opensOne_X11_fine : GoodIn wsX11_opensOne wsX11_fine := qaf qxC (by decide +kernel) qsV
set_option maxRecDepth 20000 in
theorem gX11_opensOne_X11_fine : GoodIn wsX11_opensOne (wsV RX11 143 RX11 yX11_fine wsX11_fine) := goodIn_app (qag qxC [1155, 1156, 1157, 5] rfl (by decide +kernel)) ggX11_opensOne_X11_fine
set_option maxRecDepth 20000 in
theorem ggX11_opensOne_X11_wrong : GoodIn wsX11_opensOne wsX11_wrong := qaf qxC (by decide +kernel) qzR
set_option maxRecDepth 20000 in
theorem gX11_opensOne_X11_wrong : GoodIn wsX11_opensOne (wsV RX11 150 RX11 yX11_wrong wsX11_wrong) := goodIn_app (qag qxC [1222, 1223, 1224, 5] rfl (by decide +kernel)) ggX11_opensOne_X11_wrong
set_option maxRecDepth 20000 in
theorem ggX11_readSum_X11_readProduct : GoodIn wsX11_readSum wsX11_readProduct := qaf qqS (by decide +kernel) qajB
set_option maxRecDepth 20000 in
theorem gX11_readSum_X11_readProduct : GoodIn wsX11_readSum (wsV RX11 249 RX11 yX11_readProduct wsX11_readProduct) := goodIn_app (qag qqS [1486, 1487, 1488, 5] rfl (by decide +kernel)) ggX11_readSum_X11_readProduct
set_option maxRecDepth 20000 in
theorem ggX11_readSum_X11_fine : GoodIn wsX11_readSum wsX11_fine := qaf qqS (by decide +kernel) qsV
set_option maxRecDepth 20000 in
theorem gX11_readSum_X11_fine : GoodIn wsX11_readSum (wsV RX11 143 RX11 yX11_fine wsX11_fine) := goodIn_app (qag qqS [1155, 1156, 1157, 5] rfl (by decide +kernel)) ggX11_readSum_X11_fine
set_option maxRecDepth 20000 in
theorem ggX11_readSum_X11_here : GoodIn wsX11_readSum wsX11_here := qaf qqS (by decide +kernel) qAE
set_option maxRecDepth 20000 in
theorem gX11_readSum_X11_here : GoodIn wsX11_readSum (wsV RX11 126 RX11 yX11_here wsX11_here) := goodIn_app (qag qqS [1163, 1164, 1165, 5] rfl (by decide +kernel)) ggX11_readSum_X11_here
set_option maxRecDepth 20000 in
theorem ggX11_readSum_X11_emit : GoodIn wsX11_readSum wsX11_emit := qaf qqS (by decide +kernel) q4V
set_option maxRecDepth 20000 in
theorem gX11_readSum_X11_emit : GoodIn wsX11_readSum (wsV RX11 252 RX11 yX11_emit wsX11_emit) := goodIn_app (qag qqS [1489, 1490, 1491, 5] rfl (by decide +kernel)) ggX11_readSum_X11_emit
set_option maxRecDepth 20000 in
theorem ggX11_readProduct_X11_readUnit : GoodIn wsX11_readProduct wsX11_readUnit := qaf qkP (by decide +kernel) qaJQ
set_option maxRecDepth 20000 in
theorem gX11_readProduct_X11_readUnit : GoodIn wsX11_readProduct (wsV RX11 255 RX11 yX11_readUnit wsX11_readUnit) := goodIn_app (qag qkP [1494, 1495, 1536, 5] rfl (by decide +kernel)) ggX11_readProduct_X11_readUnit
set_option maxRecDepth 20000 in
theorem ggX11_readProduct_X11_fine : GoodIn wsX11_readProduct wsX11_fine := qaf qkP (by decide +kernel) qsV
set_option maxRecDepth 20000 in
theorem gX11_readProduct_X11_fine : GoodIn wsX11_readProduct (wsV RX11 143 RX11 yX11_fine wsX11_fine) := goodIn_app (qag qkP [1155, 1156, 1157, 5] rfl (by decide +kernel)) ggX11_readProduct_X11_fine
set_option maxRecDepth 20000 in
theorem ggX11_readProduct_X11_here : GoodIn wsX11_readProduct wsX11_here := qaf qkP (by decide +kernel) qAE
set_option maxRecDepth 20000 in
theorem gX11_readProduct_X11_here : GoodIn wsX11_readProduct (wsV RX11 126 RX11 yX11_here wsX11_here) := goodIn_app (qag qkP [1163, 1164, 1165, 5] rfl (by decide +kernel)) ggX11_readProduct_X11_here
set_option maxRecDepth 20000 in
theorem ggX11_readProduct_X11_emit : GoodIn wsX11_readProduct wsX11_emit := qaf qkP (by decide +kernel) q4V
set_option maxRecDepth 20000 in
theorem gX11_readProduct_X11_emit : GoodIn wsX11_readProduct (wsV RX11 252 RX11 yX11_emit wsX11_emit) := goodIn_app (qag qkP [1489, 1490, 1491, 5] rfl (by decide +kernel)) ggX11_readProduct_X11_emit
set_option maxRecDepth 20000 in
theorem ggX11_readTwo_X11_opensOne : GoodIn wsX11_readTwo wsX11_opensOne := qaf qtA (by decide +kernel) qUF
set_option maxRecDepth 20000 in
theorem gX11_readTwo_X11_opensOne : GoodIn wsX11_readTwo (wsV RX11 258 RX11 yX11_opensOne wsX11_opensOne) := goodIn_app (qag qtA [1538, 1539, 1540, 5] rfl (by decide +kernel)) ggX11_readTwo_X11_opensOne
set_option maxRecDepth 20000 in
theorem ggX11_readTwo_X11_sign : GoodIn wsX11_readTwo wsX11_sign := qaf qtA (by decide +kernel) qVi
set_option maxRecDepth 20000 in
theorem gX11_readTwo_X11_sign : GoodIn wsX11_readTwo (wsV RX11 239 RX11 yX11_sign wsX11_sign) := goodIn_app (qag qtA [1294, 1295, 1296, 5] rfl (by decide +kernel)) ggX11_readTwo_X11_sign
set_option maxRecDepth 20000 in
theorem ggX11_readTwo_X11_readSum : GoodIn wsX11_readTwo wsX11_readSum := qaf qtA (by decide +kernel) qXv
set_option maxRecDepth 20000 in
theorem gX11_readTwo_X11_readSum : GoodIn wsX11_readTwo (wsV RX11 261 RX11 yX11_readSum wsX11_readSum) := goodIn_app (qag qtA [1482, 1483, 1484, 5] rfl (by decide +kernel)) ggX11_readTwo_X11_readSum
set_option maxRecDepth 20000 in
theorem ggX11_readTwo_X11_emit : GoodIn wsX11_readTwo wsX11_emit := qaf qtA (by decide +kernel) q4V
set_option maxRecDepth 20000 in
theorem gX11_readTwo_X11_emit : GoodIn wsX11_readTwo (wsV RX11 252 RX11 yX11_emit wsX11_emit) := goodIn_app (qag qtA [1489, 1490, 1491, 5] rfl (by decide +kernel)) ggX11_readTwo_X11_emit
set_option maxRecDepth 20000 in
theorem ggX11_factHere_X11_word : GoodIn wsX11_factHere wsX11_word := qaf qKA (by decide +kernel) q5k
set_option maxRecDepth 20000 in
theorem gX11_factHere_X11_word : GoodIn wsX11_factHere (wsV RX11 224 RX11 yX11_word wsX11_word) := goodIn_app (qag qKA [1167, 1168, 1169, 5] rfl (by decide +kernel)) ggX11_factHere_X11_word
set_option maxRecDepth 20000 in
theorem ggX11_factHere_X11_of : GoodIn wsX11_factHere wsX11_of := qaf qKA (by decide +kernel) q4U
set_option maxRecDepth 20000 in
theorem gX11_factHere_X11_of : GoodIn wsX11_factHere (va_wsS RX11 202 yX11_of wsX11_of) := goodIn_app (qag qKA [1217, 1218, 5] rfl (by decide +kernel)) ggX11_factHere_X11_of
set_option maxRecDepth 20000 in
theorem ggX11_readUnit_X11_fine : GoodIn wsX11_readUnit wsX11_fine := qaf qbJ (by decide +kernel) qsV
set_option maxRecDepth 20000 in
theorem gX11_readUnit_X11_fine : GoodIn wsX11_readUnit (wsV RX11 143 RX11 yX11_fine wsX11_fine) := goodIn_app (qag qbJ [1155, 1156, 1157, 5] rfl (by decide +kernel)) ggX11_readUnit_X11_fine
set_option maxRecDepth 20000 in
theorem ggX11_readUnit_X11_here : GoodIn wsX11_readUnit wsX11_here := qaf qbJ (by decide +kernel) qAE
set_option maxRecDepth 20000 in
theorem gX11_readUnit_X11_here : GoodIn wsX11_readUnit (wsV RX11 126 RX11 yX11_here wsX11_here) := goodIn_app (qag qbJ [1163, 1164, 1165, 5] rfl (by decide +kernel)) ggX11_readUnit_X11_here
set_option maxRecDepth 20000 in
theorem ggX11_readUnit_X11_opensOne : GoodIn wsX11_readUnit wsX11_opensOne := qaf qbJ (by decide +kernel) qUF
set_option maxRecDepth 20000 in
theorem gX11_readUnit_X11_opensOne : GoodIn wsX11_readUnit (wsV RX11 258 RX11 yX11_opensOne wsX11_opensOne) := goodIn_app (qag qbJ [1538, 1539, 1540, 5] rfl (by decide +kernel)) ggX11_readUnit_X11_opensOne
set_option maxRecDepth 20000 in
theorem ggX11_readUnit_X11_readSum : GoodIn wsX11_readUnit wsX11_readSum := qaf qbJ (by decide +kernel) qXv
set_option maxRecDepth 20000 in
theorem gX11_readUnit_X11_readSum : GoodIn wsX11_readUnit (wsV RX11 261 RX11 yX11_readSum wsX11_readSum) := goodIn_app (qag qbJ [1482, 1483, 1484, 5] rfl (by decide +kernel)) ggX11_readUnit_X11_readSum
set_option maxRecDepth 20000 in
theorem ggX11_readUnit_X11_sign : GoodIn wsX11_readUnit wsX11_sign := qaf qbJ (by decide +kernel) qVi
set_option maxRecDepth 20000 in
theorem gX11_readUnit_X11_sign : GoodIn wsX11_readUnit (wsV RX11 239 RX11 yX11_sign wsX11_sign) := goodIn_app (qag qbJ [1294, 1295, 1296, 5] rfl (by decide +kernel)) ggX11_readUnit_X11_sign
set_option maxRecDepth 20000 in
theorem ggX11_readUnit_X11_isDigit : GoodIn wsX11_readUnit wsX11_isDigit := qaf qbJ (by decide +kernel) qagj
set_option maxRecDepth 20000 in
theorem gX11_readUnit_X11_isDigit : GoodIn wsX11_readUnit (va_wsS RX11 147 yX11_isDigit wsX11_isDigit) := goodIn_app (qag qbJ [1283, 1284, 5] rfl (by decide +kernel)) ggX11_readUnit_X11_isDigit
set_option maxRecDepth 20000 in
theorem ggX11_readUnit_X11_readNumber : GoodIn wsX11_readUnit wsX11_readNumber := qaf qbJ (by decide +kernel) quK
set_option maxRecDepth 20000 in
theorem gX11_readUnit_X11_readNumber : GoodIn wsX11_readUnit (wsV RX11 194 RX11 yX11_readNumber wsX11_readNumber) := goodIn_app (qag qbJ [1239, 1280, 1281, 5] rfl (by decide +kernel)) ggX11_readUnit_X11_readNumber
set_option maxRecDepth 20000 in
theorem ggX11_readUnit_X11_emit : GoodIn wsX11_readUnit wsX11_emit := qaf qbJ (by decide +kernel) q4V
set_option maxRecDepth 20000 in
theorem gX11_readUnit_X11_emit : GoodIn wsX11_readUnit (wsV RX11 252 RX11 yX11_emit wsX11_emit) := goodIn_app (qag qbJ [1489, 1490, 1491, 5] rfl (by decide +kernel)) ggX11_readUnit_X11_emit
set_option maxRecDepth 20000 in
theorem ggX11_readUnit_X11_word : GoodIn wsX11_readUnit wsX11_word := qaf qbJ (by decide +kernel) q5k
set_option maxRecDepth 20000 in
theorem gX11_readUnit_X11_word : GoodIn wsX11_readUnit (wsV RX11 224 RX11 yX11_word wsX11_word) := goodIn_app (qag qbJ [1167, 1168, 1169, 5] rfl (by decide +kernel)) ggX11_readUnit_X11_word
set_option maxRecDepth 20000 in
theorem ggX11_readUnit_X11_of : GoodIn wsX11_readUnit wsX11_of := qaf qbJ (by decide +kernel) q4U
set_option maxRecDepth 20000 in
theorem gX11_readUnit_X11_of : GoodIn wsX11_readUnit (va_wsS RX11 202 yX11_of wsX11_of) := goodIn_app (qag qbJ [1217, 1218, 5] rfl (by decide +kernel)) ggX11_readUnit_X11_of
set_option maxRecDepth 20000 in
theorem ggX11_readUnit_X11_readTwo : GoodIn wsX11_readUnit wsX11_readTwo := qaf qbJ (by decide +kernel) qaPw
set_option maxRecDepth 20000 in
theorem gX11_readUnit_X11_readTwo : GoodIn wsX11_readUnit (wsV RX11 280 RX11 yX11_readTwo wsX11_readTwo) := goodIn_app (qag qbJ [1543, 1544, 1545, 5] rfl (by decide +kernel)) ggX11_readUnit_X11_readTwo
set_option maxRecDepth 20000 in
theorem ggX11_readUnit_X11_factHere : GoodIn wsX11_readUnit wsX11_factHere := qaf qbJ (by decide +kernel) qaJG
set_option maxRecDepth 20000 in
theorem gX11_readUnit_X11_factHere : GoodIn wsX11_readUnit (wsV RX11 285 RX11 yX11_factHere wsX11_factHere) := goodIn_app (qag qbJ [1546, 1547, 1548, 5] rfl (by decide +kernel)) ggX11_readUnit_X11_factHere
set_option maxRecDepth 20000 in
theorem ggX11_readUnit_X11_wrong : GoodIn wsX11_readUnit wsX11_wrong := qaf qbJ (by decide +kernel) qzR
set_option maxRecDepth 20000 in
theorem gX11_readUnit_X11_wrong : GoodIn wsX11_readUnit (wsV RX11 150 RX11 yX11_wrong wsX11_wrong) := goodIn_app (qag qbJ [1222, 1223, 1224, 5] rfl (by decide +kernel)) ggX11_readUnit_X11_wrong
set_option maxRecDepth 20000 in
theorem ggX11_readUnit_X11_pass : GoodIn wsX11_readUnit wsX11_pass := qaf qbJ (by decide +kernel) qajF
set_option maxRecDepth 20000 in
theorem gX11_readUnit_X11_pass : GoodIn wsX11_readUnit (wsV RX11 233 RX11 yX11_pass wsX11_pass) := goodIn_app (qag qbJ [1231, 1232, 1233, 5] rfl (by decide +kernel)) ggX11_readUnit_X11_pass
set_option maxRecDepth 20000 in
theorem ggX11_law_X11_may : GoodIn wsX11_law wsX11_may := qaf qnj (by decide +kernel) qoO
set_option maxRecDepth 20000 in
theorem gX11_law_X11_may : GoodIn wsX11_law (wsV RX11 213 RX11 yX11_may wsX11_may) := goodIn_app (qag qnj [1105, 1106, 1107, 5] rfl (by decide +kernel)) ggX11_law_X11_may
set_option maxRecDepth 20000 in
theorem ggX11_law_X11_begins : GoodIn wsX11_law wsX11_begins := qaf qnj (by decide +kernel) qRI
set_option maxRecDepth 20000 in
theorem gX11_law_X11_begins : GoodIn wsX11_law (wsV RX11 217 RX11 yX11_begins wsX11_begins) := goodIn_app (qag qnj [1109, 1110, 1111, 5] rfl (by decide +kernel)) ggX11_law_X11_begins
set_option maxRecDepth 20000 in
theorem ggX11_law_X11_readSum : GoodIn wsX11_law wsX11_readSum := qaf qnj (by decide +kernel) qXv
set_option maxRecDepth 20000 in
theorem gX11_law_X11_readSum : GoodIn wsX11_law (wsV RX11 261 RX11 yX11_readSum wsX11_readSum) := goodIn_app (qag qnj [1482, 1483, 1484, 5] rfl (by decide +kernel)) ggX11_law_X11_readSum
set_option maxRecDepth 20000 in
theorem ggX11_law_X11_fine : GoodIn wsX11_law wsX11_fine := qaf qnj (by decide +kernel) qsV
set_option maxRecDepth 20000 in
theorem gX11_law_X11_fine : GoodIn wsX11_law (wsV RX11 143 RX11 yX11_fine wsX11_fine) := goodIn_app (qag qnj [1155, 1156, 1157, 5] rfl (by decide +kernel)) ggX11_law_X11_fine
set_option maxRecDepth 20000 in
theorem ggX11_law_X11_isMore : GoodIn wsX11_law wsX11_isMore := qaf qnj (by decide +kernel) qR9
set_option maxRecDepth 20000 in
theorem gX11_law_X11_isMore : GoodIn wsX11_law (wsV RX11 221 RX11 yX11_isMore wsX11_isMore) := goodIn_app (qag qnj [1159, 1160, 1161, 5] rfl (by decide +kernel)) ggX11_law_X11_isMore
set_option maxRecDepth 20000 in
theorem ggX11_law_X11_wrong : GoodIn wsX11_law wsX11_wrong := qaf qnj (by decide +kernel) qzR
set_option maxRecDepth 20000 in
theorem gX11_law_X11_wrong : GoodIn wsX11_law (wsV RX11 150 RX11 yX11_wrong wsX11_wrong) := goodIn_app (qag qnj [1222, 1223, 1224, 5] rfl (by decide +kernel)) ggX11_law_X11_wrong
set_option maxRecDepth 20000 in
theorem ggX11_law_X11_result : GoodIn wsX11_law wsX11_result := qaf qnj (by decide +kernel) qSA
set_option maxRecDepth 20000 in
theorem gX11_law_X11_result : GoodIn wsX11_law (wsV RX11 242 RX11 yX11_result wsX11_result) := goodIn_app (qag qnj [1298, 1299, 1300, 5] rfl (by decide +kernel)) ggX11_law_X11_result
set_option maxRecDepth 20000 in
theorem ggX11_law_X11_copies : GoodIn wsX11_law wsX11_copies := qaf qnj (by decide +kernel) qLe
set_option maxRecDepth 20000 in
theorem gX11_law_X11_copies : GoodIn wsX11_law (wsV RX11 175 RX11 yX11_copies wsX11_copies) := goodIn_app (qag qnj [527, 528, 529, 5] rfl (by decide +kernel)) ggX11_law_X11_copies
set_option maxRecDepth 20000 in
theorem ggX11_valueNow_X11_both : GoodIn wsX11_valueNow wsX11_both := qaf qvi (by decide +kernel) qa25
set_option maxRecDepth 20000 in
theorem gX11_valueNow_X11_both : GoodIn wsX11_valueNow (va_wsS RX11 288 yX11_both wsX11_both) := goodIn_app (qag qvi [2312, 2313, 5] rfl (by decide +kernel)) ggX11_valueNow_X11_both
set_option maxRecDepth 20000 in
theorem ggX11_leapNow_X11_valueNow : GoodIn wsX11_leapNow wsX11_valueNow := qaf qHq (by decide +kernel) qaGv
set_option maxRecDepth 20000 in
theorem gX11_leapNow_X11_valueNow : GoodIn wsX11_leapNow (wsV RX11 292 RX11 yX11_valueNow wsX11_valueNow) := goodIn_app (qag qHq [2308, 2309, 2310, 5] rfl (by decide +kernel)) ggX11_leapNow_X11_valueNow
set_option maxRecDepth 20000 in
theorem ggX11_tellsStep_X11_fine : GoodIn wsX11_tellsStep wsX11_fine := qaf qCc (by decide +kernel) qsV
set_option maxRecDepth 20000 in
theorem gX11_tellsStep_X11_fine : GoodIn wsX11_tellsStep (wsV RX11 143 RX11 yX11_fine wsX11_fine) := goodIn_app (qag qCc [1155, 1156, 1157, 5] rfl (by decide +kernel)) ggX11_tellsStep_X11_fine
set_option maxRecDepth 20000 in
theorem ggX11_readLiving_X11_readNumber : GoodIn wsX11_readLiving wsX11_readNumber := qaf qE9 (by decide +kernel) quK
set_option maxRecDepth 20000 in
theorem gX11_readLiving_X11_readNumber : GoodIn wsX11_readLiving (wsV RX11 194 RX11 yX11_readNumber wsX11_readNumber) := goodIn_app (qag qE9 [1239, 1280, 1281, 5] rfl (by decide +kernel)) ggX11_readLiving_X11_readNumber
set_option maxRecDepth 20000 in
theorem ggX11_readStep_X11_word : GoodIn wsX11_readStep wsX11_word := qaf qbv (by decide +kernel) q5k
set_option maxRecDepth 20000 in
theorem gX11_readStep_X11_word : GoodIn wsX11_readStep (wsV RX11 224 RX11 yX11_word wsX11_word) := goodIn_app (qag qbv [1167, 1168, 1169, 5] rfl (by decide +kernel)) ggX11_readStep_X11_word
set_option maxRecDepth 20000 in
theorem ggX11_readStep_X11_of : GoodIn wsX11_readStep wsX11_of := qaf qbv (by decide +kernel) q4U
set_option maxRecDepth 20000 in
theorem gX11_readStep_X11_of : GoodIn wsX11_readStep (va_wsS RX11 202 yX11_of wsX11_of) := goodIn_app (qag qbv [1217, 1218, 5] rfl (by decide +kernel)) ggX11_readStep_X11_of
set_option maxRecDepth 20000 in
theorem ggX11_readStep_X11_pass : GoodIn wsX11_readStep wsX11_pass := qaf qbv (by decide +kernel) qajF
set_option maxRecDepth 20000 in
theorem gX11_readStep_X11_pass : GoodIn wsX11_readStep (wsV RX11 233 RX11 yX11_pass wsX11_pass) := goodIn_app (qag qbv [1231, 1232, 1233, 5] rfl (by decide +kernel)) ggX11_readStep_X11_pass
set_option maxRecDepth 20000 in
theorem ggX11_readStep_X11_tellsStep : GoodIn wsX11_readStep wsX11_tellsStep := qaf qbv (by decide +kernel) qaw5
set_option maxRecDepth 20000 in
theorem gX11_readStep_X11_tellsStep : GoodIn wsX11_readStep (wsV RX11 298 RX11 yX11_tellsStep wsX11_tellsStep) := goodIn_app (qag qbv [2122, 2123, 2124, 5] rfl (by decide +kernel)) ggX11_readStep_X11_tellsStep
set_option maxRecDepth 20000 in
theorem ggX11_readStep_X11_readLiving : GoodIn wsX11_readStep wsX11_readLiving := qaf qbv (by decide +kernel) qatO
set_option maxRecDepth 20000 in
theorem gX11_readStep_X11_readLiving : GoodIn wsX11_readStep (wsV RX11 304 RX11 yX11_readLiving wsX11_readLiving) := goodIn_app (qag qbv [2126, 2127, 2128, 5] rfl (by decide +kernel)) ggX11_readStep_X11_readLiving
set_option maxRecDepth 20000 in
theorem ggX11_readStep_X11_readNumber : GoodIn wsX11_readStep wsX11_readNumber := qaf qbv (by decide +kernel) quK
set_option maxRecDepth 20000 in
theorem gX11_readStep_X11_readNumber : GoodIn wsX11_readStep (wsV RX11 194 RX11 yX11_readNumber wsX11_readNumber) := goodIn_app (qag qbv [1239, 1280, 1281, 5] rfl (by decide +kernel)) ggX11_readStep_X11_readNumber
set_option maxRecDepth 20000 in
theorem ggX11_readStep_X11_opensOne : GoodIn wsX11_readStep wsX11_opensOne := qaf qbv (by decide +kernel) qUF
set_option maxRecDepth 20000 in
theorem gX11_readStep_X11_opensOne : GoodIn wsX11_readStep (wsV RX11 258 RX11 yX11_opensOne wsX11_opensOne) := goodIn_app (qag qbv [1538, 1539, 1540, 5] rfl (by decide +kernel)) ggX11_readStep_X11_opensOne
set_option maxRecDepth 20000 in
theorem ggX11_readStep_X11_sign : GoodIn wsX11_readStep wsX11_sign := qaf qbv (by decide +kernel) qVi
set_option maxRecDepth 20000 in
theorem gX11_readStep_X11_sign : GoodIn wsX11_readStep (wsV RX11 239 RX11 yX11_sign wsX11_sign) := goodIn_app (qag qbv [1294, 1295, 1296, 5] rfl (by decide +kernel)) ggX11_readStep_X11_sign
set_option maxRecDepth 20000 in
theorem ggX11_readStep_X11_fine : GoodIn wsX11_readStep wsX11_fine := qaf qbv (by decide +kernel) qsV
set_option maxRecDepth 20000 in
theorem gX11_readStep_X11_fine : GoodIn wsX11_readStep (wsV RX11 143 RX11 yX11_fine wsX11_fine) := goodIn_app (qag qbv [1155, 1156, 1157, 5] rfl (by decide +kernel)) ggX11_readStep_X11_fine
set_option maxRecDepth 20000 in
theorem ggX11_readStep_X11_here : GoodIn wsX11_readStep wsX11_here := qaf qbv (by decide +kernel) qAE
set_option maxRecDepth 20000 in
theorem gX11_readStep_X11_here : GoodIn wsX11_readStep (wsV RX11 126 RX11 yX11_here wsX11_here) := goodIn_app (qag qbv [1163, 1164, 1165, 5] rfl (by decide +kernel)) ggX11_readStep_X11_here
set_option maxRecDepth 20000 in
theorem ggX11_readStep_X11_readStep : GoodIn wsX11_readStep wsX11_readStep := qaf qbv (by decide +kernel) q7O
set_option maxRecDepth 20000 in
theorem gX11_readStep_X11_readStep : GoodIn wsX11_readStep (wsV RX11 313 RX11 yX11_readStep wsX11_readStep) := goodIn_app (qag qbv [2118, 2119, 2120, 5] rfl (by decide +kernel)) ggX11_readStep_X11_readStep
set_option maxRecDepth 20000 in
theorem ggX11_readStep_X11_wrong : GoodIn wsX11_readStep wsX11_wrong := qaf qbv (by decide +kernel) qzR
set_option maxRecDepth 20000 in
theorem gX11_readStep_X11_wrong : GoodIn wsX11_readStep (wsV RX11 150 RX11 yX11_wrong wsX11_wrong) := goodIn_app (qag qbv [1222, 1223, 1224, 5] rfl (by decide +kernel)) ggX11_readStep_X11_wrong
set_option maxRecDepth 20000 in
theorem ggX11_work_X11_may : GoodIn wsX11_work wsX11_may := qaf qeH (by decide +kernel) qoO
set_option maxRecDepth 20000 in
theorem gX11_work_X11_may : GoodIn wsX11_work (wsV RX11 213 RX11 yX11_may wsX11_may) := goodIn_app (qag qeH [1105, 1106, 1107, 5] rfl (by decide +kernel)) ggX11_work_X11_may
set_option maxRecDepth 20000 in
theorem ggX11_work_X11_begins : GoodIn wsX11_work wsX11_begins := qaf qeH (by decide +kernel) qRI
set_option maxRecDepth 20000 in
theorem gX11_work_X11_begins : GoodIn wsX11_work (wsV RX11 217 RX11 yX11_begins wsX11_begins) := goodIn_app (qag qeH [1109, 1110, 1111, 5] rfl (by decide +kernel)) ggX11_work_X11_begins
set_option maxRecDepth 20000 in
theorem ggX11_work_X11_result : GoodIn wsX11_work wsX11_result := qaf qeH (by decide +kernel) qSA
set_option maxRecDepth 20000 in
theorem gX11_work_X11_result : GoodIn wsX11_work (wsV RX11 242 RX11 yX11_result wsX11_result) := goodIn_app (qag qeH [1298, 1299, 1300, 5] rfl (by decide +kernel)) ggX11_work_X11_result
set_option maxRecDepth 20000 in
theorem ggX11_work_X11_fine : GoodIn wsX11_work wsX11_fine := qaf qeH (by decide +kernel) qsV
set_option maxRecDepth 20000 in
theorem gX11_work_X11_fine : GoodIn wsX11_work (wsV RX11 143 RX11 yX11_fine wsX11_fine) := goodIn_app (qag qeH [1155, 1156, 1157, 5] rfl (by decide +kernel)) ggX11_work_X11_fine
set_option maxRecDepth 20000 in
theorem ggX11_work_X11_isMore : GoodIn wsX11_work wsX11_isMore := qaf qeH (by decide +kernel) qR9
set_option maxRecDepth 20000 in
theorem gX11_work_X11_isMore : GoodIn wsX11_work (wsV RX11 221 RX11 yX11_isMore wsX11_isMore) := goodIn_app (qag qeH [1159, 1160, 1161, 5] rfl (by decide +kernel)) ggX11_work_X11_isMore
set_option maxRecDepth 20000 in
theorem ggX11_work_X11_readStep : GoodIn wsX11_work wsX11_readStep := qaf qeH (by decide +kernel) q7O
set_option maxRecDepth 20000 in
theorem gX11_work_X11_readStep : GoodIn wsX11_work (wsV RX11 313 RX11 yX11_readStep wsX11_readStep) := goodIn_app (qag qeH [2118, 2119, 2120, 5] rfl (by decide +kernel)) ggX11_work_X11_readStep
set_option maxRecDepth 20000 in
theorem ggX11_work_X11_copies : GoodIn wsX11_work wsX11_copies := qaf qeH (by decide +kernel) qLe
set_option maxRecDepth 20000 in
theorem gX11_work_X11_copies : GoodIn wsX11_work (wsV RX11 175 RX11 yX11_copies wsX11_copies) := goodIn_app (qag qeH [527, 528, 529, 5] rfl (by decide +kernel)) ggX11_work_X11_copies
set_option maxRecDepth 20000 in
theorem ggX11_work_X11_take : GoodIn wsX11_work wsX11_take := qaf qeH (by decide +kernel) qtc
set_option maxRecDepth 20000 in
theorem gX11_work_X11_take : GoodIn wsX11_work (wsV RX11 316 RX11 yX11_take wsX11_take) := goodIn_app (qag qeH [2130, 2131, 2132, 5] rfl (by decide +kernel)) ggX11_work_X11_take
set_option maxRecDepth 20000 in
theorem ggX11_work_X11_goesSteps : GoodIn wsX11_work wsX11_goesSteps := qaf qeH (by decide +kernel) q4C
set_option maxRecDepth 20000 in
theorem gX11_work_X11_goesSteps : GoodIn wsX11_work (wsV RX11 328 RX11 yX11_goesSteps wsX11_goesSteps) := goodIn_app (qag qeH [2134, 2135, 2176, 5] rfl (by decide +kernel)) ggX11_work_X11_goesSteps
set_option maxRecDepth 20000 in
theorem ggX11_goesSteps_X11_goesSteps : GoodIn wsX11_goesSteps wsX11_goesSteps := qaf qkT (by decide +kernel) q4C
set_option maxRecDepth 20000 in
theorem gX11_goesSteps_X11_goesSteps : GoodIn wsX11_goesSteps (wsV RX11 328 RX11 yX11_goesSteps wsX11_goesSteps) := goodIn_app (qag qkT [2134, 2135, 2176, 5] rfl (by decide +kernel)) ggX11_goesSteps_X11_goesSteps
set_option maxRecDepth 20000 in
theorem ggX11_goesSteps_X11_isDone : GoodIn wsX11_goesSteps wsX11_isDone := qaf qkT (by decide +kernel) qaT4
set_option maxRecDepth 20000 in
theorem gX11_goesSteps_X11_isDone : GoodIn wsX11_goesSteps (wsV RX11 331 RX11 yX11_isDone wsX11_isDone) := goodIn_app (qag qkT [2178, 2179, 2180, 5] rfl (by decide +kernel)) ggX11_goesSteps_X11_isDone
set_option maxRecDepth 20000 in
theorem ggX11_take_X11_copies : GoodIn wsX11_take wsX11_copies := qaf qVv (by decide +kernel) qLe
set_option maxRecDepth 20000 in
theorem gX11_take_X11_copies : GoodIn wsX11_take (wsV RX11 175 RX11 yX11_copies wsX11_copies) := goodIn_app (qag qVv [527, 528, 529, 5] rfl (by decide +kernel)) ggX11_take_X11_copies
set_option maxRecDepth 20000 in
theorem ggX11_farOf_X11_size : GoodIn wsX11_farOf wsX11_size := qaf qYg (by decide +kernel) qaLw
set_option maxRecDepth 20000 in
theorem gX11_farOf_X11_size : GoodIn wsX11_farOf (va_wsS RX11 335 yX11_size wsX11_size) := goodIn_app (qag qYg [2198, 2199, 5] rfl (by decide +kernel)) ggX11_farOf_X11_size
set_option maxRecDepth 20000 in
theorem ggX11_isSafe_X11_size : GoodIn wsX11_isSafe wsX11_size := qaf qGj (by decide +kernel) qaLw
set_option maxRecDepth 20000 in
theorem gX11_isSafe_X11_size : GoodIn wsX11_isSafe (va_wsS RX11 335 yX11_size wsX11_size) := goodIn_app (qag qGj [2198, 2199, 5] rfl (by decide +kernel)) ggX11_isSafe_X11_size
set_option maxRecDepth 20000 in
theorem ggX11_leapOf_X11_leapNow : GoodIn wsX11_leapOf wsX11_leapNow := qaf qRU (by decide +kernel) qaR7
set_option maxRecDepth 20000 in
theorem gX11_leapOf_X11_leapNow : GoodIn wsX11_leapOf (wsV RX11 337 RX11 yX11_leapNow wsX11_leapNow) := goodIn_app (qag qRU [2304, 2305, 2306, 5] rfl (by decide +kernel)) ggX11_leapOf_X11_leapNow
set_option maxRecDepth 20000 in
theorem ggX11_leapBy_X11_isCaught : GoodIn wsX11_leapBy wsX11_isCaught := qaf qqk (by decide +kernel) qnl
set_option maxRecDepth 20000 in
theorem gX11_leapBy_X11_isCaught : GoodIn wsX11_leapBy (wsV RX11 340 RX11 yX11_isCaught wsX11_isCaught) := goodIn_app (qag qqk [2190, 2191, 2192, 5] rfl (by decide +kernel)) ggX11_leapBy_X11_isCaught
set_option maxRecDepth 20000 in
theorem ggX11_leapBy_X11_owes : GoodIn wsX11_leapBy wsX11_owes := qaf qqk (by decide +kernel) qaLt
set_option maxRecDepth 20000 in
theorem gX11_leapBy_X11_owes : GoodIn wsX11_leapBy (wsV RX11 343 RX11 yX11_owes wsX11_owes) := goodIn_app (qag qqk [2245, 2246, 2247, 5] rfl (by decide +kernel)) ggX11_leapBy_X11_owes
set_option maxRecDepth 20000 in
theorem ggX11_leapBy_X11_isOwed : GoodIn wsX11_leapBy wsX11_isOwed := qaf qqk (by decide +kernel) qSX
set_option maxRecDepth 20000 in
theorem gX11_leapBy_X11_isOwed : GoodIn wsX11_leapBy (wsV RX11 345 RX11 yX11_isOwed wsX11_isOwed) := goodIn_app (qag qqk [2249, 2250, 2251, 5] rfl (by decide +kernel)) ggX11_leapBy_X11_isOwed
set_option maxRecDepth 20000 in
theorem ggX11_leapBy_X11_sitIn : GoodIn wsX11_leapBy wsX11_sitIn := qaf qqk (by decide +kernel) q8P
set_option maxRecDepth 20000 in
theorem gX11_leapBy_X11_sitIn : GoodIn wsX11_leapBy (wsV RX11 348 RX11 yX11_sitIn wsX11_sitIn) := goodIn_app (qag qqk [2253, 2254, 2255, 5] rfl (by decide +kernel)) ggX11_leapBy_X11_sitIn
set_option maxRecDepth 20000 in
theorem ggX11_leapBy_X11_ones : GoodIn wsX11_leapBy wsX11_ones := qaf qqk (by decide +kernel) qajG
set_option maxRecDepth 20000 in
theorem gX11_leapBy_X11_ones : GoodIn wsX11_leapBy (va_wsS RX11 351 yX11_ones wsX11_ones) := goodIn_app (qag qqk [2257, 2258, 5] rfl (by decide +kernel)) ggX11_leapBy_X11_ones
set_option maxRecDepth 20000 in
theorem ggX11_leapBy_X11_leapOf : GoodIn wsX11_leapBy wsX11_leapOf := qaf qqk (by decide +kernel) qaol
set_option maxRecDepth 20000 in
theorem gX11_leapBy_X11_leapOf : GoodIn wsX11_leapBy (wsV RX11 354 RX11 yX11_leapOf wsX11_leapOf) := goodIn_app (qag qqk [2260, 2261, 2262, 5] rfl (by decide +kernel)) ggX11_leapBy_X11_leapOf
set_option maxRecDepth 20000 in
theorem ggX11_canLeap_X11_isCaught : GoodIn wsX11_canLeap wsX11_isCaught := qaf qxl (by decide +kernel) qnl
set_option maxRecDepth 20000 in
theorem gX11_canLeap_X11_isCaught : GoodIn wsX11_canLeap (wsV RX11 340 RX11 yX11_isCaught wsX11_isCaught) := goodIn_app (qag qxl [2190, 2191, 2192, 5] rfl (by decide +kernel)) ggX11_canLeap_X11_isCaught
set_option maxRecDepth 20000 in
theorem ggX11_canLeap_X11_farOf : GoodIn wsX11_canLeap wsX11_farOf := qaf qxl (by decide +kernel) qFk
set_option maxRecDepth 20000 in
theorem gX11_canLeap_X11_farOf : GoodIn wsX11_canLeap (wsV RX11 358 RX11 yX11_farOf wsX11_farOf) := goodIn_app (qag qxl [2194, 2195, 2196, 5] rfl (by decide +kernel)) ggX11_canLeap_X11_farOf
set_option maxRecDepth 20000 in
theorem ggX11_canLeap_X11_leapBy : GoodIn wsX11_canLeap wsX11_leapBy := qaf qxl (by decide +kernel) q1w
set_option maxRecDepth 20000 in
theorem gX11_canLeap_X11_leapBy : GoodIn wsX11_canLeap (wsV RX11 361 RX11 yX11_leapBy wsX11_leapBy) := goodIn_app (qag qxl [2241, 2242, 2243, 5] rfl (by decide +kernel)) ggX11_canLeap_X11_leapBy
set_option maxRecDepth 20000 in
theorem ggX11_leapsTo_X11_canLeap : GoodIn wsX11_leapsTo wsX11_canLeap := qaf qOe (by decide +kernel) qXb
set_option maxRecDepth 20000 in
theorem gX11_leapsTo_X11_canLeap : GoodIn wsX11_leapsTo (wsV RX11 364 RX11 yX11_canLeap wsX11_canLeap) := goodIn_app (qag qOe [2186, 2187, 2188, 5] rfl (by decide +kernel)) ggX11_leapsTo_X11_canLeap
set_option maxRecDepth 20000 in
theorem ggX11_boxes_X11_isCaught : GoodIn wsX11_boxes wsX11_isCaught := qaf qYc (by decide +kernel) qnl
set_option maxRecDepth 20000 in
theorem gX11_boxes_X11_isCaught : GoodIn wsX11_boxes (wsV RX11 340 RX11 yX11_isCaught wsX11_isCaught) := goodIn_app (qag qYc [2190, 2191, 2192, 5] rfl (by decide +kernel)) ggX11_boxes_X11_isCaught
set_option maxRecDepth 20000 in
theorem ggX11_pays_X11_isCaught : GoodIn wsX11_pays wsX11_isCaught := qaf q4S (by decide +kernel) qnl
set_option maxRecDepth 20000 in
theorem gX11_pays_X11_isCaught : GoodIn wsX11_pays (wsV RX11 340 RX11 yX11_isCaught wsX11_isCaught) := goodIn_app (qag q4S [2190, 2191, 2192, 5] rfl (by decide +kernel)) ggX11_pays_X11_isCaught
set_option maxRecDepth 20000 in
theorem ggX11_wouldBeCaught_X11_isCaught : GoodIn wsX11_wouldBeCaught wsX11_isCaught := qaf qs0 (by decide +kernel) qnl
set_option maxRecDepth 20000 in
theorem gX11_wouldBeCaught_X11_isCaught : GoodIn wsX11_wouldBeCaught (wsV RX11 340 RX11 yX11_isCaught wsX11_isCaught) := goodIn_app (qag qs0 [2190, 2191, 2192, 5] rfl (by decide +kernel)) ggX11_wouldBeCaught_X11_isCaught
set_option maxRecDepth 20000 in
theorem ggX11_wouldBeCaught_X11_isSafe : GoodIn wsX11_wouldBeCaught wsX11_isSafe := qaf qs0 (by decide +kernel) qSm
set_option maxRecDepth 20000 in
theorem gX11_wouldBeCaught_X11_isSafe : GoodIn wsX11_wouldBeCaught (wsV RX11 368 RX11 yX11_isSafe wsX11_isSafe) := goodIn_app (qag qs0 [2375, 2376, 2377, 5] rfl (by decide +kernel)) ggX11_wouldBeCaught_X11_isSafe
set_option maxRecDepth 20000 in
theorem ggX11_strokes_X11_wouldBeCaught : GoodIn wsX11_strokes wsX11_wouldBeCaught := qaf qwY (by decide +kernel) qO2
set_option maxRecDepth 20000 in
theorem gX11_strokes_X11_wouldBeCaught : GoodIn wsX11_strokes (wsV RX11 371 RX11 yX11_wouldBeCaught wsX11_wouldBeCaught) := goodIn_app (qag qwY [2371, 2372, 2373, 5] rfl (by decide +kernel)) ggX11_strokes_X11_wouldBeCaught
set_option maxRecDepth 20000 in
theorem ggX11_strokes_X11_isCaught : GoodIn wsX11_strokes wsX11_isCaught := qaf qwY (by decide +kernel) qnl
set_option maxRecDepth 20000 in
theorem gX11_strokes_X11_isCaught : GoodIn wsX11_strokes (wsV RX11 340 RX11 yX11_isCaught wsX11_isCaught) := goodIn_app (qag qwY [2190, 2191, 2192, 5] rfl (by decide +kernel)) ggX11_strokes_X11_isCaught
set_option maxRecDepth 20000 in
theorem ggX11_passes_X11_isCaught : GoodIn wsX11_passes wsX11_isCaught := qaf qCh (by decide +kernel) qnl
set_option maxRecDepth 20000 in
theorem gX11_passes_X11_isCaught : GoodIn wsX11_passes (wsV RX11 340 RX11 yX11_isCaught wsX11_isCaught) := goodIn_app (qag qCh [2190, 2191, 2192, 5] rfl (by decide +kernel)) ggX11_passes_X11_isCaught
set_option maxRecDepth 20000 in
theorem ggX11_passes_X11_strokes : GoodIn wsX11_passes wsX11_strokes := qaf qCh (by decide +kernel) qaPA
set_option maxRecDepth 20000 in
theorem gX11_passes_X11_strokes : GoodIn wsX11_passes (wsV RX11 374 RX11 yX11_strokes wsX11_strokes) := goodIn_app (qag qCh [2327, 2368, 2369, 5] rfl (by decide +kernel)) ggX11_passes_X11_strokes
set_option maxRecDepth 20000 in
theorem ggX11_isDone_X11_leapsTo : GoodIn wsX11_isDone wsX11_leapsTo := qaf qvr (by decide +kernel) qaeQ
set_option maxRecDepth 20000 in
theorem gX11_isDone_X11_leapsTo : GoodIn wsX11_isDone (wsV RX11 377 RX11 yX11_leapsTo wsX11_leapsTo) := goodIn_app (qag qvr [2182, 2183, 2184, 5] rfl (by decide +kernel)) ggX11_isDone_X11_leapsTo
set_option maxRecDepth 20000 in
theorem ggX11_isDone_X11_boxes : GoodIn wsX11_isDone wsX11_boxes := qaf qvr (by decide +kernel) qaAw
set_option maxRecDepth 20000 in
theorem gX11_isDone_X11_boxes : GoodIn wsX11_isDone (wsV RX11 380 RX11 yX11_boxes wsX11_boxes) := goodIn_app (qag qvr [2315, 2316, 2317, 5] rfl (by decide +kernel)) ggX11_isDone_X11_boxes
set_option maxRecDepth 20000 in
theorem ggX11_isDone_X11_pays : GoodIn wsX11_isDone wsX11_pays := qaf qvr (by decide +kernel) qa1L
set_option maxRecDepth 20000 in
theorem gX11_isDone_X11_pays : GoodIn wsX11_isDone (wsV RX11 383 RX11 yX11_pays wsX11_pays) := goodIn_app (qag qvr [2319, 2320, 2321, 5] rfl (by decide +kernel)) ggX11_isDone_X11_pays
set_option maxRecDepth 20000 in
theorem ggX11_isDone_X11_passes : GoodIn wsX11_isDone wsX11_passes := qaf qvr (by decide +kernel) q4F
set_option maxRecDepth 20000 in
theorem gX11_isDone_X11_passes : GoodIn wsX11_isDone (wsV RX11 387 RX11 yX11_passes wsX11_passes) := goodIn_app (qag qvr [2323, 2324, 2325, 5] rfl (by decide +kernel)) ggX11_isDone_X11_passes
set_option maxRecDepth 20000 in
theorem ggX11_book_X11_may : GoodIn wsX11_book wsX11_may := qaf qgn (by decide +kernel) qoO
set_option maxRecDepth 20000 in
theorem gX11_book_X11_may : GoodIn wsX11_book (wsV RX11 213 RX11 yX11_may wsX11_may) := goodIn_app (qag qgn [1105, 1106, 1107, 5] rfl (by decide +kernel)) ggX11_book_X11_may
set_option maxRecDepth 20000 in
theorem ggX11_book_X11_begins : GoodIn wsX11_book wsX11_begins := qaf qgn (by decide +kernel) qRI
set_option maxRecDepth 20000 in
theorem gX11_book_X11_begins : GoodIn wsX11_book (wsV RX11 217 RX11 yX11_begins wsX11_begins) := goodIn_app (qag qgn [1109, 1110, 1111, 5] rfl (by decide +kernel)) ggX11_book_X11_begins
set_option maxRecDepth 20000 in
theorem ggX11_book_X11_fine : GoodIn wsX11_book wsX11_fine := qaf qgn (by decide +kernel) qsV
set_option maxRecDepth 20000 in
theorem gX11_book_X11_fine : GoodIn wsX11_book (wsV RX11 143 RX11 yX11_fine wsX11_fine) := goodIn_app (qag qgn [1155, 1156, 1157, 5] rfl (by decide +kernel)) ggX11_book_X11_fine
set_option maxRecDepth 20000 in
theorem ggX11_book_X11_isMore : GoodIn wsX11_book wsX11_isMore := qaf qgn (by decide +kernel) qR9
set_option maxRecDepth 20000 in
theorem gX11_book_X11_isMore : GoodIn wsX11_book (wsV RX11 221 RX11 yX11_isMore wsX11_isMore) := goodIn_app (qag qgn [1159, 1160, 1161, 5] rfl (by decide +kernel)) ggX11_book_X11_isMore
set_option maxRecDepth 20000 in
theorem ggX11_book_X11_here : GoodIn wsX11_book wsX11_here := qaf qgn (by decide +kernel) qAE
set_option maxRecDepth 20000 in
theorem gX11_book_X11_here : GoodIn wsX11_book (wsV RX11 126 RX11 yX11_here wsX11_here) := goodIn_app (qag qgn [1163, 1164, 1165, 5] rfl (by decide +kernel)) ggX11_book_X11_here
set_option maxRecDepth 20000 in
theorem ggX11_book_X11_readNumber : GoodIn wsX11_book wsX11_readNumber := qaf qgn (by decide +kernel) quK
set_option maxRecDepth 20000 in
theorem gX11_book_X11_readNumber : GoodIn wsX11_book (wsV RX11 194 RX11 yX11_readNumber wsX11_readNumber) := goodIn_app (qag qgn [1239, 1280, 1281, 5] rfl (by decide +kernel)) ggX11_book_X11_readNumber
set_option maxRecDepth 20000 in
theorem ggX11_book_X11_wrong : GoodIn wsX11_book wsX11_wrong := qaf qgn (by decide +kernel) qzR
set_option maxRecDepth 20000 in
theorem gX11_book_X11_wrong : GoodIn wsX11_book (wsV RX11 150 RX11 yX11_wrong wsX11_wrong) := goodIn_app (qag qgn [1222, 1223, 1224, 5] rfl (by decide +kernel)) ggX11_book_X11_wrong
set_option maxRecDepth 20000 in
theorem ggX11_book_X11_sign : GoodIn wsX11_book wsX11_sign := qaf qgn (by decide +kernel) qVi
set_option maxRecDepth 20000 in
theorem gX11_book_X11_sign : GoodIn wsX11_book (wsV RX11 239 RX11 yX11_sign wsX11_sign) := goodIn_app (qag qgn [1294, 1295, 1296, 5] rfl (by decide +kernel)) ggX11_book_X11_sign
set_option maxRecDepth 20000 in
theorem ggX11_book_X11_result : GoodIn wsX11_book wsX11_result := qaf qgn (by decide +kernel) qSA
set_option maxRecDepth 20000 in
theorem gX11_book_X11_result : GoodIn wsX11_book (wsV RX11 242 RX11 yX11_result wsX11_result) := goodIn_app (qag qgn [1298, 1299, 1300, 5] rfl (by decide +kernel)) ggX11_book_X11_result
set_option maxRecDepth 20000 in
theorem ggX11_book_X11_copies : GoodIn wsX11_book wsX11_copies := qaf qgn (by decide +kernel) qLe
set_option maxRecDepth 20000 in
theorem gX11_book_X11_copies : GoodIn wsX11_book (wsV RX11 175 RX11 yX11_copies wsX11_copies) := goodIn_app (qag qgn [527, 528, 529, 5] rfl (by decide +kernel)) ggX11_book_X11_copies
set_option maxRecDepth 20000 in
theorem ggX11_caughtNow_X11_isCaught : GoodIn wsX11_caughtNow wsX11_isCaught := qaf qIM (by decide +kernel) qnl
set_option maxRecDepth 20000 in
theorem gX11_caughtNow_X11_isCaught : GoodIn wsX11_caughtNow (wsV RX11 340 RX11 yX11_isCaught wsX11_isCaught) := goodIn_app (qag qIM [2190, 2191, 2192, 5] rfl (by decide +kernel)) ggX11_caughtNow_X11_isCaught
set_option maxRecDepth 20000 in
theorem ggX11_bitsTold_X11_wouldBeCaught : GoodIn wsX11_bitsTold wsX11_wouldBeCaught := qaf qDV (by decide +kernel) qO2
set_option maxRecDepth 20000 in
theorem gX11_bitsTold_X11_wouldBeCaught : GoodIn wsX11_bitsTold (wsV RX11 371 RX11 yX11_wouldBeCaught wsX11_wouldBeCaught) := goodIn_app (qag qDV [2371, 2372, 2373, 5] rfl (by decide +kernel)) ggX11_bitsTold_X11_wouldBeCaught
set_option maxRecDepth 20000 in
theorem ggX11_safeForms_X11_isSafe : GoodIn wsX11_safeForms wsX11_isSafe := qaf qHb (by decide +kernel) qSm
set_option maxRecDepth 20000 in
theorem gX11_safeForms_X11_isSafe : GoodIn wsX11_safeForms (wsV RX11 368 RX11 yX11_isSafe wsX11_isSafe) := goodIn_app (qag qHb [2375, 2376, 2377, 5] rfl (by decide +kernel)) ggX11_safeForms_X11_isSafe
set_option maxRecDepth 20000 in
theorem ggX11_told_X11_within : GoodIn wsX11_told wsX11_within := qaf qnz (by decide +kernel) qix
set_option maxRecDepth 20000 in
theorem gX11_told_X11_within : GoodIn wsX11_told (va_wsS RX11 390 yX11_within wsX11_within) := goodIn_app (qag qnz [2577, 2578, 5] rfl (by decide +kernel)) ggX11_told_X11_within
set_option maxRecDepth 20000 in
theorem ggX11_told_X11_may : GoodIn wsX11_told wsX11_may := qaf qnz (by decide +kernel) qoO
set_option maxRecDepth 20000 in
theorem gX11_told_X11_may : GoodIn wsX11_told (wsV RX11 213 RX11 yX11_may wsX11_may) := goodIn_app (qag qnz [1105, 1106, 1107, 5] rfl (by decide +kernel)) ggX11_told_X11_may
