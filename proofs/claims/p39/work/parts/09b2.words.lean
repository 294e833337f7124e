set_option maxRecDepth 20000 in
theorem ggX10_march_X1_caughtOnes : GoodIn wsX10_march wsX1_caughtOnes := qaf qq1 (by decide +kernel) qOD
set_option maxRecDepth 20000 in
theorem gX10_march_X1_caughtOnes : GoodIn wsX10_march (wsV RX10 194 RX1 yX1_caughtOnes wsX1_caughtOnes) := goodIn_app (qag qq1 [2560, 2561, 2562, 78] rfl (by decide +kernel)) ggX10_march_X1_caughtOnes
set_option maxRecDepth 20000 in
theorem ggX10_march_X1_strongTogether : GoodIn wsX10_march wsX1_strongTogether := qaf qq1 (by decide +kernel) q9F
set_option maxRecDepth 20000 in
theorem gX10_march_X1_strongTogether : GoodIn wsX10_march (wsV RX10 378 RX1 yX1_strongTogether wsX1_strongTogether) := goodIn_app (qag qq1 [4098, 4099, 4100, 78] rfl (by decide +kernel)) ggX10_march_X1_strongTogether
set_option maxRecDepth 20000 in
theorem ggX10_march_X1_day : GoodIn wsX10_march wsX1_day := qaf qq1 (by decide +kernel) qau4
set_option maxRecDepth 20000 in
theorem gX10_march_X1_day : GoodIn wsX10_march (wsV RX10 187 RX1 yX1_day wsX1_day) := goodIn_app (qag qq1 [2518, 1873, 1874, 78] rfl (by decide +kernel)) ggX10_march_X1_day
set_option maxRecDepth 20000 in
theorem ggX10_span_X10_needWithin : GoodIn wsX10_span wsX10_needWithin := goodIn_ca (qaf qnw (by decide +kernel) qdH) (goodIn_sub (fun _ h => List.mem_cons_of_mem _ (List.mem_append_right _ h)) (by decide +kernel))
set_option maxRecDepth 20000 in
theorem gX10_span_X10_needWithin : GoodIn wsX10_span (wsV RX10 180 RX10 yX10_needWithin wsX10_needWithin) := goodIn_app (qag qnw [653, 654, 655, 2] rfl (by decide +kernel)) ggX10_span_X10_needWithin
set_option maxRecDepth 20000 in
theorem ggX10_span_X1_copyFrom : GoodIn wsX10_span wsX1_copyFrom := qaf qnw (by decide +kernel) qXw
set_option maxRecDepth 20000 in
theorem gX10_span_X1_copyFrom : GoodIn wsX10_span (wsV RX10 297 RX1 yX1_copyFrom wsX1_copyFrom) := goodIn_app (qag qnw [2961, 2962, 2963, 78] rfl (by decide +kernel)) ggX10_span_X1_copyFrom
set_option maxRecDepth 20000 in
theorem ggX10_span_X1_drawDays : GoodIn wsX10_span wsX1_drawDays := qaf qnw (by decide +kernel) qaft
set_option maxRecDepth 20000 in
theorem gX10_span_X1_drawDays : GoodIn wsX10_span (wsV RX10 375 RX1 yX1_drawDays wsX1_drawDays) := goodIn_app (qag qnw [4033, 4034, 4035, 78] rfl (by decide +kernel)) ggX10_span_X1_drawDays
set_option maxRecDepth 20000 in
theorem ggX10_span_X1_isCaught : GoodIn wsX10_span wsX1_isCaught := qaf qnw (by decide +kernel) qoT
set_option maxRecDepth 20000 in
theorem gX10_span_X1_isCaught : GoodIn wsX10_span (wsV RX10 230 RX1 yX1_isCaught wsX1_isCaught) := goodIn_app (qag qnw [2755, 1742, 1743, 78] rfl (by decide +kernel)) ggX10_span_X1_isCaught
set_option maxRecDepth 20000 in
theorem ggX10_image_X5_copyFrom : GoodIn wsX10_image wsX5_copyFrom := qaf qzX (by decide +kernel) qaet
set_option maxRecDepth 20000 in
theorem gX10_image_X5_copyFrom : GoodIn wsX10_image (wsV RX10 392 RX5 yX5_copyFrom wsX5_copyFrom) := goodIn_app (qag qzX [4177, 4178, 4179, 83] rfl (by decide +kernel)) ggX10_image_X5_copyFrom
set_option maxRecDepth 20000 in
theorem ggX10_image_X5_push : GoodIn wsX10_image wsX5_push := qaf qzX (by decide +kernel) qaTi
set_option maxRecDepth 20000 in
theorem gX10_image_X5_push : GoodIn wsX10_image (wsV RX10 155 RX5 yX5_push wsX5_push) := goodIn_app (qag qzX [1672, 1673, 1674, 83] rfl (by decide +kernel)) ggX10_image_X5_push
set_option maxRecDepth 20000 in
theorem ggX10_restore_X5_pop : GoodIn wsX10_restore wsX5_pop := qaf qtM (by decide +kernel) qa0L
set_option maxRecDepth 20000 in
theorem gX10_restore_X5_pop : GoodIn wsX10_restore (wsV RX10 177 RX5 yX5_pop wsX5_pop) := goodIn_app (qag qtM [2501, 2502, 2503, 83] rfl (by decide +kernel)) ggX10_restore_X5_pop
set_option maxRecDepth 20000 in
theorem ggX10_restore_X5_copyFrom : GoodIn wsX10_restore wsX5_copyFrom := qaf qtM (by decide +kernel) qaet
set_option maxRecDepth 20000 in
theorem gX10_restore_X5_copyFrom : GoodIn wsX10_restore (wsV RX10 392 RX5 yX5_copyFrom wsX5_copyFrom) := goodIn_app (qag qtM [4177, 4178, 4179, 83] rfl (by decide +kernel)) ggX10_restore_X5_copyFrom
set_option maxRecDepth 20000 in
theorem ggX10_openText_X10_needWithin : GoodIn wsX10_openText wsX10_needWithin := goodIn_ca (qaf qpo (by decide +kernel) qdH) (goodIn_sub (fun _ h => List.mem_cons_of_mem _ (List.mem_append_right _ h)) (by decide +kernel))
set_option maxRecDepth 20000 in
theorem gX10_openText_X10_needWithin : GoodIn wsX10_openText (wsV RX10 180 RX10 yX10_needWithin wsX10_needWithin) := goodIn_app (qag qpo [653, 654, 655, 2] rfl (by decide +kernel)) ggX10_openText_X10_needWithin
set_option maxRecDepth 20000 in
theorem ggX10_openText_X8_open : GoodIn wsX10_openText wsX8_open := qaf qpo (by decide +kernel) qa5u
set_option maxRecDepth 20000 in
theorem gX10_openText_X8_open : GoodIn wsX10_openText (wsV RX10 398 RX8 yX8_open wsX8_open) := goodIn_app (qag qpo [707, 708, 709, 15] rfl (by decide +kernel)) ggX10_openText_X8_open
set_option maxRecDepth 20000 in
theorem ggX10_needForm_X10_within : GoodIn wsX10_needForm wsX10_within := qaf qtC (by decide +kernel) qBI
set_option maxRecDepth 20000 in
theorem gX10_needForm_X10_within : GoodIn wsX10_needForm (va_wsS RX10 257 yX10_within wsX10_within) := goodIn_app (qag qtC [657, 658, 2] rfl (by decide +kernel)) ggX10_needForm_X10_within
set_option maxRecDepth 20000 in
theorem ggX10_needHare_X10_within : GoodIn wsX10_needHare wsX10_within := qaf qtS (by decide +kernel) qBI
set_option maxRecDepth 20000 in
theorem gX10_needHare_X10_within : GoodIn wsX10_needHare (va_wsS RX10 257 yX10_within wsX10_within) := goodIn_app (qag qtS [657, 658, 2] rfl (by decide +kernel)) ggX10_needHare_X10_within
set_option maxRecDepth 20000 in
theorem ggX10_needWithin_X10_within : GoodIn wsX10_needWithin wsX10_within := qaf qEU (by decide +kernel) qBI
set_option maxRecDepth 20000 in
theorem gX10_needWithin_X10_within : GoodIn wsX10_needWithin (va_wsS RX10 257 yX10_within wsX10_within) := goodIn_app (qag qEU [657, 658, 2] rfl (by decide +kernel)) ggX10_needWithin_X10_within
set_option maxRecDepth 20000 in
theorem ggX10_needWithin_X10_needLegal : GoodIn wsX10_needWithin wsX10_needLegal := goodIn_ca (qaf qEU (by decide +kernel) q2v) (goodIn_sub (fun _ h => List.mem_cons_of_mem _ (List.mem_append_right _ h)) (by decide +kernel))
set_option maxRecDepth 20000 in
theorem gX10_needWithin_X10_needLegal : GoodIn wsX10_needWithin (wsV RX10 322 RX10 yX10_needLegal wsX10_needLegal) := goodIn_app (qag qEU [660, 661, 662, 2] rfl (by decide +kernel)) ggX10_needWithin_X10_needLegal
set_option maxRecDepth 20000 in
theorem ggX10_ordersWon_X10_holds : GoodIn wsX10_ordersWon wsX10_holds := qaf qkU (by decide +kernel) qqZ
set_option maxRecDepth 20000 in
theorem gX10_ordersWon_X10_holds : GoodIn wsX10_ordersWon (va_wsS RX10 332 yX10_holds wsX10_holds) := goodIn_app (qag qkU [3400, 2052, 2] rfl (by decide +kernel)) ggX10_ordersWon_X10_holds
set_option maxRecDepth 20000 in
theorem ggX10_ordersWon_X1_strong : GoodIn wsX10_ordersWon wsX1_strong := qaf qkU (by decide +kernel) qFV
set_option maxRecDepth 20000 in
theorem gX10_ordersWon_X1_strong : GoodIn wsX10_ordersWon (wsV RX10 236 RX1 yX1_strong wsX1_strong) := goodIn_app (qag qkU [2757, 1809, 1810, 78] rfl (by decide +kernel)) ggX10_ordersWon_X1_strong
set_option maxRecDepth 20000 in
theorem ggX10_ordersWon_X10_ordersWon : GoodIn wsX10_ordersWon wsX10_ordersWon := qaf qkU (by decide +kernel) q4i
set_option maxRecDepth 20000 in
theorem gX10_ordersWon_X10_ordersWon : GoodIn wsX10_ordersWon (va_wsS RX10 335 yX10_ordersWon wsX10_ordersWon) := goodIn_app (qag qkU [3401, 3402, 2] rfl (by decide +kernel)) ggX10_ordersWon_X10_ordersWon
set_option maxRecDepth 20000 in
theorem ggX11_init_X11_clears : GoodIn wsX11_init wsX11_clears := qaf qcy (by decide +kernel) qaon
set_option maxRecDepth 20000 in
theorem gX11_init_X11_clears : GoodIn wsX11_init (wsV RX11 105 RX11 yX11_clears wsX11_clears) := goodIn_app (qag qcy [468, 469, 470, 5] rfl (by decide +kernel)) ggX11_init_X11_clears
set_option maxRecDepth 20000 in
theorem ggX11_init_X11_sets : GoodIn wsX11_init wsX11_sets := qaf qcy (by decide +kernel) qaL7
set_option maxRecDepth 20000 in
theorem gX11_init_X11_sets : GoodIn wsX11_init (wsV RX11 108 RX11 yX11_sets wsX11_sets) := goodIn_app (qag qcy [515, 516, 517, 5] rfl (by decide +kernel)) ggX11_init_X11_sets
set_option maxRecDepth 20000 in
theorem ggX11_word_X11_here : GoodIn wsX11_word wsX11_here := qaf qGt (by decide +kernel) qAu
set_option maxRecDepth 20000 in
theorem gX11_word_X11_here : GoodIn wsX11_word (wsV RX11 126 RX11 yX11_here wsX11_here) := goodIn_app (qag qGt [1163, 1164, 1165, 5] rfl (by decide +kernel)) ggX11_word_X11_here
set_option maxRecDepth 20000 in
theorem ggX11_word_X11_isSmall : GoodIn wsX11_word wsX11_isSmall := qaf qGt (by decide +kernel) qacX
set_option maxRecDepth 20000 in
theorem gX11_word_X11_isSmall : GoodIn wsX11_word (va_wsS RX11 130 yX11_isSmall wsX11_isSmall) := goodIn_app (qag qGt [1171, 1172, 5] rfl (by decide +kernel)) ggX11_word_X11_isSmall
set_option maxRecDepth 20000 in
theorem ggX11_of_J0_length_8abf5 : GoodIn wsX11_of wsJ0_length_8abf5 := qaf qau7 (by decide +kernel) qVu
set_option maxRecDepth 20000 in
theorem gX11_of_J0_length_8abf5 : GoodIn wsX11_of (wsV RX11 134 RJ0 yJ0_length_8abf5 wsJ0_length_8abf5) := goodIn_app (qag qau7 [1220, 784, 785, 786] rfl (by decide +kernel)) ggX11_of_J0_length_8abf5
set_option maxRecDepth 20000 in
theorem ggX11_of_J0_charAt_5068e : GoodIn wsX11_of wsJ0_charAt_5068e := qaf qau7 (by decide +kernel) qVQ
set_option maxRecDepth 20000 in
theorem gX11_of_J0_charAt_5068e : GoodIn wsX11_of (wsV RX11 139 RJ0 yJ0_charAt_5068e wsJ0_charAt_5068e) := goodIn_app (qag qau7 [1221, 841, 842, 786] rfl (by decide +kernel)) ggX11_of_J0_charAt_5068e
set_option maxRecDepth 20000 in
theorem ggX11_pass_X11_isSmall : GoodIn wsX11_pass wsX11_isSmall := qaf qOs (by decide +kernel) qacX
set_option maxRecDepth 20000 in
theorem gX11_pass_X11_isSmall : GoodIn wsX11_pass (va_wsS RX11 130 yX11_isSmall wsX11_isSmall) := goodIn_app (qag qOs [1171, 1172, 5] rfl (by decide +kernel)) ggX11_pass_X11_isSmall
set_option maxRecDepth 20000 in
theorem ggX11_readNumber_X11_fine : GoodIn wsX11_readNumber wsX11_fine := qaf qmZ (by decide +kernel) qsZ
set_option maxRecDepth 20000 in
theorem gX11_readNumber_X11_fine : GoodIn wsX11_readNumber (wsV RX11 143 RX11 yX11_fine wsX11_fine) := goodIn_app (qag qmZ [1155, 1156, 1157, 5] rfl (by decide +kernel)) ggX11_readNumber_X11_fine
set_option maxRecDepth 20000 in
theorem ggX11_readNumber_X11_here : GoodIn wsX11_readNumber wsX11_here := qaf qmZ (by decide +kernel) qAu
set_option maxRecDepth 20000 in
theorem gX11_readNumber_X11_here : GoodIn wsX11_readNumber (wsV RX11 126 RX11 yX11_here wsX11_here) := goodIn_app (qag qmZ [1163, 1164, 1165, 5] rfl (by decide +kernel)) ggX11_readNumber_X11_here
set_option maxRecDepth 20000 in
theorem ggX11_readNumber_X11_isDigit : GoodIn wsX11_readNumber wsX11_isDigit := qaf qmZ (by decide +kernel) qafQ
set_option maxRecDepth 20000 in
theorem gX11_readNumber_X11_isDigit : GoodIn wsX11_readNumber (va_wsS RX11 147 yX11_isDigit wsX11_isDigit) := goodIn_app (qag qmZ [1283, 1284, 5] rfl (by decide +kernel)) ggX11_readNumber_X11_isDigit
set_option maxRecDepth 20000 in
theorem ggX11_readNumber_X11_wrong : GoodIn wsX11_readNumber wsX11_wrong := qaf qmZ (by decide +kernel) qzC
set_option maxRecDepth 20000 in
theorem gX11_readNumber_X11_wrong : GoodIn wsX11_readNumber (wsV RX11 150 RX11 yX11_wrong wsX11_wrong) := goodIn_app (qag qmZ [1222, 1223, 1224, 5] rfl (by decide +kernel)) ggX11_readNumber_X11_wrong
set_option maxRecDepth 20000 in
theorem ggX11_sign_X11_fine : GoodIn wsX11_sign wsX11_fine := qaf qGG (by decide +kernel) qsZ
set_option maxRecDepth 20000 in
theorem gX11_sign_X11_fine : GoodIn wsX11_sign (wsV RX11 143 RX11 yX11_fine wsX11_fine) := goodIn_app (qag qGG [1155, 1156, 1157, 5] rfl (by decide +kernel)) ggX11_sign_X11_fine
set_option maxRecDepth 20000 in
theorem ggX11_sign_X11_here : GoodIn wsX11_sign wsX11_here := qaf qGG (by decide +kernel) qAu
set_option maxRecDepth 20000 in
theorem gX11_sign_X11_here : GoodIn wsX11_sign (wsV RX11 126 RX11 yX11_here wsX11_here) := goodIn_app (qag qGG [1163, 1164, 1165, 5] rfl (by decide +kernel)) ggX11_sign_X11_here
set_option maxRecDepth 20000 in
theorem ggX11_sign_X11_wrong : GoodIn wsX11_sign wsX11_wrong := qaf qGG (by decide +kernel) qzC
set_option maxRecDepth 20000 in
theorem gX11_sign_X11_wrong : GoodIn wsX11_sign (wsV RX11 150 RX11 yX11_wrong wsX11_wrong) := goodIn_app (qag qGG [1222, 1223, 1224, 5] rfl (by decide +kernel)) ggX11_sign_X11_wrong
set_option maxRecDepth 20000 in
theorem ggX11_isMore_X11_here : GoodIn wsX11_isMore wsX11_here := qaf qLv (by decide +kernel) qAu
set_option maxRecDepth 20000 in
theorem gX11_isMore_X11_here : GoodIn wsX11_isMore (wsV RX11 126 RX11 yX11_here wsX11_here) := goodIn_app (qag qLv [1163, 1164, 1165, 5] rfl (by decide +kernel)) ggX11_isMore_X11_here
set_option maxRecDepth 20000 in
theorem ggX11_result_X11_fine : GoodIn wsX11_result wsX11_fine := qaf qGk (by decide +kernel) qsZ
set_option maxRecDepth 20000 in
theorem gX11_result_X11_fine : GoodIn wsX11_result (wsV RX11 143 RX11 yX11_fine wsX11_fine) := goodIn_app (qag qGk [1155, 1156, 1157, 5] rfl (by decide +kernel)) ggX11_result_X11_fine
set_option maxRecDepth 20000 in
theorem ggX11_sets_X11_copies : GoodIn wsX11_sets wsX11_copies := qaf qm6 (by decide +kernel) qLw
set_option maxRecDepth 20000 in
theorem gX11_sets_X11_copies : GoodIn wsX11_sets (wsV RX11 175 RX11 yX11_copies wsX11_copies) := goodIn_app (qag qm6 [527, 528, 529, 5] rfl (by decide +kernel)) ggX11_sets_X11_copies
set_option maxRecDepth 20000 in
theorem ggX11_readHare_X11_readNumber : GoodIn wsX11_readHare wsX11_readNumber := qaf qKN (by decide +kernel) quL
set_option maxRecDepth 20000 in
theorem gX11_readHare_X11_readNumber : GoodIn wsX11_readHare (wsV RX11 194 RX11 yX11_readNumber wsX11_readNumber) := goodIn_app (qag qKN [1239, 1280, 1281, 5] rfl (by decide +kernel)) ggX11_readHare_X11_readNumber
set_option maxRecDepth 20000 in
theorem ggX11_readDebt_X11_readHare : GoodIn wsX11_readDebt wsX11_readHare := qaf qn9 (by decide +kernel) qaGh
set_option maxRecDepth 20000 in
theorem gX11_readDebt_X11_readHare : GoodIn wsX11_readDebt (wsV RX11 198 RX11 yX11_readHare wsX11_readHare) := goodIn_app (qag qn9 [1290, 1291, 1292, 5] rfl (by decide +kernel)) ggX11_readDebt_X11_readHare
set_option maxRecDepth 20000 in
theorem ggX11_readDebt_X11_here : GoodIn wsX11_readDebt wsX11_here := qaf qn9 (by decide +kernel) qAu
set_option maxRecDepth 20000 in
theorem gX11_readDebt_X11_here : GoodIn wsX11_readDebt (wsV RX11 126 RX11 yX11_here wsX11_here) := goodIn_app (qag qn9 [1163, 1164, 1165, 5] rfl (by decide +kernel)) ggX11_readDebt_X11_here
set_option maxRecDepth 20000 in
theorem ggX11_readDebt_X11_fine : GoodIn wsX11_readDebt wsX11_fine := qaf qn9 (by decide +kernel) qsZ
set_option maxRecDepth 20000 in
theorem gX11_readDebt_X11_fine : GoodIn wsX11_readDebt (wsV RX11 143 RX11 yX11_fine wsX11_fine) := goodIn_app (qag qn9 [1155, 1156, 1157, 5] rfl (by decide +kernel)) ggX11_readDebt_X11_fine
set_option maxRecDepth 20000 in
theorem ggX11_readDebt_X11_wrong : GoodIn wsX11_readDebt wsX11_wrong := qaf qn9 (by decide +kernel) qzC
set_option maxRecDepth 20000 in
theorem gX11_readDebt_X11_wrong : GoodIn wsX11_readDebt (wsV RX11 150 RX11 yX11_wrong wsX11_wrong) := goodIn_app (qag qn9 [1222, 1223, 1224, 5] rfl (by decide +kernel)) ggX11_readDebt_X11_wrong
set_option maxRecDepth 20000 in
theorem ggX11_readDebt_X11_readNumber : GoodIn wsX11_readDebt wsX11_readNumber := qaf qn9 (by decide +kernel) quL
set_option maxRecDepth 20000 in
theorem gX11_readDebt_X11_readNumber : GoodIn wsX11_readDebt (wsV RX11 194 RX11 yX11_readNumber wsX11_readNumber) := goodIn_app (qag qn9 [1239, 1280, 1281, 5] rfl (by decide +kernel)) ggX11_readDebt_X11_readNumber
set_option maxRecDepth 20000 in
theorem ggX11_isRow_X11_of : GoodIn wsX11_isRow wsX11_of := qaf qays (by decide +kernel) q4X
set_option maxRecDepth 20000 in
theorem gX11_isRow_X11_of : GoodIn wsX11_isRow (va_wsS RX11 202 yX11_of wsX11_of) := goodIn_app (qag qays [1217, 1218, 5] rfl (by decide +kernel)) ggX11_isRow_X11_of
set_option maxRecDepth 20000 in
theorem ggX11_isFull_X11_of : GoodIn wsX11_isFull wsX11_of := qaf qGI (by decide +kernel) q4X
set_option maxRecDepth 20000 in
theorem gX11_isFull_X11_of : GoodIn wsX11_isFull (va_wsS RX11 202 yX11_of wsX11_of) := goodIn_app (qag qGI [1217, 1218, 5] rfl (by decide +kernel)) ggX11_isFull_X11_of
set_option maxRecDepth 20000 in
theorem ggX11_readRow_X11_of : GoodIn wsX11_readRow wsX11_of := qaf qpx (by decide +kernel) q4X
set_option maxRecDepth 20000 in
theorem gX11_readRow_X11_of : GoodIn wsX11_readRow (va_wsS RX11 202 yX11_of wsX11_of) := goodIn_app (qag qpx [1217, 1218, 5] rfl (by decide +kernel)) ggX11_readRow_X11_of
set_option maxRecDepth 20000 in
theorem ggX11_readRow_X11_readNumber : GoodIn wsX11_readRow wsX11_readNumber := qaf qpx (by decide +kernel) quL
set_option maxRecDepth 20000 in
theorem gX11_readRow_X11_readNumber : GoodIn wsX11_readRow (wsV RX11 194 RX11 yX11_readNumber wsX11_readNumber) := goodIn_app (qag qpx [1239, 1280, 1281, 5] rfl (by decide +kernel)) ggX11_readRow_X11_readNumber
set_option maxRecDepth 20000 in
theorem ggX11_readRow_X11_readDebt : GoodIn wsX11_readRow wsX11_readDebt := qaf qpx (by decide +kernel) qaJs
set_option maxRecDepth 20000 in
theorem gX11_readRow_X11_readDebt : GoodIn wsX11_readRow (wsV RX11 210 RX11 yX11_readDebt wsX11_readDebt) := goodIn_app (qag qpx [1286, 1287, 1288, 5] rfl (by decide +kernel)) ggX11_readRow_X11_readDebt
set_option maxRecDepth 20000 in
theorem ggX11_down_X11_may : GoodIn wsX11_down wsX11_may := qaf qdJ (by decide +kernel) qoR
set_option maxRecDepth 20000 in
theorem gX11_down_X11_may : GoodIn wsX11_down (wsV RX11 213 RX11 yX11_may wsX11_may) := goodIn_app (qag qdJ [1105, 1106, 1107, 5] rfl (by decide +kernel)) ggX11_down_X11_may
set_option maxRecDepth 20000 in
theorem ggX11_down_X11_begins : GoodIn wsX11_down wsX11_begins := qaf qdJ (by decide +kernel) qR8
set_option maxRecDepth 20000 in
theorem gX11_down_X11_begins : GoodIn wsX11_down (wsV RX11 217 RX11 yX11_begins wsX11_begins) := goodIn_app (qag qdJ [1109, 1110, 1111, 5] rfl (by decide +kernel)) ggX11_down_X11_begins
set_option maxRecDepth 20000 in
theorem ggX11_down_X11_clears : GoodIn wsX11_down wsX11_clears := qaf qdJ (by decide +kernel) qaon
set_option maxRecDepth 20000 in
theorem gX11_down_X11_clears : GoodIn wsX11_down (wsV RX11 105 RX11 yX11_clears wsX11_clears) := goodIn_app (qag qdJ [468, 469, 470, 5] rfl (by decide +kernel)) ggX11_down_X11_clears
set_option maxRecDepth 20000 in
theorem ggX11_down_X11_fine : GoodIn wsX11_down wsX11_fine := qaf qdJ (by decide +kernel) qsZ
set_option maxRecDepth 20000 in
theorem gX11_down_X11_fine : GoodIn wsX11_down (wsV RX11 143 RX11 yX11_fine wsX11_fine) := goodIn_app (qag qdJ [1155, 1156, 1157, 5] rfl (by decide +kernel)) ggX11_down_X11_fine
set_option maxRecDepth 20000 in
theorem ggX11_down_X11_isMore : GoodIn wsX11_down wsX11_isMore := qaf qdJ (by decide +kernel) qSy
set_option maxRecDepth 20000 in
theorem gX11_down_X11_isMore : GoodIn wsX11_down (wsV RX11 221 RX11 yX11_isMore wsX11_isMore) := goodIn_app (qag qdJ [1159, 1160, 1161, 5] rfl (by decide +kernel)) ggX11_down_X11_isMore
set_option maxRecDepth 20000 in
theorem ggX11_down_X11_word : GoodIn wsX11_down wsX11_word := qaf qdJ (by decide +kernel) q4Z
set_option maxRecDepth 20000 in
theorem gX11_down_X11_word : GoodIn wsX11_down (wsV RX11 224 RX11 yX11_word wsX11_word) := goodIn_app (qag qdJ [1167, 1168, 1169, 5] rfl (by decide +kernel)) ggX11_down_X11_word
set_option maxRecDepth 20000 in
theorem ggX11_down_X11_isRow : GoodIn wsX11_down wsX11_isRow := qaf qdJ (by decide +kernel) qaWA
set_option maxRecDepth 20000 in
theorem gX11_down_X11_isRow : GoodIn wsX11_down (va_wsS RX11 227 yX11_isRow wsX11_isRow) := goodIn_app (qag qdJ [1174, 1175, 5] rfl (by decide +kernel)) ggX11_down_X11_isRow
set_option maxRecDepth 20000 in
theorem ggX11_down_X11_wrong : GoodIn wsX11_down wsX11_wrong := qaf qdJ (by decide +kernel) qzC
set_option maxRecDepth 20000 in
theorem gX11_down_X11_wrong : GoodIn wsX11_down (wsV RX11 150 RX11 yX11_wrong wsX11_wrong) := goodIn_app (qag qdJ [1222, 1223, 1224, 5] rfl (by decide +kernel)) ggX11_down_X11_wrong
set_option maxRecDepth 20000 in
theorem ggX11_down_X11_isFull : GoodIn wsX11_down wsX11_isFull := qaf qdJ (by decide +kernel) qaUx
set_option maxRecDepth 20000 in
theorem gX11_down_X11_isFull : GoodIn wsX11_down (wsV RX11 230 RX11 yX11_isFull wsX11_isFull) := goodIn_app (qag qdJ [1227, 1228, 1229, 5] rfl (by decide +kernel)) ggX11_down_X11_isFull
set_option maxRecDepth 20000 in
theorem ggX11_down_X11_pass : GoodIn wsX11_down wsX11_pass := qaf qdJ (by decide +kernel) qaiQ
set_option maxRecDepth 20000 in
theorem gX11_down_X11_pass : GoodIn wsX11_down (wsV RX11 233 RX11 yX11_pass wsX11_pass) := goodIn_app (qag qdJ [1231, 1232, 1233, 5] rfl (by decide +kernel)) ggX11_down_X11_pass
set_option maxRecDepth 20000 in
theorem ggX11_down_X11_readRow : GoodIn wsX11_down wsX11_readRow := qaf qdJ (by decide +kernel) qaQo
set_option maxRecDepth 20000 in
theorem gX11_down_X11_readRow : GoodIn wsX11_down (wsV RX11 236 RX11 yX11_readRow wsX11_readRow) := goodIn_app (qag qdJ [1235, 1236, 1237, 5] rfl (by decide +kernel)) ggX11_down_X11_readRow
set_option maxRecDepth 20000 in
theorem ggX11_down_X11_sign : GoodIn wsX11_down wsX11_sign := qaf qdJ (by decide +kernel) qU8
set_option maxRecDepth 20000 in
theorem gX11_down_X11_sign : GoodIn wsX11_down (wsV RX11 239 RX11 yX11_sign wsX11_sign) := goodIn_app (qag qdJ [1294, 1295, 1296, 5] rfl (by decide +kernel)) ggX11_down_X11_sign
set_option maxRecDepth 20000 in
theorem ggX11_down_X11_result : GoodIn wsX11_down wsX11_result := qaf qdJ (by decide +kernel) qR3
set_option maxRecDepth 20000 in
theorem gX11_down_X11_result : GoodIn wsX11_down (wsV RX11 242 RX11 yX11_result wsX11_result) := goodIn_app (qag qdJ [1298, 1299, 1300, 5] rfl (by decide +kernel)) ggX11_down_X11_result
set_option maxRecDepth 20000 in
theorem ggX11_down_X11_sets : GoodIn wsX11_down wsX11_sets := qaf qdJ (by decide +kernel) qaL7
set_option maxRecDepth 20000 in
theorem gX11_down_X11_sets : GoodIn wsX11_down (wsV RX11 108 RX11 yX11_sets wsX11_sets) := goodIn_app (qag qdJ [515, 516, 517, 5] rfl (by decide +kernel)) ggX11_down_X11_sets
set_option maxRecDepth 20000 in
theorem ggX11_emit_X11_fine : GoodIn wsX11_emit wsX11_fine := qaf qOr (by decide +kernel) qsZ
set_option maxRecDepth 20000 in
theorem gX11_emit_X11_fine : GoodIn wsX11_emit (wsV RX11 143 RX11 yX11_fine wsX11_fine) := goodIn_app (qag qOr [1155, 1156, 1157, 5] rfl (by decide +kernel)) ggX11_emit_X11_fine
set_option maxRecDepth 20000 in
theorem ggX11_opensOne_X11_fine : GoodIn wsX11_opensOne wsX11_fine := qaf qxA (by decide +kernel) qsZ
set_option maxRecDepth 20000 in
theorem gX11_opensOne_X11_fine : GoodIn wsX11_opensOne (wsV RX11 143 RX11 yX11_fine wsX11_fine) := goodIn_app (qag qxA [1155, 1156, 1157, 5] rfl (by decide +kernel)) ggX11_opensOne_X11_fine
set_option maxRecDepth 20000 in
theorem ggX11_opensOne_X11_wrong : GoodIn wsX11_opensOne wsX11_wrong := qaf qxA (by decide +kernel) qzC
set_option maxRecDepth 20000 in
theorem gX11_opensOne_X11_wrong : GoodIn wsX11_opensOne (wsV RX11 150 RX11 yX11_wrong wsX11_wrong) := goodIn_app (qag qxA [1222, 1223, 1224, 5] rfl (by decide +kernel)) ggX11_opensOne_X11_wrong
set_option maxRecDepth 20000 in
theorem ggX11_readSum_X11_readProduct : GoodIn wsX11_readSum wsX11_readProduct := qaf qqM (by decide +kernel) qaml
set_option maxRecDepth 20000 in
theorem gX11_readSum_X11_readProduct : GoodIn wsX11_readSum (wsV RX11 249 RX11 yX11_readProduct wsX11_readProduct) := goodIn_app (qag qqM [1486, 1487, 1488, 5] rfl (by decide +kernel)) ggX11_readSum_X11_readProduct
set_option maxRecDepth 20000 in
theorem ggX11_readSum_X11_fine : GoodIn wsX11_readSum wsX11_fine := qaf qqM (by decide +kernel) qsZ
set_option maxRecDepth 20000 in
theorem gX11_readSum_X11_fine : GoodIn wsX11_readSum (wsV RX11 143 RX11 yX11_fine wsX11_fine) := goodIn_app (qag qqM [1155, 1156, 1157, 5] rfl (by decide +kernel)) ggX11_readSum_X11_fine
set_option maxRecDepth 20000 in
theorem ggX11_readSum_X11_here : GoodIn wsX11_readSum wsX11_here := qaf qqM (by decide +kernel) qAu
set_option maxRecDepth 20000 in
theorem gX11_readSum_X11_here : GoodIn wsX11_readSum (wsV RX11 126 RX11 yX11_here wsX11_here) := goodIn_app (qag qqM [1163, 1164, 1165, 5] rfl (by decide +kernel)) ggX11_readSum_X11_here
set_option maxRecDepth 20000 in
theorem ggX11_readSum_X11_emit : GoodIn wsX11_readSum wsX11_emit := qaf qqM (by decide +kernel) q4N
set_option maxRecDepth 20000 in
theorem gX11_readSum_X11_emit : GoodIn wsX11_readSum (wsV RX11 252 RX11 yX11_emit wsX11_emit) := goodIn_app (qag qqM [1489, 1490, 1491, 5] rfl (by decide +kernel)) ggX11_readSum_X11_emit
set_option maxRecDepth 20000 in
theorem ggX11_readProduct_X11_readUnit : GoodIn wsX11_readProduct wsX11_readUnit := qaf qkE (by decide +kernel) qaII
set_option maxRecDepth 20000 in
theorem gX11_readProduct_X11_readUnit : GoodIn wsX11_readProduct (wsV RX11 255 RX11 yX11_readUnit wsX11_readUnit) := goodIn_app (qag qkE [1494, 1495, 1536, 5] rfl (by decide +kernel)) ggX11_readProduct_X11_readUnit
set_option maxRecDepth 20000 in
theorem ggX11_readProduct_X11_fine : GoodIn wsX11_readProduct wsX11_fine := qaf qkE (by decide +kernel) qsZ
set_option maxRecDepth 20000 in
theorem gX11_readProduct_X11_fine : GoodIn wsX11_readProduct (wsV RX11 143 RX11 yX11_fine wsX11_fine) := goodIn_app (qag qkE [1155, 1156, 1157, 5] rfl (by decide +kernel)) ggX11_readProduct_X11_fine
set_option maxRecDepth 20000 in
theorem ggX11_readProduct_X11_here : GoodIn wsX11_readProduct wsX11_here := qaf qkE (by decide +kernel) qAu
set_option maxRecDepth 20000 in
theorem gX11_readProduct_X11_here : GoodIn wsX11_readProduct (wsV RX11 126 RX11 yX11_here wsX11_here) := goodIn_app (qag qkE [1163, 1164, 1165, 5] rfl (by decide +kernel)) ggX11_readProduct_X11_here
set_option maxRecDepth 20000 in
theorem ggX11_readProduct_X11_emit : GoodIn wsX11_readProduct wsX11_emit := qaf qkE (by decide +kernel) q4N
set_option maxRecDepth 20000 in
theorem gX11_readProduct_X11_emit : GoodIn wsX11_readProduct (wsV RX11 252 RX11 yX11_emit wsX11_emit) := goodIn_app (qag qkE [1489, 1490, 1491, 5] rfl (by decide +kernel)) ggX11_readProduct_X11_emit
set_option maxRecDepth 20000 in
theorem ggX11_readTwo_X11_opensOne : GoodIn wsX11_readTwo wsX11_opensOne := qaf qtL (by decide +kernel) qTH
set_option maxRecDepth 20000 in
theorem gX11_readTwo_X11_opensOne : GoodIn wsX11_readTwo (wsV RX11 258 RX11 yX11_opensOne wsX11_opensOne) := goodIn_app (qag qtL [1538, 1539, 1540, 5] rfl (by decide +kernel)) ggX11_readTwo_X11_opensOne
set_option maxRecDepth 20000 in
theorem ggX11_readTwo_X11_sign : GoodIn wsX11_readTwo wsX11_sign := qaf qtL (by decide +kernel) qU8
set_option maxRecDepth 20000 in
theorem gX11_readTwo_X11_sign : GoodIn wsX11_readTwo (wsV RX11 239 RX11 yX11_sign wsX11_sign) := goodIn_app (qag qtL [1294, 1295, 1296, 5] rfl (by decide +kernel)) ggX11_readTwo_X11_sign
set_option maxRecDepth 20000 in
theorem ggX11_readTwo_X11_readSum : GoodIn wsX11_readTwo wsX11_readSum := qaf qtL (by decide +kernel) qW8
set_option maxRecDepth 20000 in
theorem gX11_readTwo_X11_readSum : GoodIn wsX11_readTwo (wsV RX11 261 RX11 yX11_readSum wsX11_readSum) := goodIn_app (qag qtL [1482, 1483, 1484, 5] rfl (by decide +kernel)) ggX11_readTwo_X11_readSum
set_option maxRecDepth 20000 in
theorem ggX11_readTwo_X11_emit : GoodIn wsX11_readTwo wsX11_emit := qaf qtL (by decide +kernel) q4N
set_option maxRecDepth 20000 in
theorem gX11_readTwo_X11_emit : GoodIn wsX11_readTwo (wsV RX11 252 RX11 yX11_emit wsX11_emit) := goodIn_app (qag qtL [1489, 1490, 1491, 5] rfl (by decide +kernel)) ggX11_readTwo_X11_emit
set_option maxRecDepth 20000 in
theorem ggX11_factHere_X11_word : GoodIn wsX11_factHere wsX11_word := qaf qKA (by decide +kernel) q4Z
set_option maxRecDepth 20000 in
theorem gX11_factHere_X11_word : GoodIn wsX11_factHere (wsV RX11 224 RX11 yX11_word wsX11_word) := goodIn_app (qag qKA [1167, 1168, 1169, 5] rfl (by decide +kernel)) ggX11_factHere_X11_word
set_option maxRecDepth 20000 in
theorem ggX11_factHere_X11_of : GoodIn wsX11_factHere wsX11_of := qaf qKA (by decide +kernel) q4X
set_option maxRecDepth 20000 in
theorem gX11_factHere_X11_of : GoodIn wsX11_factHere (va_wsS RX11 202 yX11_of wsX11_of) := goodIn_app (qag qKA [1217, 1218, 5] rfl (by decide +kernel)) ggX11_factHere_X11_of
set_option maxRecDepth 20000 in
theorem ggX11_readUnit_X11_fine : GoodIn wsX11_readUnit wsX11_fine := qaf qbJ (by decide +kernel) qsZ
set_option maxRecDepth 20000 in
theorem gX11_readUnit_X11_fine : GoodIn wsX11_readUnit (wsV RX11 143 RX11 yX11_fine wsX11_fine) := goodIn_app (qag qbJ [1155, 1156, 1157, 5] rfl (by decide +kernel)) ggX11_readUnit_X11_fine
set_option maxRecDepth 20000 in
theorem ggX11_readUnit_X11_here : GoodIn wsX11_readUnit wsX11_here := qaf qbJ (by decide +kernel) qAu
set_option maxRecDepth 20000 in
theorem gX11_readUnit_X11_here : GoodIn wsX11_readUnit (wsV RX11 126 RX11 yX11_here wsX11_here) := goodIn_app (qag qbJ [1163, 1164, 1165, 5] rfl (by decide +kernel)) ggX11_readUnit_X11_here
set_option maxRecDepth 20000 in
theorem ggX11_readUnit_X11_opensOne : GoodIn wsX11_readUnit wsX11_opensOne := qaf qbJ (by decide +kernel) qTH
set_option maxRecDepth 20000 in
theorem gX11_readUnit_X11_opensOne : GoodIn wsX11_readUnit (wsV RX11 258 RX11 yX11_opensOne wsX11_opensOne) := goodIn_app (qag qbJ [1538, 1539, 1540, 5] rfl (by decide +kernel)) ggX11_readUnit_X11_opensOne
set_option maxRecDepth 20000 in
theorem ggX11_readUnit_X11_readSum : GoodIn wsX11_readUnit wsX11_readSum := qaf qbJ (by decide +kernel) qW8
set_option maxRecDepth 20000 in
theorem gX11_readUnit_X11_readSum : GoodIn wsX11_readUnit (wsV RX11 261 RX11 yX11_readSum wsX11_readSum) := goodIn_app (qag qbJ [1482, 1483, 1484, 5] rfl (by decide +kernel)) ggX11_readUnit_X11_readSum
set_option maxRecDepth 20000 in
theorem ggX11_readUnit_X11_sign : GoodIn wsX11_readUnit wsX11_sign := qaf qbJ (by decide +kernel) qU8
set_option maxRecDepth 20000 in
theorem gX11_readUnit_X11_sign : GoodIn wsX11_readUnit (wsV RX11 239 RX11 yX11_sign wsX11_sign) := goodIn_app (qag qbJ [1294, 1295, 1296, 5] rfl (by decide +kernel)) ggX11_readUnit_X11_sign
set_option maxRecDepth 20000 in
theorem ggX11_readUnit_X11_isDigit : GoodIn wsX11_readUnit wsX11_isDigit := qaf qbJ (by decide +kernel) qafQ
set_option maxRecDepth 20000 in
theorem gX11_readUnit_X11_isDigit : GoodIn wsX11_readUnit (va_wsS RX11 147 yX11_isDigit wsX11_isDigit) := goodIn_app (qag qbJ [1283, 1284, 5] rfl (by decide +kernel)) ggX11_readUnit_X11_isDigit
set_option maxRecDepth 20000 in
theorem ggX11_readUnit_X11_readNumber : GoodIn wsX11_readUnit wsX11_readNumber := qaf qbJ (by decide +kernel) quL
set_option maxRecDepth 20000 in
theorem gX11_readUnit_X11_readNumber : GoodIn wsX11_readUnit (wsV RX11 194 RX11 yX11_readNumber wsX11_readNumber) := goodIn_app (qag qbJ [1239, 1280, 1281, 5] rfl (by decide +kernel)) ggX11_readUnit_X11_readNumber
set_option maxRecDepth 20000 in
theorem ggX11_readUnit_X11_emit : GoodIn wsX11_readUnit wsX11_emit := qaf qbJ (by decide +kernel) q4N
set_option maxRecDepth 20000 in
theorem gX11_readUnit_X11_emit : GoodIn wsX11_readUnit (wsV RX11 252 RX11 yX11_emit wsX11_emit) := goodIn_app (qag qbJ [1489, 1490, 1491, 5] rfl (by decide +kernel)) ggX11_readUnit_X11_emit
set_option maxRecDepth 20000 in
theorem ggX11_readUnit_X11_word : GoodIn wsX11_readUnit wsX11_word := qaf qbJ (by decide +kernel) q4Z
set_option maxRecDepth 20000 in
theorem gX11_readUnit_X11_word : GoodIn wsX11_readUnit (wsV RX11 224 RX11 yX11_word wsX11_word) := goodIn_app (qag qbJ [1167, 1168, 1169, 5] rfl (by decide +kernel)) ggX11_readUnit_X11_word
set_option maxRecDepth 20000 in
theorem ggX11_readUnit_X11_of : GoodIn wsX11_readUnit wsX11_of := qaf qbJ (by decide +kernel) q4X
set_option maxRecDepth 20000 in
theorem gX11_readUnit_X11_of : GoodIn wsX11_readUnit (va_wsS RX11 202 yX11_of wsX11_of) := goodIn_app (qag qbJ [1217, 1218, 5] rfl (by decide +kernel)) ggX11_readUnit_X11_of
set_option maxRecDepth 20000 in
theorem ggX11_readUnit_X11_readTwo : GoodIn wsX11_readUnit wsX11_readTwo := qaf qbJ (by decide +kernel) qaRQ
set_option maxRecDepth 20000 in
theorem gX11_readUnit_X11_readTwo : GoodIn wsX11_readUnit (wsV RX11 280 RX11 yX11_readTwo wsX11_readTwo) := goodIn_app (qag qbJ [1543, 1544, 1545, 5] rfl (by decide +kernel)) ggX11_readUnit_X11_readTwo
set_option maxRecDepth 20000 in
theorem ggX11_readUnit_X11_factHere : GoodIn wsX11_readUnit wsX11_factHere := qaf qbJ (by decide +kernel) qaKA
set_option maxRecDepth 20000 in
theorem gX11_readUnit_X11_factHere : GoodIn wsX11_readUnit (wsV RX11 285 RX11 yX11_factHere wsX11_factHere) := goodIn_app (qag qbJ [1546, 1547, 1548, 5] rfl (by decide +kernel)) ggX11_readUnit_X11_factHere
set_option maxRecDepth 20000 in
theorem ggX11_readUnit_X11_wrong : GoodIn wsX11_readUnit wsX11_wrong := qaf qbJ (by decide +kernel) qzC
set_option maxRecDepth 20000 in
theorem gX11_readUnit_X11_wrong : GoodIn wsX11_readUnit (wsV RX11 150 RX11 yX11_wrong wsX11_wrong) := goodIn_app (qag qbJ [1222, 1223, 1224, 5] rfl (by decide +kernel)) ggX11_readUnit_X11_wrong
set_option maxRecDepth 20000 in
theorem ggX11_readUnit_X11_pass : GoodIn wsX11_readUnit wsX11_pass := qaf qbJ (by decide +kernel) qaiQ
set_option maxRecDepth 20000 in
theorem gX11_readUnit_X11_pass : GoodIn wsX11_readUnit (wsV RX11 233 RX11 yX11_pass wsX11_pass) := goodIn_app (qag qbJ [1231, 1232, 1233, 5] rfl (by decide +kernel)) ggX11_readUnit_X11_pass
set_option maxRecDepth 20000 in
theorem ggX11_law_X11_may : GoodIn wsX11_law wsX11_may := qaf qng (by decide +kernel) qoR
set_option maxRecDepth 20000 in
theorem gX11_law_X11_may : GoodIn wsX11_law (wsV RX11 213 RX11 yX11_may wsX11_may) := goodIn_app (qag qng [1105, 1106, 1107, 5] rfl (by decide +kernel)) ggX11_law_X11_may
set_option maxRecDepth 20000 in
theorem ggX11_law_X11_begins : GoodIn wsX11_law wsX11_begins := qaf qng (by decide +kernel) qR8
set_option maxRecDepth 20000 in
theorem gX11_law_X11_begins : GoodIn wsX11_law (wsV RX11 217 RX11 yX11_begins wsX11_begins) := goodIn_app (qag qng [1109, 1110, 1111, 5] rfl (by decide +kernel)) ggX11_law_X11_begins
set_option maxRecDepth 20000 in
theorem ggX11_law_X11_readSum : GoodIn wsX11_law wsX11_readSum := qaf qng (by decide +kernel) qW8
set_option maxRecDepth 20000 in
theorem gX11_law_X11_readSum : GoodIn wsX11_law (wsV RX11 261 RX11 yX11_readSum wsX11_readSum) := goodIn_app (qag qng [1482, 1483, 1484, 5] rfl (by decide +kernel)) ggX11_law_X11_readSum
set_option maxRecDepth 20000 in
theorem ggX11_law_X11_fine : GoodIn wsX11_law wsX11_fine := qaf qng (by decide +kernel) qsZ
set_option maxRecDepth 20000 in
theorem gX11_law_X11_fine : GoodIn wsX11_law (wsV RX11 143 RX11 yX11_fine wsX11_fine) := goodIn_app (qag qng [1155, 1156, 1157, 5] rfl (by decide +kernel)) ggX11_law_X11_fine
set_option maxRecDepth 20000 in
theorem ggX11_law_X11_isMore : GoodIn wsX11_law wsX11_isMore := qaf qng (by decide +kernel) qSy
set_option maxRecDepth 20000 in
theorem gX11_law_X11_isMore : GoodIn wsX11_law (wsV RX11 221 RX11 yX11_isMore wsX11_isMore) := goodIn_app (qag qng [1159, 1160, 1161, 5] rfl (by decide +kernel)) ggX11_law_X11_isMore
set_option maxRecDepth 20000 in
theorem ggX11_law_X11_wrong : GoodIn wsX11_law wsX11_wrong := qaf qng (by decide +kernel) qzC
set_option maxRecDepth 20000 in
theorem gX11_law_X11_wrong : GoodIn wsX11_law (wsV RX11 150 RX11 yX11_wrong wsX11_wrong) := goodIn_app (qag qng [1222, 1223, 1224, 5] rfl (by decide +kernel)) ggX11_law_X11_wrong
set_option maxRecDepth 20000 in
theorem ggX11_law_X11_result : GoodIn wsX11_law wsX11_result := qaf qng (by decide +kernel) qR3
set_option maxRecDepth 20000 in
theorem gX11_law_X11_result : GoodIn wsX11_law (wsV RX11 242 RX11 yX11_result wsX11_result) := goodIn_app (qag qng [1298, 1299, 1300, 5] rfl (by decide +kernel)) ggX11_law_X11_result
set_option maxRecDepth 20000 in
theorem ggX11_law_X11_copies : GoodIn wsX11_law wsX11_copies := qaf qng (by decide +kernel) qLw
set_option maxRecDepth 20000 in
theorem gX11_law_X11_copies : GoodIn wsX11_law (wsV RX11 175 RX11 yX11_copies wsX11_copies) := goodIn_app (qag qng [527, 528, 529, 5] rfl (by decide +kernel)) ggX11_law_X11_copies
set_option maxRecDepth 20000 in
theorem ggX11_valueNow_X11_both : GoodIn wsX11_valueNow wsX11_both := qaf qvh (by decide +kernel) qa1V
set_option maxRecDepth 20000 in
theorem gX11_valueNow_X11_both : GoodIn wsX11_valueNow (va_wsS RX11 288 yX11_both wsX11_both) := goodIn_app (qag qvh [2312, 2313, 5] rfl (by decide +kernel)) ggX11_valueNow_X11_both
set_option maxRecDepth 20000 in
theorem ggX11_leapNow_X11_valueNow : GoodIn wsX11_leapNow wsX11_valueNow := qaf qHn (by decide +kernel) qaJ3
set_option maxRecDepth 20000 in
theorem gX11_leapNow_X11_valueNow : GoodIn wsX11_leapNow (wsV RX11 292 RX11 yX11_valueNow wsX11_valueNow) := goodIn_app (qag qHn [2308, 2309, 2310, 5] rfl (by decide +kernel)) ggX11_leapNow_X11_valueNow
set_option maxRecDepth 20000 in
theorem ggX11_tellsStep_X11_fine : GoodIn wsX11_tellsStep wsX11_fine := qaf qCi (by decide +kernel) qsZ
set_option maxRecDepth 20000 in
theorem gX11_tellsStep_X11_fine : GoodIn wsX11_tellsStep (wsV RX11 143 RX11 yX11_fine wsX11_fine) := goodIn_app (qag qCi [1155, 1156, 1157, 5] rfl (by decide +kernel)) ggX11_tellsStep_X11_fine
set_option maxRecDepth 20000 in
theorem ggX11_readLiving_X11_readNumber : GoodIn wsX11_readLiving wsX11_readNumber := qaf qEz (by decide +kernel) quL
set_option maxRecDepth 20000 in
theorem gX11_readLiving_X11_readNumber : GoodIn wsX11_readLiving (wsV RX11 194 RX11 yX11_readNumber wsX11_readNumber) := goodIn_app (qag qEz [1239, 1280, 1281, 5] rfl (by decide +kernel)) ggX11_readLiving_X11_readNumber
set_option maxRecDepth 20000 in
theorem ggX11_readStep_X11_word : GoodIn wsX11_readStep wsX11_word := qaf qbv (by decide +kernel) q4Z
set_option maxRecDepth 20000 in
theorem gX11_readStep_X11_word : GoodIn wsX11_readStep (wsV RX11 224 RX11 yX11_word wsX11_word) := goodIn_app (qag qbv [1167, 1168, 1169, 5] rfl (by decide +kernel)) ggX11_readStep_X11_word
set_option maxRecDepth 20000 in
theorem ggX11_readStep_X11_of : GoodIn wsX11_readStep wsX11_of := qaf qbv (by decide +kernel) q4X
set_option maxRecDepth 20000 in
theorem gX11_readStep_X11_of : GoodIn wsX11_readStep (va_wsS RX11 202 yX11_of wsX11_of) := goodIn_app (qag qbv [1217, 1218, 5] rfl (by decide +kernel)) ggX11_readStep_X11_of
set_option maxRecDepth 20000 in
theorem ggX11_readStep_X11_pass : GoodIn wsX11_readStep wsX11_pass := qaf qbv (by decide +kernel) qaiQ
set_option maxRecDepth 20000 in
theorem gX11_readStep_X11_pass : GoodIn wsX11_readStep (wsV RX11 233 RX11 yX11_pass wsX11_pass) := goodIn_app (qag qbv [1231, 1232, 1233, 5] rfl (by decide +kernel)) ggX11_readStep_X11_pass
set_option maxRecDepth 20000 in
theorem ggX11_readStep_X11_tellsStep : GoodIn wsX11_readStep wsX11_tellsStep := qaf qbv (by decide +kernel) qazk
set_option maxRecDepth 20000 in
theorem gX11_readStep_X11_tellsStep : GoodIn wsX11_readStep (wsV RX11 298 RX11 yX11_tellsStep wsX11_tellsStep) := goodIn_app (qag qbv [2122, 2123, 2124, 5] rfl (by decide +kernel)) ggX11_readStep_X11_tellsStep
set_option maxRecDepth 20000 in
theorem ggX11_readStep_X11_readLiving : GoodIn wsX11_readStep wsX11_readLiving := qaf qbv (by decide +kernel) qaua
set_option maxRecDepth 20000 in
theorem gX11_readStep_X11_readLiving : GoodIn wsX11_readStep (wsV RX11 304 RX11 yX11_readLiving wsX11_readLiving) := goodIn_app (qag qbv [2126, 2127, 2128, 5] rfl (by decide +kernel)) ggX11_readStep_X11_readLiving
set_option maxRecDepth 20000 in
theorem ggX11_readStep_X11_readNumber : GoodIn wsX11_readStep wsX11_readNumber := qaf qbv (by decide +kernel) quL
set_option maxRecDepth 20000 in
theorem gX11_readStep_X11_readNumber : GoodIn wsX11_readStep (wsV RX11 194 RX11 yX11_readNumber wsX11_readNumber) := goodIn_app (qag qbv [1239, 1280, 1281, 5] rfl (by decide +kernel)) ggX11_readStep_X11_readNumber
set_option maxRecDepth 20000 in
theorem ggX11_readStep_X11_opensOne : GoodIn wsX11_readStep wsX11_opensOne := qaf qbv (by decide +kernel) qTH
set_option maxRecDepth 20000 in
theorem gX11_readStep_X11_opensOne : GoodIn wsX11_readStep (wsV RX11 258 RX11 yX11_opensOne wsX11_opensOne) := goodIn_app (qag qbv [1538, 1539, 1540, 5] rfl (by decide +kernel)) ggX11_readStep_X11_opensOne
set_option maxRecDepth 20000 in
theorem ggX11_readStep_X11_sign : GoodIn wsX11_readStep wsX11_sign := qaf qbv (by decide +kernel) qU8
set_option maxRecDepth 20000 in
theorem gX11_readStep_X11_sign : GoodIn wsX11_readStep (wsV RX11 239 RX11 yX11_sign wsX11_sign) := goodIn_app (qag qbv [1294, 1295, 1296, 5] rfl (by decide +kernel)) ggX11_readStep_X11_sign
set_option maxRecDepth 20000 in
theorem ggX11_readStep_X11_fine : GoodIn wsX11_readStep wsX11_fine := qaf qbv (by decide +kernel) qsZ
set_option maxRecDepth 20000 in
theorem gX11_readStep_X11_fine : GoodIn wsX11_readStep (wsV RX11 143 RX11 yX11_fine wsX11_fine) := goodIn_app (qag qbv [1155, 1156, 1157, 5] rfl (by decide +kernel)) ggX11_readStep_X11_fine
set_option maxRecDepth 20000 in
theorem ggX11_readStep_X11_here : GoodIn wsX11_readStep wsX11_here := qaf qbv (by decide +kernel) qAu
set_option maxRecDepth 20000 in
theorem gX11_readStep_X11_here : GoodIn wsX11_readStep (wsV RX11 126 RX11 yX11_here wsX11_here) := goodIn_app (qag qbv [1163, 1164, 1165, 5] rfl (by decide +kernel)) ggX11_readStep_X11_here
set_option maxRecDepth 20000 in
theorem ggX11_readStep_X11_readStep : GoodIn wsX11_readStep wsX11_readStep := qaf qbv (by decide +kernel) q7e
set_option maxRecDepth 20000 in
theorem gX11_readStep_X11_readStep : GoodIn wsX11_readStep (wsV RX11 313 RX11 yX11_readStep wsX11_readStep) := goodIn_app (qag qbv [2118, 2119, 2120, 5] rfl (by decide +kernel)) ggX11_readStep_X11_readStep
set_option maxRecDepth 20000 in
theorem ggX11_readStep_X11_wrong : GoodIn wsX11_readStep wsX11_wrong := qaf qbv (by decide +kernel) qzC
set_option maxRecDepth 20000 in
theorem gX11_readStep_X11_wrong : GoodIn wsX11_readStep (wsV RX11 150 RX11 yX11_wrong wsX11_wrong) := goodIn_app (qag qbv [1222, 1223, 1224, 5] rfl (by decide +kernel)) ggX11_readStep_X11_wrong
set_option maxRecDepth 20000 in
theorem ggX11_work_X11_may : GoodIn wsX11_work wsX11_may := qaf qen (by decide +kernel) qoR
set_option maxRecDepth 20000 in
theorem gX11_work_X11_may : GoodIn wsX11_work (wsV RX11 213 RX11 yX11_may wsX11_may) := goodIn_app (qag qen [1105, 1106, 1107, 5] rfl (by decide +kernel)) ggX11_work_X11_may
set_option maxRecDepth 20000 in
theorem ggX11_work_X11_begins : GoodIn wsX11_work wsX11_begins := qaf qen (by decide +kernel) qR8
set_option maxRecDepth 20000 in
theorem gX11_work_X11_begins : GoodIn wsX11_work (wsV RX11 217 RX11 yX11_begins wsX11_begins) := goodIn_app (qag qen [1109, 1110, 1111, 5] rfl (by decide +kernel)) ggX11_work_X11_begins
set_option maxRecDepth 20000 in
theorem ggX11_work_X11_result : GoodIn wsX11_work wsX11_result := qaf qen (by decide +kernel) qR3
set_option maxRecDepth 20000 in
theorem gX11_work_X11_result : GoodIn wsX11_work (wsV RX11 242 RX11 yX11_result wsX11_result) := goodIn_app (qag qen [1298, 1299, 1300, 5] rfl (by decide +kernel)) ggX11_work_X11_result
set_option maxRecDepth 20000 in
theorem ggX11_work_X11_fine : GoodIn wsX11_work wsX11_fine := qaf qen (by decide +kernel) qsZ
set_option maxRecDepth 20000 in
theorem gX11_work_X11_fine : GoodIn wsX11_work (wsV RX11 143 RX11 yX11_fine wsX11_fine) := goodIn_app (qag qen [1155, 1156, 1157, 5] rfl (by decide +kernel)) ggX11_work_X11_fine
set_option maxRecDepth 20000 in
theorem ggX11_work_X11_isMore : GoodIn wsX11_work wsX11_isMore := qaf qen (by decide +kernel) qSy
set_option maxRecDepth 20000 in
theorem gX11_work_X11_isMore : GoodIn wsX11_work (wsV RX11 221 RX11 yX11_isMore wsX11_isMore) := goodIn_app (qag qen [1159, 1160, 1161, 5] rfl (by decide +kernel)) ggX11_work_X11_isMore
set_option maxRecDepth 20000 in
theorem ggX11_work_X11_readStep : GoodIn wsX11_work wsX11_readStep := qaf qen (by decide +kernel) q7e
set_option maxRecDepth 20000 in
theorem gX11_work_X11_readStep : GoodIn wsX11_work (wsV RX11 313 RX11 yX11_readStep wsX11_readStep) := goodIn_app (qag qen [2118, 2119, 2120, 5] rfl (by decide +kernel)) ggX11_work_X11_readStep
set_option maxRecDepth 20000 in
theorem ggX11_work_X11_copies : GoodIn wsX11_work wsX11_copies := qaf qen (by decide +kernel) qLw
set_option maxRecDepth 20000 in
theorem gX11_work_X11_copies : GoodIn wsX11_work (wsV RX11 175 RX11 yX11_copies wsX11_copies) := goodIn_app (qag qen [527, 528, 529, 5] rfl (by decide +kernel)) ggX11_work_X11_copies
set_option maxRecDepth 20000 in
theorem ggX11_work_X11_take : GoodIn wsX11_work wsX11_take := qaf qen (by decide +kernel) qtm
set_option maxRecDepth 20000 in
theorem gX11_work_X11_take : GoodIn wsX11_work (wsV RX11 316 RX11 yX11_take wsX11_take) := goodIn_app (qag qen [2130, 2131, 2132, 5] rfl (by decide +kernel)) ggX11_work_X11_take
set_option maxRecDepth 20000 in
theorem ggX11_work_X11_goesSteps : GoodIn wsX11_work wsX11_goesSteps := qaf qen (by decide +kernel) q3z
set_option maxRecDepth 20000 in
theorem gX11_work_X11_goesSteps : GoodIn wsX11_work (wsV RX11 328 RX11 yX11_goesSteps wsX11_goesSteps) := goodIn_app (qag qen [2134, 2135, 2176, 5] rfl (by decide +kernel)) ggX11_work_X11_goesSteps
set_option maxRecDepth 20000 in
theorem ggX11_goesSteps_X11_goesSteps : GoodIn wsX11_goesSteps wsX11_goesSteps := qaf qkS (by decide +kernel) q3z
set_option maxRecDepth 20000 in
theorem gX11_goesSteps_X11_goesSteps : GoodIn wsX11_goesSteps (wsV RX11 328 RX11 yX11_goesSteps wsX11_goesSteps) := goodIn_app (qag qkS [2134, 2135, 2176, 5] rfl (by decide +kernel)) ggX11_goesSteps_X11_goesSteps
set_option maxRecDepth 20000 in
theorem ggX11_goesSteps_X11_isDone : GoodIn wsX11_goesSteps wsX11_isDone := qaf qkS (by decide +kernel) qaU5
set_option maxRecDepth 20000 in
theorem gX11_goesSteps_X11_isDone : GoodIn wsX11_goesSteps (wsV RX11 331 RX11 yX11_isDone wsX11_isDone) := goodIn_app (qag qkS [2178, 2179, 2180, 5] rfl (by decide +kernel)) ggX11_goesSteps_X11_isDone
set_option maxRecDepth 20000 in
theorem ggX11_take_X11_copies : GoodIn wsX11_take wsX11_copies := qaf qVJ (by decide +kernel) qLw
set_option maxRecDepth 20000 in
theorem gX11_take_X11_copies : GoodIn wsX11_take (wsV RX11 175 RX11 yX11_copies wsX11_copies) := goodIn_app (qag qVJ [527, 528, 529, 5] rfl (by decide +kernel)) ggX11_take_X11_copies
set_option maxRecDepth 20000 in
theorem ggX11_farOf_X11_size : GoodIn wsX11_farOf wsX11_size := qaf qX4 (by decide +kernel) qaMd
set_option maxRecDepth 20000 in
theorem gX11_farOf_X11_size : GoodIn wsX11_farOf (va_wsS RX11 335 yX11_size wsX11_size) := goodIn_app (qag qX4 [2198, 2199, 5] rfl (by decide +kernel)) ggX11_farOf_X11_size
set_option maxRecDepth 20000 in
theorem ggX11_isSafe_X11_size : GoodIn wsX11_isSafe wsX11_size := qaf qGc (by decide +kernel) qaMd
set_option maxRecDepth 20000 in
theorem gX11_isSafe_X11_size : GoodIn wsX11_isSafe (va_wsS RX11 335 yX11_size wsX11_size) := goodIn_app (qag qGc [2198, 2199, 5] rfl (by decide +kernel)) ggX11_isSafe_X11_size
set_option maxRecDepth 20000 in
theorem ggX11_leapOf_X11_leapNow : GoodIn wsX11_leapOf wsX11_leapNow := qaf qSS (by decide +kernel) qaOl
set_option maxRecDepth 20000 in
theorem gX11_leapOf_X11_leapNow : GoodIn wsX11_leapOf (wsV RX11 337 RX11 yX11_leapNow wsX11_leapNow) := goodIn_app (qag qSS [2304, 2305, 2306, 5] rfl (by decide +kernel)) ggX11_leapOf_X11_leapNow
set_option maxRecDepth 20000 in
theorem ggX11_leapBy_X11_isCaught : GoodIn wsX11_leapBy wsX11_isCaught := qaf qqe (by decide +kernel) qnl
set_option maxRecDepth 20000 in
theorem gX11_leapBy_X11_isCaught : GoodIn wsX11_leapBy (wsV RX11 340 RX11 yX11_isCaught wsX11_isCaught) := goodIn_app (qag qqe [2190, 2191, 2192, 5] rfl (by decide +kernel)) ggX11_leapBy_X11_isCaught
set_option maxRecDepth 20000 in
theorem ggX11_leapBy_X11_owes : GoodIn wsX11_leapBy wsX11_owes := qaf qqe (by decide +kernel) qaLd
set_option maxRecDepth 20000 in
theorem gX11_leapBy_X11_owes : GoodIn wsX11_leapBy (wsV RX11 343 RX11 yX11_owes wsX11_owes) := goodIn_app (qag qqe [2245, 2246, 2247, 5] rfl (by decide +kernel)) ggX11_leapBy_X11_owes
set_option maxRecDepth 20000 in
theorem ggX11_leapBy_X11_isOwed : GoodIn wsX11_leapBy wsX11_isOwed := qaf qqe (by decide +kernel) qRz
set_option maxRecDepth 20000 in
theorem gX11_leapBy_X11_isOwed : GoodIn wsX11_leapBy (wsV RX11 345 RX11 yX11_isOwed wsX11_isOwed) := goodIn_app (qag qqe [2249, 2250, 2251, 5] rfl (by decide +kernel)) ggX11_leapBy_X11_isOwed
set_option maxRecDepth 20000 in
theorem ggX11_leapBy_X11_sitIn : GoodIn wsX11_leapBy wsX11_sitIn := qaf qqe (by decide +kernel) qaau
set_option maxRecDepth 20000 in
theorem gX11_leapBy_X11_sitIn : GoodIn wsX11_leapBy (wsV RX11 348 RX11 yX11_sitIn wsX11_sitIn) := goodIn_app (qag qqe [2253, 2254, 2255, 5] rfl (by decide +kernel)) ggX11_leapBy_X11_sitIn
set_option maxRecDepth 20000 in
theorem ggX11_leapBy_X11_ones : GoodIn wsX11_leapBy wsX11_ones := qaf qqe (by decide +kernel) qakr
set_option maxRecDepth 20000 in
theorem gX11_leapBy_X11_ones : GoodIn wsX11_leapBy (va_wsS RX11 351 yX11_ones wsX11_ones) := goodIn_app (qag qqe [2257, 2258, 5] rfl (by decide +kernel)) ggX11_leapBy_X11_ones
set_option maxRecDepth 20000 in
theorem ggX11_leapBy_X11_leapOf : GoodIn wsX11_leapBy wsX11_leapOf := qaf qqe (by decide +kernel) qaoz
set_option maxRecDepth 20000 in
theorem gX11_leapBy_X11_leapOf : GoodIn wsX11_leapBy (wsV RX11 354 RX11 yX11_leapOf wsX11_leapOf) := goodIn_app (qag qqe [2260, 2261, 2262, 5] rfl (by decide +kernel)) ggX11_leapBy_X11_leapOf
set_option maxRecDepth 20000 in
theorem ggX11_canLeap_X11_isCaught : GoodIn wsX11_canLeap wsX11_isCaught := qaf qwN (by decide +kernel) qnl
set_option maxRecDepth 20000 in
theorem gX11_canLeap_X11_isCaught : GoodIn wsX11_canLeap (wsV RX11 340 RX11 yX11_isCaught wsX11_isCaught) := goodIn_app (qag qwN [2190, 2191, 2192, 5] rfl (by decide +kernel)) ggX11_canLeap_X11_isCaught
set_option maxRecDepth 20000 in
theorem ggX11_canLeap_X11_farOf : GoodIn wsX11_canLeap wsX11_farOf := qaf qwN (by decide +kernel) qFN
set_option maxRecDepth 20000 in
theorem gX11_canLeap_X11_farOf : GoodIn wsX11_canLeap (wsV RX11 358 RX11 yX11_farOf wsX11_farOf) := goodIn_app (qag qwN [2194, 2195, 2196, 5] rfl (by decide +kernel)) ggX11_canLeap_X11_farOf
set_option maxRecDepth 20000 in
theorem ggX11_canLeap_X11_leapBy : GoodIn wsX11_canLeap wsX11_leapBy := qaf qwN (by decide +kernel) q2i
set_option maxRecDepth 20000 in
theorem gX11_canLeap_X11_leapBy : GoodIn wsX11_canLeap (wsV RX11 361 RX11 yX11_leapBy wsX11_leapBy) := goodIn_app (qag qwN [2241, 2242, 2243, 5] rfl (by decide +kernel)) ggX11_canLeap_X11_leapBy
set_option maxRecDepth 20000 in
theorem ggX11_leapsTo_X11_canLeap : GoodIn wsX11_leapsTo wsX11_canLeap := qaf qOa (by decide +kernel) qXD
set_option maxRecDepth 20000 in
theorem gX11_leapsTo_X11_canLeap : GoodIn wsX11_leapsTo (wsV RX11 364 RX11 yX11_canLeap wsX11_canLeap) := goodIn_app (qag qOa [2186, 2187, 2188, 5] rfl (by decide +kernel)) ggX11_leapsTo_X11_canLeap
set_option maxRecDepth 20000 in
theorem ggX11_boxes_X11_isCaught : GoodIn wsX11_boxes wsX11_isCaught := qaf qYe (by decide +kernel) qnl
set_option maxRecDepth 20000 in
theorem gX11_boxes_X11_isCaught : GoodIn wsX11_boxes (wsV RX11 340 RX11 yX11_isCaught wsX11_isCaught) := goodIn_app (qag qYe [2190, 2191, 2192, 5] rfl (by decide +kernel)) ggX11_boxes_X11_isCaught
set_option maxRecDepth 20000 in
theorem ggX11_pays_X11_isCaught : GoodIn wsX11_pays wsX11_isCaught := qaf q5i (by decide +kernel) qnl
set_option maxRecDepth 20000 in
theorem gX11_pays_X11_isCaught : GoodIn wsX11_pays (wsV RX11 340 RX11 yX11_isCaught wsX11_isCaught) := goodIn_app (qag q5i [2190, 2191, 2192, 5] rfl (by decide +kernel)) ggX11_pays_X11_isCaught
set_option maxRecDepth 20000 in
theorem ggX11_wouldBeCaught_X11_isCaught : GoodIn wsX11_wouldBeCaught wsX11_isCaught := qaf qs1 (by decide +kernel) qnl
set_option maxRecDepth 20000 in
theorem gX11_wouldBeCaught_X11_isCaught : GoodIn wsX11_wouldBeCaught (wsV RX11 340 RX11 yX11_isCaught wsX11_isCaught) := goodIn_app (qag qs1 [2190, 2191, 2192, 5] rfl (by decide +kernel)) ggX11_wouldBeCaught_X11_isCaught
set_option maxRecDepth 20000 in
theorem ggX11_wouldBeCaught_X11_isSafe : GoodIn wsX11_wouldBeCaught wsX11_isSafe := qaf qs1 (by decide +kernel) qSh
set_option maxRecDepth 20000 in
theorem gX11_wouldBeCaught_X11_isSafe : GoodIn wsX11_wouldBeCaught (wsV RX11 368 RX11 yX11_isSafe wsX11_isSafe) := goodIn_app (qag qs1 [2375, 2376, 2377, 5] rfl (by decide +kernel)) ggX11_wouldBeCaught_X11_isSafe
set_option maxRecDepth 20000 in
theorem ggX11_strokes_X11_wouldBeCaught : GoodIn wsX11_strokes wsX11_wouldBeCaught := qaf qwS (by decide +kernel) qQh
set_option maxRecDepth 20000 in
theorem gX11_strokes_X11_wouldBeCaught : GoodIn wsX11_strokes (wsV RX11 371 RX11 yX11_wouldBeCaught wsX11_wouldBeCaught) := goodIn_app (qag qwS [2371, 2372, 2373, 5] rfl (by decide +kernel)) ggX11_strokes_X11_wouldBeCaught
set_option maxRecDepth 20000 in
theorem ggX11_strokes_X11_isCaught : GoodIn wsX11_strokes wsX11_isCaught := qaf qwS (by decide +kernel) qnl
set_option maxRecDepth 20000 in
theorem gX11_strokes_X11_isCaught : GoodIn wsX11_strokes (wsV RX11 340 RX11 yX11_isCaught wsX11_isCaught) := goodIn_app (qag qwS [2190, 2191, 2192, 5] rfl (by decide +kernel)) ggX11_strokes_X11_isCaught
set_option maxRecDepth 20000 in
theorem ggX11_passes_X11_isCaught : GoodIn wsX11_passes wsX11_isCaught := qaf qCf (by decide +kernel) qnl
set_option maxRecDepth 20000 in
theorem gX11_passes_X11_isCaught : GoodIn wsX11_passes (wsV RX11 340 RX11 yX11_isCaught wsX11_isCaught) := goodIn_app (qag qCf [2190, 2191, 2192, 5] rfl (by decide +kernel)) ggX11_passes_X11_isCaught
set_option maxRecDepth 20000 in
theorem ggX11_passes_X11_strokes : GoodIn wsX11_passes wsX11_strokes := qaf qCf (by decide +kernel) qaQH
set_option maxRecDepth 20000 in
theorem gX11_passes_X11_strokes : GoodIn wsX11_passes (wsV RX11 374 RX11 yX11_strokes wsX11_strokes) := goodIn_app (qag qCf [2327, 2368, 2369, 5] rfl (by decide +kernel)) ggX11_passes_X11_strokes
set_option maxRecDepth 20000 in
theorem ggX11_isDone_X11_leapsTo : GoodIn wsX11_isDone wsX11_leapsTo := qaf qvp (by decide +kernel) qafy
set_option maxRecDepth 20000 in
theorem gX11_isDone_X11_leapsTo : GoodIn wsX11_isDone (wsV RX11 377 RX11 yX11_leapsTo wsX11_leapsTo) := goodIn_app (qag qvp [2182, 2183, 2184, 5] rfl (by decide +kernel)) ggX11_isDone_X11_leapsTo
set_option maxRecDepth 20000 in
theorem ggX11_isDone_X11_boxes : GoodIn wsX11_isDone wsX11_boxes := qaf qvp (by decide +kernel) qaEc
set_option maxRecDepth 20000 in
theorem gX11_isDone_X11_boxes : GoodIn wsX11_isDone (wsV RX11 380 RX11 yX11_boxes wsX11_boxes) := goodIn_app (qag qvp [2315, 2316, 2317, 5] rfl (by decide +kernel)) ggX11_isDone_X11_boxes
set_option maxRecDepth 20000 in
theorem ggX11_isDone_X11_pays : GoodIn wsX11_isDone wsX11_pays := qaf qvp (by decide +kernel) qa1p
set_option maxRecDepth 20000 in
theorem gX11_isDone_X11_pays : GoodIn wsX11_isDone (wsV RX11 383 RX11 yX11_pays wsX11_pays) := goodIn_app (qag qvp [2319, 2320, 2321, 5] rfl (by decide +kernel)) ggX11_isDone_X11_pays
set_option maxRecDepth 20000 in
theorem ggX11_isDone_X11_passes : GoodIn wsX11_isDone wsX11_passes := qaf qvp (by decide +kernel) q3t
set_option maxRecDepth 20000 in
theorem gX11_isDone_X11_passes : GoodIn wsX11_isDone (wsV RX11 387 RX11 yX11_passes wsX11_passes) := goodIn_app (qag qvp [2323, 2324, 2325, 5] rfl (by decide +kernel)) ggX11_isDone_X11_passes
set_option maxRecDepth 20000 in
theorem ggX11_book_X11_may : GoodIn wsX11_book wsX11_may := qaf qgo (by decide +kernel) qoR
set_option maxRecDepth 20000 in
theorem gX11_book_X11_may : GoodIn wsX11_book (wsV RX11 213 RX11 yX11_may wsX11_may) := goodIn_app (qag qgo [1105, 1106, 1107, 5] rfl (by decide +kernel)) ggX11_book_X11_may
set_option maxRecDepth 20000 in
theorem ggX11_book_X11_begins : GoodIn wsX11_book wsX11_begins := qaf qgo (by decide +kernel) qR8
set_option maxRecDepth 20000 in
theorem gX11_book_X11_begins : GoodIn wsX11_book (wsV RX11 217 RX11 yX11_begins wsX11_begins) := goodIn_app (qag qgo [1109, 1110, 1111, 5] rfl (by decide +kernel)) ggX11_book_X11_begins
set_option maxRecDepth 20000 in
theorem ggX11_book_X11_fine : GoodIn wsX11_book wsX11_fine := qaf qgo (by decide +kernel) qsZ
set_option maxRecDepth 20000 in
theorem gX11_book_X11_fine : GoodIn wsX11_book (wsV RX11 143 RX11 yX11_fine wsX11_fine) := goodIn_app (qag qgo [1155, 1156, 1157, 5] rfl (by decide +kernel)) ggX11_book_X11_fine
set_option maxRecDepth 20000 in
theorem ggX11_book_X11_isMore : GoodIn wsX11_book wsX11_isMore := qaf qgo (by decide +kernel) qSy
set_option maxRecDepth 20000 in
theorem gX11_book_X11_isMore : GoodIn wsX11_book (wsV RX11 221 RX11 yX11_isMore wsX11_isMore) := goodIn_app (qag qgo [1159, 1160, 1161, 5] rfl (by decide +kernel)) ggX11_book_X11_isMore
set_option maxRecDepth 20000 in
theorem ggX11_book_X11_here : GoodIn wsX11_book wsX11_here := qaf qgo (by decide +kernel) qAu
set_option maxRecDepth 20000 in
theorem gX11_book_X11_here : GoodIn wsX11_book (wsV RX11 126 RX11 yX11_here wsX11_here) := goodIn_app (qag qgo [1163, 1164, 1165, 5] rfl (by decide +kernel)) ggX11_book_X11_here
set_option maxRecDepth 20000 in
theorem ggX11_book_X11_readNumber : GoodIn wsX11_book wsX11_readNumber := qaf qgo (by decide +kernel) quL
set_option maxRecDepth 20000 in
theorem gX11_book_X11_readNumber : GoodIn wsX11_book (wsV RX11 194 RX11 yX11_readNumber wsX11_readNumber) := goodIn_app (qag qgo [1239, 1280, 1281, 5] rfl (by decide +kernel)) ggX11_book_X11_readNumber
set_option maxRecDepth 20000 in
theorem ggX11_book_X11_wrong : GoodIn wsX11_book wsX11_wrong := qaf qgo (by decide +kernel) qzC
set_option maxRecDepth 20000 in
theorem gX11_book_X11_wrong : GoodIn wsX11_book (wsV RX11 150 RX11 yX11_wrong wsX11_wrong) := goodIn_app (qag qgo [1222, 1223, 1224, 5] rfl (by decide +kernel)) ggX11_book_X11_wrong
set_option maxRecDepth 20000 in
theorem ggX11_book_X11_sign : GoodIn wsX11_book wsX11_sign := qaf qgo (by decide +kernel) qU8
set_option maxRecDepth 20000 in
theorem gX11_book_X11_sign : GoodIn wsX11_book (wsV RX11 239 RX11 yX11_sign wsX11_sign) := goodIn_app (qag qgo [1294, 1295, 1296, 5] rfl (by decide +kernel)) ggX11_book_X11_sign
set_option maxRecDepth 20000 in
theorem ggX11_book_X11_result : GoodIn wsX11_book wsX11_result := qaf qgo (by decide +kernel) qR3
set_option maxRecDepth 20000 in
theorem gX11_book_X11_result : GoodIn wsX11_book (wsV RX11 242 RX11 yX11_result wsX11_result) := goodIn_app (qag qgo [1298, 1299, 1300, 5] rfl (by decide +kernel)) ggX11_book_X11_result
set_option maxRecDepth 20000 in
theorem ggX11_book_X11_copies : GoodIn wsX11_book wsX11_copies := qaf qgo (by decide +kernel) qLw
set_option maxRecDepth 20000 in
theorem gX11_book_X11_copies : GoodIn wsX11_book (wsV RX11 175 RX11 yX11_copies wsX11_copies) := goodIn_app (qag qgo [527, 528, 529, 5] rfl (by decide +kernel)) ggX11_book_X11_copies
set_option maxRecDepth 20000 in
theorem ggX11_caughtNow_X11_isCaught : GoodIn wsX11_caughtNow wsX11_isCaught := qaf qHW (by decide +kernel) qnl
set_option maxRecDepth 20000 in
theorem gX11_caughtNow_X11_isCaught : GoodIn wsX11_caughtNow (wsV RX11 340 RX11 yX11_isCaught wsX11_isCaught) := goodIn_app (qag qHW [2190, 2191, 2192, 5] rfl (by decide +kernel)) ggX11_caughtNow_X11_isCaught
set_option maxRecDepth 20000 in
theorem ggX11_bitsTold_X11_wouldBeCaught : GoodIn wsX11_bitsTold wsX11_wouldBeCaught := qaf qEi (by decide +kernel) qQh
set_option maxRecDepth 20000 in
theorem gX11_bitsTold_X11_wouldBeCaught : GoodIn wsX11_bitsTold (wsV RX11 371 RX11 yX11_wouldBeCaught wsX11_wouldBeCaught) := goodIn_app (qag qEi [2371, 2372, 2373, 5] rfl (by decide +kernel)) ggX11_bitsTold_X11_wouldBeCaught
set_option maxRecDepth 20000 in
theorem ggX11_safeForms_X11_isSafe : GoodIn wsX11_safeForms wsX11_isSafe := qaf qHK (by decide +kernel) qSh
set_option maxRecDepth 20000 in
theorem gX11_safeForms_X11_isSafe : GoodIn wsX11_safeForms (wsV RX11 368 RX11 yX11_isSafe wsX11_isSafe) := goodIn_app (qag qHK [2375, 2376, 2377, 5] rfl (by decide +kernel)) ggX11_safeForms_X11_isSafe
set_option maxRecDepth 20000 in
theorem ggX11_told_X11_within : GoodIn wsX11_told wsX11_within := qaf qnv (by decide +kernel) qiy
set_option maxRecDepth 20000 in
theorem gX11_told_X11_within : GoodIn wsX11_told (va_wsS RX11 390 yX11_within wsX11_within) := goodIn_app (qag qnv [2577, 2578, 5] rfl (by decide +kernel)) ggX11_told_X11_within
set_option maxRecDepth 20000 in
theorem ggX11_told_X11_may : GoodIn wsX11_told wsX11_may := qaf qnv (by decide +kernel) qoR
set_option maxRecDepth 20000 in
theorem gX11_told_X11_may : GoodIn wsX11_told (wsV RX11 213 RX11 yX11_may wsX11_may) := goodIn_app (qag qnv [1105, 1106, 1107, 5] rfl (by decide +kernel)) ggX11_told_X11_may
