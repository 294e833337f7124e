set_option maxRecDepth 20000 in
theorem ggX10_march_X1_caughtOnes : GoodIn wsX10_march wsX1_caughtOnes := qaf qq5 (by decide +kernel) qOU
set_option maxRecDepth 20000 in
theorem gX10_march_X1_caughtOnes : GoodIn wsX10_march (wsV RX10 194 RX1 yX1_caughtOnes wsX1_caughtOnes) := goodIn_app (qag qq5 [2560, 2561, 2562, 78] rfl (by decide +kernel)) ggX10_march_X1_caughtOnes
set_option maxRecDepth 20000 in
theorem ggX10_march_X1_strongTogether : GoodIn wsX10_march wsX1_strongTogether := qaf qq5 (by decide +kernel) qab8
set_option maxRecDepth 20000 in
theorem gX10_march_X1_strongTogether : GoodIn wsX10_march (wsV RX10 378 RX1 yX1_strongTogether wsX1_strongTogether) := goodIn_app (qag qq5 [4102, 4103, 4104, 78] rfl (by decide +kernel)) ggX10_march_X1_strongTogether
set_option maxRecDepth 20000 in
theorem ggX10_march_X1_day : GoodIn wsX10_march wsX1_day := qaf qq5 (by decide +kernel) qau0
set_option maxRecDepth 20000 in
theorem gX10_march_X1_day : GoodIn wsX10_march (wsV RX10 187 RX1 yX1_day wsX1_day) := goodIn_app (qag qq5 [2518, 1873, 1874, 78] rfl (by decide +kernel)) ggX10_march_X1_day
set_option maxRecDepth 20000 in
theorem ggX10_span_X10_needWithin : GoodIn wsX10_span wsX10_needWithin := goodIn_ca (qaf qnz (by decide +kernel) qdG) (goodIn_sub (fun _ h => List.mem_cons_of_mem _ (List.mem_append_right _ h)) (by decide +kernel))
set_option maxRecDepth 20000 in
theorem gX10_span_X10_needWithin : GoodIn wsX10_span (wsV RX10 180 RX10 yX10_needWithin wsX10_needWithin) := goodIn_app (qag qnz [653, 654, 655, 2] rfl (by decide +kernel)) ggX10_span_X10_needWithin
set_option maxRecDepth 20000 in
theorem ggX10_span_X1_copyFrom : GoodIn wsX10_span wsX1_copyFrom := qaf qnz (by decide +kernel) qWo
set_option maxRecDepth 20000 in
theorem gX10_span_X1_copyFrom : GoodIn wsX10_span (wsV RX10 297 RX1 yX1_copyFrom wsX1_copyFrom) := goodIn_app (qag qnz [2965, 2966, 2967, 78] rfl (by decide +kernel)) ggX10_span_X1_copyFrom
set_option maxRecDepth 20000 in
theorem ggX10_span_X1_drawDays : GoodIn wsX10_span wsX1_drawDays := qaf qnz (by decide +kernel) qahJ
set_option maxRecDepth 20000 in
theorem gX10_span_X1_drawDays : GoodIn wsX10_span (wsV RX10 375 RX1 yX1_drawDays wsX1_drawDays) := goodIn_app (qag qnz [4037, 4038, 4039, 78] rfl (by decide +kernel)) ggX10_span_X1_drawDays
set_option maxRecDepth 20000 in
theorem ggX10_span_X1_isCaught : GoodIn wsX10_span wsX1_isCaught := qaf qnz (by decide +kernel) qoT
set_option maxRecDepth 20000 in
theorem gX10_span_X1_isCaught : GoodIn wsX10_span (wsV RX10 230 RX1 yX1_isCaught wsX1_isCaught) := goodIn_app (qag qnz [2755, 1742, 1743, 78] rfl (by decide +kernel)) ggX10_span_X1_isCaught
set_option maxRecDepth 20000 in
theorem ggX10_image_X5_copyFrom : GoodIn wsX10_image wsX5_copyFrom := qaf qz0 (by decide +kernel) qaf2
set_option maxRecDepth 20000 in
theorem gX10_image_X5_copyFrom : GoodIn wsX10_image (wsV RX10 392 RX5 yX5_copyFrom wsX5_copyFrom) := goodIn_app (qag qz0 [4181, 4182, 4183, 83] rfl (by decide +kernel)) ggX10_image_X5_copyFrom
set_option maxRecDepth 20000 in
theorem ggX10_image_X5_push : GoodIn wsX10_image wsX5_push := qaf qz0 (by decide +kernel) qaSU
set_option maxRecDepth 20000 in
theorem gX10_image_X5_push : GoodIn wsX10_image (wsV RX10 155 RX5 yX5_push wsX5_push) := goodIn_app (qag qz0 [1672, 1673, 1674, 83] rfl (by decide +kernel)) ggX10_image_X5_push
set_option maxRecDepth 20000 in
theorem ggX10_restore_X5_pop : GoodIn wsX10_restore wsX5_pop := qaf qtJ (by decide +kernel) qa0P
set_option maxRecDepth 20000 in
theorem gX10_restore_X5_pop : GoodIn wsX10_restore (wsV RX10 177 RX5 yX5_pop wsX5_pop) := goodIn_app (qag qtJ [2501, 2502, 2503, 83] rfl (by decide +kernel)) ggX10_restore_X5_pop
set_option maxRecDepth 20000 in
theorem ggX10_restore_X5_copyFrom : GoodIn wsX10_restore wsX5_copyFrom := qaf qtJ (by decide +kernel) qaf2
set_option maxRecDepth 20000 in
theorem gX10_restore_X5_copyFrom : GoodIn wsX10_restore (wsV RX10 392 RX5 yX5_copyFrom wsX5_copyFrom) := goodIn_app (qag qtJ [4181, 4182, 4183, 83] rfl (by decide +kernel)) ggX10_restore_X5_copyFrom
set_option maxRecDepth 20000 in
theorem ggX10_openText_X10_needWithin : GoodIn wsX10_openText wsX10_needWithin := goodIn_ca (qaf qpp (by decide +kernel) qdG) (goodIn_sub (fun _ h => List.mem_cons_of_mem _ (List.mem_append_right _ h)) (by decide +kernel))
set_option maxRecDepth 20000 in
theorem gX10_openText_X10_needWithin : GoodIn wsX10_openText (wsV RX10 180 RX10 yX10_needWithin wsX10_needWithin) := goodIn_app (qag qpp [653, 654, 655, 2] rfl (by decide +kernel)) ggX10_openText_X10_needWithin
set_option maxRecDepth 20000 in
theorem ggX10_openText_X8_open : GoodIn wsX10_openText wsX8_open := qaf qpp (by decide +kernel) qa7Y
set_option maxRecDepth 20000 in
theorem gX10_openText_X8_open : GoodIn wsX10_openText (wsV RX10 398 RX8 yX8_open wsX8_open) := goodIn_app (qag qpp [707, 708, 709, 15] rfl (by decide +kernel)) ggX10_openText_X8_open
set_option maxRecDepth 20000 in
theorem ggX10_needForm_X10_within : GoodIn wsX10_needForm wsX10_within := qaf qtN (by decide +kernel) qCa
set_option maxRecDepth 20000 in
theorem gX10_needForm_X10_within : GoodIn wsX10_needForm (va_wsS RX10 257 yX10_within wsX10_within) := goodIn_app (qag qtN [657, 658, 2] rfl (by decide +kernel)) ggX10_needForm_X10_within
set_option maxRecDepth 20000 in
theorem ggX10_needHare_X10_within : GoodIn wsX10_needHare wsX10_within := qaf qtB (by decide +kernel) qCa
set_option maxRecDepth 20000 in
theorem gX10_needHare_X10_within : GoodIn wsX10_needHare (va_wsS RX10 257 yX10_within wsX10_within) := goodIn_app (qag qtB [657, 658, 2] rfl (by decide +kernel)) ggX10_needHare_X10_within
set_option maxRecDepth 20000 in
theorem ggX10_needWithin_X10_within : GoodIn wsX10_needWithin wsX10_within := qaf qEE (by decide +kernel) qCa
set_option maxRecDepth 20000 in
theorem gX10_needWithin_X10_within : GoodIn wsX10_needWithin (va_wsS RX10 257 yX10_within wsX10_within) := goodIn_app (qag qEE [657, 658, 2] rfl (by decide +kernel)) ggX10_needWithin_X10_within
set_option maxRecDepth 20000 in
theorem ggX10_needWithin_X10_needLegal : GoodIn wsX10_needWithin wsX10_needLegal := goodIn_ca (qaf qEE (by decide +kernel) q1l) (goodIn_sub (fun _ h => List.mem_cons_of_mem _ (List.mem_append_right _ h)) (by decide +kernel))
set_option maxRecDepth 20000 in
theorem gX10_needWithin_X10_needLegal : GoodIn wsX10_needWithin (wsV RX10 322 RX10 yX10_needLegal wsX10_needLegal) := goodIn_app (qag qEE [660, 661, 662, 2] rfl (by decide +kernel)) ggX10_needWithin_X10_needLegal
set_option maxRecDepth 20000 in
theorem ggX10_ordersWon_X10_holds : GoodIn wsX10_ordersWon wsX10_holds := qaf qk1 (by decide +kernel) qq0
set_option maxRecDepth 20000 in
theorem gX10_ordersWon_X10_holds : GoodIn wsX10_ordersWon (va_wsS RX10 332 yX10_holds wsX10_holds) := goodIn_app (qag qk1 [3404, 2052, 2] rfl (by decide +kernel)) ggX10_ordersWon_X10_holds
set_option maxRecDepth 20000 in
theorem ggX10_ordersWon_X1_strong : GoodIn wsX10_ordersWon wsX1_strong := qaf qk1 (by decide +kernel) qFg
set_option maxRecDepth 20000 in
theorem gX10_ordersWon_X1_strong : GoodIn wsX10_ordersWon (wsV RX10 236 RX1 yX1_strong wsX1_strong) := goodIn_app (qag qk1 [2757, 1809, 1810, 78] rfl (by decide +kernel)) ggX10_ordersWon_X1_strong
set_option maxRecDepth 20000 in
theorem ggX10_ordersWon_X10_ordersWon : GoodIn wsX10_ordersWon wsX10_ordersWon := qaf qk1 (by decide +kernel) q2J
set_option maxRecDepth 20000 in
theorem gX10_ordersWon_X10_ordersWon : GoodIn wsX10_ordersWon (va_wsS RX10 335 yX10_ordersWon wsX10_ordersWon) := goodIn_app (qag qk1 [3405, 3406, 2] rfl (by decide +kernel)) ggX10_ordersWon_X10_ordersWon
set_option maxRecDepth 20000 in
theorem ggX11_init_X11_clears : GoodIn wsX11_init wsX11_clears := qaf qcx (by decide +kernel) qaoy
set_option maxRecDepth 20000 in
theorem gX11_init_X11_clears : GoodIn wsX11_init (wsV RX11 105 RX11 yX11_clears wsX11_clears) := goodIn_app (qag qcx [468, 469, 470, 5] rfl (by decide +kernel)) ggX11_init_X11_clears
set_option maxRecDepth 20000 in
theorem ggX11_init_X11_sets : GoodIn wsX11_init wsX11_sets := qaf qcx (by decide +kernel) qaLP
set_option maxRecDepth 20000 in
theorem gX11_init_X11_sets : GoodIn wsX11_init (wsV RX11 108 RX11 yX11_sets wsX11_sets) := goodIn_app (qag qcx [515, 516, 517, 5] rfl (by decide +kernel)) ggX11_init_X11_sets
set_option maxRecDepth 20000 in
theorem ggX11_word_X11_here : GoodIn wsX11_word wsX11_here := qaf qGu (by decide +kernel) qAD
set_option maxRecDepth 20000 in
theorem gX11_word_X11_here : GoodIn wsX11_word (wsV RX11 126 RX11 yX11_here wsX11_here) := goodIn_app (qag qGu [1163, 1164, 1165, 5] rfl (by decide +kernel)) ggX11_word_X11_here
set_option maxRecDepth 20000 in
theorem ggX11_word_X11_isSmall : GoodIn wsX11_word wsX11_isSmall := qaf qGu (by decide +kernel) qado
set_option maxRecDepth 20000 in
theorem gX11_word_X11_isSmall : GoodIn wsX11_word (va_wsS RX11 130 yX11_isSmall wsX11_isSmall) := goodIn_app (qag qGu [1171, 1172, 5] rfl (by decide +kernel)) ggX11_word_X11_isSmall
set_option maxRecDepth 20000 in
theorem ggX11_of_J0_length_8abf5 : GoodIn wsX11_of wsJ0_length_8abf5 := qaf qau9 (by decide +kernel) qVu
set_option maxRecDepth 20000 in
theorem gX11_of_J0_length_8abf5 : GoodIn wsX11_of (wsV RX11 134 RJ0 yJ0_length_8abf5 wsJ0_length_8abf5) := goodIn_app (qag qau9 [1220, 784, 785, 786] rfl (by decide +kernel)) ggX11_of_J0_length_8abf5
set_option maxRecDepth 20000 in
theorem ggX11_of_J0_charAt_5068e : GoodIn wsX11_of wsJ0_charAt_5068e := qaf qau9 (by decide +kernel) qV0
set_option maxRecDepth 20000 in
theorem gX11_of_J0_charAt_5068e : GoodIn wsX11_of (wsV RX11 139 RJ0 yJ0_charAt_5068e wsJ0_charAt_5068e) := goodIn_app (qag qau9 [1221, 841, 842, 786] rfl (by decide +kernel)) ggX11_of_J0_charAt_5068e
set_option maxRecDepth 20000 in
theorem ggX11_pass_X11_isSmall : GoodIn wsX11_pass wsX11_isSmall := qaf qOC (by decide +kernel) qado
set_option maxRecDepth 20000 in
theorem gX11_pass_X11_isSmall : GoodIn wsX11_pass (va_wsS RX11 130 yX11_isSmall wsX11_isSmall) := goodIn_app (qag qOC [1171, 1172, 5] rfl (by decide +kernel)) ggX11_pass_X11_isSmall
set_option maxRecDepth 20000 in
theorem ggX11_readNumber_X11_fine : GoodIn wsX11_readNumber wsX11_fine := qaf qmY (by decide +kernel) qsT
set_option maxRecDepth 20000 in
theorem gX11_readNumber_X11_fine : GoodIn wsX11_readNumber (wsV RX11 143 RX11 yX11_fine wsX11_fine) := goodIn_app (qag qmY [1155, 1156, 1157, 5] rfl (by decide +kernel)) ggX11_readNumber_X11_fine
set_option maxRecDepth 20000 in
theorem ggX11_readNumber_X11_here : GoodIn wsX11_readNumber wsX11_here := qaf qmY (by decide +kernel) qAD
set_option maxRecDepth 20000 in
theorem gX11_readNumber_X11_here : GoodIn wsX11_readNumber (wsV RX11 126 RX11 yX11_here wsX11_here) := goodIn_app (qag qmY [1163, 1164, 1165, 5] rfl (by decide +kernel)) ggX11_readNumber_X11_here
set_option maxRecDepth 20000 in
theorem ggX11_readNumber_X11_isDigit : GoodIn wsX11_readNumber wsX11_isDigit := qaf qmY (by decide +kernel) qagl
set_option maxRecDepth 20000 in
theorem gX11_readNumber_X11_isDigit : GoodIn wsX11_readNumber (va_wsS RX11 147 yX11_isDigit wsX11_isDigit) := goodIn_app (qag qmY [1283, 1284, 5] rfl (by decide +kernel)) ggX11_readNumber_X11_isDigit
set_option maxRecDepth 20000 in
theorem ggX11_readNumber_X11_wrong : GoodIn wsX11_readNumber wsX11_wrong := qaf qmY (by decide +kernel) qzR
set_option maxRecDepth 20000 in
theorem gX11_readNumber_X11_wrong : GoodIn wsX11_readNumber (wsV RX11 150 RX11 yX11_wrong wsX11_wrong) := goodIn_app (qag qmY [1222, 1223, 1224, 5] rfl (by decide +kernel)) ggX11_readNumber_X11_wrong
set_option maxRecDepth 20000 in
theorem ggX11_sign_X11_fine : GoodIn wsX11_sign wsX11_fine := qaf qGq (by decide +kernel) qsT
set_option maxRecDepth 20000 in
theorem gX11_sign_X11_fine : GoodIn wsX11_sign (wsV RX11 143 RX11 yX11_fine wsX11_fine) := goodIn_app (qag qGq [1155, 1156, 1157, 5] rfl (by decide +kernel)) ggX11_sign_X11_fine
set_option maxRecDepth 20000 in
theorem ggX11_sign_X11_here : GoodIn wsX11_sign wsX11_here := qaf qGq (by decide +kernel) qAD
set_option maxRecDepth 20000 in
theorem gX11_sign_X11_here : GoodIn wsX11_sign (wsV RX11 126 RX11 yX11_here wsX11_here) := goodIn_app (qag qGq [1163, 1164, 1165, 5] rfl (by decide +kernel)) ggX11_sign_X11_here
set_option maxRecDepth 20000 in
theorem ggX11_sign_X11_wrong : GoodIn wsX11_sign wsX11_wrong := qaf qGq (by decide +kernel) qzR
set_option maxRecDepth 20000 in
theorem gX11_sign_X11_wrong : GoodIn wsX11_sign (wsV RX11 150 RX11 yX11_wrong wsX11_wrong) := goodIn_app (qag qGq [1222, 1223, 1224, 5] rfl (by decide +kernel)) ggX11_sign_X11_wrong
set_option maxRecDepth 20000 in
theorem ggX11_isMore_X11_here : GoodIn wsX11_isMore wsX11_here := qaf qLs (by decide +kernel) qAD
set_option maxRecDepth 20000 in
theorem gX11_isMore_X11_here : GoodIn wsX11_isMore (wsV RX11 126 RX11 yX11_here wsX11_here) := goodIn_app (qag qLs [1163, 1164, 1165, 5] rfl (by decide +kernel)) ggX11_isMore_X11_here
set_option maxRecDepth 20000 in
theorem ggX11_result_X11_fine : GoodIn wsX11_result wsX11_fine := qaf qGG (by decide +kernel) qsT
set_option maxRecDepth 20000 in
theorem gX11_result_X11_fine : GoodIn wsX11_result (wsV RX11 143 RX11 yX11_fine wsX11_fine) := goodIn_app (qag qGG [1155, 1156, 1157, 5] rfl (by decide +kernel)) ggX11_result_X11_fine
set_option maxRecDepth 20000 in
theorem ggX11_sets_X11_copies : GoodIn wsX11_sets wsX11_copies := qaf qm6 (by decide +kernel) qLe
set_option maxRecDepth 20000 in
theorem gX11_sets_X11_copies : GoodIn wsX11_sets (wsV RX11 175 RX11 yX11_copies wsX11_copies) := goodIn_app (qag qm6 [527, 528, 529, 5] rfl (by decide +kernel)) ggX11_sets_X11_copies
set_option maxRecDepth 20000 in
theorem ggX11_readHare_X11_readNumber : GoodIn wsX11_readHare wsX11_readNumber := qaf qKs (by decide +kernel) quK
set_option maxRecDepth 20000 in
theorem gX11_readHare_X11_readNumber : GoodIn wsX11_readHare (wsV RX11 194 RX11 yX11_readNumber wsX11_readNumber) := goodIn_app (qag qKs [1239, 1280, 1281, 5] rfl (by decide +kernel)) ggX11_readHare_X11_readNumber
set_option maxRecDepth 20000 in
theorem ggX11_readDebt_X11_readHare : GoodIn wsX11_readDebt wsX11_readHare := qaf qoh (by decide +kernel) qaIZ
set_option maxRecDepth 20000 in
theorem gX11_readDebt_X11_readHare : GoodIn wsX11_readDebt (wsV RX11 198 RX11 yX11_readHare wsX11_readHare) := goodIn_app (qag qoh [1290, 1291, 1292, 5] rfl (by decide +kernel)) ggX11_readDebt_X11_readHare
set_option maxRecDepth 20000 in
theorem ggX11_readDebt_X11_here : GoodIn wsX11_readDebt wsX11_here := qaf qoh (by decide +kernel) qAD
set_option maxRecDepth 20000 in
theorem gX11_readDebt_X11_here : GoodIn wsX11_readDebt (wsV RX11 126 RX11 yX11_here wsX11_here) := goodIn_app (qag qoh [1163, 1164, 1165, 5] rfl (by decide +kernel)) ggX11_readDebt_X11_here
set_option maxRecDepth 20000 in
theorem ggX11_readDebt_X11_fine : GoodIn wsX11_readDebt wsX11_fine := qaf qoh (by decide +kernel) qsT
set_option maxRecDepth 20000 in
theorem gX11_readDebt_X11_fine : GoodIn wsX11_readDebt (wsV RX11 143 RX11 yX11_fine wsX11_fine) := goodIn_app (qag qoh [1155, 1156, 1157, 5] rfl (by decide +kernel)) ggX11_readDebt_X11_fine
set_option maxRecDepth 20000 in
theorem ggX11_readDebt_X11_wrong : GoodIn wsX11_readDebt wsX11_wrong := qaf qoh (by decide +kernel) qzR
set_option maxRecDepth 20000 in
theorem gX11_readDebt_X11_wrong : GoodIn wsX11_readDebt (wsV RX11 150 RX11 yX11_wrong wsX11_wrong) := goodIn_app (qag qoh [1222, 1223, 1224, 5] rfl (by decide +kernel)) ggX11_readDebt_X11_wrong
set_option maxRecDepth 20000 in
theorem ggX11_readDebt_X11_readNumber : GoodIn wsX11_readDebt wsX11_readNumber := qaf qoh (by decide +kernel) quK
set_option maxRecDepth 20000 in
theorem gX11_readDebt_X11_readNumber : GoodIn wsX11_readDebt (wsV RX11 194 RX11 yX11_readNumber wsX11_readNumber) := goodIn_app (qag qoh [1239, 1280, 1281, 5] rfl (by decide +kernel)) ggX11_readDebt_X11_readNumber
set_option maxRecDepth 20000 in
theorem ggX11_isRow_X11_of : GoodIn wsX11_isRow wsX11_of := qaf qaCC (by decide +kernel) q4U
set_option maxRecDepth 20000 in
theorem gX11_isRow_X11_of : GoodIn wsX11_isRow (va_wsS RX11 202 yX11_of wsX11_of) := goodIn_app (qag qaCC [1217, 1218, 5] rfl (by decide +kernel)) ggX11_isRow_X11_of
set_option maxRecDepth 20000 in
theorem ggX11_isFull_X11_of : GoodIn wsX11_isFull wsX11_of := qaf qGo (by decide +kernel) q4U
set_option maxRecDepth 20000 in
theorem gX11_isFull_X11_of : GoodIn wsX11_isFull (va_wsS RX11 202 yX11_of wsX11_of) := goodIn_app (qag qGo [1217, 1218, 5] rfl (by decide +kernel)) ggX11_isFull_X11_of
set_option maxRecDepth 20000 in
theorem ggX11_readRow_X11_of : GoodIn wsX11_readRow wsX11_of := qaf qpH (by decide +kernel) q4U
set_option maxRecDepth 20000 in
theorem gX11_readRow_X11_of : GoodIn wsX11_readRow (va_wsS RX11 202 yX11_of wsX11_of) := goodIn_app (qag qpH [1217, 1218, 5] rfl (by decide +kernel)) ggX11_readRow_X11_of
set_option maxRecDepth 20000 in
theorem ggX11_readRow_X11_readNumber : GoodIn wsX11_readRow wsX11_readNumber := qaf qpH (by decide +kernel) quK
set_option maxRecDepth 20000 in
theorem gX11_readRow_X11_readNumber : GoodIn wsX11_readRow (wsV RX11 194 RX11 yX11_readNumber wsX11_readNumber) := goodIn_app (qag qpH [1239, 1280, 1281, 5] rfl (by decide +kernel)) ggX11_readRow_X11_readNumber
set_option maxRecDepth 20000 in
theorem ggX11_readRow_X11_readDebt : GoodIn wsX11_readRow wsX11_readDebt := qaf qpH (by decide +kernel) qaJ6
set_option maxRecDepth 20000 in
theorem gX11_readRow_X11_readDebt : GoodIn wsX11_readRow (wsV RX11 210 RX11 yX11_readDebt wsX11_readDebt) := goodIn_app (qag qpH [1286, 1287, 1288, 5] rfl (by decide +kernel)) ggX11_readRow_X11_readDebt
set_option maxRecDepth 20000 in
theorem ggX11_down_X11_may : GoodIn wsX11_down wsX11_may := qaf qdJ (by decide +kernel) qoN
set_option maxRecDepth 20000 in
theorem gX11_down_X11_may : GoodIn wsX11_down (wsV RX11 213 RX11 yX11_may wsX11_may) := goodIn_app (qag qdJ [1105, 1106, 1107, 5] rfl (by decide +kernel)) ggX11_down_X11_may
set_option maxRecDepth 20000 in
theorem ggX11_down_X11_begins : GoodIn wsX11_down wsX11_begins := qaf qdJ (by decide +kernel) qRH
set_option maxRecDepth 20000 in
theorem gX11_down_X11_begins : GoodIn wsX11_down (wsV RX11 217 RX11 yX11_begins wsX11_begins) := goodIn_app (qag qdJ [1109, 1110, 1111, 5] rfl (by decide +kernel)) ggX11_down_X11_begins
set_option maxRecDepth 20000 in
theorem ggX11_down_X11_clears : GoodIn wsX11_down wsX11_clears := qaf qdJ (by decide +kernel) qaoy
set_option maxRecDepth 20000 in
theorem gX11_down_X11_clears : GoodIn wsX11_down (wsV RX11 105 RX11 yX11_clears wsX11_clears) := goodIn_app (qag qdJ [468, 469, 470, 5] rfl (by decide +kernel)) ggX11_down_X11_clears
set_option maxRecDepth 20000 in
theorem ggX11_down_X11_fine : GoodIn wsX11_down wsX11_fine := qaf qdJ (by decide +kernel) qsT
set_option maxRecDepth 20000 in
theorem gX11_down_X11_fine : GoodIn wsX11_down (wsV RX11 143 RX11 yX11_fine wsX11_fine) := goodIn_app (qag qdJ [1155, 1156, 1157, 5] rfl (by decide +kernel)) ggX11_down_X11_fine
set_option maxRecDepth 20000 in
theorem ggX11_down_X11_isMore : GoodIn wsX11_down wsX11_isMore := qaf qdJ (by decide +kernel) qR7
set_option maxRecDepth 20000 in
theorem gX11_down_X11_isMore : GoodIn wsX11_down (wsV RX11 221 RX11 yX11_isMore wsX11_isMore) := goodIn_app (qag qdJ [1159, 1160, 1161, 5] rfl (by decide +kernel)) ggX11_down_X11_isMore
set_option maxRecDepth 20000 in
theorem ggX11_down_X11_word : GoodIn wsX11_down wsX11_word := qaf qdJ (by decide +kernel) q5k
set_option maxRecDepth 20000 in
theorem gX11_down_X11_word : GoodIn wsX11_down (wsV RX11 224 RX11 yX11_word wsX11_word) := goodIn_app (qag qdJ [1167, 1168, 1169, 5] rfl (by decide +kernel)) ggX11_down_X11_word
set_option maxRecDepth 20000 in
theorem ggX11_down_X11_isRow : GoodIn wsX11_down wsX11_isRow := qaf qdJ (by decide +kernel) qaZG
set_option maxRecDepth 20000 in
theorem gX11_down_X11_isRow : GoodIn wsX11_down (va_wsS RX11 227 yX11_isRow wsX11_isRow) := goodIn_app (qag qdJ [1174, 1175, 5] rfl (by decide +kernel)) ggX11_down_X11_isRow
set_option maxRecDepth 20000 in
theorem ggX11_down_X11_wrong : GoodIn wsX11_down wsX11_wrong := qaf qdJ (by decide +kernel) qzR
set_option maxRecDepth 20000 in
theorem gX11_down_X11_wrong : GoodIn wsX11_down (wsV RX11 150 RX11 yX11_wrong wsX11_wrong) := goodIn_app (qag qdJ [1222, 1223, 1224, 5] rfl (by decide +kernel)) ggX11_down_X11_wrong
set_option maxRecDepth 20000 in
theorem ggX11_down_X11_isFull : GoodIn wsX11_down wsX11_isFull := qaf qdJ (by decide +kernel) qaVO
set_option maxRecDepth 20000 in
theorem gX11_down_X11_isFull : GoodIn wsX11_down (wsV RX11 230 RX11 yX11_isFull wsX11_isFull) := goodIn_app (qag qdJ [1227, 1228, 1229, 5] rfl (by decide +kernel)) ggX11_down_X11_isFull
set_option maxRecDepth 20000 in
theorem ggX11_down_X11_pass : GoodIn wsX11_down wsX11_pass := qaf qdJ (by decide +kernel) qajE
set_option maxRecDepth 20000 in
theorem gX11_down_X11_pass : GoodIn wsX11_down (wsV RX11 233 RX11 yX11_pass wsX11_pass) := goodIn_app (qag qdJ [1231, 1232, 1233, 5] rfl (by decide +kernel)) ggX11_down_X11_pass
set_option maxRecDepth 20000 in
theorem ggX11_down_X11_readRow : GoodIn wsX11_down wsX11_readRow := qaf qdJ (by decide +kernel) qaMW
set_option maxRecDepth 20000 in
theorem gX11_down_X11_readRow : GoodIn wsX11_down (wsV RX11 236 RX11 yX11_readRow wsX11_readRow) := goodIn_app (qag qdJ [1235, 1236, 1237, 5] rfl (by decide +kernel)) ggX11_down_X11_readRow
set_option maxRecDepth 20000 in
theorem ggX11_down_X11_sign : GoodIn wsX11_down wsX11_sign := qaf qdJ (by decide +kernel) qVg
set_option maxRecDepth 20000 in
theorem gX11_down_X11_sign : GoodIn wsX11_down (wsV RX11 239 RX11 yX11_sign wsX11_sign) := goodIn_app (qag qdJ [1294, 1295, 1296, 5] rfl (by decide +kernel)) ggX11_down_X11_sign
set_option maxRecDepth 20000 in
theorem ggX11_down_X11_result : GoodIn wsX11_down wsX11_result := qaf qdJ (by decide +kernel) qSy
set_option maxRecDepth 20000 in
theorem gX11_down_X11_result : GoodIn wsX11_down (wsV RX11 242 RX11 yX11_result wsX11_result) := goodIn_app (qag qdJ [1298, 1299, 1300, 5] rfl (by decide +kernel)) ggX11_down_X11_result
set_option maxRecDepth 20000 in
theorem ggX11_down_X11_sets : GoodIn wsX11_down wsX11_sets := qaf qdJ (by decide +kernel) qaLP
set_option maxRecDepth 20000 in
theorem gX11_down_X11_sets : GoodIn wsX11_down (wsV RX11 108 RX11 yX11_sets wsX11_sets) := goodIn_app (qag qdJ [515, 516, 517, 5] rfl (by decide +kernel)) ggX11_down_X11_sets
set_option maxRecDepth 20000 in
theorem ggX11_emit_X11_fine : GoodIn wsX11_emit wsX11_fine := qaf qOB (by decide +kernel) qsT
set_option maxRecDepth 20000 in
theorem gX11_emit_X11_fine : GoodIn wsX11_emit (wsV RX11 143 RX11 yX11_fine wsX11_fine) := goodIn_app (qag qOB [1155, 1156, 1157, 5] rfl (by decide +kernel)) ggX11_emit_X11_fine
set_option maxRecDepth 20000 in
theorem ggX11_opensOne_X11_fine : GoodIn wsX11_opensOne wsX11_fine := qaf qxB (by decide +kernel) qsT
set_option maxRecDepth 20000 in
theorem gX11_opensOne_X11_fine : GoodIn wsX11_opensOne (wsV RX11 143 RX11 yX11_fine wsX11_fine) := goodIn_app (qag qxB [1155, 1156, 1157, 5] rfl (by decide +kernel)) ggX11_opensOne_X11_fine
set_option maxRecDepth 20000 in
theorem ggX11_opensOne_X11_wrong : GoodIn wsX11_opensOne wsX11_wrong := qaf qxB (by decide +kernel) qzR
set_option maxRecDepth 20000 in
theorem gX11_opensOne_X11_wrong : GoodIn wsX11_opensOne (wsV RX11 150 RX11 yX11_wrong wsX11_wrong) := goodIn_app (qag qxB [1222, 1223, 1224, 5] rfl (by decide +kernel)) ggX11_opensOne_X11_wrong
set_option maxRecDepth 20000 in
theorem ggX11_readSum_X11_readProduct : GoodIn wsX11_readSum wsX11_readProduct := qaf qqS (by decide +kernel) qajA
set_option maxRecDepth 20000 in
theorem gX11_readSum_X11_readProduct : GoodIn wsX11_readSum (wsV RX11 249 RX11 yX11_readProduct wsX11_readProduct) := goodIn_app (qag qqS [1486, 1487, 1488, 5] rfl (by decide +kernel)) ggX11_readSum_X11_readProduct
set_option maxRecDepth 20000 in
theorem ggX11_readSum_X11_fine : GoodIn wsX11_readSum wsX11_fine := qaf qqS (by decide +kernel) qsT
set_option maxRecDepth 20000 in
theorem gX11_readSum_X11_fine : GoodIn wsX11_readSum (wsV RX11 143 RX11 yX11_fine wsX11_fine) := goodIn_app (qag qqS [1155, 1156, 1157, 5] rfl (by decide +kernel)) ggX11_readSum_X11_fine
set_option maxRecDepth 20000 in
theorem ggX11_readSum_X11_here : GoodIn wsX11_readSum wsX11_here := qaf qqS (by decide +kernel) qAD
set_option maxRecDepth 20000 in
theorem gX11_readSum_X11_here : GoodIn wsX11_readSum (wsV RX11 126 RX11 yX11_here wsX11_here) := goodIn_app (qag qqS [1163, 1164, 1165, 5] rfl (by decide +kernel)) ggX11_readSum_X11_here
set_option maxRecDepth 20000 in
theorem ggX11_readSum_X11_emit : GoodIn wsX11_readSum wsX11_emit := qaf qqS (by decide +kernel) q4V
set_option maxRecDepth 20000 in
theorem gX11_readSum_X11_emit : GoodIn wsX11_readSum (wsV RX11 252 RX11 yX11_emit wsX11_emit) := goodIn_app (qag qqS [1489, 1490, 1491, 5] rfl (by decide +kernel)) ggX11_readSum_X11_emit
set_option maxRecDepth 20000 in
theorem ggX11_readProduct_X11_readUnit : GoodIn wsX11_readProduct wsX11_readUnit := qaf qkQ (by decide +kernel) qaJV
set_option maxRecDepth 20000 in
theorem gX11_readProduct_X11_readUnit : GoodIn wsX11_readProduct (wsV RX11 255 RX11 yX11_readUnit wsX11_readUnit) := goodIn_app (qag qkQ [1494, 1495, 1536, 5] rfl (by decide +kernel)) ggX11_readProduct_X11_readUnit
set_option maxRecDepth 20000 in
theorem ggX11_readProduct_X11_fine : GoodIn wsX11_readProduct wsX11_fine := qaf qkQ (by decide +kernel) qsT
set_option maxRecDepth 20000 in
theorem gX11_readProduct_X11_fine : GoodIn wsX11_readProduct (wsV RX11 143 RX11 yX11_fine wsX11_fine) := goodIn_app (qag qkQ [1155, 1156, 1157, 5] rfl (by decide +kernel)) ggX11_readProduct_X11_fine
set_option maxRecDepth 20000 in
theorem ggX11_readProduct_X11_here : GoodIn wsX11_readProduct wsX11_here := qaf qkQ (by decide +kernel) qAD
set_option maxRecDepth 20000 in
theorem gX11_readProduct_X11_here : GoodIn wsX11_readProduct (wsV RX11 126 RX11 yX11_here wsX11_here) := goodIn_app (qag qkQ [1163, 1164, 1165, 5] rfl (by decide +kernel)) ggX11_readProduct_X11_here
set_option maxRecDepth 20000 in
theorem ggX11_readProduct_X11_emit : GoodIn wsX11_readProduct wsX11_emit := qaf qkQ (by decide +kernel) q4V
set_option maxRecDepth 20000 in
theorem gX11_readProduct_X11_emit : GoodIn wsX11_readProduct (wsV RX11 252 RX11 yX11_emit wsX11_emit) := goodIn_app (qag qkQ [1489, 1490, 1491, 5] rfl (by decide +kernel)) ggX11_readProduct_X11_emit
set_option maxRecDepth 20000 in
theorem ggX11_readTwo_X11_opensOne : GoodIn wsX11_readTwo wsX11_opensOne := qaf qty (by decide +kernel) qUD
set_option maxRecDepth 20000 in
theorem gX11_readTwo_X11_opensOne : GoodIn wsX11_readTwo (wsV RX11 258 RX11 yX11_opensOne wsX11_opensOne) := goodIn_app (qag qty [1538, 1539, 1540, 5] rfl (by decide +kernel)) ggX11_readTwo_X11_opensOne
set_option maxRecDepth 20000 in
theorem ggX11_readTwo_X11_sign : GoodIn wsX11_readTwo wsX11_sign := qaf qty (by decide +kernel) qVg
set_option maxRecDepth 20000 in
theorem gX11_readTwo_X11_sign : GoodIn wsX11_readTwo (wsV RX11 239 RX11 yX11_sign wsX11_sign) := goodIn_app (qag qty [1294, 1295, 1296, 5] rfl (by decide +kernel)) ggX11_readTwo_X11_sign
set_option maxRecDepth 20000 in
theorem ggX11_readTwo_X11_readSum : GoodIn wsX11_readTwo wsX11_readSum := qaf qty (by decide +kernel) qXq
set_option maxRecDepth 20000 in
theorem gX11_readTwo_X11_readSum : GoodIn wsX11_readTwo (wsV RX11 261 RX11 yX11_readSum wsX11_readSum) := goodIn_app (qag qty [1482, 1483, 1484, 5] rfl (by decide +kernel)) ggX11_readTwo_X11_readSum
set_option maxRecDepth 20000 in
theorem ggX11_readTwo_X11_emit : GoodIn wsX11_readTwo wsX11_emit := qaf qty (by decide +kernel) q4V
set_option maxRecDepth 20000 in
theorem gX11_readTwo_X11_emit : GoodIn wsX11_readTwo (wsV RX11 252 RX11 yX11_emit wsX11_emit) := goodIn_app (qag qty [1489, 1490, 1491, 5] rfl (by decide +kernel)) ggX11_readTwo_X11_emit
set_option maxRecDepth 20000 in
theorem ggX11_factHere_X11_word : GoodIn wsX11_factHere wsX11_word := qaf qKA (by decide +kernel) q5k
set_option maxRecDepth 20000 in
theorem gX11_factHere_X11_word : GoodIn wsX11_factHere (wsV RX11 224 RX11 yX11_word wsX11_word) := goodIn_app (qag qKA [1167, 1168, 1169, 5] rfl (by decide +kernel)) ggX11_factHere_X11_word
set_option maxRecDepth 20000 in
theorem ggX11_factHere_X11_of : GoodIn wsX11_factHere wsX11_of := qaf qKA (by decide +kernel) q4U
set_option maxRecDepth 20000 in
theorem gX11_factHere_X11_of : GoodIn wsX11_factHere (va_wsS RX11 202 yX11_of wsX11_of) := goodIn_app (qag qKA [1217, 1218, 5] rfl (by decide +kernel)) ggX11_factHere_X11_of
set_option maxRecDepth 20000 in
theorem ggX11_readUnit_X11_fine : GoodIn wsX11_readUnit wsX11_fine := qaf qbJ (by decide +kernel) qsT
set_option maxRecDepth 20000 in
theorem gX11_readUnit_X11_fine : GoodIn wsX11_readUnit (wsV RX11 143 RX11 yX11_fine wsX11_fine) := goodIn_app (qag qbJ [1155, 1156, 1157, 5] rfl (by decide +kernel)) ggX11_readUnit_X11_fine
set_option maxRecDepth 20000 in
theorem ggX11_readUnit_X11_here : GoodIn wsX11_readUnit wsX11_here := qaf qbJ (by decide +kernel) qAD
set_option maxRecDepth 20000 in
theorem gX11_readUnit_X11_here : GoodIn wsX11_readUnit (wsV RX11 126 RX11 yX11_here wsX11_here) := goodIn_app (qag qbJ [1163, 1164, 1165, 5] rfl (by decide +kernel)) ggX11_readUnit_X11_here
set_option maxRecDepth 20000 in
theorem ggX11_readUnit_X11_opensOne : GoodIn wsX11_readUnit wsX11_opensOne := qaf qbJ (by decide +kernel) qUD
set_option maxRecDepth 20000 in
theorem gX11_readUnit_X11_opensOne : GoodIn wsX11_readUnit (wsV RX11 258 RX11 yX11_opensOne wsX11_opensOne) := goodIn_app (qag qbJ [1538, 1539, 1540, 5] rfl (by decide +kernel)) ggX11_readUnit_X11_opensOne
set_option maxRecDepth 20000 in
theorem ggX11_readUnit_X11_readSum : GoodIn wsX11_readUnit wsX11_readSum := qaf qbJ (by decide +kernel) qXq
set_option maxRecDepth 20000 in
theorem gX11_readUnit_X11_readSum : GoodIn wsX11_readUnit (wsV RX11 261 RX11 yX11_readSum wsX11_readSum) := goodIn_app (qag qbJ [1482, 1483, 1484, 5] rfl (by decide +kernel)) ggX11_readUnit_X11_readSum
set_option maxRecDepth 20000 in
theorem ggX11_readUnit_X11_sign : GoodIn wsX11_readUnit wsX11_sign := qaf qbJ (by decide +kernel) qVg
set_option maxRecDepth 20000 in
theorem gX11_readUnit_X11_sign : GoodIn wsX11_readUnit (wsV RX11 239 RX11 yX11_sign wsX11_sign) := goodIn_app (qag qbJ [1294, 1295, 1296, 5] rfl (by decide +kernel)) ggX11_readUnit_X11_sign
set_option maxRecDepth 20000 in
theorem ggX11_readUnit_X11_isDigit : GoodIn wsX11_readUnit wsX11_isDigit := qaf qbJ (by decide +kernel) qagl
set_option maxRecDepth 20000 in
theorem gX11_readUnit_X11_isDigit : GoodIn wsX11_readUnit (va_wsS RX11 147 yX11_isDigit wsX11_isDigit) := goodIn_app (qag qbJ [1283, 1284, 5] rfl (by decide +kernel)) ggX11_readUnit_X11_isDigit
set_option maxRecDepth 20000 in
theorem ggX11_readUnit_X11_readNumber : GoodIn wsX11_readUnit wsX11_readNumber := qaf qbJ (by decide +kernel) quK
set_option maxRecDepth 20000 in
theorem gX11_readUnit_X11_readNumber : GoodIn wsX11_readUnit (wsV RX11 194 RX11 yX11_readNumber wsX11_readNumber) := goodIn_app (qag qbJ [1239, 1280, 1281, 5] rfl (by decide +kernel)) ggX11_readUnit_X11_readNumber
set_option maxRecDepth 20000 in
theorem ggX11_readUnit_X11_emit : GoodIn wsX11_readUnit wsX11_emit := qaf qbJ (by decide +kernel) q4V
set_option maxRecDepth 20000 in
theorem gX11_readUnit_X11_emit : GoodIn wsX11_readUnit (wsV RX11 252 RX11 yX11_emit wsX11_emit) := goodIn_app (qag qbJ [1489, 1490, 1491, 5] rfl (by decide +kernel)) ggX11_readUnit_X11_emit
set_option maxRecDepth 20000 in
theorem ggX11_readUnit_X11_word : GoodIn wsX11_readUnit wsX11_word := qaf qbJ (by decide +kernel) q5k
set_option maxRecDepth 20000 in
theorem gX11_readUnit_X11_word : GoodIn wsX11_readUnit (wsV RX11 224 RX11 yX11_word wsX11_word) := goodIn_app (qag qbJ [1167, 1168, 1169, 5] rfl (by decide +kernel)) ggX11_readUnit_X11_word
set_option maxRecDepth 20000 in
theorem ggX11_readUnit_X11_of : GoodIn wsX11_readUnit wsX11_of := qaf qbJ (by decide +kernel) q4U
set_option maxRecDepth 20000 in
theorem gX11_readUnit_X11_of : GoodIn wsX11_readUnit (va_wsS RX11 202 yX11_of wsX11_of) := goodIn_app (qag qbJ [1217, 1218, 5] rfl (by decide +kernel)) ggX11_readUnit_X11_of
set_option maxRecDepth 20000 in
theorem ggX11_readUnit_X11_readTwo : GoodIn wsX11_readUnit wsX11_readTwo := qaf qbJ (by decide +kernel) qaPy
set_option maxRecDepth 20000 in
theorem gX11_readUnit_X11_readTwo : GoodIn wsX11_readUnit (wsV RX11 280 RX11 yX11_readTwo wsX11_readTwo) := goodIn_app (qag qbJ [1543, 1544, 1545, 5] rfl (by decide +kernel)) ggX11_readUnit_X11_readTwo
set_option maxRecDepth 20000 in
theorem ggX11_readUnit_X11_factHere : GoodIn wsX11_readUnit wsX11_factHere := qaf qbJ (by decide +kernel) qaJL
set_option maxRecDepth 20000 in
theorem gX11_readUnit_X11_factHere : GoodIn wsX11_readUnit (wsV RX11 285 RX11 yX11_factHere wsX11_factHere) := goodIn_app (qag qbJ [1546, 1547, 1548, 5] rfl (by decide +kernel)) ggX11_readUnit_X11_factHere
set_option maxRecDepth 20000 in
theorem ggX11_readUnit_X11_wrong : GoodIn wsX11_readUnit wsX11_wrong := qaf qbJ (by decide +kernel) qzR
set_option maxRecDepth 20000 in
theorem gX11_readUnit_X11_wrong : GoodIn wsX11_readUnit (wsV RX11 150 RX11 yX11_wrong wsX11_wrong) := goodIn_app (qag qbJ [1222, 1223, 1224, 5] rfl (by decide +kernel)) ggX11_readUnit_X11_wrong
set_option maxRecDepth 20000 in
theorem ggX11_readUnit_X11_pass : GoodIn wsX11_readUnit wsX11_pass := qaf qbJ (by decide +kernel) qajE
set_option maxRecDepth 20000 in
theorem gX11_readUnit_X11_pass : GoodIn wsX11_readUnit (wsV RX11 233 RX11 yX11_pass wsX11_pass) := goodIn_app (qag qbJ [1231, 1232, 1233, 5] rfl (by decide +kernel)) ggX11_readUnit_X11_pass
set_option maxRecDepth 20000 in
theorem ggX11_law_X11_may : GoodIn wsX11_law wsX11_may := qaf qni (by decide +kernel) qoN
set_option maxRecDepth 20000 in
theorem gX11_law_X11_may : GoodIn wsX11_law (wsV RX11 213 RX11 yX11_may wsX11_may) := goodIn_app (qag qni [1105, 1106, 1107, 5] rfl (by decide +kernel)) ggX11_law_X11_may
set_option maxRecDepth 20000 in
theorem ggX11_law_X11_begins : GoodIn wsX11_law wsX11_begins := qaf qni (by decide +kernel) qRH
set_option maxRecDepth 20000 in
theorem gX11_law_X11_begins : GoodIn wsX11_law (wsV RX11 217 RX11 yX11_begins wsX11_begins) := goodIn_app (qag qni [1109, 1110, 1111, 5] rfl (by decide +kernel)) ggX11_law_X11_begins
set_option maxRecDepth 20000 in
theorem ggX11_law_X11_readSum : GoodIn wsX11_law wsX11_readSum := qaf qni (by decide +kernel) qXq
set_option maxRecDepth 20000 in
theorem gX11_law_X11_readSum : GoodIn wsX11_law (wsV RX11 261 RX11 yX11_readSum wsX11_readSum) := goodIn_app (qag qni [1482, 1483, 1484, 5] rfl (by decide +kernel)) ggX11_law_X11_readSum
set_option maxRecDepth 20000 in
theorem ggX11_law_X11_fine : GoodIn wsX11_law wsX11_fine := qaf qni (by decide +kernel) qsT
set_option maxRecDepth 20000 in
theorem gX11_law_X11_fine : GoodIn wsX11_law (wsV RX11 143 RX11 yX11_fine wsX11_fine) := goodIn_app (qag qni [1155, 1156, 1157, 5] rfl (by decide +kernel)) ggX11_law_X11_fine
set_option maxRecDepth 20000 in
theorem ggX11_law_X11_isMore : GoodIn wsX11_law wsX11_isMore := qaf qni (by decide +kernel) qR7
set_option maxRecDepth 20000 in
theorem gX11_law_X11_isMore : GoodIn wsX11_law (wsV RX11 221 RX11 yX11_isMore wsX11_isMore) := goodIn_app (qag qni [1159, 1160, 1161, 5] rfl (by decide +kernel)) ggX11_law_X11_isMore
set_option maxRecDepth 20000 in
theorem ggX11_law_X11_wrong : GoodIn wsX11_law wsX11_wrong := qaf qni (by decide +kernel) qzR
set_option maxRecDepth 20000 in
theorem gX11_law_X11_wrong : GoodIn wsX11_law (wsV RX11 150 RX11 yX11_wrong wsX11_wrong) := goodIn_app (qag qni [1222, 1223, 1224, 5] rfl (by decide +kernel)) ggX11_law_X11_wrong
set_option maxRecDepth 20000 in
theorem ggX11_law_X11_result : GoodIn wsX11_law wsX11_result := qaf qni (by decide +kernel) qSy
set_option maxRecDepth 20000 in
theorem gX11_law_X11_result : GoodIn wsX11_law (wsV RX11 242 RX11 yX11_result wsX11_result) := goodIn_app (qag qni [1298, 1299, 1300, 5] rfl (by decide +kernel)) ggX11_law_X11_result
set_option maxRecDepth 20000 in
theorem ggX11_law_X11_copies : GoodIn wsX11_law wsX11_copies := qaf qni (by decide +kernel) qLe
set_option maxRecDepth 20000 in
theorem gX11_law_X11_copies : GoodIn wsX11_law (wsV RX11 175 RX11 yX11_copies wsX11_copies) := goodIn_app (qag qni [527, 528, 529, 5] rfl (by decide +kernel)) ggX11_law_X11_copies
set_option maxRecDepth 20000 in
theorem ggX11_valueNow_X11_both : GoodIn wsX11_valueNow wsX11_both := qaf qvh (by decide +kernel) qa21
set_option maxRecDepth 20000 in
theorem gX11_valueNow_X11_both : GoodIn wsX11_valueNow (va_wsS RX11 288 yX11_both wsX11_both) := goodIn_app (qag qvh [2312, 2313, 5] rfl (by decide +kernel)) ggX11_valueNow_X11_both
set_option maxRecDepth 20000 in
theorem ggX11_leapNow_X11_valueNow : GoodIn wsX11_leapNow wsX11_valueNow := qaf qHp (by decide +kernel) qaGz
set_option maxRecDepth 20000 in
theorem gX11_leapNow_X11_valueNow : GoodIn wsX11_leapNow (wsV RX11 292 RX11 yX11_valueNow wsX11_valueNow) := goodIn_app (qag qHp [2308, 2309, 2310, 5] rfl (by decide +kernel)) ggX11_leapNow_X11_valueNow
set_option maxRecDepth 20000 in
theorem ggX11_tellsStep_X11_fine : GoodIn wsX11_tellsStep wsX11_fine := qaf qCb (by decide +kernel) qsT
set_option maxRecDepth 20000 in
theorem gX11_tellsStep_X11_fine : GoodIn wsX11_tellsStep (wsV RX11 143 RX11 yX11_fine wsX11_fine) := goodIn_app (qag qCb [1155, 1156, 1157, 5] rfl (by decide +kernel)) ggX11_tellsStep_X11_fine
set_option maxRecDepth 20000 in
theorem ggX11_readLiving_X11_readNumber : GoodIn wsX11_readLiving wsX11_readNumber := qaf qE8 (by decide +kernel) quK
set_option maxRecDepth 20000 in
theorem gX11_readLiving_X11_readNumber : GoodIn wsX11_readLiving (wsV RX11 194 RX11 yX11_readNumber wsX11_readNumber) := goodIn_app (qag qE8 [1239, 1280, 1281, 5] rfl (by decide +kernel)) ggX11_readLiving_X11_readNumber
set_option maxRecDepth 20000 in
theorem ggX11_readStep_X11_word : GoodIn wsX11_readStep wsX11_word := qaf qbv (by decide +kernel) q5k
set_option maxRecDepth 20000 in
theorem gX11_readStep_X11_word : GoodIn wsX11_readStep (wsV RX11 224 RX11 yX11_word wsX11_word) := goodIn_app (qag qbv [1167, 1168, 1169, 5] rfl (by decide +kernel)) ggX11_readStep_X11_word
set_option maxRecDepth 20000 in
theorem ggX11_readStep_X11_of : GoodIn wsX11_readStep wsX11_of := qaf qbv (by decide +kernel) q4U
set_option maxRecDepth 20000 in
theorem gX11_readStep_X11_of : GoodIn wsX11_readStep (va_wsS RX11 202 yX11_of wsX11_of) := goodIn_app (qag qbv [1217, 1218, 5] rfl (by decide +kernel)) ggX11_readStep_X11_of
set_option maxRecDepth 20000 in
theorem ggX11_readStep_X11_pass : GoodIn wsX11_readStep wsX11_pass := qaf qbv (by decide +kernel) qajE
set_option maxRecDepth 20000 in
theorem gX11_readStep_X11_pass : GoodIn wsX11_readStep (wsV RX11 233 RX11 yX11_pass wsX11_pass) := goodIn_app (qag qbv [1231, 1232, 1233, 5] rfl (by decide +kernel)) ggX11_readStep_X11_pass
set_option maxRecDepth 20000 in
theorem ggX11_readStep_X11_tellsStep : GoodIn wsX11_readStep wsX11_tellsStep := qaf qbv (by decide +kernel) qaw6
set_option maxRecDepth 20000 in
theorem gX11_readStep_X11_tellsStep : GoodIn wsX11_readStep (wsV RX11 298 RX11 yX11_tellsStep wsX11_tellsStep) := goodIn_app (qag qbv [2122, 2123, 2124, 5] rfl (by decide +kernel)) ggX11_readStep_X11_tellsStep
set_option maxRecDepth 20000 in
theorem ggX11_readStep_X11_readLiving : GoodIn wsX11_readStep wsX11_readLiving := qaf qbv (by decide +kernel) qatO
set_option maxRecDepth 20000 in
theorem gX11_readStep_X11_readLiving : GoodIn wsX11_readStep (wsV RX11 304 RX11 yX11_readLiving wsX11_readLiving) := goodIn_app (qag qbv [2126, 2127, 2128, 5] rfl (by decide +kernel)) ggX11_readStep_X11_readLiving
set_option maxRecDepth 20000 in
theorem ggX11_readStep_X11_readNumber : GoodIn wsX11_readStep wsX11_readNumber := qaf qbv (by decide +kernel) quK
set_option maxRecDepth 20000 in
theorem gX11_readStep_X11_readNumber : GoodIn wsX11_readStep (wsV RX11 194 RX11 yX11_readNumber wsX11_readNumber) := goodIn_app (qag qbv [1239, 1280, 1281, 5] rfl (by decide +kernel)) ggX11_readStep_X11_readNumber
set_option maxRecDepth 20000 in
theorem ggX11_readStep_X11_opensOne : GoodIn wsX11_readStep wsX11_opensOne := qaf qbv (by decide +kernel) qUD
set_option maxRecDepth 20000 in
theorem gX11_readStep_X11_opensOne : GoodIn wsX11_readStep (wsV RX11 258 RX11 yX11_opensOne wsX11_opensOne) := goodIn_app (qag qbv [1538, 1539, 1540, 5] rfl (by decide +kernel)) ggX11_readStep_X11_opensOne
set_option maxRecDepth 20000 in
theorem ggX11_readStep_X11_sign : GoodIn wsX11_readStep wsX11_sign := qaf qbv (by decide +kernel) qVg
set_option maxRecDepth 20000 in
theorem gX11_readStep_X11_sign : GoodIn wsX11_readStep (wsV RX11 239 RX11 yX11_sign wsX11_sign) := goodIn_app (qag qbv [1294, 1295, 1296, 5] rfl (by decide +kernel)) ggX11_readStep_X11_sign
set_option maxRecDepth 20000 in
theorem ggX11_readStep_X11_fine : GoodIn wsX11_readStep wsX11_fine := qaf qbv (by decide +kernel) qsT
set_option maxRecDepth 20000 in
theorem gX11_readStep_X11_fine : GoodIn wsX11_readStep (wsV RX11 143 RX11 yX11_fine wsX11_fine) := goodIn_app (qag qbv [1155, 1156, 1157, 5] rfl (by decide +kernel)) ggX11_readStep_X11_fine
set_option maxRecDepth 20000 in
theorem ggX11_readStep_X11_here : GoodIn wsX11_readStep wsX11_here := qaf qbv (by decide +kernel) qAD
set_option maxRecDepth 20000 in
theorem gX11_readStep_X11_here : GoodIn wsX11_readStep (wsV RX11 126 RX11 yX11_here wsX11_here) := goodIn_app (qag qbv [1163, 1164, 1165, 5] rfl (by decide +kernel)) ggX11_readStep_X11_here
set_option maxRecDepth 20000 in
theorem ggX11_readStep_X11_readStep : GoodIn wsX11_readStep wsX11_readStep := qaf qbv (by decide +kernel) q7O
set_option maxRecDepth 20000 in
theorem gX11_readStep_X11_readStep : GoodIn wsX11_readStep (wsV RX11 313 RX11 yX11_readStep wsX11_readStep) := goodIn_app (qag qbv [2118, 2119, 2120, 5] rfl (by decide +kernel)) ggX11_readStep_X11_readStep
set_option maxRecDepth 20000 in
theorem ggX11_readStep_X11_wrong : GoodIn wsX11_readStep wsX11_wrong := qaf qbv (by decide +kernel) qzR
set_option maxRecDepth 20000 in
theorem gX11_readStep_X11_wrong : GoodIn wsX11_readStep (wsV RX11 150 RX11 yX11_wrong wsX11_wrong) := goodIn_app (qag qbv [1222, 1223, 1224, 5] rfl (by decide +kernel)) ggX11_readStep_X11_wrong
set_option maxRecDepth 20000 in
theorem ggX11_work_X11_may : GoodIn wsX11_work wsX11_may := qaf qeH (by decide +kernel) qoN
set_option maxRecDepth 20000 in
theorem gX11_work_X11_may : GoodIn wsX11_work (wsV RX11 213 RX11 yX11_may wsX11_may) := goodIn_app (qag qeH [1105, 1106, 1107, 5] rfl (by decide +kernel)) ggX11_work_X11_may
set_option maxRecDepth 20000 in
theorem ggX11_work_X11_begins : GoodIn wsX11_work wsX11_begins := qaf qeH (by decide +kernel) qRH
set_option maxRecDepth 20000 in
theorem gX11_work_X11_begins : GoodIn wsX11_work (wsV RX11 217 RX11 yX11_begins wsX11_begins) := goodIn_app (qag qeH [1109, 1110, 1111, 5] rfl (by decide +kernel)) ggX11_work_X11_begins
set_option maxRecDepth 20000 in
theorem ggX11_work_X11_result : GoodIn wsX11_work wsX11_result := qaf qeH (by decide +kernel) qSy
set_option maxRecDepth 20000 in
theorem gX11_work_X11_result : GoodIn wsX11_work (wsV RX11 242 RX11 yX11_result wsX11_result) := goodIn_app (qag qeH [1298, 1299, 1300, 5] rfl (by decide +kernel)) ggX11_work_X11_result
set_option maxRecDepth 20000 in
theorem ggX11_work_X11_fine : GoodIn wsX11_work wsX11_fine := qaf qeH (by decide +kernel) qsT
set_option maxRecDepth 20000 in
theorem gX11_work_X11_fine : GoodIn wsX11_work (wsV RX11 143 RX11 yX11_fine wsX11_fine) := goodIn_app (qag qeH [1155, 1156, 1157, 5] rfl (by decide +kernel)) ggX11_work_X11_fine
set_option maxRecDepth 20000 in
theorem ggX11_work_X11_isMore : GoodIn wsX11_work wsX11_isMore := qaf qeH (by decide +kernel) qR7
set_option maxRecDepth 20000 in
theorem gX11_work_X11_isMore : GoodIn wsX11_work (wsV RX11 221 RX11 yX11_isMore wsX11_isMore) := goodIn_app (qag qeH [1159, 1160, 1161, 5] rfl (by decide +kernel)) ggX11_work_X11_isMore
set_option maxRecDepth 20000 in
theorem ggX11_work_X11_readStep : GoodIn wsX11_work wsX11_readStep := qaf qeH (by decide +kernel) q7O
set_option maxRecDepth 20000 in
theorem gX11_work_X11_readStep : GoodIn wsX11_work (wsV RX11 313 RX11 yX11_readStep wsX11_readStep) := goodIn_app (qag qeH [2118, 2119, 2120, 5] rfl (by decide +kernel)) ggX11_work_X11_readStep
set_option maxRecDepth 20000 in
theorem ggX11_work_X11_copies : GoodIn wsX11_work wsX11_copies := qaf qeH (by decide +kernel) qLe
set_option maxRecDepth 20000 in
theorem gX11_work_X11_copies : GoodIn wsX11_work (wsV RX11 175 RX11 yX11_copies wsX11_copies) := goodIn_app (qag qeH [527, 528, 529, 5] rfl (by decide +kernel)) ggX11_work_X11_copies
set_option maxRecDepth 20000 in
theorem ggX11_work_X11_take : GoodIn wsX11_work wsX11_take := qaf qeH (by decide +kernel) qta
set_option maxRecDepth 20000 in
theorem gX11_work_X11_take : GoodIn wsX11_work (wsV RX11 316 RX11 yX11_take wsX11_take) := goodIn_app (qag qeH [2130, 2131, 2132, 5] rfl (by decide +kernel)) ggX11_work_X11_take
set_option maxRecDepth 20000 in
theorem ggX11_work_X11_goesSteps : GoodIn wsX11_work wsX11_goesSteps := qaf qeH (by decide +kernel) q4C
set_option maxRecDepth 20000 in
theorem gX11_work_X11_goesSteps : GoodIn wsX11_work (wsV RX11 328 RX11 yX11_goesSteps wsX11_goesSteps) := goodIn_app (qag qeH [2134, 2135, 2176, 5] rfl (by decide +kernel)) ggX11_work_X11_goesSteps
set_option maxRecDepth 20000 in
theorem ggX11_goesSteps_X11_goesSteps : GoodIn wsX11_goesSteps wsX11_goesSteps := qaf qkU (by decide +kernel) q4C
set_option maxRecDepth 20000 in
theorem gX11_goesSteps_X11_goesSteps : GoodIn wsX11_goesSteps (wsV RX11 328 RX11 yX11_goesSteps wsX11_goesSteps) := goodIn_app (qag qkU [2134, 2135, 2176, 5] rfl (by decide +kernel)) ggX11_goesSteps_X11_goesSteps
set_option maxRecDepth 20000 in
theorem ggX11_goesSteps_X11_isDone : GoodIn wsX11_goesSteps wsX11_isDone := qaf qkU (by decide +kernel) qaT5
set_option maxRecDepth 20000 in
theorem gX11_goesSteps_X11_isDone : GoodIn wsX11_goesSteps (wsV RX11 331 RX11 yX11_isDone wsX11_isDone) := goodIn_app (qag qkU [2178, 2179, 2180, 5] rfl (by decide +kernel)) ggX11_goesSteps_X11_isDone
set_option maxRecDepth 20000 in
theorem ggX11_take_X11_copies : GoodIn wsX11_take wsX11_copies := qaf qVt (by decide +kernel) qLe
set_option maxRecDepth 20000 in
theorem gX11_take_X11_copies : GoodIn wsX11_take (wsV RX11 175 RX11 yX11_copies wsX11_copies) := goodIn_app (qag qVt [527, 528, 529, 5] rfl (by decide +kernel)) ggX11_take_X11_copies
set_option maxRecDepth 20000 in
theorem ggX11_farOf_X11_size : GoodIn wsX11_farOf wsX11_size := qaf qYa (by decide +kernel) qaLy
set_option maxRecDepth 20000 in
theorem gX11_farOf_X11_size : GoodIn wsX11_farOf (va_wsS RX11 335 yX11_size wsX11_size) := goodIn_app (qag qYa [2198, 2199, 5] rfl (by decide +kernel)) ggX11_farOf_X11_size
set_option maxRecDepth 20000 in
theorem ggX11_isSafe_X11_size : GoodIn wsX11_isSafe wsX11_size := qaf qGi (by decide +kernel) qaLy
set_option maxRecDepth 20000 in
theorem gX11_isSafe_X11_size : GoodIn wsX11_isSafe (va_wsS RX11 335 yX11_size wsX11_size) := goodIn_app (qag qGi [2198, 2199, 5] rfl (by decide +kernel)) ggX11_isSafe_X11_size
set_option maxRecDepth 20000 in
theorem ggX11_leapOf_X11_leapNow : GoodIn wsX11_leapOf wsX11_leapNow := qaf qRT (by decide +kernel) qaR7
set_option maxRecDepth 20000 in
theorem gX11_leapOf_X11_leapNow : GoodIn wsX11_leapOf (wsV RX11 337 RX11 yX11_leapNow wsX11_leapNow) := goodIn_app (qag qRT [2304, 2305, 2306, 5] rfl (by decide +kernel)) ggX11_leapOf_X11_leapNow
set_option maxRecDepth 20000 in
theorem ggX11_leapBy_X11_isCaught : GoodIn wsX11_leapBy wsX11_isCaught := qaf qqk (by decide +kernel) qnk
set_option maxRecDepth 20000 in
theorem gX11_leapBy_X11_isCaught : GoodIn wsX11_leapBy (wsV RX11 340 RX11 yX11_isCaught wsX11_isCaught) := goodIn_app (qag qqk [2190, 2191, 2192, 5] rfl (by decide +kernel)) ggX11_leapBy_X11_isCaught
set_option maxRecDepth 20000 in
theorem ggX11_leapBy_X11_owes : GoodIn wsX11_leapBy wsX11_owes := qaf qqk (by decide +kernel) qaLu
set_option maxRecDepth 20000 in
theorem gX11_leapBy_X11_owes : GoodIn wsX11_leapBy (wsV RX11 343 RX11 yX11_owes wsX11_owes) := goodIn_app (qag qqk [2245, 2246, 2247, 5] rfl (by decide +kernel)) ggX11_leapBy_X11_owes
set_option maxRecDepth 20000 in
theorem ggX11_leapBy_X11_isOwed : GoodIn wsX11_leapBy wsX11_isOwed := qaf qqk (by decide +kernel) qSU
set_option maxRecDepth 20000 in
theorem gX11_leapBy_X11_isOwed : GoodIn wsX11_leapBy (wsV RX11 345 RX11 yX11_isOwed wsX11_isOwed) := goodIn_app (qag qqk [2249, 2250, 2251, 5] rfl (by decide +kernel)) ggX11_leapBy_X11_isOwed
set_option maxRecDepth 20000 in
theorem ggX11_leapBy_X11_sitIn : GoodIn wsX11_leapBy wsX11_sitIn := qaf qqk (by decide +kernel) q8Q
set_option maxRecDepth 20000 in
theorem gX11_leapBy_X11_sitIn : GoodIn wsX11_leapBy (wsV RX11 348 RX11 yX11_sitIn wsX11_sitIn) := goodIn_app (qag qqk [2253, 2254, 2255, 5] rfl (by decide +kernel)) ggX11_leapBy_X11_sitIn
set_option maxRecDepth 20000 in
theorem ggX11_leapBy_X11_ones : GoodIn wsX11_leapBy wsX11_ones := qaf qqk (by decide +kernel) qajF
set_option maxRecDepth 20000 in
theorem gX11_leapBy_X11_ones : GoodIn wsX11_leapBy (va_wsS RX11 351 yX11_ones wsX11_ones) := goodIn_app (qag qqk [2257, 2258, 5] rfl (by decide +kernel)) ggX11_leapBy_X11_ones
set_option maxRecDepth 20000 in
theorem ggX11_leapBy_X11_leapOf : GoodIn wsX11_leapBy wsX11_leapOf := qaf qqk (by decide +kernel) qaol
set_option maxRecDepth 20000 in
theorem gX11_leapBy_X11_leapOf : GoodIn wsX11_leapBy (wsV RX11 354 RX11 yX11_leapOf wsX11_leapOf) := goodIn_app (qag qqk [2260, 2261, 2262, 5] rfl (by decide +kernel)) ggX11_leapBy_X11_leapOf
set_option maxRecDepth 20000 in
theorem ggX11_canLeap_X11_isCaught : GoodIn wsX11_canLeap wsX11_isCaught := qaf qxk (by decide +kernel) qnk
set_option maxRecDepth 20000 in
theorem gX11_canLeap_X11_isCaught : GoodIn wsX11_canLeap (wsV RX11 340 RX11 yX11_isCaught wsX11_isCaught) := goodIn_app (qag qxk [2190, 2191, 2192, 5] rfl (by decide +kernel)) ggX11_canLeap_X11_isCaught
set_option maxRecDepth 20000 in
theorem ggX11_canLeap_X11_farOf : GoodIn wsX11_canLeap wsX11_farOf := qaf qxk (by decide +kernel) qFj
set_option maxRecDepth 20000 in
theorem gX11_canLeap_X11_farOf : GoodIn wsX11_canLeap (wsV RX11 358 RX11 yX11_farOf wsX11_farOf) := goodIn_app (qag qxk [2194, 2195, 2196, 5] rfl (by decide +kernel)) ggX11_canLeap_X11_farOf
set_option maxRecDepth 20000 in
theorem ggX11_canLeap_X11_leapBy : GoodIn wsX11_canLeap wsX11_leapBy := qaf qxk (by decide +kernel) q1s
set_option maxRecDepth 20000 in
theorem gX11_canLeap_X11_leapBy : GoodIn wsX11_canLeap (wsV RX11 361 RX11 yX11_leapBy wsX11_leapBy) := goodIn_app (qag qxk [2241, 2242, 2243, 5] rfl (by decide +kernel)) ggX11_canLeap_X11_leapBy
set_option maxRecDepth 20000 in
theorem ggX11_leapsTo_X11_canLeap : GoodIn wsX11_leapsTo wsX11_canLeap := qaf qOd (by decide +kernel) qW9
set_option maxRecDepth 20000 in
theorem gX11_leapsTo_X11_canLeap : GoodIn wsX11_leapsTo (wsV RX11 364 RX11 yX11_canLeap wsX11_canLeap) := goodIn_app (qag qOd [2186, 2187, 2188, 5] rfl (by decide +kernel)) ggX11_leapsTo_X11_canLeap
set_option maxRecDepth 20000 in
theorem ggX11_boxes_X11_isCaught : GoodIn wsX11_boxes wsX11_isCaught := qaf qX6 (by decide +kernel) qnk
set_option maxRecDepth 20000 in
theorem gX11_boxes_X11_isCaught : GoodIn wsX11_boxes (wsV RX11 340 RX11 yX11_isCaught wsX11_isCaught) := goodIn_app (qag qX6 [2190, 2191, 2192, 5] rfl (by decide +kernel)) ggX11_boxes_X11_isCaught
set_option maxRecDepth 20000 in
theorem ggX11_pays_X11_isCaught : GoodIn wsX11_pays wsX11_isCaught := qaf q4S (by decide +kernel) qnk
set_option maxRecDepth 20000 in
theorem gX11_pays_X11_isCaught : GoodIn wsX11_pays (wsV RX11 340 RX11 yX11_isCaught wsX11_isCaught) := goodIn_app (qag q4S [2190, 2191, 2192, 5] rfl (by decide +kernel)) ggX11_pays_X11_isCaught
set_option maxRecDepth 20000 in
theorem ggX11_wouldBeCaught_X11_isCaught : GoodIn wsX11_wouldBeCaught wsX11_isCaught := qaf qsY (by decide +kernel) qnk
set_option maxRecDepth 20000 in
theorem gX11_wouldBeCaught_X11_isCaught : GoodIn wsX11_wouldBeCaught (wsV RX11 340 RX11 yX11_isCaught wsX11_isCaught) := goodIn_app (qag qsY [2190, 2191, 2192, 5] rfl (by decide +kernel)) ggX11_wouldBeCaught_X11_isCaught
set_option maxRecDepth 20000 in
theorem ggX11_wouldBeCaught_X11_isSafe : GoodIn wsX11_wouldBeCaught wsX11_isSafe := qaf qsY (by decide +kernel) qSk
set_option maxRecDepth 20000 in
theorem gX11_wouldBeCaught_X11_isSafe : GoodIn wsX11_wouldBeCaught (wsV RX11 368 RX11 yX11_isSafe wsX11_isSafe) := goodIn_app (qag qsY [2375, 2376, 2377, 5] rfl (by decide +kernel)) ggX11_wouldBeCaught_X11_isSafe
set_option maxRecDepth 20000 in
theorem ggX11_strokes_X11_wouldBeCaught : GoodIn wsX11_strokes wsX11_wouldBeCaught := qaf qwW (by decide +kernel) qOZ
set_option maxRecDepth 20000 in
theorem gX11_strokes_X11_wouldBeCaught : GoodIn wsX11_strokes (wsV RX11 371 RX11 yX11_wouldBeCaught wsX11_wouldBeCaught) := goodIn_app (qag qwW [2371, 2372, 2373, 5] rfl (by decide +kernel)) ggX11_strokes_X11_wouldBeCaught
set_option maxRecDepth 20000 in
theorem ggX11_strokes_X11_isCaught : GoodIn wsX11_strokes wsX11_isCaught := qaf qwW (by decide +kernel) qnk
set_option maxRecDepth 20000 in
theorem gX11_strokes_X11_isCaught : GoodIn wsX11_strokes (wsV RX11 340 RX11 yX11_isCaught wsX11_isCaught) := goodIn_app (qag qwW [2190, 2191, 2192, 5] rfl (by decide +kernel)) ggX11_strokes_X11_isCaught
set_option maxRecDepth 20000 in
theorem ggX11_passes_X11_isCaught : GoodIn wsX11_passes wsX11_isCaught := qaf qCg (by decide +kernel) qnk
set_option maxRecDepth 20000 in
theorem gX11_passes_X11_isCaught : GoodIn wsX11_passes (wsV RX11 340 RX11 yX11_isCaught wsX11_isCaught) := goodIn_app (qag qCg [2190, 2191, 2192, 5] rfl (by decide +kernel)) ggX11_passes_X11_isCaught
set_option maxRecDepth 20000 in
theorem ggX11_passes_X11_strokes : GoodIn wsX11_passes wsX11_strokes := qaf qCg (by decide +kernel) qaPC
set_option maxRecDepth 20000 in
theorem gX11_passes_X11_strokes : GoodIn wsX11_passes (wsV RX11 374 RX11 yX11_strokes wsX11_strokes) := goodIn_app (qag qCg [2327, 2368, 2369, 5] rfl (by decide +kernel)) ggX11_passes_X11_strokes
set_option maxRecDepth 20000 in
theorem ggX11_isDone_X11_leapsTo : GoodIn wsX11_isDone wsX11_leapsTo := qaf qvq (by decide +kernel) qaeP
set_option maxRecDepth 20000 in
theorem gX11_isDone_X11_leapsTo : GoodIn wsX11_isDone (wsV RX11 377 RX11 yX11_leapsTo wsX11_leapsTo) := goodIn_app (qag qvq [2182, 2183, 2184, 5] rfl (by decide +kernel)) ggX11_isDone_X11_leapsTo
set_option maxRecDepth 20000 in
theorem ggX11_isDone_X11_boxes : GoodIn wsX11_isDone wsX11_boxes := qaf qvq (by decide +kernel) qaAx
set_option maxRecDepth 20000 in
theorem gX11_isDone_X11_boxes : GoodIn wsX11_isDone (wsV RX11 380 RX11 yX11_boxes wsX11_boxes) := goodIn_app (qag qvq [2315, 2316, 2317, 5] rfl (by decide +kernel)) ggX11_isDone_X11_boxes
set_option maxRecDepth 20000 in
theorem ggX11_isDone_X11_pays : GoodIn wsX11_isDone wsX11_pays := qaf qvq (by decide +kernel) qa1I
set_option maxRecDepth 20000 in
theorem gX11_isDone_X11_pays : GoodIn wsX11_isDone (wsV RX11 383 RX11 yX11_pays wsX11_pays) := goodIn_app (qag qvq [2319, 2320, 2321, 5] rfl (by decide +kernel)) ggX11_isDone_X11_pays
set_option maxRecDepth 20000 in
theorem ggX11_isDone_X11_passes : GoodIn wsX11_isDone wsX11_passes := qaf qvq (by decide +kernel) q4F
set_option maxRecDepth 20000 in
theorem gX11_isDone_X11_passes : GoodIn wsX11_isDone (wsV RX11 387 RX11 yX11_passes wsX11_passes) := goodIn_app (qag qvq [2323, 2324, 2325, 5] rfl (by decide +kernel)) ggX11_isDone_X11_passes
set_option maxRecDepth 20000 in
theorem ggX11_book_X11_may : GoodIn wsX11_book wsX11_may := qaf qgn (by decide +kernel) qoN
set_option maxRecDepth 20000 in
theorem gX11_book_X11_may : GoodIn wsX11_book (wsV RX11 213 RX11 yX11_may wsX11_may) := goodIn_app (qag qgn [1105, 1106, 1107, 5] rfl (by decide +kernel)) ggX11_book_X11_may
set_option maxRecDepth 20000 in
theorem ggX11_book_X11_begins : GoodIn wsX11_book wsX11_begins := qaf qgn (by decide +kernel) qRH
set_option maxRecDepth 20000 in
theorem gX11_book_X11_begins : GoodIn wsX11_book (wsV RX11 217 RX11 yX11_begins wsX11_begins) := goodIn_app (qag qgn [1109, 1110, 1111, 5] rfl (by decide +kernel)) ggX11_book_X11_begins
set_option maxRecDepth 20000 in
theorem ggX11_book_X11_fine : GoodIn wsX11_book wsX11_fine := qaf qgn (by decide +kernel) qsT
set_option maxRecDepth 20000 in
theorem gX11_book_X11_fine : GoodIn wsX11_book (wsV RX11 143 RX11 yX11_fine wsX11_fine) := goodIn_app (qag qgn [1155, 1156, 1157, 5] rfl (by decide +kernel)) ggX11_book_X11_fine
set_option maxRecDepth 20000 in
theorem ggX11_book_X11_isMore : GoodIn wsX11_book wsX11_isMore := qaf qgn (by decide +kernel) qR7
set_option maxRecDepth 20000 in
theorem gX11_book_X11_isMore : GoodIn wsX11_book (wsV RX11 221 RX11 yX11_isMore wsX11_isMore) := goodIn_app (qag qgn [1159, 1160, 1161, 5] rfl (by decide +kernel)) ggX11_book_X11_isMore
set_option maxRecDepth 20000 in
theorem ggX11_book_X11_here : GoodIn wsX11_book wsX11_here := qaf qgn (by decide +kernel) qAD
set_option maxRecDepth 20000 in
theorem gX11_book_X11_here : GoodIn wsX11_book (wsV RX11 126 RX11 yX11_here wsX11_here) := goodIn_app (qag qgn [1163, 1164, 1165, 5] rfl (by decide +kernel)) ggX11_book_X11_here
set_option maxRecDepth 20000 in
theorem ggX11_book_X11_readNumber : GoodIn wsX11_book wsX11_readNumber := qaf qgn (by decide +kernel) quK
set_option maxRecDepth 20000 in
theorem gX11_book_X11_readNumber : GoodIn wsX11_book (wsV RX11 194 RX11 yX11_readNumber wsX11_readNumber) := goodIn_app (qag qgn [1239, 1280, 1281, 5] rfl (by decide +kernel)) ggX11_book_X11_readNumber
set_option maxRecDepth 20000 in
theorem ggX11_book_X11_wrong : GoodIn wsX11_book wsX11_wrong := qaf qgn (by decide +kernel) qzR
set_option maxRecDepth 20000 in
theorem gX11_book_X11_wrong : GoodIn wsX11_book (wsV RX11 150 RX11 yX11_wrong wsX11_wrong) := goodIn_app (qag qgn [1222, 1223, 1224, 5] rfl (by decide +kernel)) ggX11_book_X11_wrong
set_option maxRecDepth 20000 in
theorem ggX11_book_X11_sign : GoodIn wsX11_book wsX11_sign := qaf qgn (by decide +kernel) qVg
set_option maxRecDepth 20000 in
theorem gX11_book_X11_sign : GoodIn wsX11_book (wsV RX11 239 RX11 yX11_sign wsX11_sign) := goodIn_app (qag qgn [1294, 1295, 1296, 5] rfl (by decide +kernel)) ggX11_book_X11_sign
set_option maxRecDepth 20000 in
theorem ggX11_book_X11_result : GoodIn wsX11_book wsX11_result := qaf qgn (by decide +kernel) qSy
set_option maxRecDepth 20000 in
theorem gX11_book_X11_result : GoodIn wsX11_book (wsV RX11 242 RX11 yX11_result wsX11_result) := goodIn_app (qag qgn [1298, 1299, 1300, 5] rfl (by decide +kernel)) ggX11_book_X11_result
set_option maxRecDepth 20000 in
theorem ggX11_book_X11_copies : GoodIn wsX11_book wsX11_copies := qaf qgn (by decide +kernel) qLe
set_option maxRecDepth 20000 in
theorem gX11_book_X11_copies : GoodIn wsX11_book (wsV RX11 175 RX11 yX11_copies wsX11_copies) := goodIn_app (qag qgn [527, 528, 529, 5] rfl (by decide +kernel)) ggX11_book_X11_copies
set_option maxRecDepth 20000 in
theorem ggX11_caughtNow_X11_isCaught : GoodIn wsX11_caughtNow wsX11_isCaught := qaf qIL (by decide +kernel) qnk
set_option maxRecDepth 20000 in
theorem gX11_caughtNow_X11_isCaught : GoodIn wsX11_caughtNow (wsV RX11 340 RX11 yX11_isCaught wsX11_isCaught) := goodIn_app (qag qIL [2190, 2191, 2192, 5] rfl (by decide +kernel)) ggX11_caughtNow_X11_isCaught
set_option maxRecDepth 20000 in
theorem ggX11_bitsTold_X11_wouldBeCaught : GoodIn wsX11_bitsTold wsX11_wouldBeCaught := qaf qDU (by decide +kernel) qOZ
set_option maxRecDepth 20000 in
theorem gX11_bitsTold_X11_wouldBeCaught : GoodIn wsX11_bitsTold (wsV RX11 371 RX11 yX11_wouldBeCaught wsX11_wouldBeCaught) := goodIn_app (qag qDU [2371, 2372, 2373, 5] rfl (by decide +kernel)) ggX11_bitsTold_X11_wouldBeCaught
set_option maxRecDepth 20000 in
theorem ggX11_safeForms_X11_isSafe : GoodIn wsX11_safeForms wsX11_isSafe := qaf qHa (by decide +kernel) qSk
set_option maxRecDepth 20000 in
theorem gX11_safeForms_X11_isSafe : GoodIn wsX11_safeForms (wsV RX11 368 RX11 yX11_isSafe wsX11_isSafe) := goodIn_app (qag qHa [2375, 2376, 2377, 5] rfl (by decide +kernel)) ggX11_safeForms_X11_isSafe
set_option maxRecDepth 20000 in
theorem ggX11_told_X11_within : GoodIn wsX11_told wsX11_within := qaf qny (by decide +kernel) qix
set_option maxRecDepth 20000 in
theorem gX11_told_X11_within : GoodIn wsX11_told (va_wsS RX11 390 yX11_within wsX11_within) := goodIn_app (qag qny [2577, 2578, 5] rfl (by decide +kernel)) ggX11_told_X11_within
set_option maxRecDepth 20000 in
theorem ggX11_told_X11_may : GoodIn wsX11_told wsX11_may := qaf qny (by decide +kernel) qoN
set_option maxRecDepth 20000 in
theorem gX11_told_X11_may : GoodIn wsX11_told (wsV RX11 213 RX11 yX11_may wsX11_may) := goodIn_app (qag qny [1105, 1106, 1107, 5] rfl (by decide +kernel)) ggX11_told_X11_may
