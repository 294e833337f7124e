set_option maxRecDepth 20000 in
theorem ggX11_told_X11_take : GoodIn wsX11_told wsX11_take := qaf qny (by decide +kernel) qta
set_option maxRecDepth 20000 in
theorem gX11_told_X11_take : GoodIn wsX11_told (wsV RX11 316 RX11 yX11_take wsX11_take) := goodIn_app (qag qny [2130, 2131, 2132, 5] rfl (by decide +kernel)) ggX11_told_X11_take
set_option maxRecDepth 20000 in
theorem ggX11_told_X11_bitsTold : GoodIn wsX11_told wsX11_bitsTold := qaf qny (by decide +kernel) qaHl
set_option maxRecDepth 20000 in
theorem gX11_told_X11_bitsTold : GoodIn wsX11_told (wsV RX11 393 RX11 yX11_bitsTold wsX11_bitsTold) := goodIn_app (qag qny [2580, 2581, 2582, 5] rfl (by decide +kernel)) ggX11_told_X11_bitsTold
set_option maxRecDepth 20000 in
theorem ggX11_told_X11_caughtNow : GoodIn wsX11_told wsX11_caughtNow := qaf qny (by decide +kernel) qI2
set_option maxRecDepth 20000 in
theorem gX11_told_X11_caughtNow : GoodIn wsX11_told (wsV RX11 396 RX11 yX11_caughtNow wsX11_caughtNow) := goodIn_app (qag qny [2624, 2625, 2626, 5] rfl (by decide +kernel)) ggX11_told_X11_caughtNow
set_option maxRecDepth 20000 in
theorem ggX11_told_X11_safeForms : GoodIn wsX11_told wsX11_safeForms := qaf qny (by decide +kernel) q2y
set_option maxRecDepth 20000 in
theorem gX11_told_X11_safeForms : GoodIn wsX11_told (wsV RX11 399 RX11 yX11_safeForms wsX11_safeForms) := goodIn_app (qag qny [2628, 2629, 2630, 5] rfl (by decide +kernel)) ggX11_told_X11_safeForms
set_option maxRecDepth 20000 in
theorem ggX11_told_X11_debtsNow : GoodIn wsX11_told wsX11_debtsNow := qaf qny (by decide +kernel) q7w
set_option maxRecDepth 20000 in
theorem gX11_told_X11_debtsNow : GoodIn wsX11_told (wsV RX11 402 RX11 yX11_debtsNow wsX11_debtsNow) := goodIn_app (qag qny [2632, 2633, 2634, 5] rfl (by decide +kernel)) ggX11_told_X11_debtsNow
set_option maxRecDepth 20000 in
theorem ggX11_isForm_X11_within : GoodIn wsX11_isForm wsX11_within := qaf qGb (by decide +kernel) qix
set_option maxRecDepth 20000 in
theorem gX11_isForm_X11_within : GoodIn wsX11_isForm (va_wsS RX11 390 yX11_within wsX11_within) := goodIn_app (qag qGb [2577, 2578, 5] rfl (by decide +kernel)) ggX11_isForm_X11_within
set_option maxRecDepth 20000 in
theorem ggX11_isForm_X11_may : GoodIn wsX11_isForm wsX11_may := qaf qGb (by decide +kernel) qoN
set_option maxRecDepth 20000 in
theorem gX11_isForm_X11_may : GoodIn wsX11_isForm (wsV RX11 213 RX11 yX11_may wsX11_may) := goodIn_app (qag qGb [1105, 1106, 1107, 5] rfl (by decide +kernel)) ggX11_isForm_X11_may
set_option maxRecDepth 20000 in
theorem ggX11_isHare_X11_within : GoodIn wsX11_isHare wsX11_within := qaf qGr (by decide +kernel) qix
set_option maxRecDepth 20000 in
theorem gX11_isHare_X11_within : GoodIn wsX11_isHare (va_wsS RX11 390 yX11_within wsX11_within) := goodIn_app (qag qGr [2577, 2578, 5] rfl (by decide +kernel)) ggX11_isHare_X11_within
set_option maxRecDepth 20000 in
theorem ggX11_isHare_X11_may : GoodIn wsX11_isHare wsX11_may := qaf qGr (by decide +kernel) qoN
set_option maxRecDepth 20000 in
theorem gX11_isHare_X11_may : GoodIn wsX11_isHare (wsV RX11 213 RX11 yX11_may wsX11_may) := goodIn_app (qag qGr [1105, 1106, 1107, 5] rfl (by decide +kernel)) ggX11_isHare_X11_may
set_option maxRecDepth 20000 in
theorem ggX11_form_X11_isForm : GoodIn wsX11_form wsX11_isForm := qaf qtl (by decide +kernel) qK9
set_option maxRecDepth 20000 in
theorem gX11_form_X11_isForm : GoodIn wsX11_form (wsV RX11 405 RX11 yX11_isForm wsX11_isForm) := goodIn_app (qag qtl [2699, 2700, 2701, 5] rfl (by decide +kernel)) ggX11_form_X11_isForm
set_option maxRecDepth 20000 in
theorem ggX11_form_X11_within : GoodIn wsX11_form wsX11_within := qaf qtl (by decide +kernel) qix
set_option maxRecDepth 20000 in
theorem gX11_form_X11_within : GoodIn wsX11_form (va_wsS RX11 390 yX11_within wsX11_within) := goodIn_app (qag qtl [2577, 2578, 5] rfl (by decide +kernel)) ggX11_form_X11_within
set_option maxRecDepth 20000 in
theorem ggX11_form_X11_may : GoodIn wsX11_form wsX11_may := qaf qtl (by decide +kernel) qoN
set_option maxRecDepth 20000 in
theorem gX11_form_X11_may : GoodIn wsX11_form (wsV RX11 213 RX11 yX11_may wsX11_may) := goodIn_app (qag qtl [1105, 1106, 1107, 5] rfl (by decide +kernel)) ggX11_form_X11_may
set_option maxRecDepth 20000 in
theorem ggX11_form_X11_take : GoodIn wsX11_form wsX11_take := qaf qtl (by decide +kernel) qta
set_option maxRecDepth 20000 in
theorem gX11_form_X11_take : GoodIn wsX11_form (wsV RX11 316 RX11 yX11_take wsX11_take) := goodIn_app (qag qtl [2130, 2131, 2132, 5] rfl (by decide +kernel)) ggX11_form_X11_take
set_option maxRecDepth 20000 in
theorem ggX11_form_X11_isSafe : GoodIn wsX11_form wsX11_isSafe := qaf qtl (by decide +kernel) qSk
set_option maxRecDepth 20000 in
theorem gX11_form_X11_isSafe : GoodIn wsX11_form (wsV RX11 368 RX11 yX11_isSafe wsX11_isSafe) := goodIn_app (qag qtl [2375, 2376, 2377, 5] rfl (by decide +kernel)) ggX11_form_X11_isSafe
set_option maxRecDepth 20000 in
theorem ggX11_form_X11_sitIn : GoodIn wsX11_form wsX11_sitIn := qaf qtl (by decide +kernel) q8Q
set_option maxRecDepth 20000 in
theorem gX11_form_X11_sitIn : GoodIn wsX11_form (wsV RX11 348 RX11 yX11_sitIn wsX11_sitIn) := goodIn_app (qag qtl [2253, 2254, 2255, 5] rfl (by decide +kernel)) ggX11_form_X11_sitIn
set_option maxRecDepth 20000 in
theorem ggX11_hare_X11_isHare : GoodIn wsX11_hare wsX11_isHare := qaf qqq (by decide +kernel) qxn
set_option maxRecDepth 20000 in
theorem gX11_hare_X11_isHare : GoodIn wsX11_hare (wsV RX11 408 RX11 yX11_isHare wsX11_isHare) := goodIn_app (qag qqq [2767, 2768, 2769, 5] rfl (by decide +kernel)) ggX11_hare_X11_isHare
set_option maxRecDepth 20000 in
theorem ggX11_hare_X11_within : GoodIn wsX11_hare wsX11_within := qaf qqq (by decide +kernel) qix
set_option maxRecDepth 20000 in
theorem gX11_hare_X11_within : GoodIn wsX11_hare (va_wsS RX11 390 yX11_within wsX11_within) := goodIn_app (qag qqq [2577, 2578, 5] rfl (by decide +kernel)) ggX11_hare_X11_within
set_option maxRecDepth 20000 in
theorem ggX11_hare_X11_may : GoodIn wsX11_hare wsX11_may := qaf qqq (by decide +kernel) qoN
set_option maxRecDepth 20000 in
theorem gX11_hare_X11_may : GoodIn wsX11_hare (wsV RX11 213 RX11 yX11_may wsX11_may) := goodIn_app (qag qqq [1105, 1106, 1107, 5] rfl (by decide +kernel)) ggX11_hare_X11_may
set_option maxRecDepth 20000 in
theorem ggX11_hare_X11_take : GoodIn wsX11_hare wsX11_take := qaf qqq (by decide +kernel) qta
set_option maxRecDepth 20000 in
theorem gX11_hare_X11_take : GoodIn wsX11_hare (wsV RX11 316 RX11 yX11_take wsX11_take) := goodIn_app (qag qqq [2130, 2131, 2132, 5] rfl (by decide +kernel)) ggX11_hare_X11_take
set_option maxRecDepth 20000 in
theorem ggX11_hare_X11_owes : GoodIn wsX11_hare wsX11_owes := qaf qqq (by decide +kernel) qaLu
set_option maxRecDepth 20000 in
theorem gX11_hare_X11_owes : GoodIn wsX11_hare (wsV RX11 343 RX11 yX11_owes wsX11_owes) := goodIn_app (qag qqq [2245, 2246, 2247, 5] rfl (by decide +kernel)) ggX11_hare_X11_owes
set_option maxRecDepth 20000 in
theorem ggX11_hare_X11_isOwed : GoodIn wsX11_hare wsX11_isOwed := qaf qqq (by decide +kernel) qSU
set_option maxRecDepth 20000 in
theorem gX11_hare_X11_isOwed : GoodIn wsX11_hare (wsV RX11 345 RX11 yX11_isOwed wsX11_isOwed) := goodIn_app (qag qqq [2249, 2250, 2251, 5] rfl (by decide +kernel)) ggX11_hare_X11_isOwed
set_option maxRecDepth 20000 in
theorem ggX11_hare_X11_leapBy : GoodIn wsX11_hare wsX11_leapBy := qaf qqq (by decide +kernel) q1s
set_option maxRecDepth 20000 in
theorem gX11_hare_X11_leapBy : GoodIn wsX11_hare (wsV RX11 361 RX11 yX11_leapBy wsX11_leapBy) := goodIn_app (qag qqq [2241, 2242, 2243, 5] rfl (by decide +kernel)) ggX11_hare_X11_leapBy
set_option maxRecDepth 20000 in
theorem ggX11_fox_X11_within : GoodIn wsX11_fox wsX11_within := qaf qLf (by decide +kernel) qix
set_option maxRecDepth 20000 in
theorem gX11_fox_X11_within : GoodIn wsX11_fox (va_wsS RX11 390 yX11_within wsX11_within) := goodIn_app (qag qLf [2577, 2578, 5] rfl (by decide +kernel)) ggX11_fox_X11_within
set_option maxRecDepth 20000 in
theorem ggX11_fox_X11_may : GoodIn wsX11_fox wsX11_may := qaf qLf (by decide +kernel) qoN
set_option maxRecDepth 20000 in
theorem gX11_fox_X11_may : GoodIn wsX11_fox (wsV RX11 213 RX11 yX11_may wsX11_may) := goodIn_app (qag qLf [1105, 1106, 1107, 5] rfl (by decide +kernel)) ggX11_fox_X11_may
set_option maxRecDepth 20000 in
theorem ggX11_debt_X11_isHare : GoodIn wsX11_debt wsX11_isHare := qaf qVf (by decide +kernel) qxn
set_option maxRecDepth 20000 in
theorem gX11_debt_X11_isHare : GoodIn wsX11_debt (wsV RX11 408 RX11 yX11_isHare wsX11_isHare) := goodIn_app (qag qVf [2767, 2768, 2769, 5] rfl (by decide +kernel)) ggX11_debt_X11_isHare
set_option maxRecDepth 20000 in
theorem ggX11_far_X11_isForm : GoodIn wsX11_far wsX11_isForm := qaf qUP (by decide +kernel) qK9
set_option maxRecDepth 20000 in
theorem gX11_far_X11_isForm : GoodIn wsX11_far (wsV RX11 405 RX11 yX11_isForm wsX11_isForm) := goodIn_app (qag qUP [2699, 2700, 2701, 5] rfl (by decide +kernel)) ggX11_far_X11_isForm
set_option maxRecDepth 20000 in
theorem ggX11_far_X11_farOf : GoodIn wsX11_far wsX11_farOf := qaf qUP (by decide +kernel) qFj
set_option maxRecDepth 20000 in
theorem gX11_far_X11_farOf : GoodIn wsX11_far (wsV RX11 358 RX11 yX11_farOf wsX11_farOf) := goodIn_app (qag qUP [2194, 2195, 2196, 5] rfl (by decide +kernel)) ggX11_far_X11_farOf
set_option maxRecDepth 20000 in
theorem ggX11_would_X11_within : GoodIn wsX11_would wsX11_within := qaf qBD (by decide +kernel) qix
set_option maxRecDepth 20000 in
theorem gX11_would_X11_within : GoodIn wsX11_would (va_wsS RX11 390 yX11_within wsX11_within) := goodIn_app (qag qBD [2577, 2578, 5] rfl (by decide +kernel)) ggX11_would_X11_within
set_option maxRecDepth 20000 in
theorem ggX11_would_X11_may : GoodIn wsX11_would wsX11_may := qaf qBD (by decide +kernel) qoN
set_option maxRecDepth 20000 in
theorem gX11_would_X11_may : GoodIn wsX11_would (wsV RX11 213 RX11 yX11_may wsX11_may) := goodIn_app (qag qBD [1105, 1106, 1107, 5] rfl (by decide +kernel)) ggX11_would_X11_may
set_option maxRecDepth 20000 in
theorem ggX11_would_X11_leapOf : GoodIn wsX11_would wsX11_leapOf := qaf qBD (by decide +kernel) qaol
set_option maxRecDepth 20000 in
theorem gX11_would_X11_leapOf : GoodIn wsX11_would (wsV RX11 354 RX11 yX11_leapOf wsX11_leapOf) := goodIn_app (qag qBD [2260, 2261, 2262, 5] rfl (by decide +kernel)) ggX11_would_X11_leapOf
set_option maxRecDepth 20000 in
theorem ggX11_can_X11_isHare : GoodIn wsX11_can wsX11_isHare := qaf qDV (by decide +kernel) qxn
set_option maxRecDepth 20000 in
theorem gX11_can_X11_isHare : GoodIn wsX11_can (wsV RX11 408 RX11 yX11_isHare wsX11_isHare) := goodIn_app (qag qDV [2767, 2768, 2769, 5] rfl (by decide +kernel)) ggX11_can_X11_isHare
set_option maxRecDepth 20000 in
theorem ggX11_can_X11_isForm : GoodIn wsX11_can wsX11_isForm := qaf qDV (by decide +kernel) qK9
set_option maxRecDepth 20000 in
theorem gX11_can_X11_isForm : GoodIn wsX11_can (wsV RX11 405 RX11 yX11_isForm wsX11_isForm) := goodIn_app (qag qDV [2699, 2700, 2701, 5] rfl (by decide +kernel)) ggX11_can_X11_isForm
set_option maxRecDepth 20000 in
theorem ggX11_can_X11_take : GoodIn wsX11_can wsX11_take := qaf qDV (by decide +kernel) qta
set_option maxRecDepth 20000 in
theorem gX11_can_X11_take : GoodIn wsX11_can (wsV RX11 316 RX11 yX11_take wsX11_take) := goodIn_app (qag qDV [2130, 2131, 2132, 5] rfl (by decide +kernel)) ggX11_can_X11_take
set_option maxRecDepth 20000 in
theorem ggX11_can_X11_canLeap : GoodIn wsX11_can wsX11_canLeap := qaf qDV (by decide +kernel) qW9
set_option maxRecDepth 20000 in
theorem gX11_can_X11_canLeap : GoodIn wsX11_can (wsV RX11 364 RX11 yX11_canLeap wsX11_canLeap) := goodIn_app (qag qDV [2186, 2187, 2188, 5] rfl (by decide +kernel)) ggX11_can_X11_canLeap
set_option maxRecDepth 20000 in
theorem ggX11_rangeOf_X11_canLeap : GoodIn wsX11_rangeOf wsX11_canLeap := qaf qOk (by decide +kernel) qW9
set_option maxRecDepth 20000 in
theorem gX11_rangeOf_X11_canLeap : GoodIn wsX11_rangeOf (wsV RX11 364 RX11 yX11_canLeap wsX11_canLeap) := goodIn_app (qag qOk [2186, 2187, 2188, 5] rfl (by decide +kernel)) ggX11_rangeOf_X11_canLeap
set_option maxRecDepth 20000 in
theorem ggX11_range_X11_isHare : GoodIn wsX11_range wsX11_isHare := qaf qBM (by decide +kernel) qxn
set_option maxRecDepth 20000 in
theorem gX11_range_X11_isHare : GoodIn wsX11_range (wsV RX11 408 RX11 yX11_isHare wsX11_isHare) := goodIn_app (qag qBM [2767, 2768, 2769, 5] rfl (by decide +kernel)) ggX11_range_X11_isHare
set_option maxRecDepth 20000 in
theorem ggX11_range_X11_take : GoodIn wsX11_range wsX11_take := qaf qBM (by decide +kernel) qta
set_option maxRecDepth 20000 in
theorem gX11_range_X11_take : GoodIn wsX11_range (wsV RX11 316 RX11 yX11_take wsX11_take) := goodIn_app (qag qBM [2130, 2131, 2132, 5] rfl (by decide +kernel)) ggX11_range_X11_take
set_option maxRecDepth 20000 in
theorem ggX11_range_X11_rangeOf : GoodIn wsX11_range wsX11_rangeOf := qaf qBM (by decide +kernel) qahQ
set_option maxRecDepth 20000 in
theorem gX11_range_X11_rangeOf : GoodIn wsX11_range (wsV RX11 411 RX11 yX11_rangeOf wsX11_rangeOf) := goodIn_app (qag qBM [3203, 3204, 3205, 5] rfl (by decide +kernel)) ggX11_range_X11_rangeOf
set_option maxRecDepth 20000 in
theorem ggX11_ahead_X11_within : GoodIn wsX11_ahead wsX11_within := qaf qq1 (by decide +kernel) qix
set_option maxRecDepth 20000 in
theorem gX11_ahead_X11_within : GoodIn wsX11_ahead (va_wsS RX11 390 yX11_within wsX11_within) := goodIn_app (qag qq1 [2577, 2578, 5] rfl (by decide +kernel)) ggX11_ahead_X11_within
set_option maxRecDepth 20000 in
theorem ggX11_ahead_X11_may : GoodIn wsX11_ahead wsX11_may := qaf qq1 (by decide +kernel) qoN
set_option maxRecDepth 20000 in
theorem gX11_ahead_X11_may : GoodIn wsX11_ahead (wsV RX11 213 RX11 yX11_may wsX11_may) := goodIn_app (qag qq1 [1105, 1106, 1107, 5] rfl (by decide +kernel)) ggX11_ahead_X11_may
set_option maxRecDepth 20000 in
theorem ggX11_ahead_X11_take : GoodIn wsX11_ahead wsX11_take := qaf qq1 (by decide +kernel) qta
set_option maxRecDepth 20000 in
theorem gX11_ahead_X11_take : GoodIn wsX11_ahead (wsV RX11 316 RX11 yX11_take wsX11_take) := goodIn_app (qag qq1 [2130, 2131, 2132, 5] rfl (by decide +kernel)) ggX11_ahead_X11_take
set_option maxRecDepth 20000 in
theorem ggX11_ahead_X11_passes : GoodIn wsX11_ahead wsX11_passes := qaf qq1 (by decide +kernel) q4F
set_option maxRecDepth 20000 in
theorem gX11_ahead_X11_passes : GoodIn wsX11_ahead (wsV RX11 387 RX11 yX11_passes wsX11_passes) := goodIn_app (qag qq1 [2323, 2324, 2325, 5] rfl (by decide +kernel)) ggX11_ahead_X11_passes
set_option maxRecDepth 20000 in
theorem ggX11_ahead_X11_caughtNow : GoodIn wsX11_ahead wsX11_caughtNow := qaf qq1 (by decide +kernel) qI2
set_option maxRecDepth 20000 in
theorem gX11_ahead_X11_caughtNow : GoodIn wsX11_ahead (wsV RX11 396 RX11 yX11_caughtNow wsX11_caughtNow) := goodIn_app (qag qq1 [2624, 2625, 2626, 5] rfl (by decide +kernel)) ggX11_ahead_X11_caughtNow
set_option maxRecDepth 20000 in
theorem ggX11_ahead_X11_debtsNow : GoodIn wsX11_ahead wsX11_debtsNow := qaf qq1 (by decide +kernel) q7w
set_option maxRecDepth 20000 in
theorem gX11_ahead_X11_debtsNow : GoodIn wsX11_ahead (wsV RX11 402 RX11 yX11_debtsNow wsX11_debtsNow) := goodIn_app (qag qq1 [2632, 2633, 2634, 5] rfl (by decide +kernel)) ggX11_ahead_X11_debtsNow
set_option maxRecDepth 20000 in
theorem ggX11_hops_X11_isHare : GoodIn wsX11_hops wsX11_isHare := qaf qsq (by decide +kernel) qxn
set_option maxRecDepth 20000 in
theorem gX11_hops_X11_isHare : GoodIn wsX11_hops (wsV RX11 408 RX11 yX11_isHare wsX11_isHare) := goodIn_app (qag qsq [2767, 2768, 2769, 5] rfl (by decide +kernel)) ggX11_hops_X11_isHare
set_option maxRecDepth 20000 in
theorem ggX11_hops_X11_isForm : GoodIn wsX11_hops wsX11_isForm := qaf qsq (by decide +kernel) qK9
set_option maxRecDepth 20000 in
theorem gX11_hops_X11_isForm : GoodIn wsX11_hops (wsV RX11 405 RX11 yX11_isForm wsX11_isForm) := goodIn_app (qag qsq [2699, 2700, 2701, 5] rfl (by decide +kernel)) ggX11_hops_X11_isForm
set_option maxRecDepth 20000 in
theorem ggX11_hops_X11_take : GoodIn wsX11_hops wsX11_take := qaf qsq (by decide +kernel) qta
set_option maxRecDepth 20000 in
theorem gX11_hops_X11_take : GoodIn wsX11_hops (wsV RX11 316 RX11 yX11_take wsX11_take) := goodIn_app (qag qsq [2130, 2131, 2132, 5] rfl (by decide +kernel)) ggX11_hops_X11_take
set_option maxRecDepth 20000 in
theorem ggX11_hops_X11_isCaught : GoodIn wsX11_hops wsX11_isCaught := qaf qsq (by decide +kernel) qnk
set_option maxRecDepth 20000 in
theorem gX11_hops_X11_isCaught : GoodIn wsX11_hops (wsV RX11 340 RX11 yX11_isCaught wsX11_isCaught) := goodIn_app (qag qsq [2190, 2191, 2192, 5] rfl (by decide +kernel)) ggX11_hops_X11_isCaught
set_option maxRecDepth 20000 in
theorem ggX11_hops_X11_leapBy : GoodIn wsX11_hops wsX11_leapBy := qaf qsq (by decide +kernel) q1s
set_option maxRecDepth 20000 in
theorem gX11_hops_X11_leapBy : GoodIn wsX11_hops (wsV RX11 361 RX11 yX11_leapBy wsX11_leapBy) := goodIn_app (qag qsq [2241, 2242, 2243, 5] rfl (by decide +kernel)) ggX11_hops_X11_leapBy
set_option maxRecDepth 20000 in
theorem ggX11_hops_X11_farOf : GoodIn wsX11_hops wsX11_farOf := qaf qsq (by decide +kernel) qFj
set_option maxRecDepth 20000 in
theorem gX11_hops_X11_farOf : GoodIn wsX11_hops (wsV RX11 358 RX11 yX11_farOf wsX11_farOf) := goodIn_app (qag qsq [2194, 2195, 2196, 5] rfl (by decide +kernel)) ggX11_hops_X11_farOf
set_option maxRecDepth 20000 in
theorem ggX11_findSeats_X11_take : GoodIn wsX11_findSeats wsX11_take := qaf qio (by decide +kernel) qta
set_option maxRecDepth 20000 in
theorem gX11_findSeats_X11_take : GoodIn wsX11_findSeats (wsV RX11 316 RX11 yX11_take wsX11_take) := goodIn_app (qag qio [2130, 2131, 2132, 5] rfl (by decide +kernel)) ggX11_findSeats_X11_take
set_option maxRecDepth 20000 in
theorem ggX11_findSeats_X11_isCaught : GoodIn wsX11_findSeats wsX11_isCaught := qaf qio (by decide +kernel) qnk
set_option maxRecDepth 20000 in
theorem gX11_findSeats_X11_isCaught : GoodIn wsX11_findSeats (wsV RX11 340 RX11 yX11_isCaught wsX11_isCaught) := goodIn_app (qag qio [2190, 2191, 2192, 5] rfl (by decide +kernel)) ggX11_findSeats_X11_isCaught
set_option maxRecDepth 20000 in
theorem ggX11_findSeats_X11_rangeOf : GoodIn wsX11_findSeats wsX11_rangeOf := qaf qio (by decide +kernel) qahQ
set_option maxRecDepth 20000 in
theorem gX11_findSeats_X11_rangeOf : GoodIn wsX11_findSeats (wsV RX11 411 RX11 yX11_rangeOf wsX11_rangeOf) := goodIn_app (qag qio [3203, 3204, 3205, 5] rfl (by decide +kernel)) ggX11_findSeats_X11_rangeOf
set_option maxRecDepth 20000 in
theorem ggX11_findSeats_X11_safeForms : GoodIn wsX11_findSeats wsX11_safeForms := qaf qio (by decide +kernel) q2y
set_option maxRecDepth 20000 in
theorem gX11_findSeats_X11_safeForms : GoodIn wsX11_findSeats (wsV RX11 399 RX11 yX11_safeForms wsX11_safeForms) := goodIn_app (qag qio [2628, 2629, 2630, 5] rfl (by decide +kernel)) ggX11_findSeats_X11_safeForms
set_option maxRecDepth 20000 in
theorem ggX11_seats_X11_findSeats : GoodIn wsX11_seats wsX11_findSeats := qaf qOV (by decide +kernel) q4l
set_option maxRecDepth 20000 in
theorem gX11_seats_X11_findSeats : GoodIn wsX11_seats (wsV RX11 414 RX11 yX11_findSeats wsX11_findSeats) := goodIn_app (qag qOV [3159, 3200, 3201, 5] rfl (by decide +kernel)) ggX11_seats_X11_findSeats
set_option maxRecDepth 20000 in
theorem ggX11_seat_X11_isHare : GoodIn wsX11_seat wsX11_isHare := qaf qJz (by decide +kernel) qxn
set_option maxRecDepth 20000 in
theorem gX11_seat_X11_isHare : GoodIn wsX11_seat (wsV RX11 408 RX11 yX11_isHare wsX11_isHare) := goodIn_app (qag qJz [2767, 2768, 2769, 5] rfl (by decide +kernel)) ggX11_seat_X11_isHare
set_option maxRecDepth 20000 in
theorem ggX11_seat_X11_findSeats : GoodIn wsX11_seat wsX11_findSeats := qaf qJz (by decide +kernel) q4l
set_option maxRecDepth 20000 in
theorem gX11_seat_X11_findSeats : GoodIn wsX11_seat (wsV RX11 414 RX11 yX11_findSeats wsX11_findSeats) := goodIn_app (qag qJz [3159, 3200, 3201, 5] rfl (by decide +kernel)) ggX11_seat_X11_findSeats
set_option maxRecDepth 20000 in
theorem ggX11_layRing_X11_farOf : GoodIn wsX11_layRing wsX11_farOf := qaf qIz (by decide +kernel) qFj
set_option maxRecDepth 20000 in
theorem gX11_layRing_X11_farOf : GoodIn wsX11_layRing (wsV RX11 358 RX11 yX11_farOf wsX11_farOf) := goodIn_app (qag qIz [2194, 2195, 2196, 5] rfl (by decide +kernel)) ggX11_layRing_X11_farOf
set_option maxRecDepth 20000 in
theorem ggX11_ring_X11_layRing : GoodIn wsX11_ring wsX11_layRing := qaf qOr (by decide +kernel) qafP
set_option maxRecDepth 20000 in
theorem gX11_ring_X11_layRing : GoodIn wsX11_ring (wsV RX11 417 RX11 yX11_layRing wsX11_layRing) := goodIn_app (qag qOr [3337, 3338, 3339, 5] rfl (by decide +kernel)) ggX11_ring_X11_layRing
set_option maxRecDepth 20000 in
theorem ggX11_ringed_X11_may : GoodIn wsX11_ringed wsX11_may := qaf qvo (by decide +kernel) qoN
set_option maxRecDepth 20000 in
theorem gX11_ringed_X11_may : GoodIn wsX11_ringed (wsV RX11 213 RX11 yX11_may wsX11_may) := goodIn_app (qag qvo [1105, 1106, 1107, 5] rfl (by decide +kernel)) ggX11_ringed_X11_may
set_option maxRecDepth 20000 in
theorem ggX11_ringed_X11_layRing : GoodIn wsX11_ringed wsX11_layRing := qaf qvo (by decide +kernel) qafP
set_option maxRecDepth 20000 in
theorem gX11_ringed_X11_layRing : GoodIn wsX11_ringed (wsV RX11 417 RX11 yX11_layRing wsX11_layRing) := goodIn_app (qag qvo [3337, 3338, 3339, 5] rfl (by decide +kernel)) ggX11_ringed_X11_layRing
set_option maxRecDepth 20000 in
theorem ggX11_ringed_X11_farOf : GoodIn wsX11_ringed wsX11_farOf := qaf qvo (by decide +kernel) qFj
set_option maxRecDepth 20000 in
theorem gX11_ringed_X11_farOf : GoodIn wsX11_ringed (wsV RX11 358 RX11 yX11_farOf wsX11_farOf) := goodIn_app (qag qvo [2194, 2195, 2196, 5] rfl (by decide +kernel)) ggX11_ringed_X11_farOf
set_option maxRecDepth 20000 in
theorem ggX11_lastsIn_X11_lastsIn : GoodIn wsX11_lastsIn wsX11_lastsIn := qaf qxd (by decide +kernel) qaeK
set_option maxRecDepth 20000 in
theorem gX11_lastsIn_X11_lastsIn : GoodIn wsX11_lastsIn (wsV RX11 420 RX11 yX11_lastsIn wsX11_lastsIn) := goodIn_app (qag qxd [3413, 3414, 3415, 5] rfl (by decide +kernel)) ggX11_lastsIn_X11_lastsIn
set_option maxRecDepth 20000 in
theorem ggX11_bouts_X11_isHare : GoodIn wsX11_bouts wsX11_isHare := qaf quy (by decide +kernel) qxn
set_option maxRecDepth 20000 in
theorem gX11_bouts_X11_isHare : GoodIn wsX11_bouts (wsV RX11 408 RX11 yX11_isHare wsX11_isHare) := goodIn_app (qag quy [2767, 2768, 2769, 5] rfl (by decide +kernel)) ggX11_bouts_X11_isHare
set_option maxRecDepth 20000 in
theorem ggX11_bouts_X11_take : GoodIn wsX11_bouts wsX11_take := qaf quy (by decide +kernel) qta
set_option maxRecDepth 20000 in
theorem gX11_bouts_X11_take : GoodIn wsX11_bouts (wsV RX11 316 RX11 yX11_take wsX11_take) := goodIn_app (qag quy [2130, 2131, 2132, 5] rfl (by decide +kernel)) ggX11_bouts_X11_take
set_option maxRecDepth 20000 in
theorem ggX11_bouts_X11_caughtNow : GoodIn wsX11_bouts wsX11_caughtNow := qaf quy (by decide +kernel) qI2
set_option maxRecDepth 20000 in
theorem gX11_bouts_X11_caughtNow : GoodIn wsX11_bouts (wsV RX11 396 RX11 yX11_caughtNow wsX11_caughtNow) := goodIn_app (qag quy [2624, 2625, 2626, 5] rfl (by decide +kernel)) ggX11_bouts_X11_caughtNow
set_option maxRecDepth 20000 in
theorem ggX11_bouts_X11_lastsIn : GoodIn wsX11_bouts wsX11_lastsIn := qaf quy (by decide +kernel) qaeK
set_option maxRecDepth 20000 in
theorem gX11_bouts_X11_lastsIn : GoodIn wsX11_bouts (wsV RX11 420 RX11 yX11_lastsIn wsX11_lastsIn) := goodIn_app (qag quy [3413, 3414, 3415, 5] rfl (by decide +kernel)) ggX11_bouts_X11_lastsIn
set_option maxRecDepth 20000 in
theorem ggX11_sitsThen_X11_sitIn : GoodIn wsX11_sitsThen wsX11_sitIn := qaf qKQ (by decide +kernel) q8Q
set_option maxRecDepth 20000 in
theorem gX11_sitsThen_X11_sitIn : GoodIn wsX11_sitsThen (wsV RX11 348 RX11 yX11_sitIn wsX11_sitIn) := goodIn_app (qag qKQ [2253, 2254, 2255, 5] rfl (by decide +kernel)) ggX11_sitsThen_X11_sitIn
set_option maxRecDepth 20000 in
theorem ggX11_sitsThen_X11_ones : GoodIn wsX11_sitsThen wsX11_ones := qaf qKQ (by decide +kernel) qajF
set_option maxRecDepth 20000 in
theorem gX11_sitsThen_X11_ones : GoodIn wsX11_sitsThen (va_wsS RX11 351 yX11_ones wsX11_ones) := goodIn_app (qag qKQ [2257, 2258, 5] rfl (by decide +kernel)) ggX11_sitsThen_X11_ones
set_option maxRecDepth 20000 in
theorem ggX11_isFit_X11_isCaught : GoodIn wsX11_isFit wsX11_isCaught := qaf qFf (by decide +kernel) qnk
set_option maxRecDepth 20000 in
theorem gX11_isFit_X11_isCaught : GoodIn wsX11_isFit (wsV RX11 340 RX11 yX11_isCaught wsX11_isCaught) := goodIn_app (qag qFf [2190, 2191, 2192, 5] rfl (by decide +kernel)) ggX11_isFit_X11_isCaught
set_option maxRecDepth 20000 in
theorem ggX11_isFit_X11_sitsThen : GoodIn wsX11_isFit wsX11_sitsThen := qaf qFf (by decide +kernel) q7Y
set_option maxRecDepth 20000 in
theorem gX11_isFit_X11_sitsThen : GoodIn wsX11_isFit (wsV RX11 424 RX11 yX11_sitsThen wsX11_sitsThen) := goodIn_app (qag qFf [3586, 3587, 3588, 5] rfl (by decide +kernel)) ggX11_isFit_X11_sitsThen
set_option maxRecDepth 20000 in
theorem ggX11_fits_X11_within : GoodIn wsX11_fits wsX11_within := qaf qwB (by decide +kernel) qix
set_option maxRecDepth 20000 in
theorem gX11_fits_X11_within : GoodIn wsX11_fits (va_wsS RX11 390 yX11_within wsX11_within) := goodIn_app (qag qwB [2577, 2578, 5] rfl (by decide +kernel)) ggX11_fits_X11_within
set_option maxRecDepth 20000 in
theorem ggX11_fits_X11_may : GoodIn wsX11_fits wsX11_may := qaf qwB (by decide +kernel) qoN
set_option maxRecDepth 20000 in
theorem gX11_fits_X11_may : GoodIn wsX11_fits (wsV RX11 213 RX11 yX11_may wsX11_may) := goodIn_app (qag qwB [1105, 1106, 1107, 5] rfl (by decide +kernel)) ggX11_fits_X11_may
set_option maxRecDepth 20000 in
theorem ggX11_fits_X11_take : GoodIn wsX11_fits wsX11_take := qaf qwB (by decide +kernel) qta
set_option maxRecDepth 20000 in
theorem gX11_fits_X11_take : GoodIn wsX11_fits (wsV RX11 316 RX11 yX11_take wsX11_take) := goodIn_app (qag qwB [2130, 2131, 2132, 5] rfl (by decide +kernel)) ggX11_fits_X11_take
set_option maxRecDepth 20000 in
theorem ggX11_fits_X11_isFit : GoodIn wsX11_fits wsX11_isFit := qaf qwB (by decide +kernel) qaw5
set_option maxRecDepth 20000 in
theorem gX11_fits_X11_isFit : GoodIn wsX11_fits (wsV RX11 427 RX11 yX11_isFit wsX11_isFit) := goodIn_app (qag qwB [3542, 3543, 3584, 5] rfl (by decide +kernel)) ggX11_fits_X11_isFit
set_option maxRecDepth 20000 in
theorem ggX11_worstOf_X11_isFit : GoodIn wsX11_worstOf wsX11_isFit := qaf qw8 (by decide +kernel) qaw5
set_option maxRecDepth 20000 in
theorem gX11_worstOf_X11_isFit : GoodIn wsX11_worstOf (wsV RX11 427 RX11 yX11_isFit wsX11_isFit) := goodIn_app (qag qw8 [3542, 3543, 3584, 5] rfl (by decide +kernel)) ggX11_worstOf_X11_isFit
set_option maxRecDepth 20000 in
theorem ggX11_worstOf_X11_sitsThen : GoodIn wsX11_worstOf wsX11_sitsThen := qaf qw8 (by decide +kernel) q7Y
set_option maxRecDepth 20000 in
theorem gX11_worstOf_X11_sitsThen : GoodIn wsX11_worstOf (wsV RX11 424 RX11 yX11_sitsThen wsX11_sitsThen) := goodIn_app (qag qw8 [3586, 3587, 3588, 5] rfl (by decide +kernel)) ggX11_worstOf_X11_sitsThen
set_option maxRecDepth 20000 in
theorem ggX11_look_X11_within : GoodIn wsX11_look wsX11_within := qaf qwC (by decide +kernel) qix
set_option maxRecDepth 20000 in
theorem gX11_look_X11_within : GoodIn wsX11_look (va_wsS RX11 390 yX11_within wsX11_within) := goodIn_app (qag qwC [2577, 2578, 5] rfl (by decide +kernel)) ggX11_look_X11_within
set_option maxRecDepth 20000 in
theorem ggX11_look_X11_may : GoodIn wsX11_look wsX11_may := qaf qwC (by decide +kernel) qoN
set_option maxRecDepth 20000 in
theorem gX11_look_X11_may : GoodIn wsX11_look (wsV RX11 213 RX11 yX11_may wsX11_may) := goodIn_app (qag qwC [1105, 1106, 1107, 5] rfl (by decide +kernel)) ggX11_look_X11_may
set_option maxRecDepth 20000 in
theorem ggX11_look_X11_take : GoodIn wsX11_look wsX11_take := qaf qwC (by decide +kernel) qta
set_option maxRecDepth 20000 in
theorem gX11_look_X11_take : GoodIn wsX11_look (wsV RX11 316 RX11 yX11_take wsX11_take) := goodIn_app (qag qwC [2130, 2131, 2132, 5] rfl (by decide +kernel)) ggX11_look_X11_take
set_option maxRecDepth 20000 in
theorem ggX11_look_X11_worstOf : GoodIn wsX11_look wsX11_worstOf := qaf qwC (by decide +kernel) qaOY
set_option maxRecDepth 20000 in
theorem gX11_look_X11_worstOf : GoodIn wsX11_look (wsV RX11 430 RX11 yX11_worstOf wsX11_worstOf) := goodIn_app (qag qwC [3659, 3660, 3661, 5] rfl (by decide +kernel)) ggX11_look_X11_worstOf
set_option maxRecDepth 20000 in
theorem ggX11_watch_X11_within : GoodIn wsX11_watch wsX11_within := qaf qv6 (by decide +kernel) qix
set_option maxRecDepth 20000 in
theorem gX11_watch_X11_within : GoodIn wsX11_watch (va_wsS RX11 390 yX11_within wsX11_within) := goodIn_app (qag qv6 [2577, 2578, 5] rfl (by decide +kernel)) ggX11_watch_X11_within
set_option maxRecDepth 20000 in
theorem ggX11_watch_X11_may : GoodIn wsX11_watch wsX11_may := qaf qv6 (by decide +kernel) qoN
set_option maxRecDepth 20000 in
theorem gX11_watch_X11_may : GoodIn wsX11_watch (wsV RX11 213 RX11 yX11_may wsX11_may) := goodIn_app (qag qv6 [1105, 1106, 1107, 5] rfl (by decide +kernel)) ggX11_watch_X11_may
set_option maxRecDepth 20000 in
theorem ggX11_watch_X11_farOf : GoodIn wsX11_watch wsX11_farOf := qaf qv6 (by decide +kernel) qFj
set_option maxRecDepth 20000 in
theorem gX11_watch_X11_farOf : GoodIn wsX11_watch (wsV RX11 358 RX11 yX11_farOf wsX11_farOf) := goodIn_app (qag qv6 [2194, 2195, 2196, 5] rfl (by decide +kernel)) ggX11_watch_X11_farOf
set_option maxRecDepth 20000 in
theorem ggX11_watch_X11_ones : GoodIn wsX11_watch wsX11_ones := qaf qv6 (by decide +kernel) qajF
set_option maxRecDepth 20000 in
theorem gX11_watch_X11_ones : GoodIn wsX11_watch (va_wsS RX11 351 yX11_ones wsX11_ones) := goodIn_app (qag qv6 [2257, 2258, 5] rfl (by decide +kernel)) ggX11_watch_X11_ones
set_option maxRecDepth 20000 in
theorem ggX11_few_X11_within : GoodIn wsX11_few wsX11_within := qaf qDR (by decide +kernel) qix
set_option maxRecDepth 20000 in
theorem gX11_few_X11_within : GoodIn wsX11_few (va_wsS RX11 390 yX11_within wsX11_within) := goodIn_app (qag qDR [2577, 2578, 5] rfl (by decide +kernel)) ggX11_few_X11_within
set_option maxRecDepth 20000 in
theorem ggX11_few_X11_may : GoodIn wsX11_few wsX11_may := qaf qDR (by decide +kernel) qoN
set_option maxRecDepth 20000 in
theorem gX11_few_X11_may : GoodIn wsX11_few (wsV RX11 213 RX11 yX11_may wsX11_may) := goodIn_app (qag qDR [1105, 1106, 1107, 5] rfl (by decide +kernel)) ggX11_few_X11_may
set_option maxRecDepth 20000 in
theorem ggX11_few_X11_least : GoodIn wsX11_few wsX11_least := qaf qDR (by decide +kernel) qaZI
set_option maxRecDepth 20000 in
theorem gX11_few_X11_least : GoodIn wsX11_few (va_wsS RX11 435 yX11_least wsX11_least) := goodIn_app (qag qDR [3781, 3782, 5] rfl (by decide +kernel)) ggX11_few_X11_least
set_option maxRecDepth 20000 in
theorem ggX11_road_X11_within : GoodIn wsX11_road wsX11_within := qaf qGh (by decide +kernel) qix
set_option maxRecDepth 20000 in
theorem gX11_road_X11_within : GoodIn wsX11_road (va_wsS RX11 390 yX11_within wsX11_within) := goodIn_app (qag qGh [2577, 2578, 5] rfl (by decide +kernel)) ggX11_road_X11_within
set_option maxRecDepth 20000 in
theorem ggX11_road_X11_may : GoodIn wsX11_road wsX11_may := qaf qGh (by decide +kernel) qoN
set_option maxRecDepth 20000 in
theorem gX11_road_X11_may : GoodIn wsX11_road (wsV RX11 213 RX11 yX11_may wsX11_may) := goodIn_app (qag qGh [1105, 1106, 1107, 5] rfl (by decide +kernel)) ggX11_road_X11_may
set_option maxRecDepth 20000 in
theorem ggX11_road_X11_hasBy : GoodIn wsX11_road wsX11_hasBy := qaf qGh (by decide +kernel) qaWu
set_option maxRecDepth 20000 in
theorem gX11_road_X11_hasBy : GoodIn wsX11_road (va_wsS RX11 438 yX11_hasBy wsX11_hasBy) := goodIn_app (qag qGh [3798, 3799, 5] rfl (by decide +kernel)) ggX11_road_X11_hasBy
set_option maxRecDepth 20000 in
theorem ggX11_cloverBy_X11_isOwed : GoodIn wsX11_cloverBy wsX11_isOwed := qaf qKl (by decide +kernel) qSU
set_option maxRecDepth 20000 in
theorem gX11_cloverBy_X11_isOwed : GoodIn wsX11_cloverBy (wsV RX11 345 RX11 yX11_isOwed wsX11_isOwed) := goodIn_app (qag qKl [2249, 2250, 2251, 5] rfl (by decide +kernel)) ggX11_cloverBy_X11_isOwed
set_option maxRecDepth 20000 in
theorem ggX11_clover_X11_isHare : GoodIn wsX11_clover wsX11_isHare := qaf qo3 (by decide +kernel) qxn
set_option maxRecDepth 20000 in
theorem gX11_clover_X11_isHare : GoodIn wsX11_clover (wsV RX11 408 RX11 yX11_isHare wsX11_isHare) := goodIn_app (qag qo3 [2767, 2768, 2769, 5] rfl (by decide +kernel)) ggX11_clover_X11_isHare
set_option maxRecDepth 20000 in
theorem ggX11_clover_X11_within : GoodIn wsX11_clover wsX11_within := qaf qo3 (by decide +kernel) qix
set_option maxRecDepth 20000 in
theorem gX11_clover_X11_within : GoodIn wsX11_clover (va_wsS RX11 390 yX11_within wsX11_within) := goodIn_app (qag qo3 [2577, 2578, 5] rfl (by decide +kernel)) ggX11_clover_X11_within
set_option maxRecDepth 20000 in
theorem ggX11_clover_X11_may : GoodIn wsX11_clover wsX11_may := qaf qo3 (by decide +kernel) qoN
set_option maxRecDepth 20000 in
theorem gX11_clover_X11_may : GoodIn wsX11_clover (wsV RX11 213 RX11 yX11_may wsX11_may) := goodIn_app (qag qo3 [1105, 1106, 1107, 5] rfl (by decide +kernel)) ggX11_clover_X11_may
set_option maxRecDepth 20000 in
theorem ggX11_clover_X11_take : GoodIn wsX11_clover wsX11_take := qaf qo3 (by decide +kernel) qta
set_option maxRecDepth 20000 in
theorem gX11_clover_X11_take : GoodIn wsX11_clover (wsV RX11 316 RX11 yX11_take wsX11_take) := goodIn_app (qag qo3 [2130, 2131, 2132, 5] rfl (by decide +kernel)) ggX11_clover_X11_take
set_option maxRecDepth 20000 in
theorem ggX11_clover_X11_cloverBy : GoodIn wsX11_clover wsX11_cloverBy := qaf qo3 (by decide +kernel) qaG1
set_option maxRecDepth 20000 in
theorem gX11_clover_X11_cloverBy : GoodIn wsX11_clover (wsV RX11 441 RX11 yX11_cloverBy wsX11_cloverBy) := goodIn_app (qag qo3 [3861, 3862, 3863, 5] rfl (by decide +kernel)) ggX11_clover_X11_cloverBy
set_option maxRecDepth 20000 in
theorem ggX11_clover_X11_isOwed : GoodIn wsX11_clover wsX11_isOwed := qaf qo3 (by decide +kernel) qSU
set_option maxRecDepth 20000 in
theorem gX11_clover_X11_isOwed : GoodIn wsX11_clover (wsV RX11 345 RX11 yX11_isOwed wsX11_isOwed) := goodIn_app (qag qo3 [2249, 2250, 2251, 5] rfl (by decide +kernel)) ggX11_clover_X11_isOwed
set_option maxRecDepth 20000 in
theorem ggX11_strongest_X11_within : GoodIn wsX11_strongest wsX11_within := qaf qnV (by decide +kernel) qix
set_option maxRecDepth 20000 in
theorem gX11_strongest_X11_within : GoodIn wsX11_strongest (va_wsS RX11 390 yX11_within wsX11_within) := goodIn_app (qag qnV [2577, 2578, 5] rfl (by decide +kernel)) ggX11_strongest_X11_within
set_option maxRecDepth 20000 in
theorem ggX11_strongest_X11_may : GoodIn wsX11_strongest wsX11_may := qaf qnV (by decide +kernel) qoN
set_option maxRecDepth 20000 in
theorem gX11_strongest_X11_may : GoodIn wsX11_strongest (wsV RX11 213 RX11 yX11_may wsX11_may) := goodIn_app (qag qnV [1105, 1106, 1107, 5] rfl (by decide +kernel)) ggX11_strongest_X11_may
set_option maxRecDepth 20000 in
theorem ggX11_strongest_X11_take : GoodIn wsX11_strongest wsX11_take := qaf qnV (by decide +kernel) qta
set_option maxRecDepth 20000 in
theorem gX11_strongest_X11_take : GoodIn wsX11_strongest (wsV RX11 316 RX11 yX11_take wsX11_take) := goodIn_app (qag qnV [2130, 2131, 2132, 5] rfl (by decide +kernel)) ggX11_strongest_X11_take
set_option maxRecDepth 20000 in
theorem ggX11_strongest_X11_isCaught : GoodIn wsX11_strongest wsX11_isCaught := qaf qnV (by decide +kernel) qnk
set_option maxRecDepth 20000 in
theorem gX11_strongest_X11_isCaught : GoodIn wsX11_strongest (wsV RX11 340 RX11 yX11_isCaught wsX11_isCaught) := goodIn_app (qag qnV [2190, 2191, 2192, 5] rfl (by decide +kernel)) ggX11_strongest_X11_isCaught
set_option maxRecDepth 20000 in
theorem ggX11_ties_X11_isHare : GoodIn wsX11_ties wsX11_isHare := qaf qAE (by decide +kernel) qxn
set_option maxRecDepth 20000 in
theorem gX11_ties_X11_isHare : GoodIn wsX11_ties (wsV RX11 408 RX11 yX11_isHare wsX11_isHare) := goodIn_app (qag qAE [2767, 2768, 2769, 5] rfl (by decide +kernel)) ggX11_ties_X11_isHare
set_option maxRecDepth 20000 in
theorem ggX11_ties_X11_within : GoodIn wsX11_ties wsX11_within := qaf qAE (by decide +kernel) qix
set_option maxRecDepth 20000 in
theorem gX11_ties_X11_within : GoodIn wsX11_ties (va_wsS RX11 390 yX11_within wsX11_within) := goodIn_app (qag qAE [2577, 2578, 5] rfl (by decide +kernel)) ggX11_ties_X11_within
set_option maxRecDepth 20000 in
theorem ggX11_ties_X11_may : GoodIn wsX11_ties wsX11_may := qaf qAE (by decide +kernel) qoN
set_option maxRecDepth 20000 in
theorem gX11_ties_X11_may : GoodIn wsX11_ties (wsV RX11 213 RX11 yX11_may wsX11_may) := goodIn_app (qag qAE [1105, 1106, 1107, 5] rfl (by decide +kernel)) ggX11_ties_X11_may
set_option maxRecDepth 20000 in
theorem ggX11_refuge_X11_isForm : GoodIn wsX11_refuge wsX11_isForm := qaf qra (by decide +kernel) qK9
set_option maxRecDepth 20000 in
theorem gX11_refuge_X11_isForm : GoodIn wsX11_refuge (wsV RX11 405 RX11 yX11_isForm wsX11_isForm) := goodIn_app (qag qra [2699, 2700, 2701, 5] rfl (by decide +kernel)) ggX11_refuge_X11_isForm
set_option maxRecDepth 20000 in
theorem ggX11_refuge_X11_within : GoodIn wsX11_refuge wsX11_within := qaf qra (by decide +kernel) qix
set_option maxRecDepth 20000 in
theorem gX11_refuge_X11_within : GoodIn wsX11_refuge (va_wsS RX11 390 yX11_within wsX11_within) := goodIn_app (qag qra [2577, 2578, 5] rfl (by decide +kernel)) ggX11_refuge_X11_within
set_option maxRecDepth 20000 in
theorem ggX11_refuge_X11_may : GoodIn wsX11_refuge wsX11_may := qaf qra (by decide +kernel) qoN
set_option maxRecDepth 20000 in
theorem gX11_refuge_X11_may : GoodIn wsX11_refuge (wsV RX11 213 RX11 yX11_may wsX11_may) := goodIn_app (qag qra [1105, 1106, 1107, 5] rfl (by decide +kernel)) ggX11_refuge_X11_may
set_option maxRecDepth 20000 in
theorem ggX11_refuge_X11_isSafe : GoodIn wsX11_refuge wsX11_isSafe := qaf qra (by decide +kernel) qSk
set_option maxRecDepth 20000 in
theorem gX11_refuge_X11_isSafe : GoodIn wsX11_refuge (wsV RX11 368 RX11 yX11_isSafe wsX11_isSafe) := goodIn_app (qag qra [2375, 2376, 2377, 5] rfl (by decide +kernel)) ggX11_refuge_X11_isSafe
set_option maxRecDepth 20000 in
theorem ggX11_refuge_X11_farOf : GoodIn wsX11_refuge wsX11_farOf := qaf qra (by decide +kernel) qFj
set_option maxRecDepth 20000 in
theorem gX11_refuge_X11_farOf : GoodIn wsX11_refuge (wsV RX11 358 RX11 yX11_farOf wsX11_farOf) := goodIn_app (qag qra [2194, 2195, 2196, 5] rfl (by decide +kernel)) ggX11_refuge_X11_farOf
set_option maxRecDepth 20000 in
theorem ggX11_marchGoes_X11_take : GoodIn wsX11_marchGoes wsX11_take := qaf qir (by decide +kernel) qta
set_option maxRecDepth 20000 in
theorem gX11_marchGoes_X11_take : GoodIn wsX11_marchGoes (wsV RX11 316 RX11 yX11_take wsX11_take) := goodIn_app (qag qir [2130, 2131, 2132, 5] rfl (by decide +kernel)) ggX11_marchGoes_X11_take
set_option maxRecDepth 20000 in
theorem ggX11_marchGoes_X11_draws : GoodIn wsX11_marchGoes wsX11_draws := qaf qir (by decide +kernel) qaWZ
set_option maxRecDepth 20000 in
theorem gX11_marchGoes_X11_draws : GoodIn wsX11_marchGoes (wsV RX11 451 RX11 yX11_draws wsX11_draws) := goodIn_app (qag qir [4116, 4117, 4118, 5] rfl (by decide +kernel)) ggX11_marchGoes_X11_draws
set_option maxRecDepth 20000 in
theorem ggX11_marchGoes_X11_leapsTo : GoodIn wsX11_marchGoes wsX11_leapsTo := qaf qir (by decide +kernel) qaeP
set_option maxRecDepth 20000 in
theorem gX11_marchGoes_X11_leapsTo : GoodIn wsX11_marchGoes (wsV RX11 377 RX11 yX11_leapsTo wsX11_leapsTo) := goodIn_app (qag qir [2182, 2183, 2184, 5] rfl (by decide +kernel)) ggX11_marchGoes_X11_leapsTo
set_option maxRecDepth 20000 in
theorem ggX11_marchGoes_X11_boxes : GoodIn wsX11_marchGoes wsX11_boxes := qaf qir (by decide +kernel) qaAx
set_option maxRecDepth 20000 in
theorem gX11_marchGoes_X11_boxes : GoodIn wsX11_marchGoes (wsV RX11 380 RX11 yX11_boxes wsX11_boxes) := goodIn_app (qag qir [2315, 2316, 2317, 5] rfl (by decide +kernel)) ggX11_marchGoes_X11_boxes
set_option maxRecDepth 20000 in
theorem ggX11_marchGoes_X11_passes : GoodIn wsX11_marchGoes wsX11_passes := qaf qir (by decide +kernel) q4F
set_option maxRecDepth 20000 in
theorem gX11_marchGoes_X11_passes : GoodIn wsX11_marchGoes (wsV RX11 387 RX11 yX11_passes wsX11_passes) := goodIn_app (qag qir [2323, 2324, 2325, 5] rfl (by decide +kernel)) ggX11_marchGoes_X11_passes
set_option maxRecDepth 20000 in
theorem ggX11_strengthNow_X11_isCaught : GoodIn wsX11_strengthNow wsX11_isCaught := qaf qys (by decide +kernel) qnk
set_option maxRecDepth 20000 in
theorem gX11_strengthNow_X11_isCaught : GoodIn wsX11_strengthNow (wsV RX11 340 RX11 yX11_isCaught wsX11_isCaught) := goodIn_app (qag qys [2190, 2191, 2192, 5] rfl (by decide +kernel)) ggX11_strengthNow_X11_isCaught
set_option maxRecDepth 20000 in
theorem ggX11_march_X11_within : GoodIn wsX11_march wsX11_within := qaf qsl (by decide +kernel) qix
set_option maxRecDepth 20000 in
theorem gX11_march_X11_within : GoodIn wsX11_march (va_wsS RX11 390 yX11_within wsX11_within) := goodIn_app (qag qsl [2577, 2578, 5] rfl (by decide +kernel)) ggX11_march_X11_within
set_option maxRecDepth 20000 in
theorem ggX11_march_X11_may : GoodIn wsX11_march wsX11_may := qaf qsl (by decide +kernel) qoN
set_option maxRecDepth 20000 in
theorem gX11_march_X11_may : GoodIn wsX11_march (wsV RX11 213 RX11 yX11_may wsX11_may) := goodIn_app (qag qsl [1105, 1106, 1107, 5] rfl (by decide +kernel)) ggX11_march_X11_may
set_option maxRecDepth 20000 in
theorem ggX11_march_X11_marchGoes : GoodIn wsX11_march wsX11_marchGoes := qaf qsl (by decide +kernel) q3u
set_option maxRecDepth 20000 in
theorem gX11_march_X11_marchGoes : GoodIn wsX11_march (wsV RX11 454 RX11 yX11_marchGoes wsX11_marchGoes) := goodIn_app (qag qsl [4111, 4112, 4113, 5] rfl (by decide +kernel)) ggX11_march_X11_marchGoes
set_option maxRecDepth 20000 in
theorem ggX11_march_X11_caughtNow : GoodIn wsX11_march wsX11_caughtNow := qaf qsl (by decide +kernel) qI2
set_option maxRecDepth 20000 in
theorem gX11_march_X11_caughtNow : GoodIn wsX11_march (wsV RX11 396 RX11 yX11_caughtNow wsX11_caughtNow) := goodIn_app (qag qsl [2624, 2625, 2626, 5] rfl (by decide +kernel)) ggX11_march_X11_caughtNow
set_option maxRecDepth 20000 in
theorem ggX11_march_X11_strengthNow : GoodIn wsX11_march wsX11_strengthNow := qaf qsl (by decide +kernel) qakI
set_option maxRecDepth 20000 in
theorem gX11_march_X11_strengthNow : GoodIn wsX11_march (wsV RX11 457 RX11 yX11_strengthNow wsX11_strengthNow) := goodIn_app (qag qsl [4161, 4162, 4163, 5] rfl (by decide +kernel)) ggX11_march_X11_strengthNow
set_option maxRecDepth 20000 in
theorem ggX11_span_X11_within : GoodIn wsX11_span wsX11_within := qaf qww (by decide +kernel) qix
set_option maxRecDepth 20000 in
theorem gX11_span_X11_within : GoodIn wsX11_span (va_wsS RX11 390 yX11_within wsX11_within) := goodIn_app (qag qww [2577, 2578, 5] rfl (by decide +kernel)) ggX11_span_X11_within
set_option maxRecDepth 20000 in
theorem ggX11_span_X11_may : GoodIn wsX11_span wsX11_may := qaf qww (by decide +kernel) qoN
set_option maxRecDepth 20000 in
theorem gX11_span_X11_may : GoodIn wsX11_span (wsV RX11 213 RX11 yX11_may wsX11_may) := goodIn_app (qag qww [1105, 1106, 1107, 5] rfl (by decide +kernel)) ggX11_span_X11_may
set_option maxRecDepth 20000 in
theorem ggX11_span_X11_marchGoes : GoodIn wsX11_span wsX11_marchGoes := qaf qww (by decide +kernel) q3u
set_option maxRecDepth 20000 in
theorem gX11_span_X11_marchGoes : GoodIn wsX11_span (wsV RX11 454 RX11 yX11_marchGoes wsX11_marchGoes) := goodIn_app (qag qww [4111, 4112, 4113, 5] rfl (by decide +kernel)) ggX11_span_X11_marchGoes
set_option maxRecDepth 20000 in
theorem ggX11_span_X11_isCaught : GoodIn wsX11_span wsX11_isCaught := qaf qww (by decide +kernel) qnk
set_option maxRecDepth 20000 in
theorem gX11_span_X11_isCaught : GoodIn wsX11_span (wsV RX11 340 RX11 yX11_isCaught wsX11_isCaught) := goodIn_app (qag qww [2190, 2191, 2192, 5] rfl (by decide +kernel)) ggX11_span_X11_isCaught
set_option maxRecDepth 20000 in
theorem ggX11_keepsAll_X11_keepsRow : GoodIn wsX11_keepsAll wsX11_keepsRow := qaf qxL (by decide +kernel) qaKB
set_option maxRecDepth 20000 in
theorem gX11_keepsAll_X11_keepsRow : GoodIn wsX11_keepsAll (wsV RX11 460 RX11 yX11_keepsRow wsX11_keepsRow) := goodIn_app (qag qxL [4233, 4234, 4235, 5] rfl (by decide +kernel)) ggX11_keepsAll_X11_keepsRow
set_option maxRecDepth 20000 in
theorem ggX11_image_X11_keepsAll : GoodIn wsX11_image wsX11_keepsAll := qaf qQM (by decide +kernel) q75
set_option maxRecDepth 20000 in
theorem gX11_image_X11_keepsAll : GoodIn wsX11_image (wsV RX11 464 RX11 yX11_keepsAll wsX11_keepsAll) := goodIn_app (qag qQM [4229, 4230, 4231, 5] rfl (by decide +kernel)) ggX11_image_X11_keepsAll
set_option maxRecDepth 20000 in
theorem ggX11_restore_X11_keepsAll : GoodIn wsX11_restore wsX11_keepsAll := qaf qCX (by decide +kernel) q75
set_option maxRecDepth 20000 in
theorem gX11_restore_X11_keepsAll : GoodIn wsX11_restore (wsV RX11 464 RX11 yX11_keepsAll wsX11_keepsAll) := goodIn_app (qag qCX [4229, 4230, 4231, 5] rfl (by decide +kernel)) ggX11_restore_X11_keepsAll
set_option maxRecDepth 20000 in
theorem ggX11_status_X11_within : GoodIn wsX11_status wsX11_within := qaf qLm (by decide +kernel) qix
set_option maxRecDepth 20000 in
theorem gX11_status_X11_within : GoodIn wsX11_status (va_wsS RX11 390 yX11_within wsX11_within) := goodIn_app (qag qLm [2577, 2578, 5] rfl (by decide +kernel)) ggX11_status_X11_within
set_option maxRecDepth 20000 in
theorem ggJ0_length_8abf5_J0_coder_7d493 : GoodIn wsJ0_length_8abf5 wsJ0_coder_7d493 := qaf qJy (by decide +kernel) qapJ
set_option maxRecDepth 20000 in
theorem gJ0_length_8abf5_J0_coder_7d493 : GoodIn wsJ0_length_8abf5 (wsV RJ0 335 RJ0 yJ0_coder_7d493 wsJ0_coder_7d493) := goodIn_app (qag qJy [789, 790, 791, 786] rfl (by decide +kernel)) ggJ0_length_8abf5_J0_coder_7d493
set_option maxRecDepth 20000 in
theorem ggJ0_charAt_5068e_J0_isLatin1_aae02 : GoodIn wsJ0_charAt_5068e wsJ0_isLatin1_aae02 := qaf qyP (by decide +kernel) qaaD
set_option maxRecDepth 20000 in
theorem gJ0_charAt_5068e_J0_isLatin1_aae02 : GoodIn wsJ0_charAt_5068e (wsV RJ0 492 RJ0 yJ0_isLatin1_aae02 wsJ0_isLatin1_aae02) := goodIn_app (qag qyP [844, 845, 846, 786] rfl (by decide +kernel)) ggJ0_charAt_5068e_J0_isLatin1_aae02
set_option maxRecDepth 20000 in
theorem ggJ0_charAt_5068e_J1_charAt_3b067 : GoodIn wsJ0_charAt_5068e wsJ1_charAt_3b067 := qaf qyP (by decide +kernel) qal1
set_option maxRecDepth 20000 in
theorem gJ0_charAt_5068e_J1_charAt_3b067 : GoodIn wsJ0_charAt_5068e (va_wsS RJ0 495 yJ1_charAt_3b067 wsJ1_charAt_3b067) := goodIn_app (qag qyP [848, 849, 850] rfl (by decide +kernel)) ggJ0_charAt_5068e_J1_charAt_3b067
set_option maxRecDepth 20000 in
theorem ggJ0_checkIndex_df160_J3_checkIndex_8e157 : GoodIn wsJ0_checkIndex_df160 wsJ3_checkIndex_8e157 := qaf qBw (by decide +kernel) q1R
set_option maxRecDepth 20000 in
theorem gJ0_checkIndex_df160_J3_checkIndex_8e157 : GoodIn wsJ0_checkIndex_df160 (va_wsS RJ0 1059 yJ3_checkIndex_8e157 wsJ3_checkIndex_8e157) := goodIn_app (qag qBw [896, 897, 898] rfl (by decide +kernel)) ggJ0_checkIndex_df160_J3_checkIndex_8e157
set_option maxRecDepth 20000 in
theorem ggJ1_charAt_3b067_J0_checkIndex_df160 : GoodIn wsJ1_charAt_3b067 wsJ0_checkIndex_df160 := qaf qVC (by decide +kernel) q4O
set_option maxRecDepth 20000 in
theorem gJ1_charAt_3b067_J0_checkIndex_df160 : GoodIn wsJ1_charAt_3b067 (va_wsS RJ1 9 yJ0_checkIndex_df160 wsJ0_checkIndex_df160) := goodIn_app (qag qVC [852, 853, 786] rfl (by decide +kernel)) ggJ1_charAt_3b067_J0_checkIndex_df160
set_option maxRecDepth 20000 in
theorem ggL_down_X10_down : GoodIn wsL_down wsX10_down := goodIn_ca (qaf qavf (by decide +kernel) qa2s) (goodIn_sub (fun _ h => List.mem_cons_of_mem _ (List.mem_append_right _ h)) (by decide +kernel))
set_option maxRecDepth 20000 in
theorem gL_down_X10_down : GoodIn wsL_down (wsV RL 7 RX10 yX10_down wsX10_down) := goodIn_app (qag qavf [596, 597, 598, 2] rfl (by decide +kernel)) ggL_down_X10_down
set_option maxRecDepth 20000 in
theorem ggL_law_X10_law : GoodIn wsL_law wsX10_law := goodIn_ca (qaf qaNb (by decide +kernel) qa3Z) (goodIn_sub (fun _ h => List.mem_cons_of_mem _ (List.mem_append_right _ h)) (by decide +kernel))
set_option maxRecDepth 20000 in
theorem gL_law_X10_law : GoodIn wsL_law (wsV RL 15 RX10 yX10_law wsX10_law) := goodIn_app (qag qaNb [1345, 1346, 1347, 2] rfl (by decide +kernel)) ggL_law_X10_law
set_option maxRecDepth 20000 in
theorem ggL_work_X10_work : GoodIn wsL_work wsX10_work := goodIn_ca (qaf qavd (by decide +kernel) qa1v) (goodIn_sub (fun _ h => List.mem_cons_of_mem _ (List.mem_append_right _ h)) (by decide +kernel))
set_option maxRecDepth 20000 in
theorem gL_work_X10_work : GoodIn wsL_work (wsV RL 18 RX10 yX10_work wsX10_work) := goodIn_app (qag qavd [1553, 1554, 1555, 2] rfl (by decide +kernel)) ggL_work_X10_work
set_option maxRecDepth 20000 in
theorem ggL_book_X10_book : GoodIn wsL_book wsX10_book := goodIn_ca (qaf qau2 (by decide +kernel) qa2E) (goodIn_sub (fun _ h => List.mem_cons_of_mem _ (List.mem_append_right _ h)) (by decide +kernel))
set_option maxRecDepth 20000 in
theorem gL_book_X10_book : GoodIn wsL_book (wsV RL 21 RX10 yX10_book wsX10_book) := goodIn_app (qag qau2 [2382, 2383, 2384, 2] rfl (by decide +kernel)) ggL_book_X10_book
set_option maxRecDepth 20000 in
theorem ggL_told_X10_told : GoodIn wsL_told wsX10_told := goodIn_ca (qaf qavg (by decide +kernel) qa1W) (goodIn_sub (fun _ h => List.mem_cons_of_mem _ (List.mem_append_right _ h)) (by decide +kernel))
set_option maxRecDepth 20000 in
theorem gL_told_X10_told : GoodIn wsL_told (wsV RL 24 RX10 yX10_told wsX10_told) := goodIn_app (qag qavg [2512, 2513, 2514, 2] rfl (by decide +kernel)) ggL_told_X10_told
set_option maxRecDepth 20000 in
theorem ggL_form_X10_form : GoodIn wsL_form wsX10_form := goodIn_ca (goodIn_ca (qaf qacD (by decide +kernel) qa2V) (goodIn_sub (fun _ h => List.mem_cons_of_mem _ (List.mem_append_left _ (List.mem_append_right _ h))) (by decide +kernel))) (goodIn_sub (fun _ h => List.mem_cons_of_mem _ (List.mem_append_right _ h)) (by decide +kernel))
set_option maxRecDepth 20000 in
theorem gL_form_X10_form : GoodIn wsL_form (wsV RL 27 RX10 yX10_form wsX10_form) := goodIn_app (qag qacD [2640, 2641, 2642, 2] rfl (by decide +kernel)) ggL_form_X10_form
set_option maxRecDepth 20000 in
theorem ggL_hare_X10_hare : GoodIn wsL_hare wsX10_hare := goodIn_ca (goodIn_ca (qaf qacF (by decide +kernel) qa2x) (goodIn_sub (fun _ h => List.mem_cons_of_mem _ (List.mem_append_left _ (List.mem_append_right _ h))) (by decide +kernel))) (goodIn_sub (fun _ h => List.mem_cons_of_mem _ (List.mem_append_right _ h)) (by decide +kernel))
set_option maxRecDepth 20000 in
theorem gL_hare_X10_hare : GoodIn wsL_hare (wsV RL 33 RX10 yX10_hare wsX10_hare) := goodIn_app (qag qacF [2706, 2707, 2708, 2] rfl (by decide +kernel)) ggL_hare_X10_hare
set_option maxRecDepth 20000 in
theorem ggL_fox_X10_fox : GoodIn wsL_fox wsX10_fox := goodIn_ca (goodIn_ca (qaf qavA (by decide +kernel) qa6D) (goodIn_sub (fun _ h => List.mem_cons_of_mem _ (List.mem_append_left _ (List.mem_append_right _ h))) (by decide +kernel))) (goodIn_sub (fun _ h => List.mem_cons_of_mem _ (List.mem_append_right _ h)) (by decide +kernel))
set_option maxRecDepth 20000 in
theorem gL_fox_X10_fox : GoodIn wsL_fox (wsV RL 36 RX10 yX10_fox wsX10_fox) := goodIn_app (qag qavA [2774, 2775, 2816, 2] rfl (by decide +kernel)) ggL_fox_X10_fox
set_option maxRecDepth 20000 in
theorem ggL_debt_X10_debt : GoodIn wsL_debt wsX10_debt := goodIn_ca (qaf qau6 (by decide +kernel) qa1J) (goodIn_sub (fun _ h => List.mem_cons_of_mem _ (List.mem_append_right _ h)) (by decide +kernel))
set_option maxRecDepth 20000 in
theorem gL_debt_X10_debt : GoodIn wsL_debt (wsV RL 39 RX10 yX10_debt wsX10_debt) := goodIn_app (qag qau6 [2827, 2828, 2829, 2] rfl (by decide +kernel)) ggL_debt_X10_debt
set_option maxRecDepth 20000 in
theorem ggL_far_X10_far : GoodIn wsL_far wsX10_far := goodIn_ca (qaf qaPl (by decide +kernel) qa6g) (goodIn_sub (fun _ h => List.mem_cons_of_mem _ (List.mem_append_right _ h)) (by decide +kernel))
set_option maxRecDepth 20000 in
theorem gL_far_X10_far : GoodIn wsL_far (wsV RL 42 RX10 yX10_far wsX10_far) := goodIn_app (qag qaPl [2883, 2884, 2885, 2] rfl (by decide +kernel)) ggL_far_X10_far
set_option maxRecDepth 20000 in
theorem ggL_would_X10_would : GoodIn wsL_would wsX10_would := goodIn_ca (qaf qaev (by decide +kernel) qaY7) (goodIn_sub (fun _ h => List.mem_cons_of_mem _ (List.mem_append_right _ h)) (by decide +kernel))
set_option maxRecDepth 20000 in
theorem gL_would_X10_would : GoodIn wsL_would (wsV RL 45 RX10 yX10_would wsX10_would) := goodIn_app (qag qaev [2895, 2896, 2897, 2] rfl (by decide +kernel)) ggL_would_X10_would
set_option maxRecDepth 20000 in
theorem ggL_can_X10_can : GoodIn wsL_can wsX10_can := goodIn_ca (qaf qaPp (by decide +kernel) qa3m) (goodIn_sub (fun _ h => List.mem_cons_of_mem _ (List.mem_append_right _ h)) (by decide +kernel))
set_option maxRecDepth 20000 in
theorem gL_can_X10_can : GoodIn wsL_can (wsV RL 49 RX10 yX10_can wsX10_can) := goodIn_app (qag qaPp [2949, 2950, 2951, 2] rfl (by decide +kernel)) ggL_can_X10_can
set_option maxRecDepth 20000 in
theorem ggL_ahead_X10_ahead : GoodIn wsL_ahead wsX10_ahead := goodIn_ca (qaf qafh (by decide +kernel) qaXO) (goodIn_sub (fun _ h => List.mem_cons_of_mem _ (List.mem_append_right _ h)) (by decide +kernel))
set_option maxRecDepth 20000 in
theorem gL_ahead_X10_ahead : GoodIn wsL_ahead (wsV RL 53 RX10 yX10_ahead wsX10_ahead) := goodIn_app (qag qafh [2961, 2962, 2963, 2] rfl (by decide +kernel)) ggL_ahead_X10_ahead
set_option maxRecDepth 20000 in
theorem ggL_hops_X10_hops : GoodIn wsL_hops wsX10_hops := goodIn_ca (qaf qavk (by decide +kernel) qa1r) (goodIn_sub (fun _ h => List.mem_cons_of_mem _ (List.mem_append_right _ h)) (by decide +kernel))
set_option maxRecDepth 20000 in
theorem gL_hops_X10_hops : GoodIn wsL_hops (wsV RL 56 RX10 yX10_hops wsX10_hops) := goodIn_app (qag qavk [3017, 3018, 3019, 2] rfl (by decide +kernel)) ggL_hops_X10_hops
set_option maxRecDepth 20000 in
theorem ggL_seat_X10_seat : GoodIn wsL_seat wsX10_seat := goodIn_ca (qaf qau7 (by decide +kernel) qa1Y) (goodIn_sub (fun _ h => List.mem_cons_of_mem _ (List.mem_append_right _ h)) (by decide +kernel))
set_option maxRecDepth 20000 in
theorem gL_seat_X10_seat : GoodIn wsL_seat (wsV RL 59 RX10 yX10_seat wsX10_seat) := goodIn_app (qag qau7 [3210, 3211, 3212, 2] rfl (by decide +kernel)) ggL_seat_X10_seat
set_option maxRecDepth 20000 in
theorem ggL_ringed_X10_ringed : GoodIn wsL_ringed wsX10_ringed := goodIn_ca (qaf q49 (by decide +kernel) qaUA) (goodIn_sub (fun _ h => List.mem_cons_of_mem _ (List.mem_append_right _ h)) (by decide +kernel))
set_option maxRecDepth 20000 in
theorem gL_ringed_X10_ringed : GoodIn wsL_ringed (wsV RL 62 RX10 yX10_ringed wsX10_ringed) := goodIn_app (qag q49 [3344, 3345, 3346, 2] rfl (by decide +kernel)) ggL_ringed_X10_ringed
set_option maxRecDepth 20000 in
theorem ggL_bouts_X10_bouts : GoodIn wsL_bouts wsX10_bouts := goodIn_ca (qaf qag4 (by decide +kernel) qaZU) (goodIn_sub (fun _ h => List.mem_cons_of_mem _ (List.mem_append_right _ h)) (by decide +kernel))
set_option maxRecDepth 20000 in
theorem gL_bouts_X10_bouts : GoodIn wsL_bouts (wsV RL 65 RX10 yX10_bouts wsX10_bouts) := goodIn_app (qag qag4 [3396, 3397, 3398, 2] rfl (by decide +kernel)) ggL_bouts_X10_bouts
set_option maxRecDepth 20000 in
theorem ggL_fits_X10_fits : GoodIn wsL_fits wsX10_fits := goodIn_ca (qaf qavh (by decide +kernel) qa1F) (goodIn_sub (fun _ h => List.mem_cons_of_mem _ (List.mem_append_right _ h)) (by decide +kernel))
set_option maxRecDepth 20000 in
theorem gL_fits_X10_fits : GoodIn wsL_fits (wsV RL 68 RX10 yX10_fits wsX10_fits) := goodIn_app (qag qavh [3460, 3461, 3462, 2] rfl (by decide +kernel)) ggL_fits_X10_fits
set_option maxRecDepth 20000 in
theorem ggL_look_X10_look : GoodIn wsL_look wsX10_look := goodIn_ca (qaf qava (by decide +kernel) qa14) (goodIn_sub (fun _ h => List.mem_cons_of_mem _ (List.mem_append_right _ h)) (by decide +kernel))
set_option maxRecDepth 20000 in
theorem gL_look_X10_look : GoodIn wsL_look (wsV RL 71 RX10 yX10_look wsX10_look) := goodIn_app (qag qava [3593, 3594, 3595, 2] rfl (by decide +kernel)) ggL_look_X10_look
set_option maxRecDepth 20000 in
theorem ggL_watch_X10_watch : GoodIn wsL_watch wsX10_watch := goodIn_ca (qaf qafK (by decide +kernel) qaYE) (goodIn_sub (fun _ h => List.mem_cons_of_mem _ (List.mem_append_right _ h)) (by decide +kernel))
set_option maxRecDepth 20000 in
theorem gL_watch_X10_watch : GoodIn wsL_watch (wsV RL 74 RX10 yX10_watch wsX10_watch) := goodIn_app (qag qafK [3666, 3667, 3668, 2] rfl (by decide +kernel)) ggL_watch_X10_watch
set_option maxRecDepth 20000 in
theorem ggL_few_X10_few : GoodIn wsL_few wsX10_few := goodIn_ca (qaf qaNx (by decide +kernel) qa9d) (goodIn_sub (fun _ h => List.mem_cons_of_mem _ (List.mem_append_right _ h)) (by decide +kernel))
set_option maxRecDepth 20000 in
theorem gL_few_X10_few : GoodIn wsL_few (wsV RL 77 RX10 yX10_few wsX10_few) := goodIn_app (qag qaNx [3726, 3727, 3728, 2] rfl (by decide +kernel)) ggL_few_X10_few
set_option maxRecDepth 20000 in
theorem ggL_road_X10_road : GoodIn wsL_road wsX10_road := goodIn_ca (qaf qau8 (by decide +kernel) qa2e) (goodIn_sub (fun _ h => List.mem_cons_of_mem _ (List.mem_append_right _ h)) (by decide +kernel))
set_option maxRecDepth 20000 in
theorem gL_road_X10_road : GoodIn wsL_road (wsV RL 81 RX10 yX10_road wsX10_road) := goodIn_app (qag qau8 [3787, 3788, 3789, 2] rfl (by decide +kernel)) ggL_road_X10_road
set_option maxRecDepth 20000 in
theorem ggL_clover_X10_clover : GoodIn wsL_clover wsX10_clover := goodIn_ca (goodIn_ca (qaf qVo (by decide +kernel) qaS9) (goodIn_sub (fun _ h => List.mem_cons_of_mem _ (List.mem_append_left _ (List.mem_append_right _ h))) (by decide +kernel))) (goodIn_sub (fun _ h => List.mem_cons_of_mem _ (List.mem_append_right _ h)) (by decide +kernel))
set_option maxRecDepth 20000 in
theorem gL_clover_X10_clover : GoodIn wsL_clover (wsV RL 85 RX10 yX10_clover wsX10_clover) := goodIn_app (qag qVo [3844, 3845, 3846, 2] rfl (by decide +kernel)) ggL_clover_X10_clover
set_option maxRecDepth 20000 in
theorem ggL_strongest_X10_strongest : GoodIn wsL_strongest wsX10_strongest := goodIn_ca (qaf qOe (by decide +kernel) qaBO) (goodIn_sub (fun _ h => List.mem_cons_of_mem _ (List.mem_append_right _ h)) (by decide +kernel))
set_option maxRecDepth 20000 in
theorem gL_strongest_X10_strongest : GoodIn wsL_strongest (wsV RL 88 RX10 yX10_strongest wsX10_strongest) := goodIn_app (qag qOe [3908, 3909, 3910, 2] rfl (by decide +kernel)) ggL_strongest_X10_strongest
set_option maxRecDepth 20000 in
theorem ggL_ties_X10_ties : GoodIn wsL_ties wsX10_ties := goodIn_ca (goodIn_ca (qaf qafY (by decide +kernel) qa2b) (goodIn_sub (fun _ h => List.mem_cons_of_mem _ (List.mem_append_left _ (List.mem_append_right _ h))) (by decide +kernel))) (goodIn_sub (fun _ h => List.mem_cons_of_mem _ (List.mem_append_right _ h)) (by decide +kernel))
set_option maxRecDepth 20000 in
theorem gL_ties_X10_ties : GoodIn wsL_ties (wsV RL 91 RX10 yX10_ties wsX10_ties) := goodIn_app (qag qafY [3919, 3920, 3921, 2] rfl (by decide +kernel)) ggL_ties_X10_ties
set_option maxRecDepth 20000 in
theorem ggL_refuge_X10_refuge : GoodIn wsL_refuge wsX10_refuge := goodIn_ca (goodIn_ca (qaf qUX (by decide +kernel) qaT4) (goodIn_sub (fun _ h => List.mem_cons_of_mem _ (List.mem_append_left _ (List.mem_append_right _ h))) (by decide +kernel))) (goodIn_sub (fun _ h => List.mem_cons_of_mem _ (List.mem_append_right _ h)) (by decide +kernel))
set_option maxRecDepth 20000 in
theorem gL_refuge_X10_refuge : GoodIn wsL_refuge (wsV RL 94 RX10 yX10_refuge wsX10_refuge) := goodIn_app (qag qUX [3970, 3971, 3972, 2] rfl (by decide +kernel)) ggL_refuge_X10_refuge
set_option maxRecDepth 20000 in
theorem ggL_range_X10_range : GoodIn wsL_range wsX10_range := goodIn_ca (qaf qafw (by decide +kernel) qaWL) (goodIn_sub (fun _ h => List.mem_cons_of_mem _ (List.mem_append_right _ h)) (by decide +kernel))
set_option maxRecDepth 20000 in
theorem gL_range_X10_range : GoodIn wsL_range (wsV RL 97 RX10 yX10_range wsX10_range) := goodIn_app (qag qafw [3981, 3982, 3983, 2] rfl (by decide +kernel)) ggL_range_X10_range
set_option maxRecDepth 20000 in
theorem ggL_march_X10_march : GoodIn wsL_march wsX10_march := goodIn_ca (qaf qafg (by decide +kernel) qaYU) (goodIn_sub (fun _ h => List.mem_cons_of_mem _ (List.mem_append_right _ h)) (by decide +kernel))
set_option maxRecDepth 20000 in
theorem gL_march_X10_march : GoodIn wsL_march (wsV RL 100 RX10 yX10_march wsX10_march) := goodIn_app (qag qafg [4033, 4034, 4035, 2] rfl (by decide +kernel)) ggL_march_X10_march
set_option maxRecDepth 20000 in
theorem ggL_span_X10_span : GoodIn wsL_span wsX10_span := goodIn_ca (qaf qave (by decide +kernel) qa2q) (goodIn_sub (fun _ h => List.mem_cons_of_mem _ (List.mem_append_right _ h)) (by decide +kernel))
set_option maxRecDepth 20000 in
theorem gL_span_X10_span : GoodIn wsL_span (wsV RL 103 RX10 yX10_span wsX10_span) := goodIn_app (qag qave [4168, 4169, 4170, 2] rfl (by decide +kernel)) ggL_span_X10_span
