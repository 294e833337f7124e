set_option maxRecDepth 20000 in
theorem ggX11_told_X11_take : GoodIn wsX11_told wsX11_take := qaf qnz (by decide +kernel) qtc
set_option maxRecDepth 20000 in
theorem gX11_told_X11_take : GoodIn wsX11_told (wsV RX11 316 RX11 yX11_take wsX11_take) := goodIn_app (qag qnz [2130, 2131, 2132, 5] rfl (by decide +kernel)) ggX11_told_X11_take
set_option maxRecDepth 20000 in
theorem ggX11_told_X11_bitsTold : GoodIn wsX11_told wsX11_bitsTold := qaf qnz (by decide +kernel) qaHg
set_option maxRecDepth 20000 in
theorem gX11_told_X11_bitsTold : GoodIn wsX11_told (wsV RX11 393 RX11 yX11_bitsTold wsX11_bitsTold) := goodIn_app (qag qnz [2580, 2581, 2582, 5] rfl (by decide +kernel)) ggX11_told_X11_bitsTold
set_option maxRecDepth 20000 in
theorem ggX11_told_X11_caughtNow : GoodIn wsX11_told wsX11_caughtNow := qaf qnz (by decide +kernel) qI3
set_option maxRecDepth 20000 in
theorem gX11_told_X11_caughtNow : GoodIn wsX11_told (wsV RX11 396 RX11 yX11_caughtNow wsX11_caughtNow) := goodIn_app (qag qnz [2624, 2625, 2626, 5] rfl (by decide +kernel)) ggX11_told_X11_caughtNow
set_option maxRecDepth 20000 in
theorem ggX11_told_X11_safeForms : GoodIn wsX11_told wsX11_safeForms := qaf qnz (by decide +kernel) q2A
set_option maxRecDepth 20000 in
theorem gX11_told_X11_safeForms : GoodIn wsX11_told (wsV RX11 399 RX11 yX11_safeForms wsX11_safeForms) := goodIn_app (qag qnz [2628, 2629, 2630, 5] rfl (by decide +kernel)) ggX11_told_X11_safeForms
set_option maxRecDepth 20000 in
theorem ggX11_told_X11_debtsNow : GoodIn wsX11_told wsX11_debtsNow := qaf qnz (by decide +kernel) q7v
set_option maxRecDepth 20000 in
theorem gX11_told_X11_debtsNow : GoodIn wsX11_told (wsV RX11 402 RX11 yX11_debtsNow wsX11_debtsNow) := goodIn_app (qag qnz [2632, 2633, 2634, 5] rfl (by decide +kernel)) ggX11_told_X11_debtsNow
set_option maxRecDepth 20000 in
theorem ggX11_isForm_X11_within : GoodIn wsX11_isForm wsX11_within := qaf qGc (by decide +kernel) qix
set_option maxRecDepth 20000 in
theorem gX11_isForm_X11_within : GoodIn wsX11_isForm (va_wsS RX11 390 yX11_within wsX11_within) := goodIn_app (qag qGc [2577, 2578, 5] rfl (by decide +kernel)) ggX11_isForm_X11_within
set_option maxRecDepth 20000 in
theorem ggX11_isForm_X11_may : GoodIn wsX11_isForm wsX11_may := qaf qGc (by decide +kernel) qoO
set_option maxRecDepth 20000 in
theorem gX11_isForm_X11_may : GoodIn wsX11_isForm (wsV RX11 213 RX11 yX11_may wsX11_may) := goodIn_app (qag qGc [1105, 1106, 1107, 5] rfl (by decide +kernel)) ggX11_isForm_X11_may
set_option maxRecDepth 20000 in
theorem ggX11_isHare_X11_within : GoodIn wsX11_isHare wsX11_within := qaf qGs (by decide +kernel) qix
set_option maxRecDepth 20000 in
theorem gX11_isHare_X11_within : GoodIn wsX11_isHare (va_wsS RX11 390 yX11_within wsX11_within) := goodIn_app (qag qGs [2577, 2578, 5] rfl (by decide +kernel)) ggX11_isHare_X11_within
set_option maxRecDepth 20000 in
theorem ggX11_isHare_X11_may : GoodIn wsX11_isHare wsX11_may := qaf qGs (by decide +kernel) qoO
set_option maxRecDepth 20000 in
theorem gX11_isHare_X11_may : GoodIn wsX11_isHare (wsV RX11 213 RX11 yX11_may wsX11_may) := goodIn_app (qag qGs [1105, 1106, 1107, 5] rfl (by decide +kernel)) ggX11_isHare_X11_may
set_option maxRecDepth 20000 in
theorem ggX11_form_X11_isForm : GoodIn wsX11_form wsX11_isForm := qaf qtn (by decide +kernel) qK9
set_option maxRecDepth 20000 in
theorem gX11_form_X11_isForm : GoodIn wsX11_form (wsV RX11 405 RX11 yX11_isForm wsX11_isForm) := goodIn_app (qag qtn [2699, 2700, 2701, 5] rfl (by decide +kernel)) ggX11_form_X11_isForm
set_option maxRecDepth 20000 in
theorem ggX11_form_X11_within : GoodIn wsX11_form wsX11_within := qaf qtn (by decide +kernel) qix
set_option maxRecDepth 20000 in
theorem gX11_form_X11_within : GoodIn wsX11_form (va_wsS RX11 390 yX11_within wsX11_within) := goodIn_app (qag qtn [2577, 2578, 5] rfl (by decide +kernel)) ggX11_form_X11_within
set_option maxRecDepth 20000 in
theorem ggX11_form_X11_may : GoodIn wsX11_form wsX11_may := qaf qtn (by decide +kernel) qoO
set_option maxRecDepth 20000 in
theorem gX11_form_X11_may : GoodIn wsX11_form (wsV RX11 213 RX11 yX11_may wsX11_may) := goodIn_app (qag qtn [1105, 1106, 1107, 5] rfl (by decide +kernel)) ggX11_form_X11_may
set_option maxRecDepth 20000 in
theorem ggX11_form_X11_take : GoodIn wsX11_form wsX11_take := qaf qtn (by decide +kernel) qtc
set_option maxRecDepth 20000 in
theorem gX11_form_X11_take : GoodIn wsX11_form (wsV RX11 316 RX11 yX11_take wsX11_take) := goodIn_app (qag qtn [2130, 2131, 2132, 5] rfl (by decide +kernel)) ggX11_form_X11_take
set_option maxRecDepth 20000 in
theorem ggX11_form_X11_isSafe : GoodIn wsX11_form wsX11_isSafe := qaf qtn (by decide +kernel) qSm
set_option maxRecDepth 20000 in
theorem gX11_form_X11_isSafe : GoodIn wsX11_form (wsV RX11 368 RX11 yX11_isSafe wsX11_isSafe) := goodIn_app (qag qtn [2375, 2376, 2377, 5] rfl (by decide +kernel)) ggX11_form_X11_isSafe
set_option maxRecDepth 20000 in
theorem ggX11_form_X11_sitIn : GoodIn wsX11_form wsX11_sitIn := qaf qtn (by decide +kernel) q8P
set_option maxRecDepth 20000 in
theorem gX11_form_X11_sitIn : GoodIn wsX11_form (wsV RX11 348 RX11 yX11_sitIn wsX11_sitIn) := goodIn_app (qag qtn [2253, 2254, 2255, 5] rfl (by decide +kernel)) ggX11_form_X11_sitIn
set_option maxRecDepth 20000 in
theorem ggX11_hare_X11_isHare : GoodIn wsX11_hare wsX11_isHare := qaf qqq (by decide +kernel) qxo
set_option maxRecDepth 20000 in
theorem gX11_hare_X11_isHare : GoodIn wsX11_hare (wsV RX11 408 RX11 yX11_isHare wsX11_isHare) := goodIn_app (qag qqq [2767, 2768, 2769, 5] rfl (by decide +kernel)) ggX11_hare_X11_isHare
set_option maxRecDepth 20000 in
theorem ggX11_hare_X11_within : GoodIn wsX11_hare wsX11_within := qaf qqq (by decide +kernel) qix
set_option maxRecDepth 20000 in
theorem gX11_hare_X11_within : GoodIn wsX11_hare (va_wsS RX11 390 yX11_within wsX11_within) := goodIn_app (qag qqq [2577, 2578, 5] rfl (by decide +kernel)) ggX11_hare_X11_within
set_option maxRecDepth 20000 in
theorem ggX11_hare_X11_may : GoodIn wsX11_hare wsX11_may := qaf qqq (by decide +kernel) qoO
set_option maxRecDepth 20000 in
theorem gX11_hare_X11_may : GoodIn wsX11_hare (wsV RX11 213 RX11 yX11_may wsX11_may) := goodIn_app (qag qqq [1105, 1106, 1107, 5] rfl (by decide +kernel)) ggX11_hare_X11_may
set_option maxRecDepth 20000 in
theorem ggX11_hare_X11_take : GoodIn wsX11_hare wsX11_take := qaf qqq (by decide +kernel) qtc
set_option maxRecDepth 20000 in
theorem gX11_hare_X11_take : GoodIn wsX11_hare (wsV RX11 316 RX11 yX11_take wsX11_take) := goodIn_app (qag qqq [2130, 2131, 2132, 5] rfl (by decide +kernel)) ggX11_hare_X11_take
set_option maxRecDepth 20000 in
theorem ggX11_hare_X11_owes : GoodIn wsX11_hare wsX11_owes := qaf qqq (by decide +kernel) qaLt
set_option maxRecDepth 20000 in
theorem gX11_hare_X11_owes : GoodIn wsX11_hare (wsV RX11 343 RX11 yX11_owes wsX11_owes) := goodIn_app (qag qqq [2245, 2246, 2247, 5] rfl (by decide +kernel)) ggX11_hare_X11_owes
set_option maxRecDepth 20000 in
theorem ggX11_hare_X11_isOwed : GoodIn wsX11_hare wsX11_isOwed := qaf qqq (by decide +kernel) qSX
set_option maxRecDepth 20000 in
theorem gX11_hare_X11_isOwed : GoodIn wsX11_hare (wsV RX11 345 RX11 yX11_isOwed wsX11_isOwed) := goodIn_app (qag qqq [2249, 2250, 2251, 5] rfl (by decide +kernel)) ggX11_hare_X11_isOwed
set_option maxRecDepth 20000 in
theorem ggX11_hare_X11_leapBy : GoodIn wsX11_hare wsX11_leapBy := qaf qqq (by decide +kernel) q1w
set_option maxRecDepth 20000 in
theorem gX11_hare_X11_leapBy : GoodIn wsX11_hare (wsV RX11 361 RX11 yX11_leapBy wsX11_leapBy) := goodIn_app (qag qqq [2241, 2242, 2243, 5] rfl (by decide +kernel)) ggX11_hare_X11_leapBy
set_option maxRecDepth 20000 in
theorem ggX11_fox_X11_within : GoodIn wsX11_fox wsX11_within := qaf qLf (by decide +kernel) qix
set_option maxRecDepth 20000 in
theorem gX11_fox_X11_within : GoodIn wsX11_fox (va_wsS RX11 390 yX11_within wsX11_within) := goodIn_app (qag qLf [2577, 2578, 5] rfl (by decide +kernel)) ggX11_fox_X11_within
set_option maxRecDepth 20000 in
theorem ggX11_fox_X11_may : GoodIn wsX11_fox wsX11_may := qaf qLf (by decide +kernel) qoO
set_option maxRecDepth 20000 in
theorem gX11_fox_X11_may : GoodIn wsX11_fox (wsV RX11 213 RX11 yX11_may wsX11_may) := goodIn_app (qag qLf [1105, 1106, 1107, 5] rfl (by decide +kernel)) ggX11_fox_X11_may
set_option maxRecDepth 20000 in
theorem ggX11_debt_X11_isHare : GoodIn wsX11_debt wsX11_isHare := qaf qVh (by decide +kernel) qxo
set_option maxRecDepth 20000 in
theorem gX11_debt_X11_isHare : GoodIn wsX11_debt (wsV RX11 408 RX11 yX11_isHare wsX11_isHare) := goodIn_app (qag qVh [2767, 2768, 2769, 5] rfl (by decide +kernel)) ggX11_debt_X11_isHare
set_option maxRecDepth 20000 in
theorem ggX11_far_X11_isForm : GoodIn wsX11_far wsX11_isForm := qaf qUR (by decide +kernel) qK9
set_option maxRecDepth 20000 in
theorem gX11_far_X11_isForm : GoodIn wsX11_far (wsV RX11 405 RX11 yX11_isForm wsX11_isForm) := goodIn_app (qag qUR [2699, 2700, 2701, 5] rfl (by decide +kernel)) ggX11_far_X11_isForm
set_option maxRecDepth 20000 in
theorem ggX11_far_X11_farOf : GoodIn wsX11_far wsX11_farOf := qaf qUR (by decide +kernel) qFk
set_option maxRecDepth 20000 in
theorem gX11_far_X11_farOf : GoodIn wsX11_far (wsV RX11 358 RX11 yX11_farOf wsX11_farOf) := goodIn_app (qag qUR [2194, 2195, 2196, 5] rfl (by decide +kernel)) ggX11_far_X11_farOf
set_option maxRecDepth 20000 in
theorem ggX11_would_X11_within : GoodIn wsX11_would wsX11_within := qaf qBE (by decide +kernel) qix
set_option maxRecDepth 20000 in
theorem gX11_would_X11_within : GoodIn wsX11_would (va_wsS RX11 390 yX11_within wsX11_within) := goodIn_app (qag qBE [2577, 2578, 5] rfl (by decide +kernel)) ggX11_would_X11_within
set_option maxRecDepth 20000 in
theorem ggX11_would_X11_may : GoodIn wsX11_would wsX11_may := qaf qBE (by decide +kernel) qoO
set_option maxRecDepth 20000 in
theorem gX11_would_X11_may : GoodIn wsX11_would (wsV RX11 213 RX11 yX11_may wsX11_may) := goodIn_app (qag qBE [1105, 1106, 1107, 5] rfl (by decide +kernel)) ggX11_would_X11_may
set_option maxRecDepth 20000 in
theorem ggX11_would_X11_leapOf : GoodIn wsX11_would wsX11_leapOf := qaf qBE (by decide +kernel) qaol
set_option maxRecDepth 20000 in
theorem gX11_would_X11_leapOf : GoodIn wsX11_would (wsV RX11 354 RX11 yX11_leapOf wsX11_leapOf) := goodIn_app (qag qBE [2260, 2261, 2262, 5] rfl (by decide +kernel)) ggX11_would_X11_leapOf
set_option maxRecDepth 20000 in
theorem ggX11_can_X11_isHare : GoodIn wsX11_can wsX11_isHare := qaf qDW (by decide +kernel) qxo
set_option maxRecDepth 20000 in
theorem gX11_can_X11_isHare : GoodIn wsX11_can (wsV RX11 408 RX11 yX11_isHare wsX11_isHare) := goodIn_app (qag qDW [2767, 2768, 2769, 5] rfl (by decide +kernel)) ggX11_can_X11_isHare
set_option maxRecDepth 20000 in
theorem ggX11_can_X11_isForm : GoodIn wsX11_can wsX11_isForm := qaf qDW (by decide +kernel) qK9
set_option maxRecDepth 20000 in
theorem gX11_can_X11_isForm : GoodIn wsX11_can (wsV RX11 405 RX11 yX11_isForm wsX11_isForm) := goodIn_app (qag qDW [2699, 2700, 2701, 5] rfl (by decide +kernel)) ggX11_can_X11_isForm
set_option maxRecDepth 20000 in
theorem ggX11_can_X11_take : GoodIn wsX11_can wsX11_take := qaf qDW (by decide +kernel) qtc
set_option maxRecDepth 20000 in
theorem gX11_can_X11_take : GoodIn wsX11_can (wsV RX11 316 RX11 yX11_take wsX11_take) := goodIn_app (qag qDW [2130, 2131, 2132, 5] rfl (by decide +kernel)) ggX11_can_X11_take
set_option maxRecDepth 20000 in
theorem ggX11_can_X11_canLeap : GoodIn wsX11_can wsX11_canLeap := qaf qDW (by decide +kernel) qXb
set_option maxRecDepth 20000 in
theorem gX11_can_X11_canLeap : GoodIn wsX11_can (wsV RX11 364 RX11 yX11_canLeap wsX11_canLeap) := goodIn_app (qag qDW [2186, 2187, 2188, 5] rfl (by decide +kernel)) ggX11_can_X11_canLeap
set_option maxRecDepth 20000 in
theorem ggX11_rangeOf_X11_canLeap : GoodIn wsX11_rangeOf wsX11_canLeap := qaf qOm (by decide +kernel) qXb
set_option maxRecDepth 20000 in
theorem gX11_rangeOf_X11_canLeap : GoodIn wsX11_rangeOf (wsV RX11 364 RX11 yX11_canLeap wsX11_canLeap) := goodIn_app (qag qOm [2186, 2187, 2188, 5] rfl (by decide +kernel)) ggX11_rangeOf_X11_canLeap
set_option maxRecDepth 20000 in
theorem ggX11_range_X11_isHare : GoodIn wsX11_range wsX11_isHare := qaf qBN (by decide +kernel) qxo
set_option maxRecDepth 20000 in
theorem gX11_range_X11_isHare : GoodIn wsX11_range (wsV RX11 408 RX11 yX11_isHare wsX11_isHare) := goodIn_app (qag qBN [2767, 2768, 2769, 5] rfl (by decide +kernel)) ggX11_range_X11_isHare
set_option maxRecDepth 20000 in
theorem ggX11_range_X11_take : GoodIn wsX11_range wsX11_take := qaf qBN (by decide +kernel) qtc
set_option maxRecDepth 20000 in
theorem gX11_range_X11_take : GoodIn wsX11_range (wsV RX11 316 RX11 yX11_take wsX11_take) := goodIn_app (qag qBN [2130, 2131, 2132, 5] rfl (by decide +kernel)) ggX11_range_X11_take
set_option maxRecDepth 20000 in
theorem ggX11_range_X11_rangeOf : GoodIn wsX11_range wsX11_rangeOf := qaf qBN (by decide +kernel) qahQ
set_option maxRecDepth 20000 in
theorem gX11_range_X11_rangeOf : GoodIn wsX11_range (wsV RX11 411 RX11 yX11_rangeOf wsX11_rangeOf) := goodIn_app (qag qBN [3159, 3200, 3201, 5] rfl (by decide +kernel)) ggX11_range_X11_rangeOf
set_option maxRecDepth 20000 in
theorem ggX11_ahead_X11_within : GoodIn wsX11_ahead wsX11_within := qaf qq1 (by decide +kernel) qix
set_option maxRecDepth 20000 in
theorem gX11_ahead_X11_within : GoodIn wsX11_ahead (va_wsS RX11 390 yX11_within wsX11_within) := goodIn_app (qag qq1 [2577, 2578, 5] rfl (by decide +kernel)) ggX11_ahead_X11_within
set_option maxRecDepth 20000 in
theorem ggX11_ahead_X11_may : GoodIn wsX11_ahead wsX11_may := qaf qq1 (by decide +kernel) qoO
set_option maxRecDepth 20000 in
theorem gX11_ahead_X11_may : GoodIn wsX11_ahead (wsV RX11 213 RX11 yX11_may wsX11_may) := goodIn_app (qag qq1 [1105, 1106, 1107, 5] rfl (by decide +kernel)) ggX11_ahead_X11_may
set_option maxRecDepth 20000 in
theorem ggX11_ahead_X11_take : GoodIn wsX11_ahead wsX11_take := qaf qq1 (by decide +kernel) qtc
set_option maxRecDepth 20000 in
theorem gX11_ahead_X11_take : GoodIn wsX11_ahead (wsV RX11 316 RX11 yX11_take wsX11_take) := goodIn_app (qag qq1 [2130, 2131, 2132, 5] rfl (by decide +kernel)) ggX11_ahead_X11_take
set_option maxRecDepth 20000 in
theorem ggX11_ahead_X11_passes : GoodIn wsX11_ahead wsX11_passes := qaf qq1 (by decide +kernel) q4F
set_option maxRecDepth 20000 in
theorem gX11_ahead_X11_passes : GoodIn wsX11_ahead (wsV RX11 387 RX11 yX11_passes wsX11_passes) := goodIn_app (qag qq1 [2323, 2324, 2325, 5] rfl (by decide +kernel)) ggX11_ahead_X11_passes
set_option maxRecDepth 20000 in
theorem ggX11_ahead_X11_caughtNow : GoodIn wsX11_ahead wsX11_caughtNow := qaf qq1 (by decide +kernel) qI3
set_option maxRecDepth 20000 in
theorem gX11_ahead_X11_caughtNow : GoodIn wsX11_ahead (wsV RX11 396 RX11 yX11_caughtNow wsX11_caughtNow) := goodIn_app (qag qq1 [2624, 2625, 2626, 5] rfl (by decide +kernel)) ggX11_ahead_X11_caughtNow
set_option maxRecDepth 20000 in
theorem ggX11_ahead_X11_debtsNow : GoodIn wsX11_ahead wsX11_debtsNow := qaf qq1 (by decide +kernel) q7v
set_option maxRecDepth 20000 in
theorem gX11_ahead_X11_debtsNow : GoodIn wsX11_ahead (wsV RX11 402 RX11 yX11_debtsNow wsX11_debtsNow) := goodIn_app (qag qq1 [2632, 2633, 2634, 5] rfl (by decide +kernel)) ggX11_ahead_X11_debtsNow
set_option maxRecDepth 20000 in
theorem ggX11_hops_X11_isHare : GoodIn wsX11_hops wsX11_isHare := qaf qsr (by decide +kernel) qxo
set_option maxRecDepth 20000 in
theorem gX11_hops_X11_isHare : GoodIn wsX11_hops (wsV RX11 408 RX11 yX11_isHare wsX11_isHare) := goodIn_app (qag qsr [2767, 2768, 2769, 5] rfl (by decide +kernel)) ggX11_hops_X11_isHare
set_option maxRecDepth 20000 in
theorem ggX11_hops_X11_isForm : GoodIn wsX11_hops wsX11_isForm := qaf qsr (by decide +kernel) qK9
set_option maxRecDepth 20000 in
theorem gX11_hops_X11_isForm : GoodIn wsX11_hops (wsV RX11 405 RX11 yX11_isForm wsX11_isForm) := goodIn_app (qag qsr [2699, 2700, 2701, 5] rfl (by decide +kernel)) ggX11_hops_X11_isForm
set_option maxRecDepth 20000 in
theorem ggX11_hops_X11_take : GoodIn wsX11_hops wsX11_take := qaf qsr (by decide +kernel) qtc
set_option maxRecDepth 20000 in
theorem gX11_hops_X11_take : GoodIn wsX11_hops (wsV RX11 316 RX11 yX11_take wsX11_take) := goodIn_app (qag qsr [2130, 2131, 2132, 5] rfl (by decide +kernel)) ggX11_hops_X11_take
set_option maxRecDepth 20000 in
theorem ggX11_hops_X11_isCaught : GoodIn wsX11_hops wsX11_isCaught := qaf qsr (by decide +kernel) qnl
set_option maxRecDepth 20000 in
theorem gX11_hops_X11_isCaught : GoodIn wsX11_hops (wsV RX11 340 RX11 yX11_isCaught wsX11_isCaught) := goodIn_app (qag qsr [2190, 2191, 2192, 5] rfl (by decide +kernel)) ggX11_hops_X11_isCaught
set_option maxRecDepth 20000 in
theorem ggX11_hops_X11_leapBy : GoodIn wsX11_hops wsX11_leapBy := qaf qsr (by decide +kernel) q1w
set_option maxRecDepth 20000 in
theorem gX11_hops_X11_leapBy : GoodIn wsX11_hops (wsV RX11 361 RX11 yX11_leapBy wsX11_leapBy) := goodIn_app (qag qsr [2241, 2242, 2243, 5] rfl (by decide +kernel)) ggX11_hops_X11_leapBy
set_option maxRecDepth 20000 in
theorem ggX11_hops_X11_farOf : GoodIn wsX11_hops wsX11_farOf := qaf qsr (by decide +kernel) qFk
set_option maxRecDepth 20000 in
theorem gX11_hops_X11_farOf : GoodIn wsX11_hops (wsV RX11 358 RX11 yX11_farOf wsX11_farOf) := goodIn_app (qag qsr [2194, 2195, 2196, 5] rfl (by decide +kernel)) ggX11_hops_X11_farOf
set_option maxRecDepth 20000 in
theorem ggX11_findSeats_X11_take : GoodIn wsX11_findSeats wsX11_take := qaf qio (by decide +kernel) qtc
set_option maxRecDepth 20000 in
theorem gX11_findSeats_X11_take : GoodIn wsX11_findSeats (wsV RX11 316 RX11 yX11_take wsX11_take) := goodIn_app (qag qio [2130, 2131, 2132, 5] rfl (by decide +kernel)) ggX11_findSeats_X11_take
set_option maxRecDepth 20000 in
theorem ggX11_findSeats_X11_isCaught : GoodIn wsX11_findSeats wsX11_isCaught := qaf qio (by decide +kernel) qnl
set_option maxRecDepth 20000 in
theorem gX11_findSeats_X11_isCaught : GoodIn wsX11_findSeats (wsV RX11 340 RX11 yX11_isCaught wsX11_isCaught) := goodIn_app (qag qio [2190, 2191, 2192, 5] rfl (by decide +kernel)) ggX11_findSeats_X11_isCaught
set_option maxRecDepth 20000 in
theorem ggX11_findSeats_X11_rangeOf : GoodIn wsX11_findSeats wsX11_rangeOf := qaf qio (by decide +kernel) qahQ
set_option maxRecDepth 20000 in
theorem gX11_findSeats_X11_rangeOf : GoodIn wsX11_findSeats (wsV RX11 411 RX11 yX11_rangeOf wsX11_rangeOf) := goodIn_app (qag qio [3159, 3200, 3201, 5] rfl (by decide +kernel)) ggX11_findSeats_X11_rangeOf
set_option maxRecDepth 20000 in
theorem ggX11_findSeats_X11_safeForms : GoodIn wsX11_findSeats wsX11_safeForms := qaf qio (by decide +kernel) q2A
set_option maxRecDepth 20000 in
theorem gX11_findSeats_X11_safeForms : GoodIn wsX11_findSeats (wsV RX11 399 RX11 yX11_safeForms wsX11_safeForms) := goodIn_app (qag qio [2628, 2629, 2630, 5] rfl (by decide +kernel)) ggX11_findSeats_X11_safeForms
set_option maxRecDepth 20000 in
theorem ggX11_seats_X11_findSeats : GoodIn wsX11_seats wsX11_findSeats := qaf qOY (by decide +kernel) q4l
set_option maxRecDepth 20000 in
theorem gX11_seats_X11_findSeats : GoodIn wsX11_seats (wsV RX11 414 RX11 yX11_findSeats wsX11_findSeats) := goodIn_app (qag qOY [3155, 3156, 3157, 5] rfl (by decide +kernel)) ggX11_seats_X11_findSeats
set_option maxRecDepth 20000 in
theorem ggX11_seat_X11_isHare : GoodIn wsX11_seat wsX11_isHare := qaf qJA (by decide +kernel) qxo
set_option maxRecDepth 20000 in
theorem gX11_seat_X11_isHare : GoodIn wsX11_seat (wsV RX11 408 RX11 yX11_isHare wsX11_isHare) := goodIn_app (qag qJA [2767, 2768, 2769, 5] rfl (by decide +kernel)) ggX11_seat_X11_isHare
set_option maxRecDepth 20000 in
theorem ggX11_seat_X11_findSeats : GoodIn wsX11_seat wsX11_findSeats := qaf qJA (by decide +kernel) q4l
set_option maxRecDepth 20000 in
theorem gX11_seat_X11_findSeats : GoodIn wsX11_seat (wsV RX11 414 RX11 yX11_findSeats wsX11_findSeats) := goodIn_app (qag qJA [3155, 3156, 3157, 5] rfl (by decide +kernel)) ggX11_seat_X11_findSeats
set_option maxRecDepth 20000 in
theorem ggX11_layRing_X11_farOf : GoodIn wsX11_layRing wsX11_farOf := qaf qIA (by decide +kernel) qFk
set_option maxRecDepth 20000 in
theorem gX11_layRing_X11_farOf : GoodIn wsX11_layRing (wsV RX11 358 RX11 yX11_farOf wsX11_farOf) := goodIn_app (qag qIA [2194, 2195, 2196, 5] rfl (by decide +kernel)) ggX11_layRing_X11_farOf
set_option maxRecDepth 20000 in
theorem ggX11_ring_X11_layRing : GoodIn wsX11_ring wsX11_layRing := qaf qOt (by decide +kernel) qafN
set_option maxRecDepth 20000 in
theorem gX11_ring_X11_layRing : GoodIn wsX11_ring (wsV RX11 417 RX11 yX11_layRing wsX11_layRing) := goodIn_app (qag qOt [3333, 3334, 3335, 5] rfl (by decide +kernel)) ggX11_ring_X11_layRing
set_option maxRecDepth 20000 in
theorem ggX11_ringed_X11_may : GoodIn wsX11_ringed wsX11_may := qaf qvp (by decide +kernel) qoO
set_option maxRecDepth 20000 in
theorem gX11_ringed_X11_may : GoodIn wsX11_ringed (wsV RX11 213 RX11 yX11_may wsX11_may) := goodIn_app (qag qvp [1105, 1106, 1107, 5] rfl (by decide +kernel)) ggX11_ringed_X11_may
set_option maxRecDepth 20000 in
theorem ggX11_ringed_X11_layRing : GoodIn wsX11_ringed wsX11_layRing := qaf qvp (by decide +kernel) qafN
set_option maxRecDepth 20000 in
theorem gX11_ringed_X11_layRing : GoodIn wsX11_ringed (wsV RX11 417 RX11 yX11_layRing wsX11_layRing) := goodIn_app (qag qvp [3333, 3334, 3335, 5] rfl (by decide +kernel)) ggX11_ringed_X11_layRing
set_option maxRecDepth 20000 in
theorem ggX11_ringed_X11_farOf : GoodIn wsX11_ringed wsX11_farOf := qaf qvp (by decide +kernel) qFk
set_option maxRecDepth 20000 in
theorem gX11_ringed_X11_farOf : GoodIn wsX11_ringed (wsV RX11 358 RX11 yX11_farOf wsX11_farOf) := goodIn_app (qag qvp [2194, 2195, 2196, 5] rfl (by decide +kernel)) ggX11_ringed_X11_farOf
set_option maxRecDepth 20000 in
theorem ggX11_lastsIn_X11_lastsIn : GoodIn wsX11_lastsIn wsX11_lastsIn := qaf qxe (by decide +kernel) qaeL
set_option maxRecDepth 20000 in
theorem gX11_lastsIn_X11_lastsIn : GoodIn wsX11_lastsIn (wsV RX11 420 RX11 yX11_lastsIn wsX11_lastsIn) := goodIn_app (qag qxe [3409, 3410, 3411, 5] rfl (by decide +kernel)) ggX11_lastsIn_X11_lastsIn
set_option maxRecDepth 20000 in
theorem ggX11_bouts_X11_isHare : GoodIn wsX11_bouts wsX11_isHare := qaf quz (by decide +kernel) qxo
set_option maxRecDepth 20000 in
theorem gX11_bouts_X11_isHare : GoodIn wsX11_bouts (wsV RX11 408 RX11 yX11_isHare wsX11_isHare) := goodIn_app (qag quz [2767, 2768, 2769, 5] rfl (by decide +kernel)) ggX11_bouts_X11_isHare
set_option maxRecDepth 20000 in
theorem ggX11_bouts_X11_take : GoodIn wsX11_bouts wsX11_take := qaf quz (by decide +kernel) qtc
set_option maxRecDepth 20000 in
theorem gX11_bouts_X11_take : GoodIn wsX11_bouts (wsV RX11 316 RX11 yX11_take wsX11_take) := goodIn_app (qag quz [2130, 2131, 2132, 5] rfl (by decide +kernel)) ggX11_bouts_X11_take
set_option maxRecDepth 20000 in
theorem ggX11_bouts_X11_caughtNow : GoodIn wsX11_bouts wsX11_caughtNow := qaf quz (by decide +kernel) qI3
set_option maxRecDepth 20000 in
theorem gX11_bouts_X11_caughtNow : GoodIn wsX11_bouts (wsV RX11 396 RX11 yX11_caughtNow wsX11_caughtNow) := goodIn_app (qag quz [2624, 2625, 2626, 5] rfl (by decide +kernel)) ggX11_bouts_X11_caughtNow
set_option maxRecDepth 20000 in
theorem ggX11_bouts_X11_lastsIn : GoodIn wsX11_bouts wsX11_lastsIn := qaf quz (by decide +kernel) qaeL
set_option maxRecDepth 20000 in
theorem gX11_bouts_X11_lastsIn : GoodIn wsX11_bouts (wsV RX11 420 RX11 yX11_lastsIn wsX11_lastsIn) := goodIn_app (qag quz [3409, 3410, 3411, 5] rfl (by decide +kernel)) ggX11_bouts_X11_lastsIn
set_option maxRecDepth 20000 in
theorem ggX11_sitsThen_X11_sitIn : GoodIn wsX11_sitsThen wsX11_sitIn := qaf qKP (by decide +kernel) q8P
set_option maxRecDepth 20000 in
theorem gX11_sitsThen_X11_sitIn : GoodIn wsX11_sitsThen (wsV RX11 348 RX11 yX11_sitIn wsX11_sitIn) := goodIn_app (qag qKP [2253, 2254, 2255, 5] rfl (by decide +kernel)) ggX11_sitsThen_X11_sitIn
set_option maxRecDepth 20000 in
theorem ggX11_sitsThen_X11_ones : GoodIn wsX11_sitsThen wsX11_ones := qaf qKP (by decide +kernel) qajG
set_option maxRecDepth 20000 in
theorem gX11_sitsThen_X11_ones : GoodIn wsX11_sitsThen (va_wsS RX11 351 yX11_ones wsX11_ones) := goodIn_app (qag qKP [2257, 2258, 5] rfl (by decide +kernel)) ggX11_sitsThen_X11_ones
set_option maxRecDepth 20000 in
theorem ggX11_isFit_X11_isCaught : GoodIn wsX11_isFit wsX11_isCaught := qaf qFg (by decide +kernel) qnl
set_option maxRecDepth 20000 in
theorem gX11_isFit_X11_isCaught : GoodIn wsX11_isFit (wsV RX11 340 RX11 yX11_isCaught wsX11_isCaught) := goodIn_app (qag qFg [2190, 2191, 2192, 5] rfl (by decide +kernel)) ggX11_isFit_X11_isCaught
set_option maxRecDepth 20000 in
theorem ggX11_isFit_X11_sitsThen : GoodIn wsX11_isFit wsX11_sitsThen := qaf qFg (by decide +kernel) q7Y
set_option maxRecDepth 20000 in
theorem gX11_isFit_X11_sitsThen : GoodIn wsX11_isFit (wsV RX11 424 RX11 yX11_sitsThen wsX11_sitsThen) := goodIn_app (qag qFg [3542, 3543, 3584, 5] rfl (by decide +kernel)) ggX11_isFit_X11_sitsThen
set_option maxRecDepth 20000 in
theorem ggX11_fits_X11_within : GoodIn wsX11_fits wsX11_within := qaf qwD (by decide +kernel) qix
set_option maxRecDepth 20000 in
theorem gX11_fits_X11_within : GoodIn wsX11_fits (va_wsS RX11 390 yX11_within wsX11_within) := goodIn_app (qag qwD [2577, 2578, 5] rfl (by decide +kernel)) ggX11_fits_X11_within
set_option maxRecDepth 20000 in
theorem ggX11_fits_X11_may : GoodIn wsX11_fits wsX11_may := qaf qwD (by decide +kernel) qoO
set_option maxRecDepth 20000 in
theorem gX11_fits_X11_may : GoodIn wsX11_fits (wsV RX11 213 RX11 yX11_may wsX11_may) := goodIn_app (qag qwD [1105, 1106, 1107, 5] rfl (by decide +kernel)) ggX11_fits_X11_may
set_option maxRecDepth 20000 in
theorem ggX11_fits_X11_take : GoodIn wsX11_fits wsX11_take := qaf qwD (by decide +kernel) qtc
set_option maxRecDepth 20000 in
theorem gX11_fits_X11_take : GoodIn wsX11_fits (wsV RX11 316 RX11 yX11_take wsX11_take) := goodIn_app (qag qwD [2130, 2131, 2132, 5] rfl (by decide +kernel)) ggX11_fits_X11_take
set_option maxRecDepth 20000 in
theorem ggX11_fits_X11_isFit : GoodIn wsX11_fits wsX11_isFit := qaf qwD (by decide +kernel) qaw4
set_option maxRecDepth 20000 in
theorem gX11_fits_X11_isFit : GoodIn wsX11_fits (wsV RX11 427 RX11 yX11_isFit wsX11_isFit) := goodIn_app (qag qwD [3538, 3539, 3540, 5] rfl (by decide +kernel)) ggX11_fits_X11_isFit
set_option maxRecDepth 20000 in
theorem ggX11_worstOf_X11_isFit : GoodIn wsX11_worstOf wsX11_isFit := qaf qw9 (by decide +kernel) qaw4
set_option maxRecDepth 20000 in
theorem gX11_worstOf_X11_isFit : GoodIn wsX11_worstOf (wsV RX11 427 RX11 yX11_isFit wsX11_isFit) := goodIn_app (qag qw9 [3538, 3539, 3540, 5] rfl (by decide +kernel)) ggX11_worstOf_X11_isFit
set_option maxRecDepth 20000 in
theorem ggX11_worstOf_X11_sitsThen : GoodIn wsX11_worstOf wsX11_sitsThen := qaf qw9 (by decide +kernel) q7Y
set_option maxRecDepth 20000 in
theorem gX11_worstOf_X11_sitsThen : GoodIn wsX11_worstOf (wsV RX11 424 RX11 yX11_sitsThen wsX11_sitsThen) := goodIn_app (qag qw9 [3542, 3543, 3584, 5] rfl (by decide +kernel)) ggX11_worstOf_X11_sitsThen
set_option maxRecDepth 20000 in
theorem ggX11_look_X11_within : GoodIn wsX11_look wsX11_within := qaf qwE (by decide +kernel) qix
set_option maxRecDepth 20000 in
theorem gX11_look_X11_within : GoodIn wsX11_look (va_wsS RX11 390 yX11_within wsX11_within) := goodIn_app (qag qwE [2577, 2578, 5] rfl (by decide +kernel)) ggX11_look_X11_within
set_option maxRecDepth 20000 in
theorem ggX11_look_X11_may : GoodIn wsX11_look wsX11_may := qaf qwE (by decide +kernel) qoO
set_option maxRecDepth 20000 in
theorem gX11_look_X11_may : GoodIn wsX11_look (wsV RX11 213 RX11 yX11_may wsX11_may) := goodIn_app (qag qwE [1105, 1106, 1107, 5] rfl (by decide +kernel)) ggX11_look_X11_may
set_option maxRecDepth 20000 in
theorem ggX11_look_X11_take : GoodIn wsX11_look wsX11_take := qaf qwE (by decide +kernel) qtc
set_option maxRecDepth 20000 in
theorem gX11_look_X11_take : GoodIn wsX11_look (wsV RX11 316 RX11 yX11_take wsX11_take) := goodIn_app (qag qwE [2130, 2131, 2132, 5] rfl (by decide +kernel)) ggX11_look_X11_take
set_option maxRecDepth 20000 in
theorem ggX11_look_X11_worstOf : GoodIn wsX11_look wsX11_worstOf := qaf qwE (by decide +kernel) qaOV
set_option maxRecDepth 20000 in
theorem gX11_look_X11_worstOf : GoodIn wsX11_look (wsV RX11 430 RX11 yX11_worstOf wsX11_worstOf) := goodIn_app (qag qwE [3655, 3656, 3657, 5] rfl (by decide +kernel)) ggX11_look_X11_worstOf
set_option maxRecDepth 20000 in
theorem ggX11_watch_X11_within : GoodIn wsX11_watch wsX11_within := qaf qv8 (by decide +kernel) qix
set_option maxRecDepth 20000 in
theorem gX11_watch_X11_within : GoodIn wsX11_watch (va_wsS RX11 390 yX11_within wsX11_within) := goodIn_app (qag qv8 [2577, 2578, 5] rfl (by decide +kernel)) ggX11_watch_X11_within
set_option maxRecDepth 20000 in
theorem ggX11_watch_X11_may : GoodIn wsX11_watch wsX11_may := qaf qv8 (by decide +kernel) qoO
set_option maxRecDepth 20000 in
theorem gX11_watch_X11_may : GoodIn wsX11_watch (wsV RX11 213 RX11 yX11_may wsX11_may) := goodIn_app (qag qv8 [1105, 1106, 1107, 5] rfl (by decide +kernel)) ggX11_watch_X11_may
set_option maxRecDepth 20000 in
theorem ggX11_watch_X11_farOf : GoodIn wsX11_watch wsX11_farOf := qaf qv8 (by decide +kernel) qFk
set_option maxRecDepth 20000 in
theorem gX11_watch_X11_farOf : GoodIn wsX11_watch (wsV RX11 358 RX11 yX11_farOf wsX11_farOf) := goodIn_app (qag qv8 [2194, 2195, 2196, 5] rfl (by decide +kernel)) ggX11_watch_X11_farOf
set_option maxRecDepth 20000 in
theorem ggX11_watch_X11_ones : GoodIn wsX11_watch wsX11_ones := qaf qv8 (by decide +kernel) qajG
set_option maxRecDepth 20000 in
theorem gX11_watch_X11_ones : GoodIn wsX11_watch (va_wsS RX11 351 yX11_ones wsX11_ones) := goodIn_app (qag qv8 [2257, 2258, 5] rfl (by decide +kernel)) ggX11_watch_X11_ones
set_option maxRecDepth 20000 in
theorem ggX11_few_X11_within : GoodIn wsX11_few wsX11_within := qaf qDS (by decide +kernel) qix
set_option maxRecDepth 20000 in
theorem gX11_few_X11_within : GoodIn wsX11_few (va_wsS RX11 390 yX11_within wsX11_within) := goodIn_app (qag qDS [2577, 2578, 5] rfl (by decide +kernel)) ggX11_few_X11_within
set_option maxRecDepth 20000 in
theorem ggX11_few_X11_may : GoodIn wsX11_few wsX11_may := qaf qDS (by decide +kernel) qoO
set_option maxRecDepth 20000 in
theorem gX11_few_X11_may : GoodIn wsX11_few (wsV RX11 213 RX11 yX11_may wsX11_may) := goodIn_app (qag qDS [1105, 1106, 1107, 5] rfl (by decide +kernel)) ggX11_few_X11_may
set_option maxRecDepth 20000 in
theorem ggX11_few_X11_least : GoodIn wsX11_few wsX11_least := qaf qDS (by decide +kernel) qaZK
set_option maxRecDepth 20000 in
theorem gX11_few_X11_least : GoodIn wsX11_few (va_wsS RX11 435 yX11_least wsX11_least) := goodIn_app (qag qDS [3777, 3778, 5] rfl (by decide +kernel)) ggX11_few_X11_least
set_option maxRecDepth 20000 in
theorem ggX11_road_X11_within : GoodIn wsX11_road wsX11_within := qaf qGi (by decide +kernel) qix
set_option maxRecDepth 20000 in
theorem gX11_road_X11_within : GoodIn wsX11_road (va_wsS RX11 390 yX11_within wsX11_within) := goodIn_app (qag qGi [2577, 2578, 5] rfl (by decide +kernel)) ggX11_road_X11_within
set_option maxRecDepth 20000 in
theorem ggX11_road_X11_may : GoodIn wsX11_road wsX11_may := qaf qGi (by decide +kernel) qoO
set_option maxRecDepth 20000 in
theorem gX11_road_X11_may : GoodIn wsX11_road (wsV RX11 213 RX11 yX11_may wsX11_may) := goodIn_app (qag qGi [1105, 1106, 1107, 5] rfl (by decide +kernel)) ggX11_road_X11_may
set_option maxRecDepth 20000 in
theorem ggX11_road_X11_hasBy : GoodIn wsX11_road wsX11_hasBy := qaf qGi (by decide +kernel) qaWu
set_option maxRecDepth 20000 in
theorem gX11_road_X11_hasBy : GoodIn wsX11_road (va_wsS RX11 438 yX11_hasBy wsX11_hasBy) := goodIn_app (qag qGi [3794, 3795, 5] rfl (by decide +kernel)) ggX11_road_X11_hasBy
set_option maxRecDepth 20000 in
theorem ggX11_cloverBy_X11_isOwed : GoodIn wsX11_cloverBy wsX11_isOwed := qaf qKm (by decide +kernel) qSX
set_option maxRecDepth 20000 in
theorem gX11_cloverBy_X11_isOwed : GoodIn wsX11_cloverBy (wsV RX11 345 RX11 yX11_isOwed wsX11_isOwed) := goodIn_app (qag qKm [2249, 2250, 2251, 5] rfl (by decide +kernel)) ggX11_cloverBy_X11_isOwed
set_option maxRecDepth 20000 in
theorem ggX11_clover_X11_isHare : GoodIn wsX11_clover wsX11_isHare := qaf qo4 (by decide +kernel) qxo
set_option maxRecDepth 20000 in
theorem gX11_clover_X11_isHare : GoodIn wsX11_clover (wsV RX11 408 RX11 yX11_isHare wsX11_isHare) := goodIn_app (qag qo4 [2767, 2768, 2769, 5] rfl (by decide +kernel)) ggX11_clover_X11_isHare
set_option maxRecDepth 20000 in
theorem ggX11_clover_X11_within : GoodIn wsX11_clover wsX11_within := qaf qo4 (by decide +kernel) qix
set_option maxRecDepth 20000 in
theorem gX11_clover_X11_within : GoodIn wsX11_clover (va_wsS RX11 390 yX11_within wsX11_within) := goodIn_app (qag qo4 [2577, 2578, 5] rfl (by decide +kernel)) ggX11_clover_X11_within
set_option maxRecDepth 20000 in
theorem ggX11_clover_X11_may : GoodIn wsX11_clover wsX11_may := qaf qo4 (by decide +kernel) qoO
set_option maxRecDepth 20000 in
theorem gX11_clover_X11_may : GoodIn wsX11_clover (wsV RX11 213 RX11 yX11_may wsX11_may) := goodIn_app (qag qo4 [1105, 1106, 1107, 5] rfl (by decide +kernel)) ggX11_clover_X11_may
set_option maxRecDepth 20000 in
theorem ggX11_clover_X11_take : GoodIn wsX11_clover wsX11_take := qaf qo4 (by decide +kernel) qtc
set_option maxRecDepth 20000 in
theorem gX11_clover_X11_take : GoodIn wsX11_clover (wsV RX11 316 RX11 yX11_take wsX11_take) := goodIn_app (qag qo4 [2130, 2131, 2132, 5] rfl (by decide +kernel)) ggX11_clover_X11_take
set_option maxRecDepth 20000 in
theorem ggX11_clover_X11_cloverBy : GoodIn wsX11_clover wsX11_cloverBy := qaf qo4 (by decide +kernel) qaGW
set_option maxRecDepth 20000 in
theorem gX11_clover_X11_cloverBy : GoodIn wsX11_clover (wsV RX11 441 RX11 yX11_cloverBy wsX11_cloverBy) := goodIn_app (qag qo4 [3857, 3858, 3859, 5] rfl (by decide +kernel)) ggX11_clover_X11_cloverBy
set_option maxRecDepth 20000 in
theorem ggX11_clover_X11_isOwed : GoodIn wsX11_clover wsX11_isOwed := qaf qo4 (by decide +kernel) qSX
set_option maxRecDepth 20000 in
theorem gX11_clover_X11_isOwed : GoodIn wsX11_clover (wsV RX11 345 RX11 yX11_isOwed wsX11_isOwed) := goodIn_app (qag qo4 [2249, 2250, 2251, 5] rfl (by decide +kernel)) ggX11_clover_X11_isOwed
set_option maxRecDepth 20000 in
theorem ggX11_strongest_X11_within : GoodIn wsX11_strongest wsX11_within := qaf qnV (by decide +kernel) qix
set_option maxRecDepth 20000 in
theorem gX11_strongest_X11_within : GoodIn wsX11_strongest (va_wsS RX11 390 yX11_within wsX11_within) := goodIn_app (qag qnV [2577, 2578, 5] rfl (by decide +kernel)) ggX11_strongest_X11_within
set_option maxRecDepth 20000 in
theorem ggX11_strongest_X11_may : GoodIn wsX11_strongest wsX11_may := qaf qnV (by decide +kernel) qoO
set_option maxRecDepth 20000 in
theorem gX11_strongest_X11_may : GoodIn wsX11_strongest (wsV RX11 213 RX11 yX11_may wsX11_may) := goodIn_app (qag qnV [1105, 1106, 1107, 5] rfl (by decide +kernel)) ggX11_strongest_X11_may
set_option maxRecDepth 20000 in
theorem ggX11_strongest_X11_take : GoodIn wsX11_strongest wsX11_take := qaf qnV (by decide +kernel) qtc
set_option maxRecDepth 20000 in
theorem gX11_strongest_X11_take : GoodIn wsX11_strongest (wsV RX11 316 RX11 yX11_take wsX11_take) := goodIn_app (qag qnV [2130, 2131, 2132, 5] rfl (by decide +kernel)) ggX11_strongest_X11_take
set_option maxRecDepth 20000 in
theorem ggX11_strongest_X11_isCaught : GoodIn wsX11_strongest wsX11_isCaught := qaf qnV (by decide +kernel) qnl
set_option maxRecDepth 20000 in
theorem gX11_strongest_X11_isCaught : GoodIn wsX11_strongest (wsV RX11 340 RX11 yX11_isCaught wsX11_isCaught) := goodIn_app (qag qnV [2190, 2191, 2192, 5] rfl (by decide +kernel)) ggX11_strongest_X11_isCaught
set_option maxRecDepth 20000 in
theorem ggX11_ties_X11_isHare : GoodIn wsX11_ties wsX11_isHare := qaf qAF (by decide +kernel) qxo
set_option maxRecDepth 20000 in
theorem gX11_ties_X11_isHare : GoodIn wsX11_ties (wsV RX11 408 RX11 yX11_isHare wsX11_isHare) := goodIn_app (qag qAF [2767, 2768, 2769, 5] rfl (by decide +kernel)) ggX11_ties_X11_isHare
set_option maxRecDepth 20000 in
theorem ggX11_ties_X11_within : GoodIn wsX11_ties wsX11_within := qaf qAF (by decide +kernel) qix
set_option maxRecDepth 20000 in
theorem gX11_ties_X11_within : GoodIn wsX11_ties (va_wsS RX11 390 yX11_within wsX11_within) := goodIn_app (qag qAF [2577, 2578, 5] rfl (by decide +kernel)) ggX11_ties_X11_within
set_option maxRecDepth 20000 in
theorem ggX11_ties_X11_may : GoodIn wsX11_ties wsX11_may := qaf qAF (by decide +kernel) qoO
set_option maxRecDepth 20000 in
theorem gX11_ties_X11_may : GoodIn wsX11_ties (wsV RX11 213 RX11 yX11_may wsX11_may) := goodIn_app (qag qAF [1105, 1106, 1107, 5] rfl (by decide +kernel)) ggX11_ties_X11_may
set_option maxRecDepth 20000 in
theorem ggX11_refuge_X11_isForm : GoodIn wsX11_refuge wsX11_isForm := qaf qra (by decide +kernel) qK9
set_option maxRecDepth 20000 in
theorem gX11_refuge_X11_isForm : GoodIn wsX11_refuge (wsV RX11 405 RX11 yX11_isForm wsX11_isForm) := goodIn_app (qag qra [2699, 2700, 2701, 5] rfl (by decide +kernel)) ggX11_refuge_X11_isForm
set_option maxRecDepth 20000 in
theorem ggX11_refuge_X11_within : GoodIn wsX11_refuge wsX11_within := qaf qra (by decide +kernel) qix
set_option maxRecDepth 20000 in
theorem gX11_refuge_X11_within : GoodIn wsX11_refuge (va_wsS RX11 390 yX11_within wsX11_within) := goodIn_app (qag qra [2577, 2578, 5] rfl (by decide +kernel)) ggX11_refuge_X11_within
set_option maxRecDepth 20000 in
theorem ggX11_refuge_X11_may : GoodIn wsX11_refuge wsX11_may := qaf qra (by decide +kernel) qoO
set_option maxRecDepth 20000 in
theorem gX11_refuge_X11_may : GoodIn wsX11_refuge (wsV RX11 213 RX11 yX11_may wsX11_may) := goodIn_app (qag qra [1105, 1106, 1107, 5] rfl (by decide +kernel)) ggX11_refuge_X11_may
set_option maxRecDepth 20000 in
theorem ggX11_refuge_X11_isSafe : GoodIn wsX11_refuge wsX11_isSafe := qaf qra (by decide +kernel) qSm
set_option maxRecDepth 20000 in
theorem gX11_refuge_X11_isSafe : GoodIn wsX11_refuge (wsV RX11 368 RX11 yX11_isSafe wsX11_isSafe) := goodIn_app (qag qra [2375, 2376, 2377, 5] rfl (by decide +kernel)) ggX11_refuge_X11_isSafe
set_option maxRecDepth 20000 in
theorem ggX11_refuge_X11_farOf : GoodIn wsX11_refuge wsX11_farOf := qaf qra (by decide +kernel) qFk
set_option maxRecDepth 20000 in
theorem gX11_refuge_X11_farOf : GoodIn wsX11_refuge (wsV RX11 358 RX11 yX11_farOf wsX11_farOf) := goodIn_app (qag qra [2194, 2195, 2196, 5] rfl (by decide +kernel)) ggX11_refuge_X11_farOf
set_option maxRecDepth 20000 in
theorem ggX11_marchGoes_X11_take : GoodIn wsX11_marchGoes wsX11_take := qaf qir (by decide +kernel) qtc
set_option maxRecDepth 20000 in
theorem gX11_marchGoes_X11_take : GoodIn wsX11_marchGoes (wsV RX11 316 RX11 yX11_take wsX11_take) := goodIn_app (qag qir [2130, 2131, 2132, 5] rfl (by decide +kernel)) ggX11_marchGoes_X11_take
set_option maxRecDepth 20000 in
theorem ggX11_marchGoes_X11_draws : GoodIn wsX11_marchGoes wsX11_draws := qaf qir (by decide +kernel) qaWZ
set_option maxRecDepth 20000 in
theorem gX11_marchGoes_X11_draws : GoodIn wsX11_marchGoes (wsV RX11 451 RX11 yX11_draws wsX11_draws) := goodIn_app (qag qir [4116, 4117, 4118, 5] rfl (by decide +kernel)) ggX11_marchGoes_X11_draws
set_option maxRecDepth 20000 in
theorem ggX11_marchGoes_X11_leapsTo : GoodIn wsX11_marchGoes wsX11_leapsTo := qaf qir (by decide +kernel) qaeQ
set_option maxRecDepth 20000 in
theorem gX11_marchGoes_X11_leapsTo : GoodIn wsX11_marchGoes (wsV RX11 377 RX11 yX11_leapsTo wsX11_leapsTo) := goodIn_app (qag qir [2182, 2183, 2184, 5] rfl (by decide +kernel)) ggX11_marchGoes_X11_leapsTo
set_option maxRecDepth 20000 in
theorem ggX11_marchGoes_X11_boxes : GoodIn wsX11_marchGoes wsX11_boxes := qaf qir (by decide +kernel) qaAw
set_option maxRecDepth 20000 in
theorem gX11_marchGoes_X11_boxes : GoodIn wsX11_marchGoes (wsV RX11 380 RX11 yX11_boxes wsX11_boxes) := goodIn_app (qag qir [2315, 2316, 2317, 5] rfl (by decide +kernel)) ggX11_marchGoes_X11_boxes
set_option maxRecDepth 20000 in
theorem ggX11_marchGoes_X11_passes : GoodIn wsX11_marchGoes wsX11_passes := qaf qir (by decide +kernel) q4F
set_option maxRecDepth 20000 in
theorem gX11_marchGoes_X11_passes : GoodIn wsX11_marchGoes (wsV RX11 387 RX11 yX11_passes wsX11_passes) := goodIn_app (qag qir [2323, 2324, 2325, 5] rfl (by decide +kernel)) ggX11_marchGoes_X11_passes
set_option maxRecDepth 20000 in
theorem ggX11_strengthNow_X11_isCaught : GoodIn wsX11_strengthNow wsX11_isCaught := qaf qyt (by decide +kernel) qnl
set_option maxRecDepth 20000 in
theorem gX11_strengthNow_X11_isCaught : GoodIn wsX11_strengthNow (wsV RX11 340 RX11 yX11_isCaught wsX11_isCaught) := goodIn_app (qag qyt [2190, 2191, 2192, 5] rfl (by decide +kernel)) ggX11_strengthNow_X11_isCaught
set_option maxRecDepth 20000 in
theorem ggX11_march_X11_within : GoodIn wsX11_march wsX11_within := qaf qsm (by decide +kernel) qix
set_option maxRecDepth 20000 in
theorem gX11_march_X11_within : GoodIn wsX11_march (va_wsS RX11 390 yX11_within wsX11_within) := goodIn_app (qag qsm [2577, 2578, 5] rfl (by decide +kernel)) ggX11_march_X11_within
set_option maxRecDepth 20000 in
theorem ggX11_march_X11_may : GoodIn wsX11_march wsX11_may := qaf qsm (by decide +kernel) qoO
set_option maxRecDepth 20000 in
theorem gX11_march_X11_may : GoodIn wsX11_march (wsV RX11 213 RX11 yX11_may wsX11_may) := goodIn_app (qag qsm [1105, 1106, 1107, 5] rfl (by decide +kernel)) ggX11_march_X11_may
set_option maxRecDepth 20000 in
theorem ggX11_march_X11_marchGoes : GoodIn wsX11_march wsX11_marchGoes := qaf qsm (by decide +kernel) q3u
set_option maxRecDepth 20000 in
theorem gX11_march_X11_marchGoes : GoodIn wsX11_march (wsV RX11 454 RX11 yX11_marchGoes wsX11_marchGoes) := goodIn_app (qag qsm [4111, 4112, 4113, 5] rfl (by decide +kernel)) ggX11_march_X11_marchGoes
set_option maxRecDepth 20000 in
theorem ggX11_march_X11_caughtNow : GoodIn wsX11_march wsX11_caughtNow := qaf qsm (by decide +kernel) qI3
set_option maxRecDepth 20000 in
theorem gX11_march_X11_caughtNow : GoodIn wsX11_march (wsV RX11 396 RX11 yX11_caughtNow wsX11_caughtNow) := goodIn_app (qag qsm [2624, 2625, 2626, 5] rfl (by decide +kernel)) ggX11_march_X11_caughtNow
set_option maxRecDepth 20000 in
theorem ggX11_march_X11_strengthNow : GoodIn wsX11_march wsX11_strengthNow := qaf qsm (by decide +kernel) qakJ
set_option maxRecDepth 20000 in
theorem gX11_march_X11_strengthNow : GoodIn wsX11_march (wsV RX11 457 RX11 yX11_strengthNow wsX11_strengthNow) := goodIn_app (qag qsm [4161, 4162, 4163, 5] rfl (by decide +kernel)) ggX11_march_X11_strengthNow
set_option maxRecDepth 20000 in
theorem ggX11_span_X11_within : GoodIn wsX11_span wsX11_within := qaf qwy (by decide +kernel) qix
set_option maxRecDepth 20000 in
theorem gX11_span_X11_within : GoodIn wsX11_span (va_wsS RX11 390 yX11_within wsX11_within) := goodIn_app (qag qwy [2577, 2578, 5] rfl (by decide +kernel)) ggX11_span_X11_within
set_option maxRecDepth 20000 in
theorem ggX11_span_X11_may : GoodIn wsX11_span wsX11_may := qaf qwy (by decide +kernel) qoO
set_option maxRecDepth 20000 in
theorem gX11_span_X11_may : GoodIn wsX11_span (wsV RX11 213 RX11 yX11_may wsX11_may) := goodIn_app (qag qwy [1105, 1106, 1107, 5] rfl (by decide +kernel)) ggX11_span_X11_may
set_option maxRecDepth 20000 in
theorem ggX11_span_X11_marchGoes : GoodIn wsX11_span wsX11_marchGoes := qaf qwy (by decide +kernel) q3u
set_option maxRecDepth 20000 in
theorem gX11_span_X11_marchGoes : GoodIn wsX11_span (wsV RX11 454 RX11 yX11_marchGoes wsX11_marchGoes) := goodIn_app (qag qwy [4111, 4112, 4113, 5] rfl (by decide +kernel)) ggX11_span_X11_marchGoes
set_option maxRecDepth 20000 in
theorem ggX11_span_X11_isCaught : GoodIn wsX11_span wsX11_isCaught := qaf qwy (by decide +kernel) qnl
set_option maxRecDepth 20000 in
theorem gX11_span_X11_isCaught : GoodIn wsX11_span (wsV RX11 340 RX11 yX11_isCaught wsX11_isCaught) := goodIn_app (qag qwy [2190, 2191, 2192, 5] rfl (by decide +kernel)) ggX11_span_X11_isCaught
set_option maxRecDepth 20000 in
theorem ggX11_keepsAll_X11_keepsRow : GoodIn wsX11_keepsAll wsX11_keepsRow := qaf qxM (by decide +kernel) qaKy
set_option maxRecDepth 20000 in
theorem gX11_keepsAll_X11_keepsRow : GoodIn wsX11_keepsAll (wsV RX11 460 RX11 yX11_keepsRow wsX11_keepsRow) := goodIn_app (qag qxM [4233, 4234, 4235, 5] rfl (by decide +kernel)) ggX11_keepsAll_X11_keepsRow
set_option maxRecDepth 20000 in
theorem ggX11_image_X11_keepsAll : GoodIn wsX11_image wsX11_keepsAll := qaf qQO (by decide +kernel) q75
set_option maxRecDepth 20000 in
theorem gX11_image_X11_keepsAll : GoodIn wsX11_image (wsV RX11 464 RX11 yX11_keepsAll wsX11_keepsAll) := goodIn_app (qag qQO [4229, 4230, 4231, 5] rfl (by decide +kernel)) ggX11_image_X11_keepsAll
set_option maxRecDepth 20000 in
theorem ggX11_restore_X11_keepsAll : GoodIn wsX11_restore wsX11_keepsAll := qaf qCY (by decide +kernel) q75
set_option maxRecDepth 20000 in
theorem gX11_restore_X11_keepsAll : GoodIn wsX11_restore (wsV RX11 464 RX11 yX11_keepsAll wsX11_keepsAll) := goodIn_app (qag qCY [4229, 4230, 4231, 5] rfl (by decide +kernel)) ggX11_restore_X11_keepsAll
set_option maxRecDepth 20000 in
theorem ggX11_status_X11_within : GoodIn wsX11_status wsX11_within := qaf qLm (by decide +kernel) qix
set_option maxRecDepth 20000 in
theorem gX11_status_X11_within : GoodIn wsX11_status (va_wsS RX11 390 yX11_within wsX11_within) := goodIn_app (qag qLm [2577, 2578, 5] rfl (by decide +kernel)) ggX11_status_X11_within
set_option maxRecDepth 20000 in
theorem ggJ0_length_8abf5_J0_coder_7d493 : GoodIn wsJ0_length_8abf5 wsJ0_coder_7d493 := qaf qJz (by decide +kernel) qapJ
set_option maxRecDepth 20000 in
theorem gJ0_length_8abf5_J0_coder_7d493 : GoodIn wsJ0_length_8abf5 (wsV RJ0 335 RJ0 yJ0_coder_7d493 wsJ0_coder_7d493) := goodIn_app (qag qJz [789, 790, 791, 786] rfl (by decide +kernel)) ggJ0_length_8abf5_J0_coder_7d493
set_option maxRecDepth 20000 in
theorem ggJ0_charAt_5068e_J0_isLatin1_aae02 : GoodIn wsJ0_charAt_5068e wsJ0_isLatin1_aae02 := qaf qyP (by decide +kernel) qaaD
set_option maxRecDepth 20000 in
theorem gJ0_charAt_5068e_J0_isLatin1_aae02 : GoodIn wsJ0_charAt_5068e (wsV RJ0 492 RJ0 yJ0_isLatin1_aae02 wsJ0_isLatin1_aae02) := goodIn_app (qag qyP [844, 845, 846, 786] rfl (by decide +kernel)) ggJ0_charAt_5068e_J0_isLatin1_aae02
set_option maxRecDepth 20000 in
theorem ggJ0_charAt_5068e_J1_charAt_3b067 : GoodIn wsJ0_charAt_5068e wsJ1_charAt_3b067 := qaf qyP (by decide +kernel) qal2
set_option maxRecDepth 20000 in
theorem gJ0_charAt_5068e_J1_charAt_3b067 : GoodIn wsJ0_charAt_5068e (va_wsS RJ0 495 yJ1_charAt_3b067 wsJ1_charAt_3b067) := goodIn_app (qag qyP [848, 849, 850] rfl (by decide +kernel)) ggJ0_charAt_5068e_J1_charAt_3b067
set_option maxRecDepth 20000 in
theorem ggJ0_checkIndex_df160_J3_checkIndex_8e157 : GoodIn wsJ0_checkIndex_df160 wsJ3_checkIndex_8e157 := qaf qBx (by decide +kernel) q1U
set_option maxRecDepth 20000 in
theorem gJ0_checkIndex_df160_J3_checkIndex_8e157 : GoodIn wsJ0_checkIndex_df160 (va_wsS RJ0 1059 yJ3_checkIndex_8e157 wsJ3_checkIndex_8e157) := goodIn_app (qag qBx [896, 897, 898] rfl (by decide +kernel)) ggJ0_checkIndex_df160_J3_checkIndex_8e157
set_option maxRecDepth 20000 in
theorem ggJ1_charAt_3b067_J0_checkIndex_df160 : GoodIn wsJ1_charAt_3b067 wsJ0_checkIndex_df160 := qaf qVE (by decide +kernel) q4O
set_option maxRecDepth 20000 in
theorem gJ1_charAt_3b067_J0_checkIndex_df160 : GoodIn wsJ1_charAt_3b067 (va_wsS RJ1 9 yJ0_checkIndex_df160 wsJ0_checkIndex_df160) := goodIn_app (qag qVE [852, 853, 786] rfl (by decide +kernel)) ggJ1_charAt_3b067_J0_checkIndex_df160
set_option maxRecDepth 20000 in
theorem ggL_down_X10_down : GoodIn wsL_down wsX10_down := goodIn_ca (qaf qavd (by decide +kernel) qa2v) (goodIn_sub (fun _ h => List.mem_cons_of_mem _ (List.mem_append_right _ h)) (by decide +kernel))
set_option maxRecDepth 20000 in
theorem gL_down_X10_down : GoodIn wsL_down (wsV RL 7 RX10 yX10_down wsX10_down) := goodIn_app (qag qavd [596, 597, 598, 2] rfl (by decide +kernel)) ggL_down_X10_down
set_option maxRecDepth 20000 in
theorem ggL_law_X10_law : GoodIn wsL_law wsX10_law := goodIn_ca (qaf qaM8 (by decide +kernel) qa33) (goodIn_sub (fun _ h => List.mem_cons_of_mem _ (List.mem_append_right _ h)) (by decide +kernel))
set_option maxRecDepth 20000 in
theorem gL_law_X10_law : GoodIn wsL_law (wsV RL 15 RX10 yX10_law wsX10_law) := goodIn_app (qag qaM8 [1345, 1346, 1347, 2] rfl (by decide +kernel)) ggL_law_X10_law
set_option maxRecDepth 20000 in
theorem ggL_work_X10_work : GoodIn wsL_work wsX10_work := goodIn_ca (qaf qavb (by decide +kernel) qa1y) (goodIn_sub (fun _ h => List.mem_cons_of_mem _ (List.mem_append_right _ h)) (by decide +kernel))
set_option maxRecDepth 20000 in
theorem gL_work_X10_work : GoodIn wsL_work (wsV RL 18 RX10 yX10_work wsX10_work) := goodIn_app (qag qavb [1553, 1554, 1555, 2] rfl (by decide +kernel)) ggL_work_X10_work
set_option maxRecDepth 20000 in
theorem ggL_book_X10_book : GoodIn wsL_book wsX10_book := goodIn_ca (qaf qau1 (by decide +kernel) qa2I) (goodIn_sub (fun _ h => List.mem_cons_of_mem _ (List.mem_append_right _ h)) (by decide +kernel))
set_option maxRecDepth 20000 in
theorem gL_book_X10_book : GoodIn wsL_book (wsV RL 21 RX10 yX10_book wsX10_book) := goodIn_app (qag qau1 [2382, 2383, 2384, 2] rfl (by decide +kernel)) ggL_book_X10_book
set_option maxRecDepth 20000 in
theorem ggL_told_X10_told : GoodIn wsL_told wsX10_told := goodIn_ca (qaf qave (by decide +kernel) qa1Z) (goodIn_sub (fun _ h => List.mem_cons_of_mem _ (List.mem_append_right _ h)) (by decide +kernel))
set_option maxRecDepth 20000 in
theorem gL_told_X10_told : GoodIn wsL_told (wsV RL 24 RX10 yX10_told wsX10_told) := goodIn_app (qag qave [2512, 2513, 2514, 2] rfl (by decide +kernel)) ggL_told_X10_told
set_option maxRecDepth 20000 in
theorem ggL_form_X10_form : GoodIn wsL_form wsX10_form := goodIn_ca (goodIn_ca (qaf qacC (by decide +kernel) qa2Z) (goodIn_sub (fun _ h => List.mem_cons_of_mem _ (List.mem_append_left _ (List.mem_append_right _ h))) (by decide +kernel))) (goodIn_sub (fun _ h => List.mem_cons_of_mem _ (List.mem_append_right _ h)) (by decide +kernel))
set_option maxRecDepth 20000 in
theorem gL_form_X10_form : GoodIn wsL_form (wsV RL 27 RX10 yX10_form wsX10_form) := goodIn_app (qag qacC [2640, 2641, 2642, 2] rfl (by decide +kernel)) ggL_form_X10_form
set_option maxRecDepth 20000 in
theorem ggL_hare_X10_hare : GoodIn wsL_hare wsX10_hare := goodIn_ca (goodIn_ca (qaf qacE (by decide +kernel) qa2B) (goodIn_sub (fun _ h => List.mem_cons_of_mem _ (List.mem_append_left _ (List.mem_append_right _ h))) (by decide +kernel))) (goodIn_sub (fun _ h => List.mem_cons_of_mem _ (List.mem_append_right _ h)) (by decide +kernel))
set_option maxRecDepth 20000 in
theorem gL_hare_X10_hare : GoodIn wsL_hare (wsV RL 33 RX10 yX10_hare wsX10_hare) := goodIn_app (qag qacE [2706, 2707, 2708, 2] rfl (by decide +kernel)) ggL_hare_X10_hare
set_option maxRecDepth 20000 in
theorem ggL_fox_X10_fox : GoodIn wsL_fox wsX10_fox := goodIn_ca (goodIn_ca (qaf qavy (by decide +kernel) qa6G) (goodIn_sub (fun _ h => List.mem_cons_of_mem _ (List.mem_append_left _ (List.mem_append_right _ h))) (by decide +kernel))) (goodIn_sub (fun _ h => List.mem_cons_of_mem _ (List.mem_append_right _ h)) (by decide +kernel))
set_option maxRecDepth 20000 in
theorem gL_fox_X10_fox : GoodIn wsL_fox (wsV RL 36 RX10 yX10_fox wsX10_fox) := goodIn_app (qag qavy [2774, 2775, 2816, 2] rfl (by decide +kernel)) ggL_fox_X10_fox
set_option maxRecDepth 20000 in
theorem ggL_debt_X10_debt : GoodIn wsL_debt wsX10_debt := goodIn_ca (qaf qau4 (by decide +kernel) qa1M) (goodIn_sub (fun _ h => List.mem_cons_of_mem _ (List.mem_append_right _ h)) (by decide +kernel))
set_option maxRecDepth 20000 in
theorem gL_debt_X10_debt : GoodIn wsL_debt (wsV RL 39 RX10 yX10_debt wsX10_debt) := goodIn_app (qag qau4 [2827, 2828, 2829, 2] rfl (by decide +kernel)) ggL_debt_X10_debt
set_option maxRecDepth 20000 in
theorem ggL_far_X10_far : GoodIn wsL_far wsX10_far := goodIn_ca (qaf qaPi (by decide +kernel) qa6j) (goodIn_sub (fun _ h => List.mem_cons_of_mem _ (List.mem_append_right _ h)) (by decide +kernel))
set_option maxRecDepth 20000 in
theorem gL_far_X10_far : GoodIn wsL_far (wsV RL 42 RX10 yX10_far wsX10_far) := goodIn_app (qag qaPi [2839, 2880, 2881, 2] rfl (by decide +kernel)) ggL_far_X10_far
set_option maxRecDepth 20000 in
theorem ggL_would_X10_would : GoodIn wsL_would wsX10_would := goodIn_ca (qaf qaeu (by decide +kernel) qaY9) (goodIn_sub (fun _ h => List.mem_cons_of_mem _ (List.mem_append_right _ h)) (by decide +kernel))
set_option maxRecDepth 20000 in
theorem gL_would_X10_would : GoodIn wsL_would (wsV RL 45 RX10 yX10_would wsX10_would) := goodIn_app (qag qaeu [2891, 2892, 2893, 2] rfl (by decide +kernel)) ggL_would_X10_would
set_option maxRecDepth 20000 in
theorem ggL_can_X10_can : GoodIn wsL_can wsX10_can := goodIn_ca (qaf qaPm (by decide +kernel) qa3q) (goodIn_sub (fun _ h => List.mem_cons_of_mem _ (List.mem_append_right _ h)) (by decide +kernel))
set_option maxRecDepth 20000 in
theorem gL_can_X10_can : GoodIn wsL_can (wsV RL 49 RX10 yX10_can wsX10_can) := goodIn_app (qag qaPm [2945, 2946, 2947, 2] rfl (by decide +kernel)) ggL_can_X10_can
set_option maxRecDepth 20000 in
theorem ggL_ahead_X10_ahead : GoodIn wsL_ahead wsX10_ahead := goodIn_ca (qaf qafh (by decide +kernel) qaXP) (goodIn_sub (fun _ h => List.mem_cons_of_mem _ (List.mem_append_right _ h)) (by decide +kernel))
set_option maxRecDepth 20000 in
theorem gL_ahead_X10_ahead : GoodIn wsL_ahead (wsV RL 53 RX10 yX10_ahead wsX10_ahead) := goodIn_app (qag qafh [2957, 2958, 2959, 2] rfl (by decide +kernel)) ggL_ahead_X10_ahead
set_option maxRecDepth 20000 in
theorem ggL_hops_X10_hops : GoodIn wsL_hops wsX10_hops := goodIn_ca (qaf qavi (by decide +kernel) qa1u) (goodIn_sub (fun _ h => List.mem_cons_of_mem _ (List.mem_append_right _ h)) (by decide +kernel))
set_option maxRecDepth 20000 in
theorem gL_hops_X10_hops : GoodIn wsL_hops (wsV RL 56 RX10 yX10_hops wsX10_hops) := goodIn_app (qag qavi [3013, 3014, 3015, 2] rfl (by decide +kernel)) ggL_hops_X10_hops
set_option maxRecDepth 20000 in
theorem ggL_seat_X10_seat : GoodIn wsL_seat wsX10_seat := goodIn_ca (qaf qau5 (by decide +kernel) qa11) (goodIn_sub (fun _ h => List.mem_cons_of_mem _ (List.mem_append_right _ h)) (by decide +kernel))
set_option maxRecDepth 20000 in
theorem gL_seat_X10_seat : GoodIn wsL_seat (wsV RL 59 RX10 yX10_seat wsX10_seat) := goodIn_app (qag qau5 [3206, 3207, 3208, 2] rfl (by decide +kernel)) ggL_seat_X10_seat
set_option maxRecDepth 20000 in
theorem ggL_ringed_X10_ringed : GoodIn wsL_ringed wsX10_ringed := goodIn_ca (qaf q49 (by decide +kernel) qaUz) (goodIn_sub (fun _ h => List.mem_cons_of_mem _ (List.mem_append_right _ h)) (by decide +kernel))
set_option maxRecDepth 20000 in
theorem gL_ringed_X10_ringed : GoodIn wsL_ringed (wsV RL 62 RX10 yX10_ringed wsX10_ringed) := goodIn_app (qag q49 [3340, 3341, 3342, 2] rfl (by decide +kernel)) ggL_ringed_X10_ringed
set_option maxRecDepth 20000 in
theorem ggL_bouts_X10_bouts : GoodIn wsL_bouts wsX10_bouts := goodIn_ca (qaf qag1 (by decide +kernel) qaZW) (goodIn_sub (fun _ h => List.mem_cons_of_mem _ (List.mem_append_right _ h)) (by decide +kernel))
set_option maxRecDepth 20000 in
theorem gL_bouts_X10_bouts : GoodIn wsL_bouts (wsV RL 65 RX10 yX10_bouts wsX10_bouts) := goodIn_app (qag qag1 [3392, 3393, 3394, 2] rfl (by decide +kernel)) ggL_bouts_X10_bouts
set_option maxRecDepth 20000 in
theorem ggL_fits_X10_fits : GoodIn wsL_fits wsX10_fits := goodIn_ca (qaf qavf (by decide +kernel) qa1I) (goodIn_sub (fun _ h => List.mem_cons_of_mem _ (List.mem_append_right _ h)) (by decide +kernel))
set_option maxRecDepth 20000 in
theorem gL_fits_X10_fits : GoodIn wsL_fits (wsV RL 68 RX10 yX10_fits wsX10_fits) := goodIn_app (qag qavf [3456, 3457, 3458, 2] rfl (by decide +kernel)) ggL_fits_X10_fits
set_option maxRecDepth 20000 in
theorem ggL_look_X10_look : GoodIn wsL_look wsX10_look := goodIn_ca (qaf qau8 (by decide +kernel) qa17) (goodIn_sub (fun _ h => List.mem_cons_of_mem _ (List.mem_append_right _ h)) (by decide +kernel))
set_option maxRecDepth 20000 in
theorem gL_look_X10_look : GoodIn wsL_look (wsV RL 71 RX10 yX10_look wsX10_look) := goodIn_app (qag qau8 [3589, 3590, 3591, 2] rfl (by decide +kernel)) ggL_look_X10_look
set_option maxRecDepth 20000 in
theorem ggL_watch_X10_watch : GoodIn wsL_watch wsX10_watch := goodIn_ca (qaf qafI (by decide +kernel) qaYF) (goodIn_sub (fun _ h => List.mem_cons_of_mem _ (List.mem_append_right _ h)) (by decide +kernel))
set_option maxRecDepth 20000 in
theorem gL_watch_X10_watch : GoodIn wsL_watch (wsV RL 74 RX10 yX10_watch wsX10_watch) := goodIn_app (qag qafI [3662, 3663, 3664, 2] rfl (by decide +kernel)) ggL_watch_X10_watch
set_option maxRecDepth 20000 in
theorem ggL_few_X10_few : GoodIn wsL_few wsX10_few := goodIn_ca (qaf qaNt (by decide +kernel) qa9g) (goodIn_sub (fun _ h => List.mem_cons_of_mem _ (List.mem_append_right _ h)) (by decide +kernel))
set_option maxRecDepth 20000 in
theorem gL_few_X10_few : GoodIn wsL_few (wsV RL 77 RX10 yX10_few wsX10_few) := goodIn_app (qag qaNt [3722, 3723, 3724, 2] rfl (by decide +kernel)) ggL_few_X10_few
set_option maxRecDepth 20000 in
theorem ggL_road_X10_road : GoodIn wsL_road wsX10_road := goodIn_ca (qaf qau6 (by decide +kernel) qa2h) (goodIn_sub (fun _ h => List.mem_cons_of_mem _ (List.mem_append_right _ h)) (by decide +kernel))
set_option maxRecDepth 20000 in
theorem gL_road_X10_road : GoodIn wsL_road (wsV RL 81 RX10 yX10_road wsX10_road) := goodIn_app (qag qau6 [3783, 3784, 3785, 2] rfl (by decide +kernel)) ggL_road_X10_road
set_option maxRecDepth 20000 in
theorem ggL_clover_X10_clover : GoodIn wsL_clover wsX10_clover := goodIn_ca (goodIn_ca (qaf qVq (by decide +kernel) qaS8) (goodIn_sub (fun _ h => List.mem_cons_of_mem _ (List.mem_append_left _ (List.mem_append_right _ h))) (by decide +kernel))) (goodIn_sub (fun _ h => List.mem_cons_of_mem _ (List.mem_append_right _ h)) (by decide +kernel))
set_option maxRecDepth 20000 in
theorem gL_clover_X10_clover : GoodIn wsL_clover (wsV RL 85 RX10 yX10_clover wsX10_clover) := goodIn_app (qag qVq [3840, 3841, 3842, 2] rfl (by decide +kernel)) ggL_clover_X10_clover
set_option maxRecDepth 20000 in
theorem ggL_strongest_X10_strongest : GoodIn wsL_strongest wsX10_strongest := goodIn_ca (qaf qOf (by decide +kernel) qaBM) (goodIn_sub (fun _ h => List.mem_cons_of_mem _ (List.mem_append_right _ h)) (by decide +kernel))
set_option maxRecDepth 20000 in
theorem gL_strongest_X10_strongest : GoodIn wsL_strongest (wsV RL 88 RX10 yX10_strongest wsX10_strongest) := goodIn_app (qag qOf [3904, 3905, 3906, 2] rfl (by decide +kernel)) ggL_strongest_X10_strongest
set_option maxRecDepth 20000 in
theorem ggL_ties_X10_ties : GoodIn wsL_ties wsX10_ties := goodIn_ca (goodIn_ca (qaf qafW (by decide +kernel) qa2e) (goodIn_sub (fun _ h => List.mem_cons_of_mem _ (List.mem_append_left _ (List.mem_append_right _ h))) (by decide +kernel))) (goodIn_sub (fun _ h => List.mem_cons_of_mem _ (List.mem_append_right _ h)) (by decide +kernel))
set_option maxRecDepth 20000 in
theorem gL_ties_X10_ties : GoodIn wsL_ties (wsV RL 91 RX10 yX10_ties wsX10_ties) := goodIn_app (qag qafW [3915, 3916, 3917, 2] rfl (by decide +kernel)) ggL_ties_X10_ties
set_option maxRecDepth 20000 in
theorem ggL_refuge_X10_refuge : GoodIn wsL_refuge wsX10_refuge := goodIn_ca (goodIn_ca (qaf qUZ (by decide +kernel) qaT3) (goodIn_sub (fun _ h => List.mem_cons_of_mem _ (List.mem_append_left _ (List.mem_append_right _ h))) (by decide +kernel))) (goodIn_sub (fun _ h => List.mem_cons_of_mem _ (List.mem_append_right _ h)) (by decide +kernel))
set_option maxRecDepth 20000 in
theorem gL_refuge_X10_refuge : GoodIn wsL_refuge (wsV RL 94 RX10 yX10_refuge wsX10_refuge) := goodIn_app (qag qUZ [3926, 3927, 3968, 2] rfl (by decide +kernel)) ggL_refuge_X10_refuge
set_option maxRecDepth 20000 in
theorem ggL_range_X10_range : GoodIn wsL_range wsX10_range := goodIn_ca (qaf qafv (by decide +kernel) qaWL) (goodIn_sub (fun _ h => List.mem_cons_of_mem _ (List.mem_append_right _ h)) (by decide +kernel))
set_option maxRecDepth 20000 in
theorem gL_range_X10_range : GoodIn wsL_range (wsV RL 97 RX10 yX10_range wsX10_range) := goodIn_app (qag qafv [3977, 3978, 3979, 2] rfl (by decide +kernel)) ggL_range_X10_range
set_option maxRecDepth 20000 in
theorem ggL_march_X10_march : GoodIn wsL_march wsX10_march := goodIn_ca (qaf qafg (by decide +kernel) qaYW) (goodIn_sub (fun _ h => List.mem_cons_of_mem _ (List.mem_append_right _ h)) (by decide +kernel))
set_option maxRecDepth 20000 in
theorem gL_march_X10_march : GoodIn wsL_march (wsV RL 100 RX10 yX10_march wsX10_march) := goodIn_app (qag qafg [4033, 4034, 4035, 2] rfl (by decide +kernel)) ggL_march_X10_march
set_option maxRecDepth 20000 in
theorem ggL_span_X10_span : GoodIn wsL_span wsX10_span := goodIn_ca (qaf qavc (by decide +kernel) qa2t) (goodIn_sub (fun _ h => List.mem_cons_of_mem _ (List.mem_append_right _ h)) (by decide +kernel))
set_option maxRecDepth 20000 in
theorem gL_span_X10_span : GoodIn wsL_span (wsV RL 103 RX10 yX10_span wsX10_span) := goodIn_app (qag qavc [4168, 4169, 4170, 2] rfl (by decide +kernel)) ggL_span_X10_span
