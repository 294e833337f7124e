set_option maxRecDepth 20000 in
theorem ggX11_told_X11_take : GoodIn wsX11_told wsX11_take := goodIn_m mbX11_told (by decide +kernel) okX11_take
set_option maxRecDepth 20000 in
theorem gX11_told_X11_take : GoodIn wsX11_told (wsV RX11 316 RX11 yX11_take wsX11_take) := goodIn_app (goodIn_l mbX11_told [2130, 2131, 2132, 5] rfl (by decide +kernel)) ggX11_told_X11_take
set_option maxRecDepth 20000 in
theorem ggX11_told_X11_bitsTold : GoodIn wsX11_told wsX11_bitsTold := goodIn_m mbX11_told (by decide +kernel) okX11_bitsTold
set_option maxRecDepth 20000 in
theorem gX11_told_X11_bitsTold : GoodIn wsX11_told (wsV RX11 393 RX11 yX11_bitsTold wsX11_bitsTold) := goodIn_app (goodIn_l mbX11_told [2580, 2581, 2582, 5] rfl (by decide +kernel)) ggX11_told_X11_bitsTold
set_option maxRecDepth 20000 in
theorem ggX11_told_X11_caughtNow : GoodIn wsX11_told wsX11_caughtNow := goodIn_m mbX11_told (by decide +kernel) okX11_caughtNow
set_option maxRecDepth 20000 in
theorem gX11_told_X11_caughtNow : GoodIn wsX11_told (wsV RX11 396 RX11 yX11_caughtNow wsX11_caughtNow) := goodIn_app (goodIn_l mbX11_told [2624, 2625, 2626, 5] rfl (by decide +kernel)) ggX11_told_X11_caughtNow
set_option maxRecDepth 20000 in
theorem ggX11_told_X11_safeForms : GoodIn wsX11_told wsX11_safeForms := goodIn_m mbX11_told (by decide +kernel) okX11_safeForms
set_option maxRecDepth 20000 in
theorem gX11_told_X11_safeForms : GoodIn wsX11_told (wsV RX11 399 RX11 yX11_safeForms wsX11_safeForms) := goodIn_app (goodIn_l mbX11_told [2628, 2629, 2630, 5] rfl (by decide +kernel)) ggX11_told_X11_safeForms
set_option maxRecDepth 20000 in
theorem ggX11_told_X11_debtsNow : GoodIn wsX11_told wsX11_debtsNow := goodIn_m mbX11_told (by decide +kernel) okX11_debtsNow
set_option maxRecDepth 20000 in
theorem gX11_told_X11_debtsNow : GoodIn wsX11_told (wsV RX11 402 RX11 yX11_debtsNow wsX11_debtsNow) := goodIn_app (goodIn_l mbX11_told [2632, 2633, 2634, 5] rfl (by decide +kernel)) ggX11_told_X11_debtsNow
set_option maxRecDepth 20000 in
theorem ggX11_isForm_X11_within : GoodIn wsX11_isForm wsX11_within := goodIn_m mbX11_isForm (by decide +kernel) okX11_within
set_option maxRecDepth 20000 in
theorem gX11_isForm_X11_within : GoodIn wsX11_isForm (va_wsS RX11 390 yX11_within wsX11_within) := goodIn_app (goodIn_l mbX11_isForm [2577, 2578, 5] rfl (by decide +kernel)) ggX11_isForm_X11_within
set_option maxRecDepth 20000 in
theorem ggX11_isForm_X11_may : GoodIn wsX11_isForm wsX11_may := goodIn_m mbX11_isForm (by decide +kernel) okX11_may
set_option maxRecDepth 20000 in
theorem gX11_isForm_X11_may : GoodIn wsX11_isForm (wsV RX11 213 RX11 yX11_may wsX11_may) := goodIn_app (goodIn_l mbX11_isForm [1105, 1106, 1107, 5] rfl (by decide +kernel)) ggX11_isForm_X11_may
set_option maxRecDepth 20000 in
theorem ggX11_isHare_X11_within : GoodIn wsX11_isHare wsX11_within := goodIn_m mbX11_isHare (by decide +kernel) okX11_within
set_option maxRecDepth 20000 in
theorem gX11_isHare_X11_within : GoodIn wsX11_isHare (va_wsS RX11 390 yX11_within wsX11_within) := goodIn_app (goodIn_l mbX11_isHare [2577, 2578, 5] rfl (by decide +kernel)) ggX11_isHare_X11_within
set_option maxRecDepth 20000 in
theorem ggX11_isHare_X11_may : GoodIn wsX11_isHare wsX11_may := goodIn_m mbX11_isHare (by decide +kernel) okX11_may
set_option maxRecDepth 20000 in
theorem gX11_isHare_X11_may : GoodIn wsX11_isHare (wsV RX11 213 RX11 yX11_may wsX11_may) := goodIn_app (goodIn_l mbX11_isHare [1105, 1106, 1107, 5] rfl (by decide +kernel)) ggX11_isHare_X11_may
set_option maxRecDepth 20000 in
theorem ggX11_form_X11_isForm : GoodIn wsX11_form wsX11_isForm := goodIn_m mbX11_form (by decide +kernel) okX11_isForm
set_option maxRecDepth 20000 in
theorem gX11_form_X11_isForm : GoodIn wsX11_form (wsV RX11 405 RX11 yX11_isForm wsX11_isForm) := goodIn_app (goodIn_l mbX11_form [2699, 2700, 2701, 5] rfl (by decide +kernel)) ggX11_form_X11_isForm
set_option maxRecDepth 20000 in
theorem ggX11_form_X11_within : GoodIn wsX11_form wsX11_within := goodIn_m mbX11_form (by decide +kernel) okX11_within
set_option maxRecDepth 20000 in
theorem gX11_form_X11_within : GoodIn wsX11_form (va_wsS RX11 390 yX11_within wsX11_within) := goodIn_app (goodIn_l mbX11_form [2577, 2578, 5] rfl (by decide +kernel)) ggX11_form_X11_within
set_option maxRecDepth 20000 in
theorem ggX11_form_X11_may : GoodIn wsX11_form wsX11_may := goodIn_m mbX11_form (by decide +kernel) okX11_may
set_option maxRecDepth 20000 in
theorem gX11_form_X11_may : GoodIn wsX11_form (wsV RX11 213 RX11 yX11_may wsX11_may) := goodIn_app (goodIn_l mbX11_form [1105, 1106, 1107, 5] rfl (by decide +kernel)) ggX11_form_X11_may
set_option maxRecDepth 20000 in
theorem ggX11_form_X11_take : GoodIn wsX11_form wsX11_take := goodIn_m mbX11_form (by decide +kernel) okX11_take
set_option maxRecDepth 20000 in
theorem gX11_form_X11_take : GoodIn wsX11_form (wsV RX11 316 RX11 yX11_take wsX11_take) := goodIn_app (goodIn_l mbX11_form [2130, 2131, 2132, 5] rfl (by decide +kernel)) ggX11_form_X11_take
set_option maxRecDepth 20000 in
theorem ggX11_form_X11_isSafe : GoodIn wsX11_form wsX11_isSafe := goodIn_m mbX11_form (by decide +kernel) okX11_isSafe
set_option maxRecDepth 20000 in
theorem gX11_form_X11_isSafe : GoodIn wsX11_form (wsV RX11 368 RX11 yX11_isSafe wsX11_isSafe) := goodIn_app (goodIn_l mbX11_form [2375, 2376, 2377, 5] rfl (by decide +kernel)) ggX11_form_X11_isSafe
set_option maxRecDepth 20000 in
theorem ggX11_form_X11_sitIn : GoodIn wsX11_form wsX11_sitIn := goodIn_m mbX11_form (by decide +kernel) okX11_sitIn
set_option maxRecDepth 20000 in
theorem gX11_form_X11_sitIn : GoodIn wsX11_form (wsV RX11 348 RX11 yX11_sitIn wsX11_sitIn) := goodIn_app (goodIn_l mbX11_form [2253, 2254, 2255, 5] rfl (by decide +kernel)) ggX11_form_X11_sitIn
set_option maxRecDepth 20000 in
theorem ggX11_hare_X11_isHare : GoodIn wsX11_hare wsX11_isHare := goodIn_m mbX11_hare (by decide +kernel) okX11_isHare
set_option maxRecDepth 20000 in
theorem gX11_hare_X11_isHare : GoodIn wsX11_hare (wsV RX11 408 RX11 yX11_isHare wsX11_isHare) := goodIn_app (goodIn_l mbX11_hare [2767, 2768, 2769, 5] rfl (by decide +kernel)) ggX11_hare_X11_isHare
set_option maxRecDepth 20000 in
theorem ggX11_hare_X11_within : GoodIn wsX11_hare wsX11_within := goodIn_m mbX11_hare (by decide +kernel) okX11_within
set_option maxRecDepth 20000 in
theorem gX11_hare_X11_within : GoodIn wsX11_hare (va_wsS RX11 390 yX11_within wsX11_within) := goodIn_app (goodIn_l mbX11_hare [2577, 2578, 5] rfl (by decide +kernel)) ggX11_hare_X11_within
set_option maxRecDepth 20000 in
theorem ggX11_hare_X11_may : GoodIn wsX11_hare wsX11_may := goodIn_m mbX11_hare (by decide +kernel) okX11_may
set_option maxRecDepth 20000 in
theorem gX11_hare_X11_may : GoodIn wsX11_hare (wsV RX11 213 RX11 yX11_may wsX11_may) := goodIn_app (goodIn_l mbX11_hare [1105, 1106, 1107, 5] rfl (by decide +kernel)) ggX11_hare_X11_may
set_option maxRecDepth 20000 in
theorem ggX11_hare_X11_take : GoodIn wsX11_hare wsX11_take := goodIn_m mbX11_hare (by decide +kernel) okX11_take
set_option maxRecDepth 20000 in
theorem gX11_hare_X11_take : GoodIn wsX11_hare (wsV RX11 316 RX11 yX11_take wsX11_take) := goodIn_app (goodIn_l mbX11_hare [2130, 2131, 2132, 5] rfl (by decide +kernel)) ggX11_hare_X11_take
set_option maxRecDepth 20000 in
theorem ggX11_hare_X11_owes : GoodIn wsX11_hare wsX11_owes := goodIn_m mbX11_hare (by decide +kernel) okX11_owes
set_option maxRecDepth 20000 in
theorem gX11_hare_X11_owes : GoodIn wsX11_hare (wsV RX11 343 RX11 yX11_owes wsX11_owes) := goodIn_app (goodIn_l mbX11_hare [2245, 2246, 2247, 5] rfl (by decide +kernel)) ggX11_hare_X11_owes
set_option maxRecDepth 20000 in
theorem ggX11_hare_X11_isOwed : GoodIn wsX11_hare wsX11_isOwed := goodIn_m mbX11_hare (by decide +kernel) okX11_isOwed
set_option maxRecDepth 20000 in
theorem gX11_hare_X11_isOwed : GoodIn wsX11_hare (wsV RX11 345 RX11 yX11_isOwed wsX11_isOwed) := goodIn_app (goodIn_l mbX11_hare [2249, 2250, 2251, 5] rfl (by decide +kernel)) ggX11_hare_X11_isOwed
set_option maxRecDepth 20000 in
theorem ggX11_hare_X11_leapBy : GoodIn wsX11_hare wsX11_leapBy := goodIn_m mbX11_hare (by decide +kernel) okX11_leapBy
set_option maxRecDepth 20000 in
theorem gX11_hare_X11_leapBy : GoodIn wsX11_hare (wsV RX11 361 RX11 yX11_leapBy wsX11_leapBy) := goodIn_app (goodIn_l mbX11_hare [2241, 2242, 2243, 5] rfl (by decide +kernel)) ggX11_hare_X11_leapBy
set_option maxRecDepth 20000 in
theorem ggX11_fox_X11_within : GoodIn wsX11_fox wsX11_within := goodIn_m mbX11_fox (by decide +kernel) okX11_within
set_option maxRecDepth 20000 in
theorem gX11_fox_X11_within : GoodIn wsX11_fox (va_wsS RX11 390 yX11_within wsX11_within) := goodIn_app (goodIn_l mbX11_fox [2577, 2578, 5] rfl (by decide +kernel)) ggX11_fox_X11_within
set_option maxRecDepth 20000 in
theorem ggX11_fox_X11_may : GoodIn wsX11_fox wsX11_may := goodIn_m mbX11_fox (by decide +kernel) okX11_may
set_option maxRecDepth 20000 in
theorem gX11_fox_X11_may : GoodIn wsX11_fox (wsV RX11 213 RX11 yX11_may wsX11_may) := goodIn_app (goodIn_l mbX11_fox [1105, 1106, 1107, 5] rfl (by decide +kernel)) ggX11_fox_X11_may
set_option maxRecDepth 20000 in
theorem ggX11_debt_X11_isHare : GoodIn wsX11_debt wsX11_isHare := goodIn_m mbX11_debt (by decide +kernel) okX11_isHare
set_option maxRecDepth 20000 in
theorem gX11_debt_X11_isHare : GoodIn wsX11_debt (wsV RX11 408 RX11 yX11_isHare wsX11_isHare) := goodIn_app (goodIn_l mbX11_debt [2767, 2768, 2769, 5] rfl (by decide +kernel)) ggX11_debt_X11_isHare
set_option maxRecDepth 20000 in
theorem ggX11_far_X11_isForm : GoodIn wsX11_far wsX11_isForm := goodIn_m mbX11_far (by decide +kernel) okX11_isForm
set_option maxRecDepth 20000 in
theorem gX11_far_X11_isForm : GoodIn wsX11_far (wsV RX11 405 RX11 yX11_isForm wsX11_isForm) := goodIn_app (goodIn_l mbX11_far [2699, 2700, 2701, 5] rfl (by decide +kernel)) ggX11_far_X11_isForm
set_option maxRecDepth 20000 in
theorem ggX11_far_X11_farOf : GoodIn wsX11_far wsX11_farOf := goodIn_m mbX11_far (by decide +kernel) okX11_farOf
set_option maxRecDepth 20000 in
theorem gX11_far_X11_farOf : GoodIn wsX11_far (wsV RX11 358 RX11 yX11_farOf wsX11_farOf) := goodIn_app (goodIn_l mbX11_far [2194, 2195, 2196, 5] rfl (by decide +kernel)) ggX11_far_X11_farOf
set_option maxRecDepth 20000 in
theorem ggX11_would_X11_within : GoodIn wsX11_would wsX11_within := goodIn_m mbX11_would (by decide +kernel) okX11_within
set_option maxRecDepth 20000 in
theorem gX11_would_X11_within : GoodIn wsX11_would (va_wsS RX11 390 yX11_within wsX11_within) := goodIn_app (goodIn_l mbX11_would [2577, 2578, 5] rfl (by decide +kernel)) ggX11_would_X11_within
set_option maxRecDepth 20000 in
theorem ggX11_would_X11_may : GoodIn wsX11_would wsX11_may := goodIn_m mbX11_would (by decide +kernel) okX11_may
set_option maxRecDepth 20000 in
theorem gX11_would_X11_may : GoodIn wsX11_would (wsV RX11 213 RX11 yX11_may wsX11_may) := goodIn_app (goodIn_l mbX11_would [1105, 1106, 1107, 5] rfl (by decide +kernel)) ggX11_would_X11_may
set_option maxRecDepth 20000 in
theorem ggX11_would_X11_leapOf : GoodIn wsX11_would wsX11_leapOf := goodIn_m mbX11_would (by decide +kernel) okX11_leapOf
set_option maxRecDepth 20000 in
theorem gX11_would_X11_leapOf : GoodIn wsX11_would (wsV RX11 354 RX11 yX11_leapOf wsX11_leapOf) := goodIn_app (goodIn_l mbX11_would [2260, 2261, 2262, 5] rfl (by decide +kernel)) ggX11_would_X11_leapOf
set_option maxRecDepth 20000 in
theorem ggX11_can_X11_isHare : GoodIn wsX11_can wsX11_isHare := goodIn_m mbX11_can (by decide +kernel) okX11_isHare
set_option maxRecDepth 20000 in
theorem gX11_can_X11_isHare : GoodIn wsX11_can (wsV RX11 408 RX11 yX11_isHare wsX11_isHare) := goodIn_app (goodIn_l mbX11_can [2767, 2768, 2769, 5] rfl (by decide +kernel)) ggX11_can_X11_isHare
set_option maxRecDepth 20000 in
theorem ggX11_can_X11_isForm : GoodIn wsX11_can wsX11_isForm := goodIn_m mbX11_can (by decide +kernel) okX11_isForm
set_option maxRecDepth 20000 in
theorem gX11_can_X11_isForm : GoodIn wsX11_can (wsV RX11 405 RX11 yX11_isForm wsX11_isForm) := goodIn_app (goodIn_l mbX11_can [2699, 2700, 2701, 5] rfl (by decide +kernel)) ggX11_can_X11_isForm
set_option maxRecDepth 20000 in
theorem ggX11_can_X11_take : GoodIn wsX11_can wsX11_take := goodIn_m mbX11_can (by decide +kernel) okX11_take
set_option maxRecDepth 20000 in
theorem gX11_can_X11_take : GoodIn wsX11_can (wsV RX11 316 RX11 yX11_take wsX11_take) := goodIn_app (goodIn_l mbX11_can [2130, 2131, 2132, 5] rfl (by decide +kernel)) ggX11_can_X11_take
set_option maxRecDepth 20000 in
theorem ggX11_can_X11_canLeap : GoodIn wsX11_can wsX11_canLeap := goodIn_m mbX11_can (by decide +kernel) okX11_canLeap
set_option maxRecDepth 20000 in
theorem gX11_can_X11_canLeap : GoodIn wsX11_can (wsV RX11 364 RX11 yX11_canLeap wsX11_canLeap) := goodIn_app (goodIn_l mbX11_can [2186, 2187, 2188, 5] rfl (by decide +kernel)) ggX11_can_X11_canLeap
set_option maxRecDepth 20000 in
theorem ggX11_rangeOf_X11_canLeap : GoodIn wsX11_rangeOf wsX11_canLeap := goodIn_m mbX11_rangeOf (by decide +kernel) okX11_canLeap
set_option maxRecDepth 20000 in
theorem gX11_rangeOf_X11_canLeap : GoodIn wsX11_rangeOf (wsV RX11 364 RX11 yX11_canLeap wsX11_canLeap) := goodIn_app (goodIn_l mbX11_rangeOf [2186, 2187, 2188, 5] rfl (by decide +kernel)) ggX11_rangeOf_X11_canLeap
set_option maxRecDepth 20000 in
theorem ggX11_range_X11_isHare : GoodIn wsX11_range wsX11_isHare := goodIn_m mbX11_range (by decide +kernel) okX11_isHare
set_option maxRecDepth 20000 in
theorem gX11_range_X11_isHare : GoodIn wsX11_range (wsV RX11 408 RX11 yX11_isHare wsX11_isHare) := goodIn_app (goodIn_l mbX11_range [2767, 2768, 2769, 5] rfl (by decide +kernel)) ggX11_range_X11_isHare
set_option maxRecDepth 20000 in
theorem ggX11_range_X11_take : GoodIn wsX11_range wsX11_take := goodIn_m mbX11_range (by decide +kernel) okX11_take
set_option maxRecDepth 20000 in
theorem gX11_range_X11_take : GoodIn wsX11_range (wsV RX11 316 RX11 yX11_take wsX11_take) := goodIn_app (goodIn_l mbX11_range [2130, 2131, 2132, 5] rfl (by decide +kernel)) ggX11_range_X11_take
set_option maxRecDepth 20000 in
theorem ggX11_range_X11_rangeOf : GoodIn wsX11_range wsX11_rangeOf := goodIn_m mbX11_range (by decide +kernel) okX11_rangeOf
set_option maxRecDepth 20000 in
theorem gX11_range_X11_rangeOf : GoodIn wsX11_range (wsV RX11 411 RX11 yX11_rangeOf wsX11_rangeOf) := goodIn_app (goodIn_l mbX11_range [3159, 3200, 3201, 5] rfl (by decide +kernel)) ggX11_range_X11_rangeOf
set_option maxRecDepth 20000 in
theorem ggX11_ahead_X11_within : GoodIn wsX11_ahead wsX11_within := goodIn_m mbX11_ahead (by decide +kernel) okX11_within
set_option maxRecDepth 20000 in
theorem gX11_ahead_X11_within : GoodIn wsX11_ahead (va_wsS RX11 390 yX11_within wsX11_within) := goodIn_app (goodIn_l mbX11_ahead [2577, 2578, 5] rfl (by decide +kernel)) ggX11_ahead_X11_within
set_option maxRecDepth 20000 in
theorem ggX11_ahead_X11_may : GoodIn wsX11_ahead wsX11_may := goodIn_m mbX11_ahead (by decide +kernel) okX11_may
set_option maxRecDepth 20000 in
theorem gX11_ahead_X11_may : GoodIn wsX11_ahead (wsV RX11 213 RX11 yX11_may wsX11_may) := goodIn_app (goodIn_l mbX11_ahead [1105, 1106, 1107, 5] rfl (by decide +kernel)) ggX11_ahead_X11_may
set_option maxRecDepth 20000 in
theorem ggX11_ahead_X11_take : GoodIn wsX11_ahead wsX11_take := goodIn_m mbX11_ahead (by decide +kernel) okX11_take
set_option maxRecDepth 20000 in
theorem gX11_ahead_X11_take : GoodIn wsX11_ahead (wsV RX11 316 RX11 yX11_take wsX11_take) := goodIn_app (goodIn_l mbX11_ahead [2130, 2131, 2132, 5] rfl (by decide +kernel)) ggX11_ahead_X11_take
set_option maxRecDepth 20000 in
theorem ggX11_ahead_X11_passes : GoodIn wsX11_ahead wsX11_passes := goodIn_m mbX11_ahead (by decide +kernel) okX11_passes
set_option maxRecDepth 20000 in
theorem gX11_ahead_X11_passes : GoodIn wsX11_ahead (wsV RX11 387 RX11 yX11_passes wsX11_passes) := goodIn_app (goodIn_l mbX11_ahead [2323, 2324, 2325, 5] rfl (by decide +kernel)) ggX11_ahead_X11_passes
set_option maxRecDepth 20000 in
theorem ggX11_ahead_X11_caughtNow : GoodIn wsX11_ahead wsX11_caughtNow := goodIn_m mbX11_ahead (by decide +kernel) okX11_caughtNow
set_option maxRecDepth 20000 in
theorem gX11_ahead_X11_caughtNow : GoodIn wsX11_ahead (wsV RX11 396 RX11 yX11_caughtNow wsX11_caughtNow) := goodIn_app (goodIn_l mbX11_ahead [2624, 2625, 2626, 5] rfl (by decide +kernel)) ggX11_ahead_X11_caughtNow
set_option maxRecDepth 20000 in
theorem ggX11_ahead_X11_debtsNow : GoodIn wsX11_ahead wsX11_debtsNow := goodIn_m mbX11_ahead (by decide +kernel) okX11_debtsNow
set_option maxRecDepth 20000 in
theorem gX11_ahead_X11_debtsNow : GoodIn wsX11_ahead (wsV RX11 402 RX11 yX11_debtsNow wsX11_debtsNow) := goodIn_app (goodIn_l mbX11_ahead [2632, 2633, 2634, 5] rfl (by decide +kernel)) ggX11_ahead_X11_debtsNow
set_option maxRecDepth 20000 in
theorem ggX11_hops_X11_isHare : GoodIn wsX11_hops wsX11_isHare := goodIn_m mbX11_hops (by decide +kernel) okX11_isHare
set_option maxRecDepth 20000 in
theorem gX11_hops_X11_isHare : GoodIn wsX11_hops (wsV RX11 408 RX11 yX11_isHare wsX11_isHare) := goodIn_app (goodIn_l mbX11_hops [2767, 2768, 2769, 5] rfl (by decide +kernel)) ggX11_hops_X11_isHare
set_option maxRecDepth 20000 in
theorem ggX11_hops_X11_isForm : GoodIn wsX11_hops wsX11_isForm := goodIn_m mbX11_hops (by decide +kernel) okX11_isForm
set_option maxRecDepth 20000 in
theorem gX11_hops_X11_isForm : GoodIn wsX11_hops (wsV RX11 405 RX11 yX11_isForm wsX11_isForm) := goodIn_app (goodIn_l mbX11_hops [2699, 2700, 2701, 5] rfl (by decide +kernel)) ggX11_hops_X11_isForm
set_option maxRecDepth 20000 in
theorem ggX11_hops_X11_take : GoodIn wsX11_hops wsX11_take := goodIn_m mbX11_hops (by decide +kernel) okX11_take
set_option maxRecDepth 20000 in
theorem gX11_hops_X11_take : GoodIn wsX11_hops (wsV RX11 316 RX11 yX11_take wsX11_take) := goodIn_app (goodIn_l mbX11_hops [2130, 2131, 2132, 5] rfl (by decide +kernel)) ggX11_hops_X11_take
set_option maxRecDepth 20000 in
theorem ggX11_hops_X11_isCaught : GoodIn wsX11_hops wsX11_isCaught := goodIn_m mbX11_hops (by decide +kernel) okX11_isCaught
set_option maxRecDepth 20000 in
theorem gX11_hops_X11_isCaught : GoodIn wsX11_hops (wsV RX11 340 RX11 yX11_isCaught wsX11_isCaught) := goodIn_app (goodIn_l mbX11_hops [2190, 2191, 2192, 5] rfl (by decide +kernel)) ggX11_hops_X11_isCaught
set_option maxRecDepth 20000 in
theorem ggX11_hops_X11_leapBy : GoodIn wsX11_hops wsX11_leapBy := goodIn_m mbX11_hops (by decide +kernel) okX11_leapBy
set_option maxRecDepth 20000 in
theorem gX11_hops_X11_leapBy : GoodIn wsX11_hops (wsV RX11 361 RX11 yX11_leapBy wsX11_leapBy) := goodIn_app (goodIn_l mbX11_hops [2241, 2242, 2243, 5] rfl (by decide +kernel)) ggX11_hops_X11_leapBy
set_option maxRecDepth 20000 in
theorem ggX11_hops_X11_farOf : GoodIn wsX11_hops wsX11_farOf := goodIn_m mbX11_hops (by decide +kernel) okX11_farOf
set_option maxRecDepth 20000 in
theorem gX11_hops_X11_farOf : GoodIn wsX11_hops (wsV RX11 358 RX11 yX11_farOf wsX11_farOf) := goodIn_app (goodIn_l mbX11_hops [2194, 2195, 2196, 5] rfl (by decide +kernel)) ggX11_hops_X11_farOf
set_option maxRecDepth 20000 in
theorem ggX11_findSeats_X11_take : GoodIn wsX11_findSeats wsX11_take := goodIn_m mbX11_findSeats (by decide +kernel) okX11_take
set_option maxRecDepth 20000 in
theorem gX11_findSeats_X11_take : GoodIn wsX11_findSeats (wsV RX11 316 RX11 yX11_take wsX11_take) := goodIn_app (goodIn_l mbX11_findSeats [2130, 2131, 2132, 5] rfl (by decide +kernel)) ggX11_findSeats_X11_take
set_option maxRecDepth 20000 in
theorem ggX11_findSeats_X11_isCaught : GoodIn wsX11_findSeats wsX11_isCaught := goodIn_m mbX11_findSeats (by decide +kernel) okX11_isCaught
set_option maxRecDepth 20000 in
theorem gX11_findSeats_X11_isCaught : GoodIn wsX11_findSeats (wsV RX11 340 RX11 yX11_isCaught wsX11_isCaught) := goodIn_app (goodIn_l mbX11_findSeats [2190, 2191, 2192, 5] rfl (by decide +kernel)) ggX11_findSeats_X11_isCaught
set_option maxRecDepth 20000 in
theorem ggX11_findSeats_X11_rangeOf : GoodIn wsX11_findSeats wsX11_rangeOf := goodIn_m mbX11_findSeats (by decide +kernel) okX11_rangeOf
set_option maxRecDepth 20000 in
theorem gX11_findSeats_X11_rangeOf : GoodIn wsX11_findSeats (wsV RX11 411 RX11 yX11_rangeOf wsX11_rangeOf) := goodIn_app (goodIn_l mbX11_findSeats [3159, 3200, 3201, 5] rfl (by decide +kernel)) ggX11_findSeats_X11_rangeOf
set_option maxRecDepth 20000 in
theorem ggX11_findSeats_X11_safeForms : GoodIn wsX11_findSeats wsX11_safeForms := goodIn_m mbX11_findSeats (by decide +kernel) okX11_safeForms
set_option maxRecDepth 20000 in
theorem gX11_findSeats_X11_safeForms : GoodIn wsX11_findSeats (wsV RX11 399 RX11 yX11_safeForms wsX11_safeForms) := goodIn_app (goodIn_l mbX11_findSeats [2628, 2629, 2630, 5] rfl (by decide +kernel)) ggX11_findSeats_X11_safeForms
set_option maxRecDepth 20000 in
theorem ggX11_seats_X11_findSeats : GoodIn wsX11_seats wsX11_findSeats := goodIn_m mbX11_seats (by decide +kernel) okX11_findSeats
set_option maxRecDepth 20000 in
theorem gX11_seats_X11_findSeats : GoodIn wsX11_seats (wsV RX11 414 RX11 yX11_findSeats wsX11_findSeats) := goodIn_app (goodIn_l mbX11_seats [3155, 3156, 3157, 5] rfl (by decide +kernel)) ggX11_seats_X11_findSeats
set_option maxRecDepth 20000 in
theorem ggX11_seat_X11_isHare : GoodIn wsX11_seat wsX11_isHare := goodIn_m mbX11_seat (by decide +kernel) okX11_isHare
set_option maxRecDepth 20000 in
theorem gX11_seat_X11_isHare : GoodIn wsX11_seat (wsV RX11 408 RX11 yX11_isHare wsX11_isHare) := goodIn_app (goodIn_l mbX11_seat [2767, 2768, 2769, 5] rfl (by decide +kernel)) ggX11_seat_X11_isHare
set_option maxRecDepth 20000 in
theorem ggX11_seat_X11_findSeats : GoodIn wsX11_seat wsX11_findSeats := goodIn_m mbX11_seat (by decide +kernel) okX11_findSeats
set_option maxRecDepth 20000 in
theorem gX11_seat_X11_findSeats : GoodIn wsX11_seat (wsV RX11 414 RX11 yX11_findSeats wsX11_findSeats) := goodIn_app (goodIn_l mbX11_seat [3155, 3156, 3157, 5] rfl (by decide +kernel)) ggX11_seat_X11_findSeats
set_option maxRecDepth 20000 in
theorem ggX11_layRing_X11_farOf : GoodIn wsX11_layRing wsX11_farOf := goodIn_m mbX11_layRing (by decide +kernel) okX11_farOf
set_option maxRecDepth 20000 in
theorem gX11_layRing_X11_farOf : GoodIn wsX11_layRing (wsV RX11 358 RX11 yX11_farOf wsX11_farOf) := goodIn_app (goodIn_l mbX11_layRing [2194, 2195, 2196, 5] rfl (by decide +kernel)) ggX11_layRing_X11_farOf
set_option maxRecDepth 20000 in
theorem ggX11_ring_X11_layRing : GoodIn wsX11_ring wsX11_layRing := goodIn_m mbX11_ring (by decide +kernel) okX11_layRing
set_option maxRecDepth 20000 in
theorem gX11_ring_X11_layRing : GoodIn wsX11_ring (wsV RX11 417 RX11 yX11_layRing wsX11_layRing) := goodIn_app (goodIn_l mbX11_ring [3333, 3334, 3335, 5] rfl (by decide +kernel)) ggX11_ring_X11_layRing
set_option maxRecDepth 20000 in
theorem ggX11_ringed_X11_may : GoodIn wsX11_ringed wsX11_may := goodIn_m mbX11_ringed (by decide +kernel) okX11_may
set_option maxRecDepth 20000 in
theorem gX11_ringed_X11_may : GoodIn wsX11_ringed (wsV RX11 213 RX11 yX11_may wsX11_may) := goodIn_app (goodIn_l mbX11_ringed [1105, 1106, 1107, 5] rfl (by decide +kernel)) ggX11_ringed_X11_may
set_option maxRecDepth 20000 in
theorem ggX11_ringed_X11_layRing : GoodIn wsX11_ringed wsX11_layRing := goodIn_m mbX11_ringed (by decide +kernel) okX11_layRing
set_option maxRecDepth 20000 in
theorem gX11_ringed_X11_layRing : GoodIn wsX11_ringed (wsV RX11 417 RX11 yX11_layRing wsX11_layRing) := goodIn_app (goodIn_l mbX11_ringed [3333, 3334, 3335, 5] rfl (by decide +kernel)) ggX11_ringed_X11_layRing
set_option maxRecDepth 20000 in
theorem ggX11_ringed_X11_farOf : GoodIn wsX11_ringed wsX11_farOf := goodIn_m mbX11_ringed (by decide +kernel) okX11_farOf
set_option maxRecDepth 20000 in
theorem gX11_ringed_X11_farOf : GoodIn wsX11_ringed (wsV RX11 358 RX11 yX11_farOf wsX11_farOf) := goodIn_app (goodIn_l mbX11_ringed [2194, 2195, 2196, 5] rfl (by decide +kernel)) ggX11_ringed_X11_farOf
set_option maxRecDepth 20000 in
theorem ggX11_lastsIn_X11_lastsIn : GoodIn wsX11_lastsIn wsX11_lastsIn := goodIn_m mbX11_lastsIn (by decide +kernel) okX11_lastsIn
set_option maxRecDepth 20000 in
theorem gX11_lastsIn_X11_lastsIn : GoodIn wsX11_lastsIn (wsV RX11 420 RX11 yX11_lastsIn wsX11_lastsIn) := goodIn_app (goodIn_l mbX11_lastsIn [3409, 3410, 3411, 5] rfl (by decide +kernel)) ggX11_lastsIn_X11_lastsIn
set_option maxRecDepth 20000 in
theorem ggX11_bouts_X11_isHare : GoodIn wsX11_bouts wsX11_isHare := goodIn_m mbX11_bouts (by decide +kernel) okX11_isHare
set_option maxRecDepth 20000 in
theorem gX11_bouts_X11_isHare : GoodIn wsX11_bouts (wsV RX11 408 RX11 yX11_isHare wsX11_isHare) := goodIn_app (goodIn_l mbX11_bouts [2767, 2768, 2769, 5] rfl (by decide +kernel)) ggX11_bouts_X11_isHare
set_option maxRecDepth 20000 in
theorem ggX11_bouts_X11_take : GoodIn wsX11_bouts wsX11_take := goodIn_m mbX11_bouts (by decide +kernel) okX11_take
set_option maxRecDepth 20000 in
theorem gX11_bouts_X11_take : GoodIn wsX11_bouts (wsV RX11 316 RX11 yX11_take wsX11_take) := goodIn_app (goodIn_l mbX11_bouts [2130, 2131, 2132, 5] rfl (by decide +kernel)) ggX11_bouts_X11_take
set_option maxRecDepth 20000 in
theorem ggX11_bouts_X11_caughtNow : GoodIn wsX11_bouts wsX11_caughtNow := goodIn_m mbX11_bouts (by decide +kernel) okX11_caughtNow
set_option maxRecDepth 20000 in
theorem gX11_bouts_X11_caughtNow : GoodIn wsX11_bouts (wsV RX11 396 RX11 yX11_caughtNow wsX11_caughtNow) := goodIn_app (goodIn_l mbX11_bouts [2624, 2625, 2626, 5] rfl (by decide +kernel)) ggX11_bouts_X11_caughtNow
set_option maxRecDepth 20000 in
theorem ggX11_bouts_X11_lastsIn : GoodIn wsX11_bouts wsX11_lastsIn := goodIn_m mbX11_bouts (by decide +kernel) okX11_lastsIn
set_option maxRecDepth 20000 in
theorem gX11_bouts_X11_lastsIn : GoodIn wsX11_bouts (wsV RX11 420 RX11 yX11_lastsIn wsX11_lastsIn) := goodIn_app (goodIn_l mbX11_bouts [3409, 3410, 3411, 5] rfl (by decide +kernel)) ggX11_bouts_X11_lastsIn
set_option maxRecDepth 20000 in
theorem ggX11_sitsThen_X11_sitIn : GoodIn wsX11_sitsThen wsX11_sitIn := goodIn_m mbX11_sitsThen (by decide +kernel) okX11_sitIn
set_option maxRecDepth 20000 in
theorem gX11_sitsThen_X11_sitIn : GoodIn wsX11_sitsThen (wsV RX11 348 RX11 yX11_sitIn wsX11_sitIn) := goodIn_app (goodIn_l mbX11_sitsThen [2253, 2254, 2255, 5] rfl (by decide +kernel)) ggX11_sitsThen_X11_sitIn
set_option maxRecDepth 20000 in
theorem ggX11_sitsThen_X11_ones : GoodIn wsX11_sitsThen wsX11_ones := goodIn_m mbX11_sitsThen (by decide +kernel) okX11_ones
set_option maxRecDepth 20000 in
theorem gX11_sitsThen_X11_ones : GoodIn wsX11_sitsThen (va_wsS RX11 351 yX11_ones wsX11_ones) := goodIn_app (goodIn_l mbX11_sitsThen [2257, 2258, 5] rfl (by decide +kernel)) ggX11_sitsThen_X11_ones
set_option maxRecDepth 20000 in
theorem ggX11_isFit_X11_isCaught : GoodIn wsX11_isFit wsX11_isCaught := goodIn_m mbX11_isFit (by decide +kernel) okX11_isCaught
set_option maxRecDepth 20000 in
theorem gX11_isFit_X11_isCaught : GoodIn wsX11_isFit (wsV RX11 340 RX11 yX11_isCaught wsX11_isCaught) := goodIn_app (goodIn_l mbX11_isFit [2190, 2191, 2192, 5] rfl (by decide +kernel)) ggX11_isFit_X11_isCaught
set_option maxRecDepth 20000 in
theorem ggX11_isFit_X11_sitsThen : GoodIn wsX11_isFit wsX11_sitsThen := goodIn_m mbX11_isFit (by decide +kernel) okX11_sitsThen
set_option maxRecDepth 20000 in
theorem gX11_isFit_X11_sitsThen : GoodIn wsX11_isFit (wsV RX11 424 RX11 yX11_sitsThen wsX11_sitsThen) := goodIn_app (goodIn_l mbX11_isFit [3542, 3543, 3584, 5] rfl (by decide +kernel)) ggX11_isFit_X11_sitsThen
set_option maxRecDepth 20000 in
theorem ggX11_fits_X11_within : GoodIn wsX11_fits wsX11_within := goodIn_m mbX11_fits (by decide +kernel) okX11_within
set_option maxRecDepth 20000 in
theorem gX11_fits_X11_within : GoodIn wsX11_fits (va_wsS RX11 390 yX11_within wsX11_within) := goodIn_app (goodIn_l mbX11_fits [2577, 2578, 5] rfl (by decide +kernel)) ggX11_fits_X11_within
set_option maxRecDepth 20000 in
theorem ggX11_fits_X11_may : GoodIn wsX11_fits wsX11_may := goodIn_m mbX11_fits (by decide +kernel) okX11_may
set_option maxRecDepth 20000 in
theorem gX11_fits_X11_may : GoodIn wsX11_fits (wsV RX11 213 RX11 yX11_may wsX11_may) := goodIn_app (goodIn_l mbX11_fits [1105, 1106, 1107, 5] rfl (by decide +kernel)) ggX11_fits_X11_may
set_option maxRecDepth 20000 in
theorem ggX11_fits_X11_take : GoodIn wsX11_fits wsX11_take := goodIn_m mbX11_fits (by decide +kernel) okX11_take
set_option maxRecDepth 20000 in
theorem gX11_fits_X11_take : GoodIn wsX11_fits (wsV RX11 316 RX11 yX11_take wsX11_take) := goodIn_app (goodIn_l mbX11_fits [2130, 2131, 2132, 5] rfl (by decide +kernel)) ggX11_fits_X11_take
set_option maxRecDepth 20000 in
theorem ggX11_fits_X11_isFit : GoodIn wsX11_fits wsX11_isFit := goodIn_m mbX11_fits (by decide +kernel) okX11_isFit
set_option maxRecDepth 20000 in
theorem gX11_fits_X11_isFit : GoodIn wsX11_fits (wsV RX11 427 RX11 yX11_isFit wsX11_isFit) := goodIn_app (goodIn_l mbX11_fits [3538, 3539, 3540, 5] rfl (by decide +kernel)) ggX11_fits_X11_isFit
set_option maxRecDepth 20000 in
theorem ggX11_worstOf_X11_isFit : GoodIn wsX11_worstOf wsX11_isFit := goodIn_m mbX11_worstOf (by decide +kernel) okX11_isFit
set_option maxRecDepth 20000 in
theorem gX11_worstOf_X11_isFit : GoodIn wsX11_worstOf (wsV RX11 427 RX11 yX11_isFit wsX11_isFit) := goodIn_app (goodIn_l mbX11_worstOf [3538, 3539, 3540, 5] rfl (by decide +kernel)) ggX11_worstOf_X11_isFit
set_option maxRecDepth 20000 in
theorem ggX11_worstOf_X11_sitsThen : GoodIn wsX11_worstOf wsX11_sitsThen := goodIn_m mbX11_worstOf (by decide +kernel) okX11_sitsThen
set_option maxRecDepth 20000 in
theorem gX11_worstOf_X11_sitsThen : GoodIn wsX11_worstOf (wsV RX11 424 RX11 yX11_sitsThen wsX11_sitsThen) := goodIn_app (goodIn_l mbX11_worstOf [3542, 3543, 3584, 5] rfl (by decide +kernel)) ggX11_worstOf_X11_sitsThen
set_option maxRecDepth 20000 in
theorem ggX11_look_X11_within : GoodIn wsX11_look wsX11_within := goodIn_m mbX11_look (by decide +kernel) okX11_within
set_option maxRecDepth 20000 in
theorem gX11_look_X11_within : GoodIn wsX11_look (va_wsS RX11 390 yX11_within wsX11_within) := goodIn_app (goodIn_l mbX11_look [2577, 2578, 5] rfl (by decide +kernel)) ggX11_look_X11_within
set_option maxRecDepth 20000 in
theorem ggX11_look_X11_may : GoodIn wsX11_look wsX11_may := goodIn_m mbX11_look (by decide +kernel) okX11_may
set_option maxRecDepth 20000 in
theorem gX11_look_X11_may : GoodIn wsX11_look (wsV RX11 213 RX11 yX11_may wsX11_may) := goodIn_app (goodIn_l mbX11_look [1105, 1106, 1107, 5] rfl (by decide +kernel)) ggX11_look_X11_may
set_option maxRecDepth 20000 in
theorem ggX11_look_X11_take : GoodIn wsX11_look wsX11_take := goodIn_m mbX11_look (by decide +kernel) okX11_take
set_option maxRecDepth 20000 in
theorem gX11_look_X11_take : GoodIn wsX11_look (wsV RX11 316 RX11 yX11_take wsX11_take) := goodIn_app (goodIn_l mbX11_look [2130, 2131, 2132, 5] rfl (by decide +kernel)) ggX11_look_X11_take
set_option maxRecDepth 20000 in
theorem ggX11_look_X11_worstOf : GoodIn wsX11_look wsX11_worstOf := goodIn_m mbX11_look (by decide +kernel) okX11_worstOf
set_option maxRecDepth 20000 in
theorem gX11_look_X11_worstOf : GoodIn wsX11_look (wsV RX11 430 RX11 yX11_worstOf wsX11_worstOf) := goodIn_app (goodIn_l mbX11_look [3655, 3656, 3657, 5] rfl (by decide +kernel)) ggX11_look_X11_worstOf
set_option maxRecDepth 20000 in
theorem ggX11_watch_X11_within : GoodIn wsX11_watch wsX11_within := goodIn_m mbX11_watch (by decide +kernel) okX11_within
set_option maxRecDepth 20000 in
theorem gX11_watch_X11_within : GoodIn wsX11_watch (va_wsS RX11 390 yX11_within wsX11_within) := goodIn_app (goodIn_l mbX11_watch [2577, 2578, 5] rfl (by decide +kernel)) ggX11_watch_X11_within
set_option maxRecDepth 20000 in
theorem ggX11_watch_X11_may : GoodIn wsX11_watch wsX11_may := goodIn_m mbX11_watch (by decide +kernel) okX11_may
set_option maxRecDepth 20000 in
theorem gX11_watch_X11_may : GoodIn wsX11_watch (wsV RX11 213 RX11 yX11_may wsX11_may) := goodIn_app (goodIn_l mbX11_watch [1105, 1106, 1107, 5] rfl (by decide +kernel)) ggX11_watch_X11_may
set_option maxRecDepth 20000 in
theorem ggX11_watch_X11_farOf : GoodIn wsX11_watch wsX11_farOf := goodIn_m mbX11_watch (by decide +kernel) okX11_farOf
set_option maxRecDepth 20000 in
theorem gX11_watch_X11_farOf : GoodIn wsX11_watch (wsV RX11 358 RX11 yX11_farOf wsX11_farOf) := goodIn_app (goodIn_l mbX11_watch [2194, 2195, 2196, 5] rfl (by decide +kernel)) ggX11_watch_X11_farOf
set_option maxRecDepth 20000 in
theorem ggX11_watch_X11_ones : GoodIn wsX11_watch wsX11_ones := goodIn_m mbX11_watch (by decide +kernel) okX11_ones
set_option maxRecDepth 20000 in
theorem gX11_watch_X11_ones : GoodIn wsX11_watch (va_wsS RX11 351 yX11_ones wsX11_ones) := goodIn_app (goodIn_l mbX11_watch [2257, 2258, 5] rfl (by decide +kernel)) ggX11_watch_X11_ones
set_option maxRecDepth 20000 in
theorem ggX11_few_X11_within : GoodIn wsX11_few wsX11_within := goodIn_m mbX11_few (by decide +kernel) okX11_within
set_option maxRecDepth 20000 in
theorem gX11_few_X11_within : GoodIn wsX11_few (va_wsS RX11 390 yX11_within wsX11_within) := goodIn_app (goodIn_l mbX11_few [2577, 2578, 5] rfl (by decide +kernel)) ggX11_few_X11_within
set_option maxRecDepth 20000 in
theorem ggX11_few_X11_may : GoodIn wsX11_few wsX11_may := goodIn_m mbX11_few (by decide +kernel) okX11_may
set_option maxRecDepth 20000 in
theorem gX11_few_X11_may : GoodIn wsX11_few (wsV RX11 213 RX11 yX11_may wsX11_may) := goodIn_app (goodIn_l mbX11_few [1105, 1106, 1107, 5] rfl (by decide +kernel)) ggX11_few_X11_may
set_option maxRecDepth 20000 in
theorem ggX11_few_X11_least : GoodIn wsX11_few wsX11_least := goodIn_m mbX11_few (by decide +kernel) okX11_least
set_option maxRecDepth 20000 in
theorem gX11_few_X11_least : GoodIn wsX11_few (va_wsS RX11 435 yX11_least wsX11_least) := goodIn_app (goodIn_l mbX11_few [3777, 3778, 5] rfl (by decide +kernel)) ggX11_few_X11_least
set_option maxRecDepth 20000 in
theorem ggX11_road_X11_within : GoodIn wsX11_road wsX11_within := goodIn_m mbX11_road (by decide +kernel) okX11_within
set_option maxRecDepth 20000 in
theorem gX11_road_X11_within : GoodIn wsX11_road (va_wsS RX11 390 yX11_within wsX11_within) := goodIn_app (goodIn_l mbX11_road [2577, 2578, 5] rfl (by decide +kernel)) ggX11_road_X11_within
set_option maxRecDepth 20000 in
theorem ggX11_road_X11_may : GoodIn wsX11_road wsX11_may := goodIn_m mbX11_road (by decide +kernel) okX11_may
set_option maxRecDepth 20000 in
theorem gX11_road_X11_may : GoodIn wsX11_road (wsV RX11 213 RX11 yX11_may wsX11_may) := goodIn_app (goodIn_l mbX11_road [1105, 1106, 1107, 5] rfl (by decide +kernel)) ggX11_road_X11_may
set_option maxRecDepth 20000 in
theorem ggX11_road_X11_hasBy : GoodIn wsX11_road wsX11_hasBy := goodIn_m mbX11_road (by decide +kernel) okX11_hasBy
set_option maxRecDepth 20000 in
theorem gX11_road_X11_hasBy : GoodIn wsX11_road (va_wsS RX11 438 yX11_hasBy wsX11_hasBy) := goodIn_app (goodIn_l mbX11_road [3794, 3795, 5] rfl (by decide +kernel)) ggX11_road_X11_hasBy
set_option maxRecDepth 20000 in
theorem ggX11_cloverBy_X11_isOwed : GoodIn wsX11_cloverBy wsX11_isOwed := goodIn_m mbX11_cloverBy (by decide +kernel) okX11_isOwed
set_option maxRecDepth 20000 in
theorem gX11_cloverBy_X11_isOwed : GoodIn wsX11_cloverBy (wsV RX11 345 RX11 yX11_isOwed wsX11_isOwed) := goodIn_app (goodIn_l mbX11_cloverBy [2249, 2250, 2251, 5] rfl (by decide +kernel)) ggX11_cloverBy_X11_isOwed
set_option maxRecDepth 20000 in
theorem ggX11_clover_X11_isHare : GoodIn wsX11_clover wsX11_isHare := goodIn_m mbX11_clover (by decide +kernel) okX11_isHare
set_option maxRecDepth 20000 in
theorem gX11_clover_X11_isHare : GoodIn wsX11_clover (wsV RX11 408 RX11 yX11_isHare wsX11_isHare) := goodIn_app (goodIn_l mbX11_clover [2767, 2768, 2769, 5] rfl (by decide +kernel)) ggX11_clover_X11_isHare
set_option maxRecDepth 20000 in
theorem ggX11_clover_X11_within : GoodIn wsX11_clover wsX11_within := goodIn_m mbX11_clover (by decide +kernel) okX11_within
set_option maxRecDepth 20000 in
theorem gX11_clover_X11_within : GoodIn wsX11_clover (va_wsS RX11 390 yX11_within wsX11_within) := goodIn_app (goodIn_l mbX11_clover [2577, 2578, 5] rfl (by decide +kernel)) ggX11_clover_X11_within
set_option maxRecDepth 20000 in
theorem ggX11_clover_X11_may : GoodIn wsX11_clover wsX11_may := goodIn_m mbX11_clover (by decide +kernel) okX11_may
set_option maxRecDepth 20000 in
theorem gX11_clover_X11_may : GoodIn wsX11_clover (wsV RX11 213 RX11 yX11_may wsX11_may) := goodIn_app (goodIn_l mbX11_clover [1105, 1106, 1107, 5] rfl (by decide +kernel)) ggX11_clover_X11_may
set_option maxRecDepth 20000 in
theorem ggX11_clover_X11_take : GoodIn wsX11_clover wsX11_take := goodIn_m mbX11_clover (by decide +kernel) okX11_take
set_option maxRecDepth 20000 in
theorem gX11_clover_X11_take : GoodIn wsX11_clover (wsV RX11 316 RX11 yX11_take wsX11_take) := goodIn_app (goodIn_l mbX11_clover [2130, 2131, 2132, 5] rfl (by decide +kernel)) ggX11_clover_X11_take
set_option maxRecDepth 20000 in
theorem ggX11_clover_X11_cloverBy : GoodIn wsX11_clover wsX11_cloverBy := goodIn_m mbX11_clover (by decide +kernel) okX11_cloverBy
set_option maxRecDepth 20000 in
theorem gX11_clover_X11_cloverBy : GoodIn wsX11_clover (wsV RX11 441 RX11 yX11_cloverBy wsX11_cloverBy) := goodIn_app (goodIn_l mbX11_clover [3857, 3858, 3859, 5] rfl (by decide +kernel)) ggX11_clover_X11_cloverBy
set_option maxRecDepth 20000 in
theorem ggX11_clover_X11_isOwed : GoodIn wsX11_clover wsX11_isOwed := goodIn_m mbX11_clover (by decide +kernel) okX11_isOwed
set_option maxRecDepth 20000 in
theorem gX11_clover_X11_isOwed : GoodIn wsX11_clover (wsV RX11 345 RX11 yX11_isOwed wsX11_isOwed) := goodIn_app (goodIn_l mbX11_clover [2249, 2250, 2251, 5] rfl (by decide +kernel)) ggX11_clover_X11_isOwed
set_option maxRecDepth 20000 in
theorem ggX11_strongest_X11_within : GoodIn wsX11_strongest wsX11_within := goodIn_m mbX11_strongest (by decide +kernel) okX11_within
set_option maxRecDepth 20000 in
theorem gX11_strongest_X11_within : GoodIn wsX11_strongest (va_wsS RX11 390 yX11_within wsX11_within) := goodIn_app (goodIn_l mbX11_strongest [2577, 2578, 5] rfl (by decide +kernel)) ggX11_strongest_X11_within
set_option maxRecDepth 20000 in
theorem ggX11_strongest_X11_may : GoodIn wsX11_strongest wsX11_may := goodIn_m mbX11_strongest (by decide +kernel) okX11_may
set_option maxRecDepth 20000 in
theorem gX11_strongest_X11_may : GoodIn wsX11_strongest (wsV RX11 213 RX11 yX11_may wsX11_may) := goodIn_app (goodIn_l mbX11_strongest [1105, 1106, 1107, 5] rfl (by decide +kernel)) ggX11_strongest_X11_may
set_option maxRecDepth 20000 in
theorem ggX11_strongest_X11_take : GoodIn wsX11_strongest wsX11_take := goodIn_m mbX11_strongest (by decide +kernel) okX11_take
set_option maxRecDepth 20000 in
theorem gX11_strongest_X11_take : GoodIn wsX11_strongest (wsV RX11 316 RX11 yX11_take wsX11_take) := goodIn_app (goodIn_l mbX11_strongest [2130, 2131, 2132, 5] rfl (by decide +kernel)) ggX11_strongest_X11_take
set_option maxRecDepth 20000 in
theorem ggX11_strongest_X11_isCaught : GoodIn wsX11_strongest wsX11_isCaught := goodIn_m mbX11_strongest (by decide +kernel) okX11_isCaught
set_option maxRecDepth 20000 in
theorem gX11_strongest_X11_isCaught : GoodIn wsX11_strongest (wsV RX11 340 RX11 yX11_isCaught wsX11_isCaught) := goodIn_app (goodIn_l mbX11_strongest [2190, 2191, 2192, 5] rfl (by decide +kernel)) ggX11_strongest_X11_isCaught
set_option maxRecDepth 20000 in
theorem ggX11_ties_X11_isHare : GoodIn wsX11_ties wsX11_isHare := goodIn_m mbX11_ties (by decide +kernel) okX11_isHare
set_option maxRecDepth 20000 in
theorem gX11_ties_X11_isHare : GoodIn wsX11_ties (wsV RX11 408 RX11 yX11_isHare wsX11_isHare) := goodIn_app (goodIn_l mbX11_ties [2767, 2768, 2769, 5] rfl (by decide +kernel)) ggX11_ties_X11_isHare
set_option maxRecDepth 20000 in
theorem ggX11_ties_X11_within : GoodIn wsX11_ties wsX11_within := goodIn_m mbX11_ties (by decide +kernel) okX11_within
set_option maxRecDepth 20000 in
theorem gX11_ties_X11_within : GoodIn wsX11_ties (va_wsS RX11 390 yX11_within wsX11_within) := goodIn_app (goodIn_l mbX11_ties [2577, 2578, 5] rfl (by decide +kernel)) ggX11_ties_X11_within
set_option maxRecDepth 20000 in
theorem ggX11_ties_X11_may : GoodIn wsX11_ties wsX11_may := goodIn_m mbX11_ties (by decide +kernel) okX11_may
set_option maxRecDepth 20000 in
theorem gX11_ties_X11_may : GoodIn wsX11_ties (wsV RX11 213 RX11 yX11_may wsX11_may) := goodIn_app (goodIn_l mbX11_ties [1105, 1106, 1107, 5] rfl (by decide +kernel)) ggX11_ties_X11_may
set_option maxRecDepth 20000 in
theorem ggX11_refuge_X11_isForm : GoodIn wsX11_refuge wsX11_isForm := goodIn_m mbX11_refuge (by decide +kernel) okX11_isForm
set_option maxRecDepth 20000 in
theorem gX11_refuge_X11_isForm : GoodIn wsX11_refuge (wsV RX11 405 RX11 yX11_isForm wsX11_isForm) := goodIn_app (goodIn_l mbX11_refuge [2699, 2700, 2701, 5] rfl (by decide +kernel)) ggX11_refuge_X11_isForm
set_option maxRecDepth 20000 in
theorem ggX11_refuge_X11_within : GoodIn wsX11_refuge wsX11_within := goodIn_m mbX11_refuge (by decide +kernel) okX11_within
set_option maxRecDepth 20000 in
theorem gX11_refuge_X11_within : GoodIn wsX11_refuge (va_wsS RX11 390 yX11_within wsX11_within) := goodIn_app (goodIn_l mbX11_refuge [2577, 2578, 5] rfl (by decide +kernel)) ggX11_refuge_X11_within
set_option maxRecDepth 20000 in
theorem ggX11_refuge_X11_may : GoodIn wsX11_refuge wsX11_may := goodIn_m mbX11_refuge (by decide +kernel) okX11_may
set_option maxRecDepth 20000 in
theorem gX11_refuge_X11_may : GoodIn wsX11_refuge (wsV RX11 213 RX11 yX11_may wsX11_may) := goodIn_app (goodIn_l mbX11_refuge [1105, 1106, 1107, 5] rfl (by decide +kernel)) ggX11_refuge_X11_may
set_option maxRecDepth 20000 in
theorem ggX11_refuge_X11_isSafe : GoodIn wsX11_refuge wsX11_isSafe := goodIn_m mbX11_refuge (by decide +kernel) okX11_isSafe
set_option maxRecDepth 20000 in
theorem gX11_refuge_X11_isSafe : GoodIn wsX11_refuge (wsV RX11 368 RX11 yX11_isSafe wsX11_isSafe) := goodIn_app (goodIn_l mbX11_refuge [2375, 2376, 2377, 5] rfl (by decide +kernel)) ggX11_refuge_X11_isSafe
set_option maxRecDepth 20000 in
theorem ggX11_refuge_X11_farOf : GoodIn wsX11_refuge wsX11_farOf := goodIn_m mbX11_refuge (by decide +kernel) okX11_farOf
set_option maxRecDepth 20000 in
theorem gX11_refuge_X11_farOf : GoodIn wsX11_refuge (wsV RX11 358 RX11 yX11_farOf wsX11_farOf) := goodIn_app (goodIn_l mbX11_refuge [2194, 2195, 2196, 5] rfl (by decide +kernel)) ggX11_refuge_X11_farOf
set_option maxRecDepth 20000 in
theorem ggX11_marchGoes_X11_take : GoodIn wsX11_marchGoes wsX11_take := goodIn_m mbX11_marchGoes (by decide +kernel) okX11_take
set_option maxRecDepth 20000 in
theorem gX11_marchGoes_X11_take : GoodIn wsX11_marchGoes (wsV RX11 316 RX11 yX11_take wsX11_take) := goodIn_app (goodIn_l mbX11_marchGoes [2130, 2131, 2132, 5] rfl (by decide +kernel)) ggX11_marchGoes_X11_take
set_option maxRecDepth 20000 in
theorem ggX11_marchGoes_X11_draws : GoodIn wsX11_marchGoes wsX11_draws := goodIn_m mbX11_marchGoes (by decide +kernel) okX11_draws
set_option maxRecDepth 20000 in
theorem gX11_marchGoes_X11_draws : GoodIn wsX11_marchGoes (wsV RX11 451 RX11 yX11_draws wsX11_draws) := goodIn_app (goodIn_l mbX11_marchGoes [4112, 4113, 4114, 5] rfl (by decide +kernel)) ggX11_marchGoes_X11_draws
set_option maxRecDepth 20000 in
theorem ggX11_marchGoes_X11_leapsTo : GoodIn wsX11_marchGoes wsX11_leapsTo := goodIn_m mbX11_marchGoes (by decide +kernel) okX11_leapsTo
set_option maxRecDepth 20000 in
theorem gX11_marchGoes_X11_leapsTo : GoodIn wsX11_marchGoes (wsV RX11 377 RX11 yX11_leapsTo wsX11_leapsTo) := goodIn_app (goodIn_l mbX11_marchGoes [2182, 2183, 2184, 5] rfl (by decide +kernel)) ggX11_marchGoes_X11_leapsTo
set_option maxRecDepth 20000 in
theorem ggX11_marchGoes_X11_boxes : GoodIn wsX11_marchGoes wsX11_boxes := goodIn_m mbX11_marchGoes (by decide +kernel) okX11_boxes
set_option maxRecDepth 20000 in
theorem gX11_marchGoes_X11_boxes : GoodIn wsX11_marchGoes (wsV RX11 380 RX11 yX11_boxes wsX11_boxes) := goodIn_app (goodIn_l mbX11_marchGoes [2315, 2316, 2317, 5] rfl (by decide +kernel)) ggX11_marchGoes_X11_boxes
set_option maxRecDepth 20000 in
theorem ggX11_marchGoes_X11_passes : GoodIn wsX11_marchGoes wsX11_passes := goodIn_m mbX11_marchGoes (by decide +kernel) okX11_passes
set_option maxRecDepth 20000 in
theorem gX11_marchGoes_X11_passes : GoodIn wsX11_marchGoes (wsV RX11 387 RX11 yX11_passes wsX11_passes) := goodIn_app (goodIn_l mbX11_marchGoes [2323, 2324, 2325, 5] rfl (by decide +kernel)) ggX11_marchGoes_X11_passes
set_option maxRecDepth 20000 in
theorem ggX11_strengthNow_X11_isCaught : GoodIn wsX11_strengthNow wsX11_isCaught := goodIn_m mbX11_strengthNow (by decide +kernel) okX11_isCaught
set_option maxRecDepth 20000 in
theorem gX11_strengthNow_X11_isCaught : GoodIn wsX11_strengthNow (wsV RX11 340 RX11 yX11_isCaught wsX11_isCaught) := goodIn_app (goodIn_l mbX11_strengthNow [2190, 2191, 2192, 5] rfl (by decide +kernel)) ggX11_strengthNow_X11_isCaught
set_option maxRecDepth 20000 in
theorem ggX11_march_X11_within : GoodIn wsX11_march wsX11_within := goodIn_m mbX11_march (by decide +kernel) okX11_within
set_option maxRecDepth 20000 in
theorem gX11_march_X11_within : GoodIn wsX11_march (va_wsS RX11 390 yX11_within wsX11_within) := goodIn_app (goodIn_l mbX11_march [2577, 2578, 5] rfl (by decide +kernel)) ggX11_march_X11_within
set_option maxRecDepth 20000 in
theorem ggX11_march_X11_may : GoodIn wsX11_march wsX11_may := goodIn_m mbX11_march (by decide +kernel) okX11_may
set_option maxRecDepth 20000 in
theorem gX11_march_X11_may : GoodIn wsX11_march (wsV RX11 213 RX11 yX11_may wsX11_may) := goodIn_app (goodIn_l mbX11_march [1105, 1106, 1107, 5] rfl (by decide +kernel)) ggX11_march_X11_may
set_option maxRecDepth 20000 in
theorem ggX11_march_X11_marchGoes : GoodIn wsX11_march wsX11_marchGoes := goodIn_m mbX11_march (by decide +kernel) okX11_marchGoes
set_option maxRecDepth 20000 in
theorem gX11_march_X11_marchGoes : GoodIn wsX11_march (wsV RX11 454 RX11 yX11_marchGoes wsX11_marchGoes) := goodIn_app (goodIn_l mbX11_march [4107, 4108, 4109, 5] rfl (by decide +kernel)) ggX11_march_X11_marchGoes
set_option maxRecDepth 20000 in
theorem ggX11_march_X11_caughtNow : GoodIn wsX11_march wsX11_caughtNow := goodIn_m mbX11_march (by decide +kernel) okX11_caughtNow
set_option maxRecDepth 20000 in
theorem gX11_march_X11_caughtNow : GoodIn wsX11_march (wsV RX11 396 RX11 yX11_caughtNow wsX11_caughtNow) := goodIn_app (goodIn_l mbX11_march [2624, 2625, 2626, 5] rfl (by decide +kernel)) ggX11_march_X11_caughtNow
set_option maxRecDepth 20000 in
theorem ggX11_march_X11_strengthNow : GoodIn wsX11_march wsX11_strengthNow := goodIn_m mbX11_march (by decide +kernel) okX11_strengthNow
set_option maxRecDepth 20000 in
theorem gX11_march_X11_strengthNow : GoodIn wsX11_march (wsV RX11 457 RX11 yX11_strengthNow wsX11_strengthNow) := goodIn_app (goodIn_l mbX11_march [4117, 4118, 4119, 5] rfl (by decide +kernel)) ggX11_march_X11_strengthNow
set_option maxRecDepth 20000 in
theorem ggX11_span_X11_within : GoodIn wsX11_span wsX11_within := goodIn_m mbX11_span (by decide +kernel) okX11_within
set_option maxRecDepth 20000 in
theorem gX11_span_X11_within : GoodIn wsX11_span (va_wsS RX11 390 yX11_within wsX11_within) := goodIn_app (goodIn_l mbX11_span [2577, 2578, 5] rfl (by decide +kernel)) ggX11_span_X11_within
set_option maxRecDepth 20000 in
theorem ggX11_span_X11_may : GoodIn wsX11_span wsX11_may := goodIn_m mbX11_span (by decide +kernel) okX11_may
set_option maxRecDepth 20000 in
theorem gX11_span_X11_may : GoodIn wsX11_span (wsV RX11 213 RX11 yX11_may wsX11_may) := goodIn_app (goodIn_l mbX11_span [1105, 1106, 1107, 5] rfl (by decide +kernel)) ggX11_span_X11_may
set_option maxRecDepth 20000 in
theorem ggX11_span_X11_marchGoes : GoodIn wsX11_span wsX11_marchGoes := goodIn_m mbX11_span (by decide +kernel) okX11_marchGoes
set_option maxRecDepth 20000 in
theorem gX11_span_X11_marchGoes : GoodIn wsX11_span (wsV RX11 454 RX11 yX11_marchGoes wsX11_marchGoes) := goodIn_app (goodIn_l mbX11_span [4107, 4108, 4109, 5] rfl (by decide +kernel)) ggX11_span_X11_marchGoes
set_option maxRecDepth 20000 in
theorem ggX11_span_X11_isCaught : GoodIn wsX11_span wsX11_isCaught := goodIn_m mbX11_span (by decide +kernel) okX11_isCaught
set_option maxRecDepth 20000 in
theorem gX11_span_X11_isCaught : GoodIn wsX11_span (wsV RX11 340 RX11 yX11_isCaught wsX11_isCaught) := goodIn_app (goodIn_l mbX11_span [2190, 2191, 2192, 5] rfl (by decide +kernel)) ggX11_span_X11_isCaught
set_option maxRecDepth 20000 in
theorem ggX11_keepsAll_X11_keepsRow : GoodIn wsX11_keepsAll wsX11_keepsRow := goodIn_m mbX11_keepsAll (by decide +kernel) okX11_keepsRow
set_option maxRecDepth 20000 in
theorem gX11_keepsAll_X11_keepsRow : GoodIn wsX11_keepsAll (wsV RX11 460 RX11 yX11_keepsRow wsX11_keepsRow) := goodIn_app (goodIn_l mbX11_keepsAll [4229, 4230, 4231, 5] rfl (by decide +kernel)) ggX11_keepsAll_X11_keepsRow
set_option maxRecDepth 20000 in
theorem ggX11_image_X11_keepsAll : GoodIn wsX11_image wsX11_keepsAll := goodIn_m mbX11_image (by decide +kernel) okX11_keepsAll
set_option maxRecDepth 20000 in
theorem gX11_image_X11_keepsAll : GoodIn wsX11_image (wsV RX11 464 RX11 yX11_keepsAll wsX11_keepsAll) := goodIn_app (goodIn_l mbX11_image [4225, 4226, 4227, 5] rfl (by decide +kernel)) ggX11_image_X11_keepsAll
set_option maxRecDepth 20000 in
theorem ggX11_restore_X11_keepsAll : GoodIn wsX11_restore wsX11_keepsAll := goodIn_m mbX11_restore (by decide +kernel) okX11_keepsAll
set_option maxRecDepth 20000 in
theorem gX11_restore_X11_keepsAll : GoodIn wsX11_restore (wsV RX11 464 RX11 yX11_keepsAll wsX11_keepsAll) := goodIn_app (goodIn_l mbX11_restore [4225, 4226, 4227, 5] rfl (by decide +kernel)) ggX11_restore_X11_keepsAll
set_option maxRecDepth 20000 in
theorem ggX11_status_X11_within : GoodIn wsX11_status wsX11_within := goodIn_m mbX11_status (by decide +kernel) okX11_within
set_option maxRecDepth 20000 in
theorem gX11_status_X11_within : GoodIn wsX11_status (va_wsS RX11 390 yX11_within wsX11_within) := goodIn_app (goodIn_l mbX11_status [2577, 2578, 5] rfl (by decide +kernel)) ggX11_status_X11_within
set_option maxRecDepth 20000 in
theorem ggJ0_length_8abf5_J0_coder_7d493 : GoodIn wsJ0_length_8abf5 wsJ0_coder_7d493 := goodIn_m mbJ0_length_8abf5 (by decide +kernel) okJ0_coder_7d493
set_option maxRecDepth 20000 in
theorem gJ0_length_8abf5_J0_coder_7d493 : GoodIn wsJ0_length_8abf5 (wsV RJ0 335 RJ0 yJ0_coder_7d493 wsJ0_coder_7d493) := goodIn_app (goodIn_l mbJ0_length_8abf5 [789, 790, 791, 786] rfl (by decide +kernel)) ggJ0_length_8abf5_J0_coder_7d493
set_option maxRecDepth 20000 in
theorem ggJ0_charAt_5068e_J0_isLatin1_aae02 : GoodIn wsJ0_charAt_5068e wsJ0_isLatin1_aae02 := goodIn_m mbJ0_charAt_5068e (by decide +kernel) okJ0_isLatin1_aae02
set_option maxRecDepth 20000 in
theorem gJ0_charAt_5068e_J0_isLatin1_aae02 : GoodIn wsJ0_charAt_5068e (wsV RJ0 492 RJ0 yJ0_isLatin1_aae02 wsJ0_isLatin1_aae02) := goodIn_app (goodIn_l mbJ0_charAt_5068e [844, 845, 846, 786] rfl (by decide +kernel)) ggJ0_charAt_5068e_J0_isLatin1_aae02
set_option maxRecDepth 20000 in
theorem ggJ0_charAt_5068e_J1_charAt_3b067 : GoodIn wsJ0_charAt_5068e wsJ1_charAt_3b067 := goodIn_m mbJ0_charAt_5068e (by decide +kernel) okJ1_charAt_3b067
set_option maxRecDepth 20000 in
theorem gJ0_charAt_5068e_J1_charAt_3b067 : GoodIn wsJ0_charAt_5068e (va_wsS RJ0 495 yJ1_charAt_3b067 wsJ1_charAt_3b067) := goodIn_app (goodIn_l mbJ0_charAt_5068e [848, 849, 850] rfl (by decide +kernel)) ggJ0_charAt_5068e_J1_charAt_3b067
set_option maxRecDepth 20000 in
theorem ggJ0_checkIndex_df160_J3_checkIndex_8e157 : GoodIn wsJ0_checkIndex_df160 wsJ3_checkIndex_8e157 := goodIn_m mbJ0_checkIndex_df160 (by decide +kernel) okJ3_checkIndex_8e157
set_option maxRecDepth 20000 in
theorem gJ0_checkIndex_df160_J3_checkIndex_8e157 : GoodIn wsJ0_checkIndex_df160 (va_wsS RJ0 1059 yJ3_checkIndex_8e157 wsJ3_checkIndex_8e157) := goodIn_app (goodIn_l mbJ0_checkIndex_df160 [896, 897, 898] rfl (by decide +kernel)) ggJ0_checkIndex_df160_J3_checkIndex_8e157
set_option maxRecDepth 20000 in
theorem ggJ1_charAt_3b067_J0_checkIndex_df160 : GoodIn wsJ1_charAt_3b067 wsJ0_checkIndex_df160 := goodIn_m mbJ1_charAt_3b067 (by decide +kernel) okJ0_checkIndex_df160
set_option maxRecDepth 20000 in
theorem gJ1_charAt_3b067_J0_checkIndex_df160 : GoodIn wsJ1_charAt_3b067 (va_wsS RJ1 9 yJ0_checkIndex_df160 wsJ0_checkIndex_df160) := goodIn_app (goodIn_l mbJ1_charAt_3b067 [852, 853, 786] rfl (by decide +kernel)) ggJ1_charAt_3b067_J0_checkIndex_df160
set_option maxRecDepth 20000 in
theorem ggL_down_X10_down : GoodIn wsL_down wsX10_down := goodIn_ca (goodIn_m mbL_down (by decide +kernel) okX10_down) (goodIn_sub (fun _ h => List.mem_cons_of_mem _ (List.mem_append_right _ h)) (by decide +kernel))
set_option maxRecDepth 20000 in
theorem gL_down_X10_down : GoodIn wsL_down (wsV RL 7 RX10 yX10_down wsX10_down) := goodIn_app (goodIn_l mbL_down [596, 597, 598, 2] rfl (by decide +kernel)) ggL_down_X10_down
set_option maxRecDepth 20000 in
theorem ggL_law_X10_law : GoodIn wsL_law wsX10_law := goodIn_ca (goodIn_m mbL_law (by decide +kernel) okX10_law) (goodIn_sub (fun _ h => List.mem_cons_of_mem _ (List.mem_append_right _ h)) (by decide +kernel))
set_option maxRecDepth 20000 in
theorem gL_law_X10_law : GoodIn wsL_law (wsV RL 15 RX10 yX10_law wsX10_law) := goodIn_app (goodIn_l mbL_law [1345, 1346, 1347, 2] rfl (by decide +kernel)) ggL_law_X10_law
set_option maxRecDepth 20000 in
theorem ggL_work_X10_work : GoodIn wsL_work wsX10_work := goodIn_ca (goodIn_m mbL_work (by decide +kernel) okX10_work) (goodIn_sub (fun _ h => List.mem_cons_of_mem _ (List.mem_append_right _ h)) (by decide +kernel))
set_option maxRecDepth 20000 in
theorem gL_work_X10_work : GoodIn wsL_work (wsV RL 18 RX10 yX10_work wsX10_work) := goodIn_app (goodIn_l mbL_work [1553, 1554, 1555, 2] rfl (by decide +kernel)) ggL_work_X10_work
set_option maxRecDepth 20000 in
theorem ggL_book_X10_book : GoodIn wsL_book wsX10_book := goodIn_ca (goodIn_m mbL_book (by decide +kernel) okX10_book) (goodIn_sub (fun _ h => List.mem_cons_of_mem _ (List.mem_append_right _ h)) (by decide +kernel))
set_option maxRecDepth 20000 in
theorem gL_book_X10_book : GoodIn wsL_book (wsV RL 21 RX10 yX10_book wsX10_book) := goodIn_app (goodIn_l mbL_book [2382, 2383, 2384, 2] rfl (by decide +kernel)) ggL_book_X10_book
set_option maxRecDepth 20000 in
theorem ggL_told_X10_told : GoodIn wsL_told wsX10_told := goodIn_ca (goodIn_m mbL_told (by decide +kernel) okX10_told) (goodIn_sub (fun _ h => List.mem_cons_of_mem _ (List.mem_append_right _ h)) (by decide +kernel))
set_option maxRecDepth 20000 in
theorem gL_told_X10_told : GoodIn wsL_told (wsV RL 24 RX10 yX10_told wsX10_told) := goodIn_app (goodIn_l mbL_told [2512, 2513, 2514, 2] rfl (by decide +kernel)) ggL_told_X10_told
set_option maxRecDepth 20000 in
theorem ggL_form_X10_form : GoodIn wsL_form wsX10_form := goodIn_ca (goodIn_ca (goodIn_m mbL_form (by decide +kernel) okX10_form) (goodIn_sub (fun _ h => List.mem_cons_of_mem _ (List.mem_append_left _ (List.mem_append_right _ h))) (by decide +kernel))) (goodIn_sub (fun _ h => List.mem_cons_of_mem _ (List.mem_append_right _ h)) (by decide +kernel))
set_option maxRecDepth 20000 in
theorem gL_form_X10_form : GoodIn wsL_form (wsV RL 27 RX10 yX10_form wsX10_form) := goodIn_app (goodIn_l mbL_form [2640, 2641, 2642, 2] rfl (by decide +kernel)) ggL_form_X10_form
set_option maxRecDepth 20000 in
theorem ggL_hare_X10_hare : GoodIn wsL_hare wsX10_hare := goodIn_ca (goodIn_ca (goodIn_m mbL_hare (by decide +kernel) okX10_hare) (goodIn_sub (fun _ h => List.mem_cons_of_mem _ (List.mem_append_left _ (List.mem_append_right _ h))) (by decide +kernel))) (goodIn_sub (fun _ h => List.mem_cons_of_mem _ (List.mem_append_right _ h)) (by decide +kernel))
set_option maxRecDepth 20000 in
theorem gL_hare_X10_hare : GoodIn wsL_hare (wsV RL 33 RX10 yX10_hare wsX10_hare) := goodIn_app (goodIn_l mbL_hare [2706, 2707, 2708, 2] rfl (by decide +kernel)) ggL_hare_X10_hare
set_option maxRecDepth 20000 in
theorem ggL_fox_X10_fox : GoodIn wsL_fox wsX10_fox := goodIn_ca (goodIn_ca (goodIn_m mbL_fox (by decide +kernel) okX10_fox) (goodIn_sub (fun _ h => List.mem_cons_of_mem _ (List.mem_append_left _ (List.mem_append_right _ h))) (by decide +kernel))) (goodIn_sub (fun _ h => List.mem_cons_of_mem _ (List.mem_append_right _ h)) (by decide +kernel))
set_option maxRecDepth 20000 in
theorem gL_fox_X10_fox : GoodIn wsL_fox (wsV RL 36 RX10 yX10_fox wsX10_fox) := goodIn_app (goodIn_l mbL_fox [2774, 2775, 2816, 2] rfl (by decide +kernel)) ggL_fox_X10_fox
set_option maxRecDepth 20000 in
theorem ggL_debt_X10_debt : GoodIn wsL_debt wsX10_debt := goodIn_ca (goodIn_m mbL_debt (by decide +kernel) okX10_debt) (goodIn_sub (fun _ h => List.mem_cons_of_mem _ (List.mem_append_right _ h)) (by decide +kernel))
set_option maxRecDepth 20000 in
theorem gL_debt_X10_debt : GoodIn wsL_debt (wsV RL 39 RX10 yX10_debt wsX10_debt) := goodIn_app (goodIn_l mbL_debt [2827, 2828, 2829, 2] rfl (by decide +kernel)) ggL_debt_X10_debt
set_option maxRecDepth 20000 in
theorem ggL_far_X10_far : GoodIn wsL_far wsX10_far := goodIn_ca (goodIn_m mbL_far (by decide +kernel) okX10_far) (goodIn_sub (fun _ h => List.mem_cons_of_mem _ (List.mem_append_right _ h)) (by decide +kernel))
set_option maxRecDepth 20000 in
theorem gL_far_X10_far : GoodIn wsL_far (wsV RL 42 RX10 yX10_far wsX10_far) := goodIn_app (goodIn_l mbL_far [2839, 2880, 2881, 2] rfl (by decide +kernel)) ggL_far_X10_far
set_option maxRecDepth 20000 in
theorem ggL_would_X10_would : GoodIn wsL_would wsX10_would := goodIn_ca (goodIn_m mbL_would (by decide +kernel) okX10_would) (goodIn_sub (fun _ h => List.mem_cons_of_mem _ (List.mem_append_right _ h)) (by decide +kernel))
set_option maxRecDepth 20000 in
theorem gL_would_X10_would : GoodIn wsL_would (wsV RL 45 RX10 yX10_would wsX10_would) := goodIn_app (goodIn_l mbL_would [2891, 2892, 2893, 2] rfl (by decide +kernel)) ggL_would_X10_would
set_option maxRecDepth 20000 in
theorem ggL_can_X10_can : GoodIn wsL_can wsX10_can := goodIn_ca (goodIn_m mbL_can (by decide +kernel) okX10_can) (goodIn_sub (fun _ h => List.mem_cons_of_mem _ (List.mem_append_right _ h)) (by decide +kernel))
set_option maxRecDepth 20000 in
theorem gL_can_X10_can : GoodIn wsL_can (wsV RL 49 RX10 yX10_can wsX10_can) := goodIn_app (goodIn_l mbL_can [2945, 2946, 2947, 2] rfl (by decide +kernel)) ggL_can_X10_can
set_option maxRecDepth 20000 in
theorem ggL_ahead_X10_ahead : GoodIn wsL_ahead wsX10_ahead := goodIn_ca (goodIn_m mbL_ahead (by decide +kernel) okX10_ahead) (goodIn_sub (fun _ h => List.mem_cons_of_mem _ (List.mem_append_right _ h)) (by decide +kernel))
set_option maxRecDepth 20000 in
theorem gL_ahead_X10_ahead : GoodIn wsL_ahead (wsV RL 53 RX10 yX10_ahead wsX10_ahead) := goodIn_app (goodIn_l mbL_ahead [2957, 2958, 2959, 2] rfl (by decide +kernel)) ggL_ahead_X10_ahead
set_option maxRecDepth 20000 in
theorem ggL_hops_X10_hops : GoodIn wsL_hops wsX10_hops := goodIn_ca (goodIn_m mbL_hops (by decide +kernel) okX10_hops) (goodIn_sub (fun _ h => List.mem_cons_of_mem _ (List.mem_append_right _ h)) (by decide +kernel))
set_option maxRecDepth 20000 in
theorem gL_hops_X10_hops : GoodIn wsL_hops (wsV RL 56 RX10 yX10_hops wsX10_hops) := goodIn_app (goodIn_l mbL_hops [3013, 3014, 3015, 2] rfl (by decide +kernel)) ggL_hops_X10_hops
set_option maxRecDepth 20000 in
theorem ggL_seat_X10_seat : GoodIn wsL_seat wsX10_seat := goodIn_ca (goodIn_m mbL_seat (by decide +kernel) okX10_seat) (goodIn_sub (fun _ h => List.mem_cons_of_mem _ (List.mem_append_right _ h)) (by decide +kernel))
set_option maxRecDepth 20000 in
theorem gL_seat_X10_seat : GoodIn wsL_seat (wsV RL 59 RX10 yX10_seat wsX10_seat) := goodIn_app (goodIn_l mbL_seat [3206, 3207, 3208, 2] rfl (by decide +kernel)) ggL_seat_X10_seat
set_option maxRecDepth 20000 in
theorem ggL_ringed_X10_ringed : GoodIn wsL_ringed wsX10_ringed := goodIn_ca (goodIn_m mbL_ringed (by decide +kernel) okX10_ringed) (goodIn_sub (fun _ h => List.mem_cons_of_mem _ (List.mem_append_right _ h)) (by decide +kernel))
set_option maxRecDepth 20000 in
theorem gL_ringed_X10_ringed : GoodIn wsL_ringed (wsV RL 62 RX10 yX10_ringed wsX10_ringed) := goodIn_app (goodIn_l mbL_ringed [3340, 3341, 3342, 2] rfl (by decide +kernel)) ggL_ringed_X10_ringed
set_option maxRecDepth 20000 in
theorem ggL_bouts_X10_bouts : GoodIn wsL_bouts wsX10_bouts := goodIn_ca (goodIn_m mbL_bouts (by decide +kernel) okX10_bouts) (goodIn_sub (fun _ h => List.mem_cons_of_mem _ (List.mem_append_right _ h)) (by decide +kernel))
set_option maxRecDepth 20000 in
theorem gL_bouts_X10_bouts : GoodIn wsL_bouts (wsV RL 65 RX10 yX10_bouts wsX10_bouts) := goodIn_app (goodIn_l mbL_bouts [3392, 3393, 3394, 2] rfl (by decide +kernel)) ggL_bouts_X10_bouts
set_option maxRecDepth 20000 in
theorem ggL_fits_X10_fits : GoodIn wsL_fits wsX10_fits := goodIn_ca (goodIn_m mbL_fits (by decide +kernel) okX10_fits) (goodIn_sub (fun _ h => List.mem_cons_of_mem _ (List.mem_append_right _ h)) (by decide +kernel))
set_option maxRecDepth 20000 in
theorem gL_fits_X10_fits : GoodIn wsL_fits (wsV RL 68 RX10 yX10_fits wsX10_fits) := goodIn_app (goodIn_l mbL_fits [3456, 3457, 3458, 2] rfl (by decide +kernel)) ggL_fits_X10_fits
set_option maxRecDepth 20000 in
theorem ggL_look_X10_look : GoodIn wsL_look wsX10_look := goodIn_ca (goodIn_m mbL_look (by decide +kernel) okX10_look) (goodIn_sub (fun _ h => List.mem_cons_of_mem _ (List.mem_append_right _ h)) (by decide +kernel))
set_option maxRecDepth 20000 in
theorem gL_look_X10_look : GoodIn wsL_look (wsV RL 71 RX10 yX10_look wsX10_look) := goodIn_app (goodIn_l mbL_look [3589, 3590, 3591, 2] rfl (by decide +kernel)) ggL_look_X10_look
set_option maxRecDepth 20000 in
theorem ggL_watch_X10_watch : GoodIn wsL_watch wsX10_watch := goodIn_ca (goodIn_m mbL_watch (by decide +kernel) okX10_watch) (goodIn_sub (fun _ h => List.mem_cons_of_mem _ (List.mem_append_right _ h)) (by decide +kernel))
set_option maxRecDepth 20000 in
theorem gL_watch_X10_watch : GoodIn wsL_watch (wsV RL 74 RX10 yX10_watch wsX10_watch) := goodIn_app (goodIn_l mbL_watch [3662, 3663, 3664, 2] rfl (by decide +kernel)) ggL_watch_X10_watch
set_option maxRecDepth 20000 in
theorem ggL_few_X10_few : GoodIn wsL_few wsX10_few := goodIn_ca (goodIn_m mbL_few (by decide +kernel) okX10_few) (goodIn_sub (fun _ h => List.mem_cons_of_mem _ (List.mem_append_right _ h)) (by decide +kernel))
set_option maxRecDepth 20000 in
theorem gL_few_X10_few : GoodIn wsL_few (wsV RL 77 RX10 yX10_few wsX10_few) := goodIn_app (goodIn_l mbL_few [3722, 3723, 3724, 2] rfl (by decide +kernel)) ggL_few_X10_few
set_option maxRecDepth 20000 in
theorem ggL_road_X10_road : GoodIn wsL_road wsX10_road := goodIn_ca (goodIn_m mbL_road (by decide +kernel) okX10_road) (goodIn_sub (fun _ h => List.mem_cons_of_mem _ (List.mem_append_right _ h)) (by decide +kernel))
set_option maxRecDepth 20000 in
theorem gL_road_X10_road : GoodIn wsL_road (wsV RL 81 RX10 yX10_road wsX10_road) := goodIn_app (goodIn_l mbL_road [3783, 3784, 3785, 2] rfl (by decide +kernel)) ggL_road_X10_road
set_option maxRecDepth 20000 in
theorem ggL_clover_X10_clover : GoodIn wsL_clover wsX10_clover := goodIn_ca (goodIn_ca (goodIn_m mbL_clover (by decide +kernel) okX10_clover) (goodIn_sub (fun _ h => List.mem_cons_of_mem _ (List.mem_append_left _ (List.mem_append_right _ h))) (by decide +kernel))) (goodIn_sub (fun _ h => List.mem_cons_of_mem _ (List.mem_append_right _ h)) (by decide +kernel))
set_option maxRecDepth 20000 in
theorem gL_clover_X10_clover : GoodIn wsL_clover (wsV RL 85 RX10 yX10_clover wsX10_clover) := goodIn_app (goodIn_l mbL_clover [3840, 3841, 3842, 2] rfl (by decide +kernel)) ggL_clover_X10_clover
set_option maxRecDepth 20000 in
theorem ggL_strongest_X10_strongest : GoodIn wsL_strongest wsX10_strongest := goodIn_ca (goodIn_m mbL_strongest (by decide +kernel) okX10_strongest) (goodIn_sub (fun _ h => List.mem_cons_of_mem _ (List.mem_append_right _ h)) (by decide +kernel))
set_option maxRecDepth 20000 in
theorem gL_strongest_X10_strongest : GoodIn wsL_strongest (wsV RL 88 RX10 yX10_strongest wsX10_strongest) := goodIn_app (goodIn_l mbL_strongest [3904, 3905, 3906, 2] rfl (by decide +kernel)) ggL_strongest_X10_strongest
set_option maxRecDepth 20000 in
theorem ggL_ties_X10_ties : GoodIn wsL_ties wsX10_ties := goodIn_ca (goodIn_ca (goodIn_m mbL_ties (by decide +kernel) okX10_ties) (goodIn_sub (fun _ h => List.mem_cons_of_mem _ (List.mem_append_left _ (List.mem_append_right _ h))) (by decide +kernel))) (goodIn_sub (fun _ h => List.mem_cons_of_mem _ (List.mem_append_right _ h)) (by decide +kernel))
set_option maxRecDepth 20000 in
theorem gL_ties_X10_ties : GoodIn wsL_ties (wsV RL 91 RX10 yX10_ties wsX10_ties) := goodIn_app (goodIn_l mbL_ties [3915, 3916, 3917, 2] rfl (by decide +kernel)) ggL_ties_X10_ties
set_option maxRecDepth 20000 in
theorem ggL_refuge_X10_refuge : GoodIn wsL_refuge wsX10_refuge := goodIn_ca (goodIn_ca (goodIn_m mbL_refuge (by decide +kernel) okX10_refuge) (goodIn_sub (fun _ h => List.mem_cons_of_mem _ (List.mem_append_left _ (List.mem_append_right _ h))) (by decide +kernel))) (goodIn_sub (fun _ h => List.mem_cons_of_mem _ (List.mem_append_right _ h)) (by decide +kernel))
set_option maxRecDepth 20000 in
theorem gL_refuge_X10_refuge : GoodIn wsL_refuge (wsV RL 94 RX10 yX10_refuge wsX10_refuge) := goodIn_app (goodIn_l mbL_refuge [3926, 3927, 3968, 2] rfl (by decide +kernel)) ggL_refuge_X10_refuge
set_option maxRecDepth 20000 in
theorem ggL_range_X10_range : GoodIn wsL_range wsX10_range := goodIn_ca (goodIn_m mbL_range (by decide +kernel) okX10_range) (goodIn_sub (fun _ h => List.mem_cons_of_mem _ (List.mem_append_right _ h)) (by decide +kernel))
set_option maxRecDepth 20000 in
theorem gL_range_X10_range : GoodIn wsL_range (wsV RL 97 RX10 yX10_range wsX10_range) := goodIn_app (goodIn_l mbL_range [3977, 3978, 3979, 2] rfl (by decide +kernel)) ggL_range_X10_range
set_option maxRecDepth 20000 in
theorem ggL_march_X10_march : GoodIn wsL_march wsX10_march := goodIn_ca (goodIn_m mbL_march (by decide +kernel) okX10_march) (goodIn_sub (fun _ h => List.mem_cons_of_mem _ (List.mem_append_right _ h)) (by decide +kernel))
set_option maxRecDepth 20000 in
theorem gL_march_X10_march : GoodIn wsL_march (wsV RL 100 RX10 yX10_march wsX10_march) := goodIn_app (goodIn_l mbL_march [3989, 3990, 3991, 2] rfl (by decide +kernel)) ggL_march_X10_march
set_option maxRecDepth 20000 in
theorem ggL_span_X10_span : GoodIn wsL_span wsX10_span := goodIn_ca (goodIn_m mbL_span (by decide +kernel) okX10_span) (goodIn_sub (fun _ h => List.mem_cons_of_mem _ (List.mem_append_right _ h)) (by decide +kernel))
set_option maxRecDepth 20000 in
theorem gL_span_X10_span : GoodIn wsL_span (wsV RL 103 RX10 yX10_span wsX10_span) := goodIn_app (goodIn_l mbL_span [4164, 4165, 4166, 2] rfl (by decide +kernel)) ggL_span_X10_span
