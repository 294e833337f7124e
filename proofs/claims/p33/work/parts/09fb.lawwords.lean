set_option maxRecDepth 20000 in
theorem ggL_law__L_work : GoodIn wsL_law_ wsL_work := goodIn_ca (qbA (by decide +kernel)) (goodIn_sub (fun _ h => List.mem_append_left _ (List.mem_append_right _ h)) (by decide +kernel))
set_option maxRecDepth 20000 in
theorem gL_law__L_work : GoodIn wsL_law_ (va_wsS RL 124 yL_work wsL_work) := goodIn_app (qa7 [1550, 1551, 593] rfl (by decide +kernel)) ggL_law__L_work
set_option maxRecDepth 20000 in
theorem ggL_law__X11_work : GoodIn wsL_law_ wsX11_work := qbA (by decide +kernel)
set_option maxRecDepth 20000 in
theorem gL_law__X11_work : GoodIn wsL_law_ (wsV RL 126 RX11 yX11_work wsX11_work) := goodIn_app (qa7 [2070, 2071, 2112, 5] rfl (by decide +kernel)) ggL_law__X11_work
set_option maxRecDepth 20000 in
theorem ggL_law__L_book : GoodIn wsL_law_ wsL_book := goodIn_ca (qbA (by decide +kernel)) (goodIn_sub (fun _ h => List.mem_append_left _ (List.mem_append_right _ h)) (by decide +kernel))
set_option maxRecDepth 20000 in
theorem gL_law__L_book : GoodIn wsL_law_ (va_wsS RL 127 yL_book wsL_book) := goodIn_app (qa7 [2379, 2380, 593] rfl (by decide +kernel)) ggL_law__L_book
set_option maxRecDepth 20000 in
theorem ggL_law__X11_book : GoodIn wsL_law_ wsX11_book := qbA (by decide +kernel)
set_option maxRecDepth 20000 in
theorem gL_law__X11_book : GoodIn wsL_law_ (wsV RL 129 RX11 yX11_book wsX11_book) := goodIn_app (qa7 [2444, 2445, 2446, 5] rfl (by decide +kernel)) ggL_law__X11_book
set_option maxRecDepth 20000 in
theorem ggL_law__X10_fault : GoodIn wsL_law_ wsX10_fault := qbA (by decide +kernel)
set_option maxRecDepth 20000 in
theorem gL_law__X10_fault : GoodIn wsL_law_ (wsV RL 130 RX10 yX10_fault wsX10_fault) := goodIn_app (qa7 [2448, 2449, 2450, 2] rfl (by decide +kernel)) ggL_law__X10_fault
set_option maxRecDepth 20000 in
theorem ggL_law__X11_fault : GoodIn wsL_law_ wsX11_fault := qbA (by decide +kernel)
set_option maxRecDepth 20000 in
theorem gL_law__X11_fault : GoodIn wsL_law_ (wsV RL 134 RX11 yX11_fault wsX11_fault) := goodIn_app (qa7 [2453, 2454, 2455, 5] rfl (by decide +kernel)) ggL_law__X11_fault
set_option maxRecDepth 20000 in
theorem ggL_law__X10_undo : GoodIn wsL_law_ wsX10_undo := qbA (by decide +kernel)
set_option maxRecDepth 20000 in
theorem gL_law__X10_undo : GoodIn wsL_law_ (wsV RL 135 RX10 yX10_undo wsX10_undo) := goodIn_app (qa7 [2497, 2498, 2499, 2] rfl (by decide +kernel)) ggL_law__X10_undo
set_option maxRecDepth 20000 in
theorem ggL_law__X11_undo : GoodIn wsL_law_ wsX11_undo := qbA (by decide +kernel)
set_option maxRecDepth 20000 in
theorem gL_law__X11_undo : GoodIn wsL_law_ (wsV RL 138 RX11 yX11_undo wsX11_undo) := goodIn_app (qa7 [2505, 2506, 2507, 5] rfl (by decide +kernel)) ggL_law__X11_undo
set_option maxRecDepth 20000 in
theorem ggL_law__L_told : GoodIn wsL_law_ wsL_told := goodIn_ca (qbA (by decide +kernel)) (goodIn_sub (fun _ h => List.mem_append_left _ (List.mem_append_right _ h)) (by decide +kernel))
set_option maxRecDepth 20000 in
theorem gL_law__L_told : GoodIn wsL_law_ (va_wsS RL 139 yL_told wsL_told) := goodIn_app (qa7 [2509, 2510, 593] rfl (by decide +kernel)) ggL_law__L_told
set_option maxRecDepth 20000 in
theorem ggL_law__X11_told : GoodIn wsL_law_ wsX11_told := qbA (by decide +kernel)
set_option maxRecDepth 20000 in
theorem gL_law__X11_told : GoodIn wsL_law_ (wsV RL 141 RX11 yX11_told wsX11_told) := goodIn_app (qa7 [2573, 2574, 2575, 5] rfl (by decide +kernel)) ggL_law__X11_told
set_option maxRecDepth 20000 in
theorem ggL_law__L_form : GoodIn wsL_law_ wsL_form := goodIn_ca (goodIn_ca (qbA (by decide +kernel)) (goodIn_sub (fun _ h => List.mem_append_right _ h) (by decide +kernel))) (goodIn_sub (fun _ h => List.mem_append_left _ (List.mem_append_right _ h)) (by decide +kernel))
set_option maxRecDepth 20000 in
theorem gL_law__L_form : GoodIn wsL_law_ (va_wsS RL 142 yL_form wsL_form) := goodIn_app (qa7 [2636, 2637, 593] rfl (by decide +kernel)) ggL_law__L_form
set_option maxRecDepth 20000 in
theorem ggL_law__X11_form : GoodIn wsL_law_ wsX11_form := qbA (by decide +kernel)
set_option maxRecDepth 20000 in
theorem gL_law__X11_form : GoodIn wsL_law_ (wsV RL 145 RX11 yX11_form wsX11_form) := goodIn_app (qa7 [2695, 2696, 2697, 5] rfl (by decide +kernel)) ggL_law__X11_form
set_option maxRecDepth 20000 in
theorem ggL_law__L_hare : GoodIn wsL_law_ wsL_hare := goodIn_ca (goodIn_ca (qbA (by decide +kernel)) (goodIn_sub (fun _ h => List.mem_append_right _ h) (by decide +kernel))) (goodIn_sub (fun _ h => List.mem_append_left _ (List.mem_append_right _ h)) (by decide +kernel))
set_option maxRecDepth 20000 in
theorem gL_law__L_hare : GoodIn wsL_law_ (va_wsS RL 146 yL_hare wsL_hare) := goodIn_app (qa7 [2703, 2704, 593] rfl (by decide +kernel)) ggL_law__L_hare
set_option maxRecDepth 20000 in
theorem ggL_law__X11_hare : GoodIn wsL_law_ wsX11_hare := qbA (by decide +kernel)
set_option maxRecDepth 20000 in
theorem gL_law__X11_hare : GoodIn wsL_law_ (wsV RL 148 RX11 yX11_hare wsX11_hare) := goodIn_app (qa7 [2763, 2764, 2765, 5] rfl (by decide +kernel)) ggL_law__X11_hare
set_option maxRecDepth 20000 in
theorem ggL_law__L_fox : GoodIn wsL_law_ wsL_fox := goodIn_ca (goodIn_ca (qbA (by decide +kernel)) (goodIn_sub (fun _ h => List.mem_append_right _ h) (by decide +kernel))) (goodIn_sub (fun _ h => List.mem_append_left _ (List.mem_append_right _ h)) (by decide +kernel))
set_option maxRecDepth 20000 in
theorem gL_law__L_fox : GoodIn wsL_law_ (va_wsS RL 149 yL_fox wsL_fox) := goodIn_app (qa7 [2771, 2772, 593] rfl (by decide +kernel)) ggL_law__L_fox
set_option maxRecDepth 20000 in
theorem ggL_law__X11_fox : GoodIn wsL_law_ wsX11_fox := qbA (by decide +kernel)
set_option maxRecDepth 20000 in
theorem gL_law__X11_fox : GoodIn wsL_law_ (wsV RL 151 RX11 yX11_fox wsX11_fox) := goodIn_app (qa7 [2820, 2821, 2822, 5] rfl (by decide +kernel)) ggL_law__X11_fox
set_option maxRecDepth 20000 in
theorem ggL_law__L_debt : GoodIn wsL_law_ wsL_debt := goodIn_ca (qbA (by decide +kernel)) (goodIn_sub (fun _ h => List.mem_append_right _ h) (by decide +kernel))
set_option maxRecDepth 20000 in
theorem gL_law__L_debt : GoodIn wsL_law_ (va_wsS RL 152 yL_debt wsL_debt) := goodIn_app (qa7 [2824, 2825, 593] rfl (by decide +kernel)) ggL_law__L_debt
set_option maxRecDepth 20000 in
theorem ggL_law__X11_debt : GoodIn wsL_law_ wsX11_debt := qbA (by decide +kernel)
set_option maxRecDepth 20000 in
theorem gL_law__X11_debt : GoodIn wsL_law_ (wsV RL 154 RX11 yX11_debt wsX11_debt) := goodIn_app (qa7 [2832, 2833, 2834, 5] rfl (by decide +kernel)) ggL_law__X11_debt
set_option maxRecDepth 20000 in
theorem ggL_law__L_far : GoodIn wsL_law_ wsL_far := goodIn_ca (qbA (by decide +kernel)) (goodIn_sub (fun _ h => List.mem_append_right _ h) (by decide +kernel))
set_option maxRecDepth 20000 in
theorem gL_law__L_far : GoodIn wsL_law_ (va_wsS RL 155 yL_far wsL_far) := goodIn_app (qa7 [2836, 2837, 593] rfl (by decide +kernel)) ggL_law__L_far
set_option maxRecDepth 20000 in
theorem ggL_law__X11_far : GoodIn wsL_law_ wsX11_far := qbA (by decide +kernel)
set_option maxRecDepth 20000 in
theorem gL_law__X11_far : GoodIn wsL_law_ (wsV RL 157 RX11 yX11_far wsX11_far) := goodIn_app (qa7 [2884, 2885, 2886, 5] rfl (by decide +kernel)) ggL_law__X11_far
set_option maxRecDepth 20000 in
theorem ggL_law__L_would : GoodIn wsL_law_ wsL_would := goodIn_ca (qbA (by decide +kernel)) (goodIn_sub (fun _ h => List.mem_append_left _ (List.mem_append_right _ h)) (by decide +kernel))
set_option maxRecDepth 20000 in
theorem gL_law__L_would : GoodIn wsL_law_ (va_wsS RL 158 yL_would wsL_would) := goodIn_app (qa7 [2888, 2889, 593] rfl (by decide +kernel)) ggL_law__L_would
set_option maxRecDepth 20000 in
theorem ggL_law__X11_would : GoodIn wsL_law_ wsX11_would := qbA (by decide +kernel)
set_option maxRecDepth 20000 in
theorem gL_law__X11_would : GoodIn wsL_law_ (wsV RL 161 RX11 yX11_would wsX11_would) := goodIn_app (qa7 [2898, 2899, 2900, 5] rfl (by decide +kernel)) ggL_law__X11_would
set_option maxRecDepth 20000 in
theorem ggL_law__L_can : GoodIn wsL_law_ wsL_can := goodIn_ca (qbA (by decide +kernel)) (goodIn_sub (fun _ h => List.mem_append_right _ h) (by decide +kernel))
set_option maxRecDepth 20000 in
theorem gL_law__L_can : GoodIn wsL_law_ (va_wsS RL 162 yL_can wsL_can) := goodIn_app (qa7 [2902, 2903, 593] rfl (by decide +kernel)) ggL_law__L_can
set_option maxRecDepth 20000 in
theorem ggL_law__X11_can : GoodIn wsL_law_ wsX11_can := qbA (by decide +kernel)
set_option maxRecDepth 20000 in
theorem gL_law__X11_can : GoodIn wsL_law_ (wsV RL 164 RX11 yX11_can wsX11_can) := goodIn_app (qa7 [2950, 2951, 2952, 5] rfl (by decide +kernel)) ggL_law__X11_can
set_option maxRecDepth 20000 in
theorem ggL_law__L_ahead : GoodIn wsL_law_ wsL_ahead := goodIn_ca (qbA (by decide +kernel)) (goodIn_sub (fun _ h => List.mem_append_left _ (List.mem_append_right _ h)) (by decide +kernel))
set_option maxRecDepth 20000 in
theorem gL_law__L_ahead : GoodIn wsL_law_ (va_wsS RL 165 yL_ahead wsL_ahead) := goodIn_app (qa7 [2954, 2955, 593] rfl (by decide +kernel)) ggL_law__L_ahead
set_option maxRecDepth 20000 in
theorem ggL_law__X11_ahead : GoodIn wsL_law_ wsX11_ahead := qbA (by decide +kernel)
set_option maxRecDepth 20000 in
theorem gL_law__X11_ahead : GoodIn wsL_law_ (wsV RL 167 RX11 yX11_ahead wsX11_ahead) := goodIn_app (qa7 [2966, 2967, 3008, 5] rfl (by decide +kernel)) ggL_law__X11_ahead
set_option maxRecDepth 20000 in
theorem ggL_law__L_hops : GoodIn wsL_law_ wsL_hops := goodIn_ca (qbA (by decide +kernel)) (goodIn_sub (fun _ h => List.mem_append_right _ h) (by decide +kernel))
set_option maxRecDepth 20000 in
theorem gL_law__L_hops : GoodIn wsL_law_ (va_wsS RL 168 yL_hops wsL_hops) := goodIn_app (qa7 [3010, 3011, 593] rfl (by decide +kernel)) ggL_law__L_hops
set_option maxRecDepth 20000 in
theorem ggL_law__X11_hops : GoodIn wsL_law_ wsX11_hops := qbA (by decide +kernel)
set_option maxRecDepth 20000 in
theorem gL_law__X11_hops : GoodIn wsL_law_ (wsV RL 170 RX11 yX11_hops wsX11_hops) := goodIn_app (qa7 [3026, 3027, 3028, 5] rfl (by decide +kernel)) ggL_law__X11_hops
set_option maxRecDepth 20000 in
theorem ggL_law__X10_seats : GoodIn wsL_law_ wsX10_seats := qbA (by decide +kernel)
set_option maxRecDepth 20000 in
theorem gL_law__X10_seats : GoodIn wsL_law_ (wsV RL 171 RX10 yX10_seats wsX10_seats) := goodIn_app (qa7 [3030, 3031, 3072, 2] rfl (by decide +kernel)) ggL_law__X10_seats
set_option maxRecDepth 20000 in
theorem ggL_law__X11_seats : GoodIn wsL_law_ wsX11_seats := qbA (by decide +kernel)
set_option maxRecDepth 20000 in
theorem gL_law__X11_seats : GoodIn wsL_law_ (wsV RL 174 RX11 yX11_seats wsX11_seats) := goodIn_app (qa7 [3151, 3152, 3153, 5] rfl (by decide +kernel)) ggL_law__X11_seats
set_option maxRecDepth 20000 in
theorem ggL_law__L_seat : GoodIn wsL_law_ wsL_seat := goodIn_ca (qbA (by decide +kernel)) (goodIn_sub (fun _ h => List.mem_append_right _ h) (by decide +kernel))
set_option maxRecDepth 20000 in
theorem gL_law__L_seat : GoodIn wsL_law_ (va_wsS RL 175 yL_seat wsL_seat) := goodIn_app (qa7 [3203, 3204, 593] rfl (by decide +kernel)) ggL_law__L_seat
set_option maxRecDepth 20000 in
theorem ggL_law__X11_seat : GoodIn wsL_law_ wsX11_seat := qbA (by decide +kernel)
set_option maxRecDepth 20000 in
theorem gL_law__X11_seat : GoodIn wsL_law_ (wsV RL 177 RX11 yX11_seat wsX11_seat) := goodIn_app (qa7 [3211, 3212, 3213, 5] rfl (by decide +kernel)) ggL_law__X11_seat
set_option maxRecDepth 20000 in
theorem ggL_law__X10_ring : GoodIn wsL_law_ wsX10_ring := qbA (by decide +kernel)
set_option maxRecDepth 20000 in
theorem gL_law__X10_ring : GoodIn wsL_law_ (wsV RL 178 RX10 yX10_ring wsX10_ring) := goodIn_app (qa7 [3215, 3216, 3217, 2] rfl (by decide +kernel)) ggL_law__X10_ring
set_option maxRecDepth 20000 in
theorem ggL_law__X11_ring : GoodIn wsL_law_ wsX11_ring := qbA (by decide +kernel)
set_option maxRecDepth 20000 in
theorem gL_law__X11_ring : GoodIn wsL_law_ (wsV RL 181 RX11 yX11_ring wsX11_ring) := goodIn_app (qa7 [3329, 3330, 3331, 5] rfl (by decide +kernel)) ggL_law__X11_ring
set_option maxRecDepth 20000 in
theorem ggL_law__L_ringed : GoodIn wsL_law_ wsL_ringed := goodIn_ca (qbA (by decide +kernel)) (goodIn_sub (fun _ h => List.mem_append_left _ (List.mem_append_right _ h)) (by decide +kernel))
set_option maxRecDepth 20000 in
theorem gL_law__L_ringed : GoodIn wsL_law_ (va_wsS RL 182 yL_ringed wsL_ringed) := goodIn_app (qa7 [3337, 3338, 593] rfl (by decide +kernel)) ggL_law__L_ringed
set_option maxRecDepth 20000 in
theorem ggL_law__X11_ringed : GoodIn wsL_law_ wsX11_ringed := qbA (by decide +kernel)
set_option maxRecDepth 20000 in
theorem gL_law__X11_ringed : GoodIn wsL_law_ (wsV RL 184 RX11 yX11_ringed wsX11_ringed) := goodIn_app (qa7 [3345, 3346, 3347, 5] rfl (by decide +kernel)) ggL_law__X11_ringed
set_option maxRecDepth 20000 in
theorem ggL_law__L_bouts : GoodIn wsL_law_ wsL_bouts := goodIn_ca (qbA (by decide +kernel)) (goodIn_sub (fun _ h => List.mem_append_right _ h) (by decide +kernel))
set_option maxRecDepth 20000 in
theorem gL_law__L_bouts : GoodIn wsL_law_ (va_wsS RL 185 yL_bouts wsL_bouts) := goodIn_app (qa7 [3349, 3350, 593] rfl (by decide +kernel)) ggL_law__L_bouts
set_option maxRecDepth 20000 in
theorem ggL_law__X11_bouts : GoodIn wsL_law_ wsX11_bouts := qbA (by decide +kernel)
set_option maxRecDepth 20000 in
theorem gL_law__X11_bouts : GoodIn wsL_law_ (wsV RL 187 RX11 yX11_bouts wsX11_bouts) := goodIn_app (qa7 [3405, 3406, 3407, 5] rfl (by decide +kernel)) ggL_law__X11_bouts
set_option maxRecDepth 20000 in
theorem ggL_law__L_fits : GoodIn wsL_law_ wsL_fits := goodIn_ca (qbA (by decide +kernel)) (goodIn_sub (fun _ h => List.mem_append_left _ (List.mem_append_right _ h)) (by decide +kernel))
set_option maxRecDepth 20000 in
theorem gL_law__L_fits : GoodIn wsL_law_ (va_wsS RL 188 yL_fits wsL_fits) := goodIn_app (qa7 [3413, 3414, 593] rfl (by decide +kernel)) ggL_law__L_fits
set_option maxRecDepth 20000 in
theorem ggL_law__X11_fits : GoodIn wsL_law_ wsX11_fits := qbA (by decide +kernel)
set_option maxRecDepth 20000 in
theorem gL_law__X11_fits : GoodIn wsL_law_ (wsV RL 190 RX11 yX11_fits wsX11_fits) := goodIn_app (qa7 [3534, 3535, 3536, 5] rfl (by decide +kernel)) ggL_law__X11_fits
set_option maxRecDepth 20000 in
theorem ggL_law__L_look : GoodIn wsL_law_ wsL_look := goodIn_ca (qbA (by decide +kernel)) (goodIn_sub (fun _ h => List.mem_append_left _ (List.mem_append_right _ h)) (by decide +kernel))
set_option maxRecDepth 20000 in
theorem gL_law__L_look : GoodIn wsL_law_ (va_wsS RL 191 yL_look wsL_look) := goodIn_app (qa7 [3586, 3587, 593] rfl (by decide +kernel)) ggL_law__L_look
set_option maxRecDepth 20000 in
theorem ggL_law__X11_look : GoodIn wsL_law_ wsX11_look := qbA (by decide +kernel)
set_option maxRecDepth 20000 in
theorem gL_law__X11_look : GoodIn wsL_law_ (wsV RL 193 RX11 yX11_look wsX11_look) := goodIn_app (qa7 [3651, 3652, 3653, 5] rfl (by decide +kernel)) ggL_law__X11_look
set_option maxRecDepth 20000 in
theorem ggL_law__L_watch : GoodIn wsL_law_ wsL_watch := goodIn_ca (qbA (by decide +kernel)) (goodIn_sub (fun _ h => List.mem_append_left _ (List.mem_append_right _ h)) (by decide +kernel))
set_option maxRecDepth 20000 in
theorem gL_law__L_watch : GoodIn wsL_law_ (va_wsS RL 194 yL_watch wsL_watch) := goodIn_app (qa7 [3659, 3660, 593] rfl (by decide +kernel)) ggL_law__L_watch
set_option maxRecDepth 20000 in
theorem ggL_law__X11_watch : GoodIn wsL_law_ wsX11_watch := qbA (by decide +kernel)
set_option maxRecDepth 20000 in
theorem gL_law__X11_watch : GoodIn wsL_law_ (wsV RL 196 RX11 yX11_watch wsX11_watch) := goodIn_app (qa7 [3715, 3716, 3717, 5] rfl (by decide +kernel)) ggL_law__X11_watch
set_option maxRecDepth 20000 in
theorem ggL_law__L_few : GoodIn wsL_law_ wsL_few := goodIn_ca (qbA (by decide +kernel)) (goodIn_sub (fun _ h => List.mem_append_left _ (List.mem_append_right _ h)) (by decide +kernel))
set_option maxRecDepth 20000 in
theorem gL_law__L_few : GoodIn wsL_law_ (va_wsS RL 197 yL_few wsL_few) := goodIn_app (qa7 [3719, 3720, 593] rfl (by decide +kernel)) ggL_law__L_few
set_option maxRecDepth 20000 in
theorem ggL_law__X11_few : GoodIn wsL_law_ wsX11_few := qbA (by decide +kernel)
set_option maxRecDepth 20000 in
theorem gL_law__X11_few : GoodIn wsL_law_ (wsV RL 200 RX11 yX11_few wsX11_few) := goodIn_app (qa7 [3732, 3733, 3734, 5] rfl (by decide +kernel)) ggL_law__X11_few
set_option maxRecDepth 20000 in
theorem ggL_law__L_road : GoodIn wsL_law_ wsL_road := goodIn_ca (qbA (by decide +kernel)) (goodIn_sub (fun _ h => List.mem_append_left _ (List.mem_append_right _ h)) (by decide +kernel))
set_option maxRecDepth 20000 in
theorem gL_law__L_road : GoodIn wsL_law_ (va_wsS RL 201 yL_road wsL_road) := goodIn_app (qa7 [3780, 3781, 593] rfl (by decide +kernel)) ggL_law__L_road
set_option maxRecDepth 20000 in
theorem ggL_law__X11_road : GoodIn wsL_law_ wsX11_road := qbA (by decide +kernel)
set_option maxRecDepth 20000 in
theorem gL_law__X11_road : GoodIn wsL_law_ (wsV RL 204 RX11 yX11_road wsX11_road) := goodIn_app (qa7 [3790, 3791, 3792, 5] rfl (by decide +kernel)) ggL_law__X11_road
set_option maxRecDepth 20000 in
theorem ggL_law__L_clover : GoodIn wsL_law_ wsL_clover := goodIn_ca (goodIn_ca (qbA (by decide +kernel)) (goodIn_sub (fun _ h => List.mem_append_right _ h) (by decide +kernel))) (goodIn_sub (fun _ h => List.mem_append_left _ (List.mem_append_right _ h)) (by decide +kernel))
set_option maxRecDepth 20000 in
theorem gL_law__L_clover : GoodIn wsL_law_ (va_wsS RL 205 yL_clover wsL_clover) := goodIn_app (qa7 [3797, 3798, 593] rfl (by decide +kernel)) ggL_law__L_clover
set_option maxRecDepth 20000 in
theorem ggL_law__X11_clover : GoodIn wsL_law_ wsX11_clover := qbA (by decide +kernel)
set_option maxRecDepth 20000 in
theorem gL_law__X11_clover : GoodIn wsL_law_ (wsV RL 207 RX11 yX11_clover wsX11_clover) := goodIn_app (qa7 [3853, 3854, 3855, 5] rfl (by decide +kernel)) ggL_law__X11_clover
set_option maxRecDepth 20000 in
theorem ggL_law__L_strongest : GoodIn wsL_law_ wsL_strongest := goodIn_ca (qbA (by decide +kernel)) (goodIn_sub (fun _ h => List.mem_append_left _ (List.mem_append_right _ h)) (by decide +kernel))
set_option maxRecDepth 20000 in
theorem gL_law__L_strongest : GoodIn wsL_law_ (va_wsS RL 208 yL_strongest wsL_strongest) := goodIn_app (qa7 [3861, 3862, 593] rfl (by decide +kernel)) ggL_law__L_strongest
set_option maxRecDepth 20000 in
theorem ggL_law__X11_strongest : GoodIn wsL_law_ wsX11_strongest := qbA (by decide +kernel)
set_option maxRecDepth 20000 in
theorem gL_law__X11_strongest : GoodIn wsL_law_ (wsV RL 210 RX11 yX11_strongest wsX11_strongest) := goodIn_app (qa7 [3908, 3909, 3910, 5] rfl (by decide +kernel)) ggL_law__X11_strongest
set_option maxRecDepth 20000 in
theorem ggL_law__L_ties : GoodIn wsL_law_ wsL_ties := goodIn_ca (goodIn_ca (qbA (by decide +kernel)) (goodIn_sub (fun _ h => List.mem_append_right _ h) (by decide +kernel))) (goodIn_sub (fun _ h => List.mem_append_left _ (List.mem_append_right _ h)) (by decide +kernel))
set_option maxRecDepth 20000 in
theorem gL_law__L_ties : GoodIn wsL_law_ (va_wsS RL 211 yL_ties wsL_ties) := goodIn_app (qa7 [3912, 3913, 593] rfl (by decide +kernel)) ggL_law__L_ties
set_option maxRecDepth 20000 in
theorem ggL_law__X11_ties : GoodIn wsL_law_ wsX11_ties := qbA (by decide +kernel)
set_option maxRecDepth 20000 in
theorem gL_law__X11_ties : GoodIn wsL_law_ (wsV RL 213 RX11 yX11_ties wsX11_ties) := goodIn_app (qa7 [3919, 3920, 3921, 5] rfl (by decide +kernel)) ggL_law__X11_ties
set_option maxRecDepth 20000 in
theorem ggL_law__L_refuge : GoodIn wsL_law_ wsL_refuge := goodIn_ca (goodIn_ca (qbA (by decide +kernel)) (goodIn_sub (fun _ h => List.mem_append_right _ h) (by decide +kernel))) (goodIn_sub (fun _ h => List.mem_append_left _ (List.mem_append_right _ h)) (by decide +kernel))
set_option maxRecDepth 20000 in
theorem gL_law__L_refuge : GoodIn wsL_law_ (va_wsS RL 214 yL_refuge wsL_refuge) := goodIn_app (qa7 [3923, 3924, 593] rfl (by decide +kernel)) ggL_law__L_refuge
set_option maxRecDepth 20000 in
theorem ggL_law__X11_refuge : GoodIn wsL_law_ wsX11_refuge := qbA (by decide +kernel)
set_option maxRecDepth 20000 in
theorem gL_law__X11_refuge : GoodIn wsL_law_ (wsV RL 216 RX11 yX11_refuge wsX11_refuge) := goodIn_app (qa7 [3970, 3971, 3972, 5] rfl (by decide +kernel)) ggL_law__X11_refuge
set_option maxRecDepth 20000 in
theorem ggL_law__L_range : GoodIn wsL_law_ wsL_range := goodIn_ca (qbA (by decide +kernel)) (goodIn_sub (fun _ h => List.mem_append_right _ h) (by decide +kernel))
set_option maxRecDepth 20000 in
theorem gL_law__L_range : GoodIn wsL_law_ (va_wsS RL 217 yL_range wsL_range) := goodIn_app (qa7 [3974, 3975, 593] rfl (by decide +kernel)) ggL_law__L_range
set_option maxRecDepth 20000 in
theorem ggL_law__X11_range : GoodIn wsL_law_ wsX11_range := qbA (by decide +kernel)
set_option maxRecDepth 20000 in
theorem gL_law__X11_range : GoodIn wsL_law_ (wsV RL 219 RX11 yX11_range wsX11_range) := goodIn_app (qa7 [3982, 3983, 3984, 5] rfl (by decide +kernel)) ggL_law__X11_range
set_option maxRecDepth 20000 in
theorem ggL_law__X11_thrown : GoodIn wsL_law_ wsX11_thrown := qbA (by decide +kernel)
set_option maxRecDepth 20000 in
theorem gL_law__X11_thrown : GoodIn wsL_law_ (wsV RL 220 RX11 yX11_thrown wsX11_thrown) := goodIn_app (qa7 [3986, 3987, 3988, 5] rfl (by decide +kernel)) ggL_law__X11_thrown
set_option maxRecDepth 20000 in
theorem ggL_law__L_march : GoodIn wsL_law_ wsL_march := goodIn_ca (qbA (by decide +kernel)) (goodIn_sub (fun _ h => List.mem_append_left _ (List.mem_append_right _ h)) (by decide +kernel))
set_option maxRecDepth 20000 in
theorem gL_law__L_march : GoodIn wsL_law_ (va_wsS RL 223 yL_march wsL_march) := goodIn_app (qa7 [3990, 3991, 593] rfl (by decide +kernel)) ggL_law__L_march
set_option maxRecDepth 20000 in
theorem ggL_law__X11_march : GoodIn wsL_law_ wsX11_march := qbA (by decide +kernel)
set_option maxRecDepth 20000 in
theorem gL_law__X11_march : GoodIn wsL_law_ (wsV RL 225 RX11 yX11_march wsX11_march) := goodIn_app (qa7 [4106, 4107, 4108, 5] rfl (by decide +kernel)) ggL_law__X11_march
set_option maxRecDepth 20000 in
theorem ggL_law__L_span : GoodIn wsL_law_ wsL_span := goodIn_ca (qbA (by decide +kernel)) (goodIn_sub (fun _ h => List.mem_append_left _ (List.mem_append_right _ h)) (by decide +kernel))
set_option maxRecDepth 20000 in
theorem gL_law__L_span : GoodIn wsL_law_ (va_wsS RL 226 yL_span wsL_span) := goodIn_app (qa7 [4165, 4166, 593] rfl (by decide +kernel)) ggL_law__L_span
set_option maxRecDepth 20000 in
theorem ggL_law__X11_span : GoodIn wsL_law_ wsX11_span := qbA (by decide +kernel)
set_option maxRecDepth 20000 in
theorem gL_law__X11_span : GoodIn wsL_law_ (wsV RL 229 RX11 yX11_span wsX11_span) := goodIn_app (qa7 [4173, 4174, 4175, 5] rfl (by decide +kernel)) ggL_law__X11_span
set_option maxRecDepth 20000 in
theorem ggL_law__X10_image : GoodIn wsL_law_ wsX10_image := qbA (by decide +kernel)
set_option maxRecDepth 20000 in
theorem gL_law__X10_image : GoodIn wsL_law_ (wsV RL 230 RX10 yX10_image wsX10_image) := goodIn_app (qa7 [4177, 4178, 4179, 2] rfl (by decide +kernel)) ggL_law__X10_image
set_option maxRecDepth 20000 in
theorem ggL_law__X11_image : GoodIn wsL_law_ wsX11_image := qbA (by decide +kernel)
set_option maxRecDepth 20000 in
theorem gL_law__X11_image : GoodIn wsL_law_ (wsV RL 233 RX11 yX11_image wsX11_image) := goodIn_app (qa7 [4225, 4226, 4227, 5] rfl (by decide +kernel)) ggL_law__X11_image
set_option maxRecDepth 20000 in
theorem ggL_law__X10_restore : GoodIn wsL_law_ wsX10_restore := qbA (by decide +kernel)
set_option maxRecDepth 20000 in
theorem gL_law__X10_restore : GoodIn wsL_law_ (wsV RL 234 RX10 yX10_restore wsX10_restore) := goodIn_app (qa7 [4237, 4238, 4239, 2] rfl (by decide +kernel)) ggL_law__X10_restore
set_option maxRecDepth 20000 in
theorem ggL_law__X11_restore : GoodIn wsL_law_ wsX11_restore := qbA (by decide +kernel)
set_option maxRecDepth 20000 in
theorem gL_law__X11_restore : GoodIn wsL_law_ (wsV RL 237 RX11 yX11_restore wsX11_restore) := goodIn_app (qa7 [4241, 4242, 4243, 5] rfl (by decide +kernel)) ggL_law__X11_restore
set_option maxRecDepth 20000 in
theorem ggL_law__X10_status : GoodIn wsL_law_ wsX10_status := qbA (by decide +kernel)
set_option maxRecDepth 20000 in
theorem gL_law__X10_status : GoodIn wsL_law_ (wsV RL 238 RX10 yX10_status wsX10_status) := goodIn_app (qa7 [4245, 4246, 4247, 2] rfl (by decide +kernel)) ggL_law__X10_status
set_option maxRecDepth 20000 in
theorem ggL_law__X11_status : GoodIn wsL_law_ wsX11_status := qbA (by decide +kernel)
set_option maxRecDepth 20000 in
theorem gL_law__X11_status : GoodIn wsL_law_ (wsV RL 241 RX11 yX11_status wsX11_status) := goodIn_app (qa7 [4289, 4290, 4291, 5] rfl (by decide +kernel)) ggL_law__X11_status
set_option maxRecDepth 20000 in
theorem ggL_law__X10_count : GoodIn wsL_law_ wsX10_count := qbA (by decide +kernel)
set_option maxRecDepth 20000 in
theorem gL_law__X10_count : GoodIn wsL_law_ (wsV RL 242 RX10 yX10_count wsX10_count) := goodIn_app (qa7 [4293, 4294, 4295, 2] rfl (by decide +kernel)) ggL_law__X10_count
set_option maxRecDepth 20000 in
theorem ggL_law__X11_count : GoodIn wsL_law_ wsX11_count := qbA (by decide +kernel)
set_option maxRecDepth 20000 in
theorem gL_law__X11_count : GoodIn wsL_law_ (wsV RL 245 RX11 yX11_count wsX11_count) := goodIn_app (qa7 [4297, 4298, 4299, 5] rfl (by decide +kernel)) ggL_law__X11_count
