def vI (i : Nat) : Bool := ((cwP[i / 64]?).bind (fun l => l[i % 64]?)).isSome
theorem qbbU : ∀ w ∈ cwP.flatten, w ∈ wsL_law_ := by
  have e : wsL_law_ = cwP.flatten ++ ((vx_atS RX10 409 "java/lang/IllegalArgumentException" ["java/lang/RuntimeException", "java/lang/Exception"]).filter goodWord ++ (qqx RX10 268 "java/util/NoSuchElementException" 13 qxA ["java/lang/RuntimeException", "java/lang/Exception"]).filter goodWord) := by
    simp only [cwP, wsL_law_, wsL_law_0, List.flatten_cons, List.flatten_nil, List.append_nil, List.append_assoc]
  intro w hw
  rw [e]; exact List.mem_append_left _ hw
theorem qCH (i : Nat) (h : vI i = true) : cw i ∈ wsL_law_ := by
  refine qbbU _ ?_
  obtain ⟨w, e⟩ := Option.isSome_iff_exists.mp h
  obtain ⟨l, h1, h2⟩ := Option.bind_eq_some_iff.mp e
  have e1 : cwP.getD (i / 64) [] = l := by rw [List.getD_eq_getElem?_getD, h1]; rfl
  have e2 : cw i = w := by unfold cw; rw [e1, List.getD_eq_getElem?_getD, h2]; rfl
  rw [e2]
  exact List.mem_flatten.mpr ⟨l, List.mem_of_getElem? h1, List.mem_of_getElem? h2⟩
theorem qbA {sb : List Nat} {hB : Nat} (h : (hB :: sb).all (fun i => vI i && goodWord (cw i)) = true) : GoodIn wsL_law_ (cw hB :: wI sb) := by
  have key : ∀ i ∈ hB :: sb, cw i ∈ wsL_law_ ∧ goodWord (cw i) = true := fun i hi => by
    have k := Bool.and_eq_true_iff.mp (List.all_eq_true.mp h i hi)
    exact ⟨qCH i k.1, k.2⟩
  intro w hw
  obtain ⟨i, hi, e⟩ := List.mem_map.mp (show w ∈ (hB :: sb).map cw from hw)
  have k := key i hi
  rw [← e]; exact ⟨k.1, good_of_word k.2⟩
theorem qa7 {pre : List Cond} (ids : List Nat) (e : pre = wI ids) (h : ids.all (fun i => vI i && goodWord (cw i)) = true) : GoodIn wsL_law_ pre := by
  intro w hw
  rw [e] at hw
  obtain ⟨i, hi, e2⟩ := List.mem_map.mp hw
  have k := Bool.and_eq_true_iff.mp (List.all_eq_true.mp h i hi)
  rw [← e2]; exact ⟨qCH i k.1, good_of_word k.2⟩
set_option maxRecDepth 20000 in
theorem ggL_law__X10_init : GoodIn wsL_law_ wsX10_init := qbA (by decide +kernel)
set_option maxRecDepth 20000 in
theorem gL_law__X10_init : GoodIn wsL_law_ (wsX10_init) := ggL_law__X10_init
set_option maxRecDepth 20000 in
theorem ggL_law__X11_init : GoodIn wsL_law_ wsX11_init := qbA (by decide +kernel)
set_option maxRecDepth 20000 in
theorem gL_law__X11_init : GoodIn wsL_law_ (wsX11_init) := ggL_law__X11_init
set_option maxRecDepth 20000 in
theorem ggL_law__X10_feed : GoodIn wsL_law_ wsX10_feed := qbA (by decide +kernel)
set_option maxRecDepth 20000 in
theorem gL_law__X10_feed : GoodIn wsL_law_ (wsV RL 111 RX10 yX10_feed wsX10_feed) := goodIn_app (qa7 [531, 532, 533, 2] rfl (by decide +kernel)) ggL_law__X10_feed
set_option maxRecDepth 20000 in
theorem ggL_law__X11_feed : GoodIn wsL_law_ wsX11_feed := qbA (by decide +kernel)
set_option maxRecDepth 20000 in
theorem gL_law__X11_feed : GoodIn wsL_law_ (wsV RL 114 RX11 yX11_feed wsX11_feed) := goodIn_app (qa7 [585, 586, 587, 5] rfl (by decide +kernel)) ggL_law__X11_feed
set_option maxRecDepth 20000 in
theorem ggL_law__L_down : GoodIn wsL_law_ wsL_down := goodIn_ca (qbA (by decide +kernel)) (goodIn_sub (fun _ h => List.mem_append_left _ (List.mem_append_right _ h)) (by decide +kernel))
set_option maxRecDepth 20000 in
theorem gL_law__L_down : GoodIn wsL_law_ (va_wsS RL 115 yL_down wsL_down) := goodIn_app (qa7 [591, 592, 593] rfl (by decide +kernel)) ggL_law__L_down
set_option maxRecDepth 20000 in
theorem ggL_law__X11_down : GoodIn wsL_law_ wsX11_down := qbA (by decide +kernel)
set_option maxRecDepth 20000 in
theorem gL_law__X11_down : GoodIn wsL_law_ (wsV RL 120 RX11 yX11_down wsX11_down) := goodIn_app (qa7 [1099, 1100, 1101, 5] rfl (by decide +kernel)) ggL_law__X11_down
set_option maxRecDepth 20000 in
theorem ggL_law__L_law : GoodIn wsL_law_ wsL_law := goodIn_ca (qbA (by decide +kernel)) (goodIn_sub (fun _ h => List.mem_append_left _ (List.mem_append_right _ h)) (by decide +kernel))
set_option maxRecDepth 20000 in
theorem gL_law__L_law : GoodIn wsL_law_ (va_wsS RL 121 yL_law wsL_law) := goodIn_app (qa7 [1302, 1303, 593] rfl (by decide +kernel)) ggL_law__L_law
set_option maxRecDepth 20000 in
theorem ggL_law__X11_law : GoodIn wsL_law_ wsX11_law := qbA (by decide +kernel)
set_option maxRecDepth 20000 in
theorem gL_law__X11_law : GoodIn wsL_law_ (wsV RL 123 RX11 yX11_law wsX11_law) := goodIn_app (qa7 [1477, 1478, 1479, 5] rfl (by decide +kernel)) ggL_law__X11_law
