def wsL_law_0 : List Cond := (wsL_law_0_r1 ++ (wsL_law_0_r2 ++ (wsL_law_0_r3 ++ (wsL_law_0_r4 ++ (wsL_law_0_r5 ++ (wsL_law_0_r6 ++ (wsL_law_0_r7 ++ (wsL_law_0_r8 ++ (wsL_law_0_r9 ++ (wsL_law_0_r10 ++ (wsL_law_0_r11 ++ (wsL_law_0_r12 ++ (wsL_law_0_r13 ++ (wsL_law_0_r14 ++ (wsL_law_0_r15 ++ (wsL_law_0_r16 ++ (wsL_law_0_r17 ++ (wsL_law_0_r18 ++ (wsL_law_0_r19 ++ (wsL_law_0_r20 ++ (wsL_law_0_r21 ++ (wsL_law_0_r22 ++ (wsL_law_0_r23 ++ (wsL_law_0_r24 ++ (wsL_law_0_r25 ++ (wsL_law_0_r26 ++ (wsL_law_0_r27 ++ (wsL_law_0_r28 ++ (wsL_law_0_r29 ++ (wsL_law_0_r30 ++ (wsL_law_0_r31 ++ (wsL_law_0_r32 ++ (wsL_law_0_r33 ++ (wsL_law_0_r34 ++ (wsL_law_0_r35 ++ (wsL_law_0_r36 ++ (wsL_law_0_r37 ++ (wsL_law_0_r38 ++ (wsL_law_0_r39 ++ (wsL_law_0_r40 ++ (wsL_law_0_r41 ++ (wsL_law_0_r42 ++ (wsL_law_0_r43 ++ (wsL_law_0_r44 ++ (wsL_law_0_r45 ++ (wsL_law_0_r46 ++ (wsL_law_0_r47 ++ (wsL_law_0_r48 ++ (wsL_law_0_r49 ++ (wsL_law_0_r50 ++ (wsL_law_0_r51 ++ (wsL_law_0_r52 ++ (wsL_law_0_r53 ++ (wsL_law_0_r54 ++ (wsL_law_0_r55 ++ (wsL_law_0_r56 ++ (wsL_law_0_r57 ++ (wsL_law_0_r58 ++ (wsL_law_0_r59 ++ (wsL_law_0_r60 ++ (wsL_law_0_r61 ++ (wsL_law_0_r62 ++ (wsL_law_0_r63 ++ (wsL_law_0_r64 ++ (wsL_law_0_r65 ++ (wsL_law_0_r66 ++ (wsL_law_0_r67 ++ wsL_law_0_r68))))))))))))))))))))))))))))))))))))))))))))))))))))))))))))))))))) ++ wsX100 ++ wsX110 ++ wsX80 ++ wsX20 ++ wsX40 ++ wsX00 ++ wsX90 ++ wsX10 ++ wsX50 ++ wsX60 ++ wsX70 ++ wsX30 ++ ([] : List Cond)
def wsL_law_ : List Cond := wsL_law_0 ++ (vx_atS RX10 409 "java/lang/IllegalArgumentException" ["java/lang/RuntimeException", "java/lang/Exception"]).filter goodWord ++ (qqx RX10 268 "java/util/NoSuchElementException" 13 qxA ["java/lang/RuntimeException", "java/lang/Exception"]).filter goodWord
theorem qdM {a b big : List Cond} (ha : ∀ w ∈ a, w ∈ big) (hb : ∀ w ∈ b, w ∈ big) : ∀ w ∈ a ++ b, w ∈ big := fun w h => (List.mem_append.mp h).elim (ha w) (hb w)
theorem qbjS {big : List Cond} : ∀ w ∈ ([] : List Cond), w ∈ big := fun _ h => nomatch h
theorem qpR {pcs : List (List Cond)} (ws : List Cond) (ps : List (Nat × Nat)) (hb : ∀ w ∈ pcs.flatten, w ∈ lw_tbl) (hp : ws = ps.filterMap (fun q => (pcs[q.1]?).bind (fun l => l[q.2]?))) : ∀ w ∈ ws, w ∈ lw_tbl := by
  intro w hw
  rw [hp] at hw
  obtain ⟨q, -, hq⟩ := List.mem_filterMap.mp hw
  obtain ⟨l, hl, hw2⟩ := Option.bind_eq_some_iff.mp hq
  exact hb w (List.mem_flatten.mpr ⟨l, List.mem_of_getElem? hl, List.mem_of_getElem? hw2⟩)
def qbal : List (List Cond) := [tables_1_1, tables_1_2, tables_1_3, tables_1_4, tables_1_5, tables_1_6, tables_1_7, tables_1_8, tables_1_9, k2_sels lw_privs_1, k2_sels lw_privs_2, k2_sels lw_privs_3, k2_sels lw_privs_4, k2_sels lw_privs_5, k2_sels lw_privs_6, k2_sels lw_privs_7, k2_sels lw_privs_8]
theorem qpQ : ∀ w ∈ qbal.flatten, w ∈ lw_tbl := by
  have e : tables_1 ++ k2_sels lw_privs = qbal.flatten := by simp only [qbal, tables_1, lw_privs, k2_sels, List.map_append, List.flatten_cons, List.flatten_nil, List.append_nil, List.append_assoc]
  intro w hw
  rw [← e] at hw
  rcases List.mem_append.mp hw with h | h
  · exact List.mem_append_right _ h
  · exact List.mem_append_left _ h
set_option maxRecDepth 20000 in
theorem qaBv : ∀ w ∈ wsL_law_0_r1, w ∈ lw_tbl := qpR _ [(0,25), (0,26), (0,1), (5,202), (5,203), (0,13), (6,146), (0,27), (0,28), (0,29), (0,30), (0,31), (0,32), (0,33), (0,34), (0,2), (1,109), (0,65), (0,66), (0,3), (1,110), (1,111), (0,129), (0,130)] qpQ rfl
set_option maxRecDepth 20000 in
theorem qayb : ∀ w ∈ wsL_law_0_r2, w ∈ lw_tbl := qpR _ [(0,4), (1,112), (1,113), (0,159), (0,160), (0,5), (1,114), (1,115), (0,177), (0,178), (0,6), (1,116), (0,222), (0,223), (0,7), (1,117), (1,118), (1,11), (1,12), (0,9), (1,119), (1,120), (1,26), (1,27)] qpQ rfl
set_option maxRecDepth 20000 in
theorem qavz : ∀ w ∈ wsL_law_0_r3, w ∈ lw_tbl := qpR _ [(0,10), (1,121), (1,44), (1,45), (0,11), (1,122), (1,65), (1,66), (0,12), (1,123), (0,36), (0,37), (0,38), (0,64), (0,39), (0,47), (0,68), (0,69), (0,70), (0,128), (0,71), (0,73), (0,75), (0,77)] qpQ rfl
set_option maxRecDepth 20000 in
theorem qaDq : ∀ w ∈ wsL_law_0_r4, w ∈ lw_tbl := qpR _ [(0,79), (0,81), (0,84), (0,86), (0,131), (0,132), (0,133), (0,134), (0,143), (0,144), (0,145), (0,146), (0,135), (0,136), (0,137), (0,138), (0,147), (0,139), (0,141), (9,0), (0,142), (0,161), (0,162), (0,163)] qpQ rfl
set_option maxRecDepth 20000 in
theorem qaAM : ∀ w ∈ wsL_law_0_r5, w ∈ lw_tbl := qpR _ [(0,164), (0,169), (0,165), (0,166), (0,167), (0,168), (0,170), (0,180), (0,181), (0,182), (0,183), (0,184), (0,185), (0,186), (0,187), (0,188), (0,224), (0,225), (0,226), (0,227), (0,235), (0,237), (0,228), (0,229)] qpQ rfl
set_option maxRecDepth 20000 in
theorem qavK : ∀ w ∈ wsL_law_0_r6, w ∈ lw_tbl := qpR _ [(0,230), (0,231), (0,239), (1,1), (0,96), (0,80), (0,82), (0,85), (0,232), (0,234), (0,233), (0,8), (1,14), (1,15), (1,16), (1,17), (1,29), (1,30), (1,31), (1,32), (1,33), (1,47), (1,48), (1,49)] qpQ rfl
set_option maxRecDepth 20000 in
theorem qaCl : ∀ w ∈ wsL_law_0_r7, w ∈ lw_tbl := qpR _ [(1,50), (1,51), (1,52), (1,68), (1,69), (1,70), (1,71), (1,72), (1,73), (1,74), (5,204), (5,205), (5,206), (5,207), (5,221), (5,228), (5,229), (5,230), (5,231), (5,232), (5,233), (5,234), (5,235), (5,236)] qpQ rfl
set_option maxRecDepth 20000 in
theorem qazn : ∀ w ∈ wsL_law_0_r8, w ∈ lw_tbl := qpR _ [(6,3), (6,4), (6,5), (6,6), (6,7), (6,10), (6,11), (6,12), (6,19), (6,20), (6,21), (6,22), (6,23), (6,25), (6,26), (6,27), (6,28), (6,29), (6,30), (6,33), (5,208), (5,210), (12,8), (5,211)] qpQ rfl
set_option maxRecDepth 20000 in
theorem qaB9 : ∀ w ∈ wsL_law_0_r9, w ∈ lw_tbl := qpR _ [(5,237), (5,238), (5,239), (5,212), (5,214), (12,9), (5,215), (6,0), (6,1), (6,2), (6,9), (6,24), (6,14), (6,34), (6,15), (5,216), (5,218), (12,10), (5,219), (1,167), (1,168), (1,169), (1,170), (0,44)] qpQ rfl
set_option maxRecDepth 20000 in
theorem qapt : ∀ w ∈ wsL_law_0_r10, w ∈ lw_tbl := qpR _ [(1,171), (1,172), (1,173), (1,174), (0,43), (1,175), (1,176), (1,177), (1,178), (6,147), (6,148), (6,149), (6,150), (5,220), (5,222), (2,128), (2,129), (0,0), (2,130), (2,131), (2,132), (2,133), (2,134), (2,135)] qpQ rfl
set_option maxRecDepth 20000 in
theorem qaus : ∀ w ∈ wsL_law_0_r11, w ∈ lw_tbl := qpR _ [(0,45), (1,19), (1,124), (1,125), (0,97), (2,136), (2,138), (9,12), (2,139), (2,140), (2,35), (0,14), (2,36), (2,141), (2,143), (9,13), (2,144), (2,145), (2,146), (2,147), (2,148), (2,150), (9,14), (2,151)] qpQ rfl
set_option maxRecDepth 20000 in
theorem qasW : ∀ w ∈ wsL_law_0_r12, w ∈ lw_tbl := qpR _ [(2,152), (0,18), (1,127), (2,218), (2,219), (2,220), (2,221), (2,222), (0,40), (0,41), (0,42), (0,46), (2,223), (2,224), (2,225), (2,226), (0,87), (0,95), (0,98), (2,227), (2,228), (2,229), (2,230), (2,231)] qpQ rfl
set_option maxRecDepth 20000 in
theorem qarP : ∀ w ∈ wsL_law_0_r13, w ∈ lw_tbl := qpR _ [(2,232), (2,233), (2,234), (2,235), (2,237), (10,0), (2,238), (2,239), (3,1), (10,1), (3,2), (3,4), (3,5), (3,6), (3,7), (3,8), (3,9), (3,10), (0,19), (3,11), (8,143), (3,12), (3,13), (3,14)] qpQ rfl
set_option maxRecDepth 20000 in
theorem qasE : ∀ w ∈ wsL_law_0_r14, w ∈ lw_tbl := qpR _ [(3,15), (3,16), (8,144), (3,18), (3,19), (3,21), (10,2), (3,22), (3,23), (3,24), (3,25), (3,26), (3,27), (3,28), (3,29), (3,30), (3,31), (3,32), (0,20), (3,33), (3,34), (3,35), (3,36), (3,37)] qpQ rfl
set_option maxRecDepth 20000 in
theorem qaqu : ∀ w ∈ wsL_law_0_r15, w ∈ lw_tbl := qpR _ [(3,39), (3,40), (0,21), (3,41), (3,42), (3,43), (0,22), (3,44), (3,45), (3,46), (3,47), (3,48), (3,49), (3,50), (3,51), (3,52), (3,53), (3,54), (3,55), (3,57), (3,59), (3,61), (3,63), (10,3)] qpQ rfl
set_option maxRecDepth 20000 in
theorem qaqt : ∀ w ∈ wsL_law_0_r16, w ∈ lw_tbl := qpR _ [(3,64), (3,65), (3,66), (3,67), (3,68), (3,69), (3,71), (10,4), (3,72), (3,73), (3,74), (3,75), (3,76), (3,81), (3,77), (3,79), (10,5), (3,80), (3,83), (3,84), (3,85), (3,86), (3,87), (3,88)] qpQ rfl
set_option maxRecDepth 20000 in
theorem qarz : ∀ w ∈ wsL_law_0_r17, w ∈ lw_tbl := qpR _ [(3,89), (3,90), (3,91), (3,92), (3,93), (3,94), (3,96), (3,98), (10,6), (3,99), (3,101), (3,103), (10,7), (3,104), (3,106), (3,108), (10,8), (3,109), (3,110), (3,111), (3,113), (10,9), (3,114), (0,101)] qpQ rfl
set_option maxRecDepth 20000 in
theorem qat9 : ∀ w ∈ wsL_law_0_r18, w ∈ lw_tbl := qpR _ [(3,115), (3,117), (10,10), (3,118), (2,48), (2,49), (2,50), (3,119), (3,120), (3,121), (3,122), (6,155), (6,156), (6,157), (6,158), (5,224), (5,225), (6,159), (6,161), (12,11), (6,162), (6,163), (6,165), (12,12)] qpQ rfl
set_option maxRecDepth 20000 in
theorem qaqN : ∀ w ∈ wsL_law_0_r19, w ∈ lw_tbl := qpR _ [(6,166), (5,223), (5,227), (6,167), (6,169), (12,13), (6,170), (6,171), (6,173), (12,14), (6,174), (6,175), (6,177), (12,15), (6,178), (6,179), (6,181), (13,0), (6,182), (6,183), (6,184), (6,185), (6,186), (6,187)] qpQ rfl
set_option maxRecDepth 20000 in
theorem qao3 : ∀ w ∈ wsL_law_0_r20, w ∈ lw_tbl := qpR _ [(6,188), (6,190), (6,191), (6,192), (6,193), (6,194), (6,198), (6,200), (13,1), (6,201), (5,226), (6,202), (6,204), (13,2), (6,205), (6,206), (6,208), (13,3), (6,209), (6,210), (6,212), (13,4), (6,213), (6,214)] qpQ rfl
set_option maxRecDepth 20000 in
theorem qasY : ∀ w ∈ wsL_law_0_r21, w ∈ lw_tbl := qpR _ [(6,216), (13,5), (6,217), (6,218), (6,219), (6,220), (6,221), (6,223), (13,6), (6,224), (6,225), (6,227), (13,7), (6,228), (6,229), (6,231), (13,8), (6,232), (6,233), (6,235), (13,9), (6,236), (3,123), (3,124)] qpQ rfl
set_option maxRecDepth 20000 in
theorem qao9 : ∀ w ∈ wsL_law_0_r22, w ∈ lw_tbl := qpR _ [(3,125), (3,126), (3,127), (3,128), (3,129), (3,130), (3,131), (3,132), (3,133), (3,134), (3,136), (10,11), (3,137), (3,138), (3,140), (10,12), (3,178), (3,151), (3,155), (3,156), (3,157), (3,163), (3,141), (3,142)] qpQ rfl
set_option maxRecDepth 20000 in
theorem qasF : ∀ w ∈ wsL_law_0_r23, w ∈ lw_tbl := qpR _ [(3,144), (10,13), (3,145), (3,146), (3,147), (3,148), (3,149), (3,150), (3,152), (3,154), (10,14), (3,159), (3,160), (3,162), (10,15), (3,165), (3,167), (11,0), (3,168), (3,177), (3,179), (3,180), (3,181), (3,182)] qpQ rfl
set_option maxRecDepth 20000 in
theorem qar5 : ∀ w ∈ wsL_law_0_r24, w ∈ lw_tbl := qpR _ [(3,183), (3,184), (3,185), (3,186), (3,187), (6,237), (6,238), (6,239), (7,0), (6,8), (7,1), (7,3), (13,10), (7,4), (7,5), (7,7), (13,11), (7,17), (7,19), (13,14), (7,20), (7,8), (7,9), (7,11)] qpQ rfl
set_option maxRecDepth 20000 in
theorem qapY : ∀ w ∈ wsL_law_0_r25, w ∈ lw_tbl := qpR _ [(13,12), (7,25), (7,13), (7,15), (13,13), (7,16), (7,12), (7,22), (7,24), (13,15), (7,27), (7,29), (14,0), (7,30), (3,188), (3,189), (3,190), (3,191), (3,192), (3,193), (3,194), (0,91), (0,195), (0,193)] qpQ rfl
set_option maxRecDepth 20000 in
theorem qauF : ∀ w ∈ wsL_law_0_r26, w ∈ lw_tbl := qpR _ [(3,195), (3,196), (3,197), (3,198), (0,191), (0,192), (0,189), (0,190), (3,199), (3,200), (3,201), (3,202), (3,204), (11,1), (3,205), (3,206), (3,208), (11,2), (3,209), (3,210), (3,211), (3,213), (11,3), (3,214)] qpQ rfl
set_option maxRecDepth 20000 in
theorem qasJ : ∀ w ∈ wsL_law_0_r27, w ∈ lw_tbl := qpR _ [(3,216), (3,217), (3,219), (11,4), (3,220), (3,221), (3,222), (3,227), (2,112), (2,113), (2,114), (2,115), (1,18), (0,236), (1,191), (3,228), (3,229), (3,230), (3,231), (0,194), (0,196), (3,232), (3,234), (11,5)] qpQ rfl
set_option maxRecDepth 20000 in
theorem qapx : ∀ w ∈ wsL_law_0_r28, w ∈ lw_tbl := qpR _ [(3,235), (3,236), (3,238), (11,6), (3,239), (4,0), (4,2), (11,7), (4,3), (4,4), (4,5), (4,6), (4,7), (1,212), (1,205), (1,206), (1,207), (1,213), (1,214), (1,215), (1,216), (4,8), (2,45), (2,46)] qpQ rfl
set_option maxRecDepth 20000 in
theorem qasI : ∀ w ∈ wsL_law_0_r29, w ∈ lw_tbl := qpR _ [(2,47), (1,217), (1,218), (1,219), (1,220), (1,221), (1,222), (1,223), (1,224), (1,225), (1,226), (0,23), (1,227), (1,228), (1,229), (1,230), (1,231), (1,232), (1,233), (1,234), (1,235), (1,236), (1,237), (1,238)] qpQ rfl
set_option maxRecDepth 20000 in
theorem qaqT : ∀ w ∈ wsL_law_0_r30, w ∈ lw_tbl := qpR _ [(1,239), (2,0), (2,1), (2,2), (2,3), (2,4), (2,5), (2,6), (2,7), (2,8), (2,9), (2,10), (2,11), (2,12), (2,13), (2,14), (2,15), (2,16), (2,17), (2,18), (2,19), (2,20), (2,21), (2,22)] qpQ rfl
set_option maxRecDepth 20000 in
theorem qarB : ∀ w ∈ wsL_law_0_r31, w ∈ lw_tbl := qpR _ [(2,23), (2,24), (2,25), (2,26), (2,27), (2,28), (2,29), (2,30), (2,34), (2,37), (2,38), (2,39), (2,31), (2,32), (2,33), (4,9), (4,10), (4,11), (4,12), (4,13), (4,14), (4,15), (4,16), (4,17)] qpQ rfl
set_option maxRecDepth 20000 in
theorem qapI : ∀ w ∈ wsL_law_0_r32, w ∈ lw_tbl := qpR _ [(4,18), (4,19), (4,20), (4,21), (4,23), (11,8), (4,24), (4,25), (4,26), (4,27), (4,28), (4,29), (4,31), (11,9), (4,32), (4,33), (4,34), (4,35), (4,36), (4,37), (4,38), (4,39), (4,40), (4,41)] qpQ rfl
set_option maxRecDepth 20000 in
theorem qarb : ∀ w ∈ wsL_law_0_r33, w ∈ lw_tbl := qpR _ [(4,42), (4,43), (4,44), (4,45), (2,61), (2,62), (4,47), (4,49), (11,10), (4,50), (4,51), (4,52), (4,53), (4,54), (4,55), (4,56), (4,57), (4,58), (4,60), (4,62), (11,11), (4,63), (7,38), (7,39)] qpQ rfl
set_option maxRecDepth 20000 in
theorem qasl : ∀ w ∈ wsL_law_0_r34, w ∈ lw_tbl := qpR _ [(7,40), (7,41), (6,13), (6,16), (6,17), (6,18), (7,42), (7,44), (14,1), (7,45), (7,46), (7,48), (14,2), (7,49), (7,51), (7,53), (14,3), (7,54), (7,58), (7,60), (14,4), (7,61), (7,62), (7,64)] qpQ rfl
set_option maxRecDepth 20000 in
theorem qatN : ∀ w ∈ wsL_law_0_r35, w ∈ lw_tbl := qpR _ [(14,5), (7,65), (7,66), (7,68), (14,6), (7,69), (7,70), (7,72), (14,7), (7,73), (7,74), (7,76), (14,8), (7,77), (7,78), (7,80), (14,9), (7,81), (7,82), (7,84), (14,10), (7,85), (7,86), (7,87)] qpQ rfl
set_option maxRecDepth 20000 in
theorem qas4 : ∀ w ∈ wsL_law_0_r36, w ∈ lw_tbl := qpR _ [(7,88), (7,89), (7,91), (14,11), (7,92), (7,93), (7,95), (14,12), (7,96), (7,97), (7,99), (14,13), (7,100), (7,101), (7,103), (14,14), (7,104), (7,105), (7,106), (7,107), (7,108), (7,110), (14,15), (7,111)] qpQ rfl
set_option maxRecDepth 20000 in
theorem qaqj : ∀ w ∈ wsL_law_0_r37, w ∈ lw_tbl := qpR _ [(7,112), (7,114), (15,0), (7,115), (7,116), (7,118), (15,1), (7,119), (7,120), (7,121), (7,122), (7,123), (7,125), (15,2), (7,126), (7,127), (7,129), (15,3), (7,130), (7,131), (7,133), (15,4), (7,134), (7,135)] qpQ rfl
set_option maxRecDepth 20000 in
theorem qaoQ : ∀ w ∈ wsL_law_0_r38, w ∈ lw_tbl := qpR _ [(7,137), (15,5), (7,138), (7,139), (7,141), (15,6), (7,142), (7,143), (7,145), (15,7), (7,146), (4,64), (4,65), (4,66), (4,67), (4,68), (4,69), (4,70), (0,171), (4,71), (4,72), (4,73), (4,74), (4,75)] qpQ rfl
set_option maxRecDepth 20000 in
theorem qaq8 : ∀ w ∈ wsL_law_0_r39, w ∈ lw_tbl := qpR _ [(4,76), (4,77), (4,79), (11,12), (4,80), (4,81), (4,83), (4,84), (4,85), (4,86), (4,87), (4,88), (7,147), (7,148), (7,149), (7,150), (1,179), (1,180), (1,181), (1,182), (0,48), (6,151), (6,152), (6,153)] qpQ rfl
set_option maxRecDepth 20000 in
theorem qapr : ∀ w ∈ wsL_law_0_r40, w ∈ lw_tbl := qpR _ [(6,154), (1,183), (1,184), (1,185), (1,186), (1,187), (1,188), (1,189), (1,190), (7,151), (7,152), (7,153), (7,154), (4,89), (4,90), (4,91), (4,92), (4,93), (4,94), (4,95), (0,99), (0,102), (4,96), (4,97)] qpQ rfl
set_option maxRecDepth 20000 in
theorem qapU : ∀ w ∈ wsL_law_0_r41, w ∈ lw_tbl := qpR _ [(4,98), (4,99), (4,100), (4,101), (4,102), (4,103), (4,104), (4,105), (4,106), (4,107), (4,108), (4,109), (4,110), (7,155), (7,156), (7,157), (7,158), (7,159), (7,160), (7,161), (7,162), (7,164), (15,8), (7,165)] qpQ rfl
set_option maxRecDepth 20000 in
theorem qaro : ∀ w ∈ wsL_law_0_r42, w ∈ lw_tbl := qpR _ [(7,166), (7,168), (15,9), (7,169), (7,170), (7,172), (15,10), (7,173), (7,174), (7,176), (15,11), (7,177), (4,111), (4,112), (4,113), (4,114), (4,115), (4,116), (4,117), (4,118), (0,72), (0,74), (4,119), (4,121)] qpQ rfl
set_option maxRecDepth 20000 in
theorem qapD : ∀ w ∈ wsL_law_0_r43, w ∈ lw_tbl := qpR _ [(11,13), (4,122), (4,123), (0,24), (1,126), (4,139), (4,140), (7,178), (7,179), (7,180), (7,181), (7,182), (7,184), (15,12), (7,185), (4,141), (4,142), (4,143), (4,144), (4,145), (4,146), (4,147), (0,83), (4,148)] qpQ rfl
set_option maxRecDepth 20000 in
theorem qapa : ∀ w ∈ wsL_law_0_r44, w ∈ lw_tbl := qpR _ [(4,150), (11,14), (4,151), (4,153), (4,154), (4,155), (4,156), (4,157), (4,158), (4,159), (4,160), (7,186), (7,187), (7,188), (7,189), (7,190), (7,192), (15,13), (7,193), (4,161), (4,162), (4,163), (4,164), (4,165)] qpQ rfl
set_option maxRecDepth 20000 in
theorem qarx : ∀ w ∈ wsL_law_0_r45, w ∈ lw_tbl := qpR _ [(4,166), (4,167), (0,76), (0,78), (7,194), (7,195), (7,196), (7,197), (4,169), (4,170), (4,171), (4,172), (4,173), (4,174), (4,175), (4,176), (7,198), (7,199), (7,200), (7,201), (4,177), (4,178), (4,179), (4,180)] qpQ rfl
set_option maxRecDepth 20000 in
theorem qap0 : ∀ w ∈ wsL_law_0_r46, w ∈ lw_tbl := qpR _ [(4,181), (4,182), (4,183), (4,184), (7,202), (7,203), (7,204), (7,205), (4,185), (4,186), (4,187), (4,188), (4,189), (4,190), (4,191), (4,192), (4,193), (4,194), (7,206), (7,207), (7,208), (7,209), (4,195), (4,196)] qpQ rfl
set_option maxRecDepth 20000 in
theorem qarX : ∀ w ∈ wsL_law_0_r47, w ∈ lw_tbl := qpR _ [(4,197), (4,198), (4,199), (4,200), (4,201), (4,202), (7,210), (7,211), (7,212), (7,213), (4,203), (4,204), (4,205), (4,206), (4,207), (4,208), (4,209), (4,210), (4,211), (4,212), (4,213), (4,214), (7,222), (7,223)] qpQ rfl
set_option maxRecDepth 20000 in
theorem qap9 : ∀ w ∈ wsL_law_0_r48, w ∈ lw_tbl := qpR _ [(7,224), (7,225), (4,215), (4,216), (4,217), (4,218), (4,219), (4,220), (4,221), (4,222), (4,223), (4,224), (4,225), (4,226), (2,42), (9,2), (2,43), (2,44), (7,226), (7,227), (7,228), (7,229), (1,192), (1,193)] qpQ rfl
set_option maxRecDepth 20000 in
theorem qatB : ∀ w ∈ wsL_law_0_r49, w ∈ lw_tbl := qpR _ [(1,194), (1,195), (1,55), (1,196), (1,197), (1,198), (1,199), (0,238), (0,93), (0,89), (1,54), (1,200), (1,202), (9,1), (1,203), (0,100), (1,204), (1,208), (1,209), (1,210), (1,211), (2,51), (2,52), (2,54)] qpQ rfl
set_option maxRecDepth 20000 in
theorem qask : ∀ w ∈ wsL_law_0_r50, w ∈ lw_tbl := qpR _ [(9,3), (2,55), (2,63), (2,56), (2,58), (9,4), (2,59), (2,64), (2,66), (9,5), (2,67), (2,68), (2,70), (9,6), (2,71), (7,230), (7,231), (7,232), (7,233), (7,234), (7,236), (15,15), (7,237), (7,218)] qpQ rfl
set_option maxRecDepth 20000 in
theorem qaoL : ∀ w ∈ wsL_law_0_r51, w ∈ lw_tbl := qpR _ [(7,220), (15,14), (7,221), (4,227), (4,228), (4,229), (4,230), (4,231), (4,232), (4,233), (1,53), (7,238), (7,239), (8,0), (8,1), (2,72), (2,73), (2,74), (2,75), (1,36), (2,76), (2,77), (2,78), (2,79)] qpQ rfl
set_option maxRecDepth 20000 in
theorem qarE : ∀ w ∈ wsL_law_0_r52, w ∈ lw_tbl := qpR _ [(1,35), (0,88), (2,80), (2,82), (9,7), (2,83), (2,85), (2,87), (9,8), (2,88), (2,90), (2,95), (2,89), (2,91), (2,93), (9,9), (2,94), (2,96), (2,98), (9,10), (2,99), (2,100), (2,102), (9,11)] qpQ rfl
set_option maxRecDepth 20000 in
theorem qauj : ∀ w ∈ wsL_law_0_r53, w ∈ lw_tbl := qpR _ [(2,103), (8,2), (8,3), (8,4), (8,5), (8,6), (8,8), (16,0), (8,9), (4,234), (4,235), (4,236), (4,237), (4,238), (4,239), (5,0), (1,34), (8,10), (8,11), (8,12), (8,13), (5,1), (5,2), (5,3)] qpQ rfl
set_option maxRecDepth 20000 in
theorem qapo : ∀ w ∈ wsL_law_0_r54, w ∈ lw_tbl := qpR _ [(5,4), (5,5), (5,6), (5,7), (5,8), (5,9), (5,10), (5,11), (5,12), (5,13), (5,14), (5,15), (5,16), (8,14), (8,15), (8,16), (8,17), (8,18), (8,20), (16,1), (8,21), (5,17), (5,18), (5,19)] qpQ rfl
set_option maxRecDepth 20000 in
theorem qauD : ∀ w ∈ wsL_law_0_r55, w ∈ lw_tbl := qpR _ [(5,20), (5,21), (5,22), (5,23), (1,79), (1,81), (5,24), (5,25), (5,26), (5,27), (1,0), (0,94), (1,75), (0,90), (1,76), (1,77), (1,78), (1,80), (5,28), (5,29), (5,30), (5,31), (5,32), (5,34)] qpQ rfl
set_option maxRecDepth 20000 in
theorem qaty : ∀ w ∈ wsL_law_0_r56, w ∈ lw_tbl := qpR _ [(11,15), (5,35), (5,36), (5,38), (12,0), (5,39), (5,40), (5,42), (12,1), (5,43), (5,44), (5,45), (5,46), (5,47), (8,22), (8,23), (8,24), (8,25), (8,26), (8,28), (16,2), (8,29), (8,30), (8,32)] qpQ rfl
set_option maxRecDepth 20000 in
theorem qaq7 : ∀ w ∈ wsL_law_0_r57, w ∈ lw_tbl := qpR _ [(16,3), (8,33), (5,48), (5,49), (5,50), (5,51), (5,52), (5,53), (5,54), (1,83), (1,85), (5,55), (5,56), (5,57), (5,58), (1,82), (1,84), (5,59), (5,60), (5,62), (12,2), (5,63), (5,70), (5,65)] qpQ rfl
set_option maxRecDepth 20000 in
theorem qapn : ∀ w ∈ wsL_law_0_r58, w ∈ lw_tbl := qpR _ [(5,67), (12,3), (5,68), (8,34), (8,35), (8,36), (8,37), (8,38), (8,40), (16,4), (8,41), (5,71), (5,72), (5,73), (5,74), (5,75), (5,76), (5,77), (5,78), (5,79), (5,80), (5,81), (5,82), (5,83)] qpQ rfl
set_option maxRecDepth 20000 in
theorem qarN : ∀ w ∈ wsL_law_0_r59, w ∈ lw_tbl := qpR _ [(5,85), (12,4), (5,86), (8,42), (8,43), (8,44), (8,45), (5,87), (5,88), (5,89), (5,90), (5,91), (5,92), (5,93), (5,94), (5,95), (5,96), (5,97), (5,98), (5,99), (8,46), (8,47), (8,48), (8,49)] qpQ rfl
set_option maxRecDepth 20000 in
theorem qar7 : ∀ w ∈ wsL_law_0_r60, w ∈ lw_tbl := qpR _ [(8,50), (8,51), (8,52), (8,53), (5,100), (5,101), (5,102), (5,103), (5,104), (5,105), (5,106), (5,107), (5,108), (5,109), (8,54), (8,55), (8,56), (8,57), (8,58), (8,59), (8,60), (5,110), (5,111), (5,112)] qpQ rfl
set_option maxRecDepth 20000 in
theorem qatE : ∀ w ∈ wsL_law_0_r61, w ∈ lw_tbl := qpR _ [(5,113), (5,114), (5,115), (5,116), (5,117), (5,118), (5,119), (5,120), (5,125), (5,121), (5,123), (12,5), (5,124), (8,61), (8,62), (8,63), (8,64), (8,65), (8,67), (16,5), (8,68), (5,126), (5,127), (5,128)] qpQ rfl
set_option maxRecDepth 20000 in
theorem qaoK : ∀ w ∈ wsL_law_0_r62, w ∈ lw_tbl := qpR _ [(5,129), (5,130), (5,131), (5,132), (8,69), (8,70), (8,71), (8,72), (5,133), (5,134), (5,135), (5,136), (5,137), (5,138), (5,139), (8,73), (8,74), (8,75), (8,76), (5,140), (5,141), (5,142), (5,143), (5,144)] qpQ rfl
set_option maxRecDepth 20000 in
theorem qasH : ∀ w ∈ wsL_law_0_r63, w ∈ lw_tbl := qpR _ [(5,145), (5,146), (8,77), (8,78), (8,79), (8,80), (5,147), (5,148), (5,149), (5,150), (5,151), (5,152), (5,153), (5,154), (7,214), (7,215), (7,216), (7,217), (5,198), (5,199), (5,200), (5,201), (5,155), (5,156)] qpQ rfl
set_option maxRecDepth 20000 in
theorem qaqY : ∀ w ∈ wsL_law_0_r64, w ∈ lw_tbl := qpR _ [(5,157), (5,158), (5,159), (5,160), (5,161), (5,162), (5,163), (5,164), (5,165), (0,92), (5,166), (5,167), (5,168), (5,169), (5,170), (5,171), (5,172), (5,173), (5,175), (12,6), (5,176), (5,177), (5,178), (5,179)] qpQ rfl
set_option maxRecDepth 20000 in
theorem qaur : ∀ w ∈ wsL_law_0_r65, w ∈ lw_tbl := qpR _ [(5,181), (12,7), (5,182), (5,183), (5,184), (5,185), (5,186), (5,187), (5,188), (5,189), (8,81), (8,82), (8,83), (8,84), (6,32), (8,85), (8,87), (16,6), (8,88), (6,31), (8,89), (8,91), (16,7), (8,92)] qpQ rfl
set_option maxRecDepth 20000 in
theorem qaqD : ∀ w ∈ wsL_law_0_r66, w ∈ lw_tbl := qpR _ [(8,93), (8,94), (8,96), (16,8), (8,97), (5,190), (5,191), (5,192), (5,193), (5,194), (5,195), (5,196), (5,197), (8,98), (8,99), (8,100), (8,101), (2,104), (2,105), (2,106), (2,107), (2,108), (2,109), (2,110)] qpQ rfl
set_option maxRecDepth 20000 in
theorem qaq5 : ∀ w ∈ wsL_law_0_r67, w ∈ lw_tbl := qpR _ [(2,111), (8,102), (8,103), (8,104), (8,105), (8,106), (8,108), (16,9), (8,109), (8,110), (8,112), (16,10), (8,113), (2,116), (2,117), (2,118), (2,119), (8,114), (8,115), (8,116), (8,117), (2,120), (2,121), (2,122)] qpQ rfl
set_option maxRecDepth 20000 in
theorem qapO : ∀ w ∈ wsL_law_0_r68, w ∈ lw_tbl := qpR _ [(2,123), (8,118), (8,119), (8,120), (8,121), (2,124), (2,125), (2,126), (2,127), (8,122), (8,123), (8,124), (8,125)] qpQ rfl
set_option maxRecDepth 20000 in
theorem qa9l : ∀ w ∈ wsX100, w ∈ lw_tbl := fun w h => (goodIn_p wsX100 [] rfl (by decide +kernel) w h).1
set_option maxRecDepth 20000 in
theorem qa7Q : ∀ w ∈ wsX110, w ∈ lw_tbl := fun w h => (goodIn_p wsX110 [] rfl (by decide +kernel) w h).1
set_option maxRecDepth 20000 in
theorem qbbK : ∀ w ∈ wsX80, w ∈ lw_tbl := fun w h => (goodIn_p wsX80 [] rfl (by decide +kernel) w h).1
set_option maxRecDepth 20000 in
theorem qba2 : ∀ w ∈ wsX20, w ∈ lw_tbl := fun w h => (goodIn_p wsX20 [] rfl (by decide +kernel) w h).1
set_option maxRecDepth 20000 in
theorem qbbb : ∀ w ∈ wsX40, w ∈ lw_tbl := fun w h => (goodIn_p wsX40 [] rfl (by decide +kernel) w h).1
set_option maxRecDepth 20000 in
theorem qbct : ∀ w ∈ wsX00, w ∈ lw_tbl := fun w h => (goodIn_p wsX00 [] rfl (by decide +kernel) w h).1
set_option maxRecDepth 20000 in
theorem qbba : ∀ w ∈ wsX90, w ∈ lw_tbl := fun w h => (goodIn_p wsX90 [] rfl (by decide +kernel) w h).1
set_option maxRecDepth 20000 in
theorem qbbz : ∀ w ∈ wsX10, w ∈ lw_tbl := fun w h => (goodIn_p wsX10 [] rfl (by decide +kernel) w h).1
set_option maxRecDepth 20000 in
theorem qba7 : ∀ w ∈ wsX50, w ∈ lw_tbl := fun w h => (goodIn_p wsX50 [] rfl (by decide +kernel) w h).1
set_option maxRecDepth 20000 in
theorem qbb0 : ∀ w ∈ wsX60, w ∈ lw_tbl := fun w h => (goodIn_p wsX60 [] rfl (by decide +kernel) w h).1
set_option maxRecDepth 20000 in
theorem qba9 : ∀ w ∈ wsX70, w ∈ lw_tbl := fun w h => (goodIn_p wsX70 [] rfl (by decide +kernel) w h).1
set_option maxRecDepth 20000 in
theorem qbbR : ∀ w ∈ wsX30, w ∈ lw_tbl := fun w h => (goodIn_p wsX30 [] rfl (by decide +kernel) w h).1
theorem wsL_law__in0 : ∀ w ∈ wsL_law_0, w ∈ lw_tbl := qdM (qdM (qdM (qdM (qdM (qdM (qdM (qdM (qdM (qdM (qdM (qdM (qdM (qdM qaBv (qdM qayb (qdM qavz (qdM qaDq (qdM qaAM (qdM qavK (qdM qaCl (qdM qazn (qdM qaB9 (qdM qapt (qdM qaus (qdM qasW (qdM qarP (qdM qasE (qdM qaqu (qdM qaqt (qdM qarz (qdM qat9 (qdM qaqN (qdM qao3 (qdM qasY (qdM qao9 (qdM qasF (qdM qar5 (qdM qapY (qdM qauF (qdM qasJ (qdM qapx (qdM qasI (qdM qaqT (qdM qarB (qdM qapI (qdM qarb (qdM qasl (qdM qatN (qdM qas4 (qdM qaqj (qdM qaoQ (qdM qaq8 (qdM qapr (qdM qapU (qdM qaro (qdM qapD (qdM qapa (qdM qarx (qdM qap0 (qdM qarX (qdM qap9 (qdM qatB (qdM qask (qdM qaoL (qdM qarE (qdM qauj (qdM qapo (qdM qauD (qdM qaty (qdM qaq7 (qdM qapn (qdM qarN (qdM qar7 (qdM qatE (qdM qaoK (qdM qasH (qdM qaqY (qdM qaur (qdM qaqD (qdM qaq5 (qapO)))))))))))))))))))))))))))))))))))))))))))))))))))))))))))))))))))) qa9l) qa7Q) qbbK) qba2) qbbb) qbct) qbba) qbbz) qba7) qbb0) qba9) qbbR) qbjS
theorem wsL_law__x0 : ∀ w ∈ (vx_atS RX10 409 "java/lang/IllegalArgumentException" ["java/lang/RuntimeException", "java/lang/Exception"]).filter goodWord, w ∈ lw_tbl := by decide +kernel
theorem wsL_law__x1 : ∀ w ∈ (qqx RX10 268 "java/util/NoSuchElementException" 13 qxA ["java/lang/RuntimeException", "java/lang/Exception"]).filter goodWord, w ∈ lw_tbl := by decide +kernel
theorem wsL_law__in : ∀ w ∈ wsL_law_, w ∈ lw_tbl := fun w h => (List.mem_append.mp h).elim (fun h => (List.mem_append.mp h).elim (fun h => wsL_law__in0 w h) (fun h => wsL_law__x0 w h)) (fun h => wsL_law__x1 w h)
theorem inlX0 : ∀ w ∈ wsX00, w ∈ wsL_law_ := fun _ h => List.mem_append_left _ (List.mem_append_left _ (List.mem_append_left _ (List.mem_append_left _ (List.mem_append_left _ (List.mem_append_left _ (List.mem_append_left _ (List.mem_append_left _ (List.mem_append_left _ (List.mem_append_right _ h)))))))))
theorem inX0 : ∀ w ∈ wsX00, w ∈ lw_tbl := fun w h => wsL_law__in w (inlX0 w h)
theorem inlX1 : ∀ w ∈ wsX10, w ∈ wsL_law_ := fun _ h => List.mem_append_left _ (List.mem_append_left _ (List.mem_append_left _ (List.mem_append_left _ (List.mem_append_left _ (List.mem_append_left _ (List.mem_append_left _ (List.mem_append_right _ h)))))))
theorem inX1 : ∀ w ∈ wsX10, w ∈ lw_tbl := fun w h => wsL_law__in w (inlX1 w h)
theorem inlX2 : ∀ w ∈ wsX20, w ∈ wsL_law_ := fun _ h => List.mem_append_left _ (List.mem_append_left _ (List.mem_append_left _ (List.mem_append_left _ (List.mem_append_left _ (List.mem_append_left _ (List.mem_append_left _ (List.mem_append_left _ (List.mem_append_left _ (List.mem_append_left _ (List.mem_append_left _ (List.mem_append_right _ h)))))))))))
theorem inX2 : ∀ w ∈ wsX20, w ∈ lw_tbl := fun w h => wsL_law__in w (inlX2 w h)
theorem inlX3 : ∀ w ∈ wsX30, w ∈ wsL_law_ := fun _ h => List.mem_append_left _ (List.mem_append_left _ (List.mem_append_left _ (List.mem_append_right _ h)))
theorem inX3 : ∀ w ∈ wsX30, w ∈ lw_tbl := fun w h => wsL_law__in w (inlX3 w h)
theorem inlX4 : ∀ w ∈ wsX40, w ∈ wsL_law_ := fun _ h => List.mem_append_left _ (List.mem_append_left _ (List.mem_append_left _ (List.mem_append_left _ (List.mem_append_left _ (List.mem_append_left _ (List.mem_append_left _ (List.mem_append_left _ (List.mem_append_left _ (List.mem_append_left _ (List.mem_append_right _ h))))))))))
theorem inX4 : ∀ w ∈ wsX40, w ∈ lw_tbl := fun w h => wsL_law__in w (inlX4 w h)
theorem inlX5 : ∀ w ∈ wsX50, w ∈ wsL_law_ := fun _ h => List.mem_append_left _ (List.mem_append_left _ (List.mem_append_left _ (List.mem_append_left _ (List.mem_append_left _ (List.mem_append_left _ (List.mem_append_right _ h))))))
theorem inX5 : ∀ w ∈ wsX50, w ∈ lw_tbl := fun w h => wsL_law__in w (inlX5 w h)
theorem inlX6 : ∀ w ∈ wsX60, w ∈ wsL_law_ := fun _ h => List.mem_append_left _ (List.mem_append_left _ (List.mem_append_left _ (List.mem_append_left _ (List.mem_append_left _ (List.mem_append_right _ h)))))
theorem inX6 : ∀ w ∈ wsX60, w ∈ lw_tbl := fun w h => wsL_law__in w (inlX6 w h)
theorem inlX7 : ∀ w ∈ wsX70, w ∈ wsL_law_ := fun _ h => List.mem_append_left _ (List.mem_append_left _ (List.mem_append_left _ (List.mem_append_left _ (List.mem_append_right _ h))))
theorem inX7 : ∀ w ∈ wsX70, w ∈ lw_tbl := fun w h => wsL_law__in w (inlX7 w h)
theorem inlX8 : ∀ w ∈ wsX80, w ∈ wsL_law_ := fun _ h => List.mem_append_left _ (List.mem_append_left _ (List.mem_append_left _ (List.mem_append_left _ (List.mem_append_left _ (List.mem_append_left _ (List.mem_append_left _ (List.mem_append_left _ (List.mem_append_left _ (List.mem_append_left _ (List.mem_append_left _ (List.mem_append_left _ (List.mem_append_right _ h))))))))))))
theorem inX8 : ∀ w ∈ wsX80, w ∈ lw_tbl := fun w h => wsL_law__in w (inlX8 w h)
theorem inlX9 : ∀ w ∈ wsX90, w ∈ wsL_law_ := fun _ h => List.mem_append_left _ (List.mem_append_left _ (List.mem_append_left _ (List.mem_append_left _ (List.mem_append_left _ (List.mem_append_left _ (List.mem_append_left _ (List.mem_append_left _ (List.mem_append_right _ h))))))))
theorem inX9 : ∀ w ∈ wsX90, w ∈ lw_tbl := fun w h => wsL_law__in w (inlX9 w h)
theorem inlX10 : ∀ w ∈ wsX100, w ∈ wsL_law_ := fun _ h => List.mem_append_left _ (List.mem_append_left _ (List.mem_append_left _ (List.mem_append_left _ (List.mem_append_left _ (List.mem_append_left _ (List.mem_append_left _ (List.mem_append_left _ (List.mem_append_left _ (List.mem_append_left _ (List.mem_append_left _ (List.mem_append_left _ (List.mem_append_left _ (List.mem_append_left _ (List.mem_append_right _ h))))))))))))))
theorem inX10 : ∀ w ∈ wsX100, w ∈ lw_tbl := fun w h => wsL_law__in w (inlX10 w h)
theorem inlX11 : ∀ w ∈ wsX110, w ∈ wsL_law_ := fun _ h => List.mem_append_left _ (List.mem_append_left _ (List.mem_append_left _ (List.mem_append_left _ (List.mem_append_left _ (List.mem_append_left _ (List.mem_append_left _ (List.mem_append_left _ (List.mem_append_left _ (List.mem_append_left _ (List.mem_append_left _ (List.mem_append_left _ (List.mem_append_left _ (List.mem_append_right _ h)))))))))))))
theorem inX11 : ∀ w ∈ wsX110, w ∈ lw_tbl := fun w h => wsL_law__in w (inlX11 w h)
