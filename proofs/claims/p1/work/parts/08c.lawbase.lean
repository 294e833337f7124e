/-! THE CLAIM OUT OF ONE WALK OF THE LAW'S BODY. Your part is whole_start (and what it stands on); all else here is the same for every law, but numbers. -/
def R_law : String := "MarchHaresLaw"
def lw_P (b : Addr) (xs : List Int32) (args : Array Value) (s : State) : Prop := args = #[.ref b] ∧ s.IntsAt b xs ∧ xs.length ≤ 9 ∧ (Jvm.Cond.and given_1 narrow_1).before args s = true
def lw_Q (_ : Array Value) (s : State) (o : Outcome) (t : State) : Prop := o = .returned (some (.int 1)) ∧ Framed s o t [] 600002 7302232
def lw_Z (below : List Frame) (a : Array Value) (s : State) : State → Prop := fun t => ∃ o, t.status = .running ∧ Ended t below o ∧ lw_Q a s o t
/-- the law's own end, with 1 on the stack, nothing written that was there before, its room as the claim has it -/
theorem lw_ret {p : Program} {l : Launch} {e : Env} {s : State} {m : MethodId} {below : List Frame} {meth : Method} {c : Code} {b : Nat} (hx : p.tables.exec = Jvm.exec) (hb : c.code = code) (hr : meth.sig.returnType = ret) (hlocks : meth.locks = false) {pc : Nat} {H : Heap} {ls : Array Slot} (hdg : decode code pc = .ok (.ireturn, 1)) : W p l e room_1 s m #[Value.ref b] below meth c H [] 600002 7302232 (lw_Z below #[Value.ref b] s) (F0 m pc ls [.int 1]) := by
  intro T hT X
  obtain ⟨fs, hret, hrun, hended, hW, hframe⟩ := X.leave (v := some (.int 1)) (hlocks := hlocks) (fun h => by rw [hr] at h; cases h)
  have hmeth' : T.vm.method? m = some meth := X.method'
  refine ⟨T.setFrames fs, ?_, .returned (some (.int 1)), hrun, hended, rfl, ⟨_, rfl⟩, hW, hframe⟩
  jvm_step X.here [X.here.top, hx, hb, hdg, hmeth', hr, ret, narrow_b1]
  (try refine ⟨rfl, ?_⟩); (try refine ⟨rfl, ?_⟩)
  first | (intro acts; rw [hret _ acts rfl rfl rfl]) | rw [hret _ _ rfl rfl rfl]
  exact Steps.refl _
/-- what holds at the law's entry: the machine, the code, the tables' words (any of lw_tbl by 'hts w (by decide +kernel)'), the script of L ints xs at the cell b, what the Statement gives of the start (any of its parts by flat_of_before) -/
def lw_At (p : Program) (s : State) (m : MethodId) (meth : Method) (c : Code) (b L : Nat) (xs : Nat → Int32) : Prop :=
  p.tables.exec = Jvm.exec ∧ c.code = code ∧ meth.sig.returnType = ret ∧ c.maxLocals = 8 ∧ s.vm.findClass R_law = some m.cls ∧ (∀ w ∈ lw_tbl, w.before #[Value.ref b] s = true) ∧ va_X b L xs s s.heap ∧ b < s.heap.size ∧ meth.locks = false ∧ (Jvm.Cond.and given_1 narrow_1).before #[Value.ref b] s = true
/-! the law's own walk: what stays the same -/
def lfz (L : Nat) (p : Program) (l : Launch) (s : State) (m : MethodId) (meth : Method) (c : Code) (b : Nat) (xs : Nat → Int32) (D : va_G) (tys : List (ClassId × FieldType)) : Prop :=
  p.tables.exec = Jvm.exec ∧ c.code = cL_law_ ∧ meth.sig.returnType = ret ∧ c.maxLocals = 8 ∧ s.vm.findClass RL = some m.cls ∧ (∀ w ∈ wsL_law_, w.before #[Value.ref b] s = true) ∧ va_X b L xs s s.heap ∧ b < s.heap.size ∧ meth.locks = false ∧ va_K D vwCl tys s ∧ nwAll s ∧ cfY l s (fun q : Nat => s.heap.size ≤ q)
abbrev lfx := lfz 9
set_option maxHeartbeats 4000000 in
/-- the law's end, behind one step -/
theorem law_end {p : Program} {l : Launch} {e : Env} {s : State} {m : MethodId} {below : List Frame} {meth : Method} {c : Code} {b : Nat} {xs : Nat → Int32} (dC : Nat → ClassId) (dI : Nat → Nat → Nat) (cyB cyI cyJ cyP : ClassId) (C0 : lfx p l s m meth c b xs (dC, dI) (kT cyB cyI cyJ cyP)) {A : Nat → Prop} (eA : A = (fun q : Nat => s.heap.size ≤ q)) {H : Heap} {locs : List Loc} {ls : Array Slot} {k n : Nat} (hS : va_S A s.heap H locs) (hl : lv_has ls 8 [(0, .ref b), (4, .int 0)]) (hk : k ≤ 600002) (hn : n ≤ 7302232) : W p l e room_1 s m #[Value.ref b] below meth c H locs k n (lw_Z below #[Value.ref b] s) (F0 m 2405 ls []) := by
  obtain ⟨hx, hb, hr, hml, hown, hts, hX, hbl, hlocks, hK, hNw, hY⟩ := C0
  have hbA : ¬ A b := by rw [eA]; exact Nat.not_le.mpr hbl
  refine lv_iinc (v := 9) (lv' := [(4, .int 9), (0, .ref b)]) hx hb dL_law__2405 hl (k := 1) rfl (by decide) (by decide) rfl (fun ls hl => ?_)
  refine lv_goto (tgt := 23) hx hb dL_law__2408 (by decide) ?_
  refine lv_iload hx hb dL_law__23 (lv_at hl 0 rfl) ?_
  refine lv_aload_n hx hb dL_law__25 rfl (lv_at hl 1 rfl) ?_
  refine va_slen hx hb hX hbl hbA hS dL_law__26 ?_
  refine lv_bipush (v := 9) hx hb dL_law__27 (by decide) ?_
  refine lv_isub hx hb dL_law__29 ?_
  refine lv_icmp_gt (tgt := 2411) hx hb dL_law__30 (by decide) (fun _ => ?_) (fun c9 => absurd (by decide) c9)
  refine va_forget (fun q hq => by have h9 := hS.2.2 q hq; rw [eA] at h9; exact h9) ?_
  refine W.widen (k := 600002) (n := 7302232) hk hn ?_
  refine lv_iconst (v := 1) hx hb dL_law__2411 (by decide) ?_
  exact lw_ret hx hb hr hlocks dL_law__2412
/-- array classes, by the tables -/
theorem ls_arr {s : State} {args : Array Value} {ty : FieldType} (hty : ∀ C, ty ≠ .object C) (h : (Cond.arrayClass ty).before args s = true) : ∃ cA : ClassId, ArrOfT s cA ty ∧ va_RA s cA ty := by
  obtain ⟨cA, kA, comp, h1, h2, h3⟩ := Cond.arrayClass_spec h
  refine ⟨cA, fun n z => ⟨fun k h => (by cases h), kA, h2, comp, h3⟩, ?_⟩
  cases ty with
  | object C => exact absurd rfl (hty C)
  | _ => exact h1
theorem ls_arrP {s : State} {args : Array Value} {C : String} (h : (Cond.arrayOver (.object C)).before args s = true) : ∃ cA : ClassId, ArrOfT s cA (.object C) ∧ va_RA s cA (.object C) := by
  obtain ⟨comp, cA, kA, h1, _, h3, h4, h5⟩ := Cond.arrayOver_spec h
  exact ⟨cA, fun n z => ⟨fun k h => (by cases h), kA, h3, comp, h4⟩, kA, comp, h3, h4, h1, h5⟩
theorem ls_str {s : State} {args : Array Value} {C tx : String} {k : Nat} {c : ClassId} (hc : s.vm.findClass C = some c) (h : (Cond.stringRef C k tx).before args s = true) : ∃ a, vk_R C k tx a s := by
  obtain ⟨_, _, _, a, _, _, _, _, _, e⟩ := Cond.stringRef_spec hc h
  exact ⟨a, vk_R.of h e⟩
theorem ls_wordsL : (∀ w ∈ [Cond.arrayClass .byte, .arrayClass .int, .arrayClass .long, .laysStatic Bundle.tN "UNASSIGNED_STACK" Bundle.steD, .laysStatic Bundle.tN "SUPPRESSED_SENTINEL" Bundle.listD, .initialized Bundle.tN], w ∈ lw_tbl) := by decide +kernel
theorem ls_wordsN : (∀ w ∈ (Cond.arrayOver (.object "MarchHares$Past")) :: nwL.map (fun q => Cond.methodLinkNest q.1 q.2.1 q.2.2 "MarchHares"), w ∈ lw_tbl) := by decide +kernel
theorem ls_wordsB : (∀ w ∈ xB, w ∈ lw_tbl) := by decide +kernel
theorem ls_wordsS : (∀ w ∈ xS.map (fun q => Cond.stringRef RX10 q.1 q.2), w ∈ lw_tbl) := by decide +kernel
theorem ls_wordsG : (∀ w ∈ [Cond.isRef (.static Bundle.tN "UNASSIGNED_STACK" Bundle.steD), .isRef (.static Bundle.tN "SUPPRESSED_SENTINEL" Bundle.listD), .not (.castable "java/lang/IllegalArgumentException" "java/util/NoSuchElementException")], w ∈ flatC (Jvm.Cond.and given_1 narrow_1)) := by decide +kernel
theorem ls_wordsI : (∀ w ∈ vwCl.map (fun q => Cond.instantiable q.1 q.2.2), w ∈ lw_tbl) := by decide +kernel
set_option maxHeartbeats 4000000 in
/-- all that the law's walk needs of its start -/
theorem ls_fx {p : Program} {l : Launch} {s : State} {m : MethodId} {meth : Method} {c : Code} {b : Nat} {xs : Nat → Int32} {L : Nat} (hst : l.stackTraces = false) (C0 : lw_At p s m meth c b L xs) : ∃ (dC : Nat → ClassId) (dI : Nat → Nat → Nat) (cyB cyI cyJ cyP : ClassId), lfz L p l s m meth c b xs (dC, dI) (kT cyB cyI cyJ cyP) := by
  obtain ⟨hx, hb, hr, hml, hown, hts, hX, hbl, hlocks, hgv⟩ := C0
  have hg := flat_of_before _ hgv
  obtain ⟨cyB, hB⟩ := ls_arr (ty := .byte) (fun _ h => nomatch h) (hts _ (ls_wordsL _ (List.mem_of_getElem? (i := 0) rfl)))
  obtain ⟨cyI, hI⟩ := ls_arr (ty := .int) (fun _ h => nomatch h) (hts _ (ls_wordsL _ (List.mem_of_getElem? (i := 1) rfl)))
  obtain ⟨cyJ, hJ⟩ := ls_arr (ty := .long) (fun _ h => nomatch h) (hts _ (ls_wordsL _ (List.mem_of_getElem? (i := 2) rfl)))
  obtain ⟨cyP, hPp⟩ := ls_arrP (hts _ (ls_wordsN _ (List.mem_of_getElem? (i := 0) rfl)))
  have hcl : ∀ (k : Nat) (q : vw_C), vwCl[k]? = some q → (∀ w ∈ u_ws q.1 q.2.1 q.2.2, w ∈ lw_tbl) → ∃ (cC : ClassId) (iS : Nat → Nat), u_Kn s q.1 q.2.1 q.2.2 cC iS := fun k q hq hin =>
    u_known hts hin (hts _ (ls_wordsI _ (List.mem_map.mpr ⟨q, List.mem_of_getElem? hq, rfl⟩)))
  obtain ⟨k0, i0, h0⟩ := hcl 0 _ rfl inX0
  obtain ⟨k1, i1, h1⟩ := hcl 1 _ rfl inX1
  obtain ⟨k2, i2, h2⟩ := hcl 2 _ rfl inX2
  obtain ⟨k3, i3, h3⟩ := hcl 3 _ rfl inX3
  obtain ⟨k4, i4, h4⟩ := hcl 4 _ rfl inX4
  obtain ⟨k5, i5, h5⟩ := hcl 5 _ rfl inX5
  obtain ⟨k6, i6, h6⟩ := hcl 6 _ rfl inX6
  obtain ⟨k7, i7, h7⟩ := hcl 7 _ rfl inX7
  obtain ⟨k8, i8, h8⟩ := hcl 8 _ rfl inX8
  obtain ⟨k9, i9, h9⟩ := hcl 9 _ rfl inX9
  obtain ⟨k10, i10, h10⟩ := hcl 10 _ rfl inX10
  obtain ⟨k11, i11, h11⟩ := hcl 11 _ rfl inX11
  refine ⟨fun k => [k0, k1, k2, k3, k4, k5, k6, k7, k8, k9, k10, k11].getD k 0, fun k => [i0, i1, i2, i3, i4, i5, i6, i7, i8, i9, i10, i11].getD k (fun _ => 0), cyB, cyI, cyJ, cyP, hx, hb, hr, hml, hown, fun w hw => hts w (wsL_law__in w hw), hX, hbl, hlocks, ⟨?_, ?_⟩, ⟨?_, ?_⟩, hst, ?_, ?_, ⟨?_, ?_⟩, ?_, ?_⟩
  · intro k q hq
    match k, hq with
    | 0, hq => cases hq; exact h0
    | 1, hq => cases hq; exact h1
    | 2, hq => cases hq; exact h2
    | 3, hq => cases hq; exact h3
    | 4, hq => cases hq; exact h4
    | 5, hq => cases hq; exact h5
    | 6, hq => cases hq; exact h6
    | 7, hq => cases hq; exact h7
    | 8, hq => cases hq; exact h8
    | 9, hq => cases hq; exact h9
    | 10, hq => cases hq; exact h10
    | 11, hq => cases hq; exact h11
    | k + 12, hq => simp [vwCl] at hq
  · intro k q hq
    match k, hq with
    | 0, hq => cases hq; exact hB
    | 1, hq => cases hq; exact hI
    | 2, hq => cases hq; exact hJ
    | 3, hq => cases hq; exact hPp
    | k + 4, hq => simp [kT] at hq
  · exact fun q hq => va_Nw.of rfl (hts _ (ls_wordsN _ (List.mem_cons_of_mem _ (List.mem_map.mpr ⟨q, hq, rfl⟩))))
  · exact va_AO.of (hts _ (ls_wordsN _ (List.mem_of_getElem? (i := 0) rfl)))
  · exact vx_Zqof (hts _ (ls_wordsL _ (List.mem_of_getElem? (i := 3) rfl))) (hts _ (ls_wordsL _ (List.mem_of_getElem? (i := 5) rfl))) (hg _ (ls_wordsG _ (List.mem_of_getElem? (i := 0) rfl))) (fun a ha => Nat.not_le.mpr ha)
  · exact vx_Zqof (hts _ (ls_wordsL _ (List.mem_of_getElem? (i := 4) rfl))) (hts _ (ls_wordsL _ (List.mem_of_getElem? (i := 5) rfl))) (hg _ (ls_wordsG _ (List.mem_of_getElem? (i := 1) rfl))) (fun a ha => Nat.not_le.mpr ha)
  · exact fun y hy => va_Nw.of rfl (hts _ (ls_wordsB _ (List.mem_append_left _ (List.mem_map.mpr ⟨y, hy, rfl⟩))))
  · exact fun y hy => va_Nw.of rfl (hts _ (ls_wordsB _ (List.mem_append_right _ (List.mem_map.mpr ⟨y, hy, rfl⟩))))
  · exact fun q hq => ls_str h10.2.1 (hts _ (ls_wordsS _ (List.mem_map.mpr ⟨q, hq, rfl⟩)))
  · exact va_Nc.of (hg _ (ls_wordsG _ (List.mem_of_getElem? (i := 2) rfl)))
set_option maxHeartbeats 4000000 in
/-- a script that is too short: the law ends at once -/
theorem law_short {p : Program} {l : Launch} {e : Env} {s : State} {m : MethodId} {below : List Frame} {meth : Method} {c : Code} {b L : Nat} {xs : Nat → Int32} (hL : L ≤ 8) (hx : p.tables.exec = Jvm.exec) (hb : c.code = cL_law_) (hr : meth.sig.returnType = ret) (hlocks : meth.locks = false) (hX : va_X b L xs s s.heap) (hbl : b < s.heap.size) {A : Nat → Prop} (eA : A = (fun q : Nat => s.heap.size ≤ q)) {H : Heap} {locs : List Loc} {ls : Array Slot} {k n : Nat} (hS : va_S A s.heap H locs) (hl : lv_has ls 8 [(0, .ref b), (4, .int 0)]) (hk : k ≤ 600002) (hn : n ≤ 7302232) : W p l e room_1 s m #[Value.ref b] below meth c H locs k n (lw_Z below #[Value.ref b] s) (F0 m 23 ls []) := by
  have hbA : ¬ A b := by rw [eA]; exact Nat.not_le.mpr hbl
  refine lv_iload hx hb dL_law__23 (lv_at hl 1 rfl) ?_
  refine lv_aload_n hx hb dL_law__25 rfl (lv_at hl 0 rfl) ?_
  refine va_slen hx hb hX hbl hbA hS dL_law__26 ?_
  refine lv_bipush (v := 9) hx hb dL_law__27 (by decide) ?_
  refine lv_isub hx hb dL_law__29 ?_
  refine lv_icmp_gt (tgt := 2411) hx hb dL_law__30 (by decide) (fun _ => ?_) (fun c9 => absurd (by rcases (show L = 0 ∨ L = 1 ∨ L = 2 ∨ L = 3 ∨ L = 4 ∨ L = 5 ∨ L = 6 ∨ L = 7 ∨ L = 8 by omega) with rfl | rfl | rfl | rfl | rfl | rfl | rfl | rfl | rfl <;> decide) c9)
  refine va_forget (fun q hq => by have h9 := hS.2.2 q hq; rw [eA] at h9; exact h9) ?_
  refine W.widen (k := 600002) (n := 7302232) hk hn ?_
  refine lv_iconst (v := 1) hx hb dL_law__2411 (by decide) ?_
  exact lw_ret hx hb hr hlocks dL_law__2412
