def R_law : String := "MarchHaresLaw"
def lw_P (b : Addr) (xs : List Int32) (args : Array Value) (s : State) : Prop := args = #[.ref b] ∧ s.IntsAt b xs ∧ xs.length ≤ 4608 ∧ (Jvm.Cond.and given_1 narrow_1).before args s = true
def lw_Q (_ : Array Value) (s : State) (o : Outcome) (t : State) : Prop := o = .returned (some (.int 1)) ∧ Framed s o t [] 601024 7293034
def lw_Z (below : List Frame) (a : Array Value) (s : State) : State → Prop := fun t => ∃ o, t.status = .running ∧ Ended t below o ∧ lw_Q a s o t
theorem lw_ret {p : Program} {l : Launch} {e : Env} {s : State} {m : MethodId} {below : List Frame} {meth : Method} {c : Code} {b : Nat} (hx : p.tables.exec = Jvm.exec) (hb : c.code = code) (hr : meth.sig.returnType = ret) (hlocks : meth.locks = false) {pc : Nat} {H : Heap} {ls : Array Slot} (hdg : decode code pc = .ok (.ireturn, 1)) : W p l e room_1 s m #[Value.ref b] below meth c H [] 601024 7293034 (lw_Z below #[Value.ref b] s) (F0 m pc ls [.int 1]) := by
  intro T hT X
  obtain ⟨fs, hret, hrun, hended, hW, hframe⟩ := X.leave (v := some (.int 1)) (hlocks := hlocks) (fun h => by rw [hr] at h; cases h)
  have hmeth' : T.vm.method? m = some meth := X.method'
  refine ⟨T.setFrames fs, ?_, .returned (some (.int 1)), hrun, hended, rfl, ⟨_, rfl⟩, hW, hframe⟩
  jvm_step X.here [X.here.top, hx, hb, hdg, hmeth', hr, ret, narrow_b1]
  (try refine ⟨rfl, ?_⟩); (try refine ⟨rfl, ?_⟩)
  first | (intro acts; rw [hret _ acts rfl rfl rfl]) | rw [hret _ _ rfl rfl rfl]
  exact Steps.refl _
def lw_At (p : Program) (s : State) (m : MethodId) (meth : Method) (c : Code) (b L : Nat) (xs : NI) : Prop :=
  p.tables.exec = Jvm.exec ∧ c.code = code ∧ meth.sig.returnType = ret ∧ c.maxLocals = 8 ∧ s.vm.findClass R_law = some m.cls ∧ (∀ w ∈ lw_tbl, w.before #[Value.ref b] s = true) ∧ va_X b L xs s s.heap ∧ b < s.heap.size ∧ meth.locks = false ∧ (Jvm.Cond.and given_1 narrow_1).before #[Value.ref b] s = true
def lfz (L : Nat) (p : Program) (l : Launch) (s : State) (m : MethodId) (meth : Method) (c : Code) (b : Nat) (xs : NI) (D : va_G) (tys : List (ClassId × FieldType)) : Prop :=
  p.tables.exec = Jvm.exec ∧ c.code = cL_law_ ∧ meth.sig.returnType = ret ∧ c.maxLocals = 8 ∧ s.vm.findClass RL = some m.cls ∧ (∀ w ∈ wsL_law_, w.before #[Value.ref b] s = true) ∧ va_X b L xs s s.heap ∧ b < s.heap.size ∧ meth.locks = false ∧ va_K D vwCl tys s ∧ qJa s ∧ cfY l s (fun q : Nat => s.heap.size ≤ q)
theorem qa6E {s : State} {args : Array Value} {ty : FieldType} (hty : ∀ C, ty ≠ .object C) (h : (Cond.arrayClass ty).before args s = true) : ∃ cA : ClassId, ArrOfT s cA ty ∧ va_RA s cA ty := by
  obtain ⟨cA, kA, comp, h1, h2, h3⟩ := Cond.arrayClass_spec h
  refine ⟨cA, fun n z => ⟨fun k h => (by cases h), kA, h2, comp, h3⟩, ?_⟩
  cases ty with
  | object C => exact absurd rfl (hty C)
  | _ => exact h1
theorem qbgN {s : State} {args : Array Value} {C : String} (h : (Cond.arrayOver (.object C)).before args s = true) : ∃ cA : ClassId, ArrOfT s cA (.object C) ∧ va_RA s cA (.object C) := by
  obtain ⟨comp, cA, kA, h1, _, h3, h4, h5⟩ := Cond.arrayOver_spec h
  exact ⟨cA, fun n z => ⟨fun k h => (by cases h), kA, h3, comp, h4⟩, kA, comp, h3, h4, h1, h5⟩
theorem qbjo {s : State} {args : Array Value} {C tx : String} {k : Nat} {c : ClassId} (hc : s.vm.findClass C = some c) (h : (Cond.stringRef C k tx).before args s = true) : ∃ a, vk_R C k tx a s := by
  obtain ⟨_, _, _, a, _, _, _, _, _, e⟩ := Cond.stringRef_spec hc h
  exact ⟨a, vk_R.of h e⟩
theorem qQE : (∀ w ∈ [Cond.arrayClass .byte, .arrayClass .int, .arrayClass .long, .laysStatic Bundle.tN "UNASSIGNED_STACK" Bundle.steD, .laysStatic Bundle.tN "SUPPRESSED_SENTINEL" Bundle.listD, .initialized Bundle.tN], w ∈ lw_tbl) := by decide +kernel
theorem qaz6 : (∀ w ∈ (Cond.arrayOver (.object "MarchHares$Past")) :: nwL.map (fun q => Cond.methodLinkNest q.1 q.2.1 q.2.2 "MarchHares"), w ∈ lw_tbl) := by decide +kernel
theorem qaVJ : (∀ w ∈ xB, w ∈ lw_tbl) := by decide +kernel
theorem qa4Q : (∀ w ∈ xS.map (fun q => Cond.stringRef RX10 q.1 q.2), w ∈ lw_tbl) := by decide +kernel
theorem qavu : (∀ w ∈ [Cond.isRef (.static Bundle.tN "UNASSIGNED_STACK" Bundle.steD), .isRef (.static Bundle.tN "SUPPRESSED_SENTINEL" Bundle.listD), .not (.castable "java/lang/IllegalArgumentException" "java/util/NoSuchElementException")], w ∈ flatC (Jvm.Cond.and given_1 narrow_1)) := by decide +kernel
theorem qa8f : (∀ w ∈ vwCl.map (fun q => Cond.instantiable q.1 q.2.2), w ∈ lw_tbl) := by decide +kernel
theorem qbm5 {p : Program} {l : Launch} {s : State} {m : MethodId} {meth : Method} {c : Code} {b : Nat} {xs : Nat → Int32} {L : Nat} (hst : l.stackTraces = false) (C0 : lw_At p s m meth c b L xs) : ∃ (dC : Nat → ClassId) (dI : Nat → Nat → Nat) (cyB cyI cyJ cyP : ClassId), lfz L p l s m meth c b xs (dC, dI) (kT cyB cyI cyJ cyP) := by
  obtain ⟨hx, hb, hr, hml, hown, hts, hX, hbl, hlocks, hgv⟩ := C0
  have hg := flat_of_before _ hgv
  obtain ⟨cyB, hB⟩ := qa6E (ty := .byte) (fun _ h => nomatch h) (hts _ (qQE _ (List.mem_of_getElem? (i := 0) rfl)))
  obtain ⟨cyI, hI⟩ := qa6E (ty := .int) (fun _ h => nomatch h) (hts _ (qQE _ (List.mem_of_getElem? (i := 1) rfl)))
  obtain ⟨cyJ, hJ⟩ := qa6E (ty := .long) (fun _ h => nomatch h) (hts _ (qQE _ (List.mem_of_getElem? (i := 2) rfl)))
  obtain ⟨cyP, hPp⟩ := qbgN (hts _ (qaz6 _ (List.mem_of_getElem? (i := 0) rfl)))
  have hcl : ∀ (k : Nat) (q : vw_C), vwCl[k]? = some q → (∀ w ∈ u_ws q.1 q.2.1 q.2.2, w ∈ lw_tbl) → ∃ (cC : ClassId) (iS : Nat → Nat), u_Kn s q.1 q.2.1 q.2.2 cC iS := fun k q hq hin =>
    u_known hts hin (hts _ (qa8f _ (List.mem_map.mpr ⟨q, List.mem_of_getElem? hq, rfl⟩)))
  obtain ⟨k0, i0, h0⟩ := hcl 0 _ rfl inX0
  obtain ⟨k1, i1, h1⟩ := hcl 1 _ rfl inX1
  obtain ⟨k2, i2, h2⟩ := hcl 2 _ rfl inX2
  obtain ⟨k3, i3, h3⟩ := hcl 3 _ rfl inX3
  obtain ⟨k4, i4, h4⟩ := hcl 4 _ rfl inX4
  obtain ⟨k5, i5, h5⟩ := hcl 5 _ rfl inX5
  obtain ⟨k6, i6, h6⟩ := hcl 6 _ rfl inX6
  obtain ⟨k7, i7, h7⟩ := hcl 7 _ rfl inX7
  obtain ⟨k8, i8, h8⟩ := hcl 8 _ rfl inX8
  obtain ⟨k9, i9, h9⟩ := hcl 9 _ rfl inX9
  obtain ⟨k10, i10, h10⟩ := hcl 10 _ rfl inX10
  obtain ⟨k11, i11, h11⟩ := hcl 11 _ rfl inX11
  refine ⟨fun k => [k0, k1, k2, k3, k4, k5, k6, k7, k8, k9, k10, k11].getD k 0, fun k => [i0, i1, i2, i3, i4, i5, i6, i7, i8, i9, i10, i11].getD k (fun _ => 0), cyB, cyI, cyJ, cyP, hx, hb, hr, hml, hown, fun w hw => hts w (wsL_law__in w hw), hX, hbl, hlocks, ⟨?_, ?_⟩, ⟨?_, ?_⟩, hst, ?_, ?_, ⟨?_, ?_⟩, ?_, ?_⟩
  · intro k q hq
    match k, hq with
    | 0, hq => cases hq; exact h0
    | 1, hq => cases hq; exact h1
    | 2, hq => cases hq; exact h2
    | 3, hq => cases hq; exact h3
    | 4, hq => cases hq; exact h4
    | 5, hq => cases hq; exact h5
    | 6, hq => cases hq; exact h6
    | 7, hq => cases hq; exact h7
    | 8, hq => cases hq; exact h8
    | 9, hq => cases hq; exact h9
    | 10, hq => cases hq; exact h10
    | 11, hq => cases hq; exact h11
    | k + 12, hq => simp [vwCl] at hq
  · intro k q hq
    match k, hq with
    | 0, hq => cases hq; exact hB
    | 1, hq => cases hq; exact hI
    | 2, hq => cases hq; exact hJ
    | 3, hq => cases hq; exact hPp
    | k + 4, hq => simp [kT] at hq
  · exact fun q hq => va_Nw.of rfl (hts _ (qaz6 _ (List.mem_cons_of_mem _ (List.mem_map.mpr ⟨q, hq, rfl⟩))))
  · exact va_AO.of (hts _ (qaz6 _ (List.mem_of_getElem? (i := 0) rfl)))
  · exact vx_Zqof (hts _ (qQE _ (List.mem_of_getElem? (i := 3) rfl))) (hts _ (qQE _ (List.mem_of_getElem? (i := 5) rfl))) (hg _ (qavu _ (List.mem_of_getElem? (i := 0) rfl))) (fun a ha => Nat.not_le.mpr ha)
  · exact vx_Zqof (hts _ (qQE _ (List.mem_of_getElem? (i := 4) rfl))) (hts _ (qQE _ (List.mem_of_getElem? (i := 5) rfl))) (hg _ (qavu _ (List.mem_of_getElem? (i := 1) rfl))) (fun a ha => Nat.not_le.mpr ha)
  · exact fun y hy => va_Nw.of rfl (hts _ (qaVJ _ (List.mem_append_left _ (List.mem_map.mpr ⟨y, hy, rfl⟩))))
  · exact fun y hy => va_Nw.of rfl (hts _ (qaVJ _ (List.mem_append_right _ (List.mem_map.mpr ⟨y, hy, rfl⟩))))
  · exact fun q hq => qbjo h10.2.1 (hts _ (qa4Q _ (List.mem_map.mpr ⟨q, hq, rfl⟩)))
  · exact va_Nc.of (hg _ (qavu _ (List.mem_of_getElem? (i := 2) rfl)))
/-- the places of a call in the script -/
def qnR (i : Int32) (L : Nat) : Prop := 0 ≤ i.toInt ∧ i.toInt + 9 ≤ L ∧ L ≤ 4608
theorem qbD {i j : Int32} {L : Nat} (h : qnR i L) (hj : 0 ≤ j.toInt ∧ j.toInt < 9) : vp_in (i + j) L := by
  obtain ⟨h0, h1, h2⟩ := h
  have e : (i + j).toInt = i.toInt + j.toInt := qap (by omega) (by omega)
  exact qa6 (by omega) (by omega)
theorem qay {k : Nat} (h : k ≤ 601024) : k ≤ room_1.cells := h
theorem qax {k : Nat} (h : k ≤ 7293034) : k ≤ room_1.slots := h
/-- a world's known part laid in another order -/
theorem qzP {D : va_G} {cl : List vw_C} {Y X pl : va_W} {H : Heap} (h : va_P D cl (Y ++ pl) H) (is : List Nat) (hs : is.map (fun i => Y[i]?) = X.map some) : va_P D cl (X ++ pl) H := by
  intro k q hk
  by_cases z : k < X.length
  · rw [List.getElem?_append_left z] at hk
    have e : (X.map some)[k]? = some (some q) := by rw [List.getElem?_map, hk]; rfl
    rw [← hs, List.getElem?_map] at e
    obtain ⟨j, hj, e2⟩ := Option.map_eq_some_iff.mp e
    have hl : j < Y.length := (List.getElem?_eq_some_iff.mp e2).1
    exact h j q (by rw [List.getElem?_append_left hl]; exact e2)
  · rw [List.getElem?_append_right (by omega)] at hk
    exact h (Y.length + (k - X.length)) q (by rw [List.getElem?_append_right (by omega)]; rw [show Y.length + (k - X.length) - Y.length = k - X.length by omega]; exact hk)
theorem qzN {A : Nat → Prop} {Y X pl : va_W} (h : va_D A (Y ++ pl)) (is : List Nat) (hn : va_nd is = true) (hs : is.map (fun i => Y[i]?) = X.map some) : va_D A (X ++ pl) := by
  have hlen : is.length = X.length := by have := congrArg List.length hs; simpa using this
  have at_ : ∀ (k : Nat) (q : Nat × va_E), (X ++ pl)[k]? = some q → ∃ j : Nat, (Y ++ pl)[j]? = some q ∧ (k < X.length → is[k]? = some j ∧ j < Y.length) ∧ (¬ k < X.length → j = Y.length + (k - X.length)) := by
    intro k q hk
    by_cases z : k < X.length
    · rw [List.getElem?_append_left z] at hk
      have e : (X.map some)[k]? = some (some q) := by rw [List.getElem?_map, hk]; rfl
      rw [← hs, List.getElem?_map] at e
      obtain ⟨j, hj, e2⟩ := Option.map_eq_some_iff.mp e
      have hl : j < Y.length := (List.getElem?_eq_some_iff.mp e2).1
      exact ⟨j, by rw [List.getElem?_append_left hl]; exact e2, fun _ => ⟨hj, hl⟩, fun w => absurd z w⟩
    · rw [List.getElem?_append_right (by omega)] at hk
      refine ⟨Y.length + (k - X.length), ?_, fun w => absurd w z, fun _ => rfl⟩
      rw [List.getElem?_append_right (by omega), show Y.length + (k - X.length) - Y.length = k - X.length by omega]; exact hk
  refine ⟨fun i j p q hi hj e => ?_, fun k q hk => ?_⟩
  · obtain ⟨a, ha, a1, a2⟩ := at_ i p hi
    obtain ⟨b, hb, b1, b2⟩ := at_ j q hj
    have hab := h.1 a b p q ha hb e
    by_cases zi : i < X.length
    · by_cases zj : j < X.length
      · have e1 := (a1 zi).1
        have e2 := (b1 zj).1
        rw [hab] at e1
        exact va_nd_inj is hn i j b e1 e2
      · have := (a1 zi).2
        have := b2 zj
        omega
    · by_cases zj : j < X.length
      · have := (b1 zj).2
        have := a2 zi
        omega
      · have := a2 zi
        have := b2 zj
        omega
  · obtain ⟨a, ha, _⟩ := at_ k q hk
    exact h.2 a q ha
theorem qbmF {A : Nat → Prop} {ws ws' : va_W} (hD : va_D A ws) (is : List Nat) (hn : va_nd is = true) (hl : is.all (fun i => decide (i < ws.length)) = true) (hs : is.filterMap (fun i => ws[i]?) = ws') : va_D A ws' := by
  refine hD.sub is hn ?_
  rw [← hs]
  clear hs hn
  induction is with
  | nil => rfl
  | cons a l ih =>
    rw [List.all_cons, Bool.and_eq_true] at hl
    have ha : a < ws.length := of_decide_eq_true hl.1
    have e : ws[a]? = some ws[a] := List.getElem?_eq_getElem ha
    rw [List.map_cons, List.filterMap_cons, e]
    show some ws[a] :: _ = some ws[a] :: _
    rw [ih hl.2]
