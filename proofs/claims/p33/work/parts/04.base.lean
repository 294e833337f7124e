def nwL : List (String × Nat × MethodName) := [(RX10, 9, yX8_init), (RX10, 18, yX2_init), (RX10, 48, yX9_init), (RX10, 67, yX5_init), (RX10, 78, yX6_init), (RX10, 85, yX7_init), (RX10, 92, yX3_init), (RX0, 39, yX10_within), (RX1, 108, yX2_formsWithin), (RX1, 120, yX10_holds), (RX2, 114, yX10_holds), (RX3, 106, yX10_within), (RX3, 94, yX10_holds), (RX6, 38, yX10_holds), (RX7, 68, yX10_holds), (RX8, 79, yX10_within)]
/-- the links to private members of the nest -/
def qJa (U : State) : Prop := (∀ q ∈ nwL, va_Nw (.methodLinkNest q.1 q.2.1 q.2.2 "MarchHares") U) ∧ va_AO "MarchHares$Past" U
theorem qajb {s U : State} (hW : s.WarmedH U.vm) (h : qJa s) : qJa U := ⟨fun q hq => va_Nw.warmM hW (h.1 q hq), va_AO.moved hW.alike h.2⟩
theorem qakt {u U : State} (hv : u.vm = U.vm) (h : qJa u) : qJa U := ⟨fun q hq => va_Nw.same rfl hv (h.1 q hq), va_AO.moved (by rw [hv]; exact Vm.Alike.refl _) h.2⟩
/-- the array classes that the worlds hold -/
abbrev kT (cyB cyI cyJ cyP : ClassId) : List (ClassId × FieldType) := [(cyB, .byte), (cyI, .int), (cyJ, .long), (cyP, .object "MarchHares$Past")]
/-- what stays the same along a method's walk -/
def cfx (p : Program) (s : State) (m : MethodId) (args : Array Value) (meth : Method) (c : Code) (cc : ByteArray) (ret : Option FieldType) (ws : List Cond) (own : String) (nL : Nat) (A : Nat → Prop) (D : va_G) (tys : List (ClassId × FieldType)) : Prop :=
  p.tables.exec = Jvm.exec ∧ c.code = cc ∧ meth.sig.returnType = ret ∧ (∀ w ∈ ws, w.before args s = true) ∧ s.vm.findClass own = some m.cls ∧ meth.locks = false ∧ c.maxLocals = nL ∧ (∀ q : Nat, s.heap.size ≤ q → A q) ∧ va_K D vwCl tys s ∧ qJa s
/-- a method's start: the cells W and nothing else -/
def cPc (D : va_G) (tys : List (ClassId × FieldType)) (W : va_W) (sz : Nat) : State → Prop := fun U => U.heap.size = sz ∧ va_P D vwCl W U.heap ∧ va_K D vwCl tys U ∧ va_D (fun _ => True) W ∧ qJa U
theorem qab {av : List Value} {D : va_G} {tys : List (ClassId × FieldType)} {W : va_W} {sz : Nat} : FrameBlind (va_Pc av (cPc D tys W sz)) := fun a U g mk q => by
  obtain ⟨q0, q1, qP, qK, qD, qN⟩ := q
  exact ⟨q0, q1, qP, va_K.moved (u := U) (U := U.calling g mk a) (Vm.Alike.refl U.vm) qK, qD, qakt (u := U) rfl qN⟩
theorem qae {s : State} {H : Heap} {av : List Value} {D : va_G} {tys : List (ClassId × FieldType)} {W : va_W} {A : Nat → Prop} (hP : va_P D vwCl W H) (hK : va_K D vwCl tys s) (hD : va_D A W) (hN : qJa s) : ∀ U : State, U.heap = H → s.WarmedH U.vm → va_Pc av (cPc D tys W H.size) av.toArray U :=
  fun U hU hW => ⟨rfl, by rw [hU], by rw [hU]; exact hP, va_K.moved hW.alike hK, hD.weaken (fun _ _ _ _ => trivial), qajb hW hN⟩
/-- a method's end: the cells, as u has them -/
abbrev cB (D : va_G) (tys : List (ClassId × FieldType)) (A : Nat → Prop) {S : Type} (Wf : S → va_W) : S → State → Prop := fun u t => va_P D vwCl (Wf u) t.heap ∧ va_K D vwCl tys t ∧ va_D A (Wf u)
theorem vin {i : Int32} {n : Nat} (h : (decide (i < 0) || decide (n ≤ i.toNatClampNeg)) = false) : vp_in i n := by
  simp only [Bool.or_eq_false_iff, decide_eq_false_iff_not] at h
  exact fun h2 => h2.elim h.1 h.2
/-! what a throw needs beyond the words of the method -/
def xD : List MethodName := [Bundle.initS "java/lang/RuntimeException", Bundle.initS "java/lang/Exception", Bundle.initS Bundle.tN]
def xC : List String := ["java/lang/IllegalArgumentException", "java/util/NoSuchElementException"]
def xB : List Cond := xD.map (fun y => Cond.declares y) ++ xC.map (fun c => Cond.castable c c)
def xS : List (Nat × String) := [(401, "no such form"), (403, "no such hare"), (266, "no such fox"), (407, "an argument is none such")]
def xDC (U : State) : Prop := (∀ y ∈ xD, va_Nw (.declares y) U) ∧ ∀ c ∈ xC, va_Nw (.castable c c) U
def xSt (U : State) : Prop := ∀ q ∈ xS, ∃ a, vk_R RX10 q.1 q.2 a U
theorem qa1a {s : State} {args : Array Value} (h : xDC s) : ∀ w ∈ xB, w.before args s = true := fun w hw => by
  rcases List.mem_append.mp hw with h1 | h1
  · obtain ⟨y, hy, rfl⟩ := List.mem_map.mp h1
    exact va_Nw.use rfl (h.1 y hy)
  · obtain ⟨y, hy, rfl⟩ := List.mem_map.mp h1
    exact va_Nw.use rfl (h.2 y hy)
theorem qbb6 {s U : State} (hW : s.WarmedH U.vm) (h : xDC s) : xDC U := ⟨fun y hy => va_Nw.warmD hW (h.1 y hy), fun c hc => va_Nw.warmC hW (h.2 c hc)⟩
theorem qbcm {u U : State} (hv : u.vm = U.vm) (h : xDC u) : xDC U := ⟨fun y hy => va_Nw.same rfl hv (h.1 y hy), fun c hc => va_Nw.same rfl hv (h.2 c hc)⟩
theorem qbb2 {s U : State} (hW : s.WarmedH U.vm) (h : xSt s) : xSt U := fun q hq => (h q hq).elim (fun a ha => ⟨a, vk_R.warm hW ha⟩)
theorem qbbk {u U : State} (hv : U.vm = u.vm) (h : xSt u) : xSt U := fun q hq => (h q hq).elim (fun a ha => ⟨a, vk_R.same hv ha⟩)
abbrev xNc (U : State) : Prop := va_Nc "java/lang/IllegalArgumentException" "java/util/NoSuchElementException" U
def cfY (l : Launch) (s : State) (A : Nat → Prop) : Prop := l.stackTraces = false ∧ vx_Zq Bundle.tN "UNASSIGNED_STACK" Bundle.steD A s s.heap ∧ vx_Zq Bundle.tN "SUPPRESSED_SENTINEL" Bundle.listD A s s.heap ∧ xDC s ∧ xSt s ∧ xNc s
def cfX (l : Launch) (s : State) (c : Code) (A : Nat → Prop) : Prop := (∀ x ∈ c.exceptionTable.toList, False) ∧ cfY l s A
def cPx (l : Launch) (D : va_G) (tys : List (ClassId × FieldType)) (W : va_W) (sz : Nat) : State → Prop := fun U => U.heap.size = sz ∧ va_P D vwCl W U.heap ∧ va_K D vwCl tys U ∧ va_D (fun _ => True) W ∧ qJa U ∧ l.stackTraces = false ∧ vx_Zq Bundle.tN "UNASSIGNED_STACK" Bundle.steD (va_A W sz) U U.heap ∧ vx_Zq Bundle.tN "SUPPRESSED_SENTINEL" Bundle.listD (va_A W sz) U U.heap ∧ xDC U ∧ xSt U ∧ xNc U
theorem qav {l : Launch} {av : List Value} {D : va_G} {tys : List (ClassId × FieldType)} {W : va_W} {sz : Nat} : FrameBlind (va_Pc av (cPx l D tys W sz)) := fun a U g mk q => by
  obtain ⟨q0, q1, qP, qK, qD, qN, qL, qU, qS, qX, qT, qC⟩ := q
  exact ⟨q0, q1, qP, va_K.moved (u := U) (U := U.calling g mk a) (Vm.Alike.refl U.vm) qK, qD, qakt (u := U) rfl qN, qL, vx_Zq.moved (u := U) (U := U.calling g mk a) (Vm.Alike.refl U.vm) qU, vx_Zq.moved (u := U) (U := U.calling g mk a) (Vm.Alike.refl U.vm) qS, qbcm (u := U) rfl qX, qbbk (u := U) rfl qT, va_Nc.moved (u := U) (U := U.calling g mk a) (Vm.Alike.refl U.vm) qC⟩
theorem qbl {l : Launch} {s : State} {H : Heap} {locs : List Loc} {av : List Value} {D : va_G} {tys : List (ClassId × FieldType)} {W : va_W} {A : Nat → Prop} (hP : va_P D vwCl W H) (hK : va_K D vwCl tys s) (hD : va_D A W) (hN : qJa s) (hX : cfY l s A) (hS : va_S A s.heap H locs) (hF : ∀ q, va_A W H.size q → A q) : ∀ U : State, U.heap = H → s.WarmedH U.vm → va_Pc av (cPx l D tys W H.size) av.toArray U :=
  fun U hU hW => ⟨rfl, by rw [hU], by rw [hU]; exact hP, va_K.moved hW.alike hK, hD.weaken (fun _ _ _ _ => trivial), qajb hW hN, hX.1, by rw [hU]; exact vx_Zq.moved hW.alike ((hX.2.1.kept hS.2.1).narrow hF), by rw [hU]; exact vx_Zq.moved hW.alike ((hX.2.2.1.kept hS.2.1).narrow hF), qbb6 hW hX.2.2.2.1, qbb2 hW hX.2.2.2.2.1, va_Nc.moved hW.alike hX.2.2.2.2.2⟩
theorem qau3 {A : Nat → Prop} {s t : State} {H : Heap} {locs : List Loc} (hS : va_S A s.heap H locs) (hz : H.size ≤ t.heap.size) (hq : ∀ q : Nat, q < H.size → t.heap[q]? = H[q]?) : va_F A s t :=
  ⟨Nat.le_trans hS.1 hz, fun q h1 h2 => by rw [hq q (Nat.lt_of_lt_of_le h1 hS.1)]; exact hS.2.1 q h1 h2⟩
def qgi (a b c : Nat) : Nat → Option Nat := va_up (va_up (va_up (fun _ => none) (0 : Int32).toNatClampNeg (some a)) (1 : Int32).toNatClampNeg (some b)) (2 : Int32).toNatClampNeg (some c)
theorem in3 {i : Int32} (h : vp_in i 3) : i = 0 ∨ i = 1 ∨ i = 2 := by
  obtain ⟨j, hj, rfl⟩ := vp_in_of h (by decide)
  rcases (show j = 0 ∨ j = 1 ∨ j = 2 by omega) with rfl | rfl | rfl
  · exact Or.inl (by decide)
  · exact Or.inr (Or.inl (by decide))
  · exact Or.inr (Or.inr (by decide))
/-- a list of addresses as a function -/
def adr (l : List Nat) : Nat → Nat := fun k => l.getD k 0
theorem qbht {D : va_G} {cl : List vw_C} {cyB cyI cyJ cyP cA : ClassId} {s : State} (h : va_K D cl (kT cyB cyI cyJ cyP ++ [(cA, .byte)]) s) : cyB = cA := Option.some.inj ((h.2 0 _ rfl).2.symm.trans (h.2 4 _ rfl).2)
theorem qk2 {D : va_G} {cl : List vw_C} {cyB cyI cyJ cyP cA : ClassId} {s : State} (h : va_K D cl (kT cyB cyI cyJ cyP ++ [(cA, .int)]) s) : cyI = cA := Option.some.inj ((h.2 1 _ rfl).2.symm.trans (h.2 4 _ rfl).2)
theorem qbar {D : va_G} {cl : List vw_C} {cyB cyI cyJ cyP cA : ClassId} {s : State} (h : va_K D cl (kT cyB cyI cyJ cyP ++ [(cA, .long)]) s) : cyJ = cA := Option.some.inj ((h.2 2 _ rfl).2.symm.trans (h.2 4 _ rfl).2)
theorem qbhq {D : va_G} {cl : List vw_C} {cyB cyI cyJ cyP cA : ClassId} {s : State} (h : va_K D cl (kT cyB cyI cyJ cyP ++ [(cA, .object "MarchHares$Past")]) s) : cyP = cA := by
  obtain ⟨k1, c1, -, -, -, e1⟩ := (h.2 3 _ rfl).2
  obtain ⟨k2, c2, -, -, -, e2⟩ := (h.2 4 _ rfl).2
  exact Option.some.inj (e1.symm.trans e2)
theorem qaw0 {x : Int32} (h : ¬ (x.toInt < 0 ∨ 2 < x.toInt)) : x = 0 ∨ x = 1 ∨ x = 2 := by
  obtain ⟨j, hj, e⟩ := nI_of (x := x) (fun h0 => h (Or.inl (by simpa using (Int32.lt_iff_toInt_lt.mp h0))))
  have h2 : (j : Int) ≤ 2 := by
    have := nI_toInt hj
    rw [e] at h
    omega
  have h3 : j = 0 ∨ j = 1 ∨ j = 2 := by omega
  rw [e]
  rcases h3 with rfl | rfl | rfl <;> decide
theorem qbbo {x : Int32} (h : ¬ (x.toInt < 0 ∨ 37 < x.toInt)) : x = 0 ∨ x = 1 ∨ x = 2 ∨ x = 3 ∨ x = 4 ∨ x = 5 ∨ x = 6 ∨ x = 7 ∨ x = 8 ∨ x = 9 ∨ x = 10 ∨ x = 11 ∨ x = 12 ∨ x = 13 ∨ x = 14 ∨ x = 15 ∨ x = 16 ∨ x = 17 ∨ x = 18 ∨ x = 19 ∨ x = 20 ∨ x = 21 ∨ x = 22 ∨ x = 23 ∨ x = 24 ∨ x = 25 ∨ x = 26 ∨ x = 27 ∨ x = 28 ∨ x = 29 ∨ x = 30 ∨ x = 31 ∨ x = 32 ∨ x = 33 ∨ x = 34 ∨ x = 35 ∨ x = 36 ∨ x = 37 := by
  obtain ⟨j, hj, e⟩ := nI_of (x := x) (fun h0 => h (Or.inl (by simpa using (Int32.lt_iff_toInt_lt.mp h0))))
  have h2 : (j : Int) ≤ 37 := by
    have := nI_toInt hj
    rw [e] at h
    omega
  have h3 : j = 0 ∨ j = 1 ∨ j = 2 ∨ j = 3 ∨ j = 4 ∨ j = 5 ∨ j = 6 ∨ j = 7 ∨ j = 8 ∨ j = 9 ∨ j = 10 ∨ j = 11 ∨ j = 12 ∨ j = 13 ∨ j = 14 ∨ j = 15 ∨ j = 16 ∨ j = 17 ∨ j = 18 ∨ j = 19 ∨ j = 20 ∨ j = 21 ∨ j = 22 ∨ j = 23 ∨ j = 24 ∨ j = 25 ∨ j = 26 ∨ j = 27 ∨ j = 28 ∨ j = 29 ∨ j = 30 ∨ j = 31 ∨ j = 32 ∨ j = 33 ∨ j = 34 ∨ j = 35 ∨ j = 36 ∨ j = 37 := by omega
  rw [e]
  rcases h3 with rfl | rfl | rfl | rfl | rfl | rfl | rfl | rfl | rfl | rfl | rfl | rfl | rfl | rfl | rfl | rfl | rfl | rfl | rfl | rfl | rfl | rfl | rfl | rfl | rfl | rfl | rfl | rfl | rfl | rfl | rfl | rfl | rfl | rfl | rfl | rfl | rfl | rfl <;> decide
