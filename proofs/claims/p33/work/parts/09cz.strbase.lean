/-! String constants -/
def zS (n : Nat) (b : NI) (a : Nat) (A : Nat → Prop) (U : State) (H : Heap) : Prop := ∃ v, va_O "java/lang/String" a A U H ∧ va_OF "java/lang/String" "coder" "B" (.int 0) a A U H ∧ va_OF "java/lang/String" "value" "[B" (.ref v) a A U H ∧ va_T .byte v n (fun j => .int (b j)) A U H
def zJ (A : Nat → Prop) (U : State) (H : Heap) : Prop := va_Z "java/lang/String" "COMPACT_STRINGS" "Z" (.int 1) A U H ∧ va_Zq "jdk/internal/util/Preconditions" "SIOOBE_FORMATTER" "Ljava/util/function/BiFunction;" A U H
/-- what may stand in an environment -/
def zG (F : (Nat → Prop) → State → Heap → Prop) : Prop := (∀ (A : Nat → Prop) (s U : State) (H : Heap), s.WarmedH U.vm → F A s H → F A U H) ∧ (∀ (A : Nat → Prop) (u U : State) (H : Heap), U.vm = u.vm → F A u H → F A U H) ∧ (∀ (A : Nat → Prop) (U : State) (H H1 : Heap), (∀ a : Nat, a < H.size → ¬ A a → H1[a]? = H[a]?) → F A U H → F A U H1) ∧ (∀ (A B : Nat → Prop) (U : State) (H : Heap), (∀ q, B q → A q) → F A U H → F B U H)
theorem qa3V {F G : (Nat → Prop) → State → Heap → Prop} (hF : zG F) (hG : zG G) : zG (fun A U H => F A U H ∧ G A U H) :=
  ⟨fun A s U H hW h => ⟨hF.1 A s U H hW h.1, hG.1 A s U H hW h.2⟩, fun A u U H hv h => ⟨hF.2.1 A u U H hv h.1, hG.2.1 A u U H hv h.2⟩, fun A U H H1 hq h => ⟨hF.2.2.1 A U H H1 hq h.1, hG.2.2.1 A U H H1 hq h.2⟩, fun A B U H hq h => ⟨hF.2.2.2 A B U H hq h.1, hG.2.2.2 A B U H hq h.2⟩⟩
theorem zA {u U : State} (h : U.vm = u.vm) : u.vm.Alike U.vm := by rw [h]; exact Vm.Alike.refl _
theorem zS_m {n : Nat} {b : Nat → Int32} {a : Nat} {A : Nat → Prop} {u U : State} {H : Heap} (hvm : u.vm.Alike U.vm) (h : zS n b a A u H) : zS n b a A U H := by
  obtain ⟨v, h1, h2, h3, h4⟩ := h
  exact ⟨v, va_O.moved hvm h1, va_OF.moved hvm h2, va_OF.moved hvm h3, va_T.moved hvm h4⟩
theorem zS_G {n : Nat} {b : Nat → Int32} {a : Nat} : zG (zS n b a) :=
  ⟨fun A s U H hW h => zS_m hW.alike h, fun A u U H hv h => zS_m (zA hv) h,
   fun A U H H1 hq h => by obtain ⟨v, h1, h2, h3, h4⟩ := h; exact ⟨v, h1.kept hq, h2.kept hq, h3.kept hq, h4.kept hq⟩,
   fun A B U H hq h => by obtain ⟨v, h1, h2, h3, h4⟩ := h; exact ⟨v, h1.narrow hq, h2.narrow hq, h3.narrow hq, h4.narrow hq⟩⟩
theorem zJ_m {A : Nat → Prop} {u U : State} {H : Heap} (hvm : u.vm.Alike U.vm) (h : zJ A u H) : zJ A U H := ⟨va_Z.moved hvm h.1, va_Zq.moved hvm h.2⟩
theorem zJ_G : zG zJ :=
  ⟨fun A s U H hW h => zJ_m hW.alike h, fun A u U H hv h => zJ_m (zA hv) h, fun A U H H1 hq h => ⟨h.1.kept hq, h.2.kept hq⟩, fun A B U H hq h => ⟨h.1.narrow hq, h.2.narrow hq⟩⟩
theorem zT_G {v n : Nat} {f : Nat → Value} : zG (va_T .byte v n f) :=
  ⟨fun A s U H hW h => va_T.moved hW.alike h, fun A u U H hv h => va_T.moved (zA hv) h, fun A U H H1 hq h => va_T.kept h hq, fun A B U H hq h => va_T.narrow h hq⟩
theorem z0_G : zG (fun _ _ _ => True) := ⟨fun _ _ _ _ _ _ => trivial, fun _ _ _ _ _ _ => trivial, fun _ _ _ _ _ _ => trivial, fun _ _ _ _ _ _ => trivial⟩
def zQ (n : Nat) (b : NI) (a : Nat) : (Nat → Prop) → State → Heap → Prop := fun A U H => zS n b a A U H ∧ zJ A U H
theorem zQ_G {n : Nat} {b : Nat → Int32} {a : Nat} : zG (zQ n b a) := qa3V zS_G zJ_G
def zV (v n : Nat) (b : NI) : (Nat → Prop) → State → Heap → Prop := fun A U H => va_T .byte v n (fun j => .int (b j)) A U H ∧ zJ A U H
theorem zV_G {v n : Nat} {b : Nat → Int32} : zG (zV v n b) := qa3V zT_G zJ_G
/-- a start without cells, over an environment -/
def cPe (F : (Nat → Prop) → State → Heap → Prop) (D : va_G) (tys : List (ClassId × FieldType)) (sz : Nat) : State → Prop := fun U => cPc D tys [] sz U ∧ F (va_A [] sz) U U.heap
theorem qBL {F : (Nat → Prop) → State → Heap → Prop} (hG : zG F) {av : List Value} {D : va_G} {tys : List (ClassId × FieldType)} {sz : Nat} : FrameBlind (va_Pc av (cPe F D tys sz)) := fun a U g mk q => by
  obtain ⟨q0, ⟨q1, qP, qK, qD, qN⟩, qF⟩ := q
  exact ⟨q0, ⟨q1, qP, va_K.moved (u := U) (U := U.calling g mk a) (Vm.Alike.refl U.vm) qK, qD, qakt (u := U) rfl qN⟩, hG.2.1 _ U (U.calling g mk a) U.heap rfl qF⟩
theorem qQ2 {F : (Nat → Prop) → State → Heap → Prop} (hG : zG F) {s : State} {H : Heap} {locs : List Loc} {av : List Value} {D : va_G} {tys : List (ClassId × FieldType)} {A : Nat → Prop} (hP : va_P D vwCl [] H) (hK : va_K D vwCl tys s) (hD : va_D A []) (hN : qJa s) (hE : F A s s.heap) (hS : va_S A s.heap H locs) (hF : ∀ q, va_A [] H.size q → A q) : ∀ U : State, U.heap = H → s.WarmedH U.vm → va_Pc av (cPe F D tys H.size) av.toArray U :=
  fun U hU hW => ⟨rfl, ⟨by rw [hU], by rw [hU]; exact hP, va_K.moved hW.alike hK, hD.weaken (fun _ _ _ _ => trivial), qajb hW hN⟩, by rw [hU]; exact hG.1 _ s U H hW (hG.2.2.2 A _ s H hF (hG.2.2.1 A s s.heap H hS.2.1 hE))⟩
/-- a start with cells and all that a throw needs, over an environment -/
def cPs (F : (Nat → Prop) → State → Heap → Prop) (l : Launch) (D : va_G) (tys : List (ClassId × FieldType)) (W : va_W) (sz : Nat) : State → Prop := fun U => cPx l D tys W sz U ∧ F (va_A W sz) U U.heap
theorem qat {F : (Nat → Prop) → State → Heap → Prop} (hG : zG F) {l : Launch} {av : List Value} {D : va_G} {tys : List (ClassId × FieldType)} {W : va_W} {sz : Nat} : FrameBlind (va_Pc av (cPs F l D tys W sz)) := fun a U g mk q => by
  obtain ⟨q0, q1, qF⟩ := q
  exact ⟨q0, (qav (l := l) (av := av) (D := D) (tys := tys) (W := W) (sz := sz) a U g mk ⟨q0, q1⟩).2, hG.2.1 _ U (U.calling g mk a) U.heap rfl qF⟩
theorem qbg {F : (Nat → Prop) → State → Heap → Prop} (hG : zG F) {l : Launch} {s : State} {H : Heap} {locs : List Loc} {av : List Value} {D : va_G} {tys : List (ClassId × FieldType)} {W : va_W} {A : Nat → Prop} (hP : va_P D vwCl W H) (hK : va_K D vwCl tys s) (hD : va_D A W) (hN : qJa s) (hX : cfY l s A) (hE : F A s s.heap) (hS : va_S A s.heap H locs) (hF : ∀ q, va_A W H.size q → A q) : ∀ U : State, U.heap = H → s.WarmedH U.vm → va_Pc av (cPs F l D tys W H.size) av.toArray U :=
  fun U hU hW => ⟨rfl, (qbl (av := av) hP hK hD hN hX hS hF U hU hW).2, by rw [hU]; exact hG.1 _ s U H hW (hG.2.2.2 A _ s H hF (hG.2.2.1 A s s.heap H hS.2.1 hE))⟩
theorem qaad {n : Nat} {b : Nat → Int32} {a : Nat} {A : Nat → Prop} {s : State} {H : Heap} {locs : List Loc} (hE : zS n b a A s s.heap) (hS : va_S A s.heap H locs) : ∃ cell : Cell, H[a]? = some cell ∧ cell.vm.isStatics = false ∧ s.vm.findClass RJ0 = some cell.cls := by
  obtain ⟨v, h1, -, -, -⟩ := hE
  obtain ⟨cell, q1, q2, q3, -⟩ := h1.kept hS.2.1
  exact ⟨cell, q1, q2, q3⟩

theorem q2G : (.fieldLink RJ0 38 "java/lang/String" "COMPACT_STRINGS" "Z" : Cond) ∈ wsJ0_coder_7d493 := qYP 833 (by decide +kernel)
theorem q2J : (.fieldLink RJ0 15 "java/lang/String" "coder" "B" : Cond) ∈ wsJ0_coder_7d493 := qYP 834 (by decide +kernel)
set_option maxHeartbeats 4000000 in
set_option maxRecDepth 100000 in
theorem qaX8 (l : Launch) (dC : Nat → ClassId) (dI : Nat → Nat → Nat) (cyB cyI cyJ cyP : ClassId) (a sz n : Nat) (b : NI) {Q : Int32 → Prop} (hw : Q 0) : Met l yJ0_coder_7d493 wsJ0_coder_7d493 ({ frames := 0, cells := 0, slots := 0, locals := 0 }) (va_Pc [.ref a] (cPe (zQ n b a) (dC, dI) (kT cyB cyI cyJ cyP) sz)) (va_Qi (fun (r : Int32) (_ : Unit) => Q r ) (cB (dC, dI) (kT cyB cyI cyJ cyP) (va_A [] sz) (fun u : Unit => ([] : va_W))) (va_A [] sz)) 0 0 (va_A [] sz) := by
  refine Met.ofW (cc := cJ0_coder_7d493) (maxL := 1) (ret := (some .byte)) (by decide) rfl ?_
  intro p e s m args below meth c s₁ B hml hv
  obtain ⟨rfl, ⟨hsz, hP, hK, hD0, hNw⟩, hE⟩ := hv
  have hx := B.exec
  have hb := B.bytes
  have hr := B.returns
  have hts := atoms_spec (ws := wsJ0_coder_7d493) B.pre
  have hown : s.vm.findClass RJ0 = some m.cls := findClass_of_methodNamed B.named
  have hlocks := B.notSynchronized
  subst hsz
  have hD := hD0.self (sz := s.heap.size)
  generalize hAe : va_A [] s.heap.size = A at hD hE ⊢
  have hA : ∀ q : Nat, s.heap.size ≤ q → A q := fun q h => by rw [← hAe]; exact Or.inr h
  have hP : va_P (dC, dI) vwCl [] s.heap := hP
  have hl := lv_entry ([.ref a]) (n := 1) (nbq rfl)
  rw [lg_entry_eq]
  generalize (lg_sl ([.ref a]) ++ List.replicate (1 - (lg_sl ([.ref a])).length) Slot.unset).toArray = ls at hl ⊢
  have hl : lv_has ls 1 [(0, .ref a)] := hl
  clear hAe
  obtain ⟨H, hH⟩ : ∃ H, H = s.heap := ⟨_, rfl⟩
  rw [← hH] at hP ⊢
  have hS : va_S A s.heap H [] := by rw [hH]; exact va_S.rf
  obtain ⟨⟨v, hO, hC, hV, hT⟩, hJ1, hJ2⟩ := id hE
  refine va_gets hx hb hJ1 hS hown (hts _ q2G) (fun _ h9 => h9) (qaa qs4 0 rfl) ?_
  refine lv_if_eq (tgt := 13) hx hb (qaa qs4 1 rfl) (by decide) (fun c9 => absurd c9 (by decide)) (fun _ => ?_)
  refine lv_aload_n hx hb (qaa qs4 2 rfl) rfl (lv_at hl 0 rfl) ?_
  refine vk_getf hx hb hC hS hown (hts _ q2J) (fun _ h9 => h9) (qaa qs4 3 rfl) ?_
  refine lv_goto (tgt := 14) hx hb (qaa qs4 4 rfl) (by decide) ?_
  exact ((W.zret (v := 0) hx hb hr rfl (fun t ht hW => ⟨⟨0, (), rfl, hw, by rw [ht]; exact hP, va_K.moved hW.alike hK, hD⟩, hS.F ht⟩) hS.2.2 (qaa qs4 6 rfl)))
theorem qVS : (.fieldLink RJ0 38 "java/lang/String" "COMPACT_STRINGS" "Z" : Cond) ∈ wsJ0_isLatin1_aae02 := qQD 833 (by decide +kernel)
theorem qVV : (.fieldLink RJ0 15 "java/lang/String" "coder" "B" : Cond) ∈ wsJ0_isLatin1_aae02 := qQD 834 (by decide +kernel)
set_option maxHeartbeats 4000000 in
set_option maxRecDepth 100000 in
theorem qaJE (l : Launch) (dC : Nat → ClassId) (dI : Nat → Nat → Nat) (cyB cyI cyJ cyP : ClassId) (a sz n : Nat) (b : NI) {Q : Int32 → Prop} (hw : Q 1) : Met l yJ0_isLatin1_aae02 wsJ0_isLatin1_aae02 ({ frames := 0, cells := 0, slots := 0, locals := 0 }) (va_Pc [.ref a] (cPe (zQ n b a) (dC, dI) (kT cyB cyI cyJ cyP) sz)) (va_Qi (fun (r : Int32) (_ : Unit) => Q r ) (cB (dC, dI) (kT cyB cyI cyJ cyP) (va_A [] sz) (fun u : Unit => ([] : va_W))) (va_A [] sz)) 0 0 (va_A [] sz) := by
  refine Met.ofW (cc := cJ0_isLatin1_aae02) (maxL := 1) (ret := (some .boolean)) (by decide) rfl ?_
  intro p e s m args below meth c s₁ B hml hv
  obtain ⟨rfl, ⟨hsz, hP, hK, hD0, hNw⟩, hE⟩ := hv
  have hx := B.exec
  have hb := B.bytes
  have hr := B.returns
  have hts := atoms_spec (ws := wsJ0_isLatin1_aae02) B.pre
  have hown : s.vm.findClass RJ0 = some m.cls := findClass_of_methodNamed B.named
  have hlocks := B.notSynchronized
  subst hsz
  have hD := hD0.self (sz := s.heap.size)
  generalize hAe : va_A [] s.heap.size = A at hD hE ⊢
  have hA : ∀ q : Nat, s.heap.size ≤ q → A q := fun q h => by rw [← hAe]; exact Or.inr h
  have hP : va_P (dC, dI) vwCl [] s.heap := hP
  have hl := lv_entry ([.ref a]) (n := 1) (nbq rfl)
  rw [lg_entry_eq]
  generalize (lg_sl ([.ref a]) ++ List.replicate (1 - (lg_sl ([.ref a])).length) Slot.unset).toArray = ls at hl ⊢
  have hl : lv_has ls 1 [(0, .ref a)] := hl
  clear hAe
  obtain ⟨H, hH⟩ : ∃ H, H = s.heap := ⟨_, rfl⟩
  rw [← hH] at hP ⊢
  have hS : va_S A s.heap H [] := by rw [hH]; exact va_S.rf
  obtain ⟨⟨v, hO, hC, hV, hT⟩, hJ1, hJ2⟩ := id hE
  refine va_gets hx hb hJ1 hS hown (hts _ qVS) (fun _ h9 => h9) (qaa qlk 0 rfl) ?_
  refine lv_if_eq (tgt := 17) hx hb (qaa qlk 1 rfl) (by decide) (fun c9 => absurd c9 (by decide)) (fun _ => ?_)
  refine lv_aload_n hx hb (qaa qlk 2 rfl) rfl (lv_at hl 0 rfl) ?_
  refine vk_getf hx hb hC hS hown (hts _ qVV) (fun _ h9 => h9) (qaa qlk 3 rfl) ?_
  refine lv_if_ne (tgt := 17) hx hb (qaa qlk 4 rfl) (by decide) (fun c9 => absurd rfl c9) (fun _ => ?_)
  refine lv_iconst (v := 1) hx hb (qaa qlk 5 rfl) (by decide) ?_
  refine lv_goto (tgt := 18) hx hb (qaa qlk 6 rfl) (by decide) ?_
  exact ((W.zret (v := 1) hx hb hr rfl (fun t ht hW => ⟨⟨1, (), rfl, hw, by rw [ht]; exact hP, va_K.moved hW.alike hK, hD⟩, hS.F ht⟩) hS.2.2 (qaa qlk 8 rfl)))
theorem q4a : (.fieldLink RJ0 9 "java/lang/String" "value" "[B" : Cond) ∈ wsJ0_length_8abf5 := qJz 788 (by decide +kernel)
set_option maxHeartbeats 4000000 in
set_option maxRecDepth 100000 in
theorem q4o (l : Launch) (dC : Nat → ClassId) (dI : Nat → Nat → Nat) (cyB cyI cyJ cyP : ClassId) (a sz n : Nat) (b : NI) {Q : Int32 → Prop} (hw : qGG n Q) : Met l yJ0_length_8abf5 wsJ0_length_8abf5 ({ frames := 1, cells := 0, slots := 0, locals := 20 }) (va_Pc [.ref a] (cPe (zQ n b a) (dC, dI) (kT cyB cyI cyJ cyP) sz)) (va_Qi (fun (r : Int32) (_ : Unit) => Q r ) (cB (dC, dI) (kT cyB cyI cyJ cyP) (va_A [] sz) (fun u : Unit => ([] : va_W))) (va_A [] sz)) 0 0 (va_A [] sz) := by
  refine Met.ofW (cc := cJ0_length_8abf5) (maxL := 1) (ret := (some .int)) (by decide) rfl ?_
  intro p e s m args below meth c s₁ B hml hv
  obtain ⟨rfl, ⟨hsz, hP, hK, hD0, hNw⟩, hE⟩ := hv
  have hx := B.exec
  have hb := B.bytes
  have hr := B.returns
  have hts := atoms_spec (ws := wsJ0_length_8abf5) B.pre
  have hown : s.vm.findClass RJ0 = some m.cls := findClass_of_methodNamed B.named
  have hlocks := B.notSynchronized
  subst hsz
  have hD := hD0.self (sz := s.heap.size)
  generalize hAe : va_A [] s.heap.size = A at hD hE ⊢
  have hA : ∀ q : Nat, s.heap.size ≤ q → A q := fun q h => by rw [← hAe]; exact Or.inr h
  have hP : va_P (dC, dI) vwCl [] s.heap := hP
  have hl := lv_entry ([.ref a]) (n := 1) (nbq rfl)
  rw [lg_entry_eq]
  generalize (lg_sl ([.ref a]) ++ List.replicate (1 - (lg_sl ([.ref a])).length) Slot.unset).toArray = ls at hl ⊢
  have hl : lv_has ls 1 [(0, .ref a)] := hl
  clear hAe
  obtain ⟨H, hH⟩ : ∃ H, H = s.heap := ⟨_, rfl⟩
  rw [← hH] at hP ⊢
  have hS : va_S A s.heap H [] := by rw [hH]; exact va_S.rf
  obtain ⟨⟨v, hO, hC, hV, hT⟩, hJ1, hJ2⟩ := id hE
  refine lv_aload_n hx hb (qaa qqd 0 rfl) rfl (lv_at hl 0 rfl) ?_
  refine vk_getf hx hb hV hS hown (hts _ q4a) (fun _ h9 => h9) (qaa qqd 1 rfl) ?_
  refine va_tlen (v := Int32.ofNat n) hx hb hT hS rfl (qaa qqd 2 rfl) ?_
  refine lv_aload_n hx hb (qaa qqd 3 rfl) rfl (lv_at hl 0 rfl) ?_
  obtain ⟨hCc, hPc, hDc, hFc⟩ := qac (ws' := []) hP hD hS hA [] (by decide +kernel) rfl
  refine va_calli (va_runV (As := []) (rest := [.int (Int32.ofNat n)]) ⟨hx, hb, hml, hown, hts⟩ (qaX8 l dC dI cyB cyI cyJ cyP a H.size n b (Q := fun r => r = 0) rfl) (cwV 0 hts gJ0_length_8abf5_J0_coder_7d493 rfl rfl rfl (by decide +kernel) ⟨nbq rfl, nbq rfl⟩) ⟨qBL zQ_G, qaad hE.1 hS, qQ2 zQ_G hPc hK hDc hNw hE hS hFc⟩ rfl rfl hl.1 rfl (lv_room (nbq rfl)) (qaa qqd 4 rfl) ⟨nbq rfl, nbq rfl⟩) hS (fun q _ h => hFc q h) hFc (fun r1 u t H1 locs ht hvm hw1 hB hz1 hk1 hS => ?_)
  obtain ⟨hP1, hK1, hD1⟩ := hB
  rw [ht] at hP1
  obtain ⟨hP, hD⟩ := qah (wr := []) (w1 := []) (wn := []) hP hD [] [] hCc rfl (by decide +kernel) (by decide +kernel) rfl hk1 hFc hP1 hD1
  generalize H1 = H at hP hS ⊢
  subst hw1
  refine lv_ishr hx hb (qaa qqd 5 rfl) ?_
  exact ((W.iret (v := (Int32.ofNat n >>> ((0 : Int32) &&& 31))) hx hb hr (fun t ht hW => ⟨⟨(Int32.ofNat n >>> ((0 : Int32) &&& 31)), (), rfl, hw, by rw [ht]; exact hP, va_K.moved hW.alike hK, hD⟩, hS.F ht⟩) hS.2.2 (qaa qqd 6 rfl)))
set_option maxHeartbeats 4000000 in
set_option maxRecDepth 100000 in
theorem qadX (l : Launch) (dC : Nat → ClassId) (dI : Nat → Nat → Nat) (cyB cyI cyJ cyP : ClassId) (k n : Int32) (sz : Nat) {Q : Int32 → Prop} (h0 : ¬ k < 0) (h1 : k < n) (hw : Q k) : Met l yJ3_checkIndex_8e157 wsJ3_checkIndex_8e157 ({ frames := 0, cells := 0, slots := 0, locals := 0 }) (va_Pc [.int k, .int n, .null] (cPe (fun _ _ _ => True) (dC, dI) (kT cyB cyI cyJ cyP) sz)) (va_Qi (fun (r : Int32) (_ : Unit) => Q r ) (cB (dC, dI) (kT cyB cyI cyJ cyP) (va_A [] sz) (fun u : Unit => ([] : va_W))) (va_A [] sz)) 0 0 (va_A [] sz) := by
  refine Met.ofW (cc := cJ3_checkIndex_8e157) (maxL := 3) (ret := (some .int)) (by decide) rfl ?_
  intro p e s m args below meth c s₁ B hml hv
  obtain ⟨rfl, ⟨hsz, hP, hK, hD0, hNw⟩, hE⟩ := hv
  have hx := B.exec
  have hb := B.bytes
  have hr := B.returns
  have hts := atoms_spec (ws := wsJ3_checkIndex_8e157) B.pre
  have hown : s.vm.findClass RJ3 = some m.cls := findClass_of_methodNamed B.named
  have hlocks := B.notSynchronized
  subst hsz
  have hD := hD0.self (sz := s.heap.size)
  generalize hAe : va_A [] s.heap.size = A at hD hE ⊢
  have hA : ∀ q : Nat, s.heap.size ≤ q → A q := fun q h => by rw [← hAe]; exact Or.inr h
  have hP : va_P (dC, dI) vwCl [] s.heap := hP
  have hl := lv_entry ([.int k, .int n, .null]) (n := 3) (nbq rfl)
  rw [lg_entry_eq]
  generalize (lg_sl ([.int k, .int n, .null]) ++ List.replicate (3 - (lg_sl ([.int k, .int n, .null])).length) Slot.unset).toArray = ls at hl ⊢
  have hl : lv_has ls 3 [(0, .int k), (1, .int n), (2, .null)] := hl
  clear hAe
  obtain ⟨H, hH⟩ : ∃ H, H = s.heap := ⟨_, rfl⟩
  rw [← hH] at hP ⊢
  have hS : va_S A s.heap H [] := by rw [hH]; exact va_S.rf
  refine lv_iload_n hx hb (qaa qb4 0 rfl) rfl (lv_at hl 0 rfl) ?_
  refine lv_if_lt (tgt := 9) hx hb (qaa qb4 1 rfl) (by decide) (fun c9 => absurd c9 h0) (fun _ => ?_)
  refine lv_iload_n hx hb (qaa qb4 2 rfl) rfl (lv_at hl 0 rfl) ?_
  refine lv_iload_n hx hb (qaa qb4 3 rfl) rfl (lv_at hl 1 rfl) ?_
  refine lv_icmp_lt (tgt := 16) hx hb (qaa qb4 4 rfl) (by decide) (fun _ => ?_) (fun c9 => absurd h1 c9)
  refine lv_iload_n hx hb (qaa qb4 10 rfl) rfl (lv_at hl 0 rfl) ?_
  exact ((W.iret (v := k) hx hb hr (fun t ht hW => ⟨⟨k, (), rfl, hw, by rw [ht]; exact hP, va_K.moved hW.alike hK, hD⟩, hS.F ht⟩) hS.2.2 (qaa qb4 11 rfl)))
set_option maxHeartbeats 4000000 in
set_option maxRecDepth 100000 in
theorem qafD (l : Launch) (dC : Nat → ClassId) (dI : Nat → Nat → Nat) (cyB cyI cyJ cyP : ClassId) (k n : Int32) (z sz : Nat) {Q : Int32 → Prop} (h0 : ¬ k < 0) (h1 : k < n) (hw : Q k) : Met l yJ3_checkIndex_8e157 wsJ3_checkIndex_8e157 ({ frames := 0, cells := 0, slots := 0, locals := 0 }) (va_Pc [.int k, .int n, .ref z] (cPe (fun _ _ _ => True) (dC, dI) (kT cyB cyI cyJ cyP) sz)) (va_Qi (fun (r : Int32) (_ : Unit) => Q r ) (cB (dC, dI) (kT cyB cyI cyJ cyP) (va_A [] sz) (fun u : Unit => ([] : va_W))) (va_A [] sz)) 0 0 (va_A [] sz) := by
  refine Met.ofW (cc := cJ3_checkIndex_8e157) (maxL := 3) (ret := (some .int)) (by decide) rfl ?_
  intro p e s m args below meth c s₁ B hml hv
  obtain ⟨rfl, ⟨hsz, hP, hK, hD0, hNw⟩, hE⟩ := hv
  have hx := B.exec
  have hb := B.bytes
  have hr := B.returns
  have hts := atoms_spec (ws := wsJ3_checkIndex_8e157) B.pre
  have hown : s.vm.findClass RJ3 = some m.cls := findClass_of_methodNamed B.named
  have hlocks := B.notSynchronized
  subst hsz
  have hD := hD0.self (sz := s.heap.size)
  generalize hAe : va_A [] s.heap.size = A at hD hE ⊢
  have hA : ∀ q : Nat, s.heap.size ≤ q → A q := fun q h => by rw [← hAe]; exact Or.inr h
  have hP : va_P (dC, dI) vwCl [] s.heap := hP
  have hl := lv_entry ([.int k, .int n, .ref z]) (n := 3) (nbq rfl)
  rw [lg_entry_eq]
  generalize (lg_sl ([.int k, .int n, .ref z]) ++ List.replicate (3 - (lg_sl ([.int k, .int n, .ref z])).length) Slot.unset).toArray = ls at hl ⊢
  have hl : lv_has ls 3 [(0, .int k), (1, .int n), (2, .ref z)] := hl
  clear hAe
  obtain ⟨H, hH⟩ : ∃ H, H = s.heap := ⟨_, rfl⟩
  rw [← hH] at hP ⊢
  have hS : va_S A s.heap H [] := by rw [hH]; exact va_S.rf
  refine lv_iload_n hx hb (qaa qb4 0 rfl) rfl (lv_at hl 0 rfl) ?_
  refine lv_if_lt (tgt := 9) hx hb (qaa qb4 1 rfl) (by decide) (fun c9 => absurd c9 h0) (fun _ => ?_)
  refine lv_iload_n hx hb (qaa qb4 2 rfl) rfl (lv_at hl 0 rfl) ?_
  refine lv_iload_n hx hb (qaa qb4 3 rfl) rfl (lv_at hl 1 rfl) ?_
  refine lv_icmp_lt (tgt := 16) hx hb (qaa qb4 4 rfl) (by decide) (fun _ => ?_) (fun c9 => absurd h1 c9)
  refine lv_iload_n hx hb (qaa qb4 10 rfl) rfl (lv_at hl 0 rfl) ?_
  exact ((W.iret (v := k) hx hb hr (fun t ht hW => ⟨⟨k, (), rfl, hw, by rw [ht]; exact hP, va_K.moved hW.alike hK, hD⟩, hS.F ht⟩) hS.2.2 (qaa qb4 11 rfl)))
theorem qA9 : (.fieldLink RJ0 1053 "jdk/internal/util/Preconditions" "SIOOBE_FORMATTER" "Ljava/util/function/BiFunction;" : Cond) ∈ wsJ0_checkIndex_df160 := qBx 855 (by decide +kernel)
set_option maxHeartbeats 4000000 in
set_option maxRecDepth 100000 in
theorem qars (l : Launch) (dC : Nat → ClassId) (dI : Nat → Nat → Nat) (cyB cyI cyJ cyP : ClassId) (k n : Int32) (sz : Nat) (h0 : ¬ k < 0) (h1 : k < n) : Met l yJ0_checkIndex_df160 wsJ0_checkIndex_df160 ({ frames := 1, cells := 0, slots := 0, locals := 22 }) (va_Pc [.int k, .int n] (cPe (zJ) (dC, dI) (kT cyB cyI cyJ cyP) sz)) (va_Qv (fun (_ : Unit) => True) (cB (dC, dI) (kT cyB cyI cyJ cyP) (va_A [] sz) (fun u : Unit => ([] : va_W))) (va_A [] sz)) 0 0 (va_A [] sz) := by
  refine Met.ofW (cc := cJ0_checkIndex_df160) (maxL := 2) (ret := none) (by decide) rfl ?_
  intro p e s m args below meth c s₁ B hml hv
  obtain ⟨rfl, ⟨hsz, hP, hK, hD0, hNw⟩, hE⟩ := hv
  have hx := B.exec
  have hb := B.bytes
  have hr := B.returns
  have hts := atoms_spec (ws := wsJ0_checkIndex_df160) B.pre
  have hown : s.vm.findClass RJ0 = some m.cls := findClass_of_methodNamed B.named
  have hlocks := B.notSynchronized
  subst hsz
  have hD := hD0.self (sz := s.heap.size)
  generalize hAe : va_A [] s.heap.size = A at hD hE ⊢
  have hA : ∀ q : Nat, s.heap.size ≤ q → A q := fun q h => by rw [← hAe]; exact Or.inr h
  have hP : va_P (dC, dI) vwCl [] s.heap := hP
  have hl := lv_entry ([.int k, .int n]) (n := 2) (nbq rfl)
  rw [lg_entry_eq]
  generalize (lg_sl ([.int k, .int n]) ++ List.replicate (2 - (lg_sl ([.int k, .int n])).length) Slot.unset).toArray = ls at hl ⊢
  have hl : lv_has ls 2 [(0, .int k), (1, .int n)] := hl
  clear hAe
  obtain ⟨H, hH⟩ : ∃ H, H = s.heap := ⟨_, rfl⟩
  rw [← hH] at hP ⊢
  have hS : va_S A s.heap H [] := by rw [hH]; exact va_S.rf
  refine lv_iload_n hx hb (qaa qeV 0 rfl) rfl (lv_at hl 0 rfl) ?_
  refine lv_iload_n hx hb (qaa qeV 1 rfl) rfl (lv_at hl 1 rfl) ?_
  rcases hE.2 with hz9 | ⟨t9, hz9⟩
  · refine va_gets hx hb hz9 hS hown (hts _ qA9) (fun _ h9 => h9) (qaa qeV 2 rfl) ?_
    obtain ⟨hCc, hPc, hDc, hFc⟩ := qac (ws' := []) hP hD hS hA [] (by decide +kernel) rfl
    refine va_calli (va_runS (As := [.int k, .int n, .null]) (rest := []) ⟨hx, hb, hml, hown, hts⟩ (qadX l dC dI cyB cyI cyJ cyP k n H.size (Q := fun _ => True) h0 h1 trivial) (va_cwS 3 hts gJ0_checkIndex_df160_J3_checkIndex_8e157 rfl rfl rfl (by decide +kernel) ⟨nbq rfl, nbq rfl⟩) ⟨qBL z0_G, qQ2 z0_G hPc hK hDc hNw trivial hS hFc⟩ rfl rfl hl.1 rfl (lv_room (nbq rfl)) (qaa qeV 3 rfl) ⟨nbq rfl, nbq rfl⟩) hS (fun q _ h => hFc q h) hFc (fun r1 u t H1 locs ht hvm hw1 hB hz1 hk1 hS => ?_)
    obtain ⟨hP1, hK1, hD1⟩ := hB
    rw [ht] at hP1
    obtain ⟨hP, hD⟩ := qah (wr := []) (w1 := []) (wn := []) hP hD [] [] hCc rfl (by decide +kernel) (by decide +kernel) rfl hk1 hFc hP1 hD1
    generalize H1 = H at hP hS ⊢
    refine lv_pop hx hb (qaa qeV 4 rfl) rfl ?_
    exact ((W.vret hx hb hr (fun t ht hW => ⟨⟨(), rfl, trivial, by rw [ht]; exact hP, va_K.moved hW.alike hK, hD⟩, hS.F ht⟩) hS.2.2 (qaa qeV 5 rfl)))
  · refine va_gets hx hb hz9 hS hown (hts _ qA9) (fun _ h9 => h9) (qaa qeV 2 rfl) ?_
    obtain ⟨hCc, hPc, hDc, hFc⟩ := qac (ws' := []) hP hD hS hA [] (by decide +kernel) rfl
    refine va_calli (va_runS (As := [.int k, .int n, .ref t9]) (rest := []) ⟨hx, hb, hml, hown, hts⟩ (qafD l dC dI cyB cyI cyJ cyP k n t9 H.size (Q := fun _ => True) h0 h1 trivial) (va_cwS 3 hts gJ0_checkIndex_df160_J3_checkIndex_8e157 rfl rfl rfl (by decide +kernel) ⟨nbq rfl, nbq rfl⟩) ⟨qBL z0_G, qQ2 z0_G hPc hK hDc hNw trivial hS hFc⟩ rfl rfl hl.1 rfl (lv_room (nbq rfl)) (qaa qeV 3 rfl) ⟨nbq rfl, nbq rfl⟩) hS (fun q _ h => hFc q h) hFc (fun r1 u t H1 locs ht hvm hw1 hB hz1 hk1 hS => ?_)
    obtain ⟨hP1, hK1, hD1⟩ := hB
    rw [ht] at hP1
    obtain ⟨hP, hD⟩ := qah (wr := []) (w1 := []) (wn := []) hP hD [] [] hCc rfl (by decide +kernel) (by decide +kernel) rfl hk1 hFc hP1 hD1
    generalize H1 = H at hP hS ⊢
    refine lv_pop hx hb (qaa qeV 4 rfl) rfl ?_
    exact ((W.vret hx hb hr (fun t ht hW => ⟨⟨(), rfl, trivial, by rw [ht]; exact hP, va_K.moved hW.alike hK, hD⟩, hS.F ht⟩) hS.2.2 (qaa qeV 5 rfl)))
set_option maxHeartbeats 4000000 in
set_option maxRecDepth 100000 in
theorem qaVH (l : Launch) (dC : Nat → ClassId) (dI : Nat → Nat → Nat) (cyB cyI cyJ cyP : ClassId) (v : Nat) (k : Int32) (sz n : Nat) (b : NI) {Q : Int32 → Prop} (hw : qGt n b k Q) : Met l yJ1_charAt_3b067 wsJ1_charAt_3b067 ({ frames := 2, cells := 0, slots := 0, locals := 43 }) (va_Pc [.ref v, .int k] (cPe (zV v n b) (dC, dI) (kT cyB cyI cyJ cyP) sz)) (va_Qi (fun (r : Int32) (_ : Unit) => Q r ) (cB (dC, dI) (kT cyB cyI cyJ cyP) (va_A [] sz) (fun u : Unit => ([] : va_W))) (va_A [] sz)) 0 0 (va_A [] sz) := by
  refine Met.ofW (cc := cJ1_charAt_3b067) (maxL := 2) (ret := (some .char)) (by decide) rfl ?_
  intro p e s m args below meth c s₁ B hml hv
  obtain ⟨rfl, ⟨hsz, hP, hK, hD0, hNw⟩, hE⟩ := hv
  have hx := B.exec
  have hb := B.bytes
  have hr := B.returns
  have hts := atoms_spec (ws := wsJ1_charAt_3b067) B.pre
  have hown : s.vm.findClass RJ1 = some m.cls := findClass_of_methodNamed B.named
  have hlocks := B.notSynchronized
  subst hsz
  have hD := hD0.self (sz := s.heap.size)
  generalize hAe : va_A [] s.heap.size = A at hD hE ⊢
  have hA : ∀ q : Nat, s.heap.size ≤ q → A q := fun q h => by rw [← hAe]; exact Or.inr h
  have hP : va_P (dC, dI) vwCl [] s.heap := hP
  have hl := lv_entry ([.ref v, .int k]) (n := 2) (nbq rfl)
  rw [lg_entry_eq]
  generalize (lg_sl ([.ref v, .int k]) ++ List.replicate (2 - (lg_sl ([.ref v, .int k])).length) Slot.unset).toArray = ls at hl ⊢
  have hl : lv_has ls 2 [(0, .ref v), (1, .int k)] := hl
  clear hAe
  obtain ⟨H, hH⟩ : ∃ H, H = s.heap := ⟨_, rfl⟩
  rw [← hH] at hP ⊢
  have hS : va_S A s.heap H [] := by rw [hH]; exact va_S.rf
  obtain ⟨h0, h1, hin, hw⟩ := hw
  obtain ⟨hT, hJ⟩ := id hE
  refine lv_iload_n hx hb (qaa qhR 0 rfl) rfl (lv_at hl 1 rfl) ?_
  refine lv_aload_n hx hb (qaa qhR 1 rfl) rfl (lv_at hl 0 rfl) ?_
  refine va_tlen (v := Int32.ofNat n) hx hb hT hS rfl (qaa qhR 2 rfl) ?_
  obtain ⟨hCc, hPc, hDc, hFc⟩ := qac (ws' := []) hP hD hS hA [] (by decide +kernel) rfl
  refine va_callv (va_runS (As := [.int k, .int (Int32.ofNat n)]) (rest := []) ⟨hx, hb, hml, hown, hts⟩ (qars l dC dI cyB cyI cyJ cyP k (Int32.ofNat n) H.size h0 h1) (va_cwS 2 hts gJ1_charAt_3b067_J0_checkIndex_df160 rfl rfl rfl (by decide +kernel) ⟨nbq rfl, nbq rfl⟩) ⟨qBL zJ_G, qQ2 zJ_G hPc hK hDc hNw hJ hS hFc⟩ rfl rfl hl.1 rfl (lv_room (nbq rfl)) (qaa qhR 3 rfl) ⟨nbq rfl, nbq rfl⟩) hS (fun q _ h => hFc q h) hFc (fun u t H1 locs ht hvm hw1 hB hz1 hk1 hS => ?_)
  obtain ⟨hP1, hK1, hD1⟩ := hB
  rw [ht] at hP1
  obtain ⟨hP, hD⟩ := qah (wr := []) (w1 := []) (wn := []) hP hD [] [] hCc rfl (by decide +kernel) (by decide +kernel) rfl hk1 hFc hP1 hD1
  generalize H1 = H at hP hS ⊢
  refine lv_aload_n hx hb (qaa qhR 4 rfl) rfl (lv_at hl 0 rfl) ?_
  refine lv_iload_n hx hb (qaa qhR 5 rfl) rfl (lv_at hl 1 rfl) ?_
  refine va_tb hx hb hT hS hin rfl (qaa qhR 6 rfl) ?_
  refine lv_sipush (v := 255) hx hb (qaa qhR 7 rfl) (by decide) ?_
  refine lv_iand hx hb (qaa qhR 8 rfl) ?_
  refine lv_i2c hx hb (qaa qhR 9 rfl) rfl ?_
  refine lv_topi (fun x ex => ?_)
  obtain ⟨hn9, hw⟩ := hw x ex
  exact ((W.zret (v := x) hx hb hr hn9 (fun t ht hW => ⟨⟨x, (), rfl, hw, by rw [ht]; exact hP, va_K.moved hW.alike hK, hD⟩, hS.F ht⟩) hS.2.2 (qaa qhR 10 rfl)))
theorem q2g : (.fieldLink RJ0 9 "java/lang/String" "value" "[B" : Cond) ∈ wsJ0_charAt_5068e := qyP 788 (by decide +kernel)
set_option maxHeartbeats 4000000 in
set_option maxRecDepth 100000 in
theorem qaoz (l : Launch) (dC : Nat → ClassId) (dI : Nat → Nat → Nat) (cyB cyI cyJ cyP : ClassId) (a : Nat) (k : Int32) (sz n : Nat) (b : NI) {Q : Int32 → Prop} (hw : qGt n b k Q) : Met l yJ0_charAt_5068e wsJ0_charAt_5068e ({ frames := 3, cells := 0, slots := 0, locals := 64 }) (va_Pc [.ref a, .int k] (cPe (zQ n b a) (dC, dI) (kT cyB cyI cyJ cyP) sz)) (va_Qi (fun (r : Int32) (_ : Unit) => Q r ) (cB (dC, dI) (kT cyB cyI cyJ cyP) (va_A [] sz) (fun u : Unit => ([] : va_W))) (va_A [] sz)) 0 0 (va_A [] sz) := by
  refine Met.ofW (cc := cJ0_charAt_5068e) (maxL := 2) (ret := (some .char)) (by decide) rfl ?_
  intro p e s m args below meth c s₁ B hml hv
  obtain ⟨rfl, ⟨hsz, hP, hK, hD0, hNw⟩, hE⟩ := hv
  have hx := B.exec
  have hb := B.bytes
  have hr := B.returns
  have hts := atoms_spec (ws := wsJ0_charAt_5068e) B.pre
  have hown : s.vm.findClass RJ0 = some m.cls := findClass_of_methodNamed B.named
  have hlocks := B.notSynchronized
  subst hsz
  have hD := hD0.self (sz := s.heap.size)
  generalize hAe : va_A [] s.heap.size = A at hD hE ⊢
  have hA : ∀ q : Nat, s.heap.size ≤ q → A q := fun q h => by rw [← hAe]; exact Or.inr h
  have hP : va_P (dC, dI) vwCl [] s.heap := hP
  have hl := lv_entry ([.ref a, .int k]) (n := 2) (nbq rfl)
  rw [lg_entry_eq]
  generalize (lg_sl ([.ref a, .int k]) ++ List.replicate (2 - (lg_sl ([.ref a, .int k])).length) Slot.unset).toArray = ls at hl ⊢
  have hl : lv_has ls 2 [(0, .ref a), (1, .int k)] := hl
  clear hAe
  obtain ⟨H, hH⟩ : ∃ H, H = s.heap := ⟨_, rfl⟩
  rw [← hH] at hP ⊢
  have hS : va_S A s.heap H [] := by rw [hH]; exact va_S.rf
  obtain ⟨⟨v, hO, hC, hV, hT⟩, hJ1, hJ2⟩ := id hE
  refine lv_aload_n hx hb (qaa qos 0 rfl) rfl (lv_at hl 0 rfl) ?_
  obtain ⟨hCc, hPc, hDc, hFc⟩ := qac (ws' := []) hP hD hS hA [] (by decide +kernel) rfl
  refine va_calli (va_runV (As := []) (rest := []) ⟨hx, hb, hml, hown, hts⟩ (qaJE l dC dI cyB cyI cyJ cyP a H.size n b (Q := fun r => r = 1) rfl) (cwV 0 hts gJ0_charAt_5068e_J0_isLatin1_aae02 rfl rfl rfl (by decide +kernel) ⟨nbq rfl, nbq rfl⟩) ⟨qBL zQ_G, qaad hE.1 hS, qQ2 zQ_G hPc hK hDc hNw hE hS hFc⟩ rfl rfl hl.1 rfl (lv_room (nbq rfl)) (qaa qos 1 rfl) ⟨nbq rfl, nbq rfl⟩) hS (fun q _ h => hFc q h) hFc (fun r1 u t H1 locs ht hvm hw1 hB hz1 hk1 hS => ?_)
  obtain ⟨hP1, hK1, hD1⟩ := hB
  rw [ht] at hP1
  obtain ⟨hP, hD⟩ := qah (wr := []) (w1 := []) (wn := []) hP hD [] [] hCc rfl (by decide +kernel) (by decide +kernel) rfl hk1 hFc hP1 hD1
  generalize H1 = H at hP hS ⊢
  subst hw1
  refine lv_if_eq (tgt := 16) hx hb (qaa qos 2 rfl) (by decide) (fun c9 => absurd c9 (by decide)) (fun _ => ?_)
  refine lv_aload_n hx hb (qaa qos 3 rfl) rfl (lv_at hl 0 rfl) ?_
  refine vk_getf hx hb hV hS hown (hts _ q2g) (fun _ h9 => h9) (qaa qos 4 rfl) ?_
  refine lv_iload_n hx hb (qaa qos 5 rfl) rfl (lv_at hl 1 rfl) ?_
  obtain ⟨hCc, hPc, hDc, hFc⟩ := qac (ws' := []) hP hD hS hA [] (by decide +kernel) rfl
  refine va_calli (va_runS (As := [.ref v, .int k]) (rest := []) ⟨hx, hb, hml, hown, hts⟩ (qaVH l dC dI cyB cyI cyJ cyP v k H.size n b (Q := fun r => narrow .char (.int r) = .int r ∧ Q r) ⟨hw.1, hw.2.1, hw.2.2.1, fun x ex => ⟨(hw.2.2.2 x ex).1, hw.2.2.2 x ex⟩⟩) (va_cwS 2 hts gJ0_charAt_5068e_J1_charAt_3b067 rfl rfl rfl (by decide +kernel) ⟨nbq rfl, nbq rfl⟩) ⟨qBL zV_G, qQ2 zV_G hPc hK hDc hNw ⟨hT, hJ1, hJ2⟩ hS hFc⟩ rfl rfl hl.1 rfl (lv_room (nbq rfl)) (qaa qos 6 rfl) ⟨nbq rfl, nbq rfl⟩) hS (fun q _ h => hFc q h) hFc (fun r2 u t H1 locs ht hvm hw1 hB hz1 hk1 hS => ?_)
  obtain ⟨hP1, hK1, hD1⟩ := hB
  rw [ht] at hP1
  obtain ⟨hP, hD⟩ := qah (wr := []) (w1 := []) (wn := []) hP hD [] [] hCc rfl (by decide +kernel) (by decide +kernel) rfl hk1 hFc hP1 hD1
  generalize H1 = H at hP hS ⊢
  obtain ⟨hn9, hw⟩ := hw1
  exact ((W.zret (v := r2) hx hb hr hn9 (fun t ht hW => ⟨⟨r2, (), rfl, hw, by rw [ht]; exact hP, va_K.moved hW.alike hK, hD⟩, hS.F ht⟩) hS.2.2 (qaa qos 7 rfl)))
/-! the constants -/
def zL : List (String × Nat × String × List Int32) := [("MarchHares$Down", 62, "form", [102, 111, 114, 109]), ("MarchHares$Down", 71, "hare", [104, 97, 114, 101]), ("MarchHares$Down", 76, "fox", [102, 111, 120]), ("MarchHares$Down", 81, "debt", [100, 101, 98, 116]), ("MarchHares$Law", 68, "least", [108, 101, 97, 115, 116]), ("MarchHares$Law", 78, "most", [109, 111, 115, 116]), ("MarchHares$Law", 92, "strong", [115, 116, 114, 111, 110, 103]), ("MarchHares$Law", 94, "still", [115, 116, 105, 108, 108]), ("MarchHares$Law", 96, "owes", [111, 119, 101, 115]), ("MarchHares$Law", 98, "owed", [111, 119, 101, 100]), ("MarchHares$Law", 100, "others", [111, 116, 104, 101, 114, 115]), ("MarchHares$Law", 102, "day", [100, 97, 121]), ("MarchHares$Law", 104, "hare", [104, 97, 114, 101]), ("MarchHares$Law", 106, "leaps", [108, 101, 97, 112, 115]), ("MarchHares$Work", 67, "again", [97, 103, 97, 105, 110]), ("MarchHares$Work", 76, "leap", [108, 101, 97, 112]), ("MarchHares$Work", 86, "box", [98, 111, 120]), ("MarchHares$Work", 88, "pay", [112, 97, 121]), ("MarchHares$Work", 90, "day", [100, 97, 121]), ("MarchHaresModel", 201, "form", [102, 111, 114, 109]), ("MarchHaresModel", 206, "hare", [104, 97, 114, 101]), ("MarchHaresModel", 207, "fox", [102, 111, 120]), ("MarchHaresModel", 208, "debt", [100, 101, 98, 116]), ("MarchHaresModel", 278, "least", [108, 101, 97, 115, 116]), ("MarchHaresModel", 283, "most", [109, 111, 115, 116]), ("MarchHaresModel", 264, "strong", [115, 116, 114, 111, 110, 103]), ("MarchHaresModel", 266, "still", [115, 116, 105, 108, 108]), ("MarchHaresModel", 268, "owes", [111, 119, 101, 115]), ("MarchHaresModel", 270, "owed", [111, 119, 101, 100]), ("MarchHaresModel", 272, "others", [111, 116, 104, 101, 114, 115]), ("MarchHaresModel", 274, "day", [100, 97, 121]), ("MarchHaresModel", 276, "leaps", [108, 101, 97, 112, 115]), ("MarchHaresModel", 302, "leap", [108, 101, 97, 112]), ("MarchHaresModel", 307, "box", [98, 111, 120]), ("MarchHaresModel", 309, "pay", [112, 97, 121]), ("MarchHaresModel", 311, "again", [97, 103, 97, 105, 110])]
def zE (A : Nat → Prop) (U : State) (H : Heap) : Prop := (∀ q ∈ zL, ∃ a, vk_R q.1 q.2.1 q.2.2.1 a U ∧ zS q.2.2.2.length (fun j => q.2.2.2.getD j 0) a A U H) ∧ zJ A U H
theorem qsO : zG zE :=
  ⟨fun A s U H hW h => ⟨fun q hq => (h.1 q hq).elim (fun a ha => ⟨a, vk_R.warm hW ha.1, zS_G.1 A s U H hW ha.2⟩), zJ_G.1 A s U H hW h.2⟩,
   fun A u U H hv h => ⟨fun q hq => (h.1 q hq).elim (fun a ha => ⟨a, vk_R.same hv ha.1, zS_G.2.1 A u U H hv ha.2⟩), zJ_G.2.1 A u U H hv h.2⟩,
   fun A U H H1 hk h => ⟨fun q hq => (h.1 q hq).elim (fun a ha => ⟨a, ha.1, zS_G.2.2.1 A U H H1 hk ha.2⟩), zJ_G.2.2.1 A U H H1 hk h.2⟩,
   fun A B U H hk h => ⟨fun q hq => (h.1 q hq).elim (fun a ha => ⟨a, ha.1, zS_G.2.2.2 A B U H hk ha.2⟩), zJ_G.2.2.2 A B U H hk h.2⟩⟩
def zP (n : Nat) (b : NI) (a : Nat) : (Nat → Prop) → State → Heap → Prop := fun A U H => zE A U H ∧ zS n b a A U H
theorem qsS {n : Nat} {b : Nat → Int32} {a : Nat} : zG (zP n b a) := qa3V qsO zS_G
theorem qbbq {A : Nat → Prop} {s : State} {H : Heap} (h : zE A s H) : ∃ a, vk_R RX2 62 "form" a s ∧ zS 4 q5d a A s H := h.1 ("MarchHares$Down", 62, "form", [102, 111, 114, 109]) (List.mem_of_getElem? (i := 0) rfl)
theorem qbb3 {A : Nat → Prop} {s : State} {H : Heap} (h : zE A s H) : ∃ a, vk_R RX2 71 "hare" a s ∧ zS 4 q5r a A s H := h.1 ("MarchHares$Down", 71, "hare", [104, 97, 114, 101]) (List.mem_of_getElem? (i := 1) rfl)
theorem qbcl {A : Nat → Prop} {s : State} {H : Heap} (h : zE A s H) : ∃ a, vk_R RX2 76 "fox" a s ∧ zS 3 q4Y a A s H := h.1 ("MarchHares$Down", 76, "fox", [102, 111, 120]) (List.mem_of_getElem? (i := 2) rfl)
theorem qbcr {A : Nat → Prop} {s : State} {H : Heap} (h : zE A s H) : ∃ a, vk_R RX2 81 "debt" a s ∧ zS 4 q40 a A s H := h.1 ("MarchHares$Down", 81, "debt", [100, 101, 98, 116]) (List.mem_of_getElem? (i := 3) rfl)
theorem qa1d {A : Nat → Prop} {s : State} {H : Heap} (h : zE A s H) : ∃ a, vk_R RX4 68 "least" a s ∧ zS 5 qR1 a A s H := h.1 ("MarchHares$Law", 68, "least", [108, 101, 97, 115, 116]) (List.mem_of_getElem? (i := 4) rfl)
theorem qa0S {A : Nat → Prop} {s : State} {H : Heap} (h : zE A s H) : ∃ a, vk_R RX4 78 "most" a s ∧ zS 4 qRD a A s H := h.1 ("MarchHares$Law", 78, "most", [109, 111, 115, 116]) (List.mem_of_getElem? (i := 5) rfl)
theorem qbbS {A : Nat → Prop} {s : State} {H : Heap} (h : zE A s H) : ∃ a, vk_R RX4 92 "strong" a s ∧ zS 6 q5w a A s H := h.1 ("MarchHares$Law", 92, "strong", [115, 116, 114, 111, 110, 103]) (List.mem_of_getElem? (i := 6) rfl)
theorem qbca {A : Nat → Prop} {s : State} {H : Heap} (h : zE A s H) : ∃ a, vk_R RX4 94 "still" a s ∧ zS 5 q4R a A s H := h.1 ("MarchHares$Law", 94, "still", [115, 116, 105, 108, 108]) (List.mem_of_getElem? (i := 7) rfl)
theorem qbb7 {A : Nat → Prop} {s : State} {H : Heap} (h : zE A s H) : ∃ a, vk_R RX4 96 "owes" a s ∧ zS 4 q5h a A s H := h.1 ("MarchHares$Law", 96, "owes", [111, 119, 101, 115]) (List.mem_of_getElem? (i := 8) rfl)
theorem qbbw {A : Nat → Prop} {s : State} {H : Heap} (h : zE A s H) : ∃ a, vk_R RX4 98 "owed" a s ∧ zS 4 q5f a A s H := h.1 ("MarchHares$Law", 98, "owed", [111, 119, 101, 100]) (List.mem_of_getElem? (i := 9) rfl)
theorem qa6N {A : Nat → Prop} {s : State} {H : Heap} (h : zE A s H) : ∃ a, vk_R RX4 100 "others" a s ∧ zS 6 qVM a A s H := h.1 ("MarchHares$Law", 100, "others", [111, 116, 104, 101, 114, 115]) (List.mem_of_getElem? (i := 10) rfl)
theorem qa9h {A : Nat → Prop} {s : State} {H : Heap} (h : zE A s H) : ∃ a, vk_R RX4 102 "day" a s ∧ zS 3 qVK a A s H := h.1 ("MarchHares$Law", 102, "day", [100, 97, 121]) (List.mem_of_getElem? (i := 11) rfl)
theorem qbav {A : Nat → Prop} {s : State} {H : Heap} (h : zE A s H) : ∃ a, vk_R RX4 104 "hare" a s ∧ zS 4 qVI a A s H := h.1 ("MarchHares$Law", 104, "hare", [104, 97, 114, 101]) (List.mem_of_getElem? (i := 12) rfl)
theorem qa6H {A : Nat → Prop} {s : State} {H : Heap} (h : zE A s H) : ∃ a, vk_R RX4 106 "leaps" a s ∧ zS 5 qVm a A s H := h.1 ("MarchHares$Law", 106, "leaps", [108, 101, 97, 112, 115]) (List.mem_of_getElem? (i := 13) rfl)
theorem qbbY {A : Nat → Prop} {s : State} {H : Heap} (h : zE A s H) : ∃ a, vk_R RX9 67 "again" a s ∧ zS 5 q46 a A s H := h.1 ("MarchHares$Work", 67, "again", [97, 103, 97, 105, 110]) (List.mem_of_getElem? (i := 14) rfl)
theorem qbbg {A : Nat → Prop} {s : State} {H : Heap} (h : zE A s H) : ∃ a, vk_R RX9 76 "leap" a s ∧ zS 4 q43 a A s H := h.1 ("MarchHares$Work", 76, "leap", [108, 101, 97, 112]) (List.mem_of_getElem? (i := 15) rfl)
theorem qba4 {A : Nat → Prop} {s : State} {H : Heap} (h : zE A s H) : ∃ a, vk_R RX9 86 "box" a s ∧ zS 3 q5g a A s H := h.1 ("MarchHares$Work", 86, "box", [98, 111, 120]) (List.mem_of_getElem? (i := 16) rfl)
theorem qbbf {A : Nat → Prop} {s : State} {H : Heap} (h : zE A s H) : ∃ a, vk_R RX9 88 "pay" a s ∧ zS 3 q5i a A s H := h.1 ("MarchHares$Work", 88, "pay", [112, 97, 121]) (List.mem_of_getElem? (i := 17) rfl)
theorem qbbh {A : Nat → Prop} {s : State} {H : Heap} (h : zE A s H) : ∃ a, vk_R RX9 90 "day" a s ∧ zS 3 q5p a A s H := h.1 ("MarchHares$Work", 90, "day", [100, 97, 121]) (List.mem_of_getElem? (i := 18) rfl)
theorem qak8 {A : Nat → Prop} {s : State} {H : Heap} (h : zE A s H) : ∃ a, vk_R RX11 201 "form" a s ∧ zS 4 qGI a A s H := h.1 ("MarchHaresModel", 201, "form", [102, 111, 114, 109]) (List.mem_of_getElem? (i := 19) rfl)
theorem q45 {A : Nat → Prop} {s : State} {H : Heap} (h : zE A s H) : ∃ a, vk_R RX11 206 "hare" a s ∧ zS 4 qAy a A s H := h.1 ("MarchHaresModel", 206, "hare", [104, 97, 114, 101]) (List.mem_of_getElem? (i := 20) rfl)
theorem qanw {A : Nat → Prop} {s : State} {H : Heap} (h : zE A s H) : ∃ a, vk_R RX11 207 "fox" a s ∧ zS 3 qGm a A s H := h.1 ("MarchHaresModel", 207, "fox", [102, 111, 120]) (List.mem_of_getElem? (i := 21) rfl)
theorem qa1O {A : Nat → Prop} {s : State} {H : Heap} (h : zE A s H) : ∃ a, vk_R RX11 208 "debt" a s ∧ zS 4 q5v a A s H := h.1 ("MarchHaresModel", 208, "debt", [100, 101, 98, 116]) (List.mem_of_getElem? (i := 22) rfl)
theorem qaL3 {A : Nat → Prop} {s : State} {H : Heap} (h : zE A s H) : ∃ a, vk_R RX11 278 "least" a s ∧ zS 5 qOx a A s H := h.1 ("MarchHaresModel", 278, "least", [108, 101, 97, 115, 116]) (List.mem_of_getElem? (i := 23) rfl)
theorem qaLY {A : Nat → Prop} {s : State} {H : Heap} (h : zE A s H) : ∃ a, vk_R RX11 283 "most" a s ∧ zS 4 qOG a A s H := h.1 ("MarchHaresModel", 283, "most", [109, 111, 115, 116]) (List.mem_of_getElem? (i := 24) rfl)
theorem qa1B {A : Nat → Prop} {s : State} {H : Heap} (h : zE A s H) : ∃ a, vk_R RX11 264 "strong" a s ∧ zS 6 q5l a A s H := h.1 ("MarchHaresModel", 264, "strong", [115, 116, 114, 111, 110, 103]) (List.mem_of_getElem? (i := 25) rfl)
theorem qa1Y {A : Nat → Prop} {s : State} {H : Heap} (h : zE A s H) : ∃ a, vk_R RX11 266 "still" a s ∧ zS 5 q5o a A s H := h.1 ("MarchHaresModel", 266, "still", [115, 116, 105, 108, 108]) (List.mem_of_getElem? (i := 26) rfl)
theorem qa2p {A : Nat → Prop} {s : State} {H : Heap} (h : zE A s H) : ∃ a, vk_R RX11 268 "owes" a s ∧ zS 4 q48 a A s H := h.1 ("MarchHaresModel", 268, "owes", [111, 119, 101, 115]) (List.mem_of_getElem? (i := 27) rfl)
theorem qa2d {A : Nat → Prop} {s : State} {H : Heap} (h : zE A s H) : ∃ a, vk_R RX11 270 "owed" a s ∧ zS 4 q4Z a A s H := h.1 ("MarchHaresModel", 270, "owed", [111, 119, 101, 100]) (List.mem_of_getElem? (i := 28) rfl)
theorem qa2O {A : Nat → Prop} {s : State} {H : Heap} (h : zE A s H) : ∃ a, vk_R RX11 272 "others" a s ∧ zS 6 q5e a A s H := h.1 ("MarchHaresModel", 272, "others", [111, 116, 104, 101, 114, 115]) (List.mem_of_getElem? (i := 29) rfl)
theorem qamM {A : Nat → Prop} {s : State} {H : Heap} (h : zE A s H) : ∃ a, vk_R RX11 274 "day" a s ∧ zS 3 qGB a A s H := h.1 ("MarchHaresModel", 274, "day", [100, 97, 121]) (List.mem_of_getElem? (i := 30) rfl)
theorem qa2Y {A : Nat → Prop} {s : State} {H : Heap} (h : zE A s H) : ∃ a, vk_R RX11 276 "leaps" a s ∧ zS 5 q5u a A s H := h.1 ("MarchHaresModel", 276, "leaps", [108, 101, 97, 112, 115]) (List.mem_of_getElem? (i := 31) rfl)
theorem qaMl {A : Nat → Prop} {s : State} {H : Heap} (h : zE A s H) : ∃ a, vk_R RX11 302 "leap" a s ∧ zS 4 qOz a A s H := h.1 ("MarchHaresModel", 302, "leap", [108, 101, 97, 112]) (List.mem_of_getElem? (i := 32) rfl)
theorem q5a {A : Nat → Prop} {s : State} {H : Heap} (h : zE A s H) : ∃ a, vk_R RX11 307 "box" a s ∧ zS 3 qAx a A s H := h.1 ("MarchHaresModel", 307, "box", [98, 111, 120]) (List.mem_of_getElem? (i := 33) rfl)
theorem q5m {A : Nat → Prop} {s : State} {H : Heap} (h : zE A s H) : ∃ a, vk_R RX11 309 "pay" a s ∧ zS 3 qAC a A s H := h.1 ("MarchHaresModel", 309, "pay", [112, 97, 121]) (List.mem_of_getElem? (i := 34) rfl)
theorem qaMf {A : Nat → Prop} {s : State} {H : Heap} (h : zE A s H) : ∃ a, vk_R RX11 311 "again" a s ∧ zS 5 qOB a A s H := h.1 ("MarchHaresModel", 311, "again", [97, 103, 97, 105, 110]) (List.mem_of_getElem? (i := 35) rfl)
theorem qAl {p : Program} {l : Launch} {e : Env} {R : Room} {s : State} {m : MethodId} {args : Array Value} {below : List Frame} {meth : Method} {c : Code} {H : Heap} {locs : List Loc} {cells slots : Nat} {Q : State → Prop} {cc : ByteArray} {pc : Nat} {ls : Array Slot} {rest : List Value} (hexec : p.tables.exec = Jvm.exec) (hb : c.code = cc) {own tx : String} {index q : Nat} (hown : s.vm.findClass own = some m.cls) (hZ : vk_R own index tx q s) (hdg : decode cc pc = .ok (.ldc_w index, 3))
    (k : W p l e R s m args below meth c H locs cells slots Q (F0 m (pc + 3) ls (.ref q :: rest))) : W p l e R s m args below meth c H locs cells slots Q (F0 m pc ls rest) := by
  intro T hT X
  obtain ⟨t, a1, b1⟩ := k T hT X
  exact ⟨t, X.ldcStringW hexec hown (text := tx) (a := q) hZ.1 hZ.2 (g := F0 m pc ls rest) rfl (by rw [hb]; exact hdg) t a1, b1⟩
