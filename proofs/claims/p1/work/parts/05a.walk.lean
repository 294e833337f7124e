theorem uw_J6_bitCount_0f7a4_k265 : (.constant RJ6 265 (1431655765) : Cond) ∈ wsJ6_bitCount_0f7a4 := by decide +kernel
theorem uw_J6_bitCount_0f7a4_k266 : (.constant RJ6 266 (858993459) : Cond) ∈ wsJ6_bitCount_0f7a4 := by decide +kernel
theorem uw_J6_bitCount_0f7a4_k267 : (.constant RJ6 267 (252645135) : Cond) ∈ wsJ6_bitCount_0f7a4 := by decide +kernel
def wq_J6_bitCount_0f7a4   (p0 : Int32) (Q : Int32 → Prop) : Prop := ∀ x1 : Int32, x1 = (p0.toUInt32 >>> ((1 : Int32).toUInt32 &&& Int32.toUInt32 31)).toInt32 → ∀ x2 : Int32, x2 = p0 - (x1 &&& 1431655765) → ∀ x3 : Int32, x3 = (x2.toUInt32 >>> ((2 : Int32).toUInt32 &&& Int32.toUInt32 31)).toInt32 → ∀ x4 : Int32, x4 = (x2 &&& 858993459) + (x3 &&& 858993459) → ∀ x5 : Int32, x5 = (x4.toUInt32 >>> ((4 : Int32).toUInt32 &&& Int32.toUInt32 31)).toInt32 → ∀ x6 : Int32, x6 = (x4 + x5) &&& 252645135 → ∀ x7 : Int32, x7 = (x6.toUInt32 >>> ((8 : Int32).toUInt32 &&& Int32.toUInt32 31)).toInt32 → ∀ x8 : Int32, x8 = x6 + x7 → ∀ x9 : Int32, x9 = (x8.toUInt32 >>> ((16 : Int32).toUInt32 &&& Int32.toUInt32 31)).toInt32 → ∀ x10 : Int32, x10 = x8 + x9 → (Q (x10 &&& 63))
set_option maxHeartbeats 4000000 in
set_option maxRecDepth 100000 in
theorem ck_J6_bitCount_0f7a4 (l : Launch) (dC : Nat → ClassId) (dI : Nat → Nat → Nat) (cyB cyI cyJ cyP : ClassId) (sz : Nat)    (p0 : Int32) {Q : Int32 → Prop} (hw : wq_J6_bitCount_0f7a4   p0 Q) : Met l yJ6_bitCount_0f7a4 wsJ6_bitCount_0f7a4 ({ frames := 0, cells := 0, slots := 0, locals := 0 }) (va_Pc [.int p0] (cPc (dC, dI) (kT cyB cyI cyJ cyP) [] sz)) (va_Qi (fun (r : Int32) (_ : Unit) => Q r ) (cB (dC, dI) (kT cyB cyI cyJ cyP) (va_A [] sz) (fun u : Unit => ([] : va_W))) (va_A [] sz)) 0 0 (va_A [] sz) := by
  refine Met.ofW (cc := cJ6_bitCount_0f7a4) (maxL := 1) (ret := (some .int)) (by decide) rfl ?_
  intro p e s m args below meth c s₁ B hml hv
  obtain ⟨rfl, hsz, hP, hK, hD0, hNw⟩ := hv
  have hx := B.exec
  have hb := B.bytes
  have hr := B.returns
  have hts := atoms_spec (ws := wsJ6_bitCount_0f7a4) B.pre
  have hown : s.vm.findClass RJ6 = some m.cls := findClass_of_methodNamed B.named
  have hlocks := B.notSynchronized
  subst hsz
  have hD := hD0.self (sz := s.heap.size)
  generalize hAe : va_A [] s.heap.size = A at hD ⊢
  have hA : ∀ q : Nat, s.heap.size ≤ q → A q := fun q h => by rw [← hAe]; exact Or.inr h
  have hS : va_S A s.heap s.heap [] := va_S.rf
  have hP : va_P (dC, dI) vwCl [] s.heap := hP
  have hl := lv_entry ([.int p0]) (n := 1) (Nat.le_of_ble_eq_true rfl)
  rw [lg_entry_eq]
  generalize (lg_sl ([.int p0]) ++ List.replicate (1 - (lg_sl ([.int p0])).length) Slot.unset).toArray = ls at hl ⊢
  have hl : lv_has ls 1 [(0, .int p0)] := hl
  have C0 : cfx p s m _ meth c cJ6_bitCount_0f7a4 (some .int) wsJ6_bitCount_0f7a4 RJ6 1 A (dC, dI) (kT cyB cyI cyJ cyP) := ⟨hx, hb, hr, hts, hown, hlocks, hml, hA, hK, hNw⟩
  clear hAe
  obtain ⟨H, hH⟩ : ∃ H, H = s.heap := ⟨_, rfl⟩
  rw [← hH] at hP ⊢
  have hS : va_S A s.heap H [] := by rw [hH]; exact va_S.rf
  have hS := hS
  refine lv_iload_n hx hb dJ6_bitCount_0f7a4_0 rfl (lv_at hl 0 rfl) ?_
  refine lv_iload_n hx hb dJ6_bitCount_0f7a4_1 rfl (lv_at hl 0 rfl) ?_
  refine lv_iconst (v := 1) hx hb dJ6_bitCount_0f7a4_2 (by decide) ?_
  refine lv_iushr (v := (p0.toUInt32 >>> ((1 : Int32).toUInt32 &&& Int32.toUInt32 31)).toInt32) hx hb dJ6_bitCount_0f7a4_3 rfl ?_
  refine lv_topi (fun x1 ex1 => ?_)
  have hw := hw x1 ex1
  refine lv_ldcw (v := 1431655765) hx hb hown (hts _ uw_J6_bitCount_0f7a4_k265) dJ6_bitCount_0f7a4_4 ?_
  refine lv_iand hx hb dJ6_bitCount_0f7a4_7 ?_
  refine lv_isub hx hb dJ6_bitCount_0f7a4_8 ?_
  refine lv_topi (fun x2 ex2 => ?_)
  have hw := hw x2 ex2
  refine lv_istore_n (lv' := [(0, .int x2)]) hx hb dJ6_bitCount_0f7a4_9 rfl hl (by decide) rfl (fun ls hl => ?_)
  refine lv_iload_n hx hb dJ6_bitCount_0f7a4_10 rfl (lv_at hl 0 rfl) ?_
  refine lv_ldcw (v := 858993459) hx hb hown (hts _ uw_J6_bitCount_0f7a4_k266) dJ6_bitCount_0f7a4_11 ?_
  refine lv_iand hx hb dJ6_bitCount_0f7a4_14 ?_
  refine lv_iload_n hx hb dJ6_bitCount_0f7a4_15 rfl (lv_at hl 0 rfl) ?_
  refine lv_iconst (v := 2) hx hb dJ6_bitCount_0f7a4_16 (by decide) ?_
  refine lv_iushr (v := (x2.toUInt32 >>> ((2 : Int32).toUInt32 &&& Int32.toUInt32 31)).toInt32) hx hb dJ6_bitCount_0f7a4_17 rfl ?_
  refine lv_topi (fun x3 ex3 => ?_)
  have hw := hw x3 ex3
  refine lv_ldcw (v := 858993459) hx hb hown (hts _ uw_J6_bitCount_0f7a4_k266) dJ6_bitCount_0f7a4_18 ?_
  refine lv_iand hx hb dJ6_bitCount_0f7a4_21 ?_
  refine lv_iadd hx hb dJ6_bitCount_0f7a4_22 ?_
  refine lv_topi (fun x4 ex4 => ?_)
  have hw := hw x4 ex4
  refine lv_istore_n (lv' := [(0, .int x4)]) hx hb dJ6_bitCount_0f7a4_23 rfl hl (by decide) rfl (fun ls hl => ?_)
  refine lv_iload_n hx hb dJ6_bitCount_0f7a4_24 rfl (lv_at hl 0 rfl) ?_
  refine lv_iload_n hx hb dJ6_bitCount_0f7a4_25 rfl (lv_at hl 0 rfl) ?_
  refine lv_iconst (v := 4) hx hb dJ6_bitCount_0f7a4_26 (by decide) ?_
  refine lv_iushr (v := (x4.toUInt32 >>> ((4 : Int32).toUInt32 &&& Int32.toUInt32 31)).toInt32) hx hb dJ6_bitCount_0f7a4_27 rfl ?_
  refine lv_topi (fun x5 ex5 => ?_)
  have hw := hw x5 ex5
  refine lv_iadd hx hb dJ6_bitCount_0f7a4_28 ?_
  refine lv_ldcw (v := 252645135) hx hb hown (hts _ uw_J6_bitCount_0f7a4_k267) dJ6_bitCount_0f7a4_29 ?_
  refine lv_iand hx hb dJ6_bitCount_0f7a4_32 ?_
  refine lv_topi (fun x6 ex6 => ?_)
  have hw := hw x6 ex6
  refine lv_istore_n (lv' := [(0, .int x6)]) hx hb dJ6_bitCount_0f7a4_33 rfl hl (by decide) rfl (fun ls hl => ?_)
  refine lv_iload_n hx hb dJ6_bitCount_0f7a4_34 rfl (lv_at hl 0 rfl) ?_
  refine lv_iload_n hx hb dJ6_bitCount_0f7a4_35 rfl (lv_at hl 0 rfl) ?_
  refine lv_bipush (v := 8) hx hb dJ6_bitCount_0f7a4_36 (by decide) ?_
  refine lv_iushr (v := (x6.toUInt32 >>> ((8 : Int32).toUInt32 &&& Int32.toUInt32 31)).toInt32) hx hb dJ6_bitCount_0f7a4_38 rfl ?_
  refine lv_topi (fun x7 ex7 => ?_)
  have hw := hw x7 ex7
  refine lv_iadd hx hb dJ6_bitCount_0f7a4_39 ?_
  refine lv_topi (fun x8 ex8 => ?_)
  have hw := hw x8 ex8
  refine lv_istore_n (lv' := [(0, .int x8)]) hx hb dJ6_bitCount_0f7a4_40 rfl hl (by decide) rfl (fun ls hl => ?_)
  refine lv_iload_n hx hb dJ6_bitCount_0f7a4_41 rfl (lv_at hl 0 rfl) ?_
  refine lv_iload_n hx hb dJ6_bitCount_0f7a4_42 rfl (lv_at hl 0 rfl) ?_
  refine lv_bipush (v := 16) hx hb dJ6_bitCount_0f7a4_43 (by decide) ?_
  refine lv_iushr (v := (x8.toUInt32 >>> ((16 : Int32).toUInt32 &&& Int32.toUInt32 31)).toInt32) hx hb dJ6_bitCount_0f7a4_45 rfl ?_
  refine lv_topi (fun x9 ex9 => ?_)
  have hw := hw x9 ex9
  refine lv_iadd hx hb dJ6_bitCount_0f7a4_46 ?_
  refine lv_topi (fun x10 ex10 => ?_)
  have hw := hw x10 ex10
  refine lv_istore_n (lv' := [(0, .int x10)]) hx hb dJ6_bitCount_0f7a4_47 rfl hl (by decide) rfl (fun ls hl => ?_)
  refine lv_iload_n hx hb dJ6_bitCount_0f7a4_48 rfl (lv_at hl 0 rfl) ?_
  refine lv_bipush (v := 63) hx hb dJ6_bitCount_0f7a4_49 (by decide) ?_
  refine lv_iand hx hb dJ6_bitCount_0f7a4_51 ?_
  exact ((W.iret (v := (x10 &&& 63)) hx hb hr (fun t ht hW => ⟨⟨(x10 &&& 63), (), rfl, hw, by rw [ht]; exact hP, va_K.moved hW.alike hK, hD⟩, hS.F ht⟩) hS.2.2 dJ6_bitCount_0f7a4_52))
def wq_X10_within   (p0 : Int32) (p1 : Int32) (p2 : Int32) (Q : Int32 → Prop) : Prop := ((p0 < p1 → (Q 0)) ∧ (¬ p0 < p1 → ((p2 < p0 → (Q 0)) ∧ (¬ p2 < p0 → (Q 1)))))
set_option maxHeartbeats 4000000 in
set_option maxRecDepth 100000 in
theorem ck_X10_within (l : Launch) (dC : Nat → ClassId) (dI : Nat → Nat → Nat) (cyB cyI cyJ cyP : ClassId) (sz : Nat)    (p0 : Int32) (p1 : Int32) (p2 : Int32) {Q : Int32 → Prop} (hw : wq_X10_within   p0 p1 p2 Q) : Met l yX10_within wsX10_within ({ frames := 0, cells := 0, slots := 0, locals := 0 }) (va_Pc [.int p0, .int p1, .int p2] (cPc (dC, dI) (kT cyB cyI cyJ cyP) [] sz)) (va_Qi (fun (r : Int32) (_ : Unit) => Q r ) (cB (dC, dI) (kT cyB cyI cyJ cyP) (va_A [] sz) (fun u : Unit => ([] : va_W))) (va_A [] sz)) 0 0 (va_A [] sz) := by
  refine Met.ofW (cc := cX10_within) (maxL := 3) (ret := (some .boolean)) (by decide) rfl ?_
  intro p e s m args below meth c s₁ B hml hv
  obtain ⟨rfl, hsz, hP, hK, hD0, hNw⟩ := hv
  have hx := B.exec
  have hb := B.bytes
  have hr := B.returns
  have hts := atoms_spec (ws := wsX10_within) B.pre
  have hown : s.vm.findClass RX10 = some m.cls := findClass_of_methodNamed B.named
  have hlocks := B.notSynchronized
  subst hsz
  have hD := hD0.self (sz := s.heap.size)
  generalize hAe : va_A [] s.heap.size = A at hD ⊢
  have hA : ∀ q : Nat, s.heap.size ≤ q → A q := fun q h => by rw [← hAe]; exact Or.inr h
  have hS : va_S A s.heap s.heap [] := va_S.rf
  have hP : va_P (dC, dI) vwCl [] s.heap := hP
  have hl := lv_entry ([.int p0, .int p1, .int p2]) (n := 3) (Nat.le_of_ble_eq_true rfl)
  rw [lg_entry_eq]
  generalize (lg_sl ([.int p0, .int p1, .int p2]) ++ List.replicate (3 - (lg_sl ([.int p0, .int p1, .int p2])).length) Slot.unset).toArray = ls at hl ⊢
  have hl : lv_has ls 3 [(0, .int p0), (1, .int p1), (2, .int p2)] := hl
  have C0 : cfx p s m _ meth c cX10_within (some .boolean) wsX10_within RX10 3 A (dC, dI) (kT cyB cyI cyJ cyP) := ⟨hx, hb, hr, hts, hown, hlocks, hml, hA, hK, hNw⟩
  clear hAe
  obtain ⟨H, hH⟩ : ∃ H, H = s.heap := ⟨_, rfl⟩
  rw [← hH] at hP ⊢
  have hS : va_S A s.heap H [] := by rw [hH]; exact va_S.rf
  have hS := hS
  refine lv_iload_n hx hb dX10_within_0 rfl (lv_at hl 0 rfl) ?_
  refine lv_iload_n hx hb dX10_within_1 rfl (lv_at hl 1 rfl) ?_
  refine lv_icmp_lt (tgt := 14) hx hb dX10_within_2 (by decide) (fun c1 => ?_) (fun c1 => ?_)
  · have hw := hw.1 c1
    refine lv_iconst (v := 0) hx hb dX10_within_14 (by decide) ?_
    exact ((W.zret (v := 0) hx hb hr rfl (fun t ht hW => ⟨⟨0, (), rfl, hw, by rw [ht]; exact hP, va_K.moved hW.alike hK, hD⟩, hS.F ht⟩) hS.2.2 dX10_within_15))
  · have hw := hw.2 c1
    refine lv_iload_n hx hb dX10_within_5 rfl (lv_at hl 0 rfl) ?_
    refine lv_iload_n hx hb dX10_within_6 rfl (lv_at hl 2 rfl) ?_
    refine lv_icmp_gt (tgt := 14) hx hb dX10_within_7 (by decide) (fun c2 => ?_) (fun c2 => ?_)
    · have hw := hw.1 c2
      refine lv_iconst (v := 0) hx hb dX10_within_14 (by decide) ?_
      exact ((W.zret (v := 0) hx hb hr rfl (fun t ht hW => ⟨⟨0, (), rfl, hw, by rw [ht]; exact hP, va_K.moved hW.alike hK, hD⟩, hS.F ht⟩) hS.2.2 dX10_within_15))
    · have hw := hw.2 c2
      refine lv_iconst (v := 1) hx hb dX10_within_10 (by decide) ?_
      refine lv_goto (tgt := 15) hx hb dX10_within_11 (by decide) ?_
      exact ((W.zret (v := 1) hx hb hr rfl (fun t ht hW => ⟨⟨1, (), rfl, hw, by rw [ht]; exact hP, va_K.moved hW.alike hK, hD⟩, hS.F ht⟩) hS.2.2 dX10_within_15))
theorem ub_X10_needLegal_409 : ∀ w ∈ (vx_atS RX10 409 "java/lang/IllegalArgumentException" ["java/lang/RuntimeException", "java/lang/Exception"]).filter (fun w => !goodWord w), w ∈ xB := by decide +kernel
theorem ug_X10_needLegal_409 : ∀ w ∈ Cond.classLink RX10 405 "java/lang/IllegalArgumentException" :: Cond.initialized "java/lang/IllegalArgumentException" :: vx_atS RX10 409 "java/lang/IllegalArgumentException" ["java/lang/RuntimeException", "java/lang/Exception"], vx_ot w = true := by decide +kernel
theorem uh_X10_needLegal_409 : ∀ w ∈ (vx_atS RX10 409 "java/lang/IllegalArgumentException" ["java/lang/RuntimeException", "java/lang/Exception"]).filter goodWord, w ∈ wsX10_needLegal := by decide +kernel
theorem ui_X10_needLegal_X10 : ∀ w ∈ u_ws RX10 TX10 19, w ∈ wsX10_needLegal := by decide +kernel
theorem uw_X10_needLegal_cl405 : (.classLink RX10 405 "java/lang/IllegalArgumentException" : Cond) ∈ wsX10_needLegal := by decide +kernel
theorem uw_X10_needLegal_f395 : (.fieldLink RX10 395 "MarchHares" "callsIllegal" "I" : Cond) ∈ wsX10_needLegal := by decide +kernel
theorem uw_X10_needLegal_ini405 : (.initialized "java/lang/IllegalArgumentException" : Cond) ∈ wsX10_needLegal := by decide +kernel
def wq_X10_needLegal  (v0_callsIllegal : Int32) (p1 : Int32) (E : String → Int32 → Prop) (Q : Int32 → Prop) : Prop := ((¬ p1 = 0 → (Q v0_callsIllegal)) ∧ (p1 = 0 → ∀ x2 : Int32, x2 = v0_callsIllegal + 1 → (E "java/lang/IllegalArgumentException" x2)))
set_option maxHeartbeats 4000000 in
set_option maxRecDepth 100000 in
theorem ck_X10_needLegal (l : Launch) (dC : Nat → ClassId) (dI : Nat → Nat → Nat) (cyB cyI cyJ cyP : ClassId) (a0 : Nat) (sz : Nat) (z0_tape : Value) (z0_ground : Value) (z0_spareGround : Value) (z0_rule : Value) (z0_spareRule : Value) (z0_lines : Value) (z0_spareLines : Value) (z0_steps : Value) (z0_now : Value) (z0_trial : Value) (z0_past : Value) (z0_images : Value) (z0_round : Value) (z0_seating : Value) (z0_fitting : Value) (z0_imagesKept : Value) (z0_refusedSteps : Value) (z0_callsNoSuch : Value)  (v0_callsIllegal : Int32) (p1 : Int32) {E : String → Int32 → Prop} {Q : Int32 → Prop} (hw : wq_X10_needLegal  v0_callsIllegal p1 E Q) : vx_Met l yX10_needLegal wsX10_needLegal ({ frames := 6, cells := 1, slots := 6, locals := 120 }) (va_Pc [.ref a0, .int p1] (cPx l (dC, dI) (kT cyB cyI cyJ cyP) [(a0, .inr (10, [z0_tape, z0_ground, z0_spareGround, z0_rule, z0_spareRule, z0_lines, z0_spareLines, z0_steps, z0_now, z0_trial, z0_past, z0_images, z0_round, z0_seating, z0_fitting, z0_imagesKept, z0_refusedSteps, z0_callsNoSuch, .int v0_callsIllegal]))] sz)) (va_Qv (fun (u : Int32) => Q u) (cB (dC, dI) (kT cyB cyI cyJ cyP) (va_A [(a0, .inr (10, [z0_tape, z0_ground, z0_spareGround, z0_rule, z0_spareRule, z0_lines, z0_spareLines, z0_steps, z0_now, z0_trial, z0_past, z0_images, z0_round, z0_seating, z0_fitting, z0_imagesKept, z0_refusedSteps, z0_callsNoSuch, .int v0_callsIllegal]))] sz) (fun u : Int32 => ([(a0, .inr (10, [z0_tape, z0_ground, z0_spareGround, z0_rule, z0_spareRule, z0_lines, z0_spareLines, z0_steps, z0_now, z0_trial, z0_past, z0_images, z0_round, z0_seating, z0_fitting, z0_imagesKept, z0_refusedSteps, z0_callsNoSuch, .int u]))] : va_W))) (va_A [(a0, .inr (10, [z0_tape, z0_ground, z0_spareGround, z0_rule, z0_spareRule, z0_lines, z0_spareLines, z0_steps, z0_now, z0_trial, z0_past, z0_images, z0_round, z0_seating, z0_fitting, z0_imagesKept, z0_refusedSteps, z0_callsNoSuch, .int v0_callsIllegal]))] sz)) (vx_X (fun _ => True) (fun (en : String) (u : Int32) (t : State) => E en u ∧ cB (dC, dI) (kT cyB cyI cyJ cyP) (va_A [(a0, .inr (10, [z0_tape, z0_ground, z0_spareGround, z0_rule, z0_spareRule, z0_lines, z0_spareLines, z0_steps, z0_now, z0_trial, z0_past, z0_images, z0_round, z0_seating, z0_fitting, z0_imagesKept, z0_refusedSteps, z0_callsNoSuch, .int v0_callsIllegal]))] sz) (fun u : Int32 => ([(a0, .inr (10, [z0_tape, z0_ground, z0_spareGround, z0_rule, z0_spareRule, z0_lines, z0_spareLines, z0_steps, z0_now, z0_trial, z0_past, z0_images, z0_round, z0_seating, z0_fitting, z0_imagesKept, z0_refusedSteps, z0_callsNoSuch, .int u]))] : va_W)) u t) (va_A [(a0, .inr (10, [z0_tape, z0_ground, z0_spareGround, z0_rule, z0_spareRule, z0_lines, z0_spareLines, z0_steps, z0_now, z0_trial, z0_past, z0_images, z0_round, z0_seating, z0_fitting, z0_imagesKept, z0_refusedSteps, z0_callsNoSuch, .int v0_callsIllegal]))] sz)) 1 6 (va_A [(a0, .inr (10, [z0_tape, z0_ground, z0_spareGround, z0_rule, z0_spareRule, z0_lines, z0_spareLines, z0_steps, z0_now, z0_trial, z0_past, z0_images, z0_round, z0_seating, z0_fitting, z0_imagesKept, z0_refusedSteps, z0_callsNoSuch, .int v0_callsIllegal]))] sz) := by
  refine vx_ofW (cc := cX10_needLegal) (maxL := 2) (ret := none) (by decide) rfl ?_
  intro p e s m args below meth c s₁ B hml hnt hv
  obtain ⟨rfl, hsz, hP, hK, hD0, hNw, hXl, hXu, hXn, hXt⟩ := hv
  have hx := B.exec
  have hb := B.bytes
  have hr := B.returns
  have hts := atoms_spec (ws := wsX10_needLegal) B.pre
  have hown : s.vm.findClass RX10 = some m.cls := findClass_of_methodNamed B.named
  have hlocks := B.notSynchronized
  subst hsz
  have hD := hD0.self (sz := s.heap.size)
  generalize hAe : va_A [(a0, .inr (10, [z0_tape, z0_ground, z0_spareGround, z0_rule, z0_spareRule, z0_lines, z0_spareLines, z0_steps, z0_now, z0_trial, z0_past, z0_images, z0_round, z0_seating, z0_fitting, z0_imagesKept, z0_refusedSteps, z0_callsNoSuch, .int v0_callsIllegal]))] s.heap.size = A at hD hXu hXn ⊢
  have hA : ∀ q : Nat, s.heap.size ≤ q → A q := fun q h => by rw [← hAe]; exact Or.inr h
  have hS : va_S A s.heap s.heap [] := va_S.rf
  have hP : va_P (dC, dI) vwCl [(a0, .inr (10, [z0_tape, z0_ground, z0_spareGround, z0_rule, z0_spareRule, z0_lines, z0_spareLines, z0_steps, z0_now, z0_trial, z0_past, z0_images, z0_round, z0_seating, z0_fitting, z0_imagesKept, z0_refusedSteps, z0_callsNoSuch, .int v0_callsIllegal]))] s.heap := hP
  have hl := lv_entry ([.ref a0, .int p1]) (n := 2) (Nat.le_of_ble_eq_true rfl)
  rw [lg_entry_eq]
  generalize (lg_sl ([.ref a0, .int p1]) ++ List.replicate (2 - (lg_sl ([.ref a0, .int p1])).length) Slot.unset).toArray = ls at hl ⊢
  have hl : lv_has ls 2 [(0, .ref a0), (1, .int p1)] := hl
  have hY : cfY l s A := ⟨hXl, hXu, hXn, hXt⟩
  have hXs : cfX l s c A := ⟨hnt, hY⟩
  have C0 : cfx p s m _ meth c cX10_needLegal none wsX10_needLegal RX10 2 A (dC, dI) (kT cyB cyI cyJ cyP) ∧ cfX l s c A := ⟨⟨hx, hb, hr, hts, hown, hlocks, hml, hA, hK, hNw⟩, hXs⟩
  clear hAe
  obtain ⟨H, hH⟩ : ∃ H, H = s.heap := ⟨_, rfl⟩
  rw [← hH] at hP ⊢
  have hS : va_S A s.heap H [] := by rw [hH]; exact va_S.rf
  have hS := hS
  refine lv_iload_n hx hb dX10_needLegal_0 rfl (lv_at hl 1 rfl) ?_
  refine lv_if_ne (tgt := 25) hx hb dX10_needLegal_1 (by decide) (fun c1 => ?_) (fun c1 => ?_)
  · have hw := hw.1 c1
    exact vx_ret (W.widen (k := 1) (n := 6) (Nat.le_of_ble_eq_true rfl) (Nat.le_of_ble_eq_true rfl) (W.vret hx hb hr (fun t ht hW => ⟨⟨(v0_callsIllegal), rfl, hw, by rw [ht]; exact hP, va_K.moved hW.alike hK, hD⟩, hS.F ht⟩) hS.2.2 dX10_needLegal_25))
  · have hw := hw.2 c1
    refine lv_aload_n hx hb dX10_needLegal_4 rfl (lv_at hl 0 rfl) ?_
    refine lv_dup hx hb dX10_needLegal_5 rfl ?_
    refine va_get (D := (dC, dI)) (ci := 10) (v := .int v0_callsIllegal) (C := RX10) (T := TX10) (N := 19) hx hb hts ui_X10_needLegal_X10 hown hK hP 0 rfl rfl 18 (by decide) (hts _ uw_X10_needLegal_f395) (fun _ h9 => h9) rfl dX10_needLegal_6 ?_
    refine lv_iconst (v := 1) hx hb dX10_needLegal_9 (by decide) ?_
    refine lv_iadd hx hb dX10_needLegal_10 ?_
    refine lv_topi (fun x2 ex2 => ?_)
    have hw := hw x2 ex2
    refine va_put (D := (dC, dI)) (ci := 10) (v := .int x2) (ty := .int) (C := RX10) (T := TX10) (N := 19) hx hb hts ui_X10_needLegal_X10 tyX10 tyX10_ok nmX10 hown hK hP hD hS 0 rfl rfl 18 (by decide) (hts _ uw_X10_needLegal_f395) (fun _ h9 => h9) rfl (by decide +kernel) rfl rfl (Nat.le_of_ble_eq_true rfl) dX10_needLegal_11 (fun H locs hP hD hS => ?_)
    have hP : va_P (dC, dI) vwCl [(a0, .inr (10, [z0_tape, z0_ground, z0_spareGround, z0_rule, z0_spareRule, z0_lines, z0_spareLines, z0_steps, z0_now, z0_trial, z0_past, z0_images, z0_round, z0_seating, z0_fitting, z0_imagesKept, z0_refusedSteps, z0_callsNoSuch, .int x2]))] H := hP
    have hD : va_D A [(a0, .inr (10, [z0_tape, z0_ground, z0_spareGround, z0_rule, z0_spareRule, z0_lines, z0_spareLines, z0_steps, z0_now, z0_trial, z0_past, z0_images, z0_round, z0_seating, z0_fitting, z0_imagesKept, z0_refusedSteps, z0_callsNoSuch, .int x2]))] := hD
    obtain ⟨sa9, hsa9⟩ := hY.2.2.2.2.1 _ (List.mem_of_getElem? (i := 3) rfl)
    exact vx_throwSW hx hb hY.1 (own := RX10) (cls := "java/lang/IllegalArgumentException") (names := ["java/lang/RuntimeException", "java/lang/Exception"]) (ik := 405) (is := 407) (ic := 409) hown (by decide +kernel) (by decide +kernel) (hts _ uw_X10_needLegal_cl405) (hts _ uw_X10_needLegal_ini405) hsa9 (vx_hat (fun w hw9 => hts w (uh_X10_needLegal_409 w hw9)) ub_X10_needLegal_409 (xB_use hY.2.2.2.1)) ug_X10_needLegal_409 hY.2.1 hY.2.2.1 hS (by rw [hml]; exact hl.1) dX10_needLegal_14 dX10_needLegal_17 dX10_needLegal_18 dX10_needLegal_21 dX10_needLegal_24 (fun x hx9 => (hXs.1 x hx9).elim) (Nat.le_of_ble_eq_true rfl) (Nat.le_of_ble_eq_true rfl) (Nat.le_of_ble_eq_true rfl) (Nat.le_of_ble_eq_true rfl) hlocks (fun t hal hsz9 hq9 => ⟨(x2), trivial, ⟨hw, hP.kept (fun k q hk9 => hq9 _ ((hP k q hk9).lt)), va_K.moved hal hK, hD⟩, xt_frame hS hsz9 hq9⟩) hS.2.2 (Nat.le_of_ble_eq_true rfl) (Nat.le_of_ble_eq_true rfl)
def wq_X10_needWithin  (v0_callsIllegal : Int32) (p1 : Int32) (p2 : Int32) (p3 : Int32) (E : String → Int32 → Prop) (Q : Int32 → Prop) : Prop := wq_X10_within   p1 p2 p3 (fun r1 => wq_X10_needLegal  v0_callsIllegal r1 (fun en x2 => E en x2) (fun x2 => (Q x2)))
set_option maxHeartbeats 4000000 in
set_option maxRecDepth 100000 in
theorem ck_X10_needWithin (l : Launch) (dC : Nat → ClassId) (dI : Nat → Nat → Nat) (cyB cyI cyJ cyP : ClassId) (a0 : Nat) (sz : Nat) (z0_tape : Value) (z0_ground : Value) (z0_spareGround : Value) (z0_rule : Value) (z0_spareRule : Value) (z0_lines : Value) (z0_spareLines : Value) (z0_steps : Value) (z0_now : Value) (z0_trial : Value) (z0_past : Value) (z0_images : Value) (z0_round : Value) (z0_seating : Value) (z0_fitting : Value) (z0_imagesKept : Value) (z0_refusedSteps : Value) (z0_callsNoSuch : Value)  (v0_callsIllegal : Int32) (p1 : Int32) (p2 : Int32) (p3 : Int32) {E : String → Int32 → Prop} {Q : Int32 → Prop} (hw : wq_X10_needWithin  v0_callsIllegal p1 p2 p3 E Q) : vx_Met l yX10_needWithin wsX10_needWithin ({ frames := 7, cells := 1, slots := 6, locals := 141 }) (va_Pc [.ref a0, .int p1, .int p2, .int p3] (cPx l (dC, dI) (kT cyB cyI cyJ cyP) [(a0, .inr (10, [z0_tape, z0_ground, z0_spareGround, z0_rule, z0_spareRule, z0_lines, z0_spareLines, z0_steps, z0_now, z0_trial, z0_past, z0_images, z0_round, z0_seating, z0_fitting, z0_imagesKept, z0_refusedSteps, z0_callsNoSuch, .int v0_callsIllegal]))] sz)) (va_Qv (fun (u : Int32) => Q u) (cB (dC, dI) (kT cyB cyI cyJ cyP) (va_A [(a0, .inr (10, [z0_tape, z0_ground, z0_spareGround, z0_rule, z0_spareRule, z0_lines, z0_spareLines, z0_steps, z0_now, z0_trial, z0_past, z0_images, z0_round, z0_seating, z0_fitting, z0_imagesKept, z0_refusedSteps, z0_callsNoSuch, .int v0_callsIllegal]))] sz) (fun u : Int32 => ([(a0, .inr (10, [z0_tape, z0_ground, z0_spareGround, z0_rule, z0_spareRule, z0_lines, z0_spareLines, z0_steps, z0_now, z0_trial, z0_past, z0_images, z0_round, z0_seating, z0_fitting, z0_imagesKept, z0_refusedSteps, z0_callsNoSuch, .int u]))] : va_W))) (va_A [(a0, .inr (10, [z0_tape, z0_ground, z0_spareGround, z0_rule, z0_spareRule, z0_lines, z0_spareLines, z0_steps, z0_now, z0_trial, z0_past, z0_images, z0_round, z0_seating, z0_fitting, z0_imagesKept, z0_refusedSteps, z0_callsNoSuch, .int v0_callsIllegal]))] sz)) (vx_X (fun _ => True) (fun (en : String) (u : Int32) (t : State) => E en u ∧ cB (dC, dI) (kT cyB cyI cyJ cyP) (va_A [(a0, .inr (10, [z0_tape, z0_ground, z0_spareGround, z0_rule, z0_spareRule, z0_lines, z0_spareLines, z0_steps, z0_now, z0_trial, z0_past, z0_images, z0_round, z0_seating, z0_fitting, z0_imagesKept, z0_refusedSteps, z0_callsNoSuch, .int v0_callsIllegal]))] sz) (fun u : Int32 => ([(a0, .inr (10, [z0_tape, z0_ground, z0_spareGround, z0_rule, z0_spareRule, z0_lines, z0_spareLines, z0_steps, z0_now, z0_trial, z0_past, z0_images, z0_round, z0_seating, z0_fitting, z0_imagesKept, z0_refusedSteps, z0_callsNoSuch, .int u]))] : va_W)) u t) (va_A [(a0, .inr (10, [z0_tape, z0_ground, z0_spareGround, z0_rule, z0_spareRule, z0_lines, z0_spareLines, z0_steps, z0_now, z0_trial, z0_past, z0_images, z0_round, z0_seating, z0_fitting, z0_imagesKept, z0_refusedSteps, z0_callsNoSuch, .int v0_callsIllegal]))] sz)) 1 6 (va_A [(a0, .inr (10, [z0_tape, z0_ground, z0_spareGround, z0_rule, z0_spareRule, z0_lines, z0_spareLines, z0_steps, z0_now, z0_trial, z0_past, z0_images, z0_round, z0_seating, z0_fitting, z0_imagesKept, z0_refusedSteps, z0_callsNoSuch, .int v0_callsIllegal]))] sz) := by
  refine vx_ofW (cc := cX10_needWithin) (maxL := 4) (ret := none) (by decide) rfl ?_
  intro p e s m args below meth c s₁ B hml hnt hv
  obtain ⟨rfl, hsz, hP, hK, hD0, hNw, hXl, hXu, hXn, hXt⟩ := hv
  have hx := B.exec
  have hb := B.bytes
  have hr := B.returns
  have hts := atoms_spec (ws := wsX10_needWithin) B.pre
  have hown : s.vm.findClass RX10 = some m.cls := findClass_of_methodNamed B.named
  have hlocks := B.notSynchronized
  subst hsz
  have hD := hD0.self (sz := s.heap.size)
  generalize hAe : va_A [(a0, .inr (10, [z0_tape, z0_ground, z0_spareGround, z0_rule, z0_spareRule, z0_lines, z0_spareLines, z0_steps, z0_now, z0_trial, z0_past, z0_images, z0_round, z0_seating, z0_fitting, z0_imagesKept, z0_refusedSteps, z0_callsNoSuch, .int v0_callsIllegal]))] s.heap.size = A at hD hXu hXn ⊢
  have hA : ∀ q : Nat, s.heap.size ≤ q → A q := fun q h => by rw [← hAe]; exact Or.inr h
  have hS : va_S A s.heap s.heap [] := va_S.rf
  have hP : va_P (dC, dI) vwCl [(a0, .inr (10, [z0_tape, z0_ground, z0_spareGround, z0_rule, z0_spareRule, z0_lines, z0_spareLines, z0_steps, z0_now, z0_trial, z0_past, z0_images, z0_round, z0_seating, z0_fitting, z0_imagesKept, z0_refusedSteps, z0_callsNoSuch, .int v0_callsIllegal]))] s.heap := hP
  have hl := lv_entry ([.ref a0, .int p1, .int p2, .int p3]) (n := 4) (Nat.le_of_ble_eq_true rfl)
  rw [lg_entry_eq]
  generalize (lg_sl ([.ref a0, .int p1, .int p2, .int p3]) ++ List.replicate (4 - (lg_sl ([.ref a0, .int p1, .int p2, .int p3])).length) Slot.unset).toArray = ls at hl ⊢
  have hl : lv_has ls 4 [(0, .ref a0), (1, .int p1), (2, .int p2), (3, .int p3)] := hl
  have hY : cfY l s A := ⟨hXl, hXu, hXn, hXt⟩
  have hXs : cfX l s c A := ⟨hnt, hY⟩
  have C0 : cfx p s m _ meth c cX10_needWithin none wsX10_needWithin RX10 4 A (dC, dI) (kT cyB cyI cyJ cyP) ∧ cfX l s c A := ⟨⟨hx, hb, hr, hts, hown, hlocks, hml, hA, hK, hNw⟩, hXs⟩
  clear hAe
  obtain ⟨H, hH⟩ : ∃ H, H = s.heap := ⟨_, rfl⟩
  rw [← hH] at hP ⊢
  have hS : va_S A s.heap H [] := by rw [hH]; exact va_S.rf
  have hS := hS
  refine lv_aload_n hx hb dX10_needWithin_0 rfl (lv_at hl 0 rfl) ?_
  refine lv_iload_n hx hb dX10_needWithin_1 rfl (lv_at hl 1 rfl) ?_
  refine lv_iload_n hx hb dX10_needWithin_2 rfl (lv_at hl 2 rfl) ?_
  refine lv_iload_n hx hb dX10_needWithin_3 rfl (lv_at hl 3 rfl) ?_
  have hPc := hP.sub (ws' := []) [] rfl
  have hDc := hD.sub (ws' := []) [] (by decide) rfl
  have hFc := va_free (wc := []) hD hS hA [] rfl
  refine va_calli (va_runS (As := [.int p1, .int p2, .int p3]) (rest := [.ref a0]) ⟨hx, hb, hml, hown, hts⟩ (ck_X10_within l dC dI cyB cyI cyJ cyP  H.size    p1 p2 p3 hw) (va_cwS 3 hts gX10_needWithin_X10_within rfl rfl rfl (by decide +kernel) ⟨Nat.le_of_ble_eq_true rfl, Nat.le_of_ble_eq_true rfl⟩) ⟨cPc_blind, cPc_pre hPc hK hDc hNw⟩ rfl rfl hl.1 rfl (lv_room (Nat.le_of_ble_eq_true rfl)) dX10_needWithin_4 ⟨Nat.le_of_ble_eq_true rfl, Nat.le_of_ble_eq_true rfl⟩) hS (fun q _ h => hFc q h) hFc (fun r1 u t H1 locs ht hvm hw hB hz1 hk1 hS => ?_)
  obtain ⟨hP1, hK1, hD1⟩ := hB
  rw [ht] at hP1
  obtain ⟨hP, hD⟩ := va_join (wr := [(a0, .inr (10, [z0_tape, z0_ground, z0_spareGround, z0_rule, z0_spareRule, z0_lines, z0_spareLines, z0_steps, z0_now, z0_trial, z0_past, z0_images, z0_round, z0_seating, z0_fitting, z0_imagesKept, z0_refusedSteps, z0_callsNoSuch, .int v0_callsIllegal]))]) (w1 := []) hP hD [] [0] rfl rfl (by decide) (by decide) hk1 hFc hP1 hD1
  have hP : va_P (dC, dI) vwCl [(a0, .inr (10, [z0_tape, z0_ground, z0_spareGround, z0_rule, z0_spareRule, z0_lines, z0_spareLines, z0_steps, z0_now, z0_trial, z0_past, z0_images, z0_round, z0_seating, z0_fitting, z0_imagesKept, z0_refusedSteps, z0_callsNoSuch, .int v0_callsIllegal]))] H1 := hP
  have hD : va_D A [(a0, .inr (10, [z0_tape, z0_ground, z0_spareGround, z0_rule, z0_spareRule, z0_lines, z0_spareLines, z0_steps, z0_now, z0_trial, z0_past, z0_images, z0_round, z0_seating, z0_fitting, z0_imagesKept, z0_refusedSteps, z0_callsNoSuch, .int v0_callsIllegal]))] := hD
  generalize H1 = H at hP hS ⊢
  have hPc := hP.sub (ws' := [(a0, .inr (10, [z0_tape, z0_ground, z0_spareGround, z0_rule, z0_spareRule, z0_lines, z0_spareLines, z0_steps, z0_now, z0_trial, z0_past, z0_images, z0_round, z0_seating, z0_fitting, z0_imagesKept, z0_refusedSteps, z0_callsNoSuch, .int v0_callsIllegal]))]) [0] rfl
  have hDc := hD.sub (ws' := [(a0, .inr (10, [z0_tape, z0_ground, z0_spareGround, z0_rule, z0_spareRule, z0_lines, z0_spareLines, z0_steps, z0_now, z0_trial, z0_past, z0_images, z0_round, z0_seating, z0_fitting, z0_imagesKept, z0_refusedSteps, z0_callsNoSuch, .int v0_callsIllegal]))]) [0] (by decide) rfl
  have hFc := va_free (wc := [(a0, .inr (10, [z0_tape, z0_ground, z0_spareGround, z0_rule, z0_spareRule, z0_lines, z0_spareLines, z0_steps, z0_now, z0_trial, z0_past, z0_images, z0_round, z0_seating, z0_fitting, z0_imagesKept, z0_refusedSteps, z0_callsNoSuch, .int v0_callsIllegal]))]) hD hS hA [0] rfl
  refine vx_callv (vx_runV (As := [.int r1]) (rest := []) ⟨hx, hb, hml, hown, hts⟩ (ck_X10_needLegal l dC dI cyB cyI cyJ cyP a0 H.size (z0_tape) (z0_ground) (z0_spareGround) (z0_rule) (z0_spareRule) (z0_lines) (z0_spareLines) (z0_steps) (z0_now) (z0_trial) (z0_past) (z0_images) (z0_round) (z0_seating) (z0_fitting) (z0_imagesKept) (z0_refusedSteps) (z0_callsNoSuch)  v0_callsIllegal r1 hw) (cwV 1 hts gX10_needWithin_X10_needLegal rfl rfl rfl (by decide +kernel) ⟨Nat.le_of_ble_eq_true rfl, Nat.le_of_ble_eq_true rfl⟩) ⟨cPx_blind, va_recv hK hPc (ci := 10) (q0 := 0) rfl rfl, cPx_pre hPc hK hDc hNw hY hS hFc⟩ rfl rfl hl.1 rfl (lv_room (Nat.le_of_ble_eq_true rfl)) dX10_needWithin_7 ⟨Nat.le_of_ble_eq_true rfl, Nat.le_of_ble_eq_true rfl⟩) hS (fun q _ h => hFc q h) hFc (fun q _ h => hFc q h) (fun en ce q9 u t H1 locs ht hvm hpx hB hz1 hk1 hS hc9 hv9 hcl9 => ?_) (fun u t H1 locs ht hvm hw hB hz1 hk1 hS => ?_)
  · obtain ⟨x2, rfl⟩ : ∃ z, z = u := ⟨_, rfl⟩
    obtain ⟨hw, hP1, hK1, hD1⟩ := hB
    rw [ht] at hP1
    obtain ⟨hP, hD⟩ := va_join (wr := []) (w1 := [(a0, .inr (10, [z0_tape, z0_ground, z0_spareGround, z0_rule, z0_spareRule, z0_lines, z0_spareLines, z0_steps, z0_now, z0_trial, z0_past, z0_images, z0_round, z0_seating, z0_fitting, z0_imagesKept, z0_refusedSteps, z0_callsNoSuch, .int x2]))]) hP hD [0] [] rfl rfl (by decide) (by decide) hk1 hFc hP1 hD1
    have hP : va_P (dC, dI) vwCl [(a0, .inr (10, [z0_tape, z0_ground, z0_spareGround, z0_rule, z0_spareRule, z0_lines, z0_spareLines, z0_steps, z0_now, z0_trial, z0_past, z0_images, z0_round, z0_seating, z0_fitting, z0_imagesKept, z0_refusedSteps, z0_callsNoSuch, .int x2]))] H1 := hP
    have hD : va_D A [(a0, .inr (10, [z0_tape, z0_ground, z0_spareGround, z0_rule, z0_spareRule, z0_lines, z0_spareLines, z0_steps, z0_now, z0_trial, z0_past, z0_images, z0_round, z0_seating, z0_fitting, z0_imagesKept, z0_refusedSteps, z0_callsNoSuch, .int x2]))] := hD
    generalize H1 = H at hP hS hc9 ⊢
    exact vx_out (fun x hx9 => (hXs.1 x hx9).elim) hlocks hc9 hv9 hcl9 (fun t2 ht2 hal2 => ⟨(x2), trivial, ⟨hw, by rw [ht2]; exact hP, va_K.moved hal2 hK, hD⟩, hS.F ht2⟩) hS.2.2 (Nat.le_of_ble_eq_true rfl) (Nat.le_of_ble_eq_true rfl)
  obtain ⟨x2, rfl⟩ : ∃ z, z = u := ⟨_, rfl⟩
  obtain ⟨hP1, hK1, hD1⟩ := hB
  rw [ht] at hP1
  obtain ⟨hP, hD⟩ := va_join (wr := []) (w1 := [(a0, .inr (10, [z0_tape, z0_ground, z0_spareGround, z0_rule, z0_spareRule, z0_lines, z0_spareLines, z0_steps, z0_now, z0_trial, z0_past, z0_images, z0_round, z0_seating, z0_fitting, z0_imagesKept, z0_refusedSteps, z0_callsNoSuch, .int x2]))]) hP hD [0] [] rfl rfl (by decide) (by decide) hk1 hFc hP1 hD1
  have hP : va_P (dC, dI) vwCl [(a0, .inr (10, [z0_tape, z0_ground, z0_spareGround, z0_rule, z0_spareRule, z0_lines, z0_spareLines, z0_steps, z0_now, z0_trial, z0_past, z0_images, z0_round, z0_seating, z0_fitting, z0_imagesKept, z0_refusedSteps, z0_callsNoSuch, .int x2]))] H1 := hP
  have hD : va_D A [(a0, .inr (10, [z0_tape, z0_ground, z0_spareGround, z0_rule, z0_spareRule, z0_lines, z0_spareLines, z0_steps, z0_now, z0_trial, z0_past, z0_images, z0_round, z0_seating, z0_fitting, z0_imagesKept, z0_refusedSteps, z0_callsNoSuch, .int x2]))] := hD
  generalize H1 = H at hP hS ⊢
  exact vx_ret (W.widen (k := 1) (n := 6) (Nat.le_of_ble_eq_true rfl) (Nat.le_of_ble_eq_true rfl) (W.vret hx hb hr (fun t ht hW => ⟨⟨(x2), rfl, hw, by rw [ht]; exact hP, va_K.moved hW.alike hK, hD⟩, hS.F ht⟩) hS.2.2 dX10_needWithin_10))
theorem ui_X8_open_X8 : ∀ w ∈ u_ws RX8 TX8 7, w ∈ wsX8_open := by decide +kernel
theorem uw_X8_open_f15 : (.fieldLink RX8 15 "MarchHares$Tape" "faultPlace" "I" : Cond) ∈ wsX8_open := by decide +kernel
theorem uw_X8_open_f19 : (.fieldLink RX8 19 "MarchHares$Tape" "filled" "I" : Cond) ∈ wsX8_open := by decide +kernel
theorem uw_X8_open_f28 : (.fieldLink RX8 28 "MarchHares$Tape" "length" "I" : Cond) ∈ wsX8_open := by decide +kernel
theorem uw_X8_open_f31 : (.fieldLink RX8 31 "MarchHares$Tape" "at" "I" : Cond) ∈ wsX8_open := by decide +kernel
theorem uw_X8_open_f34 : (.fieldLink RX8 34 "MarchHares$Tape" "token" "I" : Cond) ∈ wsX8_open := by decide +kernel
theorem uw_X8_open_f37 : (.fieldLink RX8 37 "MarchHares$Tape" "fault" "I" : Cond) ∈ wsX8_open := by decide +kernel
theorem uw_X8_open_inim : (.initialized "java/lang/Math" : Cond) ∈ wsX8_open := by decide +kernel
theorem uw_X8_open_m22 : (.methodLink RX8 22 Lib.Math.min.name : Cond) ∈ wsX8_open := by decide +kernel
theorem uw_X8_open_mcmin : (.code Lib.Math.min.name Lib.Math.min.code 2 (some .int) : Cond) ∈ wsX8_open := by decide +kernel
theorem uw_X8_open_msmin : (.static Lib.Math.min.name : Cond) ∈ wsX8_open := by decide +kernel
def wq_X8_open  (v0_length : Int32) (v0_at : Int32) (v0_token : Int32) (v0_filled : Int32) (v0_fault : Int32) (v0_faultPlace : Int32) (p1 : Int32) (Q : Int32 → Int32 → Int32 → Int32 → Int32 → Int32 → Prop) : Prop := ∀ x1 : Int32, x1 = (if 600 < p1 then 600 else p1) → (Q x1 0 0 0 0 (-1))
set_option maxHeartbeats 4000000 in
set_option maxRecDepth 100000 in
theorem ck_X8_open (l : Launch) (dC : Nat → ClassId) (dI : Nat → Nat → Nat) (cyB cyI cyJ cyP : ClassId) (a0 : Nat) (sz : Nat) (z0_bytes : Value)  (v0_length : Int32) (v0_at : Int32) (v0_token : Int32) (v0_filled : Int32) (v0_fault : Int32) (v0_faultPlace : Int32) (p1 : Int32) {Q : Int32 → Int32 → Int32 → Int32 → Int32 → Int32 → Prop} (hw : wq_X8_open  v0_length v0_at v0_token v0_filled v0_fault v0_faultPlace p1 Q) : Met l yX8_open wsX8_open ({ frames := 1, cells := 0, slots := 0, locals := 32 }) (va_Pc [.ref a0, .int p1] (cPc (dC, dI) (kT cyB cyI cyJ cyP) [(a0, .inr (8, [z0_bytes, .int v0_length, .int v0_at, .int v0_token, .int v0_filled, .int v0_fault, .int v0_faultPlace]))] sz)) (va_Qv (fun (u : Int32 × Int32 × Int32 × Int32 × Int32 × Int32) => Q u.1 u.2.1 u.2.2.1 u.2.2.2.1 u.2.2.2.2.1 u.2.2.2.2.2) (cB (dC, dI) (kT cyB cyI cyJ cyP) (va_A [(a0, .inr (8, [z0_bytes, .int v0_length, .int v0_at, .int v0_token, .int v0_filled, .int v0_fault, .int v0_faultPlace]))] sz) (fun u : Int32 × Int32 × Int32 × Int32 × Int32 × Int32 => ([(a0, .inr (8, [z0_bytes, .int u.1, .int u.2.1, .int u.2.2.1, .int u.2.2.2.1, .int u.2.2.2.2.1, .int u.2.2.2.2.2]))] : va_W))) (va_A [(a0, .inr (8, [z0_bytes, .int v0_length, .int v0_at, .int v0_token, .int v0_filled, .int v0_fault, .int v0_faultPlace]))] sz)) 0 0 (va_A [(a0, .inr (8, [z0_bytes, .int v0_length, .int v0_at, .int v0_token, .int v0_filled, .int v0_fault, .int v0_faultPlace]))] sz) := by
  refine Met.ofW (cc := cX8_open) (maxL := 2) (ret := none) (by decide) rfl ?_
  intro p e s m args below meth c s₁ B hml hv
  obtain ⟨rfl, hsz, hP, hK, hD0, hNw⟩ := hv
  have hx := B.exec
  have hb := B.bytes
  have hr := B.returns
  have hts := atoms_spec (ws := wsX8_open) B.pre
  have hown : s.vm.findClass RX8 = some m.cls := findClass_of_methodNamed B.named
  have hlocks := B.notSynchronized
  subst hsz
  have hD := hD0.self (sz := s.heap.size)
  generalize hAe : va_A [(a0, .inr (8, [z0_bytes, .int v0_length, .int v0_at, .int v0_token, .int v0_filled, .int v0_fault, .int v0_faultPlace]))] s.heap.size = A at hD ⊢
  have hA : ∀ q : Nat, s.heap.size ≤ q → A q := fun q h => by rw [← hAe]; exact Or.inr h
  have hS : va_S A s.heap s.heap [] := va_S.rf
  have hP : va_P (dC, dI) vwCl [(a0, .inr (8, [z0_bytes, .int v0_length, .int v0_at, .int v0_token, .int v0_filled, .int v0_fault, .int v0_faultPlace]))] s.heap := hP
  have hl := lv_entry ([.ref a0, .int p1]) (n := 2) (Nat.le_of_ble_eq_true rfl)
  rw [lg_entry_eq]
  generalize (lg_sl ([.ref a0, .int p1]) ++ List.replicate (2 - (lg_sl ([.ref a0, .int p1])).length) Slot.unset).toArray = ls at hl ⊢
  have hl : lv_has ls 2 [(0, .ref a0), (1, .int p1)] := hl
  have C0 : cfx p s m _ meth c cX8_open none wsX8_open RX8 2 A (dC, dI) (kT cyB cyI cyJ cyP) := ⟨hx, hb, hr, hts, hown, hlocks, hml, hA, hK, hNw⟩
  clear hAe
  obtain ⟨H, hH⟩ : ∃ H, H = s.heap := ⟨_, rfl⟩
  rw [← hH] at hP ⊢
  have hS : va_S A s.heap H [] := by rw [hH]; exact va_S.rf
  have hS := hS
  refine lv_aload_n hx hb dX8_open_0 rfl (lv_at hl 0 rfl) ?_
  refine lv_iload_n hx hb dX8_open_1 rfl (lv_at hl 1 rfl) ?_
  refine lv_sipush (v := 600) hx hb dX8_open_2 (by decide) ?_
  refine va_mmin hx hb (by rw [hml]; exact hl.1.symm) hown (hts _ uw_X8_open_m22) (hts _ uw_X8_open_msmin) (hts _ uw_X8_open_inim) (hts _ uw_X8_open_mcmin) (Nat.le_of_ble_eq_true rfl) (Nat.le_of_ble_eq_true rfl) (Nat.le_of_ble_eq_true rfl) (Nat.le_of_ble_eq_true rfl) dX8_open_5 ?_
  refine lv_topi (fun x1 ex1 => ?_)
  have hw := hw x1 ex1
  refine va_put (D := (dC, dI)) (ci := 8) (v := .int x1) (ty := .int) (C := RX8) (T := TX8) (N := 7) hx hb hts ui_X8_open_X8 tyX8 tyX8_ok nmX8 hown hK hP hD hS 0 rfl rfl 1 (by decide) (hts _ uw_X8_open_f28) (fun _ h9 => h9) rfl (by decide +kernel) rfl rfl (Nat.le_of_ble_eq_true rfl) dX8_open_8 (fun H locs hP hD hS => ?_)
  have hP : va_P (dC, dI) vwCl [(a0, .inr (8, [z0_bytes, .int x1, .int v0_at, .int v0_token, .int v0_filled, .int v0_fault, .int v0_faultPlace]))] H := hP
  have hD : va_D A [(a0, .inr (8, [z0_bytes, .int x1, .int v0_at, .int v0_token, .int v0_filled, .int v0_fault, .int v0_faultPlace]))] := hD
  refine lv_aload_n hx hb dX8_open_11 rfl (lv_at hl 0 rfl) ?_
  refine lv_iconst (v := 0) hx hb dX8_open_12 (by decide) ?_
  refine va_put (D := (dC, dI)) (ci := 8) (v := .int 0) (ty := .int) (C := RX8) (T := TX8) (N := 7) hx hb hts ui_X8_open_X8 tyX8 tyX8_ok nmX8 hown hK hP hD hS 0 rfl rfl 2 (by decide) (hts _ uw_X8_open_f31) (fun _ h9 => h9) rfl (by decide +kernel) rfl rfl (Nat.le_of_ble_eq_true rfl) dX8_open_13 (fun H locs hP hD hS => ?_)
  have hP : va_P (dC, dI) vwCl [(a0, .inr (8, [z0_bytes, .int x1, .int 0, .int v0_token, .int v0_filled, .int v0_fault, .int v0_faultPlace]))] H := hP
  have hD : va_D A [(a0, .inr (8, [z0_bytes, .int x1, .int 0, .int v0_token, .int v0_filled, .int v0_fault, .int v0_faultPlace]))] := hD
  refine lv_aload_n hx hb dX8_open_16 rfl (lv_at hl 0 rfl) ?_
  refine lv_iconst (v := 0) hx hb dX8_open_17 (by decide) ?_
  refine va_put (D := (dC, dI)) (ci := 8) (v := .int 0) (ty := .int) (C := RX8) (T := TX8) (N := 7) hx hb hts ui_X8_open_X8 tyX8 tyX8_ok nmX8 hown hK hP hD hS 0 rfl rfl 3 (by decide) (hts _ uw_X8_open_f34) (fun _ h9 => h9) rfl (by decide +kernel) rfl rfl (Nat.le_of_ble_eq_true rfl) dX8_open_18 (fun H locs hP hD hS => ?_)
  have hP : va_P (dC, dI) vwCl [(a0, .inr (8, [z0_bytes, .int x1, .int 0, .int 0, .int v0_filled, .int v0_fault, .int v0_faultPlace]))] H := hP
  have hD : va_D A [(a0, .inr (8, [z0_bytes, .int x1, .int 0, .int 0, .int v0_filled, .int v0_fault, .int v0_faultPlace]))] := hD
  refine lv_aload_n hx hb dX8_open_21 rfl (lv_at hl 0 rfl) ?_
  refine lv_iconst (v := 0) hx hb dX8_open_22 (by decide) ?_
  refine va_put (D := (dC, dI)) (ci := 8) (v := .int 0) (ty := .int) (C := RX8) (T := TX8) (N := 7) hx hb hts ui_X8_open_X8 tyX8 tyX8_ok nmX8 hown hK hP hD hS 0 rfl rfl 4 (by decide) (hts _ uw_X8_open_f19) (fun _ h9 => h9) rfl (by decide +kernel) rfl rfl (Nat.le_of_ble_eq_true rfl) dX8_open_23 (fun H locs hP hD hS => ?_)
  have hP : va_P (dC, dI) vwCl [(a0, .inr (8, [z0_bytes, .int x1, .int 0, .int 0, .int 0, .int v0_fault, .int v0_faultPlace]))] H := hP
  have hD : va_D A [(a0, .inr (8, [z0_bytes, .int x1, .int 0, .int 0, .int 0, .int v0_fault, .int v0_faultPlace]))] := hD
  refine lv_aload_n hx hb dX8_open_26 rfl (lv_at hl 0 rfl) ?_
  refine lv_iconst (v := 0) hx hb dX8_open_27 (by decide) ?_
  refine va_put (D := (dC, dI)) (ci := 8) (v := .int 0) (ty := .int) (C := RX8) (T := TX8) (N := 7) hx hb hts ui_X8_open_X8 tyX8 tyX8_ok nmX8 hown hK hP hD hS 0 rfl rfl 5 (by decide) (hts _ uw_X8_open_f37) (fun _ h9 => h9) rfl (by decide +kernel) rfl rfl (Nat.le_of_ble_eq_true rfl) dX8_open_28 (fun H locs hP hD hS => ?_)
  have hP : va_P (dC, dI) vwCl [(a0, .inr (8, [z0_bytes, .int x1, .int 0, .int 0, .int 0, .int 0, .int v0_faultPlace]))] H := hP
  have hD : va_D A [(a0, .inr (8, [z0_bytes, .int x1, .int 0, .int 0, .int 0, .int 0, .int v0_faultPlace]))] := hD
  refine lv_aload_n hx hb dX8_open_31 rfl (lv_at hl 0 rfl) ?_
  refine lv_iconst (v := (-1)) hx hb dX8_open_32 (by decide) ?_
  refine va_put (D := (dC, dI)) (ci := 8) (v := .int (-1)) (ty := .int) (C := RX8) (T := TX8) (N := 7) hx hb hts ui_X8_open_X8 tyX8 tyX8_ok nmX8 hown hK hP hD hS 0 rfl rfl 6 (by decide) (hts _ uw_X8_open_f15) (fun _ h9 => h9) rfl (by decide +kernel) rfl rfl (Nat.le_of_ble_eq_true rfl) dX8_open_33 (fun H locs hP hD hS => ?_)
  have hP : va_P (dC, dI) vwCl [(a0, .inr (8, [z0_bytes, .int x1, .int 0, .int 0, .int 0, .int 0, .int (-1)]))] H := hP
  have hD : va_D A [(a0, .inr (8, [z0_bytes, .int x1, .int 0, .int 0, .int 0, .int 0, .int (-1)]))] := hD
  exact ((W.vret hx hb hr (fun t ht hW => ⟨⟨(x1, 0, 0, 0, 0, (-1)), rfl, hw, by rw [ht]; exact hP, va_K.moved hW.alike hK, hD⟩, hS.F ht⟩) hS.2.2 dX8_open_36))
theorem ui_X10_openText_X10 : ∀ w ∈ u_ws RX10 TX10 19, w ∈ wsX10_openText := by decide +kernel
theorem ui_X10_openText_X8 : ∀ w ∈ u_ws RX8 TX8 7, w ∈ wsX10_openText := by decide +kernel
theorem uw_X10_openText_f10 : (.fieldLink RX10 10 "MarchHares" "tape" "LMarchHares$Tape;" : Cond) ∈ wsX10_openText := by decide +kernel
theorem uw_X10_openText_f105 : (.fieldLink RX10 105 "MarchHares$Tape" "filled" "I" : Cond) ∈ wsX10_openText := by decide +kernel
theorem uw_X10_openText_inim : (.initialized "java/lang/Math" : Cond) ∈ wsX10_openText := by decide +kernel
theorem uw_X10_openText_m384 : (.methodLink RX10 384 Lib.Math.min.name : Cond) ∈ wsX10_openText := by decide +kernel
theorem uw_X10_openText_mcmin : (.code Lib.Math.min.name Lib.Math.min.code 2 (some .int) : Cond) ∈ wsX10_openText := by decide +kernel
theorem uw_X10_openText_msmin : (.static Lib.Math.min.name : Cond) ∈ wsX10_openText := by decide +kernel
def wq_X10_openText  (v0_callsIllegal : Int32) (v0_tape_length : Int32) (v0_tape_at : Int32) (v0_tape_token : Int32) (v0_tape_filled : Int32) (v0_tape_fault : Int32) (v0_tape_faultPlace : Int32) (p1 : Int32) (p2 : Int32) (E : String → Int32 → Int32 → Int32 → Int32 → Int32 → Int32 → Int32 → Prop) (Q : Int32 → Int32 → Int32 → Int32 → Int32 → Int32 → Int32 → Prop) : Prop := ∀ x1 : Int32, x1 = (if v0_tape_filled < p2 then v0_tape_filled else p2) → wq_X10_needWithin  v0_callsIllegal p1 0 x1 (fun en x2 => E en x2 v0_tape_length v0_tape_at v0_tape_token v0_tape_filled v0_tape_fault v0_tape_faultPlace) (fun x2 => wq_X8_open  v0_tape_length v0_tape_at v0_tape_token v0_tape_filled v0_tape_fault v0_tape_faultPlace p1 (fun x3 x4 x5 x6 x7 x8 => (Q x2 x3 x4 x5 x6 x7 x8)))
set_option maxHeartbeats 4000000 in
set_option maxRecDepth 100000 in
theorem ck_X10_openText (l : Launch) (dC : Nat → ClassId) (dI : Nat → Nat → Nat) (cyB cyI cyJ cyP : ClassId) (a0 a0_tape : Nat) (sz : Nat) (z0_ground : Value) (z0_spareGround : Value) (z0_rule : Value) (z0_spareRule : Value) (z0_lines : Value) (z0_spareLines : Value) (z0_steps : Value) (z0_now : Value) (z0_trial : Value) (z0_past : Value) (z0_images : Value) (z0_round : Value) (z0_seating : Value) (z0_fitting : Value) (z0_imagesKept : Value) (z0_refusedSteps : Value) (z0_callsNoSuch : Value) (z0_tape_bytes : Value)  (v0_callsIllegal : Int32) (v0_tape_length : Int32) (v0_tape_at : Int32) (v0_tape_token : Int32) (v0_tape_filled : Int32) (v0_tape_fault : Int32) (v0_tape_faultPlace : Int32) (p1 : Int32) (p2 : Int32) {E : String → Int32 → Int32 → Int32 → Int32 → Int32 → Int32 → Int32 → Prop} {Q : Int32 → Int32 → Int32 → Int32 → Int32 → Int32 → Int32 → Prop} (hw : wq_X10_openText  v0_callsIllegal v0_tape_length v0_tape_at v0_tape_token v0_tape_filled v0_tape_fault v0_tape_faultPlace p1 p2 E Q) : vx_Met l yX10_openText wsX10_openText ({ frames := 8, cells := 1, slots := 6, locals := 164 }) (va_Pc [.ref a0, .int p1, .int p2] (cPx l (dC, dI) (kT cyB cyI cyJ cyP) [(a0, .inr (10, [.ref a0_tape, z0_ground, z0_spareGround, z0_rule, z0_spareRule, z0_lines, z0_spareLines, z0_steps, z0_now, z0_trial, z0_past, z0_images, z0_round, z0_seating, z0_fitting, z0_imagesKept, z0_refusedSteps, z0_callsNoSuch, .int v0_callsIllegal])), (a0_tape, .inr (8, [z0_tape_bytes, .int v0_tape_length, .int v0_tape_at, .int v0_tape_token, .int v0_tape_filled, .int v0_tape_fault, .int v0_tape_faultPlace]))] sz)) (va_Qv (fun (u : Int32 × Int32 × Int32 × Int32 × Int32 × Int32 × Int32) => Q u.1 u.2.1 u.2.2.1 u.2.2.2.1 u.2.2.2.2.1 u.2.2.2.2.2.1 u.2.2.2.2.2.2) (cB (dC, dI) (kT cyB cyI cyJ cyP) (va_A [(a0, .inr (10, [.ref a0_tape, z0_ground, z0_spareGround, z0_rule, z0_spareRule, z0_lines, z0_spareLines, z0_steps, z0_now, z0_trial, z0_past, z0_images, z0_round, z0_seating, z0_fitting, z0_imagesKept, z0_refusedSteps, z0_callsNoSuch, .int v0_callsIllegal])), (a0_tape, .inr (8, [z0_tape_bytes, .int v0_tape_length, .int v0_tape_at, .int v0_tape_token, .int v0_tape_filled, .int v0_tape_fault, .int v0_tape_faultPlace]))] sz) (fun u : Int32 × Int32 × Int32 × Int32 × Int32 × Int32 × Int32 => ([(a0, .inr (10, [.ref a0_tape, z0_ground, z0_spareGround, z0_rule, z0_spareRule, z0_lines, z0_spareLines, z0_steps, z0_now, z0_trial, z0_past, z0_images, z0_round, z0_seating, z0_fitting, z0_imagesKept, z0_refusedSteps, z0_callsNoSuch, .int u.1])), (a0_tape, .inr (8, [z0_tape_bytes, .int u.2.1, .int u.2.2.1, .int u.2.2.2.1, .int u.2.2.2.2.1, .int u.2.2.2.2.2.1, .int u.2.2.2.2.2.2]))] : va_W))) (va_A [(a0, .inr (10, [.ref a0_tape, z0_ground, z0_spareGround, z0_rule, z0_spareRule, z0_lines, z0_spareLines, z0_steps, z0_now, z0_trial, z0_past, z0_images, z0_round, z0_seating, z0_fitting, z0_imagesKept, z0_refusedSteps, z0_callsNoSuch, .int v0_callsIllegal])), (a0_tape, .inr (8, [z0_tape_bytes, .int v0_tape_length, .int v0_tape_at, .int v0_tape_token, .int v0_tape_filled, .int v0_tape_fault, .int v0_tape_faultPlace]))] sz)) (vx_X (fun _ => True) (fun (en : String) (u : Int32 × Int32 × Int32 × Int32 × Int32 × Int32 × Int32) (t : State) => E en u.1 u.2.1 u.2.2.1 u.2.2.2.1 u.2.2.2.2.1 u.2.2.2.2.2.1 u.2.2.2.2.2.2 ∧ cB (dC, dI) (kT cyB cyI cyJ cyP) (va_A [(a0, .inr (10, [.ref a0_tape, z0_ground, z0_spareGround, z0_rule, z0_spareRule, z0_lines, z0_spareLines, z0_steps, z0_now, z0_trial, z0_past, z0_images, z0_round, z0_seating, z0_fitting, z0_imagesKept, z0_refusedSteps, z0_callsNoSuch, .int v0_callsIllegal])), (a0_tape, .inr (8, [z0_tape_bytes, .int v0_tape_length, .int v0_tape_at, .int v0_tape_token, .int v0_tape_filled, .int v0_tape_fault, .int v0_tape_faultPlace]))] sz) (fun u : Int32 × Int32 × Int32 × Int32 × Int32 × Int32 × Int32 => ([(a0, .inr (10, [.ref a0_tape, z0_ground, z0_spareGround, z0_rule, z0_spareRule, z0_lines, z0_spareLines, z0_steps, z0_now, z0_trial, z0_past, z0_images, z0_round, z0_seating, z0_fitting, z0_imagesKept, z0_refusedSteps, z0_callsNoSuch, .int u.1])), (a0_tape, .inr (8, [z0_tape_bytes, .int u.2.1, .int u.2.2.1, .int u.2.2.2.1, .int u.2.2.2.2.1, .int u.2.2.2.2.2.1, .int u.2.2.2.2.2.2]))] : va_W)) u t) (va_A [(a0, .inr (10, [.ref a0_tape, z0_ground, z0_spareGround, z0_rule, z0_spareRule, z0_lines, z0_spareLines, z0_steps, z0_now, z0_trial, z0_past, z0_images, z0_round, z0_seating, z0_fitting, z0_imagesKept, z0_refusedSteps, z0_callsNoSuch, .int v0_callsIllegal])), (a0_tape, .inr (8, [z0_tape_bytes, .int v0_tape_length, .int v0_tape_at, .int v0_tape_token, .int v0_tape_filled, .int v0_tape_fault, .int v0_tape_faultPlace]))] sz)) 1 6 (va_A [(a0, .inr (10, [.ref a0_tape, z0_ground, z0_spareGround, z0_rule, z0_spareRule, z0_lines, z0_spareLines, z0_steps, z0_now, z0_trial, z0_past, z0_images, z0_round, z0_seating, z0_fitting, z0_imagesKept, z0_refusedSteps, z0_callsNoSuch, .int v0_callsIllegal])), (a0_tape, .inr (8, [z0_tape_bytes, .int v0_tape_length, .int v0_tape_at, .int v0_tape_token, .int v0_tape_filled, .int v0_tape_fault, .int v0_tape_faultPlace]))] sz) := by
  refine vx_ofW (cc := cX10_openText) (maxL := 3) (ret := none) (by decide) rfl ?_
  intro p e s m args below meth c s₁ B hml hnt hv
  obtain ⟨rfl, hsz, hP, hK, hD0, hNw, hXl, hXu, hXn, hXt⟩ := hv
  have hx := B.exec
  have hb := B.bytes
  have hr := B.returns
  have hts := atoms_spec (ws := wsX10_openText) B.pre
  have hown : s.vm.findClass RX10 = some m.cls := findClass_of_methodNamed B.named
  have hlocks := B.notSynchronized
  subst hsz
  have hD := hD0.self (sz := s.heap.size)
  generalize hAe : va_A [(a0, .inr (10, [.ref a0_tape, z0_ground, z0_spareGround, z0_rule, z0_spareRule, z0_lines, z0_spareLines, z0_steps, z0_now, z0_trial, z0_past, z0_images, z0_round, z0_seating, z0_fitting, z0_imagesKept, z0_refusedSteps, z0_callsNoSuch, .int v0_callsIllegal])), (a0_tape, .inr (8, [z0_tape_bytes, .int v0_tape_length, .int v0_tape_at, .int v0_tape_token, .int v0_tape_filled, .int v0_tape_fault, .int v0_tape_faultPlace]))] s.heap.size = A at hD hXu hXn ⊢
  have hA : ∀ q : Nat, s.heap.size ≤ q → A q := fun q h => by rw [← hAe]; exact Or.inr h
  have hS : va_S A s.heap s.heap [] := va_S.rf
  have hP : va_P (dC, dI) vwCl [(a0, .inr (10, [.ref a0_tape, z0_ground, z0_spareGround, z0_rule, z0_spareRule, z0_lines, z0_spareLines, z0_steps, z0_now, z0_trial, z0_past, z0_images, z0_round, z0_seating, z0_fitting, z0_imagesKept, z0_refusedSteps, z0_callsNoSuch, .int v0_callsIllegal])), (a0_tape, .inr (8, [z0_tape_bytes, .int v0_tape_length, .int v0_tape_at, .int v0_tape_token, .int v0_tape_filled, .int v0_tape_fault, .int v0_tape_faultPlace]))] s.heap := hP
  have hl := lv_entry ([.ref a0, .int p1, .int p2]) (n := 3) (Nat.le_of_ble_eq_true rfl)
  rw [lg_entry_eq]
  generalize (lg_sl ([.ref a0, .int p1, .int p2]) ++ List.replicate (3 - (lg_sl ([.ref a0, .int p1, .int p2])).length) Slot.unset).toArray = ls at hl ⊢
  have hl : lv_has ls 3 [(0, .ref a0), (1, .int p1), (2, .int p2)] := hl
  have hY : cfY l s A := ⟨hXl, hXu, hXn, hXt⟩
  have hXs : cfX l s c A := ⟨hnt, hY⟩
  have C0 : cfx p s m _ meth c cX10_openText none wsX10_openText RX10 3 A (dC, dI) (kT cyB cyI cyJ cyP) ∧ cfX l s c A := ⟨⟨hx, hb, hr, hts, hown, hlocks, hml, hA, hK, hNw⟩, hXs⟩
  clear hAe
  obtain ⟨H, hH⟩ : ∃ H, H = s.heap := ⟨_, rfl⟩
  rw [← hH] at hP ⊢
  have hS : va_S A s.heap H [] := by rw [hH]; exact va_S.rf
  have hS := hS
  refine lv_aload_n hx hb dX10_openText_0 rfl (lv_at hl 0 rfl) ?_
  refine lv_iload_n hx hb dX10_openText_1 rfl (lv_at hl 1 rfl) ?_
  refine lv_iconst (v := 0) hx hb dX10_openText_2 (by decide) ?_
  refine lv_iload_n hx hb dX10_openText_3 rfl (lv_at hl 2 rfl) ?_
  refine lv_aload_n hx hb dX10_openText_4 rfl (lv_at hl 0 rfl) ?_
  refine va_get (D := (dC, dI)) (ci := 10) (v := .ref a0_tape) (C := RX10) (T := TX10) (N := 19) hx hb hts ui_X10_openText_X10 hown hK hP 0 rfl rfl 0 (by decide) (hts _ uw_X10_openText_f10) (fun _ h9 => h9) rfl dX10_openText_5 ?_
  refine va_get (D := (dC, dI)) (ci := 8) (v := .int v0_tape_filled) (C := RX8) (T := TX8) (N := 7) hx hb hts ui_X10_openText_X8 hown hK hP 1 rfl rfl 4 (by decide) (hts _ uw_X10_openText_f105) (fun _ h9 => h9) rfl dX10_openText_8 ?_
  refine va_mmin hx hb (by rw [hml]; exact hl.1.symm) hown (hts _ uw_X10_openText_m384) (hts _ uw_X10_openText_msmin) (hts _ uw_X10_openText_inim) (hts _ uw_X10_openText_mcmin) (Nat.le_of_ble_eq_true rfl) (Nat.le_of_ble_eq_true rfl) (Nat.le_of_ble_eq_true rfl) (Nat.le_of_ble_eq_true rfl) dX10_openText_11 ?_
  refine lv_topi (fun x1 ex1 => ?_)
  have hw := hw x1 ex1
  have hPc := hP.sub (ws' := [(a0, .inr (10, [.ref a0_tape, z0_ground, z0_spareGround, z0_rule, z0_spareRule, z0_lines, z0_spareLines, z0_steps, z0_now, z0_trial, z0_past, z0_images, z0_round, z0_seating, z0_fitting, z0_imagesKept, z0_refusedSteps, z0_callsNoSuch, .int v0_callsIllegal]))]) [0] rfl
  have hDc := hD.sub (ws' := [(a0, .inr (10, [.ref a0_tape, z0_ground, z0_spareGround, z0_rule, z0_spareRule, z0_lines, z0_spareLines, z0_steps, z0_now, z0_trial, z0_past, z0_images, z0_round, z0_seating, z0_fitting, z0_imagesKept, z0_refusedSteps, z0_callsNoSuch, .int v0_callsIllegal]))]) [0] (by decide) rfl
  have hFc := va_free (wc := [(a0, .inr (10, [.ref a0_tape, z0_ground, z0_spareGround, z0_rule, z0_spareRule, z0_lines, z0_spareLines, z0_steps, z0_now, z0_trial, z0_past, z0_images, z0_round, z0_seating, z0_fitting, z0_imagesKept, z0_refusedSteps, z0_callsNoSuch, .int v0_callsIllegal]))]) hD hS hA [0] rfl
  refine vx_callv (vx_runV (As := [.int p1, .int 0, .int x1]) (rest := []) ⟨hx, hb, hml, hown, hts⟩ (ck_X10_needWithin l dC dI cyB cyI cyJ cyP a0 H.size (.ref a0_tape) (z0_ground) (z0_spareGround) (z0_rule) (z0_spareRule) (z0_lines) (z0_spareLines) (z0_steps) (z0_now) (z0_trial) (z0_past) (z0_images) (z0_round) (z0_seating) (z0_fitting) (z0_imagesKept) (z0_refusedSteps) (z0_callsNoSuch)  v0_callsIllegal p1 0 x1 hw) (cwV 3 hts gX10_openText_X10_needWithin rfl rfl rfl (by decide +kernel) ⟨Nat.le_of_ble_eq_true rfl, Nat.le_of_ble_eq_true rfl⟩) ⟨cPx_blind, va_recv hK hPc (ci := 10) (q0 := 0) rfl rfl, cPx_pre hPc hK hDc hNw hY hS hFc⟩ rfl rfl hl.1 rfl (lv_room (Nat.le_of_ble_eq_true rfl)) dX10_openText_14 ⟨Nat.le_of_ble_eq_true rfl, Nat.le_of_ble_eq_true rfl⟩) hS (fun q _ h => hFc q h) hFc (fun q _ h => hFc q h) (fun en ce q9 u t H1 locs ht hvm hpx hB hz1 hk1 hS hc9 hv9 hcl9 => ?_) (fun u t H1 locs ht hvm hw hB hz1 hk1 hS => ?_)
  · obtain ⟨x2, rfl⟩ : ∃ z, z = u := ⟨_, rfl⟩
    obtain ⟨hw, hP1, hK1, hD1⟩ := hB
    rw [ht] at hP1
    obtain ⟨hP, hD⟩ := va_join (wr := [(a0_tape, .inr (8, [z0_tape_bytes, .int v0_tape_length, .int v0_tape_at, .int v0_tape_token, .int v0_tape_filled, .int v0_tape_fault, .int v0_tape_faultPlace]))]) (w1 := [(a0, .inr (10, [.ref a0_tape, z0_ground, z0_spareGround, z0_rule, z0_spareRule, z0_lines, z0_spareLines, z0_steps, z0_now, z0_trial, z0_past, z0_images, z0_round, z0_seating, z0_fitting, z0_imagesKept, z0_refusedSteps, z0_callsNoSuch, .int x2]))]) hP hD [0] [1] rfl rfl (by decide) (by decide) hk1 hFc hP1 hD1
    have hP : va_P (dC, dI) vwCl [(a0, .inr (10, [.ref a0_tape, z0_ground, z0_spareGround, z0_rule, z0_spareRule, z0_lines, z0_spareLines, z0_steps, z0_now, z0_trial, z0_past, z0_images, z0_round, z0_seating, z0_fitting, z0_imagesKept, z0_refusedSteps, z0_callsNoSuch, .int x2])), (a0_tape, .inr (8, [z0_tape_bytes, .int v0_tape_length, .int v0_tape_at, .int v0_tape_token, .int v0_tape_filled, .int v0_tape_fault, .int v0_tape_faultPlace]))] H1 := hP.sub [1, 0] rfl
    have hD : va_D A [(a0, .inr (10, [.ref a0_tape, z0_ground, z0_spareGround, z0_rule, z0_spareRule, z0_lines, z0_spareLines, z0_steps, z0_now, z0_trial, z0_past, z0_images, z0_round, z0_seating, z0_fitting, z0_imagesKept, z0_refusedSteps, z0_callsNoSuch, .int x2])), (a0_tape, .inr (8, [z0_tape_bytes, .int v0_tape_length, .int v0_tape_at, .int v0_tape_token, .int v0_tape_filled, .int v0_tape_fault, .int v0_tape_faultPlace]))] := hD.sub [1, 0] (by decide) rfl
    generalize H1 = H at hP hS hc9 ⊢
    exact vx_out (fun x hx9 => (hXs.1 x hx9).elim) hlocks hc9 hv9 hcl9 (fun t2 ht2 hal2 => ⟨(x2, v0_tape_length, v0_tape_at, v0_tape_token, v0_tape_filled, v0_tape_fault, v0_tape_faultPlace), trivial, ⟨hw, by rw [ht2]; exact hP, va_K.moved hal2 hK, hD⟩, hS.F ht2⟩) hS.2.2 (Nat.le_of_ble_eq_true rfl) (Nat.le_of_ble_eq_true rfl)
  obtain ⟨x2, rfl⟩ : ∃ z, z = u := ⟨_, rfl⟩
  obtain ⟨hP1, hK1, hD1⟩ := hB
  rw [ht] at hP1
  obtain ⟨hP, hD⟩ := va_join (wr := [(a0_tape, .inr (8, [z0_tape_bytes, .int v0_tape_length, .int v0_tape_at, .int v0_tape_token, .int v0_tape_filled, .int v0_tape_fault, .int v0_tape_faultPlace]))]) (w1 := [(a0, .inr (10, [.ref a0_tape, z0_ground, z0_spareGround, z0_rule, z0_spareRule, z0_lines, z0_spareLines, z0_steps, z0_now, z0_trial, z0_past, z0_images, z0_round, z0_seating, z0_fitting, z0_imagesKept, z0_refusedSteps, z0_callsNoSuch, .int x2]))]) hP hD [0] [1] rfl rfl (by decide) (by decide) hk1 hFc hP1 hD1
  have hP : va_P (dC, dI) vwCl [(a0, .inr (10, [.ref a0_tape, z0_ground, z0_spareGround, z0_rule, z0_spareRule, z0_lines, z0_spareLines, z0_steps, z0_now, z0_trial, z0_past, z0_images, z0_round, z0_seating, z0_fitting, z0_imagesKept, z0_refusedSteps, z0_callsNoSuch, .int x2])), (a0_tape, .inr (8, [z0_tape_bytes, .int v0_tape_length, .int v0_tape_at, .int v0_tape_token, .int v0_tape_filled, .int v0_tape_fault, .int v0_tape_faultPlace]))] H1 := hP.sub [1, 0] rfl
  have hD : va_D A [(a0, .inr (10, [.ref a0_tape, z0_ground, z0_spareGround, z0_rule, z0_spareRule, z0_lines, z0_spareLines, z0_steps, z0_now, z0_trial, z0_past, z0_images, z0_round, z0_seating, z0_fitting, z0_imagesKept, z0_refusedSteps, z0_callsNoSuch, .int x2])), (a0_tape, .inr (8, [z0_tape_bytes, .int v0_tape_length, .int v0_tape_at, .int v0_tape_token, .int v0_tape_filled, .int v0_tape_fault, .int v0_tape_faultPlace]))] := hD.sub [1, 0] (by decide) rfl
  generalize H1 = H at hP hS ⊢
  refine lv_aload_n hx hb dX10_openText_17 rfl (lv_at hl 0 rfl) ?_
  refine va_get (D := (dC, dI)) (ci := 10) (v := .ref a0_tape) (C := RX10) (T := TX10) (N := 19) hx hb hts ui_X10_openText_X10 hown hK hP 0 rfl rfl 0 (by decide) (hts _ uw_X10_openText_f10) (fun _ h9 => h9) rfl dX10_openText_18 ?_
  refine lv_iload_n hx hb dX10_openText_21 rfl (lv_at hl 1 rfl) ?_
  have hPc := hP.sub (ws' := [(a0_tape, .inr (8, [z0_tape_bytes, .int v0_tape_length, .int v0_tape_at, .int v0_tape_token, .int v0_tape_filled, .int v0_tape_fault, .int v0_tape_faultPlace]))]) [1] rfl
  have hDc := hD.sub (ws' := [(a0_tape, .inr (8, [z0_tape_bytes, .int v0_tape_length, .int v0_tape_at, .int v0_tape_token, .int v0_tape_filled, .int v0_tape_fault, .int v0_tape_faultPlace]))]) [1] (by decide) rfl
  have hFc := va_free (wc := [(a0_tape, .inr (8, [z0_tape_bytes, .int v0_tape_length, .int v0_tape_at, .int v0_tape_token, .int v0_tape_filled, .int v0_tape_fault, .int v0_tape_faultPlace]))]) hD hS hA [1] rfl
  refine va_callv (va_runV (As := [.int p1]) (rest := []) ⟨hx, hb, hml, hown, hts⟩ (ck_X8_open l dC dI cyB cyI cyJ cyP a0_tape H.size (z0_tape_bytes)  v0_tape_length v0_tape_at v0_tape_token v0_tape_filled v0_tape_fault v0_tape_faultPlace p1 hw) (cwV 1 hts gX10_openText_X8_open rfl rfl rfl (by decide +kernel) ⟨Nat.le_of_ble_eq_true rfl, Nat.le_of_ble_eq_true rfl⟩) ⟨cPc_blind, va_recv hK hPc (ci := 8) (q0 := 0) rfl rfl, cPc_pre hPc hK hDc hNw⟩ rfl rfl hl.1 rfl (lv_room (Nat.le_of_ble_eq_true rfl)) dX10_openText_22 ⟨Nat.le_of_ble_eq_true rfl, Nat.le_of_ble_eq_true rfl⟩) hS (fun q _ h => hFc q h) hFc (fun u t H1 locs ht hvm hw hB hz1 hk1 hS => ?_)
  obtain ⟨x3, x4, x5, x6, x7, x8⟩ := u
  obtain ⟨hP1, hK1, hD1⟩ := hB
  rw [ht] at hP1
  obtain ⟨hP, hD⟩ := va_join (wr := [(a0, .inr (10, [.ref a0_tape, z0_ground, z0_spareGround, z0_rule, z0_spareRule, z0_lines, z0_spareLines, z0_steps, z0_now, z0_trial, z0_past, z0_images, z0_round, z0_seating, z0_fitting, z0_imagesKept, z0_refusedSteps, z0_callsNoSuch, .int x2]))]) (w1 := [(a0_tape, .inr (8, [z0_tape_bytes, .int x3, .int x4, .int x5, .int x6, .int x7, .int x8]))]) hP hD [1] [0] rfl rfl (by decide) (by decide) hk1 hFc hP1 hD1
  have hP : va_P (dC, dI) vwCl [(a0, .inr (10, [.ref a0_tape, z0_ground, z0_spareGround, z0_rule, z0_spareRule, z0_lines, z0_spareLines, z0_steps, z0_now, z0_trial, z0_past, z0_images, z0_round, z0_seating, z0_fitting, z0_imagesKept, z0_refusedSteps, z0_callsNoSuch, .int x2])), (a0_tape, .inr (8, [z0_tape_bytes, .int x3, .int x4, .int x5, .int x6, .int x7, .int x8]))] H1 := hP
  have hD : va_D A [(a0, .inr (10, [.ref a0_tape, z0_ground, z0_spareGround, z0_rule, z0_spareRule, z0_lines, z0_spareLines, z0_steps, z0_now, z0_trial, z0_past, z0_images, z0_round, z0_seating, z0_fitting, z0_imagesKept, z0_refusedSteps, z0_callsNoSuch, .int x2])), (a0_tape, .inr (8, [z0_tape_bytes, .int x3, .int x4, .int x5, .int x6, .int x7, .int x8]))] := hD
  generalize H1 = H at hP hS ⊢
  exact vx_ret (W.widen (k := 1) (n := 6) (Nat.le_of_ble_eq_true rfl) (Nat.le_of_ble_eq_true rfl) (W.vret hx hb hr (fun t ht hW => ⟨⟨(x2, x3, x4, x5, x6, x7, x8), rfl, hw, by rw [ht]; exact hP, va_K.moved hW.alike hK, hD⟩, hS.F ht⟩) hS.2.2 dX10_openText_25))
theorem ui_X8_isFaulty_X8 : ∀ w ∈ u_ws RX8 TX8 7, w ∈ wsX8_isFaulty := by decide +kernel
theorem uw_X8_isFaulty_f37 : (.fieldLink RX8 37 "MarchHares$Tape" "fault" "I" : Cond) ∈ wsX8_isFaulty := by decide +kernel
def wq_X8_isFaulty (v0_fault : Int32)   (Q : Int32 → Prop) : Prop := ((v0_fault = 0 → (Q 0)) ∧ (¬ v0_fault = 0 → (Q 1)))
set_option maxHeartbeats 4000000 in
set_option maxRecDepth 100000 in
theorem ck_X8_isFaulty (l : Launch) (dC : Nat → ClassId) (dI : Nat → Nat → Nat) (cyB cyI cyJ cyP : ClassId) (a0 : Nat) (sz : Nat) (z0_bytes : Value) (z0_length : Value) (z0_at : Value) (z0_token : Value) (z0_filled : Value) (z0_faultPlace : Value) (v0_fault : Int32)   {Q : Int32 → Prop} (hw : wq_X8_isFaulty v0_fault   Q) : Met l yX8_isFaulty wsX8_isFaulty ({ frames := 0, cells := 0, slots := 0, locals := 0 }) (va_Pc [.ref a0] (cPc (dC, dI) (kT cyB cyI cyJ cyP) [(a0, .inr (8, [z0_bytes, z0_length, z0_at, z0_token, z0_filled, .int v0_fault, z0_faultPlace]))] sz)) (va_Qi (fun (r : Int32) (_ : Unit) => Q r ) (cB (dC, dI) (kT cyB cyI cyJ cyP) (va_A [(a0, .inr (8, [z0_bytes, z0_length, z0_at, z0_token, z0_filled, .int v0_fault, z0_faultPlace]))] sz) (fun u : Unit => ([(a0, .inr (8, [z0_bytes, z0_length, z0_at, z0_token, z0_filled, .int v0_fault, z0_faultPlace]))] : va_W))) (va_A [(a0, .inr (8, [z0_bytes, z0_length, z0_at, z0_token, z0_filled, .int v0_fault, z0_faultPlace]))] sz)) 0 0 (va_A [(a0, .inr (8, [z0_bytes, z0_length, z0_at, z0_token, z0_filled, .int v0_fault, z0_faultPlace]))] sz) := by
  refine Met.ofW (cc := cX8_isFaulty) (maxL := 1) (ret := (some .boolean)) (by decide) rfl ?_
  intro p e s m args below meth c s₁ B hml hv
  obtain ⟨rfl, hsz, hP, hK, hD0, hNw⟩ := hv
  have hx := B.exec
  have hb := B.bytes
  have hr := B.returns
  have hts := atoms_spec (ws := wsX8_isFaulty) B.pre
  have hown : s.vm.findClass RX8 = some m.cls := findClass_of_methodNamed B.named
  have hlocks := B.notSynchronized
  subst hsz
  have hD := hD0.self (sz := s.heap.size)
  generalize hAe : va_A [(a0, .inr (8, [z0_bytes, z0_length, z0_at, z0_token, z0_filled, .int v0_fault, z0_faultPlace]))] s.heap.size = A at hD ⊢
  have hA : ∀ q : Nat, s.heap.size ≤ q → A q := fun q h => by rw [← hAe]; exact Or.inr h
  have hS : va_S A s.heap s.heap [] := va_S.rf
  have hP : va_P (dC, dI) vwCl [(a0, .inr (8, [z0_bytes, z0_length, z0_at, z0_token, z0_filled, .int v0_fault, z0_faultPlace]))] s.heap := hP
  have hl := lv_entry ([.ref a0]) (n := 1) (Nat.le_of_ble_eq_true rfl)
  rw [lg_entry_eq]
  generalize (lg_sl ([.ref a0]) ++ List.replicate (1 - (lg_sl ([.ref a0])).length) Slot.unset).toArray = ls at hl ⊢
  have hl : lv_has ls 1 [(0, .ref a0)] := hl
  have C0 : cfx p s m _ meth c cX8_isFaulty (some .boolean) wsX8_isFaulty RX8 1 A (dC, dI) (kT cyB cyI cyJ cyP) := ⟨hx, hb, hr, hts, hown, hlocks, hml, hA, hK, hNw⟩
  clear hAe
  obtain ⟨H, hH⟩ : ∃ H, H = s.heap := ⟨_, rfl⟩
  rw [← hH] at hP ⊢
  have hS : va_S A s.heap H [] := by rw [hH]; exact va_S.rf
  have hS := hS
  refine lv_aload_n hx hb dX8_isFaulty_0 rfl (lv_at hl 0 rfl) ?_
  refine va_get (D := (dC, dI)) (ci := 8) (v := .int v0_fault) (C := RX8) (T := TX8) (N := 7) hx hb hts ui_X8_isFaulty_X8 hown hK hP 0 rfl rfl 5 (by decide) (hts _ uw_X8_isFaulty_f37) (fun _ h9 => h9) rfl dX8_isFaulty_1 ?_
  refine lv_if_eq (tgt := 11) hx hb dX8_isFaulty_4 (by decide) (fun c1 => ?_) (fun c1 => ?_)
  · have hw := hw.1 c1
    refine lv_iconst (v := 0) hx hb dX8_isFaulty_11 (by decide) ?_
    exact ((W.zret (v := 0) hx hb hr rfl (fun t ht hW => ⟨⟨0, (), rfl, hw, by rw [ht]; exact hP, va_K.moved hW.alike hK, hD⟩, hS.F ht⟩) hS.2.2 dX8_isFaulty_12))
  · have hw := hw.2 c1
    refine lv_iconst (v := 1) hx hb dX8_isFaulty_7 (by decide) ?_
    refine lv_goto (tgt := 12) hx hb dX8_isFaulty_8 (by decide) ?_
    exact ((W.zret (v := 1) hx hb hr rfl (fun t ht hW => ⟨⟨1, (), rfl, hw, by rw [ht]; exact hP, va_K.moved hW.alike hK, hD⟩, hS.F ht⟩) hS.2.2 dX8_isFaulty_12))
theorem ui_X8_skipBlanks_X8 : ∀ w ∈ u_ws RX8 TX8 7, w ∈ wsX8_skipBlanks := by decide +kernel
theorem uw_X8_skipBlanks_f11 : (.fieldLink RX8 11 "MarchHares$Tape" "bytes" "[B" : Cond) ∈ wsX8_skipBlanks := by decide +kernel
theorem uw_X8_skipBlanks_f28 : (.fieldLink RX8 28 "MarchHares$Tape" "length" "I" : Cond) ∈ wsX8_skipBlanks := by decide +kernel
theorem uw_X8_skipBlanks_f31 : (.fieldLink RX8 31 "MarchHares$Tape" "at" "I" : Cond) ∈ wsX8_skipBlanks := by decide +kernel
def wl_X8_skipBlanks_0 (v0_length : Int32) (f0_bytes : Nat → Int32) (Q : Int32 → Prop)  : Nat → Int32 → Prop
  | 0, _ => False
  | n + 1, v0_at => ((v0_length ≤ v0_at → (Q v0_at)) ∧ (¬ v0_length ≤ v0_at → vp_in v0_at 600 ∧ ∀ x2 : Int32, x2 = f0_bytes v0_at.toNatClampNeg → ((¬ x2 = 32 → (Q v0_at)) ∧ (x2 = 32 → ∀ x4 : Int32, x4 = v0_at + 1 → (wl_X8_skipBlanks_0 v0_length f0_bytes Q  n x4)))))
set_option maxHeartbeats 4000000 in
set_option maxRecDepth 100000 in
theorem kl_X8_skipBlanks_0 {p : Program} {l : Launch} {e : Env} {s : State} {m : MethodId} {args : Array Value} {below : List Frame} {meth : Method} {c : Code} {A : Nat → Prop} (dC : Nat → ClassId) (dI : Nat → Nat → Nat) (cyB cyI cyJ cyP : ClassId) (a0 a0_bytes : Nat) (z0_token : Value) (z0_filled : Value) (z0_fault : Value) (z0_faultPlace : Value) (v0_length : Int32) (f0_bytes : Nat → Int32) (Q : Int32 → Prop)  (C0 : cfx p s m args meth c cX8_skipBlanks none wsX8_skipBlanks RX8 1 A (dC, dI) (kT cyB cyI cyJ cyP)) : ∀ (n : Nat) (H : Heap) (locs : List Loc) (ls : Array Slot) (v0_at : Int32), va_P (dC, dI) vwCl [(a0, .inr (8, [.ref a0_bytes, .int v0_length, .int v0_at, z0_token, z0_filled, z0_fault, z0_faultPlace])), (a0_bytes, .inl (cyB, 600, .inl f0_bytes))] H → va_D A [(a0, .inr (8, [.ref a0_bytes, .int v0_length, .int v0_at, z0_token, z0_filled, z0_fault, z0_faultPlace])), (a0_bytes, .inl (cyB, 600, .inl f0_bytes))] → va_S A s.heap H locs → lv_has ls 1 [(0, .ref a0)] → wl_X8_skipBlanks_0 v0_length f0_bytes Q  n v0_at → W p l e (headSpec wsX8_skipBlanks ({ frames := 0, cells := 0, slots := 0, locals := 0 })).room s m args below meth c H locs 0 0 (MQ below (va_Qv (fun (u : Int32) => Q u) (cB (dC, dI) (kT cyB cyI cyJ cyP) A (fun u : Int32 => ([(a0, .inr (8, [.ref a0_bytes, .int v0_length, .int u, z0_token, z0_filled, z0_fault, z0_faultPlace])), (a0_bytes, .inl (cyB, 600, .inl f0_bytes))] : va_W))) A) args s 0 0 A) (F0 m 0 ls []) := by
  obtain ⟨hx, hb, hr, hts, hown, hlocks, hml, hA, hK, hNw⟩ := id C0
  intro n
  induction n with
  | zero => intro H locs ls v0_at hP hD hS hl hw; exact False.elim hw
  | succ n ih =>
    intro H locs ls v0_at hP hD hS hl hw
    refine lv_aload_n hx hb dX8_skipBlanks_0 rfl (lv_at hl 0 rfl) ?_
    refine va_get (D := (dC, dI)) (ci := 8) (v := .int v0_at) (C := RX8) (T := TX8) (N := 7) hx hb hts ui_X8_skipBlanks_X8 hown hK hP 0 rfl rfl 2 (by decide) (hts _ uw_X8_skipBlanks_f31) (fun _ h9 => h9) rfl dX8_skipBlanks_1 ?_
    refine lv_aload_n hx hb dX8_skipBlanks_4 rfl (lv_at hl 0 rfl) ?_
    refine va_get (D := (dC, dI)) (ci := 8) (v := .int v0_length) (C := RX8) (T := TX8) (N := 7) hx hb hts ui_X8_skipBlanks_X8 hown hK hP 0 rfl rfl 1 (by decide) (hts _ uw_X8_skipBlanks_f28) (fun _ h9 => h9) rfl dX8_skipBlanks_5 ?_
    refine lv_icmp_ge (tgt := 38) hx hb dX8_skipBlanks_8 (by decide) (fun c1 => ?_) (fun c1 => ?_)
    · have hw := hw.1 c1
      exact ((W.vret hx hb hr (fun t ht hW => ⟨⟨(v0_at), rfl, hw, by rw [ht]; exact hP, va_K.moved hW.alike hK, hD⟩, hS.F ht⟩) hS.2.2 dX8_skipBlanks_38))
    · have hw := hw.2 c1
      refine lv_aload_n hx hb dX8_skipBlanks_11 rfl (lv_at hl 0 rfl) ?_
      refine va_get (D := (dC, dI)) (ci := 8) (v := .ref a0_bytes) (C := RX8) (T := TX8) (N := 7) hx hb hts ui_X8_skipBlanks_X8 hown hK hP 0 rfl rfl 0 (by decide) (hts _ uw_X8_skipBlanks_f11) (fun _ h9 => h9) rfl dX8_skipBlanks_12 ?_
      refine lv_aload_n hx hb dX8_skipBlanks_15 rfl (lv_at hl 0 rfl) ?_
      refine va_get (D := (dC, dI)) (ci := 8) (v := .int v0_at) (C := RX8) (T := TX8) (N := 7) hx hb hts ui_X8_skipBlanks_X8 hown hK hP 0 rfl rfl 2 (by decide) (hts _ uw_X8_skipBlanks_f31) (fun _ h9 => h9) rfl dX8_skipBlanks_16 ?_
      obtain ⟨hi9, hw⟩ := hw
      refine va_bald hx hb hK hP 1 0 rfl rfl hi9 dX8_skipBlanks_19 ?_
      refine lv_topi (fun x2 ex2 => ?_)
      have hw := hw x2 ex2
      refine lv_bipush (v := 32) hx hb dX8_skipBlanks_20 (by decide) ?_
      refine lv_icmp_ne (tgt := 38) hx hb dX8_skipBlanks_22 (by decide) (fun c3 => ?_) (fun c3 => ?_)
      · have hw := hw.1 c3
        exact ((W.vret hx hb hr (fun t ht hW => ⟨⟨(v0_at), rfl, hw, by rw [ht]; exact hP, va_K.moved hW.alike hK, hD⟩, hS.F ht⟩) hS.2.2 dX8_skipBlanks_38))
      · have hw := hw.2 c3
        refine lv_aload_n hx hb dX8_skipBlanks_25 rfl (lv_at hl 0 rfl) ?_
        refine lv_dup hx hb dX8_skipBlanks_26 rfl ?_
        refine va_get (D := (dC, dI)) (ci := 8) (v := .int v0_at) (C := RX8) (T := TX8) (N := 7) hx hb hts ui_X8_skipBlanks_X8 hown hK hP 0 rfl rfl 2 (by decide) (hts _ uw_X8_skipBlanks_f31) (fun _ h9 => h9) rfl dX8_skipBlanks_27 ?_
        refine lv_iconst (v := 1) hx hb dX8_skipBlanks_30 (by decide) ?_
        refine lv_iadd hx hb dX8_skipBlanks_31 ?_
        refine lv_topi (fun x4 ex4 => ?_)
        have hw := hw x4 ex4
        refine va_put (D := (dC, dI)) (ci := 8) (v := .int x4) (ty := .int) (C := RX8) (T := TX8) (N := 7) hx hb hts ui_X8_skipBlanks_X8 tyX8 tyX8_ok nmX8 hown hK hP hD hS 0 rfl rfl 2 (by decide) (hts _ uw_X8_skipBlanks_f31) (fun _ h9 => h9) rfl (by decide +kernel) rfl rfl (Nat.le_of_ble_eq_true rfl) dX8_skipBlanks_32 (fun H locs hP hD hS => ?_)
        have hP : va_P (dC, dI) vwCl [(a0, .inr (8, [.ref a0_bytes, .int v0_length, .int x4, z0_token, z0_filled, z0_fault, z0_faultPlace])), (a0_bytes, .inl (cyB, 600, .inl f0_bytes))] H := hP
        have hD : va_D A [(a0, .inr (8, [.ref a0_bytes, .int v0_length, .int x4, z0_token, z0_filled, z0_fault, z0_faultPlace])), (a0_bytes, .inl (cyB, 600, .inl f0_bytes))] := hD
        refine lv_goto (tgt := 0) hx hb dX8_skipBlanks_35 (by decide) ?_
        exact ih _ _ _ x4 hP hD hS (lv_sub hl [0] rfl) hw
def wq_X8_skipBlanks (v0_length : Int32) (f0_bytes : Nat → Int32) (v0_at : Int32)  (Q : Int32 → Prop) : Prop := (∃ k9 : Nat, wl_X8_skipBlanks_0 v0_length f0_bytes Q  k9 v0_at)
set_option maxHeartbeats 4000000 in
set_option maxRecDepth 100000 in
theorem ck_X8_skipBlanks (l : Launch) (dC : Nat → ClassId) (dI : Nat → Nat → Nat) (cyB cyI cyJ cyP : ClassId) (a0 a0_bytes : Nat) (sz : Nat) (z0_token : Value) (z0_filled : Value) (z0_fault : Value) (z0_faultPlace : Value) (v0_length : Int32) (f0_bytes : Nat → Int32) (v0_at : Int32)  {Q : Int32 → Prop} (hw : wq_X8_skipBlanks v0_length f0_bytes v0_at  Q) : Met l yX8_skipBlanks wsX8_skipBlanks ({ frames := 0, cells := 0, slots := 0, locals := 0 }) (va_Pc [.ref a0] (cPc (dC, dI) (kT cyB cyI cyJ cyP) [(a0, .inr (8, [.ref a0_bytes, .int v0_length, .int v0_at, z0_token, z0_filled, z0_fault, z0_faultPlace])), (a0_bytes, .inl (cyB, 600, .inl f0_bytes))] sz)) (va_Qv (fun (u : Int32) => Q u) (cB (dC, dI) (kT cyB cyI cyJ cyP) (va_A [(a0, .inr (8, [.ref a0_bytes, .int v0_length, .int v0_at, z0_token, z0_filled, z0_fault, z0_faultPlace])), (a0_bytes, .inl (cyB, 600, .inl f0_bytes))] sz) (fun u : Int32 => ([(a0, .inr (8, [.ref a0_bytes, .int v0_length, .int u, z0_token, z0_filled, z0_fault, z0_faultPlace])), (a0_bytes, .inl (cyB, 600, .inl f0_bytes))] : va_W))) (va_A [(a0, .inr (8, [.ref a0_bytes, .int v0_length, .int v0_at, z0_token, z0_filled, z0_fault, z0_faultPlace])), (a0_bytes, .inl (cyB, 600, .inl f0_bytes))] sz)) 0 0 (va_A [(a0, .inr (8, [.ref a0_bytes, .int v0_length, .int v0_at, z0_token, z0_filled, z0_fault, z0_faultPlace])), (a0_bytes, .inl (cyB, 600, .inl f0_bytes))] sz) := by
  refine Met.ofW (cc := cX8_skipBlanks) (maxL := 1) (ret := none) (by decide) rfl ?_
  intro p e s m args below meth c s₁ B hml hv
  obtain ⟨rfl, hsz, hP, hK, hD0, hNw⟩ := hv
  have hx := B.exec
  have hb := B.bytes
  have hr := B.returns
  have hts := atoms_spec (ws := wsX8_skipBlanks) B.pre
  have hown : s.vm.findClass RX8 = some m.cls := findClass_of_methodNamed B.named
  have hlocks := B.notSynchronized
  subst hsz
  have hD := hD0.self (sz := s.heap.size)
  generalize hAe : va_A [(a0, .inr (8, [.ref a0_bytes, .int v0_length, .int v0_at, z0_token, z0_filled, z0_fault, z0_faultPlace])), (a0_bytes, .inl (cyB, 600, .inl f0_bytes))] s.heap.size = A at hD ⊢
  have hA : ∀ q : Nat, s.heap.size ≤ q → A q := fun q h => by rw [← hAe]; exact Or.inr h
  have hS : va_S A s.heap s.heap [] := va_S.rf
  have hP : va_P (dC, dI) vwCl [(a0, .inr (8, [.ref a0_bytes, .int v0_length, .int v0_at, z0_token, z0_filled, z0_fault, z0_faultPlace])), (a0_bytes, .inl (cyB, 600, .inl f0_bytes))] s.heap := hP
  have hl := lv_entry ([.ref a0]) (n := 1) (Nat.le_of_ble_eq_true rfl)
  rw [lg_entry_eq]
  generalize (lg_sl ([.ref a0]) ++ List.replicate (1 - (lg_sl ([.ref a0])).length) Slot.unset).toArray = ls at hl ⊢
  have hl : lv_has ls 1 [(0, .ref a0)] := hl
  have C0 : cfx p s m _ meth c cX8_skipBlanks none wsX8_skipBlanks RX8 1 A (dC, dI) (kT cyB cyI cyJ cyP) := ⟨hx, hb, hr, hts, hown, hlocks, hml, hA, hK, hNw⟩
  clear hAe
  obtain ⟨H, hH⟩ : ∃ H, H = s.heap := ⟨_, rfl⟩
  rw [← hH] at hP ⊢
  have hS : va_S A s.heap H [] := by rw [hH]; exact va_S.rf
  have hS := hS
  obtain ⟨n9, hw⟩ := hw
  exact kl_X8_skipBlanks_0 dC dI cyB cyI cyJ cyP a0 a0_bytes z0_token z0_filled z0_fault z0_faultPlace v0_length f0_bytes Q  C0 n9 _ _ _ v0_at hP hD hS (lv_sub hl [0] rfl) hw
theorem ui_X8_isEnded_X8 : ∀ w ∈ u_ws RX8 TX8 7, w ∈ wsX8_isEnded := by decide +kernel
theorem uw_X8_isEnded_f28 : (.fieldLink RX8 28 "MarchHares$Tape" "length" "I" : Cond) ∈ wsX8_isEnded := by decide +kernel
theorem uw_X8_isEnded_f31 : (.fieldLink RX8 31 "MarchHares$Tape" "at" "I" : Cond) ∈ wsX8_isEnded := by decide +kernel
def wq_X8_isEnded (v0_length : Int32) (f0_bytes : Nat → Int32) (v0_at : Int32)  (Q : Int32 → Int32 → Prop) : Prop := wq_X8_skipBlanks v0_length f0_bytes v0_at  (fun x1 => ((x1 < v0_length → (Q 0 x1)) ∧ (¬ x1 < v0_length → (Q 1 x1))))
set_option maxHeartbeats 4000000 in
set_option maxRecDepth 100000 in
theorem ck_X8_isEnded (l : Launch) (dC : Nat → ClassId) (dI : Nat → Nat → Nat) (cyB cyI cyJ cyP : ClassId) (a0 a0_bytes : Nat) (sz : Nat) (z0_token : Value) (z0_filled : Value) (z0_fault : Value) (z0_faultPlace : Value) (v0_length : Int32) (f0_bytes : Nat → Int32) (v0_at : Int32)  {Q : Int32 → Int32 → Prop} (hw : wq_X8_isEnded v0_length f0_bytes v0_at  Q) : Met l yX8_isEnded wsX8_isEnded ({ frames := 1, cells := 0, slots := 0, locals := 20 }) (va_Pc [.ref a0] (cPc (dC, dI) (kT cyB cyI cyJ cyP) [(a0, .inr (8, [.ref a0_bytes, .int v0_length, .int v0_at, z0_token, z0_filled, z0_fault, z0_faultPlace])), (a0_bytes, .inl (cyB, 600, .inl f0_bytes))] sz)) (va_Qi (fun (r : Int32) (u : Int32) => Q r u) (cB (dC, dI) (kT cyB cyI cyJ cyP) (va_A [(a0, .inr (8, [.ref a0_bytes, .int v0_length, .int v0_at, z0_token, z0_filled, z0_fault, z0_faultPlace])), (a0_bytes, .inl (cyB, 600, .inl f0_bytes))] sz) (fun u : Int32 => ([(a0, .inr (8, [.ref a0_bytes, .int v0_length, .int u, z0_token, z0_filled, z0_fault, z0_faultPlace])), (a0_bytes, .inl (cyB, 600, .inl f0_bytes))] : va_W))) (va_A [(a0, .inr (8, [.ref a0_bytes, .int v0_length, .int v0_at, z0_token, z0_filled, z0_fault, z0_faultPlace])), (a0_bytes, .inl (cyB, 600, .inl f0_bytes))] sz)) 0 0 (va_A [(a0, .inr (8, [.ref a0_bytes, .int v0_length, .int v0_at, z0_token, z0_filled, z0_fault, z0_faultPlace])), (a0_bytes, .inl (cyB, 600, .inl f0_bytes))] sz) := by
  refine Met.ofW (cc := cX8_isEnded) (maxL := 1) (ret := (some .boolean)) (by decide) rfl ?_
  intro p e s m args below meth c s₁ B hml hv
  obtain ⟨rfl, hsz, hP, hK, hD0, hNw⟩ := hv
  have hx := B.exec
  have hb := B.bytes
  have hr := B.returns
  have hts := atoms_spec (ws := wsX8_isEnded) B.pre
  have hown : s.vm.findClass RX8 = some m.cls := findClass_of_methodNamed B.named
  have hlocks := B.notSynchronized
  subst hsz
  have hD := hD0.self (sz := s.heap.size)
  generalize hAe : va_A [(a0, .inr (8, [.ref a0_bytes, .int v0_length, .int v0_at, z0_token, z0_filled, z0_fault, z0_faultPlace])), (a0_bytes, .inl (cyB, 600, .inl f0_bytes))] s.heap.size = A at hD ⊢
  have hA : ∀ q : Nat, s.heap.size ≤ q → A q := fun q h => by rw [← hAe]; exact Or.inr h
  have hS : va_S A s.heap s.heap [] := va_S.rf
  have hP : va_P (dC, dI) vwCl [(a0, .inr (8, [.ref a0_bytes, .int v0_length, .int v0_at, z0_token, z0_filled, z0_fault, z0_faultPlace])), (a0_bytes, .inl (cyB, 600, .inl f0_bytes))] s.heap := hP
  have hl := lv_entry ([.ref a0]) (n := 1) (Nat.le_of_ble_eq_true rfl)
  rw [lg_entry_eq]
  generalize (lg_sl ([.ref a0]) ++ List.replicate (1 - (lg_sl ([.ref a0])).length) Slot.unset).toArray = ls at hl ⊢
  have hl : lv_has ls 1 [(0, .ref a0)] := hl
  have C0 : cfx p s m _ meth c cX8_isEnded (some .boolean) wsX8_isEnded RX8 1 A (dC, dI) (kT cyB cyI cyJ cyP) := ⟨hx, hb, hr, hts, hown, hlocks, hml, hA, hK, hNw⟩
  clear hAe
  obtain ⟨H, hH⟩ : ∃ H, H = s.heap := ⟨_, rfl⟩
  rw [← hH] at hP ⊢
  have hS : va_S A s.heap H [] := by rw [hH]; exact va_S.rf
  have hS := hS
  refine lv_aload_n hx hb dX8_isEnded_0 rfl (lv_at hl 0 rfl) ?_
  have hPc := hP.sub (ws' := [(a0, .inr (8, [.ref a0_bytes, .int v0_length, .int v0_at, z0_token, z0_filled, z0_fault, z0_faultPlace])), (a0_bytes, .inl (cyB, 600, .inl f0_bytes))]) [0, 1] rfl
  have hDc := hD.sub (ws' := [(a0, .inr (8, [.ref a0_bytes, .int v0_length, .int v0_at, z0_token, z0_filled, z0_fault, z0_faultPlace])), (a0_bytes, .inl (cyB, 600, .inl f0_bytes))]) [0, 1] (by decide) rfl
  have hFc := va_free (wc := [(a0, .inr (8, [.ref a0_bytes, .int v0_length, .int v0_at, z0_token, z0_filled, z0_fault, z0_faultPlace])), (a0_bytes, .inl (cyB, 600, .inl f0_bytes))]) hD hS hA [0, 1] rfl
  refine va_callv (va_runV (As := []) (rest := []) ⟨hx, hb, hml, hown, hts⟩ (ck_X8_skipBlanks l dC dI cyB cyI cyJ cyP a0 a0_bytes H.size (z0_token) (z0_filled) (z0_fault) (z0_faultPlace) v0_length f0_bytes v0_at  hw) (cwV 0 hts gX8_isEnded_X8_skipBlanks rfl rfl rfl (by decide +kernel) ⟨Nat.le_of_ble_eq_true rfl, Nat.le_of_ble_eq_true rfl⟩) ⟨cPc_blind, va_recv hK hPc (ci := 8) (q0 := 0) rfl rfl, cPc_pre hPc hK hDc hNw⟩ rfl rfl hl.1 rfl (lv_room (Nat.le_of_ble_eq_true rfl)) dX8_isEnded_1 ⟨Nat.le_of_ble_eq_true rfl, Nat.le_of_ble_eq_true rfl⟩) hS (fun q _ h => hFc q h) hFc (fun u t H1 locs ht hvm hw hB hz1 hk1 hS => ?_)
  obtain ⟨x1, rfl⟩ : ∃ z, z = u := ⟨_, rfl⟩
  obtain ⟨hP1, hK1, hD1⟩ := hB
  rw [ht] at hP1
  obtain ⟨hP, hD⟩ := va_join (wr := []) (w1 := [(a0, .inr (8, [.ref a0_bytes, .int v0_length, .int x1, z0_token, z0_filled, z0_fault, z0_faultPlace])), (a0_bytes, .inl (cyB, 600, .inl f0_bytes))]) hP hD [0, 1] [] rfl rfl (by decide) (by decide) hk1 hFc hP1 hD1
  have hP : va_P (dC, dI) vwCl [(a0, .inr (8, [.ref a0_bytes, .int v0_length, .int x1, z0_token, z0_filled, z0_fault, z0_faultPlace])), (a0_bytes, .inl (cyB, 600, .inl f0_bytes))] H1 := hP
  have hD : va_D A [(a0, .inr (8, [.ref a0_bytes, .int v0_length, .int x1, z0_token, z0_filled, z0_fault, z0_faultPlace])), (a0_bytes, .inl (cyB, 600, .inl f0_bytes))] := hD
  generalize H1 = H at hP hS ⊢
  refine lv_aload_n hx hb dX8_isEnded_4 rfl (lv_at hl 0 rfl) ?_
  refine va_get (D := (dC, dI)) (ci := 8) (v := .int x1) (C := RX8) (T := TX8) (N := 7) hx hb hts ui_X8_isEnded_X8 hown hK hP 0 rfl rfl 2 (by decide) (hts _ uw_X8_isEnded_f31) (fun _ h9 => h9) rfl dX8_isEnded_5 ?_
  refine lv_aload_n hx hb dX8_isEnded_8 rfl (lv_at hl 0 rfl) ?_
  refine va_get (D := (dC, dI)) (ci := 8) (v := .int v0_length) (C := RX8) (T := TX8) (N := 7) hx hb hts ui_X8_isEnded_X8 hown hK hP 0 rfl rfl 1 (by decide) (hts _ uw_X8_isEnded_f28) (fun _ h9 => h9) rfl dX8_isEnded_9 ?_
  refine lv_icmp_lt (tgt := 19) hx hb dX8_isEnded_12 (by decide) (fun c2 => ?_) (fun c2 => ?_)
  · have hw := hw.1 c2
    refine lv_iconst (v := 0) hx hb dX8_isEnded_19 (by decide) ?_
    exact ((W.zret (v := 0) hx hb hr rfl (fun t ht hW => ⟨⟨0, (x1), rfl, hw, by rw [ht]; exact hP, va_K.moved hW.alike hK, hD⟩, hS.F ht⟩) hS.2.2 dX8_isEnded_20))
  · have hw := hw.2 c2
    refine lv_iconst (v := 1) hx hb dX8_isEnded_15 (by decide) ?_
    refine lv_goto (tgt := 20) hx hb dX8_isEnded_16 (by decide) ?_
    exact ((W.zret (v := 1) hx hb hr rfl (fun t ht hW => ⟨⟨1, (x1), rfl, hw, by rw [ht]; exact hP, va_K.moved hW.alike hK, hD⟩, hS.F ht⟩) hS.2.2 dX8_isEnded_20))
theorem ui_X8_isLetter_X8 : ∀ w ∈ u_ws RX8 TX8 7, w ∈ wsX8_isLetter := by decide +kernel
theorem uw_X8_isLetter_f11 : (.fieldLink RX8 11 "MarchHares$Tape" "bytes" "[B" : Cond) ∈ wsX8_isLetter := by decide +kernel
theorem uw_X8_isLetter_f28 : (.fieldLink RX8 28 "MarchHares$Tape" "length" "I" : Cond) ∈ wsX8_isLetter := by decide +kernel
def wq_X8_isLetter (v0_length : Int32) (f0_bytes : Nat → Int32)  (p1 : Int32) (Q : Int32 → Prop) : Prop := ((v0_length ≤ p1 → (Q 0)) ∧ (¬ v0_length ≤ p1 → vp_in p1 600 ∧ ∀ x2 : Int32, x2 = f0_bytes p1.toNatClampNeg → ((x2 < 97 → (Q 0)) ∧ (¬ x2 < 97 → vp_in p1 600 ∧ ∀ x4 : Int32, x4 = f0_bytes p1.toNatClampNeg → ((122 < x4 → (Q 0)) ∧ (¬ 122 < x4 → (Q 1)))))))
set_option maxHeartbeats 4000000 in
set_option maxRecDepth 100000 in
theorem ck_X8_isLetter (l : Launch) (dC : Nat → ClassId) (dI : Nat → Nat → Nat) (cyB cyI cyJ cyP : ClassId) (a0 a0_bytes : Nat) (sz : Nat) (z0_at : Value) (z0_token : Value) (z0_filled : Value) (z0_fault : Value) (z0_faultPlace : Value) (v0_length : Int32) (f0_bytes : Nat → Int32)  (p1 : Int32) {Q : Int32 → Prop} (hw : wq_X8_isLetter v0_length f0_bytes  p1 Q) : Met l yX8_isLetter wsX8_isLetter ({ frames := 0, cells := 0, slots := 0, locals := 0 }) (va_Pc [.ref a0, .int p1] (cPc (dC, dI) (kT cyB cyI cyJ cyP) [(a0, .inr (8, [.ref a0_bytes, .int v0_length, z0_at, z0_token, z0_filled, z0_fault, z0_faultPlace])), (a0_bytes, .inl (cyB, 600, .inl f0_bytes))] sz)) (va_Qi (fun (r : Int32) (_ : Unit) => Q r ) (cB (dC, dI) (kT cyB cyI cyJ cyP) (va_A [(a0, .inr (8, [.ref a0_bytes, .int v0_length, z0_at, z0_token, z0_filled, z0_fault, z0_faultPlace])), (a0_bytes, .inl (cyB, 600, .inl f0_bytes))] sz) (fun u : Unit => ([(a0, .inr (8, [.ref a0_bytes, .int v0_length, z0_at, z0_token, z0_filled, z0_fault, z0_faultPlace])), (a0_bytes, .inl (cyB, 600, .inl f0_bytes))] : va_W))) (va_A [(a0, .inr (8, [.ref a0_bytes, .int v0_length, z0_at, z0_token, z0_filled, z0_fault, z0_faultPlace])), (a0_bytes, .inl (cyB, 600, .inl f0_bytes))] sz)) 0 0 (va_A [(a0, .inr (8, [.ref a0_bytes, .int v0_length, z0_at, z0_token, z0_filled, z0_fault, z0_faultPlace])), (a0_bytes, .inl (cyB, 600, .inl f0_bytes))] sz) := by
  refine Met.ofW (cc := cX8_isLetter) (maxL := 2) (ret := (some .boolean)) (by decide) rfl ?_
  intro p e s m args below meth c s₁ B hml hv
  obtain ⟨rfl, hsz, hP, hK, hD0, hNw⟩ := hv
  have hx := B.exec
  have hb := B.bytes
  have hr := B.returns
  have hts := atoms_spec (ws := wsX8_isLetter) B.pre
  have hown : s.vm.findClass RX8 = some m.cls := findClass_of_methodNamed B.named
  have hlocks := B.notSynchronized
  subst hsz
  have hD := hD0.self (sz := s.heap.size)
  generalize hAe : va_A [(a0, .inr (8, [.ref a0_bytes, .int v0_length, z0_at, z0_token, z0_filled, z0_fault, z0_faultPlace])), (a0_bytes, .inl (cyB, 600, .inl f0_bytes))] s.heap.size = A at hD ⊢
  have hA : ∀ q : Nat, s.heap.size ≤ q → A q := fun q h => by rw [← hAe]; exact Or.inr h
  have hS : va_S A s.heap s.heap [] := va_S.rf
  have hP : va_P (dC, dI) vwCl [(a0, .inr (8, [.ref a0_bytes, .int v0_length, z0_at, z0_token, z0_filled, z0_fault, z0_faultPlace])), (a0_bytes, .inl (cyB, 600, .inl f0_bytes))] s.heap := hP
  have hl := lv_entry ([.ref a0, .int p1]) (n := 2) (Nat.le_of_ble_eq_true rfl)
  rw [lg_entry_eq]
  generalize (lg_sl ([.ref a0, .int p1]) ++ List.replicate (2 - (lg_sl ([.ref a0, .int p1])).length) Slot.unset).toArray = ls at hl ⊢
  have hl : lv_has ls 2 [(0, .ref a0), (1, .int p1)] := hl
  have C0 : cfx p s m _ meth c cX8_isLetter (some .boolean) wsX8_isLetter RX8 2 A (dC, dI) (kT cyB cyI cyJ cyP) := ⟨hx, hb, hr, hts, hown, hlocks, hml, hA, hK, hNw⟩
  clear hAe
  obtain ⟨H, hH⟩ : ∃ H, H = s.heap := ⟨_, rfl⟩
  rw [← hH] at hP ⊢
  have hS : va_S A s.heap H [] := by rw [hH]; exact va_S.rf
  have hS := hS
  refine lv_iload_n hx hb dX8_isLetter_0 rfl (lv_at hl 1 rfl) ?_
  refine lv_aload_n hx hb dX8_isLetter_1 rfl (lv_at hl 0 rfl) ?_
  refine va_get (D := (dC, dI)) (ci := 8) (v := .int v0_length) (C := RX8) (T := TX8) (N := 7) hx hb hts ui_X8_isLetter_X8 hown hK hP 0 rfl rfl 1 (by decide) (hts _ uw_X8_isLetter_f28) (fun _ h9 => h9) rfl dX8_isLetter_2 ?_
  refine lv_icmp_ge (tgt := 34) hx hb dX8_isLetter_5 (by decide) (fun c1 => ?_) (fun c1 => ?_)
  · have hw := hw.1 c1
    refine lv_iconst (v := 0) hx hb dX8_isLetter_34 (by decide) ?_
    exact ((W.zret (v := 0) hx hb hr rfl (fun t ht hW => ⟨⟨0, (), rfl, hw, by rw [ht]; exact hP, va_K.moved hW.alike hK, hD⟩, hS.F ht⟩) hS.2.2 dX8_isLetter_35))
  · have hw := hw.2 c1
    refine lv_aload_n hx hb dX8_isLetter_8 rfl (lv_at hl 0 rfl) ?_
    refine va_get (D := (dC, dI)) (ci := 8) (v := .ref a0_bytes) (C := RX8) (T := TX8) (N := 7) hx hb hts ui_X8_isLetter_X8 hown hK hP 0 rfl rfl 0 (by decide) (hts _ uw_X8_isLetter_f11) (fun _ h9 => h9) rfl dX8_isLetter_9 ?_
    refine lv_iload_n hx hb dX8_isLetter_12 rfl (lv_at hl 1 rfl) ?_
    obtain ⟨hi9, hw⟩ := hw
    refine va_bald hx hb hK hP 1 0 rfl rfl hi9 dX8_isLetter_13 ?_
    refine lv_topi (fun x2 ex2 => ?_)
    have hw := hw x2 ex2
    refine lv_bipush (v := 97) hx hb dX8_isLetter_14 (by decide) ?_
    refine lv_icmp_lt (tgt := 34) hx hb dX8_isLetter_16 (by decide) (fun c3 => ?_) (fun c3 => ?_)
    · have hw := hw.1 c3
      refine lv_iconst (v := 0) hx hb dX8_isLetter_34 (by decide) ?_
      exact ((W.zret (v := 0) hx hb hr rfl (fun t ht hW => ⟨⟨0, (), rfl, hw, by rw [ht]; exact hP, va_K.moved hW.alike hK, hD⟩, hS.F ht⟩) hS.2.2 dX8_isLetter_35))
    · have hw := hw.2 c3
      refine lv_aload_n hx hb dX8_isLetter_19 rfl (lv_at hl 0 rfl) ?_
      refine va_get (D := (dC, dI)) (ci := 8) (v := .ref a0_bytes) (C := RX8) (T := TX8) (N := 7) hx hb hts ui_X8_isLetter_X8 hown hK hP 0 rfl rfl 0 (by decide) (hts _ uw_X8_isLetter_f11) (fun _ h9 => h9) rfl dX8_isLetter_20 ?_
      refine lv_iload_n hx hb dX8_isLetter_23 rfl (lv_at hl 1 rfl) ?_
      obtain ⟨hi9, hw⟩ := hw
      refine va_bald hx hb hK hP 1 0 rfl rfl hi9 dX8_isLetter_24 ?_
      refine lv_topi (fun x4 ex4 => ?_)
      have hw := hw x4 ex4
      refine lv_bipush (v := 122) hx hb dX8_isLetter_25 (by decide) ?_
      refine lv_icmp_gt (tgt := 34) hx hb dX8_isLetter_27 (by decide) (fun c5 => ?_) (fun c5 => ?_)
      · have hw := hw.1 c5
        refine lv_iconst (v := 0) hx hb dX8_isLetter_34 (by decide) ?_
        exact ((W.zret (v := 0) hx hb hr rfl (fun t ht hW => ⟨⟨0, (), rfl, hw, by rw [ht]; exact hP, va_K.moved hW.alike hK, hD⟩, hS.F ht⟩) hS.2.2 dX8_isLetter_35))
      · have hw := hw.2 c5
        refine lv_iconst (v := 1) hx hb dX8_isLetter_30 (by decide) ?_
        refine lv_goto (tgt := 35) hx hb dX8_isLetter_31 (by decide) ?_
        exact ((W.zret (v := 1) hx hb hr rfl (fun t ht hW => ⟨⟨1, (), rfl, hw, by rw [ht]; exact hP, va_K.moved hW.alike hK, hD⟩, hS.F ht⟩) hS.2.2 dX8_isLetter_35))
theorem ui_X8_takesWord_X8 : ∀ w ∈ u_ws RX8 TX8 7, w ∈ wsX8_takesWord := by decide +kernel
theorem uw_X8_takesWord_f31 : (.fieldLink RX8 31 "MarchHares$Tape" "at" "I" : Cond) ∈ wsX8_takesWord := by decide +kernel
def wq_X8_takesWord (v0_length : Int32) (f0_bytes : Nat → Int32) (v0_at : Int32)  (Q : Int32 → Int32 → Prop) : Prop := wq_X8_skipBlanks v0_length f0_bytes v0_at  (fun x1 => False)
set_option maxHeartbeats 4000000 in
set_option maxRecDepth 100000 in
theorem ck_X8_takesWord (l : Launch) (dC : Nat → ClassId) (dI : Nat → Nat → Nat) (cyB cyI cyJ cyP : ClassId) (a0 a1 a0_bytes : Nat) (sz : Nat) (z0_token : Value) (z0_filled : Value) (z0_fault : Value) (z0_faultPlace : Value) (v0_length : Int32) (f0_bytes : Nat → Int32) (v0_at : Int32)  {Q : Int32 → Int32 → Prop} (hw : wq_X8_takesWord v0_length f0_bytes v0_at  Q) : Met l yX8_takesWord wsX8_takesWord ({ frames := 1, cells := 0, slots := 0, locals := 20 }) (va_Pc [.ref a0, .ref a1] (cPc (dC, dI) (kT cyB cyI cyJ cyP) [(a0, .inr (8, [.ref a0_bytes, .int v0_length, .int v0_at, z0_token, z0_filled, z0_fault, z0_faultPlace])), (a0_bytes, .inl (cyB, 600, .inl f0_bytes))] sz)) (va_Qi (fun (r : Int32) (u : Int32) => Q r u) (cB (dC, dI) (kT cyB cyI cyJ cyP) (va_A [(a0, .inr (8, [.ref a0_bytes, .int v0_length, .int v0_at, z0_token, z0_filled, z0_fault, z0_faultPlace])), (a0_bytes, .inl (cyB, 600, .inl f0_bytes))] sz) (fun u : Int32 => ([(a0, .inr (8, [.ref a0_bytes, .int v0_length, .int u, z0_token, z0_filled, z0_fault, z0_faultPlace])), (a0_bytes, .inl (cyB, 600, .inl f0_bytes))] : va_W))) (va_A [(a0, .inr (8, [.ref a0_bytes, .int v0_length, .int v0_at, z0_token, z0_filled, z0_fault, z0_faultPlace])), (a0_bytes, .inl (cyB, 600, .inl f0_bytes))] sz)) 0 0 (va_A [(a0, .inr (8, [.ref a0_bytes, .int v0_length, .int v0_at, z0_token, z0_filled, z0_fault, z0_faultPlace])), (a0_bytes, .inl (cyB, 600, .inl f0_bytes))] sz) := by
  refine Met.ofW (cc := cX8_takesWord) (maxL := 4) (ret := (some .boolean)) (by decide) rfl ?_
  intro p e s m args below meth c s₁ B hml hv
  obtain ⟨rfl, hsz, hP, hK, hD0, hNw⟩ := hv
  have hx := B.exec
  have hb := B.bytes
  have hr := B.returns
  have hts := atoms_spec (ws := wsX8_takesWord) B.pre
  have hown : s.vm.findClass RX8 = some m.cls := findClass_of_methodNamed B.named
  have hlocks := B.notSynchronized
  subst hsz
  have hD := hD0.self (sz := s.heap.size)
  generalize hAe : va_A [(a0, .inr (8, [.ref a0_bytes, .int v0_length, .int v0_at, z0_token, z0_filled, z0_fault, z0_faultPlace])), (a0_bytes, .inl (cyB, 600, .inl f0_bytes))] s.heap.size = A at hD ⊢
  have hA : ∀ q : Nat, s.heap.size ≤ q → A q := fun q h => by rw [← hAe]; exact Or.inr h
  have hS : va_S A s.heap s.heap [] := va_S.rf
  have hP : va_P (dC, dI) vwCl [(a0, .inr (8, [.ref a0_bytes, .int v0_length, .int v0_at, z0_token, z0_filled, z0_fault, z0_faultPlace])), (a0_bytes, .inl (cyB, 600, .inl f0_bytes))] s.heap := hP
  have hl := lv_entry ([.ref a0, .ref a1]) (n := 4) (Nat.le_of_ble_eq_true rfl)
  rw [lg_entry_eq]
  generalize (lg_sl ([.ref a0, .ref a1]) ++ List.replicate (4 - (lg_sl ([.ref a0, .ref a1])).length) Slot.unset).toArray = ls at hl ⊢
  have hl : lv_has ls 4 [(0, .ref a0), (1, .ref a1)] := hl
  have C0 : cfx p s m _ meth c cX8_takesWord (some .boolean) wsX8_takesWord RX8 4 A (dC, dI) (kT cyB cyI cyJ cyP) := ⟨hx, hb, hr, hts, hown, hlocks, hml, hA, hK, hNw⟩
  clear hAe
  obtain ⟨H, hH⟩ : ∃ H, H = s.heap := ⟨_, rfl⟩
  rw [← hH] at hP ⊢
  have hS : va_S A s.heap H [] := by rw [hH]; exact va_S.rf
  have hS := hS
  refine lv_aload_n hx hb dX8_takesWord_0 rfl (lv_at hl 0 rfl) ?_
  have hPc := hP.sub (ws' := [(a0, .inr (8, [.ref a0_bytes, .int v0_length, .int v0_at, z0_token, z0_filled, z0_fault, z0_faultPlace])), (a0_bytes, .inl (cyB, 600, .inl f0_bytes))]) [0, 1] rfl
  have hDc := hD.sub (ws' := [(a0, .inr (8, [.ref a0_bytes, .int v0_length, .int v0_at, z0_token, z0_filled, z0_fault, z0_faultPlace])), (a0_bytes, .inl (cyB, 600, .inl f0_bytes))]) [0, 1] (by decide) rfl
  have hFc := va_free (wc := [(a0, .inr (8, [.ref a0_bytes, .int v0_length, .int v0_at, z0_token, z0_filled, z0_fault, z0_faultPlace])), (a0_bytes, .inl (cyB, 600, .inl f0_bytes))]) hD hS hA [0, 1] rfl
  refine va_callv (va_runV (As := []) (rest := []) ⟨hx, hb, hml, hown, hts⟩ (ck_X8_skipBlanks l dC dI cyB cyI cyJ cyP a0 a0_bytes H.size (z0_token) (z0_filled) (z0_fault) (z0_faultPlace) v0_length f0_bytes v0_at  hw) (cwV 0 hts gX8_takesWord_X8_skipBlanks rfl rfl rfl (by decide +kernel) ⟨Nat.le_of_ble_eq_true rfl, Nat.le_of_ble_eq_true rfl⟩) ⟨cPc_blind, va_recv hK hPc (ci := 8) (q0 := 0) rfl rfl, cPc_pre hPc hK hDc hNw⟩ rfl rfl hl.1 rfl (lv_room (Nat.le_of_ble_eq_true rfl)) dX8_takesWord_1 ⟨Nat.le_of_ble_eq_true rfl, Nat.le_of_ble_eq_true rfl⟩) hS (fun q _ h => hFc q h) hFc (fun u t H1 locs ht hvm hw hB hz1 hk1 hS => ?_)
  obtain ⟨x1, rfl⟩ : ∃ z, z = u := ⟨_, rfl⟩
  obtain ⟨hP1, hK1, hD1⟩ := hB
  rw [ht] at hP1
  obtain ⟨hP, hD⟩ := va_join (wr := []) (w1 := [(a0, .inr (8, [.ref a0_bytes, .int v0_length, .int x1, z0_token, z0_filled, z0_fault, z0_faultPlace])), (a0_bytes, .inl (cyB, 600, .inl f0_bytes))]) hP hD [0, 1] [] rfl rfl (by decide) (by decide) hk1 hFc hP1 hD1
  have hP : va_P (dC, dI) vwCl [(a0, .inr (8, [.ref a0_bytes, .int v0_length, .int x1, z0_token, z0_filled, z0_fault, z0_faultPlace])), (a0_bytes, .inl (cyB, 600, .inl f0_bytes))] H1 := hP
  have hD : va_D A [(a0, .inr (8, [.ref a0_bytes, .int v0_length, .int x1, z0_token, z0_filled, z0_fault, z0_faultPlace])), (a0_bytes, .inl (cyB, 600, .inl f0_bytes))] := hD
  generalize H1 = H at hP hS ⊢
  refine lv_aload_n hx hb dX8_takesWord_4 rfl (lv_at hl 0 rfl) ?_
  refine va_get (D := (dC, dI)) (ci := 8) (v := .int x1) (C := RX8) (T := TX8) (N := 7) hx hb hts ui_X8_takesWord_X8 hown hK hP 0 rfl rfl 2 (by decide) (hts _ uw_X8_takesWord_f31) (fun _ h9 => h9) rfl dX8_takesWord_5 ?_
  refine lv_aload_n hx hb dX8_takesWord_8 rfl (lv_at hl 1 rfl) ?_
  exact False.elim hw
theorem ui_X8_blame_X8 : ∀ w ∈ u_ws RX8 TX8 7, w ∈ wsX8_blame := by decide +kernel
theorem uw_X8_blame_f15 : (.fieldLink RX8 15 "MarchHares$Tape" "faultPlace" "I" : Cond) ∈ wsX8_blame := by decide +kernel
theorem uw_X8_blame_f37 : (.fieldLink RX8 37 "MarchHares$Tape" "fault" "I" : Cond) ∈ wsX8_blame := by decide +kernel
def wq_X8_blame  (v0_fault : Int32) (v0_faultPlace : Int32) (p1 : Int32) (p2 : Int32) (Q : Int32 → Int32 → Prop) : Prop := ((¬ v0_fault = 0 → (Q v0_fault v0_faultPlace)) ∧ (v0_fault = 0 → (Q p1 p2)))
set_option maxHeartbeats 4000000 in
set_option maxRecDepth 100000 in
theorem ck_X8_blame (l : Launch) (dC : Nat → ClassId) (dI : Nat → Nat → Nat) (cyB cyI cyJ cyP : ClassId) (a0 : Nat) (sz : Nat) (z0_bytes : Value) (z0_length : Value) (z0_at : Value) (z0_token : Value) (z0_filled : Value)  (v0_fault : Int32) (v0_faultPlace : Int32) (p1 : Int32) (p2 : Int32) {Q : Int32 → Int32 → Prop} (hw : wq_X8_blame  v0_fault v0_faultPlace p1 p2 Q) : Met l yX8_blame wsX8_blame ({ frames := 0, cells := 0, slots := 0, locals := 0 }) (va_Pc [.ref a0, .int p1, .int p2] (cPc (dC, dI) (kT cyB cyI cyJ cyP) [(a0, .inr (8, [z0_bytes, z0_length, z0_at, z0_token, z0_filled, .int v0_fault, .int v0_faultPlace]))] sz)) (va_Qv (fun (u : Int32 × Int32) => Q u.1 u.2) (cB (dC, dI) (kT cyB cyI cyJ cyP) (va_A [(a0, .inr (8, [z0_bytes, z0_length, z0_at, z0_token, z0_filled, .int v0_fault, .int v0_faultPlace]))] sz) (fun u : Int32 × Int32 => ([(a0, .inr (8, [z0_bytes, z0_length, z0_at, z0_token, z0_filled, .int u.1, .int u.2]))] : va_W))) (va_A [(a0, .inr (8, [z0_bytes, z0_length, z0_at, z0_token, z0_filled, .int v0_fault, .int v0_faultPlace]))] sz)) 0 0 (va_A [(a0, .inr (8, [z0_bytes, z0_length, z0_at, z0_token, z0_filled, .int v0_fault, .int v0_faultPlace]))] sz) := by
  refine Met.ofW (cc := cX8_blame) (maxL := 3) (ret := none) (by decide) rfl ?_
  intro p e s m args below meth c s₁ B hml hv
  obtain ⟨rfl, hsz, hP, hK, hD0, hNw⟩ := hv
  have hx := B.exec
  have hb := B.bytes
  have hr := B.returns
  have hts := atoms_spec (ws := wsX8_blame) B.pre
  have hown : s.vm.findClass RX8 = some m.cls := findClass_of_methodNamed B.named
  have hlocks := B.notSynchronized
  subst hsz
  have hD := hD0.self (sz := s.heap.size)
  generalize hAe : va_A [(a0, .inr (8, [z0_bytes, z0_length, z0_at, z0_token, z0_filled, .int v0_fault, .int v0_faultPlace]))] s.heap.size = A at hD ⊢
  have hA : ∀ q : Nat, s.heap.size ≤ q → A q := fun q h => by rw [← hAe]; exact Or.inr h
  have hS : va_S A s.heap s.heap [] := va_S.rf
  have hP : va_P (dC, dI) vwCl [(a0, .inr (8, [z0_bytes, z0_length, z0_at, z0_token, z0_filled, .int v0_fault, .int v0_faultPlace]))] s.heap := hP
  have hl := lv_entry ([.ref a0, .int p1, .int p2]) (n := 3) (Nat.le_of_ble_eq_true rfl)
  rw [lg_entry_eq]
  generalize (lg_sl ([.ref a0, .int p1, .int p2]) ++ List.replicate (3 - (lg_sl ([.ref a0, .int p1, .int p2])).length) Slot.unset).toArray = ls at hl ⊢
  have hl : lv_has ls 3 [(0, .ref a0), (1, .int p1), (2, .int p2)] := hl
  have C0 : cfx p s m _ meth c cX8_blame none wsX8_blame RX8 3 A (dC, dI) (kT cyB cyI cyJ cyP) := ⟨hx, hb, hr, hts, hown, hlocks, hml, hA, hK, hNw⟩
  clear hAe
  obtain ⟨H, hH⟩ : ∃ H, H = s.heap := ⟨_, rfl⟩
  rw [← hH] at hP ⊢
  have hS : va_S A s.heap H [] := by rw [hH]; exact va_S.rf
  have hS := hS
  refine lv_aload_n hx hb dX8_blame_0 rfl (lv_at hl 0 rfl) ?_
  refine va_get (D := (dC, dI)) (ci := 8) (v := .int v0_fault) (C := RX8) (T := TX8) (N := 7) hx hb hts ui_X8_blame_X8 hown hK hP 0 rfl rfl 5 (by decide) (hts _ uw_X8_blame_f37) (fun _ h9 => h9) rfl dX8_blame_1 ?_
  refine lv_if_ne (tgt := 17) hx hb dX8_blame_4 (by decide) (fun c1 => ?_) (fun c1 => ?_)
  · have hw := hw.1 c1
    exact ((W.vret hx hb hr (fun t ht hW => ⟨⟨(v0_fault, v0_faultPlace), rfl, hw, by rw [ht]; exact hP, va_K.moved hW.alike hK, hD⟩, hS.F ht⟩) hS.2.2 dX8_blame_17))
  · have hw := hw.2 c1
    refine lv_aload_n hx hb dX8_blame_7 rfl (lv_at hl 0 rfl) ?_
    refine lv_iload_n hx hb dX8_blame_8 rfl (lv_at hl 1 rfl) ?_
    refine va_put (D := (dC, dI)) (ci := 8) (v := .int p1) (ty := .int) (C := RX8) (T := TX8) (N := 7) hx hb hts ui_X8_blame_X8 tyX8 tyX8_ok nmX8 hown hK hP hD hS 0 rfl rfl 5 (by decide) (hts _ uw_X8_blame_f37) (fun _ h9 => h9) rfl (by decide +kernel) rfl rfl (Nat.le_of_ble_eq_true rfl) dX8_blame_9 (fun H locs hP hD hS => ?_)
    have hP : va_P (dC, dI) vwCl [(a0, .inr (8, [z0_bytes, z0_length, z0_at, z0_token, z0_filled, .int p1, .int v0_faultPlace]))] H := hP
    have hD : va_D A [(a0, .inr (8, [z0_bytes, z0_length, z0_at, z0_token, z0_filled, .int p1, .int v0_faultPlace]))] := hD
    refine lv_aload_n hx hb dX8_blame_12 rfl (lv_at hl 0 rfl) ?_
    refine lv_iload_n hx hb dX8_blame_13 rfl (lv_at hl 2 rfl) ?_
    refine va_put (D := (dC, dI)) (ci := 8) (v := .int p2) (ty := .int) (C := RX8) (T := TX8) (N := 7) hx hb hts ui_X8_blame_X8 tyX8 tyX8_ok nmX8 hown hK hP hD hS 0 rfl rfl 6 (by decide) (hts _ uw_X8_blame_f15) (fun _ h9 => h9) rfl (by decide +kernel) rfl rfl (Nat.le_of_ble_eq_true rfl) dX8_blame_14 (fun H locs hP hD hS => ?_)
    have hP : va_P (dC, dI) vwCl [(a0, .inr (8, [z0_bytes, z0_length, z0_at, z0_token, z0_filled, .int p1, .int p2]))] H := hP
    have hD : va_D A [(a0, .inr (8, [z0_bytes, z0_length, z0_at, z0_token, z0_filled, .int p1, .int p2]))] := hD
    exact ((W.vret hx hb hr (fun t ht hW => ⟨⟨(p1, p2), rfl, hw, by rw [ht]; exact hP, va_K.moved hW.alike hK, hD⟩, hS.F ht⟩) hS.2.2 dX8_blame_17))
theorem ui_X8_blameToken_X8 : ∀ w ∈ u_ws RX8 TX8 7, w ∈ wsX8_blameToken := by decide +kernel
theorem uw_X8_blameToken_f34 : (.fieldLink RX8 34 "MarchHares$Tape" "token" "I" : Cond) ∈ wsX8_blameToken := by decide +kernel
def wq_X8_blameToken (v0_token : Int32) (v0_fault : Int32) (v0_faultPlace : Int32) (p1 : Int32) (Q : Int32 → Int32 → Prop) : Prop := wq_X8_blame  v0_fault v0_faultPlace p1 v0_token (fun x1 x2 => (Q x1 x2))
set_option maxHeartbeats 4000000 in
set_option maxRecDepth 100000 in
theorem ck_X8_blameToken (l : Launch) (dC : Nat → ClassId) (dI : Nat → Nat → Nat) (cyB cyI cyJ cyP : ClassId) (a0 : Nat) (sz : Nat) (z0_bytes : Value) (z0_length : Value) (z0_at : Value) (z0_filled : Value) (v0_token : Int32) (v0_fault : Int32) (v0_faultPlace : Int32) (p1 : Int32) {Q : Int32 → Int32 → Prop} (hw : wq_X8_blameToken v0_token v0_fault v0_faultPlace p1 Q) : Met l yX8_blameToken wsX8_blameToken ({ frames := 1, cells := 0, slots := 0, locals := 22 }) (va_Pc [.ref a0, .int p1] (cPc (dC, dI) (kT cyB cyI cyJ cyP) [(a0, .inr (8, [z0_bytes, z0_length, z0_at, .int v0_token, z0_filled, .int v0_fault, .int v0_faultPlace]))] sz)) (va_Qv (fun (u : Int32 × Int32) => Q u.1 u.2) (cB (dC, dI) (kT cyB cyI cyJ cyP) (va_A [(a0, .inr (8, [z0_bytes, z0_length, z0_at, .int v0_token, z0_filled, .int v0_fault, .int v0_faultPlace]))] sz) (fun u : Int32 × Int32 => ([(a0, .inr (8, [z0_bytes, z0_length, z0_at, .int v0_token, z0_filled, .int u.1, .int u.2]))] : va_W))) (va_A [(a0, .inr (8, [z0_bytes, z0_length, z0_at, .int v0_token, z0_filled, .int v0_fault, .int v0_faultPlace]))] sz)) 0 0 (va_A [(a0, .inr (8, [z0_bytes, z0_length, z0_at, .int v0_token, z0_filled, .int v0_fault, .int v0_faultPlace]))] sz) := by
  refine Met.ofW (cc := cX8_blameToken) (maxL := 2) (ret := none) (by decide) rfl ?_
  intro p e s m args below meth c s₁ B hml hv
  obtain ⟨rfl, hsz, hP, hK, hD0, hNw⟩ := hv
  have hx := B.exec
  have hb := B.bytes
  have hr := B.returns
  have hts := atoms_spec (ws := wsX8_blameToken) B.pre
  have hown : s.vm.findClass RX8 = some m.cls := findClass_of_methodNamed B.named
  have hlocks := B.notSynchronized
  subst hsz
  have hD := hD0.self (sz := s.heap.size)
  generalize hAe : va_A [(a0, .inr (8, [z0_bytes, z0_length, z0_at, .int v0_token, z0_filled, .int v0_fault, .int v0_faultPlace]))] s.heap.size = A at hD ⊢
  have hA : ∀ q : Nat, s.heap.size ≤ q → A q := fun q h => by rw [← hAe]; exact Or.inr h
  have hS : va_S A s.heap s.heap [] := va_S.rf
  have hP : va_P (dC, dI) vwCl [(a0, .inr (8, [z0_bytes, z0_length, z0_at, .int v0_token, z0_filled, .int v0_fault, .int v0_faultPlace]))] s.heap := hP
  have hl := lv_entry ([.ref a0, .int p1]) (n := 2) (Nat.le_of_ble_eq_true rfl)
  rw [lg_entry_eq]
  generalize (lg_sl ([.ref a0, .int p1]) ++ List.replicate (2 - (lg_sl ([.ref a0, .int p1])).length) Slot.unset).toArray = ls at hl ⊢
  have hl : lv_has ls 2 [(0, .ref a0), (1, .int p1)] := hl
  have C0 : cfx p s m _ meth c cX8_blameToken none wsX8_blameToken RX8 2 A (dC, dI) (kT cyB cyI cyJ cyP) := ⟨hx, hb, hr, hts, hown, hlocks, hml, hA, hK, hNw⟩
  clear hAe
  obtain ⟨H, hH⟩ : ∃ H, H = s.heap := ⟨_, rfl⟩
  rw [← hH] at hP ⊢
  have hS : va_S A s.heap H [] := by rw [hH]; exact va_S.rf
  have hS := hS
  refine lv_aload_n hx hb dX8_blameToken_0 rfl (lv_at hl 0 rfl) ?_
  refine lv_iload_n hx hb dX8_blameToken_1 rfl (lv_at hl 1 rfl) ?_
  refine lv_aload_n hx hb dX8_blameToken_2 rfl (lv_at hl 0 rfl) ?_
  refine va_get (D := (dC, dI)) (ci := 8) (v := .int v0_token) (C := RX8) (T := TX8) (N := 7) hx hb hts ui_X8_blameToken_X8 hown hK hP 0 rfl rfl 3 (by decide) (hts _ uw_X8_blameToken_f34) (fun _ h9 => h9) rfl dX8_blameToken_3 ?_
  have hPc := hP.sub (ws' := [(a0, .inr (8, [z0_bytes, z0_length, z0_at, .int v0_token, z0_filled, .int v0_fault, .int v0_faultPlace]))]) [0] rfl
  have hDc := hD.sub (ws' := [(a0, .inr (8, [z0_bytes, z0_length, z0_at, .int v0_token, z0_filled, .int v0_fault, .int v0_faultPlace]))]) [0] (by decide) rfl
  have hFc := va_free (wc := [(a0, .inr (8, [z0_bytes, z0_length, z0_at, .int v0_token, z0_filled, .int v0_fault, .int v0_faultPlace]))]) hD hS hA [0] rfl
  refine va_callv (va_runV (As := [.int p1, .int v0_token]) (rest := []) ⟨hx, hb, hml, hown, hts⟩ (ck_X8_blame l dC dI cyB cyI cyJ cyP a0 H.size (z0_bytes) (z0_length) (z0_at) (.int v0_token) (z0_filled)  v0_fault v0_faultPlace p1 v0_token hw) (cwV 2 hts gX8_blameToken_X8_blame rfl rfl rfl (by decide +kernel) ⟨Nat.le_of_ble_eq_true rfl, Nat.le_of_ble_eq_true rfl⟩) ⟨cPc_blind, va_recv hK hPc (ci := 8) (q0 := 0) rfl rfl, cPc_pre hPc hK hDc hNw⟩ rfl rfl hl.1 rfl (lv_room (Nat.le_of_ble_eq_true rfl)) dX8_blameToken_6 ⟨Nat.le_of_ble_eq_true rfl, Nat.le_of_ble_eq_true rfl⟩) hS (fun q _ h => hFc q h) hFc (fun u t H1 locs ht hvm hw hB hz1 hk1 hS => ?_)
  obtain ⟨x1, x2⟩ := u
  obtain ⟨hP1, hK1, hD1⟩ := hB
  rw [ht] at hP1
  obtain ⟨hP, hD⟩ := va_join (wr := []) (w1 := [(a0, .inr (8, [z0_bytes, z0_length, z0_at, .int v0_token, z0_filled, .int x1, .int x2]))]) hP hD [0] [] rfl rfl (by decide) (by decide) hk1 hFc hP1 hD1
  have hP : va_P (dC, dI) vwCl [(a0, .inr (8, [z0_bytes, z0_length, z0_at, .int v0_token, z0_filled, .int x1, .int x2]))] H1 := hP
  have hD : va_D A [(a0, .inr (8, [z0_bytes, z0_length, z0_at, .int v0_token, z0_filled, .int x1, .int x2]))] := hD
  generalize H1 = H at hP hS ⊢
  exact ((W.vret hx hb hr (fun t ht hW => ⟨⟨(x1, x2), rfl, hw, by rw [ht]; exact hP, va_K.moved hW.alike hK, hD⟩, hS.F ht⟩) hS.2.2 dX8_blameToken_9))
theorem ui_X8_digitAt_X8 : ∀ w ∈ u_ws RX8 TX8 7, w ∈ wsX8_digitAt := by decide +kernel
theorem uw_X8_digitAt_f11 : (.fieldLink RX8 11 "MarchHares$Tape" "bytes" "[B" : Cond) ∈ wsX8_digitAt := by decide +kernel
theorem uw_X8_digitAt_f28 : (.fieldLink RX8 28 "MarchHares$Tape" "length" "I" : Cond) ∈ wsX8_digitAt := by decide +kernel
def wq_X8_digitAt (v0_length : Int32) (f0_bytes : Nat → Int32)  (p1 : Int32) (Q : Int32 → Prop) : Prop := ((v0_length ≤ p1 → (Q (-1))) ∧ (¬ v0_length ≤ p1 → vp_in p1 600 ∧ ∀ x2 : Int32, x2 = f0_bytes p1.toNatClampNeg → ((x2 < 48 → (Q (-1))) ∧ (¬ x2 < 48 → vp_in p1 600 ∧ ∀ x4 : Int32, x4 = f0_bytes p1.toNatClampNeg → ((x4 ≤ 57 → vp_in p1 600 ∧ ∀ x6 : Int32, x6 = f0_bytes p1.toNatClampNeg → (Q (x6 - 48))) ∧ (¬ x4 ≤ 57 → (Q (-1))))))))
set_option maxHeartbeats 4000000 in
set_option maxRecDepth 100000 in
theorem ck_X8_digitAt (l : Launch) (dC : Nat → ClassId) (dI : Nat → Nat → Nat) (cyB cyI cyJ cyP : ClassId) (a0 a0_bytes : Nat) (sz : Nat) (z0_at : Value) (z0_token : Value) (z0_filled : Value) (z0_fault : Value) (z0_faultPlace : Value) (v0_length : Int32) (f0_bytes : Nat → Int32)  (p1 : Int32) {Q : Int32 → Prop} (hw : wq_X8_digitAt v0_length f0_bytes  p1 Q) : Met l yX8_digitAt wsX8_digitAt ({ frames := 0, cells := 0, slots := 0, locals := 0 }) (va_Pc [.ref a0, .int p1] (cPc (dC, dI) (kT cyB cyI cyJ cyP) [(a0, .inr (8, [.ref a0_bytes, .int v0_length, z0_at, z0_token, z0_filled, z0_fault, z0_faultPlace])), (a0_bytes, .inl (cyB, 600, .inl f0_bytes))] sz)) (va_Qi (fun (r : Int32) (_ : Unit) => Q r ) (cB (dC, dI) (kT cyB cyI cyJ cyP) (va_A [(a0, .inr (8, [.ref a0_bytes, .int v0_length, z0_at, z0_token, z0_filled, z0_fault, z0_faultPlace])), (a0_bytes, .inl (cyB, 600, .inl f0_bytes))] sz) (fun u : Unit => ([(a0, .inr (8, [.ref a0_bytes, .int v0_length, z0_at, z0_token, z0_filled, z0_fault, z0_faultPlace])), (a0_bytes, .inl (cyB, 600, .inl f0_bytes))] : va_W))) (va_A [(a0, .inr (8, [.ref a0_bytes, .int v0_length, z0_at, z0_token, z0_filled, z0_fault, z0_faultPlace])), (a0_bytes, .inl (cyB, 600, .inl f0_bytes))] sz)) 0 0 (va_A [(a0, .inr (8, [.ref a0_bytes, .int v0_length, z0_at, z0_token, z0_filled, z0_fault, z0_faultPlace])), (a0_bytes, .inl (cyB, 600, .inl f0_bytes))] sz) := by
  refine Met.ofW (cc := cX8_digitAt) (maxL := 2) (ret := (some .int)) (by decide) rfl ?_
  intro p e s m args below meth c s₁ B hml hv
  obtain ⟨rfl, hsz, hP, hK, hD0, hNw⟩ := hv
  have hx := B.exec
  have hb := B.bytes
  have hr := B.returns
  have hts := atoms_spec (ws := wsX8_digitAt) B.pre
  have hown : s.vm.findClass RX8 = some m.cls := findClass_of_methodNamed B.named
  have hlocks := B.notSynchronized
  subst hsz
  have hD := hD0.self (sz := s.heap.size)
  generalize hAe : va_A [(a0, .inr (8, [.ref a0_bytes, .int v0_length, z0_at, z0_token, z0_filled, z0_fault, z0_faultPlace])), (a0_bytes, .inl (cyB, 600, .inl f0_bytes))] s.heap.size = A at hD ⊢
  have hA : ∀ q : Nat, s.heap.size ≤ q → A q := fun q h => by rw [← hAe]; exact Or.inr h
  have hS : va_S A s.heap s.heap [] := va_S.rf
  have hP : va_P (dC, dI) vwCl [(a0, .inr (8, [.ref a0_bytes, .int v0_length, z0_at, z0_token, z0_filled, z0_fault, z0_faultPlace])), (a0_bytes, .inl (cyB, 600, .inl f0_bytes))] s.heap := hP
  have hl := lv_entry ([.ref a0, .int p1]) (n := 2) (Nat.le_of_ble_eq_true rfl)
  rw [lg_entry_eq]
  generalize (lg_sl ([.ref a0, .int p1]) ++ List.replicate (2 - (lg_sl ([.ref a0, .int p1])).length) Slot.unset).toArray = ls at hl ⊢
  have hl : lv_has ls 2 [(0, .ref a0), (1, .int p1)] := hl
  have C0 : cfx p s m _ meth c cX8_digitAt (some .int) wsX8_digitAt RX8 2 A (dC, dI) (kT cyB cyI cyJ cyP) := ⟨hx, hb, hr, hts, hown, hlocks, hml, hA, hK, hNw⟩
  clear hAe
  obtain ⟨H, hH⟩ : ∃ H, H = s.heap := ⟨_, rfl⟩
  rw [← hH] at hP ⊢
  have hS : va_S A s.heap H [] := by rw [hH]; exact va_S.rf
  have hS := hS
  refine lv_iload_n hx hb dX8_digitAt_0 rfl (lv_at hl 1 rfl) ?_
  refine lv_aload_n hx hb dX8_digitAt_1 rfl (lv_at hl 0 rfl) ?_
  refine va_get (D := (dC, dI)) (ci := 8) (v := .int v0_length) (C := RX8) (T := TX8) (N := 7) hx hb hts ui_X8_digitAt_X8 hown hK hP 0 rfl rfl 1 (by decide) (hts _ uw_X8_digitAt_f28) (fun _ h9 => h9) rfl dX8_digitAt_2 ?_
  refine lv_icmp_ge (tgt := 30) hx hb dX8_digitAt_5 (by decide) (fun c1 => ?_) (fun c1 => ?_)
  · have hw := hw.1 c1
    refine lv_iconst (v := (-1)) hx hb dX8_digitAt_30 (by decide) ?_
    exact ((W.iret (v := (-1)) hx hb hr (fun t ht hW => ⟨⟨(-1), (), rfl, hw, by rw [ht]; exact hP, va_K.moved hW.alike hK, hD⟩, hS.F ht⟩) hS.2.2 dX8_digitAt_31))
  · have hw := hw.2 c1
    refine lv_aload_n hx hb dX8_digitAt_8 rfl (lv_at hl 0 rfl) ?_
    refine va_get (D := (dC, dI)) (ci := 8) (v := .ref a0_bytes) (C := RX8) (T := TX8) (N := 7) hx hb hts ui_X8_digitAt_X8 hown hK hP 0 rfl rfl 0 (by decide) (hts _ uw_X8_digitAt_f11) (fun _ h9 => h9) rfl dX8_digitAt_9 ?_
    refine lv_iload_n hx hb dX8_digitAt_12 rfl (lv_at hl 1 rfl) ?_
    obtain ⟨hi9, hw⟩ := hw
    refine va_bald hx hb hK hP 1 0 rfl rfl hi9 dX8_digitAt_13 ?_
    refine lv_topi (fun x2 ex2 => ?_)
    have hw := hw x2 ex2
    refine lv_bipush (v := 48) hx hb dX8_digitAt_14 (by decide) ?_
    refine lv_icmp_lt (tgt := 30) hx hb dX8_digitAt_16 (by decide) (fun c3 => ?_) (fun c3 => ?_)
    · have hw := hw.1 c3
      refine lv_iconst (v := (-1)) hx hb dX8_digitAt_30 (by decide) ?_
      exact ((W.iret (v := (-1)) hx hb hr (fun t ht hW => ⟨⟨(-1), (), rfl, hw, by rw [ht]; exact hP, va_K.moved hW.alike hK, hD⟩, hS.F ht⟩) hS.2.2 dX8_digitAt_31))
    · have hw := hw.2 c3
      refine lv_aload_n hx hb dX8_digitAt_19 rfl (lv_at hl 0 rfl) ?_
      refine va_get (D := (dC, dI)) (ci := 8) (v := .ref a0_bytes) (C := RX8) (T := TX8) (N := 7) hx hb hts ui_X8_digitAt_X8 hown hK hP 0 rfl rfl 0 (by decide) (hts _ uw_X8_digitAt_f11) (fun _ h9 => h9) rfl dX8_digitAt_20 ?_
      refine lv_iload_n hx hb dX8_digitAt_23 rfl (lv_at hl 1 rfl) ?_
      obtain ⟨hi9, hw⟩ := hw
      refine va_bald hx hb hK hP 1 0 rfl rfl hi9 dX8_digitAt_24 ?_
      refine lv_topi (fun x4 ex4 => ?_)
      have hw := hw x4 ex4
      refine lv_bipush (v := 57) hx hb dX8_digitAt_25 (by decide) ?_
      refine lv_icmp_le (tgt := 32) hx hb dX8_digitAt_27 (by decide) (fun c5 => ?_) (fun c5 => ?_)
      · have hw := hw.1 c5
        refine lv_aload_n hx hb dX8_digitAt_32 rfl (lv_at hl 0 rfl) ?_
        refine va_get (D := (dC, dI)) (ci := 8) (v := .ref a0_bytes) (C := RX8) (T := TX8) (N := 7) hx hb hts ui_X8_digitAt_X8 hown hK hP 0 rfl rfl 0 (by decide) (hts _ uw_X8_digitAt_f11) (fun _ h9 => h9) rfl dX8_digitAt_33 ?_
        refine lv_iload_n hx hb dX8_digitAt_36 rfl (lv_at hl 1 rfl) ?_
        obtain ⟨hi9, hw⟩ := hw
        refine va_bald hx hb hK hP 1 0 rfl rfl hi9 dX8_digitAt_37 ?_
        refine lv_topi (fun x6 ex6 => ?_)
        have hw := hw x6 ex6
        refine lv_bipush (v := 48) hx hb dX8_digitAt_38 (by decide) ?_
        refine lv_isub hx hb dX8_digitAt_40 ?_
        exact ((W.iret (v := (x6 - 48)) hx hb hr (fun t ht hW => ⟨⟨(x6 - 48), (), rfl, hw, by rw [ht]; exact hP, va_K.moved hW.alike hK, hD⟩, hS.F ht⟩) hS.2.2 dX8_digitAt_41))
      · have hw := hw.2 c5
        refine lv_iconst (v := (-1)) hx hb dX8_digitAt_30 (by decide) ?_
        exact ((W.iret (v := (-1)) hx hb hr (fun t ht hW => ⟨⟨(-1), (), rfl, hw, by rw [ht]; exact hP, va_K.moved hW.alike hK, hD⟩, hS.F ht⟩) hS.2.2 dX8_digitAt_31))
theorem ui_X8_number_X8 : ∀ w ∈ u_ws RX8 TX8 7, w ∈ wsX8_number := by decide +kernel
theorem uw_X8_number_f28 : (.fieldLink RX8 28 "MarchHares$Tape" "length" "I" : Cond) ∈ wsX8_number := by decide +kernel
theorem uw_X8_number_f31 : (.fieldLink RX8 31 "MarchHares$Tape" "at" "I" : Cond) ∈ wsX8_number := by decide +kernel
theorem uw_X8_number_f34 : (.fieldLink RX8 34 "MarchHares$Tape" "token" "I" : Cond) ∈ wsX8_number := by decide +kernel
theorem uw_X8_number_iniRX10 : (.initialized RX10 : Cond) ∈ wsX8_number := by decide +kernel
theorem uw_X8_number_inim : (.initialized "java/lang/Math" : Cond) ∈ wsX8_number := by decide +kernel
theorem uw_X8_number_k78 : (.constant RX8 78 (100000) : Cond) ∈ wsX8_number := by decide +kernel
theorem uw_X8_number_m22 : (.methodLink RX8 22 Lib.Math.min.name : Cond) ∈ wsX8_number := by decide +kernel
theorem uw_X8_number_mcmin : (.code Lib.Math.min.name Lib.Math.min.code 2 (some .int) : Cond) ∈ wsX8_number := by decide +kernel
theorem uw_X8_number_msmin : (.static Lib.Math.min.name : Cond) ∈ wsX8_number := by decide +kernel
theorem uw_X8_number_stX10_within : (.static yX10_within : Cond) ∈ wsX8_number := by decide +kernel
def wb_X8_number_97 (v0_length : Int32) (f0_bytes : Nat → Int32) (Q : Int32 → Int32 → Int32 → Int32 → Int32 → Prop)  (v0_at : Int32) (v0_fault : Int32) (v0_faultPlace : Int32) (v0_token : Int32) (l1 : Int32) (l2 : Int32) (l3 : Int32) : Prop := wq_X10_within   l3 l1 l2 (fun r14 => ((¬ r14 = 0 → (Q l3 v0_at v0_fault v0_faultPlace v0_token)) ∧ (r14 = 0 → wq_X8_blame  v0_fault v0_faultPlace 2 v0_token (fun x16 x17 => (Q l3 v0_at x16 x17 v0_token)))))
set_option maxHeartbeats 4000000 in
set_option maxRecDepth 100000 in
theorem kb_X8_number_97 {p : Program} {l : Launch} {e : Env} {s : State} {m : MethodId} {args : Array Value} {below : List Frame} {meth : Method} {c : Code} {A : Nat → Prop} (dC : Nat → ClassId) (dI : Nat → Nat → Nat) (cyB cyI cyJ cyP : ClassId) (a0 a0_bytes : Nat) (z0_filled : Value) (v0_length : Int32) (f0_bytes : Nat → Int32) (Q : Int32 → Int32 → Int32 → Int32 → Int32 → Prop)  (C0 : cfx p s m args meth c cX8_number (some .int) wsX8_number RX8 4 A (dC, dI) (kT cyB cyI cyJ cyP)) : ∀ (H : Heap) (locs : List Loc) (ls : Array Slot) (v0_at : Int32) (v0_fault : Int32) (v0_faultPlace : Int32) (v0_token : Int32) (l1 : Int32) (l2 : Int32) (l3 : Int32), va_P (dC, dI) vwCl [(a0, .inr (8, [.ref a0_bytes, .int v0_length, .int v0_at, .int v0_token, z0_filled, .int v0_fault, .int v0_faultPlace])), (a0_bytes, .inl (cyB, 600, .inl f0_bytes))] H → va_D A [(a0, .inr (8, [.ref a0_bytes, .int v0_length, .int v0_at, .int v0_token, z0_filled, .int v0_fault, .int v0_faultPlace])), (a0_bytes, .inl (cyB, 600, .inl f0_bytes))] → va_S A s.heap H locs → lv_has ls 4 [(0, .ref a0), (1, .int l1), (2, .int l2), (3, .int l3)] → wb_X8_number_97 v0_length f0_bytes Q  v0_at v0_fault v0_faultPlace v0_token l1 l2 l3 → W p l e (headSpec wsX8_number ({ frames := 1, cells := 0, slots := 0, locals := 32 })).room s m args below meth c H locs 0 0 (MQ below (va_Qi (fun (r : Int32) (u : Int32 × Int32 × Int32 × Int32) => Q r u.1 u.2.1 u.2.2.1 u.2.2.2) (cB (dC, dI) (kT cyB cyI cyJ cyP) A (fun u : Int32 × Int32 × Int32 × Int32 => ([(a0, .inr (8, [.ref a0_bytes, .int v0_length, .int u.1, .int u.2.2.2, z0_filled, .int u.2.1, .int u.2.2.1])), (a0_bytes, .inl (cyB, 600, .inl f0_bytes))] : va_W))) A) args s 0 0 A) (F0 m 97 ls []) := by
  obtain ⟨hx, hb, hr, hts, hown, hlocks, hml, hA, hK, hNw⟩ := id C0
  intro H locs ls v0_at v0_fault v0_faultPlace v0_token l1 l2 l3 hP hD hS hl hw
  refine lv_iload_n hx hb dX8_number_97 rfl (lv_at hl 3 rfl) ?_
  refine lv_iload_n hx hb dX8_number_98 rfl (lv_at hl 1 rfl) ?_
  refine lv_iload_n hx hb dX8_number_99 rfl (lv_at hl 2 rfl) ?_
  have hPc := hP.sub (ws' := []) [] rfl
  have hDc := hD.sub (ws' := []) [] (by decide) rfl
  have hFc := va_free (wc := []) hD hS hA [] rfl
  refine va_calli (va_runSN (As := [.int l3, .int l1, .int l2]) (rest := []) ⟨hx, hb, hml, hown, hts⟩ (ck_X10_within l dC dI cyB cyI cyJ cyP  H.size    l3 l1 l2 hw) ⟨(va_cnB 3 hts gX8_number_X10_within_n79 rfl rfl rfl (hNw.1 _ (List.mem_of_getElem? (i := 15) rfl)) (hts _ uw_X8_number_iniRX10) (by decide +kernel) ⟨Nat.le_of_ble_eq_true rfl, Nat.le_of_ble_eq_true rfl⟩), (hts _ uw_X8_number_stX10_within), trivial⟩ ⟨cPc_blind, cPc_pre hPc hK hDc hNw⟩ rfl rfl hl.1 rfl (lv_room (Nat.le_of_ble_eq_true rfl)) dX8_number_100 ⟨Nat.le_of_ble_eq_true rfl, Nat.le_of_ble_eq_true rfl⟩) hS (fun q _ h => hFc q h) hFc (fun r14 u t H1 locs ht hvm hw hB hz1 hk1 hS => ?_)
  obtain ⟨hP1, hK1, hD1⟩ := hB
  rw [ht] at hP1
  obtain ⟨hP, hD⟩ := va_join (wr := [(a0, .inr (8, [.ref a0_bytes, .int v0_length, .int v0_at, .int v0_token, z0_filled, .int v0_fault, .int v0_faultPlace])), (a0_bytes, .inl (cyB, 600, .inl f0_bytes))]) (w1 := []) hP hD [] [0, 1] rfl rfl (by decide) (by decide) hk1 hFc hP1 hD1
  have hP : va_P (dC, dI) vwCl [(a0, .inr (8, [.ref a0_bytes, .int v0_length, .int v0_at, .int v0_token, z0_filled, .int v0_fault, .int v0_faultPlace])), (a0_bytes, .inl (cyB, 600, .inl f0_bytes))] H1 := hP
  have hD : va_D A [(a0, .inr (8, [.ref a0_bytes, .int v0_length, .int v0_at, .int v0_token, z0_filled, .int v0_fault, .int v0_faultPlace])), (a0_bytes, .inl (cyB, 600, .inl f0_bytes))] := hD
  generalize H1 = H at hP hS ⊢
  refine lv_if_ne (tgt := 115) hx hb dX8_number_103 (by decide) (fun c15 => ?_) (fun c15 => ?_)
  · have hw := hw.1 c15
    refine lv_iload_n hx hb dX8_number_115 rfl (lv_at hl 3 rfl) ?_
    exact ((W.iret (v := l3) hx hb hr (fun t ht hW => ⟨⟨l3, (v0_at, v0_fault, v0_faultPlace, v0_token), rfl, hw, by rw [ht]; exact hP, va_K.moved hW.alike hK, hD⟩, hS.F ht⟩) hS.2.2 dX8_number_116))
  · have hw := hw.2 c15
    refine lv_aload_n hx hb dX8_number_106 rfl (lv_at hl 0 rfl) ?_
    refine lv_iconst (v := 2) hx hb dX8_number_107 (by decide) ?_
    refine lv_aload_n hx hb dX8_number_108 rfl (lv_at hl 0 rfl) ?_
    refine va_get (D := (dC, dI)) (ci := 8) (v := .int v0_token) (C := RX8) (T := TX8) (N := 7) hx hb hts ui_X8_number_X8 hown hK hP 0 rfl rfl 3 (by decide) (hts _ uw_X8_number_f34) (fun _ h9 => h9) rfl dX8_number_109 ?_
    have hPc := hP.sub (ws' := [(a0, .inr (8, [.ref a0_bytes, .int v0_length, .int v0_at, .int v0_token, z0_filled, .int v0_fault, .int v0_faultPlace]))]) [0] rfl
    have hDc := hD.sub (ws' := [(a0, .inr (8, [.ref a0_bytes, .int v0_length, .int v0_at, .int v0_token, z0_filled, .int v0_fault, .int v0_faultPlace]))]) [0] (by decide) rfl
    have hFc := va_free (wc := [(a0, .inr (8, [.ref a0_bytes, .int v0_length, .int v0_at, .int v0_token, z0_filled, .int v0_fault, .int v0_faultPlace]))]) hD hS hA [0] rfl
    refine va_callv (va_runV (As := [.int 2, .int v0_token]) (rest := []) ⟨hx, hb, hml, hown, hts⟩ (ck_X8_blame l dC dI cyB cyI cyJ cyP a0 H.size (.ref a0_bytes) (.int v0_length) (.int v0_at) (.int v0_token) (z0_filled)  v0_fault v0_faultPlace 2 v0_token hw) (cwV 2 hts gX8_number_X8_blame rfl rfl rfl (by decide +kernel) ⟨Nat.le_of_ble_eq_true rfl, Nat.le_of_ble_eq_true rfl⟩) ⟨cPc_blind, va_recv hK hPc (ci := 8) (q0 := 0) rfl rfl, cPc_pre hPc hK hDc hNw⟩ rfl rfl hl.1 rfl (lv_room (Nat.le_of_ble_eq_true rfl)) dX8_number_112 ⟨Nat.le_of_ble_eq_true rfl, Nat.le_of_ble_eq_true rfl⟩) hS (fun q _ h => hFc q h) hFc (fun u t H1 locs ht hvm hw hB hz1 hk1 hS => ?_)
    obtain ⟨x16, x17⟩ := u
    obtain ⟨hP1, hK1, hD1⟩ := hB
    rw [ht] at hP1
    obtain ⟨hP, hD⟩ := va_join (wr := [(a0_bytes, .inl (cyB, 600, .inl f0_bytes))]) (w1 := [(a0, .inr (8, [.ref a0_bytes, .int v0_length, .int v0_at, .int v0_token, z0_filled, .int x16, .int x17]))]) hP hD [0] [1] rfl rfl (by decide) (by decide) hk1 hFc hP1 hD1
    have hP : va_P (dC, dI) vwCl [(a0, .inr (8, [.ref a0_bytes, .int v0_length, .int v0_at, .int v0_token, z0_filled, .int x16, .int x17])), (a0_bytes, .inl (cyB, 600, .inl f0_bytes))] H1 := hP.sub [1, 0] rfl
    have hD : va_D A [(a0, .inr (8, [.ref a0_bytes, .int v0_length, .int v0_at, .int v0_token, z0_filled, .int x16, .int x17])), (a0_bytes, .inl (cyB, 600, .inl f0_bytes))] := hD.sub [1, 0] (by decide) rfl
    generalize H1 = H at hP hS ⊢
    refine lv_iload_n hx hb dX8_number_115 rfl (lv_at hl 3 rfl) ?_
    exact ((W.iret (v := l3) hx hb hr (fun t ht hW => ⟨⟨l3, (v0_at, x16, x17, v0_token), rfl, hw, by rw [ht]; exact hP, va_K.moved hW.alike hK, hD⟩, hS.F ht⟩) hS.2.2 dX8_number_116))
def wl_X8_number_43 (v0_length : Int32) (f0_bytes : Nat → Int32) (Q : Int32 → Int32 → Int32 → Int32 → Int32 → Prop)  : Nat → Int32 → Int32 → Int32 → Int32 → Int32 → Int32 → Int32 → Prop
  | 0, _, _, _, _, _, _, _ => False
  | n + 1, v0_at, v0_fault, v0_faultPlace, v0_token, l1, l2, l3 => ((v0_length ≤ v0_at → (wb_X8_number_97 v0_length f0_bytes Q  v0_at v0_fault v0_faultPlace v0_token l1 l2 l3)) ∧ (¬ v0_length ≤ v0_at → wq_X8_digitAt v0_length f0_bytes  v0_at (fun r9 => ((r9 < 0 → (wb_X8_number_97 v0_length f0_bytes Q  v0_at v0_fault v0_faultPlace v0_token l1 l2 l3)) ∧ (¬ r9 < 0 → wq_X8_digitAt v0_length f0_bytes  v0_at (fun r11 => ∀ x12 : Int32, x12 = (if ((l3 * 10) + r11) < 100000 then ((l3 * 10) + r11) else 100000) → ∀ x13 : Int32, x13 = v0_at + 1 → (wl_X8_number_43 v0_length f0_bytes Q  n x13 v0_fault v0_faultPlace v0_token l1 l2 x12)))))))
set_option maxHeartbeats 4000000 in
set_option maxRecDepth 100000 in
theorem kl_X8_number_43 {p : Program} {l : Launch} {e : Env} {s : State} {m : MethodId} {args : Array Value} {below : List Frame} {meth : Method} {c : Code} {A : Nat → Prop} (dC : Nat → ClassId) (dI : Nat → Nat → Nat) (cyB cyI cyJ cyP : ClassId) (a0 a0_bytes : Nat) (z0_filled : Value) (v0_length : Int32) (f0_bytes : Nat → Int32) (Q : Int32 → Int32 → Int32 → Int32 → Int32 → Prop)  (C0 : cfx p s m args meth c cX8_number (some .int) wsX8_number RX8 4 A (dC, dI) (kT cyB cyI cyJ cyP)) : ∀ (n : Nat) (H : Heap) (locs : List Loc) (ls : Array Slot) (v0_at : Int32) (v0_fault : Int32) (v0_faultPlace : Int32) (v0_token : Int32) (l1 : Int32) (l2 : Int32) (l3 : Int32), va_P (dC, dI) vwCl [(a0, .inr (8, [.ref a0_bytes, .int v0_length, .int v0_at, .int v0_token, z0_filled, .int v0_fault, .int v0_faultPlace])), (a0_bytes, .inl (cyB, 600, .inl f0_bytes))] H → va_D A [(a0, .inr (8, [.ref a0_bytes, .int v0_length, .int v0_at, .int v0_token, z0_filled, .int v0_fault, .int v0_faultPlace])), (a0_bytes, .inl (cyB, 600, .inl f0_bytes))] → va_S A s.heap H locs → lv_has ls 4 [(0, .ref a0), (1, .int l1), (2, .int l2), (3, .int l3)] → wl_X8_number_43 v0_length f0_bytes Q  n v0_at v0_fault v0_faultPlace v0_token l1 l2 l3 → W p l e (headSpec wsX8_number ({ frames := 1, cells := 0, slots := 0, locals := 32 })).room s m args below meth c H locs 0 0 (MQ below (va_Qi (fun (r : Int32) (u : Int32 × Int32 × Int32 × Int32) => Q r u.1 u.2.1 u.2.2.1 u.2.2.2) (cB (dC, dI) (kT cyB cyI cyJ cyP) A (fun u : Int32 × Int32 × Int32 × Int32 => ([(a0, .inr (8, [.ref a0_bytes, .int v0_length, .int u.1, .int u.2.2.2, z0_filled, .int u.2.1, .int u.2.2.1])), (a0_bytes, .inl (cyB, 600, .inl f0_bytes))] : va_W))) A) args s 0 0 A) (F0 m 43 ls []) := by
  obtain ⟨hx, hb, hr, hts, hown, hlocks, hml, hA, hK, hNw⟩ := id C0
  intro n
  induction n with
  | zero => intro H locs ls v0_at v0_fault v0_faultPlace v0_token l1 l2 l3 hP hD hS hl hw; exact False.elim hw
  | succ n ih =>
    intro H locs ls v0_at v0_fault v0_faultPlace v0_token l1 l2 l3 hP hD hS hl hw
    refine lv_aload_n hx hb dX8_number_43 rfl (lv_at hl 0 rfl) ?_
    refine va_get (D := (dC, dI)) (ci := 8) (v := .int v0_at) (C := RX8) (T := TX8) (N := 7) hx hb hts ui_X8_number_X8 hown hK hP 0 rfl rfl 2 (by decide) (hts _ uw_X8_number_f31) (fun _ h9 => h9) rfl dX8_number_44 ?_
    refine lv_aload_n hx hb dX8_number_47 rfl (lv_at hl 0 rfl) ?_
    refine va_get (D := (dC, dI)) (ci := 8) (v := .int v0_length) (C := RX8) (T := TX8) (N := 7) hx hb hts ui_X8_number_X8 hown hK hP 0 rfl rfl 1 (by decide) (hts _ uw_X8_number_f28) (fun _ h9 => h9) rfl dX8_number_48 ?_
    refine lv_icmp_ge (tgt := 97) hx hb dX8_number_51 (by decide) (fun c8 => ?_) (fun c8 => ?_)
    · have hw := hw.1 c8
      exact kb_X8_number_97 dC dI cyB cyI cyJ cyP a0 a0_bytes z0_filled v0_length f0_bytes Q  C0 _ _ _ v0_at v0_fault v0_faultPlace v0_token l1 l2 l3 hP hD hS (lv_sub hl [0, 1, 2, 3] rfl) hw
    · have hw := hw.2 c8
      refine lv_aload_n hx hb dX8_number_54 rfl (lv_at hl 0 rfl) ?_
      refine lv_aload_n hx hb dX8_number_55 rfl (lv_at hl 0 rfl) ?_
      refine va_get (D := (dC, dI)) (ci := 8) (v := .int v0_at) (C := RX8) (T := TX8) (N := 7) hx hb hts ui_X8_number_X8 hown hK hP 0 rfl rfl 2 (by decide) (hts _ uw_X8_number_f31) (fun _ h9 => h9) rfl dX8_number_56 ?_
      have hPc := hP.sub (ws' := [(a0, .inr (8, [.ref a0_bytes, .int v0_length, .int v0_at, .int v0_token, z0_filled, .int v0_fault, .int v0_faultPlace])), (a0_bytes, .inl (cyB, 600, .inl f0_bytes))]) [0, 1] rfl
      have hDc := hD.sub (ws' := [(a0, .inr (8, [.ref a0_bytes, .int v0_length, .int v0_at, .int v0_token, z0_filled, .int v0_fault, .int v0_faultPlace])), (a0_bytes, .inl (cyB, 600, .inl f0_bytes))]) [0, 1] (by decide) rfl
      have hFc := va_free (wc := [(a0, .inr (8, [.ref a0_bytes, .int v0_length, .int v0_at, .int v0_token, z0_filled, .int v0_fault, .int v0_faultPlace])), (a0_bytes, .inl (cyB, 600, .inl f0_bytes))]) hD hS hA [0, 1] rfl
      refine va_calli (va_runV (As := [.int v0_at]) (rest := []) ⟨hx, hb, hml, hown, hts⟩ (ck_X8_digitAt l dC dI cyB cyI cyJ cyP a0 a0_bytes H.size (.int v0_at) (.int v0_token) (z0_filled) (.int v0_fault) (.int v0_faultPlace) v0_length f0_bytes  v0_at hw) (cwV 1 hts gX8_number_X8_digitAt rfl rfl rfl (by decide +kernel) ⟨Nat.le_of_ble_eq_true rfl, Nat.le_of_ble_eq_true rfl⟩) ⟨cPc_blind, va_recv hK hPc (ci := 8) (q0 := 0) rfl rfl, cPc_pre hPc hK hDc hNw⟩ rfl rfl hl.1 rfl (lv_room (Nat.le_of_ble_eq_true rfl)) dX8_number_59 ⟨Nat.le_of_ble_eq_true rfl, Nat.le_of_ble_eq_true rfl⟩) hS (fun q _ h => hFc q h) hFc (fun r9 u t H1 locs ht hvm hw hB hz1 hk1 hS => ?_)
      obtain ⟨hP1, hK1, hD1⟩ := hB
      rw [ht] at hP1
      obtain ⟨hP, hD⟩ := va_join (wr := []) (w1 := [(a0, .inr (8, [.ref a0_bytes, .int v0_length, .int v0_at, .int v0_token, z0_filled, .int v0_fault, .int v0_faultPlace])), (a0_bytes, .inl (cyB, 600, .inl f0_bytes))]) hP hD [0, 1] [] rfl rfl (by decide) (by decide) hk1 hFc hP1 hD1
      have hP : va_P (dC, dI) vwCl [(a0, .inr (8, [.ref a0_bytes, .int v0_length, .int v0_at, .int v0_token, z0_filled, .int v0_fault, .int v0_faultPlace])), (a0_bytes, .inl (cyB, 600, .inl f0_bytes))] H1 := hP
      have hD : va_D A [(a0, .inr (8, [.ref a0_bytes, .int v0_length, .int v0_at, .int v0_token, z0_filled, .int v0_fault, .int v0_faultPlace])), (a0_bytes, .inl (cyB, 600, .inl f0_bytes))] := hD
      generalize H1 = H at hP hS ⊢
      refine lv_if_lt (tgt := 97) hx hb dX8_number_62 (by decide) (fun c10 => ?_) (fun c10 => ?_)
      · have hw := hw.1 c10
        exact kb_X8_number_97 dC dI cyB cyI cyJ cyP a0 a0_bytes z0_filled v0_length f0_bytes Q  C0 _ _ _ v0_at v0_fault v0_faultPlace v0_token l1 l2 l3 hP hD hS (lv_sub hl [0, 1, 2, 3] rfl) hw
      · have hw := hw.2 c10
        refine lv_ldc (v := 100000) hx hb hown (hts _ uw_X8_number_k78) dX8_number_65 ?_
        refine lv_iload_n hx hb dX8_number_67 rfl (lv_at hl 3 rfl) ?_
        refine lv_bipush (v := 10) hx hb dX8_number_68 (by decide) ?_
        refine lv_imul hx hb dX8_number_70 ?_
        refine lv_aload_n hx hb dX8_number_71 rfl (lv_at hl 0 rfl) ?_
        refine lv_aload_n hx hb dX8_number_72 rfl (lv_at hl 0 rfl) ?_
        refine va_get (D := (dC, dI)) (ci := 8) (v := .int v0_at) (C := RX8) (T := TX8) (N := 7) hx hb hts ui_X8_number_X8 hown hK hP 0 rfl rfl 2 (by decide) (hts _ uw_X8_number_f31) (fun _ h9 => h9) rfl dX8_number_73 ?_
        have hPc := hP.sub (ws' := [(a0, .inr (8, [.ref a0_bytes, .int v0_length, .int v0_at, .int v0_token, z0_filled, .int v0_fault, .int v0_faultPlace])), (a0_bytes, .inl (cyB, 600, .inl f0_bytes))]) [0, 1] rfl
        have hDc := hD.sub (ws' := [(a0, .inr (8, [.ref a0_bytes, .int v0_length, .int v0_at, .int v0_token, z0_filled, .int v0_fault, .int v0_faultPlace])), (a0_bytes, .inl (cyB, 600, .inl f0_bytes))]) [0, 1] (by decide) rfl
        have hFc := va_free (wc := [(a0, .inr (8, [.ref a0_bytes, .int v0_length, .int v0_at, .int v0_token, z0_filled, .int v0_fault, .int v0_faultPlace])), (a0_bytes, .inl (cyB, 600, .inl f0_bytes))]) hD hS hA [0, 1] rfl
        refine va_calli (va_runV (As := [.int v0_at]) (rest := [.int (l3 * 10), .int 100000]) ⟨hx, hb, hml, hown, hts⟩ (ck_X8_digitAt l dC dI cyB cyI cyJ cyP a0 a0_bytes H.size (.int v0_at) (.int v0_token) (z0_filled) (.int v0_fault) (.int v0_faultPlace) v0_length f0_bytes  v0_at hw) (cwV 1 hts gX8_number_X8_digitAt rfl rfl rfl (by decide +kernel) ⟨Nat.le_of_ble_eq_true rfl, Nat.le_of_ble_eq_true rfl⟩) ⟨cPc_blind, va_recv hK hPc (ci := 8) (q0 := 0) rfl rfl, cPc_pre hPc hK hDc hNw⟩ rfl rfl hl.1 rfl (lv_room (Nat.le_of_ble_eq_true rfl)) dX8_number_76 ⟨Nat.le_of_ble_eq_true rfl, Nat.le_of_ble_eq_true rfl⟩) hS (fun q _ h => hFc q h) hFc (fun r11 u t H1 locs ht hvm hw hB hz1 hk1 hS => ?_)
        obtain ⟨hP1, hK1, hD1⟩ := hB
        rw [ht] at hP1
        obtain ⟨hP, hD⟩ := va_join (wr := []) (w1 := [(a0, .inr (8, [.ref a0_bytes, .int v0_length, .int v0_at, .int v0_token, z0_filled, .int v0_fault, .int v0_faultPlace])), (a0_bytes, .inl (cyB, 600, .inl f0_bytes))]) hP hD [0, 1] [] rfl rfl (by decide) (by decide) hk1 hFc hP1 hD1
        have hP : va_P (dC, dI) vwCl [(a0, .inr (8, [.ref a0_bytes, .int v0_length, .int v0_at, .int v0_token, z0_filled, .int v0_fault, .int v0_faultPlace])), (a0_bytes, .inl (cyB, 600, .inl f0_bytes))] H1 := hP
        have hD : va_D A [(a0, .inr (8, [.ref a0_bytes, .int v0_length, .int v0_at, .int v0_token, z0_filled, .int v0_fault, .int v0_faultPlace])), (a0_bytes, .inl (cyB, 600, .inl f0_bytes))] := hD
        generalize H1 = H at hP hS ⊢
        refine lv_iadd hx hb dX8_number_79 ?_
        refine va_mmin hx hb (by rw [hml]; exact hl.1.symm) hown (hts _ uw_X8_number_m22) (hts _ uw_X8_number_msmin) (hts _ uw_X8_number_inim) (hts _ uw_X8_number_mcmin) (Nat.le_of_ble_eq_true rfl) (Nat.le_of_ble_eq_true rfl) (Nat.le_of_ble_eq_true rfl) (Nat.le_of_ble_eq_true rfl) dX8_number_80 ?_
        refine lv_topi (fun x12 ex12 => ?_)
        have hw := hw x12 ex12
        refine lv_istore_n (lv' := [(3, .int x12), (0, .ref a0), (1, .int l1), (2, .int l2)]) hx hb dX8_number_83 rfl hl (by decide) rfl (fun ls hl => ?_)
        refine lv_aload_n hx hb dX8_number_84 rfl (lv_at hl 1 rfl) ?_
        refine lv_dup hx hb dX8_number_85 rfl ?_
        refine va_get (D := (dC, dI)) (ci := 8) (v := .int v0_at) (C := RX8) (T := TX8) (N := 7) hx hb hts ui_X8_number_X8 hown hK hP 0 rfl rfl 2 (by decide) (hts _ uw_X8_number_f31) (fun _ h9 => h9) rfl dX8_number_86 ?_
        refine lv_iconst (v := 1) hx hb dX8_number_89 (by decide) ?_
        refine lv_iadd hx hb dX8_number_90 ?_
        refine lv_topi (fun x13 ex13 => ?_)
        have hw := hw x13 ex13
        refine va_put (D := (dC, dI)) (ci := 8) (v := .int x13) (ty := .int) (C := RX8) (T := TX8) (N := 7) hx hb hts ui_X8_number_X8 tyX8 tyX8_ok nmX8 hown hK hP hD hS 0 rfl rfl 2 (by decide) (hts _ uw_X8_number_f31) (fun _ h9 => h9) rfl (by decide +kernel) rfl rfl (Nat.le_of_ble_eq_true rfl) dX8_number_91 (fun H locs hP hD hS => ?_)
        have hP : va_P (dC, dI) vwCl [(a0, .inr (8, [.ref a0_bytes, .int v0_length, .int x13, .int v0_token, z0_filled, .int v0_fault, .int v0_faultPlace])), (a0_bytes, .inl (cyB, 600, .inl f0_bytes))] H := hP
        have hD : va_D A [(a0, .inr (8, [.ref a0_bytes, .int v0_length, .int x13, .int v0_token, z0_filled, .int v0_fault, .int v0_faultPlace])), (a0_bytes, .inl (cyB, 600, .inl f0_bytes))] := hD
        refine lv_goto (tgt := 43) hx hb dX8_number_94 (by decide) ?_
        exact ih _ _ _ x13 v0_fault v0_faultPlace v0_token l1 l2 x12 hP hD hS (lv_sub hl [1, 2, 3, 0] rfl) hw
def wb_X8_number_24 (v0_length : Int32) (f0_bytes : Nat → Int32) (Q : Int32 → Int32 → Int32 → Int32 → Int32 → Prop)  (v0_at : Int32) (v0_fault : Int32) (v0_faultPlace : Int32) (v0_token : Int32) (l1 : Int32) (l2 : Int32) : Prop := wq_X8_isFaulty v0_fault   (fun r6 => ((r6 = 0 → (∃ k9 : Nat, wl_X8_number_43 v0_length f0_bytes Q  k9 v0_at v0_fault v0_faultPlace v0_at l1 l2 0)) ∧ (¬ r6 = 0 → (Q 0 v0_at v0_fault v0_faultPlace v0_token))))
set_option maxHeartbeats 4000000 in
set_option maxRecDepth 100000 in
theorem kb_X8_number_24 {p : Program} {l : Launch} {e : Env} {s : State} {m : MethodId} {args : Array Value} {below : List Frame} {meth : Method} {c : Code} {A : Nat → Prop} (dC : Nat → ClassId) (dI : Nat → Nat → Nat) (cyB cyI cyJ cyP : ClassId) (a0 a0_bytes : Nat) (z0_filled : Value) (v0_length : Int32) (f0_bytes : Nat → Int32) (Q : Int32 → Int32 → Int32 → Int32 → Int32 → Prop)  (C0 : cfx p s m args meth c cX8_number (some .int) wsX8_number RX8 4 A (dC, dI) (kT cyB cyI cyJ cyP)) : ∀ (H : Heap) (locs : List Loc) (ls : Array Slot) (v0_at : Int32) (v0_fault : Int32) (v0_faultPlace : Int32) (v0_token : Int32) (l1 : Int32) (l2 : Int32), va_P (dC, dI) vwCl [(a0, .inr (8, [.ref a0_bytes, .int v0_length, .int v0_at, .int v0_token, z0_filled, .int v0_fault, .int v0_faultPlace])), (a0_bytes, .inl (cyB, 600, .inl f0_bytes))] H → va_D A [(a0, .inr (8, [.ref a0_bytes, .int v0_length, .int v0_at, .int v0_token, z0_filled, .int v0_fault, .int v0_faultPlace])), (a0_bytes, .inl (cyB, 600, .inl f0_bytes))] → va_S A s.heap H locs → lv_has ls 4 [(0, .ref a0), (1, .int l1), (2, .int l2)] → wb_X8_number_24 v0_length f0_bytes Q  v0_at v0_fault v0_faultPlace v0_token l1 l2 → W p l e (headSpec wsX8_number ({ frames := 1, cells := 0, slots := 0, locals := 32 })).room s m args below meth c H locs 0 0 (MQ below (va_Qi (fun (r : Int32) (u : Int32 × Int32 × Int32 × Int32) => Q r u.1 u.2.1 u.2.2.1 u.2.2.2) (cB (dC, dI) (kT cyB cyI cyJ cyP) A (fun u : Int32 × Int32 × Int32 × Int32 => ([(a0, .inr (8, [.ref a0_bytes, .int v0_length, .int u.1, .int u.2.2.2, z0_filled, .int u.2.1, .int u.2.2.1])), (a0_bytes, .inl (cyB, 600, .inl f0_bytes))] : va_W))) A) args s 0 0 A) (F0 m 24 ls []) := by
  obtain ⟨hx, hb, hr, hts, hown, hlocks, hml, hA, hK, hNw⟩ := id C0
  intro H locs ls v0_at v0_fault v0_faultPlace v0_token l1 l2 hP hD hS hl hw
  refine lv_aload_n hx hb dX8_number_24 rfl (lv_at hl 0 rfl) ?_
  have hPc := hP.sub (ws' := [(a0, .inr (8, [.ref a0_bytes, .int v0_length, .int v0_at, .int v0_token, z0_filled, .int v0_fault, .int v0_faultPlace]))]) [0] rfl
  have hDc := hD.sub (ws' := [(a0, .inr (8, [.ref a0_bytes, .int v0_length, .int v0_at, .int v0_token, z0_filled, .int v0_fault, .int v0_faultPlace]))]) [0] (by decide) rfl
  have hFc := va_free (wc := [(a0, .inr (8, [.ref a0_bytes, .int v0_length, .int v0_at, .int v0_token, z0_filled, .int v0_fault, .int v0_faultPlace]))]) hD hS hA [0] rfl
  refine va_calli (va_runV (As := []) (rest := []) ⟨hx, hb, hml, hown, hts⟩ (ck_X8_isFaulty l dC dI cyB cyI cyJ cyP a0 H.size (.ref a0_bytes) (.int v0_length) (.int v0_at) (.int v0_token) (z0_filled) (.int v0_faultPlace) v0_fault   hw) (cwV 0 hts gX8_number_X8_isFaulty rfl rfl rfl (by decide +kernel) ⟨Nat.le_of_ble_eq_true rfl, Nat.le_of_ble_eq_true rfl⟩) ⟨cPc_blind, va_recv hK hPc (ci := 8) (q0 := 0) rfl rfl, cPc_pre hPc hK hDc hNw⟩ rfl rfl hl.1 rfl (lv_room (Nat.le_of_ble_eq_true rfl)) dX8_number_25 ⟨Nat.le_of_ble_eq_true rfl, Nat.le_of_ble_eq_true rfl⟩) hS (fun q _ h => hFc q h) hFc (fun r6 u t H1 locs ht hvm hw hB hz1 hk1 hS => ?_)
  obtain ⟨hP1, hK1, hD1⟩ := hB
  rw [ht] at hP1
  obtain ⟨hP, hD⟩ := va_join (wr := [(a0_bytes, .inl (cyB, 600, .inl f0_bytes))]) (w1 := [(a0, .inr (8, [.ref a0_bytes, .int v0_length, .int v0_at, .int v0_token, z0_filled, .int v0_fault, .int v0_faultPlace]))]) hP hD [0] [1] rfl rfl (by decide) (by decide) hk1 hFc hP1 hD1
  have hP : va_P (dC, dI) vwCl [(a0, .inr (8, [.ref a0_bytes, .int v0_length, .int v0_at, .int v0_token, z0_filled, .int v0_fault, .int v0_faultPlace])), (a0_bytes, .inl (cyB, 600, .inl f0_bytes))] H1 := hP.sub [1, 0] rfl
  have hD : va_D A [(a0, .inr (8, [.ref a0_bytes, .int v0_length, .int v0_at, .int v0_token, z0_filled, .int v0_fault, .int v0_faultPlace])), (a0_bytes, .inl (cyB, 600, .inl f0_bytes))] := hD.sub [1, 0] (by decide) rfl
  generalize H1 = H at hP hS ⊢
  refine lv_if_eq (tgt := 33) hx hb dX8_number_28 (by decide) (fun c7 => ?_) (fun c7 => ?_)
  · have hw := hw.1 c7
    refine lv_aload_n hx hb dX8_number_33 rfl (lv_at hl 0 rfl) ?_
    refine lv_aload_n hx hb dX8_number_34 rfl (lv_at hl 0 rfl) ?_
    refine va_get (D := (dC, dI)) (ci := 8) (v := .int v0_at) (C := RX8) (T := TX8) (N := 7) hx hb hts ui_X8_number_X8 hown hK hP 0 rfl rfl 2 (by decide) (hts _ uw_X8_number_f31) (fun _ h9 => h9) rfl dX8_number_35 ?_
    refine va_put (D := (dC, dI)) (ci := 8) (v := .int v0_at) (ty := .int) (C := RX8) (T := TX8) (N := 7) hx hb hts ui_X8_number_X8 tyX8 tyX8_ok nmX8 hown hK hP hD hS 0 rfl rfl 3 (by decide) (hts _ uw_X8_number_f34) (fun _ h9 => h9) rfl (by decide +kernel) rfl rfl (Nat.le_of_ble_eq_true rfl) dX8_number_38 (fun H locs hP hD hS => ?_)
    have hP : va_P (dC, dI) vwCl [(a0, .inr (8, [.ref a0_bytes, .int v0_length, .int v0_at, .int v0_at, z0_filled, .int v0_fault, .int v0_faultPlace])), (a0_bytes, .inl (cyB, 600, .inl f0_bytes))] H := hP
    have hD : va_D A [(a0, .inr (8, [.ref a0_bytes, .int v0_length, .int v0_at, .int v0_at, z0_filled, .int v0_fault, .int v0_faultPlace])), (a0_bytes, .inl (cyB, 600, .inl f0_bytes))] := hD
    refine lv_iconst (v := 0) hx hb dX8_number_41 (by decide) ?_
    refine lv_istore_n (lv' := [(3, .int 0), (0, .ref a0), (1, .int l1), (2, .int l2)]) hx hb dX8_number_42 rfl hl (by decide) rfl (fun ls hl => ?_)
    obtain ⟨n9, hw⟩ := hw
    exact kl_X8_number_43 dC dI cyB cyI cyJ cyP a0 a0_bytes z0_filled v0_length f0_bytes Q  C0 n9 _ _ _ v0_at v0_fault v0_faultPlace v0_at l1 l2 0 hP hD hS (lv_sub hl [1, 2, 3, 0] rfl) hw
  · have hw := hw.2 c7
    refine lv_iconst (v := 0) hx hb dX8_number_31 (by decide) ?_
    exact ((W.iret (v := 0) hx hb hr (fun t ht hW => ⟨⟨0, (v0_at, v0_fault, v0_faultPlace, v0_token), rfl, hw, by rw [ht]; exact hP, va_K.moved hW.alike hK, hD⟩, hS.F ht⟩) hS.2.2 dX8_number_32))
def wq_X8_number (v0_length : Int32) (f0_bytes : Nat → Int32) (v0_at : Int32) (v0_fault : Int32) (v0_faultPlace : Int32) (v0_token : Int32) (p1 : Int32) (p2 : Int32) (Q : Int32 → Int32 → Int32 → Int32 → Int32 → Prop) : Prop := wq_X8_skipBlanks v0_length f0_bytes v0_at  (fun x1 => wq_X8_digitAt v0_length f0_bytes  x1 (fun r2 => ((0 ≤ r2 → (wb_X8_number_24 v0_length f0_bytes Q  x1 v0_fault v0_faultPlace v0_token p1 p2)) ∧ (¬ 0 ≤ r2 → wq_X8_blame  v0_fault v0_faultPlace 1 x1 (fun x4 x5 => (wb_X8_number_24 v0_length f0_bytes Q  x1 x4 x5 v0_token p1 p2))))))
set_option maxHeartbeats 4000000 in
set_option maxRecDepth 100000 in
theorem ck_X8_number (l : Launch) (dC : Nat → ClassId) (dI : Nat → Nat → Nat) (cyB cyI cyJ cyP : ClassId) (a0 a0_bytes : Nat) (sz : Nat) (z0_filled : Value) (v0_length : Int32) (f0_bytes : Nat → Int32) (v0_at : Int32) (v0_fault : Int32) (v0_faultPlace : Int32) (v0_token : Int32) (p1 : Int32) (p2 : Int32) {Q : Int32 → Int32 → Int32 → Int32 → Int32 → Prop} (hw : wq_X8_number v0_length f0_bytes v0_at v0_fault v0_faultPlace v0_token p1 p2 Q) : Met l yX8_number wsX8_number ({ frames := 1, cells := 0, slots := 0, locals := 32 }) (va_Pc [.ref a0, .int p1, .int p2] (cPc (dC, dI) (kT cyB cyI cyJ cyP) [(a0, .inr (8, [.ref a0_bytes, .int v0_length, .int v0_at, .int v0_token, z0_filled, .int v0_fault, .int v0_faultPlace])), (a0_bytes, .inl (cyB, 600, .inl f0_bytes))] sz)) (va_Qi (fun (r : Int32) (u : Int32 × Int32 × Int32 × Int32) => Q r u.1 u.2.1 u.2.2.1 u.2.2.2) (cB (dC, dI) (kT cyB cyI cyJ cyP) (va_A [(a0, .inr (8, [.ref a0_bytes, .int v0_length, .int v0_at, .int v0_token, z0_filled, .int v0_fault, .int v0_faultPlace])), (a0_bytes, .inl (cyB, 600, .inl f0_bytes))] sz) (fun u : Int32 × Int32 × Int32 × Int32 => ([(a0, .inr (8, [.ref a0_bytes, .int v0_length, .int u.1, .int u.2.2.2, z0_filled, .int u.2.1, .int u.2.2.1])), (a0_bytes, .inl (cyB, 600, .inl f0_bytes))] : va_W))) (va_A [(a0, .inr (8, [.ref a0_bytes, .int v0_length, .int v0_at, .int v0_token, z0_filled, .int v0_fault, .int v0_faultPlace])), (a0_bytes, .inl (cyB, 600, .inl f0_bytes))] sz)) 0 0 (va_A [(a0, .inr (8, [.ref a0_bytes, .int v0_length, .int v0_at, .int v0_token, z0_filled, .int v0_fault, .int v0_faultPlace])), (a0_bytes, .inl (cyB, 600, .inl f0_bytes))] sz) := by
  refine Met.ofW (cc := cX8_number) (maxL := 4) (ret := (some .int)) (by decide) rfl ?_
  intro p e s m args below meth c s₁ B hml hv
  obtain ⟨rfl, hsz, hP, hK, hD0, hNw⟩ := hv
  have hx := B.exec
  have hb := B.bytes
  have hr := B.returns
  have hts := atoms_spec (ws := wsX8_number) B.pre
  have hown : s.vm.findClass RX8 = some m.cls := findClass_of_methodNamed B.named
  have hlocks := B.notSynchronized
  subst hsz
  have hD := hD0.self (sz := s.heap.size)
  generalize hAe : va_A [(a0, .inr (8, [.ref a0_bytes, .int v0_length, .int v0_at, .int v0_token, z0_filled, .int v0_fault, .int v0_faultPlace])), (a0_bytes, .inl (cyB, 600, .inl f0_bytes))] s.heap.size = A at hD ⊢
  have hA : ∀ q : Nat, s.heap.size ≤ q → A q := fun q h => by rw [← hAe]; exact Or.inr h
  have hS : va_S A s.heap s.heap [] := va_S.rf
  have hP : va_P (dC, dI) vwCl [(a0, .inr (8, [.ref a0_bytes, .int v0_length, .int v0_at, .int v0_token, z0_filled, .int v0_fault, .int v0_faultPlace])), (a0_bytes, .inl (cyB, 600, .inl f0_bytes))] s.heap := hP
  have hl := lv_entry ([.ref a0, .int p1, .int p2]) (n := 4) (Nat.le_of_ble_eq_true rfl)
  rw [lg_entry_eq]
  generalize (lg_sl ([.ref a0, .int p1, .int p2]) ++ List.replicate (4 - (lg_sl ([.ref a0, .int p1, .int p2])).length) Slot.unset).toArray = ls at hl ⊢
  have hl : lv_has ls 4 [(0, .ref a0), (1, .int p1), (2, .int p2)] := hl
  have C0 : cfx p s m _ meth c cX8_number (some .int) wsX8_number RX8 4 A (dC, dI) (kT cyB cyI cyJ cyP) := ⟨hx, hb, hr, hts, hown, hlocks, hml, hA, hK, hNw⟩
  clear hAe
  obtain ⟨H, hH⟩ : ∃ H, H = s.heap := ⟨_, rfl⟩
  rw [← hH] at hP ⊢
  have hS : va_S A s.heap H [] := by rw [hH]; exact va_S.rf
  have hS := hS
  refine lv_aload_n hx hb dX8_number_0 rfl (lv_at hl 0 rfl) ?_
  have hPc := hP.sub (ws' := [(a0, .inr (8, [.ref a0_bytes, .int v0_length, .int v0_at, .int v0_token, z0_filled, .int v0_fault, .int v0_faultPlace])), (a0_bytes, .inl (cyB, 600, .inl f0_bytes))]) [0, 1] rfl
  have hDc := hD.sub (ws' := [(a0, .inr (8, [.ref a0_bytes, .int v0_length, .int v0_at, .int v0_token, z0_filled, .int v0_fault, .int v0_faultPlace])), (a0_bytes, .inl (cyB, 600, .inl f0_bytes))]) [0, 1] (by decide) rfl
  have hFc := va_free (wc := [(a0, .inr (8, [.ref a0_bytes, .int v0_length, .int v0_at, .int v0_token, z0_filled, .int v0_fault, .int v0_faultPlace])), (a0_bytes, .inl (cyB, 600, .inl f0_bytes))]) hD hS hA [0, 1] rfl
  refine va_callv (va_runV (As := []) (rest := []) ⟨hx, hb, hml, hown, hts⟩ (ck_X8_skipBlanks l dC dI cyB cyI cyJ cyP a0 a0_bytes H.size (.int v0_token) (z0_filled) (.int v0_fault) (.int v0_faultPlace) v0_length f0_bytes v0_at  hw) (cwV 0 hts gX8_number_X8_skipBlanks rfl rfl rfl (by decide +kernel) ⟨Nat.le_of_ble_eq_true rfl, Nat.le_of_ble_eq_true rfl⟩) ⟨cPc_blind, va_recv hK hPc (ci := 8) (q0 := 0) rfl rfl, cPc_pre hPc hK hDc hNw⟩ rfl rfl hl.1 rfl (lv_room (Nat.le_of_ble_eq_true rfl)) dX8_number_1 ⟨Nat.le_of_ble_eq_true rfl, Nat.le_of_ble_eq_true rfl⟩) hS (fun q _ h => hFc q h) hFc (fun u t H1 locs ht hvm hw hB hz1 hk1 hS => ?_)
  obtain ⟨x1, rfl⟩ : ∃ z, z = u := ⟨_, rfl⟩
  obtain ⟨hP1, hK1, hD1⟩ := hB
  rw [ht] at hP1
  obtain ⟨hP, hD⟩ := va_join (wr := []) (w1 := [(a0, .inr (8, [.ref a0_bytes, .int v0_length, .int x1, .int v0_token, z0_filled, .int v0_fault, .int v0_faultPlace])), (a0_bytes, .inl (cyB, 600, .inl f0_bytes))]) hP hD [0, 1] [] rfl rfl (by decide) (by decide) hk1 hFc hP1 hD1
  have hP : va_P (dC, dI) vwCl [(a0, .inr (8, [.ref a0_bytes, .int v0_length, .int x1, .int v0_token, z0_filled, .int v0_fault, .int v0_faultPlace])), (a0_bytes, .inl (cyB, 600, .inl f0_bytes))] H1 := hP
  have hD : va_D A [(a0, .inr (8, [.ref a0_bytes, .int v0_length, .int x1, .int v0_token, z0_filled, .int v0_fault, .int v0_faultPlace])), (a0_bytes, .inl (cyB, 600, .inl f0_bytes))] := hD
  generalize H1 = H at hP hS ⊢
  refine lv_aload_n hx hb dX8_number_4 rfl (lv_at hl 0 rfl) ?_
  refine lv_aload_n hx hb dX8_number_5 rfl (lv_at hl 0 rfl) ?_
  refine va_get (D := (dC, dI)) (ci := 8) (v := .int x1) (C := RX8) (T := TX8) (N := 7) hx hb hts ui_X8_number_X8 hown hK hP 0 rfl rfl 2 (by decide) (hts _ uw_X8_number_f31) (fun _ h9 => h9) rfl dX8_number_6 ?_
  have hPc := hP.sub (ws' := [(a0, .inr (8, [.ref a0_bytes, .int v0_length, .int x1, .int v0_token, z0_filled, .int v0_fault, .int v0_faultPlace])), (a0_bytes, .inl (cyB, 600, .inl f0_bytes))]) [0, 1] rfl
  have hDc := hD.sub (ws' := [(a0, .inr (8, [.ref a0_bytes, .int v0_length, .int x1, .int v0_token, z0_filled, .int v0_fault, .int v0_faultPlace])), (a0_bytes, .inl (cyB, 600, .inl f0_bytes))]) [0, 1] (by decide) rfl
  have hFc := va_free (wc := [(a0, .inr (8, [.ref a0_bytes, .int v0_length, .int x1, .int v0_token, z0_filled, .int v0_fault, .int v0_faultPlace])), (a0_bytes, .inl (cyB, 600, .inl f0_bytes))]) hD hS hA [0, 1] rfl
  refine va_calli (va_runV (As := [.int x1]) (rest := []) ⟨hx, hb, hml, hown, hts⟩ (ck_X8_digitAt l dC dI cyB cyI cyJ cyP a0 a0_bytes H.size (.int x1) (.int v0_token) (z0_filled) (.int v0_fault) (.int v0_faultPlace) v0_length f0_bytes  x1 hw) (cwV 1 hts gX8_number_X8_digitAt rfl rfl rfl (by decide +kernel) ⟨Nat.le_of_ble_eq_true rfl, Nat.le_of_ble_eq_true rfl⟩) ⟨cPc_blind, va_recv hK hPc (ci := 8) (q0 := 0) rfl rfl, cPc_pre hPc hK hDc hNw⟩ rfl rfl hl.1 rfl (lv_room (Nat.le_of_ble_eq_true rfl)) dX8_number_9 ⟨Nat.le_of_ble_eq_true rfl, Nat.le_of_ble_eq_true rfl⟩) hS (fun q _ h => hFc q h) hFc (fun r2 u t H1 locs ht hvm hw hB hz1 hk1 hS => ?_)
  obtain ⟨hP1, hK1, hD1⟩ := hB
  rw [ht] at hP1
  obtain ⟨hP, hD⟩ := va_join (wr := []) (w1 := [(a0, .inr (8, [.ref a0_bytes, .int v0_length, .int x1, .int v0_token, z0_filled, .int v0_fault, .int v0_faultPlace])), (a0_bytes, .inl (cyB, 600, .inl f0_bytes))]) hP hD [0, 1] [] rfl rfl (by decide) (by decide) hk1 hFc hP1 hD1
  have hP : va_P (dC, dI) vwCl [(a0, .inr (8, [.ref a0_bytes, .int v0_length, .int x1, .int v0_token, z0_filled, .int v0_fault, .int v0_faultPlace])), (a0_bytes, .inl (cyB, 600, .inl f0_bytes))] H1 := hP
  have hD : va_D A [(a0, .inr (8, [.ref a0_bytes, .int v0_length, .int x1, .int v0_token, z0_filled, .int v0_fault, .int v0_faultPlace])), (a0_bytes, .inl (cyB, 600, .inl f0_bytes))] := hD
  generalize H1 = H at hP hS ⊢
  refine lv_if_ge (tgt := 24) hx hb dX8_number_12 (by decide) (fun c3 => ?_) (fun c3 => ?_)
  · have hw := hw.1 c3
    exact kb_X8_number_24 dC dI cyB cyI cyJ cyP a0 a0_bytes z0_filled v0_length f0_bytes Q  C0 _ _ _ x1 v0_fault v0_faultPlace v0_token p1 p2 hP hD hS (lv_sub hl [0, 1, 2] rfl) hw
  · have hw := hw.2 c3
    refine lv_aload_n hx hb dX8_number_15 rfl (lv_at hl 0 rfl) ?_
    refine lv_iconst (v := 1) hx hb dX8_number_16 (by decide) ?_
    refine lv_aload_n hx hb dX8_number_17 rfl (lv_at hl 0 rfl) ?_
    refine va_get (D := (dC, dI)) (ci := 8) (v := .int x1) (C := RX8) (T := TX8) (N := 7) hx hb hts ui_X8_number_X8 hown hK hP 0 rfl rfl 2 (by decide) (hts _ uw_X8_number_f31) (fun _ h9 => h9) rfl dX8_number_18 ?_
    have hPc := hP.sub (ws' := [(a0, .inr (8, [.ref a0_bytes, .int v0_length, .int x1, .int v0_token, z0_filled, .int v0_fault, .int v0_faultPlace]))]) [0] rfl
    have hDc := hD.sub (ws' := [(a0, .inr (8, [.ref a0_bytes, .int v0_length, .int x1, .int v0_token, z0_filled, .int v0_fault, .int v0_faultPlace]))]) [0] (by decide) rfl
    have hFc := va_free (wc := [(a0, .inr (8, [.ref a0_bytes, .int v0_length, .int x1, .int v0_token, z0_filled, .int v0_fault, .int v0_faultPlace]))]) hD hS hA [0] rfl
    refine va_callv (va_runV (As := [.int 1, .int x1]) (rest := []) ⟨hx, hb, hml, hown, hts⟩ (ck_X8_blame l dC dI cyB cyI cyJ cyP a0 H.size (.ref a0_bytes) (.int v0_length) (.int x1) (.int v0_token) (z0_filled)  v0_fault v0_faultPlace 1 x1 hw) (cwV 2 hts gX8_number_X8_blame rfl rfl rfl (by decide +kernel) ⟨Nat.le_of_ble_eq_true rfl, Nat.le_of_ble_eq_true rfl⟩) ⟨cPc_blind, va_recv hK hPc (ci := 8) (q0 := 0) rfl rfl, cPc_pre hPc hK hDc hNw⟩ rfl rfl hl.1 rfl (lv_room (Nat.le_of_ble_eq_true rfl)) dX8_number_21 ⟨Nat.le_of_ble_eq_true rfl, Nat.le_of_ble_eq_true rfl⟩) hS (fun q _ h => hFc q h) hFc (fun u t H1 locs ht hvm hw hB hz1 hk1 hS => ?_)
    obtain ⟨x4, x5⟩ := u
    obtain ⟨hP1, hK1, hD1⟩ := hB
    rw [ht] at hP1
    obtain ⟨hP, hD⟩ := va_join (wr := [(a0_bytes, .inl (cyB, 600, .inl f0_bytes))]) (w1 := [(a0, .inr (8, [.ref a0_bytes, .int v0_length, .int x1, .int v0_token, z0_filled, .int x4, .int x5]))]) hP hD [0] [1] rfl rfl (by decide) (by decide) hk1 hFc hP1 hD1
    have hP : va_P (dC, dI) vwCl [(a0, .inr (8, [.ref a0_bytes, .int v0_length, .int x1, .int v0_token, z0_filled, .int x4, .int x5])), (a0_bytes, .inl (cyB, 600, .inl f0_bytes))] H1 := hP.sub [1, 0] rfl
    have hD : va_D A [(a0, .inr (8, [.ref a0_bytes, .int v0_length, .int x1, .int v0_token, z0_filled, .int x4, .int x5])), (a0_bytes, .inl (cyB, 600, .inl f0_bytes))] := hD.sub [1, 0] (by decide) rfl
    generalize H1 = H at hP hS ⊢
    exact kb_X8_number_24 dC dI cyB cyI cyJ cyP a0 a0_bytes z0_filled v0_length f0_bytes Q  C0 _ _ _ x1 x4 x5 v0_token p1 p2 hP hD hS (lv_sub hl [0, 1, 2] rfl) hw
theorem ui_X8_takes_X8 : ∀ w ∈ u_ws RX8 TX8 7, w ∈ wsX8_takes := by decide +kernel
theorem uw_X8_takes_f11 : (.fieldLink RX8 11 "MarchHares$Tape" "bytes" "[B" : Cond) ∈ wsX8_takes := by decide +kernel
theorem uw_X8_takes_f28 : (.fieldLink RX8 28 "MarchHares$Tape" "length" "I" : Cond) ∈ wsX8_takes := by decide +kernel
theorem uw_X8_takes_f31 : (.fieldLink RX8 31 "MarchHares$Tape" "at" "I" : Cond) ∈ wsX8_takes := by decide +kernel
theorem uw_X8_takes_f34 : (.fieldLink RX8 34 "MarchHares$Tape" "token" "I" : Cond) ∈ wsX8_takes := by decide +kernel
def wq_X8_takes (v0_length : Int32) (v0_fault : Int32) (f0_bytes : Nat → Int32) (v0_at : Int32) (v0_token : Int32) (p1 : Int32) (Q : Int32 → Int32 → Int32 → Prop) : Prop := wq_X8_skipBlanks v0_length f0_bytes v0_at  (fun x1 => wq_X8_isFaulty v0_fault   (fun r2 => ((¬ r2 = 0 → (Q 0 x1 v0_token)) ∧ (r2 = 0 → ((v0_length ≤ x1 → (Q 0 x1 v0_token)) ∧ (¬ v0_length ≤ x1 → vp_in x1 600 ∧ ∀ x5 : Int32, x5 = f0_bytes x1.toNatClampNeg → ((x5 = p1 → ∀ x7 : Int32, x7 = x1 + 1 → (Q 1 x7 x1)) ∧ (¬ x5 = p1 → (Q 0 x1 v0_token)))))))))
set_option maxHeartbeats 4000000 in
set_option maxRecDepth 100000 in
theorem ck_X8_takes (l : Launch) (dC : Nat → ClassId) (dI : Nat → Nat → Nat) (cyB cyI cyJ cyP : ClassId) (a0 a0_bytes : Nat) (sz : Nat) (z0_filled : Value) (z0_faultPlace : Value) (v0_length : Int32) (v0_fault : Int32) (f0_bytes : Nat → Int32) (v0_at : Int32) (v0_token : Int32) (p1 : Int32) {Q : Int32 → Int32 → Int32 → Prop} (hw : wq_X8_takes v0_length v0_fault f0_bytes v0_at v0_token p1 Q) : Met l yX8_takes wsX8_takes ({ frames := 1, cells := 0, slots := 0, locals := 20 }) (va_Pc [.ref a0, .int p1] (cPc (dC, dI) (kT cyB cyI cyJ cyP) [(a0, .inr (8, [.ref a0_bytes, .int v0_length, .int v0_at, .int v0_token, z0_filled, .int v0_fault, z0_faultPlace])), (a0_bytes, .inl (cyB, 600, .inl f0_bytes))] sz)) (va_Qi (fun (r : Int32) (u : Int32 × Int32) => Q r u.1 u.2) (cB (dC, dI) (kT cyB cyI cyJ cyP) (va_A [(a0, .inr (8, [.ref a0_bytes, .int v0_length, .int v0_at, .int v0_token, z0_filled, .int v0_fault, z0_faultPlace])), (a0_bytes, .inl (cyB, 600, .inl f0_bytes))] sz) (fun u : Int32 × Int32 => ([(a0, .inr (8, [.ref a0_bytes, .int v0_length, .int u.1, .int u.2, z0_filled, .int v0_fault, z0_faultPlace])), (a0_bytes, .inl (cyB, 600, .inl f0_bytes))] : va_W))) (va_A [(a0, .inr (8, [.ref a0_bytes, .int v0_length, .int v0_at, .int v0_token, z0_filled, .int v0_fault, z0_faultPlace])), (a0_bytes, .inl (cyB, 600, .inl f0_bytes))] sz)) 0 0 (va_A [(a0, .inr (8, [.ref a0_bytes, .int v0_length, .int v0_at, .int v0_token, z0_filled, .int v0_fault, z0_faultPlace])), (a0_bytes, .inl (cyB, 600, .inl f0_bytes))] sz) := by
  refine Met.ofW (cc := cX8_takes) (maxL := 2) (ret := (some .boolean)) (by decide) rfl ?_
  intro p e s m args below meth c s₁ B hml hv
  obtain ⟨rfl, hsz, hP, hK, hD0, hNw⟩ := hv
  have hx := B.exec
  have hb := B.bytes
  have hr := B.returns
  have hts := atoms_spec (ws := wsX8_takes) B.pre
  have hown : s.vm.findClass RX8 = some m.cls := findClass_of_methodNamed B.named
  have hlocks := B.notSynchronized
  subst hsz
  have hD := hD0.self (sz := s.heap.size)
  generalize hAe : va_A [(a0, .inr (8, [.ref a0_bytes, .int v0_length, .int v0_at, .int v0_token, z0_filled, .int v0_fault, z0_faultPlace])), (a0_bytes, .inl (cyB, 600, .inl f0_bytes))] s.heap.size = A at hD ⊢
  have hA : ∀ q : Nat, s.heap.size ≤ q → A q := fun q h => by rw [← hAe]; exact Or.inr h
  have hS : va_S A s.heap s.heap [] := va_S.rf
  have hP : va_P (dC, dI) vwCl [(a0, .inr (8, [.ref a0_bytes, .int v0_length, .int v0_at, .int v0_token, z0_filled, .int v0_fault, z0_faultPlace])), (a0_bytes, .inl (cyB, 600, .inl f0_bytes))] s.heap := hP
  have hl := lv_entry ([.ref a0, .int p1]) (n := 2) (Nat.le_of_ble_eq_true rfl)
  rw [lg_entry_eq]
  generalize (lg_sl ([.ref a0, .int p1]) ++ List.replicate (2 - (lg_sl ([.ref a0, .int p1])).length) Slot.unset).toArray = ls at hl ⊢
  have hl : lv_has ls 2 [(0, .ref a0), (1, .int p1)] := hl
  have C0 : cfx p s m _ meth c cX8_takes (some .boolean) wsX8_takes RX8 2 A (dC, dI) (kT cyB cyI cyJ cyP) := ⟨hx, hb, hr, hts, hown, hlocks, hml, hA, hK, hNw⟩
  clear hAe
  obtain ⟨H, hH⟩ : ∃ H, H = s.heap := ⟨_, rfl⟩
  rw [← hH] at hP ⊢
  have hS : va_S A s.heap H [] := by rw [hH]; exact va_S.rf
  have hS := hS
  refine lv_aload_n hx hb dX8_takes_0 rfl (lv_at hl 0 rfl) ?_
  have hPc := hP.sub (ws' := [(a0, .inr (8, [.ref a0_bytes, .int v0_length, .int v0_at, .int v0_token, z0_filled, .int v0_fault, z0_faultPlace])), (a0_bytes, .inl (cyB, 600, .inl f0_bytes))]) [0, 1] rfl
  have hDc := hD.sub (ws' := [(a0, .inr (8, [.ref a0_bytes, .int v0_length, .int v0_at, .int v0_token, z0_filled, .int v0_fault, z0_faultPlace])), (a0_bytes, .inl (cyB, 600, .inl f0_bytes))]) [0, 1] (by decide) rfl
  have hFc := va_free (wc := [(a0, .inr (8, [.ref a0_bytes, .int v0_length, .int v0_at, .int v0_token, z0_filled, .int v0_fault, z0_faultPlace])), (a0_bytes, .inl (cyB, 600, .inl f0_bytes))]) hD hS hA [0, 1] rfl
  refine va_callv (va_runV (As := []) (rest := []) ⟨hx, hb, hml, hown, hts⟩ (ck_X8_skipBlanks l dC dI cyB cyI cyJ cyP a0 a0_bytes H.size (.int v0_token) (z0_filled) (.int v0_fault) (z0_faultPlace) v0_length f0_bytes v0_at  hw) (cwV 0 hts gX8_takes_X8_skipBlanks rfl rfl rfl (by decide +kernel) ⟨Nat.le_of_ble_eq_true rfl, Nat.le_of_ble_eq_true rfl⟩) ⟨cPc_blind, va_recv hK hPc (ci := 8) (q0 := 0) rfl rfl, cPc_pre hPc hK hDc hNw⟩ rfl rfl hl.1 rfl (lv_room (Nat.le_of_ble_eq_true rfl)) dX8_takes_1 ⟨Nat.le_of_ble_eq_true rfl, Nat.le_of_ble_eq_true rfl⟩) hS (fun q _ h => hFc q h) hFc (fun u t H1 locs ht hvm hw hB hz1 hk1 hS => ?_)
  obtain ⟨x1, rfl⟩ : ∃ z, z = u := ⟨_, rfl⟩
  obtain ⟨hP1, hK1, hD1⟩ := hB
  rw [ht] at hP1
  obtain ⟨hP, hD⟩ := va_join (wr := []) (w1 := [(a0, .inr (8, [.ref a0_bytes, .int v0_length, .int x1, .int v0_token, z0_filled, .int v0_fault, z0_faultPlace])), (a0_bytes, .inl (cyB, 600, .inl f0_bytes))]) hP hD [0, 1] [] rfl rfl (by decide) (by decide) hk1 hFc hP1 hD1
  have hP : va_P (dC, dI) vwCl [(a0, .inr (8, [.ref a0_bytes, .int v0_length, .int x1, .int v0_token, z0_filled, .int v0_fault, z0_faultPlace])), (a0_bytes, .inl (cyB, 600, .inl f0_bytes))] H1 := hP
  have hD : va_D A [(a0, .inr (8, [.ref a0_bytes, .int v0_length, .int x1, .int v0_token, z0_filled, .int v0_fault, z0_faultPlace])), (a0_bytes, .inl (cyB, 600, .inl f0_bytes))] := hD
  generalize H1 = H at hP hS ⊢
  refine lv_aload_n hx hb dX8_takes_4 rfl (lv_at hl 0 rfl) ?_
  have hPc := hP.sub (ws' := [(a0, .inr (8, [.ref a0_bytes, .int v0_length, .int x1, .int v0_token, z0_filled, .int v0_fault, z0_faultPlace]))]) [0] rfl
  have hDc := hD.sub (ws' := [(a0, .inr (8, [.ref a0_bytes, .int v0_length, .int x1, .int v0_token, z0_filled, .int v0_fault, z0_faultPlace]))]) [0] (by decide) rfl
  have hFc := va_free (wc := [(a0, .inr (8, [.ref a0_bytes, .int v0_length, .int x1, .int v0_token, z0_filled, .int v0_fault, z0_faultPlace]))]) hD hS hA [0] rfl
  refine va_calli (va_runV (As := []) (rest := []) ⟨hx, hb, hml, hown, hts⟩ (ck_X8_isFaulty l dC dI cyB cyI cyJ cyP a0 H.size (.ref a0_bytes) (.int v0_length) (.int x1) (.int v0_token) (z0_filled) (z0_faultPlace) v0_fault   hw) (cwV 0 hts gX8_takes_X8_isFaulty rfl rfl rfl (by decide +kernel) ⟨Nat.le_of_ble_eq_true rfl, Nat.le_of_ble_eq_true rfl⟩) ⟨cPc_blind, va_recv hK hPc (ci := 8) (q0 := 0) rfl rfl, cPc_pre hPc hK hDc hNw⟩ rfl rfl hl.1 rfl (lv_room (Nat.le_of_ble_eq_true rfl)) dX8_takes_5 ⟨Nat.le_of_ble_eq_true rfl, Nat.le_of_ble_eq_true rfl⟩) hS (fun q _ h => hFc q h) hFc (fun r2 u t H1 locs ht hvm hw hB hz1 hk1 hS => ?_)
  obtain ⟨hP1, hK1, hD1⟩ := hB
  rw [ht] at hP1
  obtain ⟨hP, hD⟩ := va_join (wr := [(a0_bytes, .inl (cyB, 600, .inl f0_bytes))]) (w1 := [(a0, .inr (8, [.ref a0_bytes, .int v0_length, .int x1, .int v0_token, z0_filled, .int v0_fault, z0_faultPlace]))]) hP hD [0] [1] rfl rfl (by decide) (by decide) hk1 hFc hP1 hD1
  have hP : va_P (dC, dI) vwCl [(a0, .inr (8, [.ref a0_bytes, .int v0_length, .int x1, .int v0_token, z0_filled, .int v0_fault, z0_faultPlace])), (a0_bytes, .inl (cyB, 600, .inl f0_bytes))] H1 := hP.sub [1, 0] rfl
  have hD : va_D A [(a0, .inr (8, [.ref a0_bytes, .int v0_length, .int x1, .int v0_token, z0_filled, .int v0_fault, z0_faultPlace])), (a0_bytes, .inl (cyB, 600, .inl f0_bytes))] := hD.sub [1, 0] (by decide) rfl
  generalize H1 = H at hP hS ⊢
  refine lv_if_ne (tgt := 35) hx hb dX8_takes_8 (by decide) (fun c3 => ?_) (fun c3 => ?_)
  · have hw := hw.1 c3
    refine lv_iconst (v := 0) hx hb dX8_takes_35 (by decide) ?_
    exact ((W.zret (v := 0) hx hb hr rfl (fun t ht hW => ⟨⟨0, (x1, v0_token), rfl, hw, by rw [ht]; exact hP, va_K.moved hW.alike hK, hD⟩, hS.F ht⟩) hS.2.2 dX8_takes_36))
  · have hw := hw.2 c3
    refine lv_aload_n hx hb dX8_takes_11 rfl (lv_at hl 0 rfl) ?_
    refine va_get (D := (dC, dI)) (ci := 8) (v := .int x1) (C := RX8) (T := TX8) (N := 7) hx hb hts ui_X8_takes_X8 hown hK hP 0 rfl rfl 2 (by decide) (hts _ uw_X8_takes_f31) (fun _ h9 => h9) rfl dX8_takes_12 ?_
    refine lv_aload_n hx hb dX8_takes_15 rfl (lv_at hl 0 rfl) ?_
    refine va_get (D := (dC, dI)) (ci := 8) (v := .int v0_length) (C := RX8) (T := TX8) (N := 7) hx hb hts ui_X8_takes_X8 hown hK hP 0 rfl rfl 1 (by decide) (hts _ uw_X8_takes_f28) (fun _ h9 => h9) rfl dX8_takes_16 ?_
    refine lv_icmp_ge (tgt := 35) hx hb dX8_takes_19 (by decide) (fun c4 => ?_) (fun c4 => ?_)
    · have hw := hw.1 c4
      refine lv_iconst (v := 0) hx hb dX8_takes_35 (by decide) ?_
      exact ((W.zret (v := 0) hx hb hr rfl (fun t ht hW => ⟨⟨0, (x1, v0_token), rfl, hw, by rw [ht]; exact hP, va_K.moved hW.alike hK, hD⟩, hS.F ht⟩) hS.2.2 dX8_takes_36))
    · have hw := hw.2 c4
      refine lv_aload_n hx hb dX8_takes_22 rfl (lv_at hl 0 rfl) ?_
      refine va_get (D := (dC, dI)) (ci := 8) (v := .ref a0_bytes) (C := RX8) (T := TX8) (N := 7) hx hb hts ui_X8_takes_X8 hown hK hP 0 rfl rfl 0 (by decide) (hts _ uw_X8_takes_f11) (fun _ h9 => h9) rfl dX8_takes_23 ?_
      refine lv_aload_n hx hb dX8_takes_26 rfl (lv_at hl 0 rfl) ?_
      refine va_get (D := (dC, dI)) (ci := 8) (v := .int x1) (C := RX8) (T := TX8) (N := 7) hx hb hts ui_X8_takes_X8 hown hK hP 0 rfl rfl 2 (by decide) (hts _ uw_X8_takes_f31) (fun _ h9 => h9) rfl dX8_takes_27 ?_
      obtain ⟨hi9, hw⟩ := hw
      refine va_bald hx hb hK hP 1 0 rfl rfl hi9 dX8_takes_30 ?_
      refine lv_topi (fun x5 ex5 => ?_)
      have hw := hw x5 ex5
      refine lv_iload_n hx hb dX8_takes_31 rfl (lv_at hl 1 rfl) ?_
      refine lv_icmp_eq (tgt := 37) hx hb dX8_takes_32 (by decide) (fun c6 => ?_) (fun c6 => ?_)
      · have hw := hw.1 c6
        refine lv_aload_n hx hb dX8_takes_37 rfl (lv_at hl 0 rfl) ?_
        refine lv_aload_n hx hb dX8_takes_38 rfl (lv_at hl 0 rfl) ?_
        refine va_get (D := (dC, dI)) (ci := 8) (v := .int x1) (C := RX8) (T := TX8) (N := 7) hx hb hts ui_X8_takes_X8 hown hK hP 0 rfl rfl 2 (by decide) (hts _ uw_X8_takes_f31) (fun _ h9 => h9) rfl dX8_takes_39 ?_
        refine va_put (D := (dC, dI)) (ci := 8) (v := .int x1) (ty := .int) (C := RX8) (T := TX8) (N := 7) hx hb hts ui_X8_takes_X8 tyX8 tyX8_ok nmX8 hown hK hP hD hS 0 rfl rfl 3 (by decide) (hts _ uw_X8_takes_f34) (fun _ h9 => h9) rfl (by decide +kernel) rfl rfl (Nat.le_of_ble_eq_true rfl) dX8_takes_42 (fun H locs hP hD hS => ?_)
        have hP : va_P (dC, dI) vwCl [(a0, .inr (8, [.ref a0_bytes, .int v0_length, .int x1, .int x1, z0_filled, .int v0_fault, z0_faultPlace])), (a0_bytes, .inl (cyB, 600, .inl f0_bytes))] H := hP
        have hD : va_D A [(a0, .inr (8, [.ref a0_bytes, .int v0_length, .int x1, .int x1, z0_filled, .int v0_fault, z0_faultPlace])), (a0_bytes, .inl (cyB, 600, .inl f0_bytes))] := hD
        refine lv_aload_n hx hb dX8_takes_45 rfl (lv_at hl 0 rfl) ?_
        refine lv_dup hx hb dX8_takes_46 rfl ?_
        refine va_get (D := (dC, dI)) (ci := 8) (v := .int x1) (C := RX8) (T := TX8) (N := 7) hx hb hts ui_X8_takes_X8 hown hK hP 0 rfl rfl 2 (by decide) (hts _ uw_X8_takes_f31) (fun _ h9 => h9) rfl dX8_takes_47 ?_
        refine lv_iconst (v := 1) hx hb dX8_takes_50 (by decide) ?_
        refine lv_iadd hx hb dX8_takes_51 ?_
        refine lv_topi (fun x7 ex7 => ?_)
        have hw := hw x7 ex7
        refine va_put (D := (dC, dI)) (ci := 8) (v := .int x7) (ty := .int) (C := RX8) (T := TX8) (N := 7) hx hb hts ui_X8_takes_X8 tyX8 tyX8_ok nmX8 hown hK hP hD hS 0 rfl rfl 2 (by decide) (hts _ uw_X8_takes_f31) (fun _ h9 => h9) rfl (by decide +kernel) rfl rfl (Nat.le_of_ble_eq_true rfl) dX8_takes_52 (fun H locs hP hD hS => ?_)
        have hP : va_P (dC, dI) vwCl [(a0, .inr (8, [.ref a0_bytes, .int v0_length, .int x7, .int x1, z0_filled, .int v0_fault, z0_faultPlace])), (a0_bytes, .inl (cyB, 600, .inl f0_bytes))] H := hP
        have hD : va_D A [(a0, .inr (8, [.ref a0_bytes, .int v0_length, .int x7, .int x1, z0_filled, .int v0_fault, z0_faultPlace])), (a0_bytes, .inl (cyB, 600, .inl f0_bytes))] := hD
        refine lv_iconst (v := 1) hx hb dX8_takes_55 (by decide) ?_
        exact ((W.zret (v := 1) hx hb hr rfl (fun t ht hW => ⟨⟨1, (x7, x1), rfl, hw, by rw [ht]; exact hP, va_K.moved hW.alike hK, hD⟩, hS.F ht⟩) hS.2.2 dX8_takes_56))
      · have hw := hw.2 c6
        refine lv_iconst (v := 0) hx hb dX8_takes_35 (by decide) ?_
        exact ((W.zret (v := 0) hx hb hr rfl (fun t ht hW => ⟨⟨0, (x1, v0_token), rfl, hw, by rw [ht]; exact hP, va_K.moved hW.alike hK, hD⟩, hS.F ht⟩) hS.2.2 dX8_takes_36))
theorem ui_X8_blameSign_X8 : ∀ w ∈ u_ws RX8 TX8 7, w ∈ wsX8_blameSign := by decide +kernel
theorem uw_X8_blameSign_f31 : (.fieldLink RX8 31 "MarchHares$Tape" "at" "I" : Cond) ∈ wsX8_blameSign := by decide +kernel
def wq_X8_blameSign (v0_length : Int32) (f0_bytes : Nat → Int32) (v0_at : Int32) (v0_fault : Int32) (v0_faultPlace : Int32)  (Q : Int32 → Int32 → Int32 → Prop) : Prop := wq_X8_skipBlanks v0_length f0_bytes v0_at  (fun x1 => wq_X8_blame  v0_fault v0_faultPlace 1 x1 (fun x2 x3 => (Q x1 x2 x3)))
set_option maxHeartbeats 4000000 in
set_option maxRecDepth 100000 in
theorem ck_X8_blameSign (l : Launch) (dC : Nat → ClassId) (dI : Nat → Nat → Nat) (cyB cyI cyJ cyP : ClassId) (a0 a0_bytes : Nat) (sz : Nat) (z0_token : Value) (z0_filled : Value) (v0_length : Int32) (f0_bytes : Nat → Int32) (v0_at : Int32) (v0_fault : Int32) (v0_faultPlace : Int32)  {Q : Int32 → Int32 → Int32 → Prop} (hw : wq_X8_blameSign v0_length f0_bytes v0_at v0_fault v0_faultPlace  Q) : Met l yX8_blameSign wsX8_blameSign ({ frames := 1, cells := 0, slots := 0, locals := 22 }) (va_Pc [.ref a0] (cPc (dC, dI) (kT cyB cyI cyJ cyP) [(a0, .inr (8, [.ref a0_bytes, .int v0_length, .int v0_at, z0_token, z0_filled, .int v0_fault, .int v0_faultPlace])), (a0_bytes, .inl (cyB, 600, .inl f0_bytes))] sz)) (va_Qv (fun (u : Int32 × Int32 × Int32) => Q u.1 u.2.1 u.2.2) (cB (dC, dI) (kT cyB cyI cyJ cyP) (va_A [(a0, .inr (8, [.ref a0_bytes, .int v0_length, .int v0_at, z0_token, z0_filled, .int v0_fault, .int v0_faultPlace])), (a0_bytes, .inl (cyB, 600, .inl f0_bytes))] sz) (fun u : Int32 × Int32 × Int32 => ([(a0, .inr (8, [.ref a0_bytes, .int v0_length, .int u.1, z0_token, z0_filled, .int u.2.1, .int u.2.2])), (a0_bytes, .inl (cyB, 600, .inl f0_bytes))] : va_W))) (va_A [(a0, .inr (8, [.ref a0_bytes, .int v0_length, .int v0_at, z0_token, z0_filled, .int v0_fault, .int v0_faultPlace])), (a0_bytes, .inl (cyB, 600, .inl f0_bytes))] sz)) 0 0 (va_A [(a0, .inr (8, [.ref a0_bytes, .int v0_length, .int v0_at, z0_token, z0_filled, .int v0_fault, .int v0_faultPlace])), (a0_bytes, .inl (cyB, 600, .inl f0_bytes))] sz) := by
  refine Met.ofW (cc := cX8_blameSign) (maxL := 1) (ret := none) (by decide) rfl ?_
  intro p e s m args below meth c s₁ B hml hv
  obtain ⟨rfl, hsz, hP, hK, hD0, hNw⟩ := hv
  have hx := B.exec
  have hb := B.bytes
  have hr := B.returns
  have hts := atoms_spec (ws := wsX8_blameSign) B.pre
  have hown : s.vm.findClass RX8 = some m.cls := findClass_of_methodNamed B.named
  have hlocks := B.notSynchronized
  subst hsz
  have hD := hD0.self (sz := s.heap.size)
  generalize hAe : va_A [(a0, .inr (8, [.ref a0_bytes, .int v0_length, .int v0_at, z0_token, z0_filled, .int v0_fault, .int v0_faultPlace])), (a0_bytes, .inl (cyB, 600, .inl f0_bytes))] s.heap.size = A at hD ⊢
  have hA : ∀ q : Nat, s.heap.size ≤ q → A q := fun q h => by rw [← hAe]; exact Or.inr h
  have hS : va_S A s.heap s.heap [] := va_S.rf
  have hP : va_P (dC, dI) vwCl [(a0, .inr (8, [.ref a0_bytes, .int v0_length, .int v0_at, z0_token, z0_filled, .int v0_fault, .int v0_faultPlace])), (a0_bytes, .inl (cyB, 600, .inl f0_bytes))] s.heap := hP
  have hl := lv_entry ([.ref a0]) (n := 1) (Nat.le_of_ble_eq_true rfl)
  rw [lg_entry_eq]
  generalize (lg_sl ([.ref a0]) ++ List.replicate (1 - (lg_sl ([.ref a0])).length) Slot.unset).toArray = ls at hl ⊢
  have hl : lv_has ls 1 [(0, .ref a0)] := hl
  have C0 : cfx p s m _ meth c cX8_blameSign none wsX8_blameSign RX8 1 A (dC, dI) (kT cyB cyI cyJ cyP) := ⟨hx, hb, hr, hts, hown, hlocks, hml, hA, hK, hNw⟩
  clear hAe
  obtain ⟨H, hH⟩ : ∃ H, H = s.heap := ⟨_, rfl⟩
  rw [← hH] at hP ⊢
  have hS : va_S A s.heap H [] := by rw [hH]; exact va_S.rf
  have hS := hS
  refine lv_aload_n hx hb dX8_blameSign_0 rfl (lv_at hl 0 rfl) ?_
  have hPc := hP.sub (ws' := [(a0, .inr (8, [.ref a0_bytes, .int v0_length, .int v0_at, z0_token, z0_filled, .int v0_fault, .int v0_faultPlace])), (a0_bytes, .inl (cyB, 600, .inl f0_bytes))]) [0, 1] rfl
  have hDc := hD.sub (ws' := [(a0, .inr (8, [.ref a0_bytes, .int v0_length, .int v0_at, z0_token, z0_filled, .int v0_fault, .int v0_faultPlace])), (a0_bytes, .inl (cyB, 600, .inl f0_bytes))]) [0, 1] (by decide) rfl
  have hFc := va_free (wc := [(a0, .inr (8, [.ref a0_bytes, .int v0_length, .int v0_at, z0_token, z0_filled, .int v0_fault, .int v0_faultPlace])), (a0_bytes, .inl (cyB, 600, .inl f0_bytes))]) hD hS hA [0, 1] rfl
  refine va_callv (va_runV (As := []) (rest := []) ⟨hx, hb, hml, hown, hts⟩ (ck_X8_skipBlanks l dC dI cyB cyI cyJ cyP a0 a0_bytes H.size (z0_token) (z0_filled) (.int v0_fault) (.int v0_faultPlace) v0_length f0_bytes v0_at  hw) (cwV 0 hts gX8_blameSign_X8_skipBlanks rfl rfl rfl (by decide +kernel) ⟨Nat.le_of_ble_eq_true rfl, Nat.le_of_ble_eq_true rfl⟩) ⟨cPc_blind, va_recv hK hPc (ci := 8) (q0 := 0) rfl rfl, cPc_pre hPc hK hDc hNw⟩ rfl rfl hl.1 rfl (lv_room (Nat.le_of_ble_eq_true rfl)) dX8_blameSign_1 ⟨Nat.le_of_ble_eq_true rfl, Nat.le_of_ble_eq_true rfl⟩) hS (fun q _ h => hFc q h) hFc (fun u t H1 locs ht hvm hw hB hz1 hk1 hS => ?_)
  obtain ⟨x1, rfl⟩ : ∃ z, z = u := ⟨_, rfl⟩
  obtain ⟨hP1, hK1, hD1⟩ := hB
  rw [ht] at hP1
  obtain ⟨hP, hD⟩ := va_join (wr := []) (w1 := [(a0, .inr (8, [.ref a0_bytes, .int v0_length, .int x1, z0_token, z0_filled, .int v0_fault, .int v0_faultPlace])), (a0_bytes, .inl (cyB, 600, .inl f0_bytes))]) hP hD [0, 1] [] rfl rfl (by decide) (by decide) hk1 hFc hP1 hD1
  have hP : va_P (dC, dI) vwCl [(a0, .inr (8, [.ref a0_bytes, .int v0_length, .int x1, z0_token, z0_filled, .int v0_fault, .int v0_faultPlace])), (a0_bytes, .inl (cyB, 600, .inl f0_bytes))] H1 := hP
  have hD : va_D A [(a0, .inr (8, [.ref a0_bytes, .int v0_length, .int x1, z0_token, z0_filled, .int v0_fault, .int v0_faultPlace])), (a0_bytes, .inl (cyB, 600, .inl f0_bytes))] := hD
  generalize H1 = H at hP hS ⊢
  refine lv_aload_n hx hb dX8_blameSign_4 rfl (lv_at hl 0 rfl) ?_
  refine lv_iconst (v := 1) hx hb dX8_blameSign_5 (by decide) ?_
  refine lv_aload_n hx hb dX8_blameSign_6 rfl (lv_at hl 0 rfl) ?_
  refine va_get (D := (dC, dI)) (ci := 8) (v := .int x1) (C := RX8) (T := TX8) (N := 7) hx hb hts ui_X8_blameSign_X8 hown hK hP 0 rfl rfl 2 (by decide) (hts _ uw_X8_blameSign_f31) (fun _ h9 => h9) rfl dX8_blameSign_7 ?_
  have hPc := hP.sub (ws' := [(a0, .inr (8, [.ref a0_bytes, .int v0_length, .int x1, z0_token, z0_filled, .int v0_fault, .int v0_faultPlace]))]) [0] rfl
  have hDc := hD.sub (ws' := [(a0, .inr (8, [.ref a0_bytes, .int v0_length, .int x1, z0_token, z0_filled, .int v0_fault, .int v0_faultPlace]))]) [0] (by decide) rfl
  have hFc := va_free (wc := [(a0, .inr (8, [.ref a0_bytes, .int v0_length, .int x1, z0_token, z0_filled, .int v0_fault, .int v0_faultPlace]))]) hD hS hA [0] rfl
  refine va_callv (va_runV (As := [.int 1, .int x1]) (rest := []) ⟨hx, hb, hml, hown, hts⟩ (ck_X8_blame l dC dI cyB cyI cyJ cyP a0 H.size (.ref a0_bytes) (.int v0_length) (.int x1) (z0_token) (z0_filled)  v0_fault v0_faultPlace 1 x1 hw) (cwV 2 hts gX8_blameSign_X8_blame rfl rfl rfl (by decide +kernel) ⟨Nat.le_of_ble_eq_true rfl, Nat.le_of_ble_eq_true rfl⟩) ⟨cPc_blind, va_recv hK hPc (ci := 8) (q0 := 0) rfl rfl, cPc_pre hPc hK hDc hNw⟩ rfl rfl hl.1 rfl (lv_room (Nat.le_of_ble_eq_true rfl)) dX8_blameSign_10 ⟨Nat.le_of_ble_eq_true rfl, Nat.le_of_ble_eq_true rfl⟩) hS (fun q _ h => hFc q h) hFc (fun u t H1 locs ht hvm hw hB hz1 hk1 hS => ?_)
  obtain ⟨x2, x3⟩ := u
  obtain ⟨hP1, hK1, hD1⟩ := hB
  rw [ht] at hP1
  obtain ⟨hP, hD⟩ := va_join (wr := [(a0_bytes, .inl (cyB, 600, .inl f0_bytes))]) (w1 := [(a0, .inr (8, [.ref a0_bytes, .int v0_length, .int x1, z0_token, z0_filled, .int x2, .int x3]))]) hP hD [0] [1] rfl rfl (by decide) (by decide) hk1 hFc hP1 hD1
  have hP : va_P (dC, dI) vwCl [(a0, .inr (8, [.ref a0_bytes, .int v0_length, .int x1, z0_token, z0_filled, .int x2, .int x3])), (a0_bytes, .inl (cyB, 600, .inl f0_bytes))] H1 := hP.sub [1, 0] rfl
  have hD : va_D A [(a0, .inr (8, [.ref a0_bytes, .int v0_length, .int x1, z0_token, z0_filled, .int x2, .int x3])), (a0_bytes, .inl (cyB, 600, .inl f0_bytes))] := hD.sub [1, 0] (by decide) rfl
  generalize H1 = H at hP hS ⊢
  exact ((W.vret hx hb hr (fun t ht hW => ⟨⟨(x1, x2, x3), rfl, hw, by rw [ht]; exact hP, va_K.moved hW.alike hK, hD⟩, hS.F ht⟩) hS.2.2 dX8_blameSign_13))
def wq_X8_needs (v0_length : Int32) (f0_bytes : Nat → Int32) (v0_at : Int32) (v0_token : Int32) (v0_fault : Int32) (v0_faultPlace : Int32) (p1 : Int32) (Q : Int32 → Int32 → Int32 → Int32 → Prop) : Prop := wq_X8_takes v0_length v0_fault f0_bytes v0_at v0_token p1 (fun r3 x1 x2 => ((¬ r3 = 0 → (Q x1 x2 v0_fault v0_faultPlace)) ∧ (r3 = 0 → wq_X8_blameSign v0_length f0_bytes x1 v0_fault v0_faultPlace  (fun x5 x6 x7 => (Q x5 x2 x6 x7)))))
set_option maxHeartbeats 4000000 in
set_option maxRecDepth 100000 in
theorem ck_X8_needs (l : Launch) (dC : Nat → ClassId) (dI : Nat → Nat → Nat) (cyB cyI cyJ cyP : ClassId) (a0 a0_bytes : Nat) (sz : Nat) (z0_filled : Value) (v0_length : Int32) (f0_bytes : Nat → Int32) (v0_at : Int32) (v0_token : Int32) (v0_fault : Int32) (v0_faultPlace : Int32) (p1 : Int32) {Q : Int32 → Int32 → Int32 → Int32 → Prop} (hw : wq_X8_needs v0_length f0_bytes v0_at v0_token v0_fault v0_faultPlace p1 Q) : Met l yX8_needs wsX8_needs ({ frames := 2, cells := 0, slots := 0, locals := 42 }) (va_Pc [.ref a0, .int p1] (cPc (dC, dI) (kT cyB cyI cyJ cyP) [(a0, .inr (8, [.ref a0_bytes, .int v0_length, .int v0_at, .int v0_token, z0_filled, .int v0_fault, .int v0_faultPlace])), (a0_bytes, .inl (cyB, 600, .inl f0_bytes))] sz)) (va_Qv (fun (u : Int32 × Int32 × Int32 × Int32) => Q u.1 u.2.1 u.2.2.1 u.2.2.2) (cB (dC, dI) (kT cyB cyI cyJ cyP) (va_A [(a0, .inr (8, [.ref a0_bytes, .int v0_length, .int v0_at, .int v0_token, z0_filled, .int v0_fault, .int v0_faultPlace])), (a0_bytes, .inl (cyB, 600, .inl f0_bytes))] sz) (fun u : Int32 × Int32 × Int32 × Int32 => ([(a0, .inr (8, [.ref a0_bytes, .int v0_length, .int u.1, .int u.2.1, z0_filled, .int u.2.2.1, .int u.2.2.2])), (a0_bytes, .inl (cyB, 600, .inl f0_bytes))] : va_W))) (va_A [(a0, .inr (8, [.ref a0_bytes, .int v0_length, .int v0_at, .int v0_token, z0_filled, .int v0_fault, .int v0_faultPlace])), (a0_bytes, .inl (cyB, 600, .inl f0_bytes))] sz)) 0 0 (va_A [(a0, .inr (8, [.ref a0_bytes, .int v0_length, .int v0_at, .int v0_token, z0_filled, .int v0_fault, .int v0_faultPlace])), (a0_bytes, .inl (cyB, 600, .inl f0_bytes))] sz) := by
  refine Met.ofW (cc := cX8_needs) (maxL := 2) (ret := none) (by decide) rfl ?_
  intro p e s m args below meth c s₁ B hml hv
  obtain ⟨rfl, hsz, hP, hK, hD0, hNw⟩ := hv
  have hx := B.exec
  have hb := B.bytes
  have hr := B.returns
  have hts := atoms_spec (ws := wsX8_needs) B.pre
  have hown : s.vm.findClass RX8 = some m.cls := findClass_of_methodNamed B.named
  have hlocks := B.notSynchronized
  subst hsz
  have hD := hD0.self (sz := s.heap.size)
  generalize hAe : va_A [(a0, .inr (8, [.ref a0_bytes, .int v0_length, .int v0_at, .int v0_token, z0_filled, .int v0_fault, .int v0_faultPlace])), (a0_bytes, .inl (cyB, 600, .inl f0_bytes))] s.heap.size = A at hD ⊢
  have hA : ∀ q : Nat, s.heap.size ≤ q → A q := fun q h => by rw [← hAe]; exact Or.inr h
  have hS : va_S A s.heap s.heap [] := va_S.rf
  have hP : va_P (dC, dI) vwCl [(a0, .inr (8, [.ref a0_bytes, .int v0_length, .int v0_at, .int v0_token, z0_filled, .int v0_fault, .int v0_faultPlace])), (a0_bytes, .inl (cyB, 600, .inl f0_bytes))] s.heap := hP
  have hl := lv_entry ([.ref a0, .int p1]) (n := 2) (Nat.le_of_ble_eq_true rfl)
  rw [lg_entry_eq]
  generalize (lg_sl ([.ref a0, .int p1]) ++ List.replicate (2 - (lg_sl ([.ref a0, .int p1])).length) Slot.unset).toArray = ls at hl ⊢
  have hl : lv_has ls 2 [(0, .ref a0), (1, .int p1)] := hl
  have C0 : cfx p s m _ meth c cX8_needs none wsX8_needs RX8 2 A (dC, dI) (kT cyB cyI cyJ cyP) := ⟨hx, hb, hr, hts, hown, hlocks, hml, hA, hK, hNw⟩
  clear hAe
  obtain ⟨H, hH⟩ : ∃ H, H = s.heap := ⟨_, rfl⟩
  rw [← hH] at hP ⊢
  have hS : va_S A s.heap H [] := by rw [hH]; exact va_S.rf
  have hS := hS
  refine lv_aload_n hx hb dX8_needs_0 rfl (lv_at hl 0 rfl) ?_
  refine lv_iload_n hx hb dX8_needs_1 rfl (lv_at hl 1 rfl) ?_
  have hPc := hP.sub (ws' := [(a0, .inr (8, [.ref a0_bytes, .int v0_length, .int v0_at, .int v0_token, z0_filled, .int v0_fault, .int v0_faultPlace])), (a0_bytes, .inl (cyB, 600, .inl f0_bytes))]) [0, 1] rfl
  have hDc := hD.sub (ws' := [(a0, .inr (8, [.ref a0_bytes, .int v0_length, .int v0_at, .int v0_token, z0_filled, .int v0_fault, .int v0_faultPlace])), (a0_bytes, .inl (cyB, 600, .inl f0_bytes))]) [0, 1] (by decide) rfl
  have hFc := va_free (wc := [(a0, .inr (8, [.ref a0_bytes, .int v0_length, .int v0_at, .int v0_token, z0_filled, .int v0_fault, .int v0_faultPlace])), (a0_bytes, .inl (cyB, 600, .inl f0_bytes))]) hD hS hA [0, 1] rfl
  refine va_calli (va_runV (As := [.int p1]) (rest := []) ⟨hx, hb, hml, hown, hts⟩ (ck_X8_takes l dC dI cyB cyI cyJ cyP a0 a0_bytes H.size (z0_filled) (.int v0_faultPlace) v0_length v0_fault f0_bytes v0_at v0_token p1 hw) (cwV 1 hts gX8_needs_X8_takes rfl rfl rfl (by decide +kernel) ⟨Nat.le_of_ble_eq_true rfl, Nat.le_of_ble_eq_true rfl⟩) ⟨cPc_blind, va_recv hK hPc (ci := 8) (q0 := 0) rfl rfl, cPc_pre hPc hK hDc hNw⟩ rfl rfl hl.1 rfl (lv_room (Nat.le_of_ble_eq_true rfl)) dX8_needs_2 ⟨Nat.le_of_ble_eq_true rfl, Nat.le_of_ble_eq_true rfl⟩) hS (fun q _ h => hFc q h) hFc (fun r3 u t H1 locs ht hvm hw hB hz1 hk1 hS => ?_)
  obtain ⟨x1, x2⟩ := u
  obtain ⟨hP1, hK1, hD1⟩ := hB
  rw [ht] at hP1
  obtain ⟨hP, hD⟩ := va_join (wr := []) (w1 := [(a0, .inr (8, [.ref a0_bytes, .int v0_length, .int x1, .int x2, z0_filled, .int v0_fault, .int v0_faultPlace])), (a0_bytes, .inl (cyB, 600, .inl f0_bytes))]) hP hD [0, 1] [] rfl rfl (by decide) (by decide) hk1 hFc hP1 hD1
  have hP : va_P (dC, dI) vwCl [(a0, .inr (8, [.ref a0_bytes, .int v0_length, .int x1, .int x2, z0_filled, .int v0_fault, .int v0_faultPlace])), (a0_bytes, .inl (cyB, 600, .inl f0_bytes))] H1 := hP
  have hD : va_D A [(a0, .inr (8, [.ref a0_bytes, .int v0_length, .int x1, .int x2, z0_filled, .int v0_fault, .int v0_faultPlace])), (a0_bytes, .inl (cyB, 600, .inl f0_bytes))] := hD
  generalize H1 = H at hP hS ⊢
  refine lv_if_ne (tgt := 12) hx hb dX8_needs_5 (by decide) (fun c4 => ?_) (fun c4 => ?_)
  · have hw := hw.1 c4
    exact ((W.vret hx hb hr (fun t ht hW => ⟨⟨(x1, x2, v0_fault, v0_faultPlace), rfl, hw, by rw [ht]; exact hP, va_K.moved hW.alike hK, hD⟩, hS.F ht⟩) hS.2.2 dX8_needs_12))
  · have hw := hw.2 c4
    refine lv_aload_n hx hb dX8_needs_8 rfl (lv_at hl 0 rfl) ?_
    have hPc := hP.sub (ws' := [(a0, .inr (8, [.ref a0_bytes, .int v0_length, .int x1, .int x2, z0_filled, .int v0_fault, .int v0_faultPlace])), (a0_bytes, .inl (cyB, 600, .inl f0_bytes))]) [0, 1] rfl
    have hDc := hD.sub (ws' := [(a0, .inr (8, [.ref a0_bytes, .int v0_length, .int x1, .int x2, z0_filled, .int v0_fault, .int v0_faultPlace])), (a0_bytes, .inl (cyB, 600, .inl f0_bytes))]) [0, 1] (by decide) rfl
    have hFc := va_free (wc := [(a0, .inr (8, [.ref a0_bytes, .int v0_length, .int x1, .int x2, z0_filled, .int v0_fault, .int v0_faultPlace])), (a0_bytes, .inl (cyB, 600, .inl f0_bytes))]) hD hS hA [0, 1] rfl
    refine va_callv (va_runV (As := []) (rest := []) ⟨hx, hb, hml, hown, hts⟩ (ck_X8_blameSign l dC dI cyB cyI cyJ cyP a0 a0_bytes H.size (.int x2) (z0_filled) v0_length f0_bytes x1 v0_fault v0_faultPlace  hw) (cwV 0 hts gX8_needs_X8_blameSign rfl rfl rfl (by decide +kernel) ⟨Nat.le_of_ble_eq_true rfl, Nat.le_of_ble_eq_true rfl⟩) ⟨cPc_blind, va_recv hK hPc (ci := 8) (q0 := 0) rfl rfl, cPc_pre hPc hK hDc hNw⟩ rfl rfl hl.1 rfl (lv_room (Nat.le_of_ble_eq_true rfl)) dX8_needs_9 ⟨Nat.le_of_ble_eq_true rfl, Nat.le_of_ble_eq_true rfl⟩) hS (fun q _ h => hFc q h) hFc (fun u t H1 locs ht hvm hw hB hz1 hk1 hS => ?_)
    obtain ⟨x5, x6, x7⟩ := u
    obtain ⟨hP1, hK1, hD1⟩ := hB
    rw [ht] at hP1
    obtain ⟨hP, hD⟩ := va_join (wr := []) (w1 := [(a0, .inr (8, [.ref a0_bytes, .int v0_length, .int x5, .int x2, z0_filled, .int x6, .int x7])), (a0_bytes, .inl (cyB, 600, .inl f0_bytes))]) hP hD [0, 1] [] rfl rfl (by decide) (by decide) hk1 hFc hP1 hD1
    have hP : va_P (dC, dI) vwCl [(a0, .inr (8, [.ref a0_bytes, .int v0_length, .int x5, .int x2, z0_filled, .int x6, .int x7])), (a0_bytes, .inl (cyB, 600, .inl f0_bytes))] H1 := hP
    have hD : va_D A [(a0, .inr (8, [.ref a0_bytes, .int v0_length, .int x5, .int x2, z0_filled, .int x6, .int x7])), (a0_bytes, .inl (cyB, 600, .inl f0_bytes))] := hD
    generalize H1 = H at hP hS ⊢
    exact ((W.vret hx hb hr (fun t ht hW => ⟨⟨(x5, x2, x6, x7), rfl, hw, by rw [ht]; exact hP, va_K.moved hW.alike hK, hD⟩, hS.F ht⟩) hS.2.2 dX8_needs_12))
theorem ui_X2_readForm_X2 : ∀ w ∈ u_ws RX2 TX2 12, w ∈ wsX2_readForm := by decide +kernel
theorem uw_X2_readForm_f15 : (.fieldLink RX2 15 "MarchHares$Down" "formY" "[I" : Cond) ∈ wsX2_readForm := by decide +kernel
theorem uw_X2_readForm_f36 : (.fieldLink RX2 36 "MarchHares$Down" "forms" "I" : Cond) ∈ wsX2_readForm := by decide +kernel
theorem uw_X2_readForm_f9 : (.fieldLink RX2 9 "MarchHares$Down" "formX" "[I" : Cond) ∈ wsX2_readForm := by decide +kernel
def wb_X2_readForm_13 (v1_length : Int32) (f1_bytes : Nat → Int32) (Q : Int32 → Int32 → Int32 → Int32 → (Nat → Int32) → (Nat → Int32) → Int32 → Prop)  (v1_at : Int32) (v1_fault : Int32) (v1_faultPlace : Int32) (v1_token : Int32) (f0_formX : Nat → Int32) (f0_formY : Nat → Int32) (v0_forms : Int32) : Prop := wq_X8_blameToken v1_token v1_fault v1_faultPlace 3 (fun x20 x21 => (Q v1_at x20 x21 v1_token f0_formX f0_formY v0_forms))
set_option maxHeartbeats 4000000 in
set_option maxRecDepth 100000 in
theorem kb_X2_readForm_13 {p : Program} {l : Launch} {e : Env} {s : State} {m : MethodId} {args : Array Value} {below : List Frame} {meth : Method} {c : Code} {A : Nat → Prop} (dC : Nat → ClassId) (dI : Nat → Nat → Nat) (cyB cyI cyJ cyP : ClassId) (a0 a1 a0_formX a1_bytes a0_formY : Nat) (z0_foxX : Value) (z0_foxY : Value) (z0_seat : Value) (z0_strength : Value) (z0_debts : Value) (z0_near : Value) (z0_hares : Value) (z0_foxes : Value) (z0_safe : Value) (z1_filled : Value) (v1_length : Int32) (f1_bytes : Nat → Int32) (Q : Int32 → Int32 → Int32 → Int32 → (Nat → Int32) → (Nat → Int32) → Int32 → Prop)  (C0 : cfx p s m args meth c cX2_readForm none wsX2_readForm RX2 3 A (dC, dI) (kT cyB cyI cyJ cyP)) : ∀ (H : Heap) (locs : List Loc) (ls : Array Slot) (v1_at : Int32) (v1_fault : Int32) (v1_faultPlace : Int32) (v1_token : Int32) (f0_formX : Nat → Int32) (f0_formY : Nat → Int32) (v0_forms : Int32), va_P (dC, dI) vwCl [(a0, .inr (2, [.ref a0_formX, .ref a0_formY, z0_foxX, z0_foxY, z0_seat, z0_strength, z0_debts, z0_near, .int v0_forms, z0_hares, z0_foxes, z0_safe])), (a1, .inr (8, [.ref a1_bytes, .int v1_length, .int v1_at, .int v1_token, z1_filled, .int v1_fault, .int v1_faultPlace])), (a1_bytes, .inl (cyB, 600, .inl f1_bytes)), (a0_formX, .inl (cyI, 8, .inl f0_formX)), (a0_formY, .inl (cyI, 8, .inl f0_formY))] H → va_D A [(a0, .inr (2, [.ref a0_formX, .ref a0_formY, z0_foxX, z0_foxY, z0_seat, z0_strength, z0_debts, z0_near, .int v0_forms, z0_hares, z0_foxes, z0_safe])), (a1, .inr (8, [.ref a1_bytes, .int v1_length, .int v1_at, .int v1_token, z1_filled, .int v1_fault, .int v1_faultPlace])), (a1_bytes, .inl (cyB, 600, .inl f1_bytes)), (a0_formX, .inl (cyI, 8, .inl f0_formX)), (a0_formY, .inl (cyI, 8, .inl f0_formY))] → va_S A s.heap H locs → lv_has ls 3 [(1, .ref a1)] → wb_X2_readForm_13 v1_length f1_bytes Q  v1_at v1_fault v1_faultPlace v1_token f0_formX f0_formY v0_forms → W p l e (headSpec wsX2_readForm ({ frames := 3, cells := 0, slots := 0, locals := 63 })).room s m args below meth c H locs 0 0 (MQ below (va_Qv (fun (u : Int32 × Int32 × Int32 × Int32 × (Nat → Int32) × (Nat → Int32) × Int32) => Q u.1 u.2.1 u.2.2.1 u.2.2.2.1 u.2.2.2.2.1 u.2.2.2.2.2.1 u.2.2.2.2.2.2) (cB (dC, dI) (kT cyB cyI cyJ cyP) A (fun u : Int32 × Int32 × Int32 × Int32 × (Nat → Int32) × (Nat → Int32) × Int32 => ([(a0, .inr (2, [.ref a0_formX, .ref a0_formY, z0_foxX, z0_foxY, z0_seat, z0_strength, z0_debts, z0_near, .int u.2.2.2.2.2.2, z0_hares, z0_foxes, z0_safe])), (a1, .inr (8, [.ref a1_bytes, .int v1_length, .int u.1, .int u.2.2.2.1, z1_filled, .int u.2.1, .int u.2.2.1])), (a1_bytes, .inl (cyB, 600, .inl f1_bytes)), (a0_formX, .inl (cyI, 8, .inl u.2.2.2.2.1)), (a0_formY, .inl (cyI, 8, .inl u.2.2.2.2.2.1))] : va_W))) A) args s 0 0 A) (F0 m 13 ls []) := by
  obtain ⟨hx, hb, hr, hts, hown, hlocks, hml, hA, hK, hNw⟩ := id C0
  intro H locs ls v1_at v1_fault v1_faultPlace v1_token f0_formX f0_formY v0_forms hP hD hS hl hw
  refine lv_aload_n hx hb dX2_readForm_13 rfl (lv_at hl 0 rfl) ?_
  refine lv_iconst (v := 3) hx hb dX2_readForm_14 (by decide) ?_
  have hPc := hP.sub (ws' := [(a1, .inr (8, [.ref a1_bytes, .int v1_length, .int v1_at, .int v1_token, z1_filled, .int v1_fault, .int v1_faultPlace]))]) [1] rfl
  have hDc := hD.sub (ws' := [(a1, .inr (8, [.ref a1_bytes, .int v1_length, .int v1_at, .int v1_token, z1_filled, .int v1_fault, .int v1_faultPlace]))]) [1] (by decide) rfl
  have hFc := va_free (wc := [(a1, .inr (8, [.ref a1_bytes, .int v1_length, .int v1_at, .int v1_token, z1_filled, .int v1_fault, .int v1_faultPlace]))]) hD hS hA [1] rfl
  refine va_callv (va_runV (As := [.int 3]) (rest := []) ⟨hx, hb, hml, hown, hts⟩ (ck_X8_blameToken l dC dI cyB cyI cyJ cyP a1 H.size (.ref a1_bytes) (.int v1_length) (.int v1_at) (z1_filled) v1_token v1_fault v1_faultPlace 3 hw) (cwV 1 hts gX2_readForm_X8_blameToken rfl rfl rfl (by decide +kernel) ⟨Nat.le_of_ble_eq_true rfl, Nat.le_of_ble_eq_true rfl⟩) ⟨cPc_blind, va_recv hK hPc (ci := 8) (q0 := 0) rfl rfl, cPc_pre hPc hK hDc hNw⟩ rfl rfl hl.1 rfl (lv_room (Nat.le_of_ble_eq_true rfl)) dX2_readForm_15 ⟨Nat.le_of_ble_eq_true rfl, Nat.le_of_ble_eq_true rfl⟩) hS (fun q _ h => hFc q h) hFc (fun u t H1 locs ht hvm hw hB hz1 hk1 hS => ?_)
  obtain ⟨x20, x21⟩ := u
  obtain ⟨hP1, hK1, hD1⟩ := hB
  rw [ht] at hP1
  obtain ⟨hP, hD⟩ := va_join (wr := [(a0, .inr (2, [.ref a0_formX, .ref a0_formY, z0_foxX, z0_foxY, z0_seat, z0_strength, z0_debts, z0_near, .int v0_forms, z0_hares, z0_foxes, z0_safe])), (a1_bytes, .inl (cyB, 600, .inl f1_bytes)), (a0_formX, .inl (cyI, 8, .inl f0_formX)), (a0_formY, .inl (cyI, 8, .inl f0_formY))]) (w1 := [(a1, .inr (8, [.ref a1_bytes, .int v1_length, .int v1_at, .int v1_token, z1_filled, .int x20, .int x21]))]) hP hD [1] [0, 2, 3, 4] rfl rfl (by decide) (by decide) hk1 hFc hP1 hD1
  have hP : va_P (dC, dI) vwCl [(a0, .inr (2, [.ref a0_formX, .ref a0_formY, z0_foxX, z0_foxY, z0_seat, z0_strength, z0_debts, z0_near, .int v0_forms, z0_hares, z0_foxes, z0_safe])), (a1, .inr (8, [.ref a1_bytes, .int v1_length, .int v1_at, .int v1_token, z1_filled, .int x20, .int x21])), (a1_bytes, .inl (cyB, 600, .inl f1_bytes)), (a0_formX, .inl (cyI, 8, .inl f0_formX)), (a0_formY, .inl (cyI, 8, .inl f0_formY))] H1 := hP.sub [0, 4, 1, 2, 3] rfl
  have hD : va_D A [(a0, .inr (2, [.ref a0_formX, .ref a0_formY, z0_foxX, z0_foxY, z0_seat, z0_strength, z0_debts, z0_near, .int v0_forms, z0_hares, z0_foxes, z0_safe])), (a1, .inr (8, [.ref a1_bytes, .int v1_length, .int v1_at, .int v1_token, z1_filled, .int x20, .int x21])), (a1_bytes, .inl (cyB, 600, .inl f1_bytes)), (a0_formX, .inl (cyI, 8, .inl f0_formX)), (a0_formY, .inl (cyI, 8, .inl f0_formY))] := hD.sub [0, 4, 1, 2, 3] (by decide) rfl
  generalize H1 = H at hP hS ⊢
  exact ((W.vret hx hb hr (fun t ht hW => ⟨⟨(v1_at, x20, x21, v1_token, f0_formX, f0_formY, v0_forms), rfl, hw, by rw [ht]; exact hP, va_K.moved hW.alike hK, hD⟩, hS.F ht⟩) hS.2.2 dX2_readForm_18))
def wq_X2_readForm (v1_length : Int32) (f1_bytes : Nat → Int32) (v1_at : Int32) (v1_fault : Int32) (v1_faultPlace : Int32) (v1_token : Int32) (f0_formX : Nat → Int32) (f0_formY : Nat → Int32) (v0_forms : Int32) (p2 : Int32) (Q : Int32 → Int32 → Int32 → Int32 → (Nat → Int32) → (Nat → Int32) → Int32 → Prop) : Prop := ((¬ p2 = 0 → (wb_X2_readForm_13 v1_length f1_bytes Q  v1_at v1_fault v1_faultPlace v1_token f0_formX f0_formY v0_forms)) ∧ (p2 = 0 → ((v0_forms < 8 → wq_X8_number v1_length f1_bytes v1_at v1_fault v1_faultPlace v1_token 0 30 (fun r7 x3 x4 x5 x6 => vp_in v0_forms 8 ∧ ∀ f8 : Nat → Int32, f8 = upd f0_formX v0_forms.toNatClampNeg r7 → wq_X8_number v1_length f1_bytes x3 x4 x5 x6 0 30 (fun r13 x9 x10 x11 x12 => vp_in v0_forms 8 ∧ ∀ f14 : Nat → Int32, f14 = upd f0_formY v0_forms.toNatClampNeg r13 → wq_X8_needs v1_length f1_bytes x9 x12 x10 x11 59 (fun x15 x16 x17 x18 => ∀ x19 : Int32, x19 = v0_forms + 1 → (Q x15 x17 x18 x16 f8 f14 x19))))) ∧ (¬ v0_forms < 8 → (wb_X2_readForm_13 v1_length f1_bytes Q  v1_at v1_fault v1_faultPlace v1_token f0_formX f0_formY v0_forms)))))
set_option maxHeartbeats 4000000 in
set_option maxRecDepth 100000 in
theorem ck_X2_readForm (l : Launch) (dC : Nat → ClassId) (dI : Nat → Nat → Nat) (cyB cyI cyJ cyP : ClassId) (a0 a1 a0_formX a1_bytes a0_formY : Nat) (sz : Nat) (z0_foxX : Value) (z0_foxY : Value) (z0_seat : Value) (z0_strength : Value) (z0_debts : Value) (z0_near : Value) (z0_hares : Value) (z0_foxes : Value) (z0_safe : Value) (z1_filled : Value) (v1_length : Int32) (f1_bytes : Nat → Int32) (v1_at : Int32) (v1_fault : Int32) (v1_faultPlace : Int32) (v1_token : Int32) (f0_formX : Nat → Int32) (f0_formY : Nat → Int32) (v0_forms : Int32) (p2 : Int32) {Q : Int32 → Int32 → Int32 → Int32 → (Nat → Int32) → (Nat → Int32) → Int32 → Prop} (hw : wq_X2_readForm v1_length f1_bytes v1_at v1_fault v1_faultPlace v1_token f0_formX f0_formY v0_forms p2 Q) : Met l yX2_readForm wsX2_readForm ({ frames := 3, cells := 0, slots := 0, locals := 63 }) (va_Pc [.ref a0, .ref a1, .int p2] (cPc (dC, dI) (kT cyB cyI cyJ cyP) [(a0, .inr (2, [.ref a0_formX, .ref a0_formY, z0_foxX, z0_foxY, z0_seat, z0_strength, z0_debts, z0_near, .int v0_forms, z0_hares, z0_foxes, z0_safe])), (a1, .inr (8, [.ref a1_bytes, .int v1_length, .int v1_at, .int v1_token, z1_filled, .int v1_fault, .int v1_faultPlace])), (a1_bytes, .inl (cyB, 600, .inl f1_bytes)), (a0_formX, .inl (cyI, 8, .inl f0_formX)), (a0_formY, .inl (cyI, 8, .inl f0_formY))] sz)) (va_Qv (fun (u : Int32 × Int32 × Int32 × Int32 × (Nat → Int32) × (Nat → Int32) × Int32) => Q u.1 u.2.1 u.2.2.1 u.2.2.2.1 u.2.2.2.2.1 u.2.2.2.2.2.1 u.2.2.2.2.2.2) (cB (dC, dI) (kT cyB cyI cyJ cyP) (va_A [(a0, .inr (2, [.ref a0_formX, .ref a0_formY, z0_foxX, z0_foxY, z0_seat, z0_strength, z0_debts, z0_near, .int v0_forms, z0_hares, z0_foxes, z0_safe])), (a1, .inr (8, [.ref a1_bytes, .int v1_length, .int v1_at, .int v1_token, z1_filled, .int v1_fault, .int v1_faultPlace])), (a1_bytes, .inl (cyB, 600, .inl f1_bytes)), (a0_formX, .inl (cyI, 8, .inl f0_formX)), (a0_formY, .inl (cyI, 8, .inl f0_formY))] sz) (fun u : Int32 × Int32 × Int32 × Int32 × (Nat → Int32) × (Nat → Int32) × Int32 => ([(a0, .inr (2, [.ref a0_formX, .ref a0_formY, z0_foxX, z0_foxY, z0_seat, z0_strength, z0_debts, z0_near, .int u.2.2.2.2.2.2, z0_hares, z0_foxes, z0_safe])), (a1, .inr (8, [.ref a1_bytes, .int v1_length, .int u.1, .int u.2.2.2.1, z1_filled, .int u.2.1, .int u.2.2.1])), (a1_bytes, .inl (cyB, 600, .inl f1_bytes)), (a0_formX, .inl (cyI, 8, .inl u.2.2.2.2.1)), (a0_formY, .inl (cyI, 8, .inl u.2.2.2.2.2.1))] : va_W))) (va_A [(a0, .inr (2, [.ref a0_formX, .ref a0_formY, z0_foxX, z0_foxY, z0_seat, z0_strength, z0_debts, z0_near, .int v0_forms, z0_hares, z0_foxes, z0_safe])), (a1, .inr (8, [.ref a1_bytes, .int v1_length, .int v1_at, .int v1_token, z1_filled, .int v1_fault, .int v1_faultPlace])), (a1_bytes, .inl (cyB, 600, .inl f1_bytes)), (a0_formX, .inl (cyI, 8, .inl f0_formX)), (a0_formY, .inl (cyI, 8, .inl f0_formY))] sz)) 0 0 (va_A [(a0, .inr (2, [.ref a0_formX, .ref a0_formY, z0_foxX, z0_foxY, z0_seat, z0_strength, z0_debts, z0_near, .int v0_forms, z0_hares, z0_foxes, z0_safe])), (a1, .inr (8, [.ref a1_bytes, .int v1_length, .int v1_at, .int v1_token, z1_filled, .int v1_fault, .int v1_faultPlace])), (a1_bytes, .inl (cyB, 600, .inl f1_bytes)), (a0_formX, .inl (cyI, 8, .inl f0_formX)), (a0_formY, .inl (cyI, 8, .inl f0_formY))] sz) := by
  refine Met.ofW (cc := cX2_readForm) (maxL := 3) (ret := none) (by decide) rfl ?_
  intro p e s m args below meth c s₁ B hml hv
  obtain ⟨rfl, hsz, hP, hK, hD0, hNw⟩ := hv
  have hx := B.exec
  have hb := B.bytes
  have hr := B.returns
  have hts := atoms_spec (ws := wsX2_readForm) B.pre
  have hown : s.vm.findClass RX2 = some m.cls := findClass_of_methodNamed B.named
  have hlocks := B.notSynchronized
  subst hsz
  have hD := hD0.self (sz := s.heap.size)
  generalize hAe : va_A [(a0, .inr (2, [.ref a0_formX, .ref a0_formY, z0_foxX, z0_foxY, z0_seat, z0_strength, z0_debts, z0_near, .int v0_forms, z0_hares, z0_foxes, z0_safe])), (a1, .inr (8, [.ref a1_bytes, .int v1_length, .int v1_at, .int v1_token, z1_filled, .int v1_fault, .int v1_faultPlace])), (a1_bytes, .inl (cyB, 600, .inl f1_bytes)), (a0_formX, .inl (cyI, 8, .inl f0_formX)), (a0_formY, .inl (cyI, 8, .inl f0_formY))] s.heap.size = A at hD ⊢
  have hA : ∀ q : Nat, s.heap.size ≤ q → A q := fun q h => by rw [← hAe]; exact Or.inr h
  have hS : va_S A s.heap s.heap [] := va_S.rf
  have hP : va_P (dC, dI) vwCl [(a0, .inr (2, [.ref a0_formX, .ref a0_formY, z0_foxX, z0_foxY, z0_seat, z0_strength, z0_debts, z0_near, .int v0_forms, z0_hares, z0_foxes, z0_safe])), (a1, .inr (8, [.ref a1_bytes, .int v1_length, .int v1_at, .int v1_token, z1_filled, .int v1_fault, .int v1_faultPlace])), (a1_bytes, .inl (cyB, 600, .inl f1_bytes)), (a0_formX, .inl (cyI, 8, .inl f0_formX)), (a0_formY, .inl (cyI, 8, .inl f0_formY))] s.heap := hP
  have hl := lv_entry ([.ref a0, .ref a1, .int p2]) (n := 3) (Nat.le_of_ble_eq_true rfl)
  rw [lg_entry_eq]
  generalize (lg_sl ([.ref a0, .ref a1, .int p2]) ++ List.replicate (3 - (lg_sl ([.ref a0, .ref a1, .int p2])).length) Slot.unset).toArray = ls at hl ⊢
  have hl : lv_has ls 3 [(0, .ref a0), (1, .ref a1), (2, .int p2)] := hl
  have C0 : cfx p s m _ meth c cX2_readForm none wsX2_readForm RX2 3 A (dC, dI) (kT cyB cyI cyJ cyP) := ⟨hx, hb, hr, hts, hown, hlocks, hml, hA, hK, hNw⟩
  clear hAe
  obtain ⟨H, hH⟩ : ∃ H, H = s.heap := ⟨_, rfl⟩
  rw [← hH] at hP ⊢
  have hS : va_S A s.heap H [] := by rw [hH]; exact va_S.rf
  have hS := hS
  refine lv_iload_n hx hb dX2_readForm_0 rfl (lv_at hl 2 rfl) ?_
  refine lv_if_ne (tgt := 13) hx hb dX2_readForm_1 (by decide) (fun c1 => ?_) (fun c1 => ?_)
  · have hw := hw.1 c1
    exact kb_X2_readForm_13 dC dI cyB cyI cyJ cyP a0 a1 a0_formX a1_bytes a0_formY z0_foxX z0_foxY z0_seat z0_strength z0_debts z0_near z0_hares z0_foxes z0_safe z1_filled v1_length f1_bytes Q  C0 _ _ _ v1_at v1_fault v1_faultPlace v1_token f0_formX f0_formY v0_forms hP hD hS (lv_sub hl [1] rfl) hw
  · have hw := hw.2 c1
    refine lv_aload_n hx hb dX2_readForm_4 rfl (lv_at hl 0 rfl) ?_
    refine va_get (D := (dC, dI)) (ci := 2) (v := .int v0_forms) (C := RX2) (T := TX2) (N := 12) hx hb hts ui_X2_readForm_X2 hown hK hP 0 rfl rfl 8 (by decide) (hts _ uw_X2_readForm_f36) (fun _ h9 => h9) rfl dX2_readForm_5 ?_
    refine lv_bipush (v := 8) hx hb dX2_readForm_8 (by decide) ?_
    refine lv_icmp_lt (tgt := 19) hx hb dX2_readForm_10 (by decide) (fun c2 => ?_) (fun c2 => ?_)
    · have hw := hw.1 c2
      refine lv_aload_n hx hb dX2_readForm_19 rfl (lv_at hl 0 rfl) ?_
      refine va_get (D := (dC, dI)) (ci := 2) (v := .ref a0_formX) (C := RX2) (T := TX2) (N := 12) hx hb hts ui_X2_readForm_X2 hown hK hP 0 rfl rfl 0 (by decide) (hts _ uw_X2_readForm_f9) (fun _ h9 => h9) rfl dX2_readForm_20 ?_
      refine lv_aload_n hx hb dX2_readForm_23 rfl (lv_at hl 0 rfl) ?_
      refine va_get (D := (dC, dI)) (ci := 2) (v := .int v0_forms) (C := RX2) (T := TX2) (N := 12) hx hb hts ui_X2_readForm_X2 hown hK hP 0 rfl rfl 8 (by decide) (hts _ uw_X2_readForm_f36) (fun _ h9 => h9) rfl dX2_readForm_24 ?_
      refine lv_aload_n hx hb dX2_readForm_27 rfl (lv_at hl 1 rfl) ?_
      refine lv_iconst (v := 0) hx hb dX2_readForm_28 (by decide) ?_
      refine lv_bipush (v := 30) hx hb dX2_readForm_29 (by decide) ?_
      have hPc := hP.sub (ws' := [(a1, .inr (8, [.ref a1_bytes, .int v1_length, .int v1_at, .int v1_token, z1_filled, .int v1_fault, .int v1_faultPlace])), (a1_bytes, .inl (cyB, 600, .inl f1_bytes))]) [1, 2] rfl
      have hDc := hD.sub (ws' := [(a1, .inr (8, [.ref a1_bytes, .int v1_length, .int v1_at, .int v1_token, z1_filled, .int v1_fault, .int v1_faultPlace])), (a1_bytes, .inl (cyB, 600, .inl f1_bytes))]) [1, 2] (by decide) rfl
      have hFc := va_free (wc := [(a1, .inr (8, [.ref a1_bytes, .int v1_length, .int v1_at, .int v1_token, z1_filled, .int v1_fault, .int v1_faultPlace])), (a1_bytes, .inl (cyB, 600, .inl f1_bytes))]) hD hS hA [1, 2] rfl
      refine va_calli (va_runV (As := [.int 0, .int 30]) (rest := [.int v0_forms, .ref a0_formX]) ⟨hx, hb, hml, hown, hts⟩ (ck_X8_number l dC dI cyB cyI cyJ cyP a1 a1_bytes H.size (z1_filled) v1_length f1_bytes v1_at v1_fault v1_faultPlace v1_token 0 30 hw) (cwV 2 hts gX2_readForm_X8_number rfl rfl rfl (by decide +kernel) ⟨Nat.le_of_ble_eq_true rfl, Nat.le_of_ble_eq_true rfl⟩) ⟨cPc_blind, va_recv hK hPc (ci := 8) (q0 := 0) rfl rfl, cPc_pre hPc hK hDc hNw⟩ rfl rfl hl.1 rfl (lv_room (Nat.le_of_ble_eq_true rfl)) dX2_readForm_31 ⟨Nat.le_of_ble_eq_true rfl, Nat.le_of_ble_eq_true rfl⟩) hS (fun q _ h => hFc q h) hFc (fun r7 u t H1 locs ht hvm hw hB hz1 hk1 hS => ?_)
      obtain ⟨x3, x4, x5, x6⟩ := u
      obtain ⟨hP1, hK1, hD1⟩ := hB
      rw [ht] at hP1
      obtain ⟨hP, hD⟩ := va_join (wr := [(a0, .inr (2, [.ref a0_formX, .ref a0_formY, z0_foxX, z0_foxY, z0_seat, z0_strength, z0_debts, z0_near, .int v0_forms, z0_hares, z0_foxes, z0_safe])), (a0_formX, .inl (cyI, 8, .inl f0_formX)), (a0_formY, .inl (cyI, 8, .inl f0_formY))]) (w1 := [(a1, .inr (8, [.ref a1_bytes, .int v1_length, .int x3, .int x6, z1_filled, .int x4, .int x5])), (a1_bytes, .inl (cyB, 600, .inl f1_bytes))]) hP hD [1, 2] [0, 3, 4] rfl rfl (by decide) (by decide) hk1 hFc hP1 hD1
      have hP : va_P (dC, dI) vwCl [(a0, .inr (2, [.ref a0_formX, .ref a0_formY, z0_foxX, z0_foxY, z0_seat, z0_strength, z0_debts, z0_near, .int v0_forms, z0_hares, z0_foxes, z0_safe])), (a1, .inr (8, [.ref a1_bytes, .int v1_length, .int x3, .int x6, z1_filled, .int x4, .int x5])), (a1_bytes, .inl (cyB, 600, .inl f1_bytes)), (a0_formX, .inl (cyI, 8, .inl f0_formX)), (a0_formY, .inl (cyI, 8, .inl f0_formY))] H1 := hP.sub [0, 3, 4, 1, 2] rfl
      have hD : va_D A [(a0, .inr (2, [.ref a0_formX, .ref a0_formY, z0_foxX, z0_foxY, z0_seat, z0_strength, z0_debts, z0_near, .int v0_forms, z0_hares, z0_foxes, z0_safe])), (a1, .inr (8, [.ref a1_bytes, .int v1_length, .int x3, .int x6, z1_filled, .int x4, .int x5])), (a1_bytes, .inl (cyB, 600, .inl f1_bytes)), (a0_formX, .inl (cyI, 8, .inl f0_formX)), (a0_formY, .inl (cyI, 8, .inl f0_formY))] := hD.sub [0, 3, 4, 1, 2] (by decide) rfl
      generalize H1 = H at hP hS ⊢
      obtain ⟨hi9, hw⟩ := hw
      refine va_iast hx hb hK hP hD hS 3 1 rfl rfl hi9 dX2_readForm_34 (fun H locs hP hD hS => ?_)
      obtain ⟨f8, ef8⟩ : ∃ y : Nat → Int32, y = upd f0_formX v0_forms.toNatClampNeg r7 := ⟨_, rfl⟩
      have hw := hw f8 ef8
      have hP : va_P (dC, dI) vwCl [(a0, .inr (2, [.ref a0_formX, .ref a0_formY, z0_foxX, z0_foxY, z0_seat, z0_strength, z0_debts, z0_near, .int v0_forms, z0_hares, z0_foxes, z0_safe])), (a1, .inr (8, [.ref a1_bytes, .int v1_length, .int x3, .int x6, z1_filled, .int x4, .int x5])), (a1_bytes, .inl (cyB, 600, .inl f1_bytes)), (a0_formX, .inl (cyI, 8, .inl f8)), (a0_formY, .inl (cyI, 8, .inl f0_formY))] H := by rw [ef8]; exact hP
      have hD : va_D A [(a0, .inr (2, [.ref a0_formX, .ref a0_formY, z0_foxX, z0_foxY, z0_seat, z0_strength, z0_debts, z0_near, .int v0_forms, z0_hares, z0_foxes, z0_safe])), (a1, .inr (8, [.ref a1_bytes, .int v1_length, .int x3, .int x6, z1_filled, .int x4, .int x5])), (a1_bytes, .inl (cyB, 600, .inl f1_bytes)), (a0_formX, .inl (cyI, 8, .inl f8)), (a0_formY, .inl (cyI, 8, .inl f0_formY))] := by rw [ef8]; exact hD
      refine lv_aload_n hx hb dX2_readForm_35 rfl (lv_at hl 0 rfl) ?_
      refine va_get (D := (dC, dI)) (ci := 2) (v := .ref a0_formY) (C := RX2) (T := TX2) (N := 12) hx hb hts ui_X2_readForm_X2 hown hK hP 0 rfl rfl 1 (by decide) (hts _ uw_X2_readForm_f15) (fun _ h9 => h9) rfl dX2_readForm_36 ?_
      refine lv_aload_n hx hb dX2_readForm_39 rfl (lv_at hl 0 rfl) ?_
      refine va_get (D := (dC, dI)) (ci := 2) (v := .int v0_forms) (C := RX2) (T := TX2) (N := 12) hx hb hts ui_X2_readForm_X2 hown hK hP 0 rfl rfl 8 (by decide) (hts _ uw_X2_readForm_f36) (fun _ h9 => h9) rfl dX2_readForm_40 ?_
      refine lv_aload_n hx hb dX2_readForm_43 rfl (lv_at hl 1 rfl) ?_
      refine lv_iconst (v := 0) hx hb dX2_readForm_44 (by decide) ?_
      refine lv_bipush (v := 30) hx hb dX2_readForm_45 (by decide) ?_
      have hPc := hP.sub (ws' := [(a1, .inr (8, [.ref a1_bytes, .int v1_length, .int x3, .int x6, z1_filled, .int x4, .int x5])), (a1_bytes, .inl (cyB, 600, .inl f1_bytes))]) [1, 2] rfl
      have hDc := hD.sub (ws' := [(a1, .inr (8, [.ref a1_bytes, .int v1_length, .int x3, .int x6, z1_filled, .int x4, .int x5])), (a1_bytes, .inl (cyB, 600, .inl f1_bytes))]) [1, 2] (by decide) rfl
      have hFc := va_free (wc := [(a1, .inr (8, [.ref a1_bytes, .int v1_length, .int x3, .int x6, z1_filled, .int x4, .int x5])), (a1_bytes, .inl (cyB, 600, .inl f1_bytes))]) hD hS hA [1, 2] rfl
      refine va_calli (va_runV (As := [.int 0, .int 30]) (rest := [.int v0_forms, .ref a0_formY]) ⟨hx, hb, hml, hown, hts⟩ (ck_X8_number l dC dI cyB cyI cyJ cyP a1 a1_bytes H.size (z1_filled) v1_length f1_bytes x3 x4 x5 x6 0 30 hw) (cwV 2 hts gX2_readForm_X8_number rfl rfl rfl (by decide +kernel) ⟨Nat.le_of_ble_eq_true rfl, Nat.le_of_ble_eq_true rfl⟩) ⟨cPc_blind, va_recv hK hPc (ci := 8) (q0 := 0) rfl rfl, cPc_pre hPc hK hDc hNw⟩ rfl rfl hl.1 rfl (lv_room (Nat.le_of_ble_eq_true rfl)) dX2_readForm_47 ⟨Nat.le_of_ble_eq_true rfl, Nat.le_of_ble_eq_true rfl⟩) hS (fun q _ h => hFc q h) hFc (fun r13 u t H1 locs ht hvm hw hB hz1 hk1 hS => ?_)
      obtain ⟨x9, x10, x11, x12⟩ := u
      obtain ⟨hP1, hK1, hD1⟩ := hB
      rw [ht] at hP1
      obtain ⟨hP, hD⟩ := va_join (wr := [(a0, .inr (2, [.ref a0_formX, .ref a0_formY, z0_foxX, z0_foxY, z0_seat, z0_strength, z0_debts, z0_near, .int v0_forms, z0_hares, z0_foxes, z0_safe])), (a0_formX, .inl (cyI, 8, .inl f8)), (a0_formY, .inl (cyI, 8, .inl f0_formY))]) (w1 := [(a1, .inr (8, [.ref a1_bytes, .int v1_length, .int x9, .int x12, z1_filled, .int x10, .int x11])), (a1_bytes, .inl (cyB, 600, .inl f1_bytes))]) hP hD [1, 2] [0, 3, 4] rfl rfl (by decide) (by decide) hk1 hFc hP1 hD1
      have hP : va_P (dC, dI) vwCl [(a0, .inr (2, [.ref a0_formX, .ref a0_formY, z0_foxX, z0_foxY, z0_seat, z0_strength, z0_debts, z0_near, .int v0_forms, z0_hares, z0_foxes, z0_safe])), (a1, .inr (8, [.ref a1_bytes, .int v1_length, .int x9, .int x12, z1_filled, .int x10, .int x11])), (a1_bytes, .inl (cyB, 600, .inl f1_bytes)), (a0_formX, .inl (cyI, 8, .inl f8)), (a0_formY, .inl (cyI, 8, .inl f0_formY))] H1 := hP.sub [0, 3, 4, 1, 2] rfl
      have hD : va_D A [(a0, .inr (2, [.ref a0_formX, .ref a0_formY, z0_foxX, z0_foxY, z0_seat, z0_strength, z0_debts, z0_near, .int v0_forms, z0_hares, z0_foxes, z0_safe])), (a1, .inr (8, [.ref a1_bytes, .int v1_length, .int x9, .int x12, z1_filled, .int x10, .int x11])), (a1_bytes, .inl (cyB, 600, .inl f1_bytes)), (a0_formX, .inl (cyI, 8, .inl f8)), (a0_formY, .inl (cyI, 8, .inl f0_formY))] := hD.sub [0, 3, 4, 1, 2] (by decide) rfl
      generalize H1 = H at hP hS ⊢
      obtain ⟨hi9, hw⟩ := hw
      refine va_iast hx hb hK hP hD hS 4 1 rfl rfl hi9 dX2_readForm_50 (fun H locs hP hD hS => ?_)
      obtain ⟨f14, ef14⟩ : ∃ y : Nat → Int32, y = upd f0_formY v0_forms.toNatClampNeg r13 := ⟨_, rfl⟩
      have hw := hw f14 ef14
      have hP : va_P (dC, dI) vwCl [(a0, .inr (2, [.ref a0_formX, .ref a0_formY, z0_foxX, z0_foxY, z0_seat, z0_strength, z0_debts, z0_near, .int v0_forms, z0_hares, z0_foxes, z0_safe])), (a1, .inr (8, [.ref a1_bytes, .int v1_length, .int x9, .int x12, z1_filled, .int x10, .int x11])), (a1_bytes, .inl (cyB, 600, .inl f1_bytes)), (a0_formX, .inl (cyI, 8, .inl f8)), (a0_formY, .inl (cyI, 8, .inl f14))] H := by rw [ef14]; exact hP
      have hD : va_D A [(a0, .inr (2, [.ref a0_formX, .ref a0_formY, z0_foxX, z0_foxY, z0_seat, z0_strength, z0_debts, z0_near, .int v0_forms, z0_hares, z0_foxes, z0_safe])), (a1, .inr (8, [.ref a1_bytes, .int v1_length, .int x9, .int x12, z1_filled, .int x10, .int x11])), (a1_bytes, .inl (cyB, 600, .inl f1_bytes)), (a0_formX, .inl (cyI, 8, .inl f8)), (a0_formY, .inl (cyI, 8, .inl f14))] := by rw [ef14]; exact hD
      refine lv_aload_n hx hb dX2_readForm_51 rfl (lv_at hl 1 rfl) ?_
      refine lv_bipush (v := 59) hx hb dX2_readForm_52 (by decide) ?_
      have hPc := hP.sub (ws' := [(a1, .inr (8, [.ref a1_bytes, .int v1_length, .int x9, .int x12, z1_filled, .int x10, .int x11])), (a1_bytes, .inl (cyB, 600, .inl f1_bytes))]) [1, 2] rfl
      have hDc := hD.sub (ws' := [(a1, .inr (8, [.ref a1_bytes, .int v1_length, .int x9, .int x12, z1_filled, .int x10, .int x11])), (a1_bytes, .inl (cyB, 600, .inl f1_bytes))]) [1, 2] (by decide) rfl
      have hFc := va_free (wc := [(a1, .inr (8, [.ref a1_bytes, .int v1_length, .int x9, .int x12, z1_filled, .int x10, .int x11])), (a1_bytes, .inl (cyB, 600, .inl f1_bytes))]) hD hS hA [1, 2] rfl
      refine va_callv (va_runV (As := [.int 59]) (rest := []) ⟨hx, hb, hml, hown, hts⟩ (ck_X8_needs l dC dI cyB cyI cyJ cyP a1 a1_bytes H.size (z1_filled) v1_length f1_bytes x9 x12 x10 x11 59 hw) (cwV 1 hts gX2_readForm_X8_needs rfl rfl rfl (by decide +kernel) ⟨Nat.le_of_ble_eq_true rfl, Nat.le_of_ble_eq_true rfl⟩) ⟨cPc_blind, va_recv hK hPc (ci := 8) (q0 := 0) rfl rfl, cPc_pre hPc hK hDc hNw⟩ rfl rfl hl.1 rfl (lv_room (Nat.le_of_ble_eq_true rfl)) dX2_readForm_54 ⟨Nat.le_of_ble_eq_true rfl, Nat.le_of_ble_eq_true rfl⟩) hS (fun q _ h => hFc q h) hFc (fun u t H1 locs ht hvm hw hB hz1 hk1 hS => ?_)
      obtain ⟨x15, x16, x17, x18⟩ := u
      obtain ⟨hP1, hK1, hD1⟩ := hB
      rw [ht] at hP1
      obtain ⟨hP, hD⟩ := va_join (wr := [(a0, .inr (2, [.ref a0_formX, .ref a0_formY, z0_foxX, z0_foxY, z0_seat, z0_strength, z0_debts, z0_near, .int v0_forms, z0_hares, z0_foxes, z0_safe])), (a0_formX, .inl (cyI, 8, .inl f8)), (a0_formY, .inl (cyI, 8, .inl f14))]) (w1 := [(a1, .inr (8, [.ref a1_bytes, .int v1_length, .int x15, .int x16, z1_filled, .int x17, .int x18])), (a1_bytes, .inl (cyB, 600, .inl f1_bytes))]) hP hD [1, 2] [0, 3, 4] rfl rfl (by decide) (by decide) hk1 hFc hP1 hD1
      have hP : va_P (dC, dI) vwCl [(a0, .inr (2, [.ref a0_formX, .ref a0_formY, z0_foxX, z0_foxY, z0_seat, z0_strength, z0_debts, z0_near, .int v0_forms, z0_hares, z0_foxes, z0_safe])), (a1, .inr (8, [.ref a1_bytes, .int v1_length, .int x15, .int x16, z1_filled, .int x17, .int x18])), (a1_bytes, .inl (cyB, 600, .inl f1_bytes)), (a0_formX, .inl (cyI, 8, .inl f8)), (a0_formY, .inl (cyI, 8, .inl f14))] H1 := hP.sub [0, 3, 4, 1, 2] rfl
      have hD : va_D A [(a0, .inr (2, [.ref a0_formX, .ref a0_formY, z0_foxX, z0_foxY, z0_seat, z0_strength, z0_debts, z0_near, .int v0_forms, z0_hares, z0_foxes, z0_safe])), (a1, .inr (8, [.ref a1_bytes, .int v1_length, .int x15, .int x16, z1_filled, .int x17, .int x18])), (a1_bytes, .inl (cyB, 600, .inl f1_bytes)), (a0_formX, .inl (cyI, 8, .inl f8)), (a0_formY, .inl (cyI, 8, .inl f14))] := hD.sub [0, 3, 4, 1, 2] (by decide) rfl
      generalize H1 = H at hP hS ⊢
      refine lv_aload_n hx hb dX2_readForm_57 rfl (lv_at hl 0 rfl) ?_
      refine lv_dup hx hb dX2_readForm_58 rfl ?_
      refine va_get (D := (dC, dI)) (ci := 2) (v := .int v0_forms) (C := RX2) (T := TX2) (N := 12) hx hb hts ui_X2_readForm_X2 hown hK hP 0 rfl rfl 8 (by decide) (hts _ uw_X2_readForm_f36) (fun _ h9 => h9) rfl dX2_readForm_59 ?_
      refine lv_iconst (v := 1) hx hb dX2_readForm_62 (by decide) ?_
      refine lv_iadd hx hb dX2_readForm_63 ?_
      refine lv_topi (fun x19 ex19 => ?_)
      have hw := hw x19 ex19
      refine va_put (D := (dC, dI)) (ci := 2) (v := .int x19) (ty := .int) (C := RX2) (T := TX2) (N := 12) hx hb hts ui_X2_readForm_X2 tyX2 tyX2_ok nmX2 hown hK hP hD hS 0 rfl rfl 8 (by decide) (hts _ uw_X2_readForm_f36) (fun _ h9 => h9) rfl (by decide +kernel) rfl rfl (Nat.le_of_ble_eq_true rfl) dX2_readForm_64 (fun H locs hP hD hS => ?_)
      have hP : va_P (dC, dI) vwCl [(a0, .inr (2, [.ref a0_formX, .ref a0_formY, z0_foxX, z0_foxY, z0_seat, z0_strength, z0_debts, z0_near, .int x19, z0_hares, z0_foxes, z0_safe])), (a1, .inr (8, [.ref a1_bytes, .int v1_length, .int x15, .int x16, z1_filled, .int x17, .int x18])), (a1_bytes, .inl (cyB, 600, .inl f1_bytes)), (a0_formX, .inl (cyI, 8, .inl f8)), (a0_formY, .inl (cyI, 8, .inl f14))] H := hP
      have hD : va_D A [(a0, .inr (2, [.ref a0_formX, .ref a0_formY, z0_foxX, z0_foxY, z0_seat, z0_strength, z0_debts, z0_near, .int x19, z0_hares, z0_foxes, z0_safe])), (a1, .inr (8, [.ref a1_bytes, .int v1_length, .int x15, .int x16, z1_filled, .int x17, .int x18])), (a1_bytes, .inl (cyB, 600, .inl f1_bytes)), (a0_formX, .inl (cyI, 8, .inl f8)), (a0_formY, .inl (cyI, 8, .inl f14))] := hD
      exact ((W.vret hx hb hr (fun t ht hW => ⟨⟨(x15, x17, x18, x16, f8, f14, x19), rfl, hw, by rw [ht]; exact hP, va_K.moved hW.alike hK, hD⟩, hS.F ht⟩) hS.2.2 dX2_readForm_67))
    · have hw := hw.2 c2
      exact kb_X2_readForm_13 dC dI cyB cyI cyJ cyP a0 a1 a0_formX a1_bytes a0_formY z0_foxX z0_foxY z0_seat z0_strength z0_debts z0_near z0_hares z0_foxes z0_safe z1_filled v1_length f1_bytes Q  C0 _ _ _ v1_at v1_fault v1_faultPlace v1_token f0_formX f0_formY v0_forms hP hD hS (lv_sub hl [1] rfl) hw
theorem ui_X2_readHare_X2 : ∀ w ∈ u_ws RX2 TX2 12, w ∈ wsX2_readHare := by decide +kernel
theorem uw_X2_readHare_f24 : (.fieldLink RX2 24 "MarchHares$Down" "seat" "[I" : Cond) ∈ wsX2_readHare := by decide +kernel
theorem uw_X2_readHare_f27 : (.fieldLink RX2 27 "MarchHares$Down" "strength" "[I" : Cond) ∈ wsX2_readHare := by decide +kernel
theorem uw_X2_readHare_f36 : (.fieldLink RX2 36 "MarchHares$Down" "forms" "I" : Cond) ∈ wsX2_readHare := by decide +kernel
theorem uw_X2_readHare_f40 : (.fieldLink RX2 40 "MarchHares$Down" "hares" "I" : Cond) ∈ wsX2_readHare := by decide +kernel
def wb_X2_readHare_13 (v0_forms : Int32) (v1_length : Int32) (f1_bytes : Nat → Int32) (Q : Int32 → Int32 → Int32 → Int32 → (Nat → Int32) → (Nat → Int32) → Int32 → Prop)  (v1_at : Int32) (v1_fault : Int32) (v1_faultPlace : Int32) (v1_token : Int32) (f0_seat : Nat → Int32) (f0_strength : Nat → Int32) (v0_hares : Int32) : Prop := wq_X8_blameToken v1_token v1_fault v1_faultPlace 3 (fun x20 x21 => (Q v1_at x20 x21 v1_token f0_seat f0_strength v0_hares))
set_option maxHeartbeats 4000000 in
set_option maxRecDepth 100000 in
theorem kb_X2_readHare_13 {p : Program} {l : Launch} {e : Env} {s : State} {m : MethodId} {args : Array Value} {below : List Frame} {meth : Method} {c : Code} {A : Nat → Prop} (dC : Nat → ClassId) (dI : Nat → Nat → Nat) (cyB cyI cyJ cyP : ClassId) (a0 a1 a0_seat a1_bytes a0_strength : Nat) (z0_formX : Value) (z0_formY : Value) (z0_foxX : Value) (z0_foxY : Value) (z0_debts : Value) (z0_near : Value) (z0_foxes : Value) (z0_safe : Value) (z1_filled : Value) (v0_forms : Int32) (v1_length : Int32) (f1_bytes : Nat → Int32) (Q : Int32 → Int32 → Int32 → Int32 → (Nat → Int32) → (Nat → Int32) → Int32 → Prop)  (C0 : cfx p s m args meth c cX2_readHare none wsX2_readHare RX2 3 A (dC, dI) (kT cyB cyI cyJ cyP)) : ∀ (H : Heap) (locs : List Loc) (ls : Array Slot) (v1_at : Int32) (v1_fault : Int32) (v1_faultPlace : Int32) (v1_token : Int32) (f0_seat : Nat → Int32) (f0_strength : Nat → Int32) (v0_hares : Int32), va_P (dC, dI) vwCl [(a0, .inr (2, [z0_formX, z0_formY, z0_foxX, z0_foxY, .ref a0_seat, .ref a0_strength, z0_debts, z0_near, .int v0_forms, .int v0_hares, z0_foxes, z0_safe])), (a1, .inr (8, [.ref a1_bytes, .int v1_length, .int v1_at, .int v1_token, z1_filled, .int v1_fault, .int v1_faultPlace])), (a1_bytes, .inl (cyB, 600, .inl f1_bytes)), (a0_seat, .inl (cyI, 6, .inl f0_seat)), (a0_strength, .inl (cyI, 6, .inl f0_strength))] H → va_D A [(a0, .inr (2, [z0_formX, z0_formY, z0_foxX, z0_foxY, .ref a0_seat, .ref a0_strength, z0_debts, z0_near, .int v0_forms, .int v0_hares, z0_foxes, z0_safe])), (a1, .inr (8, [.ref a1_bytes, .int v1_length, .int v1_at, .int v1_token, z1_filled, .int v1_fault, .int v1_faultPlace])), (a1_bytes, .inl (cyB, 600, .inl f1_bytes)), (a0_seat, .inl (cyI, 6, .inl f0_seat)), (a0_strength, .inl (cyI, 6, .inl f0_strength))] → va_S A s.heap H locs → lv_has ls 3 [(1, .ref a1)] → wb_X2_readHare_13 v0_forms v1_length f1_bytes Q  v1_at v1_fault v1_faultPlace v1_token f0_seat f0_strength v0_hares → W p l e (headSpec wsX2_readHare ({ frames := 3, cells := 0, slots := 0, locals := 63 })).room s m args below meth c H locs 0 0 (MQ below (va_Qv (fun (u : Int32 × Int32 × Int32 × Int32 × (Nat → Int32) × (Nat → Int32) × Int32) => Q u.1 u.2.1 u.2.2.1 u.2.2.2.1 u.2.2.2.2.1 u.2.2.2.2.2.1 u.2.2.2.2.2.2) (cB (dC, dI) (kT cyB cyI cyJ cyP) A (fun u : Int32 × Int32 × Int32 × Int32 × (Nat → Int32) × (Nat → Int32) × Int32 => ([(a0, .inr (2, [z0_formX, z0_formY, z0_foxX, z0_foxY, .ref a0_seat, .ref a0_strength, z0_debts, z0_near, .int v0_forms, .int u.2.2.2.2.2.2, z0_foxes, z0_safe])), (a1, .inr (8, [.ref a1_bytes, .int v1_length, .int u.1, .int u.2.2.2.1, z1_filled, .int u.2.1, .int u.2.2.1])), (a1_bytes, .inl (cyB, 600, .inl f1_bytes)), (a0_seat, .inl (cyI, 6, .inl u.2.2.2.2.1)), (a0_strength, .inl (cyI, 6, .inl u.2.2.2.2.2.1))] : va_W))) A) args s 0 0 A) (F0 m 13 ls []) := by
  obtain ⟨hx, hb, hr, hts, hown, hlocks, hml, hA, hK, hNw⟩ := id C0
  intro H locs ls v1_at v1_fault v1_faultPlace v1_token f0_seat f0_strength v0_hares hP hD hS hl hw
  refine lv_aload_n hx hb dX2_readHare_13 rfl (lv_at hl 0 rfl) ?_
  refine lv_iconst (v := 3) hx hb dX2_readHare_14 (by decide) ?_
  have hPc := hP.sub (ws' := [(a1, .inr (8, [.ref a1_bytes, .int v1_length, .int v1_at, .int v1_token, z1_filled, .int v1_fault, .int v1_faultPlace]))]) [1] rfl
  have hDc := hD.sub (ws' := [(a1, .inr (8, [.ref a1_bytes, .int v1_length, .int v1_at, .int v1_token, z1_filled, .int v1_fault, .int v1_faultPlace]))]) [1] (by decide) rfl
  have hFc := va_free (wc := [(a1, .inr (8, [.ref a1_bytes, .int v1_length, .int v1_at, .int v1_token, z1_filled, .int v1_fault, .int v1_faultPlace]))]) hD hS hA [1] rfl
  refine va_callv (va_runV (As := [.int 3]) (rest := []) ⟨hx, hb, hml, hown, hts⟩ (ck_X8_blameToken l dC dI cyB cyI cyJ cyP a1 H.size (.ref a1_bytes) (.int v1_length) (.int v1_at) (z1_filled) v1_token v1_fault v1_faultPlace 3 hw) (cwV 1 hts gX2_readHare_X8_blameToken rfl rfl rfl (by decide +kernel) ⟨Nat.le_of_ble_eq_true rfl, Nat.le_of_ble_eq_true rfl⟩) ⟨cPc_blind, va_recv hK hPc (ci := 8) (q0 := 0) rfl rfl, cPc_pre hPc hK hDc hNw⟩ rfl rfl hl.1 rfl (lv_room (Nat.le_of_ble_eq_true rfl)) dX2_readHare_15 ⟨Nat.le_of_ble_eq_true rfl, Nat.le_of_ble_eq_true rfl⟩) hS (fun q _ h => hFc q h) hFc (fun u t H1 locs ht hvm hw hB hz1 hk1 hS => ?_)
  obtain ⟨x20, x21⟩ := u
  obtain ⟨hP1, hK1, hD1⟩ := hB
  rw [ht] at hP1
  obtain ⟨hP, hD⟩ := va_join (wr := [(a0, .inr (2, [z0_formX, z0_formY, z0_foxX, z0_foxY, .ref a0_seat, .ref a0_strength, z0_debts, z0_near, .int v0_forms, .int v0_hares, z0_foxes, z0_safe])), (a1_bytes, .inl (cyB, 600, .inl f1_bytes)), (a0_seat, .inl (cyI, 6, .inl f0_seat)), (a0_strength, .inl (cyI, 6, .inl f0_strength))]) (w1 := [(a1, .inr (8, [.ref a1_bytes, .int v1_length, .int v1_at, .int v1_token, z1_filled, .int x20, .int x21]))]) hP hD [1] [0, 2, 3, 4] rfl rfl (by decide) (by decide) hk1 hFc hP1 hD1
  have hP : va_P (dC, dI) vwCl [(a0, .inr (2, [z0_formX, z0_formY, z0_foxX, z0_foxY, .ref a0_seat, .ref a0_strength, z0_debts, z0_near, .int v0_forms, .int v0_hares, z0_foxes, z0_safe])), (a1, .inr (8, [.ref a1_bytes, .int v1_length, .int v1_at, .int v1_token, z1_filled, .int x20, .int x21])), (a1_bytes, .inl (cyB, 600, .inl f1_bytes)), (a0_seat, .inl (cyI, 6, .inl f0_seat)), (a0_strength, .inl (cyI, 6, .inl f0_strength))] H1 := hP.sub [0, 4, 1, 2, 3] rfl
  have hD : va_D A [(a0, .inr (2, [z0_formX, z0_formY, z0_foxX, z0_foxY, .ref a0_seat, .ref a0_strength, z0_debts, z0_near, .int v0_forms, .int v0_hares, z0_foxes, z0_safe])), (a1, .inr (8, [.ref a1_bytes, .int v1_length, .int v1_at, .int v1_token, z1_filled, .int x20, .int x21])), (a1_bytes, .inl (cyB, 600, .inl f1_bytes)), (a0_seat, .inl (cyI, 6, .inl f0_seat)), (a0_strength, .inl (cyI, 6, .inl f0_strength))] := hD.sub [0, 4, 1, 2, 3] (by decide) rfl
  generalize H1 = H at hP hS ⊢
  exact ((W.vret hx hb hr (fun t ht hW => ⟨⟨(v1_at, x20, x21, v1_token, f0_seat, f0_strength, v0_hares), rfl, hw, by rw [ht]; exact hP, va_K.moved hW.alike hK, hD⟩, hS.F ht⟩) hS.2.2 dX2_readHare_18))
def wq_X2_readHare (v0_forms : Int32) (v1_length : Int32) (f1_bytes : Nat → Int32) (v1_at : Int32) (v1_fault : Int32) (v1_faultPlace : Int32) (v1_token : Int32) (f0_seat : Nat → Int32) (f0_strength : Nat → Int32) (v0_hares : Int32) (p2 : Int32) (Q : Int32 → Int32 → Int32 → Int32 → (Nat → Int32) → (Nat → Int32) → Int32 → Prop) : Prop := ((¬ p2 = 0 → (wb_X2_readHare_13 v0_forms v1_length f1_bytes Q  v1_at v1_fault v1_faultPlace v1_token f0_seat f0_strength v0_hares)) ∧ (p2 = 0 → ((v0_hares < 6 → wq_X8_number v1_length f1_bytes v1_at v1_fault v1_faultPlace v1_token 0 (v0_forms - 1) (fun r7 x3 x4 x5 x6 => vp_in v0_hares 6 ∧ ∀ f8 : Nat → Int32, f8 = upd f0_seat v0_hares.toNatClampNeg r7 → wq_X8_number v1_length f1_bytes x3 x4 x5 x6 1 9 (fun r13 x9 x10 x11 x12 => vp_in v0_hares 6 ∧ ∀ f14 : Nat → Int32, f14 = upd f0_strength v0_hares.toNatClampNeg r13 → wq_X8_needs v1_length f1_bytes x9 x12 x10 x11 59 (fun x15 x16 x17 x18 => ∀ x19 : Int32, x19 = v0_hares + 1 → (Q x15 x17 x18 x16 f8 f14 x19))))) ∧ (¬ v0_hares < 6 → (wb_X2_readHare_13 v0_forms v1_length f1_bytes Q  v1_at v1_fault v1_faultPlace v1_token f0_seat f0_strength v0_hares)))))
set_option maxHeartbeats 4000000 in
set_option maxRecDepth 100000 in
theorem ck_X2_readHare (l : Launch) (dC : Nat → ClassId) (dI : Nat → Nat → Nat) (cyB cyI cyJ cyP : ClassId) (a0 a1 a0_seat a1_bytes a0_strength : Nat) (sz : Nat) (z0_formX : Value) (z0_formY : Value) (z0_foxX : Value) (z0_foxY : Value) (z0_debts : Value) (z0_near : Value) (z0_foxes : Value) (z0_safe : Value) (z1_filled : Value) (v0_forms : Int32) (v1_length : Int32) (f1_bytes : Nat → Int32) (v1_at : Int32) (v1_fault : Int32) (v1_faultPlace : Int32) (v1_token : Int32) (f0_seat : Nat → Int32) (f0_strength : Nat → Int32) (v0_hares : Int32) (p2 : Int32) {Q : Int32 → Int32 → Int32 → Int32 → (Nat → Int32) → (Nat → Int32) → Int32 → Prop} (hw : wq_X2_readHare v0_forms v1_length f1_bytes v1_at v1_fault v1_faultPlace v1_token f0_seat f0_strength v0_hares p2 Q) : Met l yX2_readHare wsX2_readHare ({ frames := 3, cells := 0, slots := 0, locals := 63 }) (va_Pc [.ref a0, .ref a1, .int p2] (cPc (dC, dI) (kT cyB cyI cyJ cyP) [(a0, .inr (2, [z0_formX, z0_formY, z0_foxX, z0_foxY, .ref a0_seat, .ref a0_strength, z0_debts, z0_near, .int v0_forms, .int v0_hares, z0_foxes, z0_safe])), (a1, .inr (8, [.ref a1_bytes, .int v1_length, .int v1_at, .int v1_token, z1_filled, .int v1_fault, .int v1_faultPlace])), (a1_bytes, .inl (cyB, 600, .inl f1_bytes)), (a0_seat, .inl (cyI, 6, .inl f0_seat)), (a0_strength, .inl (cyI, 6, .inl f0_strength))] sz)) (va_Qv (fun (u : Int32 × Int32 × Int32 × Int32 × (Nat → Int32) × (Nat → Int32) × Int32) => Q u.1 u.2.1 u.2.2.1 u.2.2.2.1 u.2.2.2.2.1 u.2.2.2.2.2.1 u.2.2.2.2.2.2) (cB (dC, dI) (kT cyB cyI cyJ cyP) (va_A [(a0, .inr (2, [z0_formX, z0_formY, z0_foxX, z0_foxY, .ref a0_seat, .ref a0_strength, z0_debts, z0_near, .int v0_forms, .int v0_hares, z0_foxes, z0_safe])), (a1, .inr (8, [.ref a1_bytes, .int v1_length, .int v1_at, .int v1_token, z1_filled, .int v1_fault, .int v1_faultPlace])), (a1_bytes, .inl (cyB, 600, .inl f1_bytes)), (a0_seat, .inl (cyI, 6, .inl f0_seat)), (a0_strength, .inl (cyI, 6, .inl f0_strength))] sz) (fun u : Int32 × Int32 × Int32 × Int32 × (Nat → Int32) × (Nat → Int32) × Int32 => ([(a0, .inr (2, [z0_formX, z0_formY, z0_foxX, z0_foxY, .ref a0_seat, .ref a0_strength, z0_debts, z0_near, .int v0_forms, .int u.2.2.2.2.2.2, z0_foxes, z0_safe])), (a1, .inr (8, [.ref a1_bytes, .int v1_length, .int u.1, .int u.2.2.2.1, z1_filled, .int u.2.1, .int u.2.2.1])), (a1_bytes, .inl (cyB, 600, .inl f1_bytes)), (a0_seat, .inl (cyI, 6, .inl u.2.2.2.2.1)), (a0_strength, .inl (cyI, 6, .inl u.2.2.2.2.2.1))] : va_W))) (va_A [(a0, .inr (2, [z0_formX, z0_formY, z0_foxX, z0_foxY, .ref a0_seat, .ref a0_strength, z0_debts, z0_near, .int v0_forms, .int v0_hares, z0_foxes, z0_safe])), (a1, .inr (8, [.ref a1_bytes, .int v1_length, .int v1_at, .int v1_token, z1_filled, .int v1_fault, .int v1_faultPlace])), (a1_bytes, .inl (cyB, 600, .inl f1_bytes)), (a0_seat, .inl (cyI, 6, .inl f0_seat)), (a0_strength, .inl (cyI, 6, .inl f0_strength))] sz)) 0 0 (va_A [(a0, .inr (2, [z0_formX, z0_formY, z0_foxX, z0_foxY, .ref a0_seat, .ref a0_strength, z0_debts, z0_near, .int v0_forms, .int v0_hares, z0_foxes, z0_safe])), (a1, .inr (8, [.ref a1_bytes, .int v1_length, .int v1_at, .int v1_token, z1_filled, .int v1_fault, .int v1_faultPlace])), (a1_bytes, .inl (cyB, 600, .inl f1_bytes)), (a0_seat, .inl (cyI, 6, .inl f0_seat)), (a0_strength, .inl (cyI, 6, .inl f0_strength))] sz) := by
  refine Met.ofW (cc := cX2_readHare) (maxL := 3) (ret := none) (by decide) rfl ?_
  intro p e s m args below meth c s₁ B hml hv
  obtain ⟨rfl, hsz, hP, hK, hD0, hNw⟩ := hv
  have hx := B.exec
  have hb := B.bytes
  have hr := B.returns
  have hts := atoms_spec (ws := wsX2_readHare) B.pre
  have hown : s.vm.findClass RX2 = some m.cls := findClass_of_methodNamed B.named
  have hlocks := B.notSynchronized
  subst hsz
  have hD := hD0.self (sz := s.heap.size)
  generalize hAe : va_A [(a0, .inr (2, [z0_formX, z0_formY, z0_foxX, z0_foxY, .ref a0_seat, .ref a0_strength, z0_debts, z0_near, .int v0_forms, .int v0_hares, z0_foxes, z0_safe])), (a1, .inr (8, [.ref a1_bytes, .int v1_length, .int v1_at, .int v1_token, z1_filled, .int v1_fault, .int v1_faultPlace])), (a1_bytes, .inl (cyB, 600, .inl f1_bytes)), (a0_seat, .inl (cyI, 6, .inl f0_seat)), (a0_strength, .inl (cyI, 6, .inl f0_strength))] s.heap.size = A at hD ⊢
  have hA : ∀ q : Nat, s.heap.size ≤ q → A q := fun q h => by rw [← hAe]; exact Or.inr h
  have hS : va_S A s.heap s.heap [] := va_S.rf
  have hP : va_P (dC, dI) vwCl [(a0, .inr (2, [z0_formX, z0_formY, z0_foxX, z0_foxY, .ref a0_seat, .ref a0_strength, z0_debts, z0_near, .int v0_forms, .int v0_hares, z0_foxes, z0_safe])), (a1, .inr (8, [.ref a1_bytes, .int v1_length, .int v1_at, .int v1_token, z1_filled, .int v1_fault, .int v1_faultPlace])), (a1_bytes, .inl (cyB, 600, .inl f1_bytes)), (a0_seat, .inl (cyI, 6, .inl f0_seat)), (a0_strength, .inl (cyI, 6, .inl f0_strength))] s.heap := hP
  have hl := lv_entry ([.ref a0, .ref a1, .int p2]) (n := 3) (Nat.le_of_ble_eq_true rfl)
  rw [lg_entry_eq]
  generalize (lg_sl ([.ref a0, .ref a1, .int p2]) ++ List.replicate (3 - (lg_sl ([.ref a0, .ref a1, .int p2])).length) Slot.unset).toArray = ls at hl ⊢
  have hl : lv_has ls 3 [(0, .ref a0), (1, .ref a1), (2, .int p2)] := hl
  have C0 : cfx p s m _ meth c cX2_readHare none wsX2_readHare RX2 3 A (dC, dI) (kT cyB cyI cyJ cyP) := ⟨hx, hb, hr, hts, hown, hlocks, hml, hA, hK, hNw⟩
  clear hAe
  obtain ⟨H, hH⟩ : ∃ H, H = s.heap := ⟨_, rfl⟩
  rw [← hH] at hP ⊢
  have hS : va_S A s.heap H [] := by rw [hH]; exact va_S.rf
  have hS := hS
  refine lv_iload_n hx hb dX2_readHare_0 rfl (lv_at hl 2 rfl) ?_
  refine lv_if_ne (tgt := 13) hx hb dX2_readHare_1 (by decide) (fun c1 => ?_) (fun c1 => ?_)
  · have hw := hw.1 c1
    exact kb_X2_readHare_13 dC dI cyB cyI cyJ cyP a0 a1 a0_seat a1_bytes a0_strength z0_formX z0_formY z0_foxX z0_foxY z0_debts z0_near z0_foxes z0_safe z1_filled v0_forms v1_length f1_bytes Q  C0 _ _ _ v1_at v1_fault v1_faultPlace v1_token f0_seat f0_strength v0_hares hP hD hS (lv_sub hl [1] rfl) hw
  · have hw := hw.2 c1
    refine lv_aload_n hx hb dX2_readHare_4 rfl (lv_at hl 0 rfl) ?_
    refine va_get (D := (dC, dI)) (ci := 2) (v := .int v0_hares) (C := RX2) (T := TX2) (N := 12) hx hb hts ui_X2_readHare_X2 hown hK hP 0 rfl rfl 9 (by decide) (hts _ uw_X2_readHare_f40) (fun _ h9 => h9) rfl dX2_readHare_5 ?_
    refine lv_bipush (v := 6) hx hb dX2_readHare_8 (by decide) ?_
    refine lv_icmp_lt (tgt := 19) hx hb dX2_readHare_10 (by decide) (fun c2 => ?_) (fun c2 => ?_)
    · have hw := hw.1 c2
      refine lv_aload_n hx hb dX2_readHare_19 rfl (lv_at hl 0 rfl) ?_
      refine va_get (D := (dC, dI)) (ci := 2) (v := .ref a0_seat) (C := RX2) (T := TX2) (N := 12) hx hb hts ui_X2_readHare_X2 hown hK hP 0 rfl rfl 4 (by decide) (hts _ uw_X2_readHare_f24) (fun _ h9 => h9) rfl dX2_readHare_20 ?_
      refine lv_aload_n hx hb dX2_readHare_23 rfl (lv_at hl 0 rfl) ?_
      refine va_get (D := (dC, dI)) (ci := 2) (v := .int v0_hares) (C := RX2) (T := TX2) (N := 12) hx hb hts ui_X2_readHare_X2 hown hK hP 0 rfl rfl 9 (by decide) (hts _ uw_X2_readHare_f40) (fun _ h9 => h9) rfl dX2_readHare_24 ?_
      refine lv_aload_n hx hb dX2_readHare_27 rfl (lv_at hl 1 rfl) ?_
      refine lv_iconst (v := 0) hx hb dX2_readHare_28 (by decide) ?_
      refine lv_aload_n hx hb dX2_readHare_29 rfl (lv_at hl 0 rfl) ?_
      refine va_get (D := (dC, dI)) (ci := 2) (v := .int v0_forms) (C := RX2) (T := TX2) (N := 12) hx hb hts ui_X2_readHare_X2 hown hK hP 0 rfl rfl 8 (by decide) (hts _ uw_X2_readHare_f36) (fun _ h9 => h9) rfl dX2_readHare_30 ?_
      refine lv_iconst (v := 1) hx hb dX2_readHare_33 (by decide) ?_
      refine lv_isub hx hb dX2_readHare_34 ?_
      have hPc := hP.sub (ws' := [(a1, .inr (8, [.ref a1_bytes, .int v1_length, .int v1_at, .int v1_token, z1_filled, .int v1_fault, .int v1_faultPlace])), (a1_bytes, .inl (cyB, 600, .inl f1_bytes))]) [1, 2] rfl
      have hDc := hD.sub (ws' := [(a1, .inr (8, [.ref a1_bytes, .int v1_length, .int v1_at, .int v1_token, z1_filled, .int v1_fault, .int v1_faultPlace])), (a1_bytes, .inl (cyB, 600, .inl f1_bytes))]) [1, 2] (by decide) rfl
      have hFc := va_free (wc := [(a1, .inr (8, [.ref a1_bytes, .int v1_length, .int v1_at, .int v1_token, z1_filled, .int v1_fault, .int v1_faultPlace])), (a1_bytes, .inl (cyB, 600, .inl f1_bytes))]) hD hS hA [1, 2] rfl
      refine va_calli (va_runV (As := [.int 0, .int (v0_forms - 1)]) (rest := [.int v0_hares, .ref a0_seat]) ⟨hx, hb, hml, hown, hts⟩ (ck_X8_number l dC dI cyB cyI cyJ cyP a1 a1_bytes H.size (z1_filled) v1_length f1_bytes v1_at v1_fault v1_faultPlace v1_token 0 (v0_forms - 1) hw) (cwV 2 hts gX2_readHare_X8_number rfl rfl rfl (by decide +kernel) ⟨Nat.le_of_ble_eq_true rfl, Nat.le_of_ble_eq_true rfl⟩) ⟨cPc_blind, va_recv hK hPc (ci := 8) (q0 := 0) rfl rfl, cPc_pre hPc hK hDc hNw⟩ rfl rfl hl.1 rfl (lv_room (Nat.le_of_ble_eq_true rfl)) dX2_readHare_35 ⟨Nat.le_of_ble_eq_true rfl, Nat.le_of_ble_eq_true rfl⟩) hS (fun q _ h => hFc q h) hFc (fun r7 u t H1 locs ht hvm hw hB hz1 hk1 hS => ?_)
      obtain ⟨x3, x4, x5, x6⟩ := u
      obtain ⟨hP1, hK1, hD1⟩ := hB
      rw [ht] at hP1
      obtain ⟨hP, hD⟩ := va_join (wr := [(a0, .inr (2, [z0_formX, z0_formY, z0_foxX, z0_foxY, .ref a0_seat, .ref a0_strength, z0_debts, z0_near, .int v0_forms, .int v0_hares, z0_foxes, z0_safe])), (a0_seat, .inl (cyI, 6, .inl f0_seat)), (a0_strength, .inl (cyI, 6, .inl f0_strength))]) (w1 := [(a1, .inr (8, [.ref a1_bytes, .int v1_length, .int x3, .int x6, z1_filled, .int x4, .int x5])), (a1_bytes, .inl (cyB, 600, .inl f1_bytes))]) hP hD [1, 2] [0, 3, 4] rfl rfl (by decide) (by decide) hk1 hFc hP1 hD1
      have hP : va_P (dC, dI) vwCl [(a0, .inr (2, [z0_formX, z0_formY, z0_foxX, z0_foxY, .ref a0_seat, .ref a0_strength, z0_debts, z0_near, .int v0_forms, .int v0_hares, z0_foxes, z0_safe])), (a1, .inr (8, [.ref a1_bytes, .int v1_length, .int x3, .int x6, z1_filled, .int x4, .int x5])), (a1_bytes, .inl (cyB, 600, .inl f1_bytes)), (a0_seat, .inl (cyI, 6, .inl f0_seat)), (a0_strength, .inl (cyI, 6, .inl f0_strength))] H1 := hP.sub [0, 3, 4, 1, 2] rfl
      have hD : va_D A [(a0, .inr (2, [z0_formX, z0_formY, z0_foxX, z0_foxY, .ref a0_seat, .ref a0_strength, z0_debts, z0_near, .int v0_forms, .int v0_hares, z0_foxes, z0_safe])), (a1, .inr (8, [.ref a1_bytes, .int v1_length, .int x3, .int x6, z1_filled, .int x4, .int x5])), (a1_bytes, .inl (cyB, 600, .inl f1_bytes)), (a0_seat, .inl (cyI, 6, .inl f0_seat)), (a0_strength, .inl (cyI, 6, .inl f0_strength))] := hD.sub [0, 3, 4, 1, 2] (by decide) rfl
      generalize H1 = H at hP hS ⊢
      obtain ⟨hi9, hw⟩ := hw
      refine va_iast hx hb hK hP hD hS 3 1 rfl rfl hi9 dX2_readHare_38 (fun H locs hP hD hS => ?_)
      obtain ⟨f8, ef8⟩ : ∃ y : Nat → Int32, y = upd f0_seat v0_hares.toNatClampNeg r7 := ⟨_, rfl⟩
      have hw := hw f8 ef8
      have hP : va_P (dC, dI) vwCl [(a0, .inr (2, [z0_formX, z0_formY, z0_foxX, z0_foxY, .ref a0_seat, .ref a0_strength, z0_debts, z0_near, .int v0_forms, .int v0_hares, z0_foxes, z0_safe])), (a1, .inr (8, [.ref a1_bytes, .int v1_length, .int x3, .int x6, z1_filled, .int x4, .int x5])), (a1_bytes, .inl (cyB, 600, .inl f1_bytes)), (a0_seat, .inl (cyI, 6, .inl f8)), (a0_strength, .inl (cyI, 6, .inl f0_strength))] H := by rw [ef8]; exact hP
      have hD : va_D A [(a0, .inr (2, [z0_formX, z0_formY, z0_foxX, z0_foxY, .ref a0_seat, .ref a0_strength, z0_debts, z0_near, .int v0_forms, .int v0_hares, z0_foxes, z0_safe])), (a1, .inr (8, [.ref a1_bytes, .int v1_length, .int x3, .int x6, z1_filled, .int x4, .int x5])), (a1_bytes, .inl (cyB, 600, .inl f1_bytes)), (a0_seat, .inl (cyI, 6, .inl f8)), (a0_strength, .inl (cyI, 6, .inl f0_strength))] := by rw [ef8]; exact hD
      refine lv_aload_n hx hb dX2_readHare_39 rfl (lv_at hl 0 rfl) ?_
      refine va_get (D := (dC, dI)) (ci := 2) (v := .ref a0_strength) (C := RX2) (T := TX2) (N := 12) hx hb hts ui_X2_readHare_X2 hown hK hP 0 rfl rfl 5 (by decide) (hts _ uw_X2_readHare_f27) (fun _ h9 => h9) rfl dX2_readHare_40 ?_
      refine lv_aload_n hx hb dX2_readHare_43 rfl (lv_at hl 0 rfl) ?_
      refine va_get (D := (dC, dI)) (ci := 2) (v := .int v0_hares) (C := RX2) (T := TX2) (N := 12) hx hb hts ui_X2_readHare_X2 hown hK hP 0 rfl rfl 9 (by decide) (hts _ uw_X2_readHare_f40) (fun _ h9 => h9) rfl dX2_readHare_44 ?_
      refine lv_aload_n hx hb dX2_readHare_47 rfl (lv_at hl 1 rfl) ?_
      refine lv_iconst (v := 1) hx hb dX2_readHare_48 (by decide) ?_
      refine lv_bipush (v := 9) hx hb dX2_readHare_49 (by decide) ?_
      have hPc := hP.sub (ws' := [(a1, .inr (8, [.ref a1_bytes, .int v1_length, .int x3, .int x6, z1_filled, .int x4, .int x5])), (a1_bytes, .inl (cyB, 600, .inl f1_bytes))]) [1, 2] rfl
      have hDc := hD.sub (ws' := [(a1, .inr (8, [.ref a1_bytes, .int v1_length, .int x3, .int x6, z1_filled, .int x4, .int x5])), (a1_bytes, .inl (cyB, 600, .inl f1_bytes))]) [1, 2] (by decide) rfl
      have hFc := va_free (wc := [(a1, .inr (8, [.ref a1_bytes, .int v1_length, .int x3, .int x6, z1_filled, .int x4, .int x5])), (a1_bytes, .inl (cyB, 600, .inl f1_bytes))]) hD hS hA [1, 2] rfl
      refine va_calli (va_runV (As := [.int 1, .int 9]) (rest := [.int v0_hares, .ref a0_strength]) ⟨hx, hb, hml, hown, hts⟩ (ck_X8_number l dC dI cyB cyI cyJ cyP a1 a1_bytes H.size (z1_filled) v1_length f1_bytes x3 x4 x5 x6 1 9 hw) (cwV 2 hts gX2_readHare_X8_number rfl rfl rfl (by decide +kernel) ⟨Nat.le_of_ble_eq_true rfl, Nat.le_of_ble_eq_true rfl⟩) ⟨cPc_blind, va_recv hK hPc (ci := 8) (q0 := 0) rfl rfl, cPc_pre hPc hK hDc hNw⟩ rfl rfl hl.1 rfl (lv_room (Nat.le_of_ble_eq_true rfl)) dX2_readHare_51 ⟨Nat.le_of_ble_eq_true rfl, Nat.le_of_ble_eq_true rfl⟩) hS (fun q _ h => hFc q h) hFc (fun r13 u t H1 locs ht hvm hw hB hz1 hk1 hS => ?_)
      obtain ⟨x9, x10, x11, x12⟩ := u
      obtain ⟨hP1, hK1, hD1⟩ := hB
      rw [ht] at hP1
      obtain ⟨hP, hD⟩ := va_join (wr := [(a0, .inr (2, [z0_formX, z0_formY, z0_foxX, z0_foxY, .ref a0_seat, .ref a0_strength, z0_debts, z0_near, .int v0_forms, .int v0_hares, z0_foxes, z0_safe])), (a0_seat, .inl (cyI, 6, .inl f8)), (a0_strength, .inl (cyI, 6, .inl f0_strength))]) (w1 := [(a1, .inr (8, [.ref a1_bytes, .int v1_length, .int x9, .int x12, z1_filled, .int x10, .int x11])), (a1_bytes, .inl (cyB, 600, .inl f1_bytes))]) hP hD [1, 2] [0, 3, 4] rfl rfl (by decide) (by decide) hk1 hFc hP1 hD1
      have hP : va_P (dC, dI) vwCl [(a0, .inr (2, [z0_formX, z0_formY, z0_foxX, z0_foxY, .ref a0_seat, .ref a0_strength, z0_debts, z0_near, .int v0_forms, .int v0_hares, z0_foxes, z0_safe])), (a1, .inr (8, [.ref a1_bytes, .int v1_length, .int x9, .int x12, z1_filled, .int x10, .int x11])), (a1_bytes, .inl (cyB, 600, .inl f1_bytes)), (a0_seat, .inl (cyI, 6, .inl f8)), (a0_strength, .inl (cyI, 6, .inl f0_strength))] H1 := hP.sub [0, 3, 4, 1, 2] rfl
      have hD : va_D A [(a0, .inr (2, [z0_formX, z0_formY, z0_foxX, z0_foxY, .ref a0_seat, .ref a0_strength, z0_debts, z0_near, .int v0_forms, .int v0_hares, z0_foxes, z0_safe])), (a1, .inr (8, [.ref a1_bytes, .int v1_length, .int x9, .int x12, z1_filled, .int x10, .int x11])), (a1_bytes, .inl (cyB, 600, .inl f1_bytes)), (a0_seat, .inl (cyI, 6, .inl f8)), (a0_strength, .inl (cyI, 6, .inl f0_strength))] := hD.sub [0, 3, 4, 1, 2] (by decide) rfl
      generalize H1 = H at hP hS ⊢
      obtain ⟨hi9, hw⟩ := hw
      refine va_iast hx hb hK hP hD hS 4 1 rfl rfl hi9 dX2_readHare_54 (fun H locs hP hD hS => ?_)
      obtain ⟨f14, ef14⟩ : ∃ y : Nat → Int32, y = upd f0_strength v0_hares.toNatClampNeg r13 := ⟨_, rfl⟩
      have hw := hw f14 ef14
      have hP : va_P (dC, dI) vwCl [(a0, .inr (2, [z0_formX, z0_formY, z0_foxX, z0_foxY, .ref a0_seat, .ref a0_strength, z0_debts, z0_near, .int v0_forms, .int v0_hares, z0_foxes, z0_safe])), (a1, .inr (8, [.ref a1_bytes, .int v1_length, .int x9, .int x12, z1_filled, .int x10, .int x11])), (a1_bytes, .inl (cyB, 600, .inl f1_bytes)), (a0_seat, .inl (cyI, 6, .inl f8)), (a0_strength, .inl (cyI, 6, .inl f14))] H := by rw [ef14]; exact hP
      have hD : va_D A [(a0, .inr (2, [z0_formX, z0_formY, z0_foxX, z0_foxY, .ref a0_seat, .ref a0_strength, z0_debts, z0_near, .int v0_forms, .int v0_hares, z0_foxes, z0_safe])), (a1, .inr (8, [.ref a1_bytes, .int v1_length, .int x9, .int x12, z1_filled, .int x10, .int x11])), (a1_bytes, .inl (cyB, 600, .inl f1_bytes)), (a0_seat, .inl (cyI, 6, .inl f8)), (a0_strength, .inl (cyI, 6, .inl f14))] := by rw [ef14]; exact hD
      refine lv_aload_n hx hb dX2_readHare_55 rfl (lv_at hl 1 rfl) ?_
      refine lv_bipush (v := 59) hx hb dX2_readHare_56 (by decide) ?_
      have hPc := hP.sub (ws' := [(a1, .inr (8, [.ref a1_bytes, .int v1_length, .int x9, .int x12, z1_filled, .int x10, .int x11])), (a1_bytes, .inl (cyB, 600, .inl f1_bytes))]) [1, 2] rfl
      have hDc := hD.sub (ws' := [(a1, .inr (8, [.ref a1_bytes, .int v1_length, .int x9, .int x12, z1_filled, .int x10, .int x11])), (a1_bytes, .inl (cyB, 600, .inl f1_bytes))]) [1, 2] (by decide) rfl
      have hFc := va_free (wc := [(a1, .inr (8, [.ref a1_bytes, .int v1_length, .int x9, .int x12, z1_filled, .int x10, .int x11])), (a1_bytes, .inl (cyB, 600, .inl f1_bytes))]) hD hS hA [1, 2] rfl
      refine va_callv (va_runV (As := [.int 59]) (rest := []) ⟨hx, hb, hml, hown, hts⟩ (ck_X8_needs l dC dI cyB cyI cyJ cyP a1 a1_bytes H.size (z1_filled) v1_length f1_bytes x9 x12 x10 x11 59 hw) (cwV 1 hts gX2_readHare_X8_needs rfl rfl rfl (by decide +kernel) ⟨Nat.le_of_ble_eq_true rfl, Nat.le_of_ble_eq_true rfl⟩) ⟨cPc_blind, va_recv hK hPc (ci := 8) (q0 := 0) rfl rfl, cPc_pre hPc hK hDc hNw⟩ rfl rfl hl.1 rfl (lv_room (Nat.le_of_ble_eq_true rfl)) dX2_readHare_58 ⟨Nat.le_of_ble_eq_true rfl, Nat.le_of_ble_eq_true rfl⟩) hS (fun q _ h => hFc q h) hFc (fun u t H1 locs ht hvm hw hB hz1 hk1 hS => ?_)
      obtain ⟨x15, x16, x17, x18⟩ := u
      obtain ⟨hP1, hK1, hD1⟩ := hB
      rw [ht] at hP1
      obtain ⟨hP, hD⟩ := va_join (wr := [(a0, .inr (2, [z0_formX, z0_formY, z0_foxX, z0_foxY, .ref a0_seat, .ref a0_strength, z0_debts, z0_near, .int v0_forms, .int v0_hares, z0_foxes, z0_safe])), (a0_seat, .inl (cyI, 6, .inl f8)), (a0_strength, .inl (cyI, 6, .inl f14))]) (w1 := [(a1, .inr (8, [.ref a1_bytes, .int v1_length, .int x15, .int x16, z1_filled, .int x17, .int x18])), (a1_bytes, .inl (cyB, 600, .inl f1_bytes))]) hP hD [1, 2] [0, 3, 4] rfl rfl (by decide) (by decide) hk1 hFc hP1 hD1
      have hP : va_P (dC, dI) vwCl [(a0, .inr (2, [z0_formX, z0_formY, z0_foxX, z0_foxY, .ref a0_seat, .ref a0_strength, z0_debts, z0_near, .int v0_forms, .int v0_hares, z0_foxes, z0_safe])), (a1, .inr (8, [.ref a1_bytes, .int v1_length, .int x15, .int x16, z1_filled, .int x17, .int x18])), (a1_bytes, .inl (cyB, 600, .inl f1_bytes)), (a0_seat, .inl (cyI, 6, .inl f8)), (a0_strength, .inl (cyI, 6, .inl f14))] H1 := hP.sub [0, 3, 4, 1, 2] rfl
      have hD : va_D A [(a0, .inr (2, [z0_formX, z0_formY, z0_foxX, z0_foxY, .ref a0_seat, .ref a0_strength, z0_debts, z0_near, .int v0_forms, .int v0_hares, z0_foxes, z0_safe])), (a1, .inr (8, [.ref a1_bytes, .int v1_length, .int x15, .int x16, z1_filled, .int x17, .int x18])), (a1_bytes, .inl (cyB, 600, .inl f1_bytes)), (a0_seat, .inl (cyI, 6, .inl f8)), (a0_strength, .inl (cyI, 6, .inl f14))] := hD.sub [0, 3, 4, 1, 2] (by decide) rfl
      generalize H1 = H at hP hS ⊢
      refine lv_aload_n hx hb dX2_readHare_61 rfl (lv_at hl 0 rfl) ?_
      refine lv_dup hx hb dX2_readHare_62 rfl ?_
      refine va_get (D := (dC, dI)) (ci := 2) (v := .int v0_hares) (C := RX2) (T := TX2) (N := 12) hx hb hts ui_X2_readHare_X2 hown hK hP 0 rfl rfl 9 (by decide) (hts _ uw_X2_readHare_f40) (fun _ h9 => h9) rfl dX2_readHare_63 ?_
      refine lv_iconst (v := 1) hx hb dX2_readHare_66 (by decide) ?_
      refine lv_iadd hx hb dX2_readHare_67 ?_
      refine lv_topi (fun x19 ex19 => ?_)
      have hw := hw x19 ex19
      refine va_put (D := (dC, dI)) (ci := 2) (v := .int x19) (ty := .int) (C := RX2) (T := TX2) (N := 12) hx hb hts ui_X2_readHare_X2 tyX2 tyX2_ok nmX2 hown hK hP hD hS 0 rfl rfl 9 (by decide) (hts _ uw_X2_readHare_f40) (fun _ h9 => h9) rfl (by decide +kernel) rfl rfl (Nat.le_of_ble_eq_true rfl) dX2_readHare_68 (fun H locs hP hD hS => ?_)
      have hP : va_P (dC, dI) vwCl [(a0, .inr (2, [z0_formX, z0_formY, z0_foxX, z0_foxY, .ref a0_seat, .ref a0_strength, z0_debts, z0_near, .int v0_forms, .int x19, z0_foxes, z0_safe])), (a1, .inr (8, [.ref a1_bytes, .int v1_length, .int x15, .int x16, z1_filled, .int x17, .int x18])), (a1_bytes, .inl (cyB, 600, .inl f1_bytes)), (a0_seat, .inl (cyI, 6, .inl f8)), (a0_strength, .inl (cyI, 6, .inl f14))] H := hP
      have hD : va_D A [(a0, .inr (2, [z0_formX, z0_formY, z0_foxX, z0_foxY, .ref a0_seat, .ref a0_strength, z0_debts, z0_near, .int v0_forms, .int x19, z0_foxes, z0_safe])), (a1, .inr (8, [.ref a1_bytes, .int v1_length, .int x15, .int x16, z1_filled, .int x17, .int x18])), (a1_bytes, .inl (cyB, 600, .inl f1_bytes)), (a0_seat, .inl (cyI, 6, .inl f8)), (a0_strength, .inl (cyI, 6, .inl f14))] := hD
      exact ((W.vret hx hb hr (fun t ht hW => ⟨⟨(x15, x17, x18, x16, f8, f14, x19), rfl, hw, by rw [ht]; exact hP, va_K.moved hW.alike hK, hD⟩, hS.F ht⟩) hS.2.2 dX2_readHare_71))
    · have hw := hw.2 c2
      exact kb_X2_readHare_13 dC dI cyB cyI cyJ cyP a0 a1 a0_seat a1_bytes a0_strength z0_formX z0_formY z0_foxX z0_foxY z0_debts z0_near z0_foxes z0_safe z1_filled v0_forms v1_length f1_bytes Q  C0 _ _ _ v1_at v1_fault v1_faultPlace v1_token f0_seat f0_strength v0_hares hP hD hS (lv_sub hl [1] rfl) hw
theorem ui_X2_readFox_X2 : ∀ w ∈ u_ws RX2 TX2 12, w ∈ wsX2_readFox := by decide +kernel
theorem uw_X2_readFox_f18 : (.fieldLink RX2 18 "MarchHares$Down" "foxX" "[I" : Cond) ∈ wsX2_readFox := by decide +kernel
theorem uw_X2_readFox_f21 : (.fieldLink RX2 21 "MarchHares$Down" "foxY" "[I" : Cond) ∈ wsX2_readFox := by decide +kernel
theorem uw_X2_readFox_f43 : (.fieldLink RX2 43 "MarchHares$Down" "foxes" "I" : Cond) ∈ wsX2_readFox := by decide +kernel
def wb_X2_readFox_12 (v1_length : Int32) (f1_bytes : Nat → Int32) (Q : Int32 → Int32 → Int32 → Int32 → (Nat → Int32) → (Nat → Int32) → Int32 → Prop)  (v1_at : Int32) (v1_fault : Int32) (v1_faultPlace : Int32) (v1_token : Int32) (f0_foxX : Nat → Int32) (f0_foxY : Nat → Int32) (v0_foxes : Int32) : Prop := wq_X8_blameToken v1_token v1_fault v1_faultPlace 3 (fun x20 x21 => (Q v1_at x20 x21 v1_token f0_foxX f0_foxY v0_foxes))
set_option maxHeartbeats 4000000 in
set_option maxRecDepth 100000 in
theorem kb_X2_readFox_12 {p : Program} {l : Launch} {e : Env} {s : State} {m : MethodId} {args : Array Value} {below : List Frame} {meth : Method} {c : Code} {A : Nat → Prop} (dC : Nat → ClassId) (dI : Nat → Nat → Nat) (cyB cyI cyJ cyP : ClassId) (a0 a1 a0_foxX a1_bytes a0_foxY : Nat) (z0_formX : Value) (z0_formY : Value) (z0_seat : Value) (z0_strength : Value) (z0_debts : Value) (z0_near : Value) (z0_forms : Value) (z0_hares : Value) (z0_safe : Value) (z1_filled : Value) (v1_length : Int32) (f1_bytes : Nat → Int32) (Q : Int32 → Int32 → Int32 → Int32 → (Nat → Int32) → (Nat → Int32) → Int32 → Prop)  (C0 : cfx p s m args meth c cX2_readFox none wsX2_readFox RX2 3 A (dC, dI) (kT cyB cyI cyJ cyP)) : ∀ (H : Heap) (locs : List Loc) (ls : Array Slot) (v1_at : Int32) (v1_fault : Int32) (v1_faultPlace : Int32) (v1_token : Int32) (f0_foxX : Nat → Int32) (f0_foxY : Nat → Int32) (v0_foxes : Int32), va_P (dC, dI) vwCl [(a0, .inr (2, [z0_formX, z0_formY, .ref a0_foxX, .ref a0_foxY, z0_seat, z0_strength, z0_debts, z0_near, z0_forms, z0_hares, .int v0_foxes, z0_safe])), (a1, .inr (8, [.ref a1_bytes, .int v1_length, .int v1_at, .int v1_token, z1_filled, .int v1_fault, .int v1_faultPlace])), (a1_bytes, .inl (cyB, 600, .inl f1_bytes)), (a0_foxX, .inl (cyI, 4, .inl f0_foxX)), (a0_foxY, .inl (cyI, 4, .inl f0_foxY))] H → va_D A [(a0, .inr (2, [z0_formX, z0_formY, .ref a0_foxX, .ref a0_foxY, z0_seat, z0_strength, z0_debts, z0_near, z0_forms, z0_hares, .int v0_foxes, z0_safe])), (a1, .inr (8, [.ref a1_bytes, .int v1_length, .int v1_at, .int v1_token, z1_filled, .int v1_fault, .int v1_faultPlace])), (a1_bytes, .inl (cyB, 600, .inl f1_bytes)), (a0_foxX, .inl (cyI, 4, .inl f0_foxX)), (a0_foxY, .inl (cyI, 4, .inl f0_foxY))] → va_S A s.heap H locs → lv_has ls 3 [(1, .ref a1)] → wb_X2_readFox_12 v1_length f1_bytes Q  v1_at v1_fault v1_faultPlace v1_token f0_foxX f0_foxY v0_foxes → W p l e (headSpec wsX2_readFox ({ frames := 3, cells := 0, slots := 0, locals := 63 })).room s m args below meth c H locs 0 0 (MQ below (va_Qv (fun (u : Int32 × Int32 × Int32 × Int32 × (Nat → Int32) × (Nat → Int32) × Int32) => Q u.1 u.2.1 u.2.2.1 u.2.2.2.1 u.2.2.2.2.1 u.2.2.2.2.2.1 u.2.2.2.2.2.2) (cB (dC, dI) (kT cyB cyI cyJ cyP) A (fun u : Int32 × Int32 × Int32 × Int32 × (Nat → Int32) × (Nat → Int32) × Int32 => ([(a0, .inr (2, [z0_formX, z0_formY, .ref a0_foxX, .ref a0_foxY, z0_seat, z0_strength, z0_debts, z0_near, z0_forms, z0_hares, .int u.2.2.2.2.2.2, z0_safe])), (a1, .inr (8, [.ref a1_bytes, .int v1_length, .int u.1, .int u.2.2.2.1, z1_filled, .int u.2.1, .int u.2.2.1])), (a1_bytes, .inl (cyB, 600, .inl f1_bytes)), (a0_foxX, .inl (cyI, 4, .inl u.2.2.2.2.1)), (a0_foxY, .inl (cyI, 4, .inl u.2.2.2.2.2.1))] : va_W))) A) args s 0 0 A) (F0 m 12 ls []) := by
  obtain ⟨hx, hb, hr, hts, hown, hlocks, hml, hA, hK, hNw⟩ := id C0
  intro H locs ls v1_at v1_fault v1_faultPlace v1_token f0_foxX f0_foxY v0_foxes hP hD hS hl hw
  refine lv_aload_n hx hb dX2_readFox_12 rfl (lv_at hl 0 rfl) ?_
  refine lv_iconst (v := 3) hx hb dX2_readFox_13 (by decide) ?_
  have hPc := hP.sub (ws' := [(a1, .inr (8, [.ref a1_bytes, .int v1_length, .int v1_at, .int v1_token, z1_filled, .int v1_fault, .int v1_faultPlace]))]) [1] rfl
  have hDc := hD.sub (ws' := [(a1, .inr (8, [.ref a1_bytes, .int v1_length, .int v1_at, .int v1_token, z1_filled, .int v1_fault, .int v1_faultPlace]))]) [1] (by decide) rfl
  have hFc := va_free (wc := [(a1, .inr (8, [.ref a1_bytes, .int v1_length, .int v1_at, .int v1_token, z1_filled, .int v1_fault, .int v1_faultPlace]))]) hD hS hA [1] rfl
  refine va_callv (va_runV (As := [.int 3]) (rest := []) ⟨hx, hb, hml, hown, hts⟩ (ck_X8_blameToken l dC dI cyB cyI cyJ cyP a1 H.size (.ref a1_bytes) (.int v1_length) (.int v1_at) (z1_filled) v1_token v1_fault v1_faultPlace 3 hw) (cwV 1 hts gX2_readFox_X8_blameToken rfl rfl rfl (by decide +kernel) ⟨Nat.le_of_ble_eq_true rfl, Nat.le_of_ble_eq_true rfl⟩) ⟨cPc_blind, va_recv hK hPc (ci := 8) (q0 := 0) rfl rfl, cPc_pre hPc hK hDc hNw⟩ rfl rfl hl.1 rfl (lv_room (Nat.le_of_ble_eq_true rfl)) dX2_readFox_14 ⟨Nat.le_of_ble_eq_true rfl, Nat.le_of_ble_eq_true rfl⟩) hS (fun q _ h => hFc q h) hFc (fun u t H1 locs ht hvm hw hB hz1 hk1 hS => ?_)
  obtain ⟨x20, x21⟩ := u
  obtain ⟨hP1, hK1, hD1⟩ := hB
  rw [ht] at hP1
  obtain ⟨hP, hD⟩ := va_join (wr := [(a0, .inr (2, [z0_formX, z0_formY, .ref a0_foxX, .ref a0_foxY, z0_seat, z0_strength, z0_debts, z0_near, z0_forms, z0_hares, .int v0_foxes, z0_safe])), (a1_bytes, .inl (cyB, 600, .inl f1_bytes)), (a0_foxX, .inl (cyI, 4, .inl f0_foxX)), (a0_foxY, .inl (cyI, 4, .inl f0_foxY))]) (w1 := [(a1, .inr (8, [.ref a1_bytes, .int v1_length, .int v1_at, .int v1_token, z1_filled, .int x20, .int x21]))]) hP hD [1] [0, 2, 3, 4] rfl rfl (by decide) (by decide) hk1 hFc hP1 hD1
  have hP : va_P (dC, dI) vwCl [(a0, .inr (2, [z0_formX, z0_formY, .ref a0_foxX, .ref a0_foxY, z0_seat, z0_strength, z0_debts, z0_near, z0_forms, z0_hares, .int v0_foxes, z0_safe])), (a1, .inr (8, [.ref a1_bytes, .int v1_length, .int v1_at, .int v1_token, z1_filled, .int x20, .int x21])), (a1_bytes, .inl (cyB, 600, .inl f1_bytes)), (a0_foxX, .inl (cyI, 4, .inl f0_foxX)), (a0_foxY, .inl (cyI, 4, .inl f0_foxY))] H1 := hP.sub [0, 4, 1, 2, 3] rfl
  have hD : va_D A [(a0, .inr (2, [z0_formX, z0_formY, .ref a0_foxX, .ref a0_foxY, z0_seat, z0_strength, z0_debts, z0_near, z0_forms, z0_hares, .int v0_foxes, z0_safe])), (a1, .inr (8, [.ref a1_bytes, .int v1_length, .int v1_at, .int v1_token, z1_filled, .int x20, .int x21])), (a1_bytes, .inl (cyB, 600, .inl f1_bytes)), (a0_foxX, .inl (cyI, 4, .inl f0_foxX)), (a0_foxY, .inl (cyI, 4, .inl f0_foxY))] := hD.sub [0, 4, 1, 2, 3] (by decide) rfl
  generalize H1 = H at hP hS ⊢
  exact ((W.vret hx hb hr (fun t ht hW => ⟨⟨(v1_at, x20, x21, v1_token, f0_foxX, f0_foxY, v0_foxes), rfl, hw, by rw [ht]; exact hP, va_K.moved hW.alike hK, hD⟩, hS.F ht⟩) hS.2.2 dX2_readFox_17))
def wq_X2_readFox (v1_length : Int32) (f1_bytes : Nat → Int32) (v1_at : Int32) (v1_fault : Int32) (v1_faultPlace : Int32) (v1_token : Int32) (f0_foxX : Nat → Int32) (f0_foxY : Nat → Int32) (v0_foxes : Int32) (p2 : Int32) (Q : Int32 → Int32 → Int32 → Int32 → (Nat → Int32) → (Nat → Int32) → Int32 → Prop) : Prop := ((¬ p2 = 0 → (wb_X2_readFox_12 v1_length f1_bytes Q  v1_at v1_fault v1_faultPlace v1_token f0_foxX f0_foxY v0_foxes)) ∧ (p2 = 0 → ((v0_foxes < 4 → wq_X8_number v1_length f1_bytes v1_at v1_fault v1_faultPlace v1_token 0 30 (fun r7 x3 x4 x5 x6 => vp_in v0_foxes 4 ∧ ∀ f8 : Nat → Int32, f8 = upd f0_foxX v0_foxes.toNatClampNeg r7 → wq_X8_number v1_length f1_bytes x3 x4 x5 x6 0 30 (fun r13 x9 x10 x11 x12 => vp_in v0_foxes 4 ∧ ∀ f14 : Nat → Int32, f14 = upd f0_foxY v0_foxes.toNatClampNeg r13 → wq_X8_needs v1_length f1_bytes x9 x12 x10 x11 59 (fun x15 x16 x17 x18 => ∀ x19 : Int32, x19 = v0_foxes + 1 → (Q x15 x17 x18 x16 f8 f14 x19))))) ∧ (¬ v0_foxes < 4 → (wb_X2_readFox_12 v1_length f1_bytes Q  v1_at v1_fault v1_faultPlace v1_token f0_foxX f0_foxY v0_foxes)))))
set_option maxHeartbeats 4000000 in
set_option maxRecDepth 100000 in
theorem ck_X2_readFox (l : Launch) (dC : Nat → ClassId) (dI : Nat → Nat → Nat) (cyB cyI cyJ cyP : ClassId) (a0 a1 a0_foxX a1_bytes a0_foxY : Nat) (sz : Nat) (z0_formX : Value) (z0_formY : Value) (z0_seat : Value) (z0_strength : Value) (z0_debts : Value) (z0_near : Value) (z0_forms : Value) (z0_hares : Value) (z0_safe : Value) (z1_filled : Value) (v1_length : Int32) (f1_bytes : Nat → Int32) (v1_at : Int32) (v1_fault : Int32) (v1_faultPlace : Int32) (v1_token : Int32) (f0_foxX : Nat → Int32) (f0_foxY : Nat → Int32) (v0_foxes : Int32) (p2 : Int32) {Q : Int32 → Int32 → Int32 → Int32 → (Nat → Int32) → (Nat → Int32) → Int32 → Prop} (hw : wq_X2_readFox v1_length f1_bytes v1_at v1_fault v1_faultPlace v1_token f0_foxX f0_foxY v0_foxes p2 Q) : Met l yX2_readFox wsX2_readFox ({ frames := 3, cells := 0, slots := 0, locals := 63 }) (va_Pc [.ref a0, .ref a1, .int p2] (cPc (dC, dI) (kT cyB cyI cyJ cyP) [(a0, .inr (2, [z0_formX, z0_formY, .ref a0_foxX, .ref a0_foxY, z0_seat, z0_strength, z0_debts, z0_near, z0_forms, z0_hares, .int v0_foxes, z0_safe])), (a1, .inr (8, [.ref a1_bytes, .int v1_length, .int v1_at, .int v1_token, z1_filled, .int v1_fault, .int v1_faultPlace])), (a1_bytes, .inl (cyB, 600, .inl f1_bytes)), (a0_foxX, .inl (cyI, 4, .inl f0_foxX)), (a0_foxY, .inl (cyI, 4, .inl f0_foxY))] sz)) (va_Qv (fun (u : Int32 × Int32 × Int32 × Int32 × (Nat → Int32) × (Nat → Int32) × Int32) => Q u.1 u.2.1 u.2.2.1 u.2.2.2.1 u.2.2.2.2.1 u.2.2.2.2.2.1 u.2.2.2.2.2.2) (cB (dC, dI) (kT cyB cyI cyJ cyP) (va_A [(a0, .inr (2, [z0_formX, z0_formY, .ref a0_foxX, .ref a0_foxY, z0_seat, z0_strength, z0_debts, z0_near, z0_forms, z0_hares, .int v0_foxes, z0_safe])), (a1, .inr (8, [.ref a1_bytes, .int v1_length, .int v1_at, .int v1_token, z1_filled, .int v1_fault, .int v1_faultPlace])), (a1_bytes, .inl (cyB, 600, .inl f1_bytes)), (a0_foxX, .inl (cyI, 4, .inl f0_foxX)), (a0_foxY, .inl (cyI, 4, .inl f0_foxY))] sz) (fun u : Int32 × Int32 × Int32 × Int32 × (Nat → Int32) × (Nat → Int32) × Int32 => ([(a0, .inr (2, [z0_formX, z0_formY, .ref a0_foxX, .ref a0_foxY, z0_seat, z0_strength, z0_debts, z0_near, z0_forms, z0_hares, .int u.2.2.2.2.2.2, z0_safe])), (a1, .inr (8, [.ref a1_bytes, .int v1_length, .int u.1, .int u.2.2.2.1, z1_filled, .int u.2.1, .int u.2.2.1])), (a1_bytes, .inl (cyB, 600, .inl f1_bytes)), (a0_foxX, .inl (cyI, 4, .inl u.2.2.2.2.1)), (a0_foxY, .inl (cyI, 4, .inl u.2.2.2.2.2.1))] : va_W))) (va_A [(a0, .inr (2, [z0_formX, z0_formY, .ref a0_foxX, .ref a0_foxY, z0_seat, z0_strength, z0_debts, z0_near, z0_forms, z0_hares, .int v0_foxes, z0_safe])), (a1, .inr (8, [.ref a1_bytes, .int v1_length, .int v1_at, .int v1_token, z1_filled, .int v1_fault, .int v1_faultPlace])), (a1_bytes, .inl (cyB, 600, .inl f1_bytes)), (a0_foxX, .inl (cyI, 4, .inl f0_foxX)), (a0_foxY, .inl (cyI, 4, .inl f0_foxY))] sz)) 0 0 (va_A [(a0, .inr (2, [z0_formX, z0_formY, .ref a0_foxX, .ref a0_foxY, z0_seat, z0_strength, z0_debts, z0_near, z0_forms, z0_hares, .int v0_foxes, z0_safe])), (a1, .inr (8, [.ref a1_bytes, .int v1_length, .int v1_at, .int v1_token, z1_filled, .int v1_fault, .int v1_faultPlace])), (a1_bytes, .inl (cyB, 600, .inl f1_bytes)), (a0_foxX, .inl (cyI, 4, .inl f0_foxX)), (a0_foxY, .inl (cyI, 4, .inl f0_foxY))] sz) := by
  refine Met.ofW (cc := cX2_readFox) (maxL := 3) (ret := none) (by decide) rfl ?_
  intro p e s m args below meth c s₁ B hml hv
  obtain ⟨rfl, hsz, hP, hK, hD0, hNw⟩ := hv
  have hx := B.exec
  have hb := B.bytes
  have hr := B.returns
  have hts := atoms_spec (ws := wsX2_readFox) B.pre
  have hown : s.vm.findClass RX2 = some m.cls := findClass_of_methodNamed B.named
  have hlocks := B.notSynchronized
  subst hsz
  have hD := hD0.self (sz := s.heap.size)
  generalize hAe : va_A [(a0, .inr (2, [z0_formX, z0_formY, .ref a0_foxX, .ref a0_foxY, z0_seat, z0_strength, z0_debts, z0_near, z0_forms, z0_hares, .int v0_foxes, z0_safe])), (a1, .inr (8, [.ref a1_bytes, .int v1_length, .int v1_at, .int v1_token, z1_filled, .int v1_fault, .int v1_faultPlace])), (a1_bytes, .inl (cyB, 600, .inl f1_bytes)), (a0_foxX, .inl (cyI, 4, .inl f0_foxX)), (a0_foxY, .inl (cyI, 4, .inl f0_foxY))] s.heap.size = A at hD ⊢
  have hA : ∀ q : Nat, s.heap.size ≤ q → A q := fun q h => by rw [← hAe]; exact Or.inr h
  have hS : va_S A s.heap s.heap [] := va_S.rf
  have hP : va_P (dC, dI) vwCl [(a0, .inr (2, [z0_formX, z0_formY, .ref a0_foxX, .ref a0_foxY, z0_seat, z0_strength, z0_debts, z0_near, z0_forms, z0_hares, .int v0_foxes, z0_safe])), (a1, .inr (8, [.ref a1_bytes, .int v1_length, .int v1_at, .int v1_token, z1_filled, .int v1_fault, .int v1_faultPlace])), (a1_bytes, .inl (cyB, 600, .inl f1_bytes)), (a0_foxX, .inl (cyI, 4, .inl f0_foxX)), (a0_foxY, .inl (cyI, 4, .inl f0_foxY))] s.heap := hP
  have hl := lv_entry ([.ref a0, .ref a1, .int p2]) (n := 3) (Nat.le_of_ble_eq_true rfl)
  rw [lg_entry_eq]
  generalize (lg_sl ([.ref a0, .ref a1, .int p2]) ++ List.replicate (3 - (lg_sl ([.ref a0, .ref a1, .int p2])).length) Slot.unset).toArray = ls at hl ⊢
  have hl : lv_has ls 3 [(0, .ref a0), (1, .ref a1), (2, .int p2)] := hl
  have C0 : cfx p s m _ meth c cX2_readFox none wsX2_readFox RX2 3 A (dC, dI) (kT cyB cyI cyJ cyP) := ⟨hx, hb, hr, hts, hown, hlocks, hml, hA, hK, hNw⟩
  clear hAe
  obtain ⟨H, hH⟩ : ∃ H, H = s.heap := ⟨_, rfl⟩
  rw [← hH] at hP ⊢
  have hS : va_S A s.heap H [] := by rw [hH]; exact va_S.rf
  have hS := hS
  refine lv_iload_n hx hb dX2_readFox_0 rfl (lv_at hl 2 rfl) ?_
  refine lv_if_ne (tgt := 12) hx hb dX2_readFox_1 (by decide) (fun c1 => ?_) (fun c1 => ?_)
  · have hw := hw.1 c1
    exact kb_X2_readFox_12 dC dI cyB cyI cyJ cyP a0 a1 a0_foxX a1_bytes a0_foxY z0_formX z0_formY z0_seat z0_strength z0_debts z0_near z0_forms z0_hares z0_safe z1_filled v1_length f1_bytes Q  C0 _ _ _ v1_at v1_fault v1_faultPlace v1_token f0_foxX f0_foxY v0_foxes hP hD hS (lv_sub hl [1] rfl) hw
  · have hw := hw.2 c1
    refine lv_aload_n hx hb dX2_readFox_4 rfl (lv_at hl 0 rfl) ?_
    refine va_get (D := (dC, dI)) (ci := 2) (v := .int v0_foxes) (C := RX2) (T := TX2) (N := 12) hx hb hts ui_X2_readFox_X2 hown hK hP 0 rfl rfl 10 (by decide) (hts _ uw_X2_readFox_f43) (fun _ h9 => h9) rfl dX2_readFox_5 ?_
    refine lv_iconst (v := 4) hx hb dX2_readFox_8 (by decide) ?_
    refine lv_icmp_lt (tgt := 18) hx hb dX2_readFox_9 (by decide) (fun c2 => ?_) (fun c2 => ?_)
    · have hw := hw.1 c2
      refine lv_aload_n hx hb dX2_readFox_18 rfl (lv_at hl 0 rfl) ?_
      refine va_get (D := (dC, dI)) (ci := 2) (v := .ref a0_foxX) (C := RX2) (T := TX2) (N := 12) hx hb hts ui_X2_readFox_X2 hown hK hP 0 rfl rfl 2 (by decide) (hts _ uw_X2_readFox_f18) (fun _ h9 => h9) rfl dX2_readFox_19 ?_
      refine lv_aload_n hx hb dX2_readFox_22 rfl (lv_at hl 0 rfl) ?_
      refine va_get (D := (dC, dI)) (ci := 2) (v := .int v0_foxes) (C := RX2) (T := TX2) (N := 12) hx hb hts ui_X2_readFox_X2 hown hK hP 0 rfl rfl 10 (by decide) (hts _ uw_X2_readFox_f43) (fun _ h9 => h9) rfl dX2_readFox_23 ?_
      refine lv_aload_n hx hb dX2_readFox_26 rfl (lv_at hl 1 rfl) ?_
      refine lv_iconst (v := 0) hx hb dX2_readFox_27 (by decide) ?_
      refine lv_bipush (v := 30) hx hb dX2_readFox_28 (by decide) ?_
      have hPc := hP.sub (ws' := [(a1, .inr (8, [.ref a1_bytes, .int v1_length, .int v1_at, .int v1_token, z1_filled, .int v1_fault, .int v1_faultPlace])), (a1_bytes, .inl (cyB, 600, .inl f1_bytes))]) [1, 2] rfl
      have hDc := hD.sub (ws' := [(a1, .inr (8, [.ref a1_bytes, .int v1_length, .int v1_at, .int v1_token, z1_filled, .int v1_fault, .int v1_faultPlace])), (a1_bytes, .inl (cyB, 600, .inl f1_bytes))]) [1, 2] (by decide) rfl
      have hFc := va_free (wc := [(a1, .inr (8, [.ref a1_bytes, .int v1_length, .int v1_at, .int v1_token, z1_filled, .int v1_fault, .int v1_faultPlace])), (a1_bytes, .inl (cyB, 600, .inl f1_bytes))]) hD hS hA [1, 2] rfl
      refine va_calli (va_runV (As := [.int 0, .int 30]) (rest := [.int v0_foxes, .ref a0_foxX]) ⟨hx, hb, hml, hown, hts⟩ (ck_X8_number l dC dI cyB cyI cyJ cyP a1 a1_bytes H.size (z1_filled) v1_length f1_bytes v1_at v1_fault v1_faultPlace v1_token 0 30 hw) (cwV 2 hts gX2_readFox_X8_number rfl rfl rfl (by decide +kernel) ⟨Nat.le_of_ble_eq_true rfl, Nat.le_of_ble_eq_true rfl⟩) ⟨cPc_blind, va_recv hK hPc (ci := 8) (q0 := 0) rfl rfl, cPc_pre hPc hK hDc hNw⟩ rfl rfl hl.1 rfl (lv_room (Nat.le_of_ble_eq_true rfl)) dX2_readFox_30 ⟨Nat.le_of_ble_eq_true rfl, Nat.le_of_ble_eq_true rfl⟩) hS (fun q _ h => hFc q h) hFc (fun r7 u t H1 locs ht hvm hw hB hz1 hk1 hS => ?_)
      obtain ⟨x3, x4, x5, x6⟩ := u
      obtain ⟨hP1, hK1, hD1⟩ := hB
      rw [ht] at hP1
      obtain ⟨hP, hD⟩ := va_join (wr := [(a0, .inr (2, [z0_formX, z0_formY, .ref a0_foxX, .ref a0_foxY, z0_seat, z0_strength, z0_debts, z0_near, z0_forms, z0_hares, .int v0_foxes, z0_safe])), (a0_foxX, .inl (cyI, 4, .inl f0_foxX)), (a0_foxY, .inl (cyI, 4, .inl f0_foxY))]) (w1 := [(a1, .inr (8, [.ref a1_bytes, .int v1_length, .int x3, .int x6, z1_filled, .int x4, .int x5])), (a1_bytes, .inl (cyB, 600, .inl f1_bytes))]) hP hD [1, 2] [0, 3, 4] rfl rfl (by decide) (by decide) hk1 hFc hP1 hD1
      have hP : va_P (dC, dI) vwCl [(a0, .inr (2, [z0_formX, z0_formY, .ref a0_foxX, .ref a0_foxY, z0_seat, z0_strength, z0_debts, z0_near, z0_forms, z0_hares, .int v0_foxes, z0_safe])), (a1, .inr (8, [.ref a1_bytes, .int v1_length, .int x3, .int x6, z1_filled, .int x4, .int x5])), (a1_bytes, .inl (cyB, 600, .inl f1_bytes)), (a0_foxX, .inl (cyI, 4, .inl f0_foxX)), (a0_foxY, .inl (cyI, 4, .inl f0_foxY))] H1 := hP.sub [0, 3, 4, 1, 2] rfl
      have hD : va_D A [(a0, .inr (2, [z0_formX, z0_formY, .ref a0_foxX, .ref a0_foxY, z0_seat, z0_strength, z0_debts, z0_near, z0_forms, z0_hares, .int v0_foxes, z0_safe])), (a1, .inr (8, [.ref a1_bytes, .int v1_length, .int x3, .int x6, z1_filled, .int x4, .int x5])), (a1_bytes, .inl (cyB, 600, .inl f1_bytes)), (a0_foxX, .inl (cyI, 4, .inl f0_foxX)), (a0_foxY, .inl (cyI, 4, .inl f0_foxY))] := hD.sub [0, 3, 4, 1, 2] (by decide) rfl
      generalize H1 = H at hP hS ⊢
      obtain ⟨hi9, hw⟩ := hw
      refine va_iast hx hb hK hP hD hS 3 1 rfl rfl hi9 dX2_readFox_33 (fun H locs hP hD hS => ?_)
      obtain ⟨f8, ef8⟩ : ∃ y : Nat → Int32, y = upd f0_foxX v0_foxes.toNatClampNeg r7 := ⟨_, rfl⟩
      have hw := hw f8 ef8
      have hP : va_P (dC, dI) vwCl [(a0, .inr (2, [z0_formX, z0_formY, .ref a0_foxX, .ref a0_foxY, z0_seat, z0_strength, z0_debts, z0_near, z0_forms, z0_hares, .int v0_foxes, z0_safe])), (a1, .inr (8, [.ref a1_bytes, .int v1_length, .int x3, .int x6, z1_filled, .int x4, .int x5])), (a1_bytes, .inl (cyB, 600, .inl f1_bytes)), (a0_foxX, .inl (cyI, 4, .inl f8)), (a0_foxY, .inl (cyI, 4, .inl f0_foxY))] H := by rw [ef8]; exact hP
      have hD : va_D A [(a0, .inr (2, [z0_formX, z0_formY, .ref a0_foxX, .ref a0_foxY, z0_seat, z0_strength, z0_debts, z0_near, z0_forms, z0_hares, .int v0_foxes, z0_safe])), (a1, .inr (8, [.ref a1_bytes, .int v1_length, .int x3, .int x6, z1_filled, .int x4, .int x5])), (a1_bytes, .inl (cyB, 600, .inl f1_bytes)), (a0_foxX, .inl (cyI, 4, .inl f8)), (a0_foxY, .inl (cyI, 4, .inl f0_foxY))] := by rw [ef8]; exact hD
      refine lv_aload_n hx hb dX2_readFox_34 rfl (lv_at hl 0 rfl) ?_
      refine va_get (D := (dC, dI)) (ci := 2) (v := .ref a0_foxY) (C := RX2) (T := TX2) (N := 12) hx hb hts ui_X2_readFox_X2 hown hK hP 0 rfl rfl 3 (by decide) (hts _ uw_X2_readFox_f21) (fun _ h9 => h9) rfl dX2_readFox_35 ?_
      refine lv_aload_n hx hb dX2_readFox_38 rfl (lv_at hl 0 rfl) ?_
      refine va_get (D := (dC, dI)) (ci := 2) (v := .int v0_foxes) (C := RX2) (T := TX2) (N := 12) hx hb hts ui_X2_readFox_X2 hown hK hP 0 rfl rfl 10 (by decide) (hts _ uw_X2_readFox_f43) (fun _ h9 => h9) rfl dX2_readFox_39 ?_
      refine lv_aload_n hx hb dX2_readFox_42 rfl (lv_at hl 1 rfl) ?_
      refine lv_iconst (v := 0) hx hb dX2_readFox_43 (by decide) ?_
      refine lv_bipush (v := 30) hx hb dX2_readFox_44 (by decide) ?_
      have hPc := hP.sub (ws' := [(a1, .inr (8, [.ref a1_bytes, .int v1_length, .int x3, .int x6, z1_filled, .int x4, .int x5])), (a1_bytes, .inl (cyB, 600, .inl f1_bytes))]) [1, 2] rfl
      have hDc := hD.sub (ws' := [(a1, .inr (8, [.ref a1_bytes, .int v1_length, .int x3, .int x6, z1_filled, .int x4, .int x5])), (a1_bytes, .inl (cyB, 600, .inl f1_bytes))]) [1, 2] (by decide) rfl
      have hFc := va_free (wc := [(a1, .inr (8, [.ref a1_bytes, .int v1_length, .int x3, .int x6, z1_filled, .int x4, .int x5])), (a1_bytes, .inl (cyB, 600, .inl f1_bytes))]) hD hS hA [1, 2] rfl
      refine va_calli (va_runV (As := [.int 0, .int 30]) (rest := [.int v0_foxes, .ref a0_foxY]) ⟨hx, hb, hml, hown, hts⟩ (ck_X8_number l dC dI cyB cyI cyJ cyP a1 a1_bytes H.size (z1_filled) v1_length f1_bytes x3 x4 x5 x6 0 30 hw) (cwV 2 hts gX2_readFox_X8_number rfl rfl rfl (by decide +kernel) ⟨Nat.le_of_ble_eq_true rfl, Nat.le_of_ble_eq_true rfl⟩) ⟨cPc_blind, va_recv hK hPc (ci := 8) (q0 := 0) rfl rfl, cPc_pre hPc hK hDc hNw⟩ rfl rfl hl.1 rfl (lv_room (Nat.le_of_ble_eq_true rfl)) dX2_readFox_46 ⟨Nat.le_of_ble_eq_true rfl, Nat.le_of_ble_eq_true rfl⟩) hS (fun q _ h => hFc q h) hFc (fun r13 u t H1 locs ht hvm hw hB hz1 hk1 hS => ?_)
      obtain ⟨x9, x10, x11, x12⟩ := u
      obtain ⟨hP1, hK1, hD1⟩ := hB
      rw [ht] at hP1
      obtain ⟨hP, hD⟩ := va_join (wr := [(a0, .inr (2, [z0_formX, z0_formY, .ref a0_foxX, .ref a0_foxY, z0_seat, z0_strength, z0_debts, z0_near, z0_forms, z0_hares, .int v0_foxes, z0_safe])), (a0_foxX, .inl (cyI, 4, .inl f8)), (a0_foxY, .inl (cyI, 4, .inl f0_foxY))]) (w1 := [(a1, .inr (8, [.ref a1_bytes, .int v1_length, .int x9, .int x12, z1_filled, .int x10, .int x11])), (a1_bytes, .inl (cyB, 600, .inl f1_bytes))]) hP hD [1, 2] [0, 3, 4] rfl rfl (by decide) (by decide) hk1 hFc hP1 hD1
      have hP : va_P (dC, dI) vwCl [(a0, .inr (2, [z0_formX, z0_formY, .ref a0_foxX, .ref a0_foxY, z0_seat, z0_strength, z0_debts, z0_near, z0_forms, z0_hares, .int v0_foxes, z0_safe])), (a1, .inr (8, [.ref a1_bytes, .int v1_length, .int x9, .int x12, z1_filled, .int x10, .int x11])), (a1_bytes, .inl (cyB, 600, .inl f1_bytes)), (a0_foxX, .inl (cyI, 4, .inl f8)), (a0_foxY, .inl (cyI, 4, .inl f0_foxY))] H1 := hP.sub [0, 3, 4, 1, 2] rfl
      have hD : va_D A [(a0, .inr (2, [z0_formX, z0_formY, .ref a0_foxX, .ref a0_foxY, z0_seat, z0_strength, z0_debts, z0_near, z0_forms, z0_hares, .int v0_foxes, z0_safe])), (a1, .inr (8, [.ref a1_bytes, .int v1_length, .int x9, .int x12, z1_filled, .int x10, .int x11])), (a1_bytes, .inl (cyB, 600, .inl f1_bytes)), (a0_foxX, .inl (cyI, 4, .inl f8)), (a0_foxY, .inl (cyI, 4, .inl f0_foxY))] := hD.sub [0, 3, 4, 1, 2] (by decide) rfl
      generalize H1 = H at hP hS ⊢
      obtain ⟨hi9, hw⟩ := hw
      refine va_iast hx hb hK hP hD hS 4 1 rfl rfl hi9 dX2_readFox_49 (fun H locs hP hD hS => ?_)
      obtain ⟨f14, ef14⟩ : ∃ y : Nat → Int32, y = upd f0_foxY v0_foxes.toNatClampNeg r13 := ⟨_, rfl⟩
      have hw := hw f14 ef14
      have hP : va_P (dC, dI) vwCl [(a0, .inr (2, [z0_formX, z0_formY, .ref a0_foxX, .ref a0_foxY, z0_seat, z0_strength, z0_debts, z0_near, z0_forms, z0_hares, .int v0_foxes, z0_safe])), (a1, .inr (8, [.ref a1_bytes, .int v1_length, .int x9, .int x12, z1_filled, .int x10, .int x11])), (a1_bytes, .inl (cyB, 600, .inl f1_bytes)), (a0_foxX, .inl (cyI, 4, .inl f8)), (a0_foxY, .inl (cyI, 4, .inl f14))] H := by rw [ef14]; exact hP
      have hD : va_D A [(a0, .inr (2, [z0_formX, z0_formY, .ref a0_foxX, .ref a0_foxY, z0_seat, z0_strength, z0_debts, z0_near, z0_forms, z0_hares, .int v0_foxes, z0_safe])), (a1, .inr (8, [.ref a1_bytes, .int v1_length, .int x9, .int x12, z1_filled, .int x10, .int x11])), (a1_bytes, .inl (cyB, 600, .inl f1_bytes)), (a0_foxX, .inl (cyI, 4, .inl f8)), (a0_foxY, .inl (cyI, 4, .inl f14))] := by rw [ef14]; exact hD
      refine lv_aload_n hx hb dX2_readFox_50 rfl (lv_at hl 1 rfl) ?_
      refine lv_bipush (v := 59) hx hb dX2_readFox_51 (by decide) ?_
      have hPc := hP.sub (ws' := [(a1, .inr (8, [.ref a1_bytes, .int v1_length, .int x9, .int x12, z1_filled, .int x10, .int x11])), (a1_bytes, .inl (cyB, 600, .inl f1_bytes))]) [1, 2] rfl
      have hDc := hD.sub (ws' := [(a1, .inr (8, [.ref a1_bytes, .int v1_length, .int x9, .int x12, z1_filled, .int x10, .int x11])), (a1_bytes, .inl (cyB, 600, .inl f1_bytes))]) [1, 2] (by decide) rfl
      have hFc := va_free (wc := [(a1, .inr (8, [.ref a1_bytes, .int v1_length, .int x9, .int x12, z1_filled, .int x10, .int x11])), (a1_bytes, .inl (cyB, 600, .inl f1_bytes))]) hD hS hA [1, 2] rfl
      refine va_callv (va_runV (As := [.int 59]) (rest := []) ⟨hx, hb, hml, hown, hts⟩ (ck_X8_needs l dC dI cyB cyI cyJ cyP a1 a1_bytes H.size (z1_filled) v1_length f1_bytes x9 x12 x10 x11 59 hw) (cwV 1 hts gX2_readFox_X8_needs rfl rfl rfl (by decide +kernel) ⟨Nat.le_of_ble_eq_true rfl, Nat.le_of_ble_eq_true rfl⟩) ⟨cPc_blind, va_recv hK hPc (ci := 8) (q0 := 0) rfl rfl, cPc_pre hPc hK hDc hNw⟩ rfl rfl hl.1 rfl (lv_room (Nat.le_of_ble_eq_true rfl)) dX2_readFox_53 ⟨Nat.le_of_ble_eq_true rfl, Nat.le_of_ble_eq_true rfl⟩) hS (fun q _ h => hFc q h) hFc (fun u t H1 locs ht hvm hw hB hz1 hk1 hS => ?_)
      obtain ⟨x15, x16, x17, x18⟩ := u
      obtain ⟨hP1, hK1, hD1⟩ := hB
      rw [ht] at hP1
      obtain ⟨hP, hD⟩ := va_join (wr := [(a0, .inr (2, [z0_formX, z0_formY, .ref a0_foxX, .ref a0_foxY, z0_seat, z0_strength, z0_debts, z0_near, z0_forms, z0_hares, .int v0_foxes, z0_safe])), (a0_foxX, .inl (cyI, 4, .inl f8)), (a0_foxY, .inl (cyI, 4, .inl f14))]) (w1 := [(a1, .inr (8, [.ref a1_bytes, .int v1_length, .int x15, .int x16, z1_filled, .int x17, .int x18])), (a1_bytes, .inl (cyB, 600, .inl f1_bytes))]) hP hD [1, 2] [0, 3, 4] rfl rfl (by decide) (by decide) hk1 hFc hP1 hD1
      have hP : va_P (dC, dI) vwCl [(a0, .inr (2, [z0_formX, z0_formY, .ref a0_foxX, .ref a0_foxY, z0_seat, z0_strength, z0_debts, z0_near, z0_forms, z0_hares, .int v0_foxes, z0_safe])), (a1, .inr (8, [.ref a1_bytes, .int v1_length, .int x15, .int x16, z1_filled, .int x17, .int x18])), (a1_bytes, .inl (cyB, 600, .inl f1_bytes)), (a0_foxX, .inl (cyI, 4, .inl f8)), (a0_foxY, .inl (cyI, 4, .inl f14))] H1 := hP.sub [0, 3, 4, 1, 2] rfl
      have hD : va_D A [(a0, .inr (2, [z0_formX, z0_formY, .ref a0_foxX, .ref a0_foxY, z0_seat, z0_strength, z0_debts, z0_near, z0_forms, z0_hares, .int v0_foxes, z0_safe])), (a1, .inr (8, [.ref a1_bytes, .int v1_length, .int x15, .int x16, z1_filled, .int x17, .int x18])), (a1_bytes, .inl (cyB, 600, .inl f1_bytes)), (a0_foxX, .inl (cyI, 4, .inl f8)), (a0_foxY, .inl (cyI, 4, .inl f14))] := hD.sub [0, 3, 4, 1, 2] (by decide) rfl
      generalize H1 = H at hP hS ⊢
      refine lv_aload_n hx hb dX2_readFox_56 rfl (lv_at hl 0 rfl) ?_
      refine lv_dup hx hb dX2_readFox_57 rfl ?_
      refine va_get (D := (dC, dI)) (ci := 2) (v := .int v0_foxes) (C := RX2) (T := TX2) (N := 12) hx hb hts ui_X2_readFox_X2 hown hK hP 0 rfl rfl 10 (by decide) (hts _ uw_X2_readFox_f43) (fun _ h9 => h9) rfl dX2_readFox_58 ?_
      refine lv_iconst (v := 1) hx hb dX2_readFox_61 (by decide) ?_
      refine lv_iadd hx hb dX2_readFox_62 ?_
      refine lv_topi (fun x19 ex19 => ?_)
      have hw := hw x19 ex19
      refine va_put (D := (dC, dI)) (ci := 2) (v := .int x19) (ty := .int) (C := RX2) (T := TX2) (N := 12) hx hb hts ui_X2_readFox_X2 tyX2 tyX2_ok nmX2 hown hK hP hD hS 0 rfl rfl 10 (by decide) (hts _ uw_X2_readFox_f43) (fun _ h9 => h9) rfl (by decide +kernel) rfl rfl (Nat.le_of_ble_eq_true rfl) dX2_readFox_63 (fun H locs hP hD hS => ?_)
      have hP : va_P (dC, dI) vwCl [(a0, .inr (2, [z0_formX, z0_formY, .ref a0_foxX, .ref a0_foxY, z0_seat, z0_strength, z0_debts, z0_near, z0_forms, z0_hares, .int x19, z0_safe])), (a1, .inr (8, [.ref a1_bytes, .int v1_length, .int x15, .int x16, z1_filled, .int x17, .int x18])), (a1_bytes, .inl (cyB, 600, .inl f1_bytes)), (a0_foxX, .inl (cyI, 4, .inl f8)), (a0_foxY, .inl (cyI, 4, .inl f14))] H := hP
      have hD : va_D A [(a0, .inr (2, [z0_formX, z0_formY, .ref a0_foxX, .ref a0_foxY, z0_seat, z0_strength, z0_debts, z0_near, z0_forms, z0_hares, .int x19, z0_safe])), (a1, .inr (8, [.ref a1_bytes, .int v1_length, .int x15, .int x16, z1_filled, .int x17, .int x18])), (a1_bytes, .inl (cyB, 600, .inl f1_bytes)), (a0_foxX, .inl (cyI, 4, .inl f8)), (a0_foxY, .inl (cyI, 4, .inl f14))] := hD
      exact ((W.vret hx hb hr (fun t ht hW => ⟨⟨(x15, x17, x18, x16, f8, f14, x19), rfl, hw, by rw [ht]; exact hP, va_K.moved hW.alike hK, hD⟩, hS.F ht⟩) hS.2.2 dX2_readFox_66))
    · have hw := hw.2 c2
      exact kb_X2_readFox_12 dC dI cyB cyI cyJ cyP a0 a1 a0_foxX a1_bytes a0_foxY z0_formX z0_formY z0_seat z0_strength z0_debts z0_near z0_forms z0_hares z0_safe z1_filled v1_length f1_bytes Q  C0 _ _ _ v1_at v1_fault v1_faultPlace v1_token f0_foxX f0_foxY v0_foxes hP hD hS (lv_sub hl [1] rfl) hw
theorem ui_X2_readDebt_X2 : ∀ w ∈ u_ws RX2 TX2 12, w ∈ wsX2_readDebt := by decide +kernel
theorem uw_X2_readDebt_f30 : (.fieldLink RX2 30 "MarchHares$Down" "debts" "[I" : Cond) ∈ wsX2_readDebt := by decide +kernel
theorem uw_X2_readDebt_f40 : (.fieldLink RX2 40 "MarchHares$Down" "hares" "I" : Cond) ∈ wsX2_readDebt := by decide +kernel
def wb_X2_readDebt_46 (v0_hares : Int32) (v1_length : Int32) (f1_bytes : Nat → Int32) (Q : Int32 → Int32 → Int32 → Int32 → (Nat → Int32) → Prop)  (v1_at : Int32) (v1_fault : Int32) (v1_faultPlace : Int32) (v1_token : Int32) (f0_debts : Nat → Int32) (l3 : Int32) (l4 : Int32) : Prop := wq_X8_number v1_length f1_bytes v1_at v1_fault v1_faultPlace v1_token 0 99 (fun r21 x17 x18 x19 x20 => wq_X8_needs v1_length f1_bytes x17 x20 x18 x19 59 (fun x22 x23 x24 x25 => wq_X8_isFaulty x24   (fun r26 => ((¬ r26 = 0 → (Q x22 x24 x25 x23 f0_debts)) ∧ (r26 = 0 → ∀ x28 : Int32, x28 = l3 * 6 → ∀ x29 : Int32, x29 = x28 + l4 → vp_in x29 36 ∧ ∀ f30 : Nat → Int32, f30 = upd f0_debts x29.toNatClampNeg r21 → (Q x22 x24 x25 x23 f30))))))
set_option maxHeartbeats 4000000 in
set_option maxRecDepth 100000 in
theorem kb_X2_readDebt_46 {p : Program} {l : Launch} {e : Env} {s : State} {m : MethodId} {args : Array Value} {below : List Frame} {meth : Method} {c : Code} {A : Nat → Prop} (dC : Nat → ClassId) (dI : Nat → Nat → Nat) (cyB cyI cyJ cyP : ClassId) (a0 a1 a1_bytes a0_debts : Nat) (z0_formX : Value) (z0_formY : Value) (z0_foxX : Value) (z0_foxY : Value) (z0_seat : Value) (z0_strength : Value) (z0_near : Value) (z0_forms : Value) (z0_foxes : Value) (z0_safe : Value) (z1_filled : Value) (v0_hares : Int32) (v1_length : Int32) (f1_bytes : Nat → Int32) (Q : Int32 → Int32 → Int32 → Int32 → (Nat → Int32) → Prop)  (C0 : cfx p s m args meth c cX2_readDebt none wsX2_readDebt RX2 6 A (dC, dI) (kT cyB cyI cyJ cyP)) : ∀ (H : Heap) (locs : List Loc) (ls : Array Slot) (v1_at : Int32) (v1_fault : Int32) (v1_faultPlace : Int32) (v1_token : Int32) (f0_debts : Nat → Int32) (l3 : Int32) (l4 : Int32), va_P (dC, dI) vwCl [(a0, .inr (2, [z0_formX, z0_formY, z0_foxX, z0_foxY, z0_seat, z0_strength, .ref a0_debts, z0_near, z0_forms, .int v0_hares, z0_foxes, z0_safe])), (a1, .inr (8, [.ref a1_bytes, .int v1_length, .int v1_at, .int v1_token, z1_filled, .int v1_fault, .int v1_faultPlace])), (a1_bytes, .inl (cyB, 600, .inl f1_bytes)), (a0_debts, .inl (cyI, 36, .inl f0_debts))] H → va_D A [(a0, .inr (2, [z0_formX, z0_formY, z0_foxX, z0_foxY, z0_seat, z0_strength, .ref a0_debts, z0_near, z0_forms, .int v0_hares, z0_foxes, z0_safe])), (a1, .inr (8, [.ref a1_bytes, .int v1_length, .int v1_at, .int v1_token, z1_filled, .int v1_fault, .int v1_faultPlace])), (a1_bytes, .inl (cyB, 600, .inl f1_bytes)), (a0_debts, .inl (cyI, 36, .inl f0_debts))] → va_S A s.heap H locs → lv_has ls 6 [(0, .ref a0), (1, .ref a1), (3, .int l3), (4, .int l4)] → wb_X2_readDebt_46 v0_hares v1_length f1_bytes Q  v1_at v1_fault v1_faultPlace v1_token f0_debts l3 l4 → W p l e (headSpec wsX2_readDebt ({ frames := 3, cells := 0, slots := 0, locals := 63 })).room s m args below meth c H locs 0 0 (MQ below (va_Qv (fun (u : Int32 × Int32 × Int32 × Int32 × (Nat → Int32)) => Q u.1 u.2.1 u.2.2.1 u.2.2.2.1 u.2.2.2.2) (cB (dC, dI) (kT cyB cyI cyJ cyP) A (fun u : Int32 × Int32 × Int32 × Int32 × (Nat → Int32) => ([(a0, .inr (2, [z0_formX, z0_formY, z0_foxX, z0_foxY, z0_seat, z0_strength, .ref a0_debts, z0_near, z0_forms, .int v0_hares, z0_foxes, z0_safe])), (a1, .inr (8, [.ref a1_bytes, .int v1_length, .int u.1, .int u.2.2.2.1, z1_filled, .int u.2.1, .int u.2.2.1])), (a1_bytes, .inl (cyB, 600, .inl f1_bytes)), (a0_debts, .inl (cyI, 36, .inl u.2.2.2.2))] : va_W))) A) args s 0 0 A) (F0 m 46 ls []) := by
  obtain ⟨hx, hb, hr, hts, hown, hlocks, hml, hA, hK, hNw⟩ := id C0
  intro H locs ls v1_at v1_fault v1_faultPlace v1_token f0_debts l3 l4 hP hD hS hl hw
  refine lv_aload_n hx hb dX2_readDebt_46 rfl (lv_at hl 1 rfl) ?_
  refine lv_iconst (v := 0) hx hb dX2_readDebt_47 (by decide) ?_
  refine lv_bipush (v := 99) hx hb dX2_readDebt_48 (by decide) ?_
  have hPc := hP.sub (ws' := [(a1, .inr (8, [.ref a1_bytes, .int v1_length, .int v1_at, .int v1_token, z1_filled, .int v1_fault, .int v1_faultPlace])), (a1_bytes, .inl (cyB, 600, .inl f1_bytes))]) [1, 2] rfl
  have hDc := hD.sub (ws' := [(a1, .inr (8, [.ref a1_bytes, .int v1_length, .int v1_at, .int v1_token, z1_filled, .int v1_fault, .int v1_faultPlace])), (a1_bytes, .inl (cyB, 600, .inl f1_bytes))]) [1, 2] (by decide) rfl
  have hFc := va_free (wc := [(a1, .inr (8, [.ref a1_bytes, .int v1_length, .int v1_at, .int v1_token, z1_filled, .int v1_fault, .int v1_faultPlace])), (a1_bytes, .inl (cyB, 600, .inl f1_bytes))]) hD hS hA [1, 2] rfl
  refine va_calli (va_runV (As := [.int 0, .int 99]) (rest := []) ⟨hx, hb, hml, hown, hts⟩ (ck_X8_number l dC dI cyB cyI cyJ cyP a1 a1_bytes H.size (z1_filled) v1_length f1_bytes v1_at v1_fault v1_faultPlace v1_token 0 99 hw) (cwV 2 hts gX2_readDebt_X8_number rfl rfl rfl (by decide +kernel) ⟨Nat.le_of_ble_eq_true rfl, Nat.le_of_ble_eq_true rfl⟩) ⟨cPc_blind, va_recv hK hPc (ci := 8) (q0 := 0) rfl rfl, cPc_pre hPc hK hDc hNw⟩ rfl rfl hl.1 rfl (lv_room (Nat.le_of_ble_eq_true rfl)) dX2_readDebt_50 ⟨Nat.le_of_ble_eq_true rfl, Nat.le_of_ble_eq_true rfl⟩) hS (fun q _ h => hFc q h) hFc (fun r21 u t H1 locs ht hvm hw hB hz1 hk1 hS => ?_)
  obtain ⟨x17, x18, x19, x20⟩ := u
  obtain ⟨hP1, hK1, hD1⟩ := hB
  rw [ht] at hP1
  obtain ⟨hP, hD⟩ := va_join (wr := [(a0, .inr (2, [z0_formX, z0_formY, z0_foxX, z0_foxY, z0_seat, z0_strength, .ref a0_debts, z0_near, z0_forms, .int v0_hares, z0_foxes, z0_safe])), (a0_debts, .inl (cyI, 36, .inl f0_debts))]) (w1 := [(a1, .inr (8, [.ref a1_bytes, .int v1_length, .int x17, .int x20, z1_filled, .int x18, .int x19])), (a1_bytes, .inl (cyB, 600, .inl f1_bytes))]) hP hD [1, 2] [0, 3] rfl rfl (by decide) (by decide) hk1 hFc hP1 hD1
  have hP : va_P (dC, dI) vwCl [(a0, .inr (2, [z0_formX, z0_formY, z0_foxX, z0_foxY, z0_seat, z0_strength, .ref a0_debts, z0_near, z0_forms, .int v0_hares, z0_foxes, z0_safe])), (a1, .inr (8, [.ref a1_bytes, .int v1_length, .int x17, .int x20, z1_filled, .int x18, .int x19])), (a1_bytes, .inl (cyB, 600, .inl f1_bytes)), (a0_debts, .inl (cyI, 36, .inl f0_debts))] H1 := hP.sub [0, 2, 3, 1] rfl
  have hD : va_D A [(a0, .inr (2, [z0_formX, z0_formY, z0_foxX, z0_foxY, z0_seat, z0_strength, .ref a0_debts, z0_near, z0_forms, .int v0_hares, z0_foxes, z0_safe])), (a1, .inr (8, [.ref a1_bytes, .int v1_length, .int x17, .int x20, z1_filled, .int x18, .int x19])), (a1_bytes, .inl (cyB, 600, .inl f1_bytes)), (a0_debts, .inl (cyI, 36, .inl f0_debts))] := hD.sub [0, 2, 3, 1] (by decide) rfl
  generalize H1 = H at hP hS ⊢
  refine lv_istore (lv' := [(5, .int r21), (0, .ref a0), (1, .ref a1), (3, .int l3), (4, .int l4)]) hx hb dX2_readDebt_53 hl (by decide) rfl (fun ls hl => ?_)
  refine lv_aload_n hx hb dX2_readDebt_55 rfl (lv_at hl 2 rfl) ?_
  refine lv_bipush (v := 59) hx hb dX2_readDebt_56 (by decide) ?_
  have hPc := hP.sub (ws' := [(a1, .inr (8, [.ref a1_bytes, .int v1_length, .int x17, .int x20, z1_filled, .int x18, .int x19])), (a1_bytes, .inl (cyB, 600, .inl f1_bytes))]) [1, 2] rfl
  have hDc := hD.sub (ws' := [(a1, .inr (8, [.ref a1_bytes, .int v1_length, .int x17, .int x20, z1_filled, .int x18, .int x19])), (a1_bytes, .inl (cyB, 600, .inl f1_bytes))]) [1, 2] (by decide) rfl
  have hFc := va_free (wc := [(a1, .inr (8, [.ref a1_bytes, .int v1_length, .int x17, .int x20, z1_filled, .int x18, .int x19])), (a1_bytes, .inl (cyB, 600, .inl f1_bytes))]) hD hS hA [1, 2] rfl
  refine va_callv (va_runV (As := [.int 59]) (rest := []) ⟨hx, hb, hml, hown, hts⟩ (ck_X8_needs l dC dI cyB cyI cyJ cyP a1 a1_bytes H.size (z1_filled) v1_length f1_bytes x17 x20 x18 x19 59 hw) (cwV 1 hts gX2_readDebt_X8_needs rfl rfl rfl (by decide +kernel) ⟨Nat.le_of_ble_eq_true rfl, Nat.le_of_ble_eq_true rfl⟩) ⟨cPc_blind, va_recv hK hPc (ci := 8) (q0 := 0) rfl rfl, cPc_pre hPc hK hDc hNw⟩ rfl rfl hl.1 rfl (lv_room (Nat.le_of_ble_eq_true rfl)) dX2_readDebt_58 ⟨Nat.le_of_ble_eq_true rfl, Nat.le_of_ble_eq_true rfl⟩) hS (fun q _ h => hFc q h) hFc (fun u t H1 locs ht hvm hw hB hz1 hk1 hS => ?_)
  obtain ⟨x22, x23, x24, x25⟩ := u
  obtain ⟨hP1, hK1, hD1⟩ := hB
  rw [ht] at hP1
  obtain ⟨hP, hD⟩ := va_join (wr := [(a0, .inr (2, [z0_formX, z0_formY, z0_foxX, z0_foxY, z0_seat, z0_strength, .ref a0_debts, z0_near, z0_forms, .int v0_hares, z0_foxes, z0_safe])), (a0_debts, .inl (cyI, 36, .inl f0_debts))]) (w1 := [(a1, .inr (8, [.ref a1_bytes, .int v1_length, .int x22, .int x23, z1_filled, .int x24, .int x25])), (a1_bytes, .inl (cyB, 600, .inl f1_bytes))]) hP hD [1, 2] [0, 3] rfl rfl (by decide) (by decide) hk1 hFc hP1 hD1
  have hP : va_P (dC, dI) vwCl [(a0, .inr (2, [z0_formX, z0_formY, z0_foxX, z0_foxY, z0_seat, z0_strength, .ref a0_debts, z0_near, z0_forms, .int v0_hares, z0_foxes, z0_safe])), (a1, .inr (8, [.ref a1_bytes, .int v1_length, .int x22, .int x23, z1_filled, .int x24, .int x25])), (a1_bytes, .inl (cyB, 600, .inl f1_bytes)), (a0_debts, .inl (cyI, 36, .inl f0_debts))] H1 := hP.sub [0, 2, 3, 1] rfl
  have hD : va_D A [(a0, .inr (2, [z0_formX, z0_formY, z0_foxX, z0_foxY, z0_seat, z0_strength, .ref a0_debts, z0_near, z0_forms, .int v0_hares, z0_foxes, z0_safe])), (a1, .inr (8, [.ref a1_bytes, .int v1_length, .int x22, .int x23, z1_filled, .int x24, .int x25])), (a1_bytes, .inl (cyB, 600, .inl f1_bytes)), (a0_debts, .inl (cyI, 36, .inl f0_debts))] := hD.sub [0, 2, 3, 1] (by decide) rfl
  generalize H1 = H at hP hS ⊢
  refine lv_aload_n hx hb dX2_readDebt_61 rfl (lv_at hl 2 rfl) ?_
  have hPc := hP.sub (ws' := [(a1, .inr (8, [.ref a1_bytes, .int v1_length, .int x22, .int x23, z1_filled, .int x24, .int x25]))]) [1] rfl
  have hDc := hD.sub (ws' := [(a1, .inr (8, [.ref a1_bytes, .int v1_length, .int x22, .int x23, z1_filled, .int x24, .int x25]))]) [1] (by decide) rfl
  have hFc := va_free (wc := [(a1, .inr (8, [.ref a1_bytes, .int v1_length, .int x22, .int x23, z1_filled, .int x24, .int x25]))]) hD hS hA [1] rfl
  refine va_calli (va_runV (As := []) (rest := []) ⟨hx, hb, hml, hown, hts⟩ (ck_X8_isFaulty l dC dI cyB cyI cyJ cyP a1 H.size (.ref a1_bytes) (.int v1_length) (.int x22) (.int x23) (z1_filled) (.int x25) x24   hw) (cwV 0 hts gX2_readDebt_X8_isFaulty rfl rfl rfl (by decide +kernel) ⟨Nat.le_of_ble_eq_true rfl, Nat.le_of_ble_eq_true rfl⟩) ⟨cPc_blind, va_recv hK hPc (ci := 8) (q0 := 0) rfl rfl, cPc_pre hPc hK hDc hNw⟩ rfl rfl hl.1 rfl (lv_room (Nat.le_of_ble_eq_true rfl)) dX2_readDebt_62 ⟨Nat.le_of_ble_eq_true rfl, Nat.le_of_ble_eq_true rfl⟩) hS (fun q _ h => hFc q h) hFc (fun r26 u t H1 locs ht hvm hw hB hz1 hk1 hS => ?_)
  obtain ⟨hP1, hK1, hD1⟩ := hB
  rw [ht] at hP1
  obtain ⟨hP, hD⟩ := va_join (wr := [(a0, .inr (2, [z0_formX, z0_formY, z0_foxX, z0_foxY, z0_seat, z0_strength, .ref a0_debts, z0_near, z0_forms, .int v0_hares, z0_foxes, z0_safe])), (a1_bytes, .inl (cyB, 600, .inl f1_bytes)), (a0_debts, .inl (cyI, 36, .inl f0_debts))]) (w1 := [(a1, .inr (8, [.ref a1_bytes, .int v1_length, .int x22, .int x23, z1_filled, .int x24, .int x25]))]) hP hD [1] [0, 2, 3] rfl rfl (by decide) (by decide) hk1 hFc hP1 hD1
  have hP : va_P (dC, dI) vwCl [(a0, .inr (2, [z0_formX, z0_formY, z0_foxX, z0_foxY, z0_seat, z0_strength, .ref a0_debts, z0_near, z0_forms, .int v0_hares, z0_foxes, z0_safe])), (a1, .inr (8, [.ref a1_bytes, .int v1_length, .int x22, .int x23, z1_filled, .int x24, .int x25])), (a1_bytes, .inl (cyB, 600, .inl f1_bytes)), (a0_debts, .inl (cyI, 36, .inl f0_debts))] H1 := hP.sub [0, 3, 1, 2] rfl
  have hD : va_D A [(a0, .inr (2, [z0_formX, z0_formY, z0_foxX, z0_foxY, z0_seat, z0_strength, .ref a0_debts, z0_near, z0_forms, .int v0_hares, z0_foxes, z0_safe])), (a1, .inr (8, [.ref a1_bytes, .int v1_length, .int x22, .int x23, z1_filled, .int x24, .int x25])), (a1_bytes, .inl (cyB, 600, .inl f1_bytes)), (a0_debts, .inl (cyI, 36, .inl f0_debts))] := hD.sub [0, 3, 1, 2] (by decide) rfl
  generalize H1 = H at hP hS ⊢
  refine lv_if_ne (tgt := 82) hx hb dX2_readDebt_65 (by decide) (fun c27 => ?_) (fun c27 => ?_)
  · have hw := hw.1 c27
    exact ((W.vret hx hb hr (fun t ht hW => ⟨⟨(x22, x24, x25, x23, f0_debts), rfl, hw, by rw [ht]; exact hP, va_K.moved hW.alike hK, hD⟩, hS.F ht⟩) hS.2.2 dX2_readDebt_82))
  · have hw := hw.2 c27
    refine lv_aload_n hx hb dX2_readDebt_68 rfl (lv_at hl 1 rfl) ?_
    refine va_get (D := (dC, dI)) (ci := 2) (v := .ref a0_debts) (C := RX2) (T := TX2) (N := 12) hx hb hts ui_X2_readDebt_X2 hown hK hP 0 rfl rfl 6 (by decide) (hts _ uw_X2_readDebt_f30) (fun _ h9 => h9) rfl dX2_readDebt_69 ?_
    refine lv_iload_n hx hb dX2_readDebt_72 rfl (lv_at hl 3 rfl) ?_
    refine lv_bipush (v := 6) hx hb dX2_readDebt_73 (by decide) ?_
    refine lv_imul hx hb dX2_readDebt_75 ?_
    refine lv_topi (fun x28 ex28 => ?_)
    have hw := hw x28 ex28
    refine lv_iload hx hb dX2_readDebt_76 (lv_at hl 4 rfl) ?_
    refine lv_iadd hx hb dX2_readDebt_78 ?_
    refine lv_topi (fun x29 ex29 => ?_)
    have hw := hw x29 ex29
    refine lv_iload hx hb dX2_readDebt_79 (lv_at hl 0 rfl) ?_
    obtain ⟨hi9, hw⟩ := hw
    refine va_iast hx hb hK hP hD hS 3 1 rfl rfl hi9 dX2_readDebt_81 (fun H locs hP hD hS => ?_)
    obtain ⟨f30, ef30⟩ : ∃ y : Nat → Int32, y = upd f0_debts x29.toNatClampNeg r21 := ⟨_, rfl⟩
    have hw := hw f30 ef30
    have hP : va_P (dC, dI) vwCl [(a0, .inr (2, [z0_formX, z0_formY, z0_foxX, z0_foxY, z0_seat, z0_strength, .ref a0_debts, z0_near, z0_forms, .int v0_hares, z0_foxes, z0_safe])), (a1, .inr (8, [.ref a1_bytes, .int v1_length, .int x22, .int x23, z1_filled, .int x24, .int x25])), (a1_bytes, .inl (cyB, 600, .inl f1_bytes)), (a0_debts, .inl (cyI, 36, .inl f30))] H := by rw [ef30]; exact hP
    have hD : va_D A [(a0, .inr (2, [z0_formX, z0_formY, z0_foxX, z0_foxY, z0_seat, z0_strength, .ref a0_debts, z0_near, z0_forms, .int v0_hares, z0_foxes, z0_safe])), (a1, .inr (8, [.ref a1_bytes, .int v1_length, .int x22, .int x23, z1_filled, .int x24, .int x25])), (a1_bytes, .inl (cyB, 600, .inl f1_bytes)), (a0_debts, .inl (cyI, 36, .inl f30))] := by rw [ef30]; exact hD
    exact ((W.vret hx hb hr (fun t ht hW => ⟨⟨(x22, x24, x25, x23, f30), rfl, hw, by rw [ht]; exact hP, va_K.moved hW.alike hK, hD⟩, hS.F ht⟩) hS.2.2 dX2_readDebt_82))
def wq_X2_readDebt (v0_hares : Int32) (v1_length : Int32) (f1_bytes : Nat → Int32) (v1_at : Int32) (v1_fault : Int32) (v1_faultPlace : Int32) (v1_token : Int32) (f0_debts : Nat → Int32) (p2 : Int32) (Q : Int32 → Int32 → Int32 → Int32 → (Nat → Int32) → Prop) : Prop := ((p2 = 0 → wq_X8_number v1_length f1_bytes v1_at v1_fault v1_faultPlace v1_token 0 (v0_hares - 1) (fun r6 x2 x3 x4 x5 => wq_X8_number v1_length f1_bytes x2 x3 x4 x5 0 (v0_hares - 1) (fun r11 x7 x8 x9 x10 => ((¬ r6 = r11 → (wb_X2_readDebt_46 v0_hares v1_length f1_bytes Q  x7 x8 x9 x10 f0_debts r6 r11)) ∧ (r6 = r11 → wq_X8_blameToken x10 x8 x9 2 (fun x13 x14 => (wb_X2_readDebt_46 v0_hares v1_length f1_bytes Q  x7 x13 x14 x10 f0_debts r6 r11))))))) ∧ (¬ p2 = 0 → wq_X8_blameToken v1_token v1_fault v1_faultPlace 3 (fun x15 x16 => (Q v1_at x15 x16 v1_token f0_debts))))
set_option maxHeartbeats 4000000 in
set_option maxRecDepth 100000 in
theorem ck_X2_readDebt (l : Launch) (dC : Nat → ClassId) (dI : Nat → Nat → Nat) (cyB cyI cyJ cyP : ClassId) (a0 a1 a1_bytes a0_debts : Nat) (sz : Nat) (z0_formX : Value) (z0_formY : Value) (z0_foxX : Value) (z0_foxY : Value) (z0_seat : Value) (z0_strength : Value) (z0_near : Value) (z0_forms : Value) (z0_foxes : Value) (z0_safe : Value) (z1_filled : Value) (v0_hares : Int32) (v1_length : Int32) (f1_bytes : Nat → Int32) (v1_at : Int32) (v1_fault : Int32) (v1_faultPlace : Int32) (v1_token : Int32) (f0_debts : Nat → Int32) (p2 : Int32) {Q : Int32 → Int32 → Int32 → Int32 → (Nat → Int32) → Prop} (hw : wq_X2_readDebt v0_hares v1_length f1_bytes v1_at v1_fault v1_faultPlace v1_token f0_debts p2 Q) : Met l yX2_readDebt wsX2_readDebt ({ frames := 3, cells := 0, slots := 0, locals := 63 }) (va_Pc [.ref a0, .ref a1, .int p2] (cPc (dC, dI) (kT cyB cyI cyJ cyP) [(a0, .inr (2, [z0_formX, z0_formY, z0_foxX, z0_foxY, z0_seat, z0_strength, .ref a0_debts, z0_near, z0_forms, .int v0_hares, z0_foxes, z0_safe])), (a1, .inr (8, [.ref a1_bytes, .int v1_length, .int v1_at, .int v1_token, z1_filled, .int v1_fault, .int v1_faultPlace])), (a1_bytes, .inl (cyB, 600, .inl f1_bytes)), (a0_debts, .inl (cyI, 36, .inl f0_debts))] sz)) (va_Qv (fun (u : Int32 × Int32 × Int32 × Int32 × (Nat → Int32)) => Q u.1 u.2.1 u.2.2.1 u.2.2.2.1 u.2.2.2.2) (cB (dC, dI) (kT cyB cyI cyJ cyP) (va_A [(a0, .inr (2, [z0_formX, z0_formY, z0_foxX, z0_foxY, z0_seat, z0_strength, .ref a0_debts, z0_near, z0_forms, .int v0_hares, z0_foxes, z0_safe])), (a1, .inr (8, [.ref a1_bytes, .int v1_length, .int v1_at, .int v1_token, z1_filled, .int v1_fault, .int v1_faultPlace])), (a1_bytes, .inl (cyB, 600, .inl f1_bytes)), (a0_debts, .inl (cyI, 36, .inl f0_debts))] sz) (fun u : Int32 × Int32 × Int32 × Int32 × (Nat → Int32) => ([(a0, .inr (2, [z0_formX, z0_formY, z0_foxX, z0_foxY, z0_seat, z0_strength, .ref a0_debts, z0_near, z0_forms, .int v0_hares, z0_foxes, z0_safe])), (a1, .inr (8, [.ref a1_bytes, .int v1_length, .int u.1, .int u.2.2.2.1, z1_filled, .int u.2.1, .int u.2.2.1])), (a1_bytes, .inl (cyB, 600, .inl f1_bytes)), (a0_debts, .inl (cyI, 36, .inl u.2.2.2.2))] : va_W))) (va_A [(a0, .inr (2, [z0_formX, z0_formY, z0_foxX, z0_foxY, z0_seat, z0_strength, .ref a0_debts, z0_near, z0_forms, .int v0_hares, z0_foxes, z0_safe])), (a1, .inr (8, [.ref a1_bytes, .int v1_length, .int v1_at, .int v1_token, z1_filled, .int v1_fault, .int v1_faultPlace])), (a1_bytes, .inl (cyB, 600, .inl f1_bytes)), (a0_debts, .inl (cyI, 36, .inl f0_debts))] sz)) 0 0 (va_A [(a0, .inr (2, [z0_formX, z0_formY, z0_foxX, z0_foxY, z0_seat, z0_strength, .ref a0_debts, z0_near, z0_forms, .int v0_hares, z0_foxes, z0_safe])), (a1, .inr (8, [.ref a1_bytes, .int v1_length, .int v1_at, .int v1_token, z1_filled, .int v1_fault, .int v1_faultPlace])), (a1_bytes, .inl (cyB, 600, .inl f1_bytes)), (a0_debts, .inl (cyI, 36, .inl f0_debts))] sz) := by
  refine Met.ofW (cc := cX2_readDebt) (maxL := 6) (ret := none) (by decide) rfl ?_
  intro p e s m args below meth c s₁ B hml hv
  obtain ⟨rfl, hsz, hP, hK, hD0, hNw⟩ := hv
  have hx := B.exec
  have hb := B.bytes
  have hr := B.returns
  have hts := atoms_spec (ws := wsX2_readDebt) B.pre
  have hown : s.vm.findClass RX2 = some m.cls := findClass_of_methodNamed B.named
  have hlocks := B.notSynchronized
  subst hsz
  have hD := hD0.self (sz := s.heap.size)
  generalize hAe : va_A [(a0, .inr (2, [z0_formX, z0_formY, z0_foxX, z0_foxY, z0_seat, z0_strength, .ref a0_debts, z0_near, z0_forms, .int v0_hares, z0_foxes, z0_safe])), (a1, .inr (8, [.ref a1_bytes, .int v1_length, .int v1_at, .int v1_token, z1_filled, .int v1_fault, .int v1_faultPlace])), (a1_bytes, .inl (cyB, 600, .inl f1_bytes)), (a0_debts, .inl (cyI, 36, .inl f0_debts))] s.heap.size = A at hD ⊢
  have hA : ∀ q : Nat, s.heap.size ≤ q → A q := fun q h => by rw [← hAe]; exact Or.inr h
  have hS : va_S A s.heap s.heap [] := va_S.rf
  have hP : va_P (dC, dI) vwCl [(a0, .inr (2, [z0_formX, z0_formY, z0_foxX, z0_foxY, z0_seat, z0_strength, .ref a0_debts, z0_near, z0_forms, .int v0_hares, z0_foxes, z0_safe])), (a1, .inr (8, [.ref a1_bytes, .int v1_length, .int v1_at, .int v1_token, z1_filled, .int v1_fault, .int v1_faultPlace])), (a1_bytes, .inl (cyB, 600, .inl f1_bytes)), (a0_debts, .inl (cyI, 36, .inl f0_debts))] s.heap := hP
  have hl := lv_entry ([.ref a0, .ref a1, .int p2]) (n := 6) (Nat.le_of_ble_eq_true rfl)
  rw [lg_entry_eq]
  generalize (lg_sl ([.ref a0, .ref a1, .int p2]) ++ List.replicate (6 - (lg_sl ([.ref a0, .ref a1, .int p2])).length) Slot.unset).toArray = ls at hl ⊢
  have hl : lv_has ls 6 [(0, .ref a0), (1, .ref a1), (2, .int p2)] := hl
  have C0 : cfx p s m _ meth c cX2_readDebt none wsX2_readDebt RX2 6 A (dC, dI) (kT cyB cyI cyJ cyP) := ⟨hx, hb, hr, hts, hown, hlocks, hml, hA, hK, hNw⟩
  clear hAe
  obtain ⟨H, hH⟩ : ∃ H, H = s.heap := ⟨_, rfl⟩
  rw [← hH] at hP ⊢
  have hS : va_S A s.heap H [] := by rw [hH]; exact va_S.rf
  have hS := hS
  refine lv_iload_n hx hb dX2_readDebt_0 rfl (lv_at hl 2 rfl) ?_
  refine lv_if_eq (tgt := 10) hx hb dX2_readDebt_1 (by decide) (fun c1 => ?_) (fun c1 => ?_)
  · have hw := hw.1 c1
    refine lv_aload_n hx hb dX2_readDebt_10 rfl (lv_at hl 1 rfl) ?_
    refine lv_iconst (v := 0) hx hb dX2_readDebt_11 (by decide) ?_
    refine lv_aload_n hx hb dX2_readDebt_12 rfl (lv_at hl 0 rfl) ?_
    refine va_get (D := (dC, dI)) (ci := 2) (v := .int v0_hares) (C := RX2) (T := TX2) (N := 12) hx hb hts ui_X2_readDebt_X2 hown hK hP 0 rfl rfl 9 (by decide) (hts _ uw_X2_readDebt_f40) (fun _ h9 => h9) rfl dX2_readDebt_13 ?_
    refine lv_iconst (v := 1) hx hb dX2_readDebt_16 (by decide) ?_
    refine lv_isub hx hb dX2_readDebt_17 ?_
    have hPc := hP.sub (ws' := [(a1, .inr (8, [.ref a1_bytes, .int v1_length, .int v1_at, .int v1_token, z1_filled, .int v1_fault, .int v1_faultPlace])), (a1_bytes, .inl (cyB, 600, .inl f1_bytes))]) [1, 2] rfl
    have hDc := hD.sub (ws' := [(a1, .inr (8, [.ref a1_bytes, .int v1_length, .int v1_at, .int v1_token, z1_filled, .int v1_fault, .int v1_faultPlace])), (a1_bytes, .inl (cyB, 600, .inl f1_bytes))]) [1, 2] (by decide) rfl
    have hFc := va_free (wc := [(a1, .inr (8, [.ref a1_bytes, .int v1_length, .int v1_at, .int v1_token, z1_filled, .int v1_fault, .int v1_faultPlace])), (a1_bytes, .inl (cyB, 600, .inl f1_bytes))]) hD hS hA [1, 2] rfl
    refine va_calli (va_runV (As := [.int 0, .int (v0_hares - 1)]) (rest := []) ⟨hx, hb, hml, hown, hts⟩ (ck_X8_number l dC dI cyB cyI cyJ cyP a1 a1_bytes H.size (z1_filled) v1_length f1_bytes v1_at v1_fault v1_faultPlace v1_token 0 (v0_hares - 1) hw) (cwV 2 hts gX2_readDebt_X8_number rfl rfl rfl (by decide +kernel) ⟨Nat.le_of_ble_eq_true rfl, Nat.le_of_ble_eq_true rfl⟩) ⟨cPc_blind, va_recv hK hPc (ci := 8) (q0 := 0) rfl rfl, cPc_pre hPc hK hDc hNw⟩ rfl rfl hl.1 rfl (lv_room (Nat.le_of_ble_eq_true rfl)) dX2_readDebt_18 ⟨Nat.le_of_ble_eq_true rfl, Nat.le_of_ble_eq_true rfl⟩) hS (fun q _ h => hFc q h) hFc (fun r6 u t H1 locs ht hvm hw hB hz1 hk1 hS => ?_)
    obtain ⟨x2, x3, x4, x5⟩ := u
    obtain ⟨hP1, hK1, hD1⟩ := hB
    rw [ht] at hP1
    obtain ⟨hP, hD⟩ := va_join (wr := [(a0, .inr (2, [z0_formX, z0_formY, z0_foxX, z0_foxY, z0_seat, z0_strength, .ref a0_debts, z0_near, z0_forms, .int v0_hares, z0_foxes, z0_safe])), (a0_debts, .inl (cyI, 36, .inl f0_debts))]) (w1 := [(a1, .inr (8, [.ref a1_bytes, .int v1_length, .int x2, .int x5, z1_filled, .int x3, .int x4])), (a1_bytes, .inl (cyB, 600, .inl f1_bytes))]) hP hD [1, 2] [0, 3] rfl rfl (by decide) (by decide) hk1 hFc hP1 hD1
    have hP : va_P (dC, dI) vwCl [(a0, .inr (2, [z0_formX, z0_formY, z0_foxX, z0_foxY, z0_seat, z0_strength, .ref a0_debts, z0_near, z0_forms, .int v0_hares, z0_foxes, z0_safe])), (a1, .inr (8, [.ref a1_bytes, .int v1_length, .int x2, .int x5, z1_filled, .int x3, .int x4])), (a1_bytes, .inl (cyB, 600, .inl f1_bytes)), (a0_debts, .inl (cyI, 36, .inl f0_debts))] H1 := hP.sub [0, 2, 3, 1] rfl
    have hD : va_D A [(a0, .inr (2, [z0_formX, z0_formY, z0_foxX, z0_foxY, z0_seat, z0_strength, .ref a0_debts, z0_near, z0_forms, .int v0_hares, z0_foxes, z0_safe])), (a1, .inr (8, [.ref a1_bytes, .int v1_length, .int x2, .int x5, z1_filled, .int x3, .int x4])), (a1_bytes, .inl (cyB, 600, .inl f1_bytes)), (a0_debts, .inl (cyI, 36, .inl f0_debts))] := hD.sub [0, 2, 3, 1] (by decide) rfl
    generalize H1 = H at hP hS ⊢
    refine lv_istore_n (lv' := [(3, .int r6), (0, .ref a0), (1, .ref a1), (2, .int p2)]) hx hb dX2_readDebt_21 rfl hl (by decide) rfl (fun ls hl => ?_)
    refine lv_aload_n hx hb dX2_readDebt_22 rfl (lv_at hl 2 rfl) ?_
    refine lv_iconst (v := 0) hx hb dX2_readDebt_23 (by decide) ?_
    refine lv_aload_n hx hb dX2_readDebt_24 rfl (lv_at hl 1 rfl) ?_
    refine va_get (D := (dC, dI)) (ci := 2) (v := .int v0_hares) (C := RX2) (T := TX2) (N := 12) hx hb hts ui_X2_readDebt_X2 hown hK hP 0 rfl rfl 9 (by decide) (hts _ uw_X2_readDebt_f40) (fun _ h9 => h9) rfl dX2_readDebt_25 ?_
    refine lv_iconst (v := 1) hx hb dX2_readDebt_28 (by decide) ?_
    refine lv_isub hx hb dX2_readDebt_29 ?_
    have hPc := hP.sub (ws' := [(a1, .inr (8, [.ref a1_bytes, .int v1_length, .int x2, .int x5, z1_filled, .int x3, .int x4])), (a1_bytes, .inl (cyB, 600, .inl f1_bytes))]) [1, 2] rfl
    have hDc := hD.sub (ws' := [(a1, .inr (8, [.ref a1_bytes, .int v1_length, .int x2, .int x5, z1_filled, .int x3, .int x4])), (a1_bytes, .inl (cyB, 600, .inl f1_bytes))]) [1, 2] (by decide) rfl
    have hFc := va_free (wc := [(a1, .inr (8, [.ref a1_bytes, .int v1_length, .int x2, .int x5, z1_filled, .int x3, .int x4])), (a1_bytes, .inl (cyB, 600, .inl f1_bytes))]) hD hS hA [1, 2] rfl
    refine va_calli (va_runV (As := [.int 0, .int (v0_hares - 1)]) (rest := []) ⟨hx, hb, hml, hown, hts⟩ (ck_X8_number l dC dI cyB cyI cyJ cyP a1 a1_bytes H.size (z1_filled) v1_length f1_bytes x2 x3 x4 x5 0 (v0_hares - 1) hw) (cwV 2 hts gX2_readDebt_X8_number rfl rfl rfl (by decide +kernel) ⟨Nat.le_of_ble_eq_true rfl, Nat.le_of_ble_eq_true rfl⟩) ⟨cPc_blind, va_recv hK hPc (ci := 8) (q0 := 0) rfl rfl, cPc_pre hPc hK hDc hNw⟩ rfl rfl hl.1 rfl (lv_room (Nat.le_of_ble_eq_true rfl)) dX2_readDebt_30 ⟨Nat.le_of_ble_eq_true rfl, Nat.le_of_ble_eq_true rfl⟩) hS (fun q _ h => hFc q h) hFc (fun r11 u t H1 locs ht hvm hw hB hz1 hk1 hS => ?_)
    obtain ⟨x7, x8, x9, x10⟩ := u
    obtain ⟨hP1, hK1, hD1⟩ := hB
    rw [ht] at hP1
    obtain ⟨hP, hD⟩ := va_join (wr := [(a0, .inr (2, [z0_formX, z0_formY, z0_foxX, z0_foxY, z0_seat, z0_strength, .ref a0_debts, z0_near, z0_forms, .int v0_hares, z0_foxes, z0_safe])), (a0_debts, .inl (cyI, 36, .inl f0_debts))]) (w1 := [(a1, .inr (8, [.ref a1_bytes, .int v1_length, .int x7, .int x10, z1_filled, .int x8, .int x9])), (a1_bytes, .inl (cyB, 600, .inl f1_bytes))]) hP hD [1, 2] [0, 3] rfl rfl (by decide) (by decide) hk1 hFc hP1 hD1
    have hP : va_P (dC, dI) vwCl [(a0, .inr (2, [z0_formX, z0_formY, z0_foxX, z0_foxY, z0_seat, z0_strength, .ref a0_debts, z0_near, z0_forms, .int v0_hares, z0_foxes, z0_safe])), (a1, .inr (8, [.ref a1_bytes, .int v1_length, .int x7, .int x10, z1_filled, .int x8, .int x9])), (a1_bytes, .inl (cyB, 600, .inl f1_bytes)), (a0_debts, .inl (cyI, 36, .inl f0_debts))] H1 := hP.sub [0, 2, 3, 1] rfl
    have hD : va_D A [(a0, .inr (2, [z0_formX, z0_formY, z0_foxX, z0_foxY, z0_seat, z0_strength, .ref a0_debts, z0_near, z0_forms, .int v0_hares, z0_foxes, z0_safe])), (a1, .inr (8, [.ref a1_bytes, .int v1_length, .int x7, .int x10, z1_filled, .int x8, .int x9])), (a1_bytes, .inl (cyB, 600, .inl f1_bytes)), (a0_debts, .inl (cyI, 36, .inl f0_debts))] := hD.sub [0, 2, 3, 1] (by decide) rfl
    generalize H1 = H at hP hS ⊢
    refine lv_istore (lv' := [(4, .int r11), (3, .int r6), (0, .ref a0), (1, .ref a1), (2, .int p2)]) hx hb dX2_readDebt_33 hl (by decide) rfl (fun ls hl => ?_)
    refine lv_iload_n hx hb dX2_readDebt_35 rfl (lv_at hl 1 rfl) ?_
    refine lv_iload hx hb dX2_readDebt_36 (lv_at hl 0 rfl) ?_
    refine lv_icmp_ne (tgt := 46) hx hb dX2_readDebt_38 (by decide) (fun c12 => ?_) (fun c12 => ?_)
    · have hw := hw.1 c12
      exact kb_X2_readDebt_46 dC dI cyB cyI cyJ cyP a0 a1 a1_bytes a0_debts z0_formX z0_formY z0_foxX z0_foxY z0_seat z0_strength z0_near z0_forms z0_foxes z0_safe z1_filled v0_hares v1_length f1_bytes Q  C0 _ _ _ x7 x8 x9 x10 f0_debts r6 r11 hP hD hS (lv_sub hl [2, 3, 1, 0] rfl) hw
    · have hw := hw.2 c12
      refine lv_aload_n hx hb dX2_readDebt_41 rfl (lv_at hl 3 rfl) ?_
      refine lv_iconst (v := 2) hx hb dX2_readDebt_42 (by decide) ?_
      have hPc := hP.sub (ws' := [(a1, .inr (8, [.ref a1_bytes, .int v1_length, .int x7, .int x10, z1_filled, .int x8, .int x9]))]) [1] rfl
      have hDc := hD.sub (ws' := [(a1, .inr (8, [.ref a1_bytes, .int v1_length, .int x7, .int x10, z1_filled, .int x8, .int x9]))]) [1] (by decide) rfl
      have hFc := va_free (wc := [(a1, .inr (8, [.ref a1_bytes, .int v1_length, .int x7, .int x10, z1_filled, .int x8, .int x9]))]) hD hS hA [1] rfl
      refine va_callv (va_runV (As := [.int 2]) (rest := []) ⟨hx, hb, hml, hown, hts⟩ (ck_X8_blameToken l dC dI cyB cyI cyJ cyP a1 H.size (.ref a1_bytes) (.int v1_length) (.int x7) (z1_filled) x10 x8 x9 2 hw) (cwV 1 hts gX2_readDebt_X8_blameToken rfl rfl rfl (by decide +kernel) ⟨Nat.le_of_ble_eq_true rfl, Nat.le_of_ble_eq_true rfl⟩) ⟨cPc_blind, va_recv hK hPc (ci := 8) (q0 := 0) rfl rfl, cPc_pre hPc hK hDc hNw⟩ rfl rfl hl.1 rfl (lv_room (Nat.le_of_ble_eq_true rfl)) dX2_readDebt_43 ⟨Nat.le_of_ble_eq_true rfl, Nat.le_of_ble_eq_true rfl⟩) hS (fun q _ h => hFc q h) hFc (fun u t H1 locs ht hvm hw hB hz1 hk1 hS => ?_)
      obtain ⟨x13, x14⟩ := u
      obtain ⟨hP1, hK1, hD1⟩ := hB
      rw [ht] at hP1
      obtain ⟨hP, hD⟩ := va_join (wr := [(a0, .inr (2, [z0_formX, z0_formY, z0_foxX, z0_foxY, z0_seat, z0_strength, .ref a0_debts, z0_near, z0_forms, .int v0_hares, z0_foxes, z0_safe])), (a1_bytes, .inl (cyB, 600, .inl f1_bytes)), (a0_debts, .inl (cyI, 36, .inl f0_debts))]) (w1 := [(a1, .inr (8, [.ref a1_bytes, .int v1_length, .int x7, .int x10, z1_filled, .int x13, .int x14]))]) hP hD [1] [0, 2, 3] rfl rfl (by decide) (by decide) hk1 hFc hP1 hD1
      have hP : va_P (dC, dI) vwCl [(a0, .inr (2, [z0_formX, z0_formY, z0_foxX, z0_foxY, z0_seat, z0_strength, .ref a0_debts, z0_near, z0_forms, .int v0_hares, z0_foxes, z0_safe])), (a1, .inr (8, [.ref a1_bytes, .int v1_length, .int x7, .int x10, z1_filled, .int x13, .int x14])), (a1_bytes, .inl (cyB, 600, .inl f1_bytes)), (a0_debts, .inl (cyI, 36, .inl f0_debts))] H1 := hP.sub [0, 3, 1, 2] rfl
      have hD : va_D A [(a0, .inr (2, [z0_formX, z0_formY, z0_foxX, z0_foxY, z0_seat, z0_strength, .ref a0_debts, z0_near, z0_forms, .int v0_hares, z0_foxes, z0_safe])), (a1, .inr (8, [.ref a1_bytes, .int v1_length, .int x7, .int x10, z1_filled, .int x13, .int x14])), (a1_bytes, .inl (cyB, 600, .inl f1_bytes)), (a0_debts, .inl (cyI, 36, .inl f0_debts))] := hD.sub [0, 3, 1, 2] (by decide) rfl
      generalize H1 = H at hP hS ⊢
      exact kb_X2_readDebt_46 dC dI cyB cyI cyJ cyP a0 a1 a1_bytes a0_debts z0_formX z0_formY z0_foxX z0_foxY z0_seat z0_strength z0_near z0_forms z0_foxes z0_safe z1_filled v0_hares v1_length f1_bytes Q  C0 _ _ _ x7 x13 x14 x10 f0_debts r6 r11 hP hD hS (lv_sub hl [2, 3, 1, 0] rfl) hw
  · have hw := hw.2 c1
    refine lv_aload_n hx hb dX2_readDebt_4 rfl (lv_at hl 1 rfl) ?_
    refine lv_iconst (v := 3) hx hb dX2_readDebt_5 (by decide) ?_
    have hPc := hP.sub (ws' := [(a1, .inr (8, [.ref a1_bytes, .int v1_length, .int v1_at, .int v1_token, z1_filled, .int v1_fault, .int v1_faultPlace]))]) [1] rfl
    have hDc := hD.sub (ws' := [(a1, .inr (8, [.ref a1_bytes, .int v1_length, .int v1_at, .int v1_token, z1_filled, .int v1_fault, .int v1_faultPlace]))]) [1] (by decide) rfl
    have hFc := va_free (wc := [(a1, .inr (8, [.ref a1_bytes, .int v1_length, .int v1_at, .int v1_token, z1_filled, .int v1_fault, .int v1_faultPlace]))]) hD hS hA [1] rfl
    refine va_callv (va_runV (As := [.int 3]) (rest := []) ⟨hx, hb, hml, hown, hts⟩ (ck_X8_blameToken l dC dI cyB cyI cyJ cyP a1 H.size (.ref a1_bytes) (.int v1_length) (.int v1_at) (z1_filled) v1_token v1_fault v1_faultPlace 3 hw) (cwV 1 hts gX2_readDebt_X8_blameToken rfl rfl rfl (by decide +kernel) ⟨Nat.le_of_ble_eq_true rfl, Nat.le_of_ble_eq_true rfl⟩) ⟨cPc_blind, va_recv hK hPc (ci := 8) (q0 := 0) rfl rfl, cPc_pre hPc hK hDc hNw⟩ rfl rfl hl.1 rfl (lv_room (Nat.le_of_ble_eq_true rfl)) dX2_readDebt_6 ⟨Nat.le_of_ble_eq_true rfl, Nat.le_of_ble_eq_true rfl⟩) hS (fun q _ h => hFc q h) hFc (fun u t H1 locs ht hvm hw hB hz1 hk1 hS => ?_)
    obtain ⟨x15, x16⟩ := u
    obtain ⟨hP1, hK1, hD1⟩ := hB
    rw [ht] at hP1
    obtain ⟨hP, hD⟩ := va_join (wr := [(a0, .inr (2, [z0_formX, z0_formY, z0_foxX, z0_foxY, z0_seat, z0_strength, .ref a0_debts, z0_near, z0_forms, .int v0_hares, z0_foxes, z0_safe])), (a1_bytes, .inl (cyB, 600, .inl f1_bytes)), (a0_debts, .inl (cyI, 36, .inl f0_debts))]) (w1 := [(a1, .inr (8, [.ref a1_bytes, .int v1_length, .int v1_at, .int v1_token, z1_filled, .int x15, .int x16]))]) hP hD [1] [0, 2, 3] rfl rfl (by decide) (by decide) hk1 hFc hP1 hD1
    have hP : va_P (dC, dI) vwCl [(a0, .inr (2, [z0_formX, z0_formY, z0_foxX, z0_foxY, z0_seat, z0_strength, .ref a0_debts, z0_near, z0_forms, .int v0_hares, z0_foxes, z0_safe])), (a1, .inr (8, [.ref a1_bytes, .int v1_length, .int v1_at, .int v1_token, z1_filled, .int x15, .int x16])), (a1_bytes, .inl (cyB, 600, .inl f1_bytes)), (a0_debts, .inl (cyI, 36, .inl f0_debts))] H1 := hP.sub [0, 3, 1, 2] rfl
    have hD : va_D A [(a0, .inr (2, [z0_formX, z0_formY, z0_foxX, z0_foxY, z0_seat, z0_strength, .ref a0_debts, z0_near, z0_forms, .int v0_hares, z0_foxes, z0_safe])), (a1, .inr (8, [.ref a1_bytes, .int v1_length, .int v1_at, .int v1_token, z1_filled, .int x15, .int x16])), (a1_bytes, .inl (cyB, 600, .inl f1_bytes)), (a0_debts, .inl (cyI, 36, .inl f0_debts))] := hD.sub [0, 3, 1, 2] (by decide) rfl
    generalize H1 = H at hP hS ⊢
    exact ((W.vret hx hb hr (fun t ht hW => ⟨⟨(v1_at, x15, x16, v1_token, f0_debts), rfl, hw, by rw [ht]; exact hP, va_K.moved hW.alike hK, hD⟩, hS.F ht⟩) hS.2.2 dX2_readDebt_9))
theorem ui_X2_foxIsNear_X2 : ∀ w ∈ u_ws RX2 TX2 12, w ∈ wsX2_foxIsNear := by decide +kernel
theorem uw_X2_foxIsNear_f15 : (.fieldLink RX2 15 "MarchHares$Down" "formY" "[I" : Cond) ∈ wsX2_foxIsNear := by decide +kernel
theorem uw_X2_foxIsNear_f18 : (.fieldLink RX2 18 "MarchHares$Down" "foxX" "[I" : Cond) ∈ wsX2_foxIsNear := by decide +kernel
theorem uw_X2_foxIsNear_f21 : (.fieldLink RX2 21 "MarchHares$Down" "foxY" "[I" : Cond) ∈ wsX2_foxIsNear := by decide +kernel
theorem uw_X2_foxIsNear_f43 : (.fieldLink RX2 43 "MarchHares$Down" "foxes" "I" : Cond) ∈ wsX2_foxIsNear := by decide +kernel
theorem uw_X2_foxIsNear_f9 : (.fieldLink RX2 9 "MarchHares$Down" "formX" "[I" : Cond) ∈ wsX2_foxIsNear := by decide +kernel
theorem uw_X2_foxIsNear_inim : (.initialized "java/lang/Math" : Cond) ∈ wsX2_foxIsNear := by decide +kernel
theorem uw_X2_foxIsNear_m108 : (.methodLink RX2 108 Lib.Math.abs.name : Cond) ∈ wsX2_foxIsNear := by decide +kernel
theorem uw_X2_foxIsNear_mcabs : (.code Lib.Math.abs.name Lib.Math.abs.code 1 (some .int) : Cond) ∈ wsX2_foxIsNear := by decide +kernel
theorem uw_X2_foxIsNear_msabs : (.static Lib.Math.abs.name : Cond) ∈ wsX2_foxIsNear := by decide +kernel
def wl_X2_foxIsNear_2 (v0_foxes : Int32) (f0_formX : Nat → Int32) (f0_foxX : Nat → Int32) (f0_formY : Nat → Int32) (f0_foxY : Nat → Int32) (Q : Int32 → Prop)  : Nat → Int32 → Int32 → Prop
  | 0, _, _ => False
  | n + 1, l1, l2 => ((v0_foxes ≤ l2 → (Q 0)) ∧ (¬ v0_foxes ≤ l2 → vp_in l1 8 ∧ ∀ x2 : Int32, x2 = f0_formX l1.toNatClampNeg → vp_in l2 4 ∧ ∀ x3 : Int32, x3 = f0_foxX l2.toNatClampNeg → ∀ x4 : Int32, x4 = (if 0 ≤ x2 - x3 then x2 - x3 else 0 - (x2 - x3)) → vp_in l1 8 ∧ ∀ x5 : Int32, x5 = f0_formY l1.toNatClampNeg → vp_in l2 4 ∧ ∀ x6 : Int32, x6 = f0_foxY l2.toNatClampNeg → ∀ x7 : Int32, x7 = (if 0 ≤ x5 - x6 then x5 - x6 else 0 - (x5 - x6)) → ((3 < (x4 + x7) → ∀ x9 : Int32, x9 = l2 + 1 → (wl_X2_foxIsNear_2 v0_foxes f0_formX f0_foxX f0_formY f0_foxY Q  n l1 x9)) ∧ (¬ 3 < (x4 + x7) → (Q 1)))))
set_option maxHeartbeats 4000000 in
set_option maxRecDepth 100000 in
theorem kl_X2_foxIsNear_2 {p : Program} {l : Launch} {e : Env} {s : State} {m : MethodId} {args : Array Value} {below : List Frame} {meth : Method} {c : Code} {A : Nat → Prop} (dC : Nat → ClassId) (dI : Nat → Nat → Nat) (cyB cyI cyJ cyP : ClassId) (a0 a0_formX a0_foxX a0_formY a0_foxY : Nat) (z0_seat : Value) (z0_strength : Value) (z0_debts : Value) (z0_near : Value) (z0_forms : Value) (z0_hares : Value) (z0_safe : Value) (v0_foxes : Int32) (f0_formX : Nat → Int32) (f0_foxX : Nat → Int32) (f0_formY : Nat → Int32) (f0_foxY : Nat → Int32) (Q : Int32 → Prop)  (C0 : cfx p s m args meth c cX2_foxIsNear (some .boolean) wsX2_foxIsNear RX2 3 A (dC, dI) (kT cyB cyI cyJ cyP)) : ∀ (n : Nat) (H : Heap) (locs : List Loc) (ls : Array Slot) (l1 : Int32) (l2 : Int32), va_P (dC, dI) vwCl [(a0, .inr (2, [.ref a0_formX, .ref a0_formY, .ref a0_foxX, .ref a0_foxY, z0_seat, z0_strength, z0_debts, z0_near, z0_forms, z0_hares, .int v0_foxes, z0_safe])), (a0_formX, .inl (cyI, 8, .inl f0_formX)), (a0_foxX, .inl (cyI, 4, .inl f0_foxX)), (a0_formY, .inl (cyI, 8, .inl f0_formY)), (a0_foxY, .inl (cyI, 4, .inl f0_foxY))] H → va_D A [(a0, .inr (2, [.ref a0_formX, .ref a0_formY, .ref a0_foxX, .ref a0_foxY, z0_seat, z0_strength, z0_debts, z0_near, z0_forms, z0_hares, .int v0_foxes, z0_safe])), (a0_formX, .inl (cyI, 8, .inl f0_formX)), (a0_foxX, .inl (cyI, 4, .inl f0_foxX)), (a0_formY, .inl (cyI, 8, .inl f0_formY)), (a0_foxY, .inl (cyI, 4, .inl f0_foxY))] → va_S A s.heap H locs → lv_has ls 3 [(0, .ref a0), (1, .int l1), (2, .int l2)] → wl_X2_foxIsNear_2 v0_foxes f0_formX f0_foxX f0_formY f0_foxY Q  n l1 l2 → W p l e (headSpec wsX2_foxIsNear ({ frames := 1, cells := 0, slots := 0, locals := 32 })).room s m args below meth c H locs 0 0 (MQ below (va_Qi (fun (r : Int32) (_ : Unit) => Q r ) (cB (dC, dI) (kT cyB cyI cyJ cyP) A (fun u : Unit => ([(a0, .inr (2, [.ref a0_formX, .ref a0_formY, .ref a0_foxX, .ref a0_foxY, z0_seat, z0_strength, z0_debts, z0_near, z0_forms, z0_hares, .int v0_foxes, z0_safe])), (a0_formX, .inl (cyI, 8, .inl f0_formX)), (a0_foxX, .inl (cyI, 4, .inl f0_foxX)), (a0_formY, .inl (cyI, 8, .inl f0_formY)), (a0_foxY, .inl (cyI, 4, .inl f0_foxY))] : va_W))) A) args s 0 0 A) (F0 m 2 ls []) := by
  obtain ⟨hx, hb, hr, hts, hown, hlocks, hml, hA, hK, hNw⟩ := id C0
  intro n
  induction n with
  | zero => intro H locs ls l1 l2 hP hD hS hl hw; exact False.elim hw
  | succ n ih =>
    intro H locs ls l1 l2 hP hD hS hl hw
    refine lv_iload_n hx hb dX2_foxIsNear_2 rfl (lv_at hl 2 rfl) ?_
    refine lv_aload_n hx hb dX2_foxIsNear_3 rfl (lv_at hl 0 rfl) ?_
    refine va_get (D := (dC, dI)) (ci := 2) (v := .int v0_foxes) (C := RX2) (T := TX2) (N := 12) hx hb hts ui_X2_foxIsNear_X2 hown hK hP 0 rfl rfl 10 (by decide) (hts _ uw_X2_foxIsNear_f43) (fun _ h9 => h9) rfl dX2_foxIsNear_4 ?_
    refine lv_icmp_ge (tgt := 55) hx hb dX2_foxIsNear_7 (by decide) (fun c1 => ?_) (fun c1 => ?_)
    · have hw := hw.1 c1
      refine lv_iconst (v := 0) hx hb dX2_foxIsNear_55 (by decide) ?_
      exact ((W.zret (v := 0) hx hb hr rfl (fun t ht hW => ⟨⟨0, (), rfl, hw, by rw [ht]; exact hP, va_K.moved hW.alike hK, hD⟩, hS.F ht⟩) hS.2.2 dX2_foxIsNear_56))
    · have hw := hw.2 c1
      refine lv_aload_n hx hb dX2_foxIsNear_10 rfl (lv_at hl 0 rfl) ?_
      refine va_get (D := (dC, dI)) (ci := 2) (v := .ref a0_formX) (C := RX2) (T := TX2) (N := 12) hx hb hts ui_X2_foxIsNear_X2 hown hK hP 0 rfl rfl 0 (by decide) (hts _ uw_X2_foxIsNear_f9) (fun _ h9 => h9) rfl dX2_foxIsNear_11 ?_
      refine lv_iload_n hx hb dX2_foxIsNear_14 rfl (lv_at hl 1 rfl) ?_
      obtain ⟨hi9, hw⟩ := hw
      refine va_iald hx hb hK hP 1 1 rfl rfl hi9 dX2_foxIsNear_15 ?_
      refine lv_topi (fun x2 ex2 => ?_)
      have hw := hw x2 ex2
      refine lv_aload_n hx hb dX2_foxIsNear_16 rfl (lv_at hl 0 rfl) ?_
      refine va_get (D := (dC, dI)) (ci := 2) (v := .ref a0_foxX) (C := RX2) (T := TX2) (N := 12) hx hb hts ui_X2_foxIsNear_X2 hown hK hP 0 rfl rfl 2 (by decide) (hts _ uw_X2_foxIsNear_f18) (fun _ h9 => h9) rfl dX2_foxIsNear_17 ?_
      refine lv_iload_n hx hb dX2_foxIsNear_20 rfl (lv_at hl 2 rfl) ?_
      obtain ⟨hi9, hw⟩ := hw
      refine va_iald hx hb hK hP 2 1 rfl rfl hi9 dX2_foxIsNear_21 ?_
      refine lv_topi (fun x3 ex3 => ?_)
      have hw := hw x3 ex3
      refine lv_isub hx hb dX2_foxIsNear_22 ?_
      refine va_mabs hx hb (by rw [hml]; exact hl.1.symm) hown (hts _ uw_X2_foxIsNear_m108) (hts _ uw_X2_foxIsNear_msabs) (hts _ uw_X2_foxIsNear_inim) (hts _ uw_X2_foxIsNear_mcabs) (Nat.le_of_ble_eq_true rfl) (Nat.le_of_ble_eq_true rfl) (Nat.le_of_ble_eq_true rfl) (Nat.le_of_ble_eq_true rfl) dX2_foxIsNear_23 ?_
      refine lv_topi (fun x4 ex4 => ?_)
      have hw := hw x4 ex4
      refine lv_aload_n hx hb dX2_foxIsNear_26 rfl (lv_at hl 0 rfl) ?_
      refine va_get (D := (dC, dI)) (ci := 2) (v := .ref a0_formY) (C := RX2) (T := TX2) (N := 12) hx hb hts ui_X2_foxIsNear_X2 hown hK hP 0 rfl rfl 1 (by decide) (hts _ uw_X2_foxIsNear_f15) (fun _ h9 => h9) rfl dX2_foxIsNear_27 ?_
      refine lv_iload_n hx hb dX2_foxIsNear_30 rfl (lv_at hl 1 rfl) ?_
      obtain ⟨hi9, hw⟩ := hw
      refine va_iald hx hb hK hP 3 1 rfl rfl hi9 dX2_foxIsNear_31 ?_
      refine lv_topi (fun x5 ex5 => ?_)
      have hw := hw x5 ex5
      refine lv_aload_n hx hb dX2_foxIsNear_32 rfl (lv_at hl 0 rfl) ?_
      refine va_get (D := (dC, dI)) (ci := 2) (v := .ref a0_foxY) (C := RX2) (T := TX2) (N := 12) hx hb hts ui_X2_foxIsNear_X2 hown hK hP 0 rfl rfl 3 (by decide) (hts _ uw_X2_foxIsNear_f21) (fun _ h9 => h9) rfl dX2_foxIsNear_33 ?_
      refine lv_iload_n hx hb dX2_foxIsNear_36 rfl (lv_at hl 2 rfl) ?_
      obtain ⟨hi9, hw⟩ := hw
      refine va_iald hx hb hK hP 4 1 rfl rfl hi9 dX2_foxIsNear_37 ?_
      refine lv_topi (fun x6 ex6 => ?_)
      have hw := hw x6 ex6
      refine lv_isub hx hb dX2_foxIsNear_38 ?_
      refine va_mabs hx hb (by rw [hml]; exact hl.1.symm) hown (hts _ uw_X2_foxIsNear_m108) (hts _ uw_X2_foxIsNear_msabs) (hts _ uw_X2_foxIsNear_inim) (hts _ uw_X2_foxIsNear_mcabs) (Nat.le_of_ble_eq_true rfl) (Nat.le_of_ble_eq_true rfl) (Nat.le_of_ble_eq_true rfl) (Nat.le_of_ble_eq_true rfl) dX2_foxIsNear_39 ?_
      refine lv_topi (fun x7 ex7 => ?_)
      have hw := hw x7 ex7
      refine lv_iadd hx hb dX2_foxIsNear_42 ?_
      refine lv_iconst (v := 3) hx hb dX2_foxIsNear_43 (by decide) ?_
      refine lv_icmp_gt (tgt := 49) hx hb dX2_foxIsNear_44 (by decide) (fun c8 => ?_) (fun c8 => ?_)
      · have hw := hw.1 c8
        obtain ⟨x9, ex9⟩ : ∃ y : Int32, y = l2 + 1 := ⟨_, rfl⟩
        have hw := hw x9 ex9
        refine lv_iinc (v := x9) (lv' := [(2, .int x9), (0, .ref a0), (1, .int l1)]) hx hb dX2_foxIsNear_49 hl (k := 2) rfl (by rw [ex9]; rfl) (by decide) rfl (fun ls hl => ?_)
        refine lv_goto (tgt := 2) hx hb dX2_foxIsNear_52 (by decide) ?_
        exact ih _ _ _ l1 x9 hP hD hS (lv_sub hl [1, 2, 0] rfl) hw
      · have hw := hw.2 c8
        refine lv_iconst (v := 1) hx hb dX2_foxIsNear_47 (by decide) ?_
        exact ((W.zret (v := 1) hx hb hr rfl (fun t ht hW => ⟨⟨1, (), rfl, hw, by rw [ht]; exact hP, va_K.moved hW.alike hK, hD⟩, hS.F ht⟩) hS.2.2 dX2_foxIsNear_48))
def wq_X2_foxIsNear (v0_foxes : Int32) (f0_formX : Nat → Int32) (f0_foxX : Nat → Int32) (f0_formY : Nat → Int32) (f0_foxY : Nat → Int32)  (p1 : Int32) (Q : Int32 → Prop) : Prop := (∃ k9 : Nat, wl_X2_foxIsNear_2 v0_foxes f0_formX f0_foxX f0_formY f0_foxY Q  k9 p1 0)
set_option maxHeartbeats 4000000 in
set_option maxRecDepth 100000 in
theorem ck_X2_foxIsNear (l : Launch) (dC : Nat → ClassId) (dI : Nat → Nat → Nat) (cyB cyI cyJ cyP : ClassId) (a0 a0_formX a0_foxX a0_formY a0_foxY : Nat) (sz : Nat) (z0_seat : Value) (z0_strength : Value) (z0_debts : Value) (z0_near : Value) (z0_forms : Value) (z0_hares : Value) (z0_safe : Value) (v0_foxes : Int32) (f0_formX : Nat → Int32) (f0_foxX : Nat → Int32) (f0_formY : Nat → Int32) (f0_foxY : Nat → Int32)  (p1 : Int32) {Q : Int32 → Prop} (hw : wq_X2_foxIsNear v0_foxes f0_formX f0_foxX f0_formY f0_foxY  p1 Q) : Met l yX2_foxIsNear wsX2_foxIsNear ({ frames := 1, cells := 0, slots := 0, locals := 32 }) (va_Pc [.ref a0, .int p1] (cPc (dC, dI) (kT cyB cyI cyJ cyP) [(a0, .inr (2, [.ref a0_formX, .ref a0_formY, .ref a0_foxX, .ref a0_foxY, z0_seat, z0_strength, z0_debts, z0_near, z0_forms, z0_hares, .int v0_foxes, z0_safe])), (a0_formX, .inl (cyI, 8, .inl f0_formX)), (a0_foxX, .inl (cyI, 4, .inl f0_foxX)), (a0_formY, .inl (cyI, 8, .inl f0_formY)), (a0_foxY, .inl (cyI, 4, .inl f0_foxY))] sz)) (va_Qi (fun (r : Int32) (_ : Unit) => Q r ) (cB (dC, dI) (kT cyB cyI cyJ cyP) (va_A [(a0, .inr (2, [.ref a0_formX, .ref a0_formY, .ref a0_foxX, .ref a0_foxY, z0_seat, z0_strength, z0_debts, z0_near, z0_forms, z0_hares, .int v0_foxes, z0_safe])), (a0_formX, .inl (cyI, 8, .inl f0_formX)), (a0_foxX, .inl (cyI, 4, .inl f0_foxX)), (a0_formY, .inl (cyI, 8, .inl f0_formY)), (a0_foxY, .inl (cyI, 4, .inl f0_foxY))] sz) (fun u : Unit => ([(a0, .inr (2, [.ref a0_formX, .ref a0_formY, .ref a0_foxX, .ref a0_foxY, z0_seat, z0_strength, z0_debts, z0_near, z0_forms, z0_hares, .int v0_foxes, z0_safe])), (a0_formX, .inl (cyI, 8, .inl f0_formX)), (a0_foxX, .inl (cyI, 4, .inl f0_foxX)), (a0_formY, .inl (cyI, 8, .inl f0_formY)), (a0_foxY, .inl (cyI, 4, .inl f0_foxY))] : va_W))) (va_A [(a0, .inr (2, [.ref a0_formX, .ref a0_formY, .ref a0_foxX, .ref a0_foxY, z0_seat, z0_strength, z0_debts, z0_near, z0_forms, z0_hares, .int v0_foxes, z0_safe])), (a0_formX, .inl (cyI, 8, .inl f0_formX)), (a0_foxX, .inl (cyI, 4, .inl f0_foxX)), (a0_formY, .inl (cyI, 8, .inl f0_formY)), (a0_foxY, .inl (cyI, 4, .inl f0_foxY))] sz)) 0 0 (va_A [(a0, .inr (2, [.ref a0_formX, .ref a0_formY, .ref a0_foxX, .ref a0_foxY, z0_seat, z0_strength, z0_debts, z0_near, z0_forms, z0_hares, .int v0_foxes, z0_safe])), (a0_formX, .inl (cyI, 8, .inl f0_formX)), (a0_foxX, .inl (cyI, 4, .inl f0_foxX)), (a0_formY, .inl (cyI, 8, .inl f0_formY)), (a0_foxY, .inl (cyI, 4, .inl f0_foxY))] sz) := by
  refine Met.ofW (cc := cX2_foxIsNear) (maxL := 3) (ret := (some .boolean)) (by decide) rfl ?_
  intro p e s m args below meth c s₁ B hml hv
  obtain ⟨rfl, hsz, hP, hK, hD0, hNw⟩ := hv
  have hx := B.exec
  have hb := B.bytes
  have hr := B.returns
  have hts := atoms_spec (ws := wsX2_foxIsNear) B.pre
  have hown : s.vm.findClass RX2 = some m.cls := findClass_of_methodNamed B.named
  have hlocks := B.notSynchronized
  subst hsz
  have hD := hD0.self (sz := s.heap.size)
  generalize hAe : va_A [(a0, .inr (2, [.ref a0_formX, .ref a0_formY, .ref a0_foxX, .ref a0_foxY, z0_seat, z0_strength, z0_debts, z0_near, z0_forms, z0_hares, .int v0_foxes, z0_safe])), (a0_formX, .inl (cyI, 8, .inl f0_formX)), (a0_foxX, .inl (cyI, 4, .inl f0_foxX)), (a0_formY, .inl (cyI, 8, .inl f0_formY)), (a0_foxY, .inl (cyI, 4, .inl f0_foxY))] s.heap.size = A at hD ⊢
  have hA : ∀ q : Nat, s.heap.size ≤ q → A q := fun q h => by rw [← hAe]; exact Or.inr h
  have hS : va_S A s.heap s.heap [] := va_S.rf
  have hP : va_P (dC, dI) vwCl [(a0, .inr (2, [.ref a0_formX, .ref a0_formY, .ref a0_foxX, .ref a0_foxY, z0_seat, z0_strength, z0_debts, z0_near, z0_forms, z0_hares, .int v0_foxes, z0_safe])), (a0_formX, .inl (cyI, 8, .inl f0_formX)), (a0_foxX, .inl (cyI, 4, .inl f0_foxX)), (a0_formY, .inl (cyI, 8, .inl f0_formY)), (a0_foxY, .inl (cyI, 4, .inl f0_foxY))] s.heap := hP
  have hl := lv_entry ([.ref a0, .int p1]) (n := 3) (Nat.le_of_ble_eq_true rfl)
  rw [lg_entry_eq]
  generalize (lg_sl ([.ref a0, .int p1]) ++ List.replicate (3 - (lg_sl ([.ref a0, .int p1])).length) Slot.unset).toArray = ls at hl ⊢
  have hl : lv_has ls 3 [(0, .ref a0), (1, .int p1)] := hl
  have C0 : cfx p s m _ meth c cX2_foxIsNear (some .boolean) wsX2_foxIsNear RX2 3 A (dC, dI) (kT cyB cyI cyJ cyP) := ⟨hx, hb, hr, hts, hown, hlocks, hml, hA, hK, hNw⟩
  clear hAe
  obtain ⟨H, hH⟩ : ∃ H, H = s.heap := ⟨_, rfl⟩
  rw [← hH] at hP ⊢
  have hS : va_S A s.heap H [] := by rw [hH]; exact va_S.rf
  have hS := hS
  refine lv_iconst (v := 0) hx hb dX2_foxIsNear_0 (by decide) ?_
  refine lv_istore_n (lv' := [(2, .int 0), (0, .ref a0), (1, .int p1)]) hx hb dX2_foxIsNear_1 rfl hl (by decide) rfl (fun ls hl => ?_)
  obtain ⟨n9, hw⟩ := hw
  exact kl_X2_foxIsNear_2 dC dI cyB cyI cyJ cyP a0 a0_formX a0_foxX a0_formY a0_foxY z0_seat z0_strength z0_debts z0_near z0_forms z0_hares z0_safe v0_foxes f0_formX f0_foxX f0_formY f0_foxY Q  C0 n9 _ _ _ p1 0 hP hD hS (lv_sub hl [1, 2, 0] rfl) hw
theorem ui_X2_findSafe_X2 : ∀ w ∈ u_ws RX2 TX2 12, w ∈ wsX2_findSafe := by decide +kernel
theorem uw_X2_findSafe_f101 : (.fieldLink RX2 101 "MarchHares$Down" "safe" "I" : Cond) ∈ wsX2_findSafe := by decide +kernel
theorem uw_X2_findSafe_f36 : (.fieldLink RX2 36 "MarchHares$Down" "forms" "I" : Cond) ∈ wsX2_findSafe := by decide +kernel
def wb_X2_findSafe_35 (v0_forms : Int32) (v0_foxes : Int32) (f0_formX : Nat → Int32) (f0_foxX : Nat → Int32) (f0_formY : Nat → Int32) (f0_foxY : Nat → Int32) (Q : Int32 → Prop) (K7 : Int32 → Int32 → Prop) (v0_safe : Int32) (l1 : Int32) : Prop := ∀ x5 : Int32, x5 = l1 + 1 → (K7 v0_safe x5)
set_option maxHeartbeats 4000000 in
set_option maxRecDepth 100000 in
theorem kb_X2_findSafe_35 {p : Program} {l : Launch} {e : Env} {s : State} {m : MethodId} {args : Array Value} {below : List Frame} {meth : Method} {c : Code} {A : Nat → Prop} (dC : Nat → ClassId) (dI : Nat → Nat → Nat) (cyB cyI cyJ cyP : ClassId) (a0 a0_formX a0_foxX a0_formY a0_foxY : Nat) (z0_seat : Value) (z0_strength : Value) (z0_debts : Value) (z0_near : Value) (z0_hares : Value) (v0_forms : Int32) (v0_foxes : Int32) (f0_formX : Nat → Int32) (f0_foxX : Nat → Int32) (f0_formY : Nat → Int32) (f0_foxY : Nat → Int32) (Q : Int32 → Prop) (K7 : Int32 → Int32 → Prop) (hK7 : ∀ (H : Heap) (locs : List Loc) (ls : Array Slot) (v0_safe : Int32) (l1 : Int32), va_P (dC, dI) vwCl [(a0, .inr (2, [.ref a0_formX, .ref a0_formY, .ref a0_foxX, .ref a0_foxY, z0_seat, z0_strength, z0_debts, z0_near, .int v0_forms, z0_hares, .int v0_foxes, .int v0_safe])), (a0_formX, .inl (cyI, 8, .inl f0_formX)), (a0_foxX, .inl (cyI, 4, .inl f0_foxX)), (a0_formY, .inl (cyI, 8, .inl f0_formY)), (a0_foxY, .inl (cyI, 4, .inl f0_foxY))] H → va_D A [(a0, .inr (2, [.ref a0_formX, .ref a0_formY, .ref a0_foxX, .ref a0_foxY, z0_seat, z0_strength, z0_debts, z0_near, .int v0_forms, z0_hares, .int v0_foxes, .int v0_safe])), (a0_formX, .inl (cyI, 8, .inl f0_formX)), (a0_foxX, .inl (cyI, 4, .inl f0_foxX)), (a0_formY, .inl (cyI, 8, .inl f0_formY)), (a0_foxY, .inl (cyI, 4, .inl f0_foxY))] → va_S A s.heap H locs → lv_has ls 2 [(0, .ref a0), (1, .int l1)] → K7 v0_safe l1 → W p l e (headSpec wsX2_findSafe ({ frames := 2, cells := 0, slots := 0, locals := 54 })).room s m args below meth c H locs 0 0 (MQ below (va_Qv (fun (u : Int32) => Q u) (cB (dC, dI) (kT cyB cyI cyJ cyP) A (fun u : Int32 => ([(a0, .inr (2, [.ref a0_formX, .ref a0_formY, .ref a0_foxX, .ref a0_foxY, z0_seat, z0_strength, z0_debts, z0_near, .int v0_forms, z0_hares, .int v0_foxes, .int u])), (a0_formX, .inl (cyI, 8, .inl f0_formX)), (a0_foxX, .inl (cyI, 4, .inl f0_foxX)), (a0_formY, .inl (cyI, 8, .inl f0_formY)), (a0_foxY, .inl (cyI, 4, .inl f0_foxY))] : va_W))) A) args s 0 0 A) (F0 m 7 ls [])) (C0 : cfx p s m args meth c cX2_findSafe none wsX2_findSafe RX2 2 A (dC, dI) (kT cyB cyI cyJ cyP)) : ∀ (H : Heap) (locs : List Loc) (ls : Array Slot) (v0_safe : Int32) (l1 : Int32), va_P (dC, dI) vwCl [(a0, .inr (2, [.ref a0_formX, .ref a0_formY, .ref a0_foxX, .ref a0_foxY, z0_seat, z0_strength, z0_debts, z0_near, .int v0_forms, z0_hares, .int v0_foxes, .int v0_safe])), (a0_formX, .inl (cyI, 8, .inl f0_formX)), (a0_foxX, .inl (cyI, 4, .inl f0_foxX)), (a0_formY, .inl (cyI, 8, .inl f0_formY)), (a0_foxY, .inl (cyI, 4, .inl f0_foxY))] H → va_D A [(a0, .inr (2, [.ref a0_formX, .ref a0_formY, .ref a0_foxX, .ref a0_foxY, z0_seat, z0_strength, z0_debts, z0_near, .int v0_forms, z0_hares, .int v0_foxes, .int v0_safe])), (a0_formX, .inl (cyI, 8, .inl f0_formX)), (a0_foxX, .inl (cyI, 4, .inl f0_foxX)), (a0_formY, .inl (cyI, 8, .inl f0_formY)), (a0_foxY, .inl (cyI, 4, .inl f0_foxY))] → va_S A s.heap H locs → lv_has ls 2 [(0, .ref a0), (1, .int l1)] → wb_X2_findSafe_35 v0_forms v0_foxes f0_formX f0_foxX f0_formY f0_foxY Q K7 v0_safe l1 → W p l e (headSpec wsX2_findSafe ({ frames := 2, cells := 0, slots := 0, locals := 54 })).room s m args below meth c H locs 0 0 (MQ below (va_Qv (fun (u : Int32) => Q u) (cB (dC, dI) (kT cyB cyI cyJ cyP) A (fun u : Int32 => ([(a0, .inr (2, [.ref a0_formX, .ref a0_formY, .ref a0_foxX, .ref a0_foxY, z0_seat, z0_strength, z0_debts, z0_near, .int v0_forms, z0_hares, .int v0_foxes, .int u])), (a0_formX, .inl (cyI, 8, .inl f0_formX)), (a0_foxX, .inl (cyI, 4, .inl f0_foxX)), (a0_formY, .inl (cyI, 8, .inl f0_formY)), (a0_foxY, .inl (cyI, 4, .inl f0_foxY))] : va_W))) A) args s 0 0 A) (F0 m 35 ls []) := by
  obtain ⟨hx, hb, hr, hts, hown, hlocks, hml, hA, hK, hNw⟩ := id C0
  intro H locs ls v0_safe l1 hP hD hS hl hw
  obtain ⟨x5, ex5⟩ : ∃ y : Int32, y = l1 + 1 := ⟨_, rfl⟩
  have hw := hw x5 ex5
  refine lv_iinc (v := x5) (lv' := [(1, .int x5), (0, .ref a0)]) hx hb dX2_findSafe_35 hl (k := 1) rfl (by rw [ex5]; rfl) (by decide) rfl (fun ls hl => ?_)
  refine lv_goto (tgt := 7) hx hb dX2_findSafe_38 (by decide) ?_
  exact hK7 _ _ _ v0_safe x5 hP hD hS (lv_sub hl [1, 0] rfl) hw
def wl_X2_findSafe_7 (v0_forms : Int32) (v0_foxes : Int32) (f0_formX : Nat → Int32) (f0_foxX : Nat → Int32) (f0_formY : Nat → Int32) (f0_foxY : Nat → Int32) (Q : Int32 → Prop)  : Nat → Int32 → Int32 → Prop
  | 0, _, _ => False
  | n + 1, v0_safe, l1 => ((v0_forms ≤ l1 → (Q v0_safe)) ∧ (¬ v0_forms ≤ l1 → wq_X2_foxIsNear v0_foxes f0_formX f0_foxX f0_formY f0_foxY  l1 (fun r2 => ((¬ r2 = 0 → (wb_X2_findSafe_35 v0_forms v0_foxes f0_formX f0_foxX f0_formY f0_foxY Q (fun v0_safe l1 => wl_X2_findSafe_7 v0_forms v0_foxes f0_formX f0_foxX f0_formY f0_foxY Q  n v0_safe l1) v0_safe l1)) ∧ (r2 = 0 → ∀ x4 : Int32, x4 = v0_safe ||| (1 <<< (l1 &&& 31)) → (wb_X2_findSafe_35 v0_forms v0_foxes f0_formX f0_foxX f0_formY f0_foxY Q (fun v0_safe l1 => wl_X2_findSafe_7 v0_forms v0_foxes f0_formX f0_foxX f0_formY f0_foxY Q  n v0_safe l1) x4 l1))))))
set_option maxHeartbeats 4000000 in
set_option maxRecDepth 100000 in
theorem kl_X2_findSafe_7 {p : Program} {l : Launch} {e : Env} {s : State} {m : MethodId} {args : Array Value} {below : List Frame} {meth : Method} {c : Code} {A : Nat → Prop} (dC : Nat → ClassId) (dI : Nat → Nat → Nat) (cyB cyI cyJ cyP : ClassId) (a0 a0_formX a0_foxX a0_formY a0_foxY : Nat) (z0_seat : Value) (z0_strength : Value) (z0_debts : Value) (z0_near : Value) (z0_hares : Value) (v0_forms : Int32) (v0_foxes : Int32) (f0_formX : Nat → Int32) (f0_foxX : Nat → Int32) (f0_formY : Nat → Int32) (f0_foxY : Nat → Int32) (Q : Int32 → Prop)  (C0 : cfx p s m args meth c cX2_findSafe none wsX2_findSafe RX2 2 A (dC, dI) (kT cyB cyI cyJ cyP)) : ∀ (n : Nat) (H : Heap) (locs : List Loc) (ls : Array Slot) (v0_safe : Int32) (l1 : Int32), va_P (dC, dI) vwCl [(a0, .inr (2, [.ref a0_formX, .ref a0_formY, .ref a0_foxX, .ref a0_foxY, z0_seat, z0_strength, z0_debts, z0_near, .int v0_forms, z0_hares, .int v0_foxes, .int v0_safe])), (a0_formX, .inl (cyI, 8, .inl f0_formX)), (a0_foxX, .inl (cyI, 4, .inl f0_foxX)), (a0_formY, .inl (cyI, 8, .inl f0_formY)), (a0_foxY, .inl (cyI, 4, .inl f0_foxY))] H → va_D A [(a0, .inr (2, [.ref a0_formX, .ref a0_formY, .ref a0_foxX, .ref a0_foxY, z0_seat, z0_strength, z0_debts, z0_near, .int v0_forms, z0_hares, .int v0_foxes, .int v0_safe])), (a0_formX, .inl (cyI, 8, .inl f0_formX)), (a0_foxX, .inl (cyI, 4, .inl f0_foxX)), (a0_formY, .inl (cyI, 8, .inl f0_formY)), (a0_foxY, .inl (cyI, 4, .inl f0_foxY))] → va_S A s.heap H locs → lv_has ls 2 [(0, .ref a0), (1, .int l1)] → wl_X2_findSafe_7 v0_forms v0_foxes f0_formX f0_foxX f0_formY f0_foxY Q  n v0_safe l1 → W p l e (headSpec wsX2_findSafe ({ frames := 2, cells := 0, slots := 0, locals := 54 })).room s m args below meth c H locs 0 0 (MQ below (va_Qv (fun (u : Int32) => Q u) (cB (dC, dI) (kT cyB cyI cyJ cyP) A (fun u : Int32 => ([(a0, .inr (2, [.ref a0_formX, .ref a0_formY, .ref a0_foxX, .ref a0_foxY, z0_seat, z0_strength, z0_debts, z0_near, .int v0_forms, z0_hares, .int v0_foxes, .int u])), (a0_formX, .inl (cyI, 8, .inl f0_formX)), (a0_foxX, .inl (cyI, 4, .inl f0_foxX)), (a0_formY, .inl (cyI, 8, .inl f0_formY)), (a0_foxY, .inl (cyI, 4, .inl f0_foxY))] : va_W))) A) args s 0 0 A) (F0 m 7 ls []) := by
  obtain ⟨hx, hb, hr, hts, hown, hlocks, hml, hA, hK, hNw⟩ := id C0
  intro n
  induction n with
  | zero => intro H locs ls v0_safe l1 hP hD hS hl hw; exact False.elim hw
  | succ n ih =>
    intro H locs ls v0_safe l1 hP hD hS hl hw
    refine lv_iload_n hx hb dX2_findSafe_7 rfl (lv_at hl 1 rfl) ?_
    refine lv_aload_n hx hb dX2_findSafe_8 rfl (lv_at hl 0 rfl) ?_
    refine va_get (D := (dC, dI)) (ci := 2) (v := .int v0_forms) (C := RX2) (T := TX2) (N := 12) hx hb hts ui_X2_findSafe_X2 hown hK hP 0 rfl rfl 8 (by decide) (hts _ uw_X2_findSafe_f36) (fun _ h9 => h9) rfl dX2_findSafe_9 ?_
    refine lv_icmp_ge (tgt := 41) hx hb dX2_findSafe_12 (by decide) (fun c1 => ?_) (fun c1 => ?_)
    · have hw := hw.1 c1
      exact ((W.vret hx hb hr (fun t ht hW => ⟨⟨(v0_safe), rfl, hw, by rw [ht]; exact hP, va_K.moved hW.alike hK, hD⟩, hS.F ht⟩) hS.2.2 dX2_findSafe_41))
    · have hw := hw.2 c1
      refine lv_aload_n hx hb dX2_findSafe_15 rfl (lv_at hl 0 rfl) ?_
      refine lv_iload_n hx hb dX2_findSafe_16 rfl (lv_at hl 1 rfl) ?_
      have hPc := hP.sub (ws' := [(a0, .inr (2, [.ref a0_formX, .ref a0_formY, .ref a0_foxX, .ref a0_foxY, z0_seat, z0_strength, z0_debts, z0_near, .int v0_forms, z0_hares, .int v0_foxes, .int v0_safe])), (a0_formX, .inl (cyI, 8, .inl f0_formX)), (a0_foxX, .inl (cyI, 4, .inl f0_foxX)), (a0_formY, .inl (cyI, 8, .inl f0_formY)), (a0_foxY, .inl (cyI, 4, .inl f0_foxY))]) [0, 1, 2, 3, 4] rfl
      have hDc := hD.sub (ws' := [(a0, .inr (2, [.ref a0_formX, .ref a0_formY, .ref a0_foxX, .ref a0_foxY, z0_seat, z0_strength, z0_debts, z0_near, .int v0_forms, z0_hares, .int v0_foxes, .int v0_safe])), (a0_formX, .inl (cyI, 8, .inl f0_formX)), (a0_foxX, .inl (cyI, 4, .inl f0_foxX)), (a0_formY, .inl (cyI, 8, .inl f0_formY)), (a0_foxY, .inl (cyI, 4, .inl f0_foxY))]) [0, 1, 2, 3, 4] (by decide) rfl
      have hFc := va_free (wc := [(a0, .inr (2, [.ref a0_formX, .ref a0_formY, .ref a0_foxX, .ref a0_foxY, z0_seat, z0_strength, z0_debts, z0_near, .int v0_forms, z0_hares, .int v0_foxes, .int v0_safe])), (a0_formX, .inl (cyI, 8, .inl f0_formX)), (a0_foxX, .inl (cyI, 4, .inl f0_foxX)), (a0_formY, .inl (cyI, 8, .inl f0_formY)), (a0_foxY, .inl (cyI, 4, .inl f0_foxY))]) hD hS hA [0, 1, 2, 3, 4] rfl
      refine va_calli (va_runV (As := [.int l1]) (rest := []) ⟨hx, hb, hml, hown, hts⟩ (ck_X2_foxIsNear l dC dI cyB cyI cyJ cyP a0 a0_formX a0_foxX a0_formY a0_foxY H.size (z0_seat) (z0_strength) (z0_debts) (z0_near) (.int v0_forms) (z0_hares) (.int v0_safe) v0_foxes f0_formX f0_foxX f0_formY f0_foxY  l1 hw) (cwV 1 hts gX2_findSafe_X2_foxIsNear rfl rfl rfl (by decide +kernel) ⟨Nat.le_of_ble_eq_true rfl, Nat.le_of_ble_eq_true rfl⟩) ⟨cPc_blind, va_recv hK hPc (ci := 2) (q0 := 0) rfl rfl, cPc_pre hPc hK hDc hNw⟩ rfl rfl hl.1 rfl (lv_room (Nat.le_of_ble_eq_true rfl)) dX2_findSafe_17 ⟨Nat.le_of_ble_eq_true rfl, Nat.le_of_ble_eq_true rfl⟩) hS (fun q _ h => hFc q h) hFc (fun r2 u t H1 locs ht hvm hw hB hz1 hk1 hS => ?_)
      obtain ⟨hP1, hK1, hD1⟩ := hB
      rw [ht] at hP1
      obtain ⟨hP, hD⟩ := va_join (wr := []) (w1 := [(a0, .inr (2, [.ref a0_formX, .ref a0_formY, .ref a0_foxX, .ref a0_foxY, z0_seat, z0_strength, z0_debts, z0_near, .int v0_forms, z0_hares, .int v0_foxes, .int v0_safe])), (a0_formX, .inl (cyI, 8, .inl f0_formX)), (a0_foxX, .inl (cyI, 4, .inl f0_foxX)), (a0_formY, .inl (cyI, 8, .inl f0_formY)), (a0_foxY, .inl (cyI, 4, .inl f0_foxY))]) hP hD [0, 1, 2, 3, 4] [] rfl rfl (by decide) (by decide) hk1 hFc hP1 hD1
      have hP : va_P (dC, dI) vwCl [(a0, .inr (2, [.ref a0_formX, .ref a0_formY, .ref a0_foxX, .ref a0_foxY, z0_seat, z0_strength, z0_debts, z0_near, .int v0_forms, z0_hares, .int v0_foxes, .int v0_safe])), (a0_formX, .inl (cyI, 8, .inl f0_formX)), (a0_foxX, .inl (cyI, 4, .inl f0_foxX)), (a0_formY, .inl (cyI, 8, .inl f0_formY)), (a0_foxY, .inl (cyI, 4, .inl f0_foxY))] H1 := hP
      have hD : va_D A [(a0, .inr (2, [.ref a0_formX, .ref a0_formY, .ref a0_foxX, .ref a0_foxY, z0_seat, z0_strength, z0_debts, z0_near, .int v0_forms, z0_hares, .int v0_foxes, .int v0_safe])), (a0_formX, .inl (cyI, 8, .inl f0_formX)), (a0_foxX, .inl (cyI, 4, .inl f0_foxX)), (a0_formY, .inl (cyI, 8, .inl f0_formY)), (a0_foxY, .inl (cyI, 4, .inl f0_foxY))] := hD
      generalize H1 = H at hP hS ⊢
      refine lv_if_ne (tgt := 35) hx hb dX2_findSafe_20 (by decide) (fun c3 => ?_) (fun c3 => ?_)
      · have hw := hw.1 c3
        exact kb_X2_findSafe_35 dC dI cyB cyI cyJ cyP a0 a0_formX a0_foxX a0_formY a0_foxY z0_seat z0_strength z0_debts z0_near z0_hares v0_forms v0_foxes f0_formX f0_foxX f0_formY f0_foxY Q (wl_X2_findSafe_7 v0_forms v0_foxes f0_formX f0_foxX f0_formY f0_foxY Q  n) ih C0 _ _ _ v0_safe l1 hP hD hS (lv_sub hl [0, 1] rfl) hw
      · have hw := hw.2 c3
        refine lv_aload_n hx hb dX2_findSafe_23 rfl (lv_at hl 0 rfl) ?_
        refine lv_dup hx hb dX2_findSafe_24 rfl ?_
        refine va_get (D := (dC, dI)) (ci := 2) (v := .int v0_safe) (C := RX2) (T := TX2) (N := 12) hx hb hts ui_X2_findSafe_X2 hown hK hP 0 rfl rfl 11 (by decide) (hts _ uw_X2_findSafe_f101) (fun _ h9 => h9) rfl dX2_findSafe_25 ?_
        refine lv_iconst (v := 1) hx hb dX2_findSafe_28 (by decide) ?_
        refine lv_iload_n hx hb dX2_findSafe_29 rfl (lv_at hl 1 rfl) ?_
        refine lv_ishl hx hb dX2_findSafe_30 ?_
        refine lv_ior hx hb dX2_findSafe_31 ?_
        refine lv_topi (fun x4 ex4 => ?_)
        have hw := hw x4 ex4
        refine va_put (D := (dC, dI)) (ci := 2) (v := .int x4) (ty := .int) (C := RX2) (T := TX2) (N := 12) hx hb hts ui_X2_findSafe_X2 tyX2 tyX2_ok nmX2 hown hK hP hD hS 0 rfl rfl 11 (by decide) (hts _ uw_X2_findSafe_f101) (fun _ h9 => h9) rfl (by decide +kernel) rfl rfl (Nat.le_of_ble_eq_true rfl) dX2_findSafe_32 (fun H locs hP hD hS => ?_)
        have hP : va_P (dC, dI) vwCl [(a0, .inr (2, [.ref a0_formX, .ref a0_formY, .ref a0_foxX, .ref a0_foxY, z0_seat, z0_strength, z0_debts, z0_near, .int v0_forms, z0_hares, .int v0_foxes, .int x4])), (a0_formX, .inl (cyI, 8, .inl f0_formX)), (a0_foxX, .inl (cyI, 4, .inl f0_foxX)), (a0_formY, .inl (cyI, 8, .inl f0_formY)), (a0_foxY, .inl (cyI, 4, .inl f0_foxY))] H := hP
        have hD : va_D A [(a0, .inr (2, [.ref a0_formX, .ref a0_formY, .ref a0_foxX, .ref a0_foxY, z0_seat, z0_strength, z0_debts, z0_near, .int v0_forms, z0_hares, .int v0_foxes, .int x4])), (a0_formX, .inl (cyI, 8, .inl f0_formX)), (a0_foxX, .inl (cyI, 4, .inl f0_foxX)), (a0_formY, .inl (cyI, 8, .inl f0_formY)), (a0_foxY, .inl (cyI, 4, .inl f0_foxY))] := hD
        exact kb_X2_findSafe_35 dC dI cyB cyI cyJ cyP a0 a0_formX a0_foxX a0_formY a0_foxY z0_seat z0_strength z0_debts z0_near z0_hares v0_forms v0_foxes f0_formX f0_foxX f0_formY f0_foxY Q (wl_X2_findSafe_7 v0_forms v0_foxes f0_formX f0_foxX f0_formY f0_foxY Q  n) ih C0 _ _ _ x4 l1 hP hD hS (lv_sub hl [0, 1] rfl) hw
def wq_X2_findSafe (v0_forms : Int32) (v0_foxes : Int32) (f0_formX : Nat → Int32) (f0_foxX : Nat → Int32) (f0_formY : Nat → Int32) (f0_foxY : Nat → Int32) (v0_safe : Int32)  (Q : Int32 → Prop) : Prop := (∃ k9 : Nat, wl_X2_findSafe_7 v0_forms v0_foxes f0_formX f0_foxX f0_formY f0_foxY Q  k9 0 0)
set_option maxHeartbeats 4000000 in
set_option maxRecDepth 100000 in
theorem ck_X2_findSafe (l : Launch) (dC : Nat → ClassId) (dI : Nat → Nat → Nat) (cyB cyI cyJ cyP : ClassId) (a0 a0_formX a0_foxX a0_formY a0_foxY : Nat) (sz : Nat) (z0_seat : Value) (z0_strength : Value) (z0_debts : Value) (z0_near : Value) (z0_hares : Value) (v0_forms : Int32) (v0_foxes : Int32) (f0_formX : Nat → Int32) (f0_foxX : Nat → Int32) (f0_formY : Nat → Int32) (f0_foxY : Nat → Int32) (v0_safe : Int32)  {Q : Int32 → Prop} (hw : wq_X2_findSafe v0_forms v0_foxes f0_formX f0_foxX f0_formY f0_foxY v0_safe  Q) : Met l yX2_findSafe wsX2_findSafe ({ frames := 2, cells := 0, slots := 0, locals := 54 }) (va_Pc [.ref a0] (cPc (dC, dI) (kT cyB cyI cyJ cyP) [(a0, .inr (2, [.ref a0_formX, .ref a0_formY, .ref a0_foxX, .ref a0_foxY, z0_seat, z0_strength, z0_debts, z0_near, .int v0_forms, z0_hares, .int v0_foxes, .int v0_safe])), (a0_formX, .inl (cyI, 8, .inl f0_formX)), (a0_foxX, .inl (cyI, 4, .inl f0_foxX)), (a0_formY, .inl (cyI, 8, .inl f0_formY)), (a0_foxY, .inl (cyI, 4, .inl f0_foxY))] sz)) (va_Qv (fun (u : Int32) => Q u) (cB (dC, dI) (kT cyB cyI cyJ cyP) (va_A [(a0, .inr (2, [.ref a0_formX, .ref a0_formY, .ref a0_foxX, .ref a0_foxY, z0_seat, z0_strength, z0_debts, z0_near, .int v0_forms, z0_hares, .int v0_foxes, .int v0_safe])), (a0_formX, .inl (cyI, 8, .inl f0_formX)), (a0_foxX, .inl (cyI, 4, .inl f0_foxX)), (a0_formY, .inl (cyI, 8, .inl f0_formY)), (a0_foxY, .inl (cyI, 4, .inl f0_foxY))] sz) (fun u : Int32 => ([(a0, .inr (2, [.ref a0_formX, .ref a0_formY, .ref a0_foxX, .ref a0_foxY, z0_seat, z0_strength, z0_debts, z0_near, .int v0_forms, z0_hares, .int v0_foxes, .int u])), (a0_formX, .inl (cyI, 8, .inl f0_formX)), (a0_foxX, .inl (cyI, 4, .inl f0_foxX)), (a0_formY, .inl (cyI, 8, .inl f0_formY)), (a0_foxY, .inl (cyI, 4, .inl f0_foxY))] : va_W))) (va_A [(a0, .inr (2, [.ref a0_formX, .ref a0_formY, .ref a0_foxX, .ref a0_foxY, z0_seat, z0_strength, z0_debts, z0_near, .int v0_forms, z0_hares, .int v0_foxes, .int v0_safe])), (a0_formX, .inl (cyI, 8, .inl f0_formX)), (a0_foxX, .inl (cyI, 4, .inl f0_foxX)), (a0_formY, .inl (cyI, 8, .inl f0_formY)), (a0_foxY, .inl (cyI, 4, .inl f0_foxY))] sz)) 0 0 (va_A [(a0, .inr (2, [.ref a0_formX, .ref a0_formY, .ref a0_foxX, .ref a0_foxY, z0_seat, z0_strength, z0_debts, z0_near, .int v0_forms, z0_hares, .int v0_foxes, .int v0_safe])), (a0_formX, .inl (cyI, 8, .inl f0_formX)), (a0_foxX, .inl (cyI, 4, .inl f0_foxX)), (a0_formY, .inl (cyI, 8, .inl f0_formY)), (a0_foxY, .inl (cyI, 4, .inl f0_foxY))] sz) := by
  refine Met.ofW (cc := cX2_findSafe) (maxL := 2) (ret := none) (by decide) rfl ?_
  intro p e s m args below meth c s₁ B hml hv
  obtain ⟨rfl, hsz, hP, hK, hD0, hNw⟩ := hv
  have hx := B.exec
  have hb := B.bytes
  have hr := B.returns
  have hts := atoms_spec (ws := wsX2_findSafe) B.pre
  have hown : s.vm.findClass RX2 = some m.cls := findClass_of_methodNamed B.named
  have hlocks := B.notSynchronized
  subst hsz
  have hD := hD0.self (sz := s.heap.size)
  generalize hAe : va_A [(a0, .inr (2, [.ref a0_formX, .ref a0_formY, .ref a0_foxX, .ref a0_foxY, z0_seat, z0_strength, z0_debts, z0_near, .int v0_forms, z0_hares, .int v0_foxes, .int v0_safe])), (a0_formX, .inl (cyI, 8, .inl f0_formX)), (a0_foxX, .inl (cyI, 4, .inl f0_foxX)), (a0_formY, .inl (cyI, 8, .inl f0_formY)), (a0_foxY, .inl (cyI, 4, .inl f0_foxY))] s.heap.size = A at hD ⊢
  have hA : ∀ q : Nat, s.heap.size ≤ q → A q := fun q h => by rw [← hAe]; exact Or.inr h
  have hS : va_S A s.heap s.heap [] := va_S.rf
  have hP : va_P (dC, dI) vwCl [(a0, .inr (2, [.ref a0_formX, .ref a0_formY, .ref a0_foxX, .ref a0_foxY, z0_seat, z0_strength, z0_debts, z0_near, .int v0_forms, z0_hares, .int v0_foxes, .int v0_safe])), (a0_formX, .inl (cyI, 8, .inl f0_formX)), (a0_foxX, .inl (cyI, 4, .inl f0_foxX)), (a0_formY, .inl (cyI, 8, .inl f0_formY)), (a0_foxY, .inl (cyI, 4, .inl f0_foxY))] s.heap := hP
  have hl := lv_entry ([.ref a0]) (n := 2) (Nat.le_of_ble_eq_true rfl)
  rw [lg_entry_eq]
  generalize (lg_sl ([.ref a0]) ++ List.replicate (2 - (lg_sl ([.ref a0])).length) Slot.unset).toArray = ls at hl ⊢
  have hl : lv_has ls 2 [(0, .ref a0)] := hl
  have C0 : cfx p s m _ meth c cX2_findSafe none wsX2_findSafe RX2 2 A (dC, dI) (kT cyB cyI cyJ cyP) := ⟨hx, hb, hr, hts, hown, hlocks, hml, hA, hK, hNw⟩
  clear hAe
  obtain ⟨H, hH⟩ : ∃ H, H = s.heap := ⟨_, rfl⟩
  rw [← hH] at hP ⊢
  have hS : va_S A s.heap H [] := by rw [hH]; exact va_S.rf
  have hS := hS
  refine lv_aload_n hx hb dX2_findSafe_0 rfl (lv_at hl 0 rfl) ?_
  refine lv_iconst (v := 0) hx hb dX2_findSafe_1 (by decide) ?_
  refine va_put (D := (dC, dI)) (ci := 2) (v := .int 0) (ty := .int) (C := RX2) (T := TX2) (N := 12) hx hb hts ui_X2_findSafe_X2 tyX2 tyX2_ok nmX2 hown hK hP hD hS 0 rfl rfl 11 (by decide) (hts _ uw_X2_findSafe_f101) (fun _ h9 => h9) rfl (by decide +kernel) rfl rfl (Nat.le_of_ble_eq_true rfl) dX2_findSafe_2 (fun H locs hP hD hS => ?_)
  have hP : va_P (dC, dI) vwCl [(a0, .inr (2, [.ref a0_formX, .ref a0_formY, .ref a0_foxX, .ref a0_foxY, z0_seat, z0_strength, z0_debts, z0_near, .int v0_forms, z0_hares, .int v0_foxes, .int 0])), (a0_formX, .inl (cyI, 8, .inl f0_formX)), (a0_foxX, .inl (cyI, 4, .inl f0_foxX)), (a0_formY, .inl (cyI, 8, .inl f0_formY)), (a0_foxY, .inl (cyI, 4, .inl f0_foxY))] H := hP
  have hD : va_D A [(a0, .inr (2, [.ref a0_formX, .ref a0_formY, .ref a0_foxX, .ref a0_foxY, z0_seat, z0_strength, z0_debts, z0_near, .int v0_forms, z0_hares, .int v0_foxes, .int 0])), (a0_formX, .inl (cyI, 8, .inl f0_formX)), (a0_foxX, .inl (cyI, 4, .inl f0_foxX)), (a0_formY, .inl (cyI, 8, .inl f0_formY)), (a0_foxY, .inl (cyI, 4, .inl f0_foxY))] := hD
  refine lv_iconst (v := 0) hx hb dX2_findSafe_5 (by decide) ?_
  refine lv_istore_n (lv' := [(1, .int 0), (0, .ref a0)]) hx hb dX2_findSafe_6 rfl hl (by decide) rfl (fun ls hl => ?_)
  obtain ⟨n9, hw⟩ := hw
  exact kl_X2_findSafe_7 dC dI cyB cyI cyJ cyP a0 a0_formX a0_foxX a0_formY a0_foxY z0_seat z0_strength z0_debts z0_near z0_hares v0_forms v0_foxes f0_formX f0_foxX f0_formY f0_foxY Q  C0 n9 _ _ _ 0 0 hP hD hS (lv_sub hl [1, 0] rfl) hw
theorem ui_X2_readFrom_X2 : ∀ w ∈ u_ws RX2 TX2 12, w ∈ wsX2_readFrom := by decide +kernel
theorem uw_X2_readFrom_f30 : (.fieldLink RX2 30 "MarchHares$Down" "debts" "[I" : Cond) ∈ wsX2_readFrom := by decide +kernel
theorem uw_X2_readFrom_f36 : (.fieldLink RX2 36 "MarchHares$Down" "forms" "I" : Cond) ∈ wsX2_readFrom := by decide +kernel
theorem uw_X2_readFrom_f40 : (.fieldLink RX2 40 "MarchHares$Down" "hares" "I" : Cond) ∈ wsX2_readFrom := by decide +kernel
theorem uw_X2_readFrom_f43 : (.fieldLink RX2 43 "MarchHares$Down" "foxes" "I" : Cond) ∈ wsX2_readFrom := by decide +kernel
def wb_X2_readFrom_74 (v1_length : Int32) (v1_fault : Int32) (f1_bytes : Nat → Int32) (f0_formX : Nat → Int32) (f0_foxX : Nat → Int32) (f0_formY : Nat → Int32) (f0_foxY : Nat → Int32) (Q : Int32 → Int32 → Int32 → (Nat → Int32) → Int32 → Int32 → Prop) (K41 : Int32 → Int32 → Int32 → (Nat → Int32) → Int32 → Int32 → Int32 → Prop) (v0_forms : Int32) (v0_hares : Int32) (v0_foxes : Int32) (f0_debts : Nat → Int32) (v1_at : Int32) (v0_safe : Int32) (l2 : Int32) (s2 : Int32) : Prop := False
set_option maxHeartbeats 4000000 in
set_option maxRecDepth 100000 in
theorem kb_X2_readFrom_74 {p : Program} {l : Launch} {e : Env} {s : State} {m : MethodId} {args : Array Value} {below : List Frame} {meth : Method} {c : Code} {A : Nat → Prop} (dC : Nat → ClassId) (dI : Nat → Nat → Nat) (cyB cyI cyJ cyP : ClassId) (a0 a1 a0_debts a1_bytes a0_formX a0_foxX a0_formY a0_foxY : Nat) (z0_seat : Value) (z0_strength : Value) (z0_near : Value) (z1_token : Value) (z1_filled : Value) (z1_faultPlace : Value) (v1_length : Int32) (v1_fault : Int32) (f1_bytes : Nat → Int32) (f0_formX : Nat → Int32) (f0_foxX : Nat → Int32) (f0_formY : Nat → Int32) (f0_foxY : Nat → Int32) (Q : Int32 → Int32 → Int32 → (Nat → Int32) → Int32 → Int32 → Prop) (K41 : Int32 → Int32 → Int32 → (Nat → Int32) → Int32 → Int32 → Int32 → Prop) (hK41 : ∀ (H : Heap) (locs : List Loc) (ls : Array Slot) (v0_forms : Int32) (v0_hares : Int32) (v0_foxes : Int32) (f0_debts : Nat → Int32) (v1_at : Int32) (v0_safe : Int32) (l2 : Int32), va_P (dC, dI) vwCl [(a0, .inr (2, [.ref a0_formX, .ref a0_formY, .ref a0_foxX, .ref a0_foxY, z0_seat, z0_strength, .ref a0_debts, z0_near, .int v0_forms, .int v0_hares, .int v0_foxes, .int v0_safe])), (a0_debts, .inl (cyI, 36, .inl f0_debts)), (a1, .inr (8, [.ref a1_bytes, .int v1_length, .int v1_at, z1_token, z1_filled, .int v1_fault, z1_faultPlace])), (a1_bytes, .inl (cyB, 600, .inl f1_bytes)), (a0_formX, .inl (cyI, 8, .inl f0_formX)), (a0_foxX, .inl (cyI, 4, .inl f0_foxX)), (a0_formY, .inl (cyI, 8, .inl f0_formY)), (a0_foxY, .inl (cyI, 4, .inl f0_foxY))] H → va_D A [(a0, .inr (2, [.ref a0_formX, .ref a0_formY, .ref a0_foxX, .ref a0_foxY, z0_seat, z0_strength, .ref a0_debts, z0_near, .int v0_forms, .int v0_hares, .int v0_foxes, .int v0_safe])), (a0_debts, .inl (cyI, 36, .inl f0_debts)), (a1, .inr (8, [.ref a1_bytes, .int v1_length, .int v1_at, z1_token, z1_filled, .int v1_fault, z1_faultPlace])), (a1_bytes, .inl (cyB, 600, .inl f1_bytes)), (a0_formX, .inl (cyI, 8, .inl f0_formX)), (a0_foxX, .inl (cyI, 4, .inl f0_foxX)), (a0_formY, .inl (cyI, 8, .inl f0_formY)), (a0_foxY, .inl (cyI, 4, .inl f0_foxY))] → va_S A s.heap H locs → lv_has ls 3 [(0, .ref a0), (1, .ref a1), (2, .int l2)] → K41 v0_forms v0_hares v0_foxes f0_debts v1_at v0_safe l2 → W p l e (headSpec wsX2_readFrom ({ frames := 3, cells := 0, slots := 0, locals := 75 })).room s m args below meth c H locs 0 0 (MQ below (va_Qv (fun (u : Int32 × Int32 × Int32 × (Nat → Int32) × Int32 × Int32) => Q u.1 u.2.1 u.2.2.1 u.2.2.2.1 u.2.2.2.2.1 u.2.2.2.2.2) (cB (dC, dI) (kT cyB cyI cyJ cyP) A (fun u : Int32 × Int32 × Int32 × (Nat → Int32) × Int32 × Int32 => ([(a0, .inr (2, [.ref a0_formX, .ref a0_formY, .ref a0_foxX, .ref a0_foxY, z0_seat, z0_strength, .ref a0_debts, z0_near, .int u.1, .int u.2.1, .int u.2.2.1, .int u.2.2.2.2.2])), (a0_debts, .inl (cyI, 36, .inl u.2.2.2.1)), (a1, .inr (8, [.ref a1_bytes, .int v1_length, .int u.2.2.2.2.1, z1_token, z1_filled, .int v1_fault, z1_faultPlace])), (a1_bytes, .inl (cyB, 600, .inl f1_bytes)), (a0_formX, .inl (cyI, 8, .inl f0_formX)), (a0_foxX, .inl (cyI, 4, .inl f0_foxX)), (a0_formY, .inl (cyI, 8, .inl f0_formY)), (a0_foxY, .inl (cyI, 4, .inl f0_foxY))] : va_W))) A) args s 0 0 A) (F0 m 41 ls [])) (C0 : cfx p s m args meth c cX2_readFrom none wsX2_readFrom RX2 3 A (dC, dI) (kT cyB cyI cyJ cyP)) : ∀ (H : Heap) (locs : List Loc) (ls : Array Slot) (v0_forms : Int32) (v0_hares : Int32) (v0_foxes : Int32) (f0_debts : Nat → Int32) (v1_at : Int32) (v0_safe : Int32) (l2 : Int32) (s2 : Int32), va_P (dC, dI) vwCl [(a0, .inr (2, [.ref a0_formX, .ref a0_formY, .ref a0_foxX, .ref a0_foxY, z0_seat, z0_strength, .ref a0_debts, z0_near, .int v0_forms, .int v0_hares, .int v0_foxes, .int v0_safe])), (a0_debts, .inl (cyI, 36, .inl f0_debts)), (a1, .inr (8, [.ref a1_bytes, .int v1_length, .int v1_at, z1_token, z1_filled, .int v1_fault, z1_faultPlace])), (a1_bytes, .inl (cyB, 600, .inl f1_bytes)), (a0_formX, .inl (cyI, 8, .inl f0_formX)), (a0_foxX, .inl (cyI, 4, .inl f0_foxX)), (a0_formY, .inl (cyI, 8, .inl f0_formY)), (a0_foxY, .inl (cyI, 4, .inl f0_foxY))] H → va_D A [(a0, .inr (2, [.ref a0_formX, .ref a0_formY, .ref a0_foxX, .ref a0_foxY, z0_seat, z0_strength, .ref a0_debts, z0_near, .int v0_forms, .int v0_hares, .int v0_foxes, .int v0_safe])), (a0_debts, .inl (cyI, 36, .inl f0_debts)), (a1, .inr (8, [.ref a1_bytes, .int v1_length, .int v1_at, z1_token, z1_filled, .int v1_fault, z1_faultPlace])), (a1_bytes, .inl (cyB, 600, .inl f1_bytes)), (a0_formX, .inl (cyI, 8, .inl f0_formX)), (a0_foxX, .inl (cyI, 4, .inl f0_foxX)), (a0_formY, .inl (cyI, 8, .inl f0_formY)), (a0_foxY, .inl (cyI, 4, .inl f0_foxY))] → va_S A s.heap H locs → lv_has ls 3 [(0, .ref a0), (1, .ref a1), (2, .int l2)] → wb_X2_readFrom_74 v1_length v1_fault f1_bytes f0_formX f0_foxX f0_formY f0_foxY Q K41 v0_forms v0_hares v0_foxes f0_debts v1_at v0_safe l2 s2 → W p l e (headSpec wsX2_readFrom ({ frames := 3, cells := 0, slots := 0, locals := 75 })).room s m args below meth c H locs 0 0 (MQ below (va_Qv (fun (u : Int32 × Int32 × Int32 × (Nat → Int32) × Int32 × Int32) => Q u.1 u.2.1 u.2.2.1 u.2.2.2.1 u.2.2.2.2.1 u.2.2.2.2.2) (cB (dC, dI) (kT cyB cyI cyJ cyP) A (fun u : Int32 × Int32 × Int32 × (Nat → Int32) × Int32 × Int32 => ([(a0, .inr (2, [.ref a0_formX, .ref a0_formY, .ref a0_foxX, .ref a0_foxY, z0_seat, z0_strength, .ref a0_debts, z0_near, .int u.1, .int u.2.1, .int u.2.2.1, .int u.2.2.2.2.2])), (a0_debts, .inl (cyI, 36, .inl u.2.2.2.1)), (a1, .inr (8, [.ref a1_bytes, .int v1_length, .int u.2.2.2.2.1, z1_token, z1_filled, .int v1_fault, z1_faultPlace])), (a1_bytes, .inl (cyB, 600, .inl f1_bytes)), (a0_formX, .inl (cyI, 8, .inl f0_formX)), (a0_foxX, .inl (cyI, 4, .inl f0_foxX)), (a0_formY, .inl (cyI, 8, .inl f0_formY)), (a0_foxY, .inl (cyI, 4, .inl f0_foxY))] : va_W))) A) args s 0 0 A) (F0 m 74 ls [.int s2, .ref a1, .ref a0]) := by
  obtain ⟨hx, hb, hr, hts, hown, hlocks, hml, hA, hK, hNw⟩ := id C0
  intro H locs ls v0_forms v0_hares v0_foxes f0_debts v1_at v0_safe l2 s2 hP hD hS hl hw
  exact False.elim hw
def wb_X2_readFrom_83 (v1_length : Int32) (v1_fault : Int32) (f1_bytes : Nat → Int32) (f0_formX : Nat → Int32) (f0_foxX : Nat → Int32) (f0_formY : Nat → Int32) (f0_foxY : Nat → Int32) (Q : Int32 → Int32 → Int32 → (Nat → Int32) → Int32 → Int32 → Prop)  (v0_forms : Int32) (v0_hares : Int32) (v0_foxes : Int32) (f0_debts : Nat → Int32) (v1_at : Int32) (v0_safe : Int32) : Prop := wq_X2_findSafe v0_forms v0_foxes f0_formX f0_foxX f0_formY f0_foxY v0_safe  (fun x11 => (Q v0_forms v0_hares v0_foxes f0_debts v1_at x11))
set_option maxHeartbeats 4000000 in
set_option maxRecDepth 100000 in
theorem kb_X2_readFrom_83 {p : Program} {l : Launch} {e : Env} {s : State} {m : MethodId} {args : Array Value} {below : List Frame} {meth : Method} {c : Code} {A : Nat → Prop} (dC : Nat → ClassId) (dI : Nat → Nat → Nat) (cyB cyI cyJ cyP : ClassId) (a0 a1 a0_debts a1_bytes a0_formX a0_foxX a0_formY a0_foxY : Nat) (z0_seat : Value) (z0_strength : Value) (z0_near : Value) (z1_token : Value) (z1_filled : Value) (z1_faultPlace : Value) (v1_length : Int32) (v1_fault : Int32) (f1_bytes : Nat → Int32) (f0_formX : Nat → Int32) (f0_foxX : Nat → Int32) (f0_formY : Nat → Int32) (f0_foxY : Nat → Int32) (Q : Int32 → Int32 → Int32 → (Nat → Int32) → Int32 → Int32 → Prop)  (C0 : cfx p s m args meth c cX2_readFrom none wsX2_readFrom RX2 3 A (dC, dI) (kT cyB cyI cyJ cyP)) : ∀ (H : Heap) (locs : List Loc) (ls : Array Slot) (v0_forms : Int32) (v0_hares : Int32) (v0_foxes : Int32) (f0_debts : Nat → Int32) (v1_at : Int32) (v0_safe : Int32), va_P (dC, dI) vwCl [(a0, .inr (2, [.ref a0_formX, .ref a0_formY, .ref a0_foxX, .ref a0_foxY, z0_seat, z0_strength, .ref a0_debts, z0_near, .int v0_forms, .int v0_hares, .int v0_foxes, .int v0_safe])), (a0_debts, .inl (cyI, 36, .inl f0_debts)), (a1, .inr (8, [.ref a1_bytes, .int v1_length, .int v1_at, z1_token, z1_filled, .int v1_fault, z1_faultPlace])), (a1_bytes, .inl (cyB, 600, .inl f1_bytes)), (a0_formX, .inl (cyI, 8, .inl f0_formX)), (a0_foxX, .inl (cyI, 4, .inl f0_foxX)), (a0_formY, .inl (cyI, 8, .inl f0_formY)), (a0_foxY, .inl (cyI, 4, .inl f0_foxY))] H → va_D A [(a0, .inr (2, [.ref a0_formX, .ref a0_formY, .ref a0_foxX, .ref a0_foxY, z0_seat, z0_strength, .ref a0_debts, z0_near, .int v0_forms, .int v0_hares, .int v0_foxes, .int v0_safe])), (a0_debts, .inl (cyI, 36, .inl f0_debts)), (a1, .inr (8, [.ref a1_bytes, .int v1_length, .int v1_at, z1_token, z1_filled, .int v1_fault, z1_faultPlace])), (a1_bytes, .inl (cyB, 600, .inl f1_bytes)), (a0_formX, .inl (cyI, 8, .inl f0_formX)), (a0_foxX, .inl (cyI, 4, .inl f0_foxX)), (a0_formY, .inl (cyI, 8, .inl f0_formY)), (a0_foxY, .inl (cyI, 4, .inl f0_foxY))] → va_S A s.heap H locs → lv_has ls 3 [(0, .ref a0)] → wb_X2_readFrom_83 v1_length v1_fault f1_bytes f0_formX f0_foxX f0_formY f0_foxY Q  v0_forms v0_hares v0_foxes f0_debts v1_at v0_safe → W p l e (headSpec wsX2_readFrom ({ frames := 3, cells := 0, slots := 0, locals := 75 })).room s m args below meth c H locs 0 0 (MQ below (va_Qv (fun (u : Int32 × Int32 × Int32 × (Nat → Int32) × Int32 × Int32) => Q u.1 u.2.1 u.2.2.1 u.2.2.2.1 u.2.2.2.2.1 u.2.2.2.2.2) (cB (dC, dI) (kT cyB cyI cyJ cyP) A (fun u : Int32 × Int32 × Int32 × (Nat → Int32) × Int32 × Int32 => ([(a0, .inr (2, [.ref a0_formX, .ref a0_formY, .ref a0_foxX, .ref a0_foxY, z0_seat, z0_strength, .ref a0_debts, z0_near, .int u.1, .int u.2.1, .int u.2.2.1, .int u.2.2.2.2.2])), (a0_debts, .inl (cyI, 36, .inl u.2.2.2.1)), (a1, .inr (8, [.ref a1_bytes, .int v1_length, .int u.2.2.2.2.1, z1_token, z1_filled, .int v1_fault, z1_faultPlace])), (a1_bytes, .inl (cyB, 600, .inl f1_bytes)), (a0_formX, .inl (cyI, 8, .inl f0_formX)), (a0_foxX, .inl (cyI, 4, .inl f0_foxX)), (a0_formY, .inl (cyI, 8, .inl f0_formY)), (a0_foxY, .inl (cyI, 4, .inl f0_foxY))] : va_W))) A) args s 0 0 A) (F0 m 83 ls []) := by
  obtain ⟨hx, hb, hr, hts, hown, hlocks, hml, hA, hK, hNw⟩ := id C0
  intro H locs ls v0_forms v0_hares v0_foxes f0_debts v1_at v0_safe hP hD hS hl hw
  refine lv_aload_n hx hb dX2_readFrom_83 rfl (lv_at hl 0 rfl) ?_
  have hPc := hP.sub (ws' := [(a0, .inr (2, [.ref a0_formX, .ref a0_formY, .ref a0_foxX, .ref a0_foxY, z0_seat, z0_strength, .ref a0_debts, z0_near, .int v0_forms, .int v0_hares, .int v0_foxes, .int v0_safe])), (a0_formX, .inl (cyI, 8, .inl f0_formX)), (a0_foxX, .inl (cyI, 4, .inl f0_foxX)), (a0_formY, .inl (cyI, 8, .inl f0_formY)), (a0_foxY, .inl (cyI, 4, .inl f0_foxY))]) [0, 4, 5, 6, 7] rfl
  have hDc := hD.sub (ws' := [(a0, .inr (2, [.ref a0_formX, .ref a0_formY, .ref a0_foxX, .ref a0_foxY, z0_seat, z0_strength, .ref a0_debts, z0_near, .int v0_forms, .int v0_hares, .int v0_foxes, .int v0_safe])), (a0_formX, .inl (cyI, 8, .inl f0_formX)), (a0_foxX, .inl (cyI, 4, .inl f0_foxX)), (a0_formY, .inl (cyI, 8, .inl f0_formY)), (a0_foxY, .inl (cyI, 4, .inl f0_foxY))]) [0, 4, 5, 6, 7] (by decide) rfl
  have hFc := va_free (wc := [(a0, .inr (2, [.ref a0_formX, .ref a0_formY, .ref a0_foxX, .ref a0_foxY, z0_seat, z0_strength, .ref a0_debts, z0_near, .int v0_forms, .int v0_hares, .int v0_foxes, .int v0_safe])), (a0_formX, .inl (cyI, 8, .inl f0_formX)), (a0_foxX, .inl (cyI, 4, .inl f0_foxX)), (a0_formY, .inl (cyI, 8, .inl f0_formY)), (a0_foxY, .inl (cyI, 4, .inl f0_foxY))]) hD hS hA [0, 4, 5, 6, 7] rfl
  refine va_callv (va_runV (As := []) (rest := []) ⟨hx, hb, hml, hown, hts⟩ (ck_X2_findSafe l dC dI cyB cyI cyJ cyP a0 a0_formX a0_foxX a0_formY a0_foxY H.size (z0_seat) (z0_strength) (.ref a0_debts) (z0_near) (.int v0_hares) v0_forms v0_foxes f0_formX f0_foxX f0_formY f0_foxY v0_safe  hw) (cwV 0 hts gX2_readFrom_X2_findSafe rfl rfl rfl (by decide +kernel) ⟨Nat.le_of_ble_eq_true rfl, Nat.le_of_ble_eq_true rfl⟩) ⟨cPc_blind, va_recv hK hPc (ci := 2) (q0 := 0) rfl rfl, cPc_pre hPc hK hDc hNw⟩ rfl rfl hl.1 rfl (lv_room (Nat.le_of_ble_eq_true rfl)) dX2_readFrom_84 ⟨Nat.le_of_ble_eq_true rfl, Nat.le_of_ble_eq_true rfl⟩) hS (fun q _ h => hFc q h) hFc (fun u t H1 locs ht hvm hw hB hz1 hk1 hS => ?_)
  obtain ⟨x11, rfl⟩ : ∃ z, z = u := ⟨_, rfl⟩
  obtain ⟨hP1, hK1, hD1⟩ := hB
  rw [ht] at hP1
  obtain ⟨hP, hD⟩ := va_join (wr := [(a0_debts, .inl (cyI, 36, .inl f0_debts)), (a1, .inr (8, [.ref a1_bytes, .int v1_length, .int v1_at, z1_token, z1_filled, .int v1_fault, z1_faultPlace])), (a1_bytes, .inl (cyB, 600, .inl f1_bytes))]) (w1 := [(a0, .inr (2, [.ref a0_formX, .ref a0_formY, .ref a0_foxX, .ref a0_foxY, z0_seat, z0_strength, .ref a0_debts, z0_near, .int v0_forms, .int v0_hares, .int v0_foxes, .int x11])), (a0_formX, .inl (cyI, 8, .inl f0_formX)), (a0_foxX, .inl (cyI, 4, .inl f0_foxX)), (a0_formY, .inl (cyI, 8, .inl f0_formY)), (a0_foxY, .inl (cyI, 4, .inl f0_foxY))]) hP hD [0, 4, 5, 6, 7] [1, 2, 3] rfl rfl (by decide) (by decide) hk1 hFc hP1 hD1
  have hP : va_P (dC, dI) vwCl [(a0, .inr (2, [.ref a0_formX, .ref a0_formY, .ref a0_foxX, .ref a0_foxY, z0_seat, z0_strength, .ref a0_debts, z0_near, .int v0_forms, .int v0_hares, .int v0_foxes, .int x11])), (a0_debts, .inl (cyI, 36, .inl f0_debts)), (a1, .inr (8, [.ref a1_bytes, .int v1_length, .int v1_at, z1_token, z1_filled, .int v1_fault, z1_faultPlace])), (a1_bytes, .inl (cyB, 600, .inl f1_bytes)), (a0_formX, .inl (cyI, 8, .inl f0_formX)), (a0_foxX, .inl (cyI, 4, .inl f0_foxX)), (a0_formY, .inl (cyI, 8, .inl f0_formY)), (a0_foxY, .inl (cyI, 4, .inl f0_foxY))] H1 := hP.sub [3, 0, 1, 2, 4, 5, 6, 7] rfl
  have hD : va_D A [(a0, .inr (2, [.ref a0_formX, .ref a0_formY, .ref a0_foxX, .ref a0_foxY, z0_seat, z0_strength, .ref a0_debts, z0_near, .int v0_forms, .int v0_hares, .int v0_foxes, .int x11])), (a0_debts, .inl (cyI, 36, .inl f0_debts)), (a1, .inr (8, [.ref a1_bytes, .int v1_length, .int v1_at, z1_token, z1_filled, .int v1_fault, z1_faultPlace])), (a1_bytes, .inl (cyB, 600, .inl f1_bytes)), (a0_formX, .inl (cyI, 8, .inl f0_formX)), (a0_foxX, .inl (cyI, 4, .inl f0_foxX)), (a0_formY, .inl (cyI, 8, .inl f0_formY)), (a0_foxY, .inl (cyI, 4, .inl f0_foxY))] := hD.sub [3, 0, 1, 2, 4, 5, 6, 7] (by decide) rfl
  generalize H1 = H at hP hS ⊢
  exact ((W.vret hx hb hr (fun t ht hW => ⟨⟨(v0_forms, v0_hares, v0_foxes, f0_debts, v1_at, x11), rfl, hw, by rw [ht]; exact hP, va_K.moved hW.alike hK, hD⟩, hS.F ht⟩) hS.2.2 dX2_readFrom_87))
def wl_X2_readFrom_41 (v1_length : Int32) (v1_fault : Int32) (f1_bytes : Nat → Int32) (f0_formX : Nat → Int32) (f0_foxX : Nat → Int32) (f0_formY : Nat → Int32) (f0_foxY : Nat → Int32) (Q : Int32 → Int32 → Int32 → (Nat → Int32) → Int32 → Int32 → Prop)  : Nat → Int32 → Int32 → Int32 → (Nat → Int32) → Int32 → Int32 → Int32 → Prop
  | 0, _, _, _, _, _, _, _ => False
  | n + 1, v0_forms, v0_hares, v0_foxes, f0_debts, v1_at, v0_safe, l2 => ((60 < l2 → (wb_X2_readFrom_83 v1_length v1_fault f1_bytes f0_formX f0_foxX f0_formY f0_foxY Q  v0_forms v0_hares v0_foxes f0_debts v1_at v0_safe)) ∧ (¬ 60 < l2 → wq_X8_isFaulty v1_fault   (fun r5 => ((¬ r5 = 0 → (wb_X2_readFrom_83 v1_length v1_fault f1_bytes f0_formX f0_foxX f0_formY f0_foxY Q  v0_forms v0_hares v0_foxes f0_debts v1_at v0_safe)) ∧ (r5 = 0 → wq_X8_isEnded v1_length f1_bytes v1_at  (fun r8 x7 => ((¬ r8 = 0 → (wb_X2_readFrom_83 v1_length v1_fault f1_bytes f0_formX f0_foxX f0_formY f0_foxY Q  v0_forms v0_hares v0_foxes f0_debts x7 v0_safe)) ∧ (r8 = 0 → ((¬ l2 = 60 → (wb_X2_readFrom_74 v1_length v1_fault f1_bytes f0_formX f0_foxX f0_formY f0_foxY Q (fun v0_forms v0_hares v0_foxes f0_debts v1_at v0_safe l2 => wl_X2_readFrom_41 v1_length v1_fault f1_bytes f0_formX f0_foxX f0_formY f0_foxY Q  n v0_forms v0_hares v0_foxes f0_debts v1_at v0_safe l2) v0_forms v0_hares v0_foxes f0_debts x7 v0_safe l2 0)) ∧ (l2 = 60 → (wb_X2_readFrom_74 v1_length v1_fault f1_bytes f0_formX f0_foxX f0_formY f0_foxY Q (fun v0_forms v0_hares v0_foxes f0_debts v1_at v0_safe l2 => wl_X2_readFrom_41 v1_length v1_fault f1_bytes f0_formX f0_foxX f0_formY f0_foxY Q  n v0_forms v0_hares v0_foxes f0_debts v1_at v0_safe l2) v0_forms v0_hares v0_foxes f0_debts x7 v0_safe l2 1)))))))))))
set_option maxHeartbeats 4000000 in
set_option maxRecDepth 100000 in
theorem kl_X2_readFrom_41 {p : Program} {l : Launch} {e : Env} {s : State} {m : MethodId} {args : Array Value} {below : List Frame} {meth : Method} {c : Code} {A : Nat → Prop} (dC : Nat → ClassId) (dI : Nat → Nat → Nat) (cyB cyI cyJ cyP : ClassId) (a0 a1 a0_debts a1_bytes a0_formX a0_foxX a0_formY a0_foxY : Nat) (z0_seat : Value) (z0_strength : Value) (z0_near : Value) (z1_token : Value) (z1_filled : Value) (z1_faultPlace : Value) (v1_length : Int32) (v1_fault : Int32) (f1_bytes : Nat → Int32) (f0_formX : Nat → Int32) (f0_foxX : Nat → Int32) (f0_formY : Nat → Int32) (f0_foxY : Nat → Int32) (Q : Int32 → Int32 → Int32 → (Nat → Int32) → Int32 → Int32 → Prop)  (C0 : cfx p s m args meth c cX2_readFrom none wsX2_readFrom RX2 3 A (dC, dI) (kT cyB cyI cyJ cyP)) : ∀ (n : Nat) (H : Heap) (locs : List Loc) (ls : Array Slot) (v0_forms : Int32) (v0_hares : Int32) (v0_foxes : Int32) (f0_debts : Nat → Int32) (v1_at : Int32) (v0_safe : Int32) (l2 : Int32), va_P (dC, dI) vwCl [(a0, .inr (2, [.ref a0_formX, .ref a0_formY, .ref a0_foxX, .ref a0_foxY, z0_seat, z0_strength, .ref a0_debts, z0_near, .int v0_forms, .int v0_hares, .int v0_foxes, .int v0_safe])), (a0_debts, .inl (cyI, 36, .inl f0_debts)), (a1, .inr (8, [.ref a1_bytes, .int v1_length, .int v1_at, z1_token, z1_filled, .int v1_fault, z1_faultPlace])), (a1_bytes, .inl (cyB, 600, .inl f1_bytes)), (a0_formX, .inl (cyI, 8, .inl f0_formX)), (a0_foxX, .inl (cyI, 4, .inl f0_foxX)), (a0_formY, .inl (cyI, 8, .inl f0_formY)), (a0_foxY, .inl (cyI, 4, .inl f0_foxY))] H → va_D A [(a0, .inr (2, [.ref a0_formX, .ref a0_formY, .ref a0_foxX, .ref a0_foxY, z0_seat, z0_strength, .ref a0_debts, z0_near, .int v0_forms, .int v0_hares, .int v0_foxes, .int v0_safe])), (a0_debts, .inl (cyI, 36, .inl f0_debts)), (a1, .inr (8, [.ref a1_bytes, .int v1_length, .int v1_at, z1_token, z1_filled, .int v1_fault, z1_faultPlace])), (a1_bytes, .inl (cyB, 600, .inl f1_bytes)), (a0_formX, .inl (cyI, 8, .inl f0_formX)), (a0_foxX, .inl (cyI, 4, .inl f0_foxX)), (a0_formY, .inl (cyI, 8, .inl f0_formY)), (a0_foxY, .inl (cyI, 4, .inl f0_foxY))] → va_S A s.heap H locs → lv_has ls 3 [(0, .ref a0), (1, .ref a1), (2, .int l2)] → wl_X2_readFrom_41 v1_length v1_fault f1_bytes f0_formX f0_foxX f0_formY f0_foxY Q  n v0_forms v0_hares v0_foxes f0_debts v1_at v0_safe l2 → W p l e (headSpec wsX2_readFrom ({ frames := 3, cells := 0, slots := 0, locals := 75 })).room s m args below meth c H locs 0 0 (MQ below (va_Qv (fun (u : Int32 × Int32 × Int32 × (Nat → Int32) × Int32 × Int32) => Q u.1 u.2.1 u.2.2.1 u.2.2.2.1 u.2.2.2.2.1 u.2.2.2.2.2) (cB (dC, dI) (kT cyB cyI cyJ cyP) A (fun u : Int32 × Int32 × Int32 × (Nat → Int32) × Int32 × Int32 => ([(a0, .inr (2, [.ref a0_formX, .ref a0_formY, .ref a0_foxX, .ref a0_foxY, z0_seat, z0_strength, .ref a0_debts, z0_near, .int u.1, .int u.2.1, .int u.2.2.1, .int u.2.2.2.2.2])), (a0_debts, .inl (cyI, 36, .inl u.2.2.2.1)), (a1, .inr (8, [.ref a1_bytes, .int v1_length, .int u.2.2.2.2.1, z1_token, z1_filled, .int v1_fault, z1_faultPlace])), (a1_bytes, .inl (cyB, 600, .inl f1_bytes)), (a0_formX, .inl (cyI, 8, .inl f0_formX)), (a0_foxX, .inl (cyI, 4, .inl f0_foxX)), (a0_formY, .inl (cyI, 8, .inl f0_formY)), (a0_foxY, .inl (cyI, 4, .inl f0_foxY))] : va_W))) A) args s 0 0 A) (F0 m 41 ls []) := by
  obtain ⟨hx, hb, hr, hts, hown, hlocks, hml, hA, hK, hNw⟩ := id C0
  intro n
  induction n with
  | zero => intro H locs ls v0_forms v0_hares v0_foxes f0_debts v1_at v0_safe l2 hP hD hS hl hw; exact False.elim hw
  | succ n ih =>
    intro H locs ls v0_forms v0_hares v0_foxes f0_debts v1_at v0_safe l2 hP hD hS hl hw
    refine lv_iload_n hx hb dX2_readFrom_41 rfl (lv_at hl 2 rfl) ?_
    refine lv_bipush (v := 60) hx hb dX2_readFrom_42 (by decide) ?_
    refine lv_icmp_gt (tgt := 83) hx hb dX2_readFrom_44 (by decide) (fun c4 => ?_) (fun c4 => ?_)
    · have hw := hw.1 c4
      exact kb_X2_readFrom_83 dC dI cyB cyI cyJ cyP a0 a1 a0_debts a1_bytes a0_formX a0_foxX a0_formY a0_foxY z0_seat z0_strength z0_near z1_token z1_filled z1_faultPlace v1_length v1_fault f1_bytes f0_formX f0_foxX f0_formY f0_foxY Q  C0 _ _ _ v0_forms v0_hares v0_foxes f0_debts v1_at v0_safe hP hD hS (lv_sub hl [0] rfl) hw
    · have hw := hw.2 c4
      refine lv_aload_n hx hb dX2_readFrom_47 rfl (lv_at hl 1 rfl) ?_
      have hPc := hP.sub (ws' := [(a1, .inr (8, [.ref a1_bytes, .int v1_length, .int v1_at, z1_token, z1_filled, .int v1_fault, z1_faultPlace]))]) [2] rfl
      have hDc := hD.sub (ws' := [(a1, .inr (8, [.ref a1_bytes, .int v1_length, .int v1_at, z1_token, z1_filled, .int v1_fault, z1_faultPlace]))]) [2] (by decide) rfl
      have hFc := va_free (wc := [(a1, .inr (8, [.ref a1_bytes, .int v1_length, .int v1_at, z1_token, z1_filled, .int v1_fault, z1_faultPlace]))]) hD hS hA [2] rfl
      refine va_calli (va_runV (As := []) (rest := []) ⟨hx, hb, hml, hown, hts⟩ (ck_X8_isFaulty l dC dI cyB cyI cyJ cyP a1 H.size (.ref a1_bytes) (.int v1_length) (.int v1_at) (z1_token) (z1_filled) (z1_faultPlace) v1_fault   hw) (cwV 0 hts gX2_readFrom_X8_isFaulty rfl rfl rfl (by decide +kernel) ⟨Nat.le_of_ble_eq_true rfl, Nat.le_of_ble_eq_true rfl⟩) ⟨cPc_blind, va_recv hK hPc (ci := 8) (q0 := 0) rfl rfl, cPc_pre hPc hK hDc hNw⟩ rfl rfl hl.1 rfl (lv_room (Nat.le_of_ble_eq_true rfl)) dX2_readFrom_48 ⟨Nat.le_of_ble_eq_true rfl, Nat.le_of_ble_eq_true rfl⟩) hS (fun q _ h => hFc q h) hFc (fun r5 u t H1 locs ht hvm hw hB hz1 hk1 hS => ?_)
      obtain ⟨hP1, hK1, hD1⟩ := hB
      rw [ht] at hP1
      obtain ⟨hP, hD⟩ := va_join (wr := [(a0, .inr (2, [.ref a0_formX, .ref a0_formY, .ref a0_foxX, .ref a0_foxY, z0_seat, z0_strength, .ref a0_debts, z0_near, .int v0_forms, .int v0_hares, .int v0_foxes, .int v0_safe])), (a0_debts, .inl (cyI, 36, .inl f0_debts)), (a1_bytes, .inl (cyB, 600, .inl f1_bytes)), (a0_formX, .inl (cyI, 8, .inl f0_formX)), (a0_foxX, .inl (cyI, 4, .inl f0_foxX)), (a0_formY, .inl (cyI, 8, .inl f0_formY)), (a0_foxY, .inl (cyI, 4, .inl f0_foxY))]) (w1 := [(a1, .inr (8, [.ref a1_bytes, .int v1_length, .int v1_at, z1_token, z1_filled, .int v1_fault, z1_faultPlace]))]) hP hD [2] [0, 1, 3, 4, 5, 6, 7] rfl rfl (by decide) (by decide) hk1 hFc hP1 hD1
      have hP : va_P (dC, dI) vwCl [(a0, .inr (2, [.ref a0_formX, .ref a0_formY, .ref a0_foxX, .ref a0_foxY, z0_seat, z0_strength, .ref a0_debts, z0_near, .int v0_forms, .int v0_hares, .int v0_foxes, .int v0_safe])), (a0_debts, .inl (cyI, 36, .inl f0_debts)), (a1, .inr (8, [.ref a1_bytes, .int v1_length, .int v1_at, z1_token, z1_filled, .int v1_fault, z1_faultPlace])), (a1_bytes, .inl (cyB, 600, .inl f1_bytes)), (a0_formX, .inl (cyI, 8, .inl f0_formX)), (a0_foxX, .inl (cyI, 4, .inl f0_foxX)), (a0_formY, .inl (cyI, 8, .inl f0_formY)), (a0_foxY, .inl (cyI, 4, .inl f0_foxY))] H1 := hP.sub [0, 1, 7, 2, 3, 4, 5, 6] rfl
      have hD : va_D A [(a0, .inr (2, [.ref a0_formX, .ref a0_formY, .ref a0_foxX, .ref a0_foxY, z0_seat, z0_strength, .ref a0_debts, z0_near, .int v0_forms, .int v0_hares, .int v0_foxes, .int v0_safe])), (a0_debts, .inl (cyI, 36, .inl f0_debts)), (a1, .inr (8, [.ref a1_bytes, .int v1_length, .int v1_at, z1_token, z1_filled, .int v1_fault, z1_faultPlace])), (a1_bytes, .inl (cyB, 600, .inl f1_bytes)), (a0_formX, .inl (cyI, 8, .inl f0_formX)), (a0_foxX, .inl (cyI, 4, .inl f0_foxX)), (a0_formY, .inl (cyI, 8, .inl f0_formY)), (a0_foxY, .inl (cyI, 4, .inl f0_foxY))] := hD.sub [0, 1, 7, 2, 3, 4, 5, 6] (by decide) rfl
      generalize H1 = H at hP hS ⊢
      refine lv_if_ne (tgt := 83) hx hb dX2_readFrom_51 (by decide) (fun c6 => ?_) (fun c6 => ?_)
      · have hw := hw.1 c6
        exact kb_X2_readFrom_83 dC dI cyB cyI cyJ cyP a0 a1 a0_debts a1_bytes a0_formX a0_foxX a0_formY a0_foxY z0_seat z0_strength z0_near z1_token z1_filled z1_faultPlace v1_length v1_fault f1_bytes f0_formX f0_foxX f0_formY f0_foxY Q  C0 _ _ _ v0_forms v0_hares v0_foxes f0_debts v1_at v0_safe hP hD hS (lv_sub hl [0] rfl) hw
      · have hw := hw.2 c6
        refine lv_aload_n hx hb dX2_readFrom_54 rfl (lv_at hl 1 rfl) ?_
        have hPc := hP.sub (ws' := [(a1, .inr (8, [.ref a1_bytes, .int v1_length, .int v1_at, z1_token, z1_filled, .int v1_fault, z1_faultPlace])), (a1_bytes, .inl (cyB, 600, .inl f1_bytes))]) [2, 3] rfl
        have hDc := hD.sub (ws' := [(a1, .inr (8, [.ref a1_bytes, .int v1_length, .int v1_at, z1_token, z1_filled, .int v1_fault, z1_faultPlace])), (a1_bytes, .inl (cyB, 600, .inl f1_bytes))]) [2, 3] (by decide) rfl
        have hFc := va_free (wc := [(a1, .inr (8, [.ref a1_bytes, .int v1_length, .int v1_at, z1_token, z1_filled, .int v1_fault, z1_faultPlace])), (a1_bytes, .inl (cyB, 600, .inl f1_bytes))]) hD hS hA [2, 3] rfl
        refine va_calli (va_runV (As := []) (rest := []) ⟨hx, hb, hml, hown, hts⟩ (ck_X8_isEnded l dC dI cyB cyI cyJ cyP a1 a1_bytes H.size (z1_token) (z1_filled) (.int v1_fault) (z1_faultPlace) v1_length f1_bytes v1_at  hw) (cwV 0 hts gX2_readFrom_X8_isEnded rfl rfl rfl (by decide +kernel) ⟨Nat.le_of_ble_eq_true rfl, Nat.le_of_ble_eq_true rfl⟩) ⟨cPc_blind, va_recv hK hPc (ci := 8) (q0 := 0) rfl rfl, cPc_pre hPc hK hDc hNw⟩ rfl rfl hl.1 rfl (lv_room (Nat.le_of_ble_eq_true rfl)) dX2_readFrom_55 ⟨Nat.le_of_ble_eq_true rfl, Nat.le_of_ble_eq_true rfl⟩) hS (fun q _ h => hFc q h) hFc (fun r8 u t H1 locs ht hvm hw hB hz1 hk1 hS => ?_)
        obtain ⟨x7, rfl⟩ : ∃ z, z = u := ⟨_, rfl⟩
        obtain ⟨hP1, hK1, hD1⟩ := hB
        rw [ht] at hP1
        obtain ⟨hP, hD⟩ := va_join (wr := [(a0, .inr (2, [.ref a0_formX, .ref a0_formY, .ref a0_foxX, .ref a0_foxY, z0_seat, z0_strength, .ref a0_debts, z0_near, .int v0_forms, .int v0_hares, .int v0_foxes, .int v0_safe])), (a0_debts, .inl (cyI, 36, .inl f0_debts)), (a0_formX, .inl (cyI, 8, .inl f0_formX)), (a0_foxX, .inl (cyI, 4, .inl f0_foxX)), (a0_formY, .inl (cyI, 8, .inl f0_formY)), (a0_foxY, .inl (cyI, 4, .inl f0_foxY))]) (w1 := [(a1, .inr (8, [.ref a1_bytes, .int v1_length, .int x7, z1_token, z1_filled, .int v1_fault, z1_faultPlace])), (a1_bytes, .inl (cyB, 600, .inl f1_bytes))]) hP hD [2, 3] [0, 1, 4, 5, 6, 7] rfl rfl (by decide) (by decide) hk1 hFc hP1 hD1
        have hP : va_P (dC, dI) vwCl [(a0, .inr (2, [.ref a0_formX, .ref a0_formY, .ref a0_foxX, .ref a0_foxY, z0_seat, z0_strength, .ref a0_debts, z0_near, .int v0_forms, .int v0_hares, .int v0_foxes, .int v0_safe])), (a0_debts, .inl (cyI, 36, .inl f0_debts)), (a1, .inr (8, [.ref a1_bytes, .int v1_length, .int x7, z1_token, z1_filled, .int v1_fault, z1_faultPlace])), (a1_bytes, .inl (cyB, 600, .inl f1_bytes)), (a0_formX, .inl (cyI, 8, .inl f0_formX)), (a0_foxX, .inl (cyI, 4, .inl f0_foxX)), (a0_formY, .inl (cyI, 8, .inl f0_formY)), (a0_foxY, .inl (cyI, 4, .inl f0_foxY))] H1 := hP.sub [0, 1, 6, 7, 2, 3, 4, 5] rfl
        have hD : va_D A [(a0, .inr (2, [.ref a0_formX, .ref a0_formY, .ref a0_foxX, .ref a0_foxY, z0_seat, z0_strength, .ref a0_debts, z0_near, .int v0_forms, .int v0_hares, .int v0_foxes, .int v0_safe])), (a0_debts, .inl (cyI, 36, .inl f0_debts)), (a1, .inr (8, [.ref a1_bytes, .int v1_length, .int x7, z1_token, z1_filled, .int v1_fault, z1_faultPlace])), (a1_bytes, .inl (cyB, 600, .inl f1_bytes)), (a0_formX, .inl (cyI, 8, .inl f0_formX)), (a0_foxX, .inl (cyI, 4, .inl f0_foxX)), (a0_formY, .inl (cyI, 8, .inl f0_formY)), (a0_foxY, .inl (cyI, 4, .inl f0_foxY))] := hD.sub [0, 1, 6, 7, 2, 3, 4, 5] (by decide) rfl
        generalize H1 = H at hP hS ⊢
        refine lv_if_ne (tgt := 83) hx hb dX2_readFrom_58 (by decide) (fun c9 => ?_) (fun c9 => ?_)
        · have hw := hw.1 c9
          exact kb_X2_readFrom_83 dC dI cyB cyI cyJ cyP a0 a1 a0_debts a1_bytes a0_formX a0_foxX a0_formY a0_foxY z0_seat z0_strength z0_near z1_token z1_filled z1_faultPlace v1_length v1_fault f1_bytes f0_formX f0_foxX f0_formY f0_foxY Q  C0 _ _ _ v0_forms v0_hares v0_foxes f0_debts x7 v0_safe hP hD hS (lv_sub hl [0] rfl) hw
        · have hw := hw.2 c9
          refine lv_aload_n hx hb dX2_readFrom_61 rfl (lv_at hl 0 rfl) ?_
          refine lv_aload_n hx hb dX2_readFrom_62 rfl (lv_at hl 1 rfl) ?_
          refine lv_iload_n hx hb dX2_readFrom_63 rfl (lv_at hl 2 rfl) ?_
          refine lv_bipush (v := 60) hx hb dX2_readFrom_64 (by decide) ?_
          refine lv_icmp_ne (tgt := 73) hx hb dX2_readFrom_66 (by decide) (fun c10 => ?_) (fun c10 => ?_)
          · have hw := hw.1 c10
            refine lv_iconst (v := 0) hx hb dX2_readFrom_73 (by decide) ?_
            exact kb_X2_readFrom_74 dC dI cyB cyI cyJ cyP a0 a1 a0_debts a1_bytes a0_formX a0_foxX a0_formY a0_foxY z0_seat z0_strength z0_near z1_token z1_filled z1_faultPlace v1_length v1_fault f1_bytes f0_formX f0_foxX f0_formY f0_foxY Q (wl_X2_readFrom_41 v1_length v1_fault f1_bytes f0_formX f0_foxX f0_formY f0_foxY Q  n) ih C0 _ _ _ v0_forms v0_hares v0_foxes f0_debts x7 v0_safe l2 0 hP hD hS (lv_sub hl [0, 1, 2] rfl) hw
          · have hw := hw.2 c10
            refine lv_iconst (v := 1) hx hb dX2_readFrom_69 (by decide) ?_
            refine lv_goto (tgt := 74) hx hb dX2_readFrom_70 (by decide) ?_
            exact kb_X2_readFrom_74 dC dI cyB cyI cyJ cyP a0 a1 a0_debts a1_bytes a0_formX a0_foxX a0_formY a0_foxY z0_seat z0_strength z0_near z1_token z1_filled z1_faultPlace v1_length v1_fault f1_bytes f0_formX f0_foxX f0_formY f0_foxY Q (wl_X2_readFrom_41 v1_length v1_fault f1_bytes f0_formX f0_foxX f0_formY f0_foxY Q  n) ih C0 _ _ _ v0_forms v0_hares v0_foxes f0_debts x7 v0_safe l2 1 hP hD hS (lv_sub hl [0, 1, 2] rfl) hw
def wl_X2_readFrom_17 (v1_length : Int32) (v1_fault : Int32) (f1_bytes : Nat → Int32) (f0_formX : Nat → Int32) (f0_foxX : Nat → Int32) (f0_formY : Nat → Int32) (f0_foxY : Nat → Int32) (Q : Int32 → Int32 → Int32 → (Nat → Int32) → Int32 → Int32 → Prop)  : Nat → Int32 → Int32 → Int32 → (Nat → Int32) → Int32 → Int32 → Int32 → Prop
  | 0, _, _, _, _, _, _, _ => False
  | n + 1, v0_forms, v0_hares, v0_foxes, f0_debts, v1_at, v0_safe, l2 => ((36 ≤ l2 → (∃ k9 : Nat, wl_X2_readFrom_41 v1_length v1_fault f1_bytes f0_formX f0_foxX f0_formY f0_foxY Q  k9 v0_forms v0_hares v0_foxes f0_debts v1_at v0_safe 0)) ∧ (¬ 36 ≤ l2 → vp_in l2 36 ∧ ∀ f2 : Nat → Int32, f2 = upd f0_debts l2.toNatClampNeg 0 → ∀ x3 : Int32, x3 = l2 + 1 → (wl_X2_readFrom_17 v1_length v1_fault f1_bytes f0_formX f0_foxX f0_formY f0_foxY Q  n v0_forms v0_hares v0_foxes f2 v1_at v0_safe x3)))
set_option maxHeartbeats 4000000 in
set_option maxRecDepth 100000 in
theorem kl_X2_readFrom_17 {p : Program} {l : Launch} {e : Env} {s : State} {m : MethodId} {args : Array Value} {below : List Frame} {meth : Method} {c : Code} {A : Nat → Prop} (dC : Nat → ClassId) (dI : Nat → Nat → Nat) (cyB cyI cyJ cyP : ClassId) (a0 a1 a0_debts a1_bytes a0_formX a0_foxX a0_formY a0_foxY : Nat) (z0_seat : Value) (z0_strength : Value) (z0_near : Value) (z1_token : Value) (z1_filled : Value) (z1_faultPlace : Value) (v1_length : Int32) (v1_fault : Int32) (f1_bytes : Nat → Int32) (f0_formX : Nat → Int32) (f0_foxX : Nat → Int32) (f0_formY : Nat → Int32) (f0_foxY : Nat → Int32) (Q : Int32 → Int32 → Int32 → (Nat → Int32) → Int32 → Int32 → Prop)  (C0 : cfx p s m args meth c cX2_readFrom none wsX2_readFrom RX2 3 A (dC, dI) (kT cyB cyI cyJ cyP)) : ∀ (n : Nat) (H : Heap) (locs : List Loc) (ls : Array Slot) (v0_forms : Int32) (v0_hares : Int32) (v0_foxes : Int32) (f0_debts : Nat → Int32) (v1_at : Int32) (v0_safe : Int32) (l2 : Int32), va_P (dC, dI) vwCl [(a0, .inr (2, [.ref a0_formX, .ref a0_formY, .ref a0_foxX, .ref a0_foxY, z0_seat, z0_strength, .ref a0_debts, z0_near, .int v0_forms, .int v0_hares, .int v0_foxes, .int v0_safe])), (a0_debts, .inl (cyI, 36, .inl f0_debts)), (a1, .inr (8, [.ref a1_bytes, .int v1_length, .int v1_at, z1_token, z1_filled, .int v1_fault, z1_faultPlace])), (a1_bytes, .inl (cyB, 600, .inl f1_bytes)), (a0_formX, .inl (cyI, 8, .inl f0_formX)), (a0_foxX, .inl (cyI, 4, .inl f0_foxX)), (a0_formY, .inl (cyI, 8, .inl f0_formY)), (a0_foxY, .inl (cyI, 4, .inl f0_foxY))] H → va_D A [(a0, .inr (2, [.ref a0_formX, .ref a0_formY, .ref a0_foxX, .ref a0_foxY, z0_seat, z0_strength, .ref a0_debts, z0_near, .int v0_forms, .int v0_hares, .int v0_foxes, .int v0_safe])), (a0_debts, .inl (cyI, 36, .inl f0_debts)), (a1, .inr (8, [.ref a1_bytes, .int v1_length, .int v1_at, z1_token, z1_filled, .int v1_fault, z1_faultPlace])), (a1_bytes, .inl (cyB, 600, .inl f1_bytes)), (a0_formX, .inl (cyI, 8, .inl f0_formX)), (a0_foxX, .inl (cyI, 4, .inl f0_foxX)), (a0_formY, .inl (cyI, 8, .inl f0_formY)), (a0_foxY, .inl (cyI, 4, .inl f0_foxY))] → va_S A s.heap H locs → lv_has ls 3 [(0, .ref a0), (1, .ref a1), (2, .int l2)] → wl_X2_readFrom_17 v1_length v1_fault f1_bytes f0_formX f0_foxX f0_formY f0_foxY Q  n v0_forms v0_hares v0_foxes f0_debts v1_at v0_safe l2 → W p l e (headSpec wsX2_readFrom ({ frames := 3, cells := 0, slots := 0, locals := 75 })).room s m args below meth c H locs 0 0 (MQ below (va_Qv (fun (u : Int32 × Int32 × Int32 × (Nat → Int32) × Int32 × Int32) => Q u.1 u.2.1 u.2.2.1 u.2.2.2.1 u.2.2.2.2.1 u.2.2.2.2.2) (cB (dC, dI) (kT cyB cyI cyJ cyP) A (fun u : Int32 × Int32 × Int32 × (Nat → Int32) × Int32 × Int32 => ([(a0, .inr (2, [.ref a0_formX, .ref a0_formY, .ref a0_foxX, .ref a0_foxY, z0_seat, z0_strength, .ref a0_debts, z0_near, .int u.1, .int u.2.1, .int u.2.2.1, .int u.2.2.2.2.2])), (a0_debts, .inl (cyI, 36, .inl u.2.2.2.1)), (a1, .inr (8, [.ref a1_bytes, .int v1_length, .int u.2.2.2.2.1, z1_token, z1_filled, .int v1_fault, z1_faultPlace])), (a1_bytes, .inl (cyB, 600, .inl f1_bytes)), (a0_formX, .inl (cyI, 8, .inl f0_formX)), (a0_foxX, .inl (cyI, 4, .inl f0_foxX)), (a0_formY, .inl (cyI, 8, .inl f0_formY)), (a0_foxY, .inl (cyI, 4, .inl f0_foxY))] : va_W))) A) args s 0 0 A) (F0 m 17 ls []) := by
  obtain ⟨hx, hb, hr, hts, hown, hlocks, hml, hA, hK, hNw⟩ := id C0
  intro n
  induction n with
  | zero => intro H locs ls v0_forms v0_hares v0_foxes f0_debts v1_at v0_safe l2 hP hD hS hl hw; exact False.elim hw
  | succ n ih =>
    intro H locs ls v0_forms v0_hares v0_foxes f0_debts v1_at v0_safe l2 hP hD hS hl hw
    refine lv_iload_n hx hb dX2_readFrom_17 rfl (lv_at hl 2 rfl) ?_
    refine lv_aload_n hx hb dX2_readFrom_18 rfl (lv_at hl 0 rfl) ?_
    refine va_get (D := (dC, dI)) (ci := 2) (v := .ref a0_debts) (C := RX2) (T := TX2) (N := 12) hx hb hts ui_X2_readFrom_X2 hown hK hP 0 rfl rfl 6 (by decide) (hts _ uw_X2_readFrom_f30) (fun _ h9 => h9) rfl dX2_readFrom_19 ?_
    refine va_alen (v := 36) hx hb hK hP 1 1 rfl rfl rfl dX2_readFrom_22 ?_
    refine lv_icmp_ge (tgt := 39) hx hb dX2_readFrom_23 (by decide) (fun c1 => ?_) (fun c1 => ?_)
    · have hw := hw.1 c1
      refine lv_iconst (v := 0) hx hb dX2_readFrom_39 (by decide) ?_
      refine lv_istore_n (lv' := [(2, .int 0), (0, .ref a0), (1, .ref a1)]) hx hb dX2_readFrom_40 rfl hl (by decide) rfl (fun ls hl => ?_)
      obtain ⟨n9, hw⟩ := hw
      exact kl_X2_readFrom_41 dC dI cyB cyI cyJ cyP a0 a1 a0_debts a1_bytes a0_formX a0_foxX a0_formY a0_foxY z0_seat z0_strength z0_near z1_token z1_filled z1_faultPlace v1_length v1_fault f1_bytes f0_formX f0_foxX f0_formY f0_foxY Q  C0 n9 _ _ _ v0_forms v0_hares v0_foxes f0_debts v1_at v0_safe 0 hP hD hS (lv_sub hl [1, 2, 0] rfl) hw
    · have hw := hw.2 c1
      refine lv_aload_n hx hb dX2_readFrom_26 rfl (lv_at hl 0 rfl) ?_
      refine va_get (D := (dC, dI)) (ci := 2) (v := .ref a0_debts) (C := RX2) (T := TX2) (N := 12) hx hb hts ui_X2_readFrom_X2 hown hK hP 0 rfl rfl 6 (by decide) (hts _ uw_X2_readFrom_f30) (fun _ h9 => h9) rfl dX2_readFrom_27 ?_
      refine lv_iload_n hx hb dX2_readFrom_30 rfl (lv_at hl 2 rfl) ?_
      refine lv_iconst (v := 0) hx hb dX2_readFrom_31 (by decide) ?_
      obtain ⟨hi9, hw⟩ := hw
      refine va_iast hx hb hK hP hD hS 1 1 rfl rfl hi9 dX2_readFrom_32 (fun H locs hP hD hS => ?_)
      obtain ⟨f2, ef2⟩ : ∃ y : Nat → Int32, y = upd f0_debts l2.toNatClampNeg 0 := ⟨_, rfl⟩
      have hw := hw f2 ef2
      have hP : va_P (dC, dI) vwCl [(a0, .inr (2, [.ref a0_formX, .ref a0_formY, .ref a0_foxX, .ref a0_foxY, z0_seat, z0_strength, .ref a0_debts, z0_near, .int v0_forms, .int v0_hares, .int v0_foxes, .int v0_safe])), (a0_debts, .inl (cyI, 36, .inl f2)), (a1, .inr (8, [.ref a1_bytes, .int v1_length, .int v1_at, z1_token, z1_filled, .int v1_fault, z1_faultPlace])), (a1_bytes, .inl (cyB, 600, .inl f1_bytes)), (a0_formX, .inl (cyI, 8, .inl f0_formX)), (a0_foxX, .inl (cyI, 4, .inl f0_foxX)), (a0_formY, .inl (cyI, 8, .inl f0_formY)), (a0_foxY, .inl (cyI, 4, .inl f0_foxY))] H := by rw [ef2]; exact hP
      have hD : va_D A [(a0, .inr (2, [.ref a0_formX, .ref a0_formY, .ref a0_foxX, .ref a0_foxY, z0_seat, z0_strength, .ref a0_debts, z0_near, .int v0_forms, .int v0_hares, .int v0_foxes, .int v0_safe])), (a0_debts, .inl (cyI, 36, .inl f2)), (a1, .inr (8, [.ref a1_bytes, .int v1_length, .int v1_at, z1_token, z1_filled, .int v1_fault, z1_faultPlace])), (a1_bytes, .inl (cyB, 600, .inl f1_bytes)), (a0_formX, .inl (cyI, 8, .inl f0_formX)), (a0_foxX, .inl (cyI, 4, .inl f0_foxX)), (a0_formY, .inl (cyI, 8, .inl f0_formY)), (a0_foxY, .inl (cyI, 4, .inl f0_foxY))] := by rw [ef2]; exact hD
      obtain ⟨x3, ex3⟩ : ∃ y : Int32, y = l2 + 1 := ⟨_, rfl⟩
      have hw := hw x3 ex3
      refine lv_iinc (v := x3) (lv' := [(2, .int x3), (0, .ref a0), (1, .ref a1)]) hx hb dX2_readFrom_33 hl (k := 2) rfl (by rw [ex3]; rfl) (by decide) rfl (fun ls hl => ?_)
      refine lv_goto (tgt := 17) hx hb dX2_readFrom_36 (by decide) ?_
      exact ih _ _ _ v0_forms v0_hares v0_foxes f2 v1_at v0_safe x3 hP hD hS (lv_sub hl [1, 2, 0] rfl) hw
def wq_X2_readFrom (v1_length : Int32) (v1_fault : Int32) (f1_bytes : Nat → Int32) (f0_formX : Nat → Int32) (f0_foxX : Nat → Int32) (f0_formY : Nat → Int32) (f0_foxY : Nat → Int32) (v0_forms : Int32) (v0_hares : Int32) (v0_foxes : Int32) (f0_debts : Nat → Int32) (v1_at : Int32) (v0_safe : Int32)  (Q : Int32 → Int32 → Int32 → (Nat → Int32) → Int32 → Int32 → Prop) : Prop := (∃ k9 : Nat, wl_X2_readFrom_17 v1_length v1_fault f1_bytes f0_formX f0_foxX f0_formY f0_foxY Q  k9 0 0 0 f0_debts v1_at v0_safe 0)
set_option maxHeartbeats 4000000 in
set_option maxRecDepth 100000 in
theorem ck_X2_readFrom (l : Launch) (dC : Nat → ClassId) (dI : Nat → Nat → Nat) (cyB cyI cyJ cyP : ClassId) (a0 a1 a0_debts a1_bytes a0_formX a0_foxX a0_formY a0_foxY : Nat) (sz : Nat) (z0_seat : Value) (z0_strength : Value) (z0_near : Value) (z1_token : Value) (z1_filled : Value) (z1_faultPlace : Value) (v1_length : Int32) (v1_fault : Int32) (f1_bytes : Nat → Int32) (f0_formX : Nat → Int32) (f0_foxX : Nat → Int32) (f0_formY : Nat → Int32) (f0_foxY : Nat → Int32) (v0_forms : Int32) (v0_hares : Int32) (v0_foxes : Int32) (f0_debts : Nat → Int32) (v1_at : Int32) (v0_safe : Int32)  {Q : Int32 → Int32 → Int32 → (Nat → Int32) → Int32 → Int32 → Prop} (hw : wq_X2_readFrom v1_length v1_fault f1_bytes f0_formX f0_foxX f0_formY f0_foxY v0_forms v0_hares v0_foxes f0_debts v1_at v0_safe  Q) : Met l yX2_readFrom wsX2_readFrom ({ frames := 3, cells := 0, slots := 0, locals := 75 }) (va_Pc [.ref a0, .ref a1] (cPc (dC, dI) (kT cyB cyI cyJ cyP) [(a0, .inr (2, [.ref a0_formX, .ref a0_formY, .ref a0_foxX, .ref a0_foxY, z0_seat, z0_strength, .ref a0_debts, z0_near, .int v0_forms, .int v0_hares, .int v0_foxes, .int v0_safe])), (a0_debts, .inl (cyI, 36, .inl f0_debts)), (a1, .inr (8, [.ref a1_bytes, .int v1_length, .int v1_at, z1_token, z1_filled, .int v1_fault, z1_faultPlace])), (a1_bytes, .inl (cyB, 600, .inl f1_bytes)), (a0_formX, .inl (cyI, 8, .inl f0_formX)), (a0_foxX, .inl (cyI, 4, .inl f0_foxX)), (a0_formY, .inl (cyI, 8, .inl f0_formY)), (a0_foxY, .inl (cyI, 4, .inl f0_foxY))] sz)) (va_Qv (fun (u : Int32 × Int32 × Int32 × (Nat → Int32) × Int32 × Int32) => Q u.1 u.2.1 u.2.2.1 u.2.2.2.1 u.2.2.2.2.1 u.2.2.2.2.2) (cB (dC, dI) (kT cyB cyI cyJ cyP) (va_A [(a0, .inr (2, [.ref a0_formX, .ref a0_formY, .ref a0_foxX, .ref a0_foxY, z0_seat, z0_strength, .ref a0_debts, z0_near, .int v0_forms, .int v0_hares, .int v0_foxes, .int v0_safe])), (a0_debts, .inl (cyI, 36, .inl f0_debts)), (a1, .inr (8, [.ref a1_bytes, .int v1_length, .int v1_at, z1_token, z1_filled, .int v1_fault, z1_faultPlace])), (a1_bytes, .inl (cyB, 600, .inl f1_bytes)), (a0_formX, .inl (cyI, 8, .inl f0_formX)), (a0_foxX, .inl (cyI, 4, .inl f0_foxX)), (a0_formY, .inl (cyI, 8, .inl f0_formY)), (a0_foxY, .inl (cyI, 4, .inl f0_foxY))] sz) (fun u : Int32 × Int32 × Int32 × (Nat → Int32) × Int32 × Int32 => ([(a0, .inr (2, [.ref a0_formX, .ref a0_formY, .ref a0_foxX, .ref a0_foxY, z0_seat, z0_strength, .ref a0_debts, z0_near, .int u.1, .int u.2.1, .int u.2.2.1, .int u.2.2.2.2.2])), (a0_debts, .inl (cyI, 36, .inl u.2.2.2.1)), (a1, .inr (8, [.ref a1_bytes, .int v1_length, .int u.2.2.2.2.1, z1_token, z1_filled, .int v1_fault, z1_faultPlace])), (a1_bytes, .inl (cyB, 600, .inl f1_bytes)), (a0_formX, .inl (cyI, 8, .inl f0_formX)), (a0_foxX, .inl (cyI, 4, .inl f0_foxX)), (a0_formY, .inl (cyI, 8, .inl f0_formY)), (a0_foxY, .inl (cyI, 4, .inl f0_foxY))] : va_W))) (va_A [(a0, .inr (2, [.ref a0_formX, .ref a0_formY, .ref a0_foxX, .ref a0_foxY, z0_seat, z0_strength, .ref a0_debts, z0_near, .int v0_forms, .int v0_hares, .int v0_foxes, .int v0_safe])), (a0_debts, .inl (cyI, 36, .inl f0_debts)), (a1, .inr (8, [.ref a1_bytes, .int v1_length, .int v1_at, z1_token, z1_filled, .int v1_fault, z1_faultPlace])), (a1_bytes, .inl (cyB, 600, .inl f1_bytes)), (a0_formX, .inl (cyI, 8, .inl f0_formX)), (a0_foxX, .inl (cyI, 4, .inl f0_foxX)), (a0_formY, .inl (cyI, 8, .inl f0_formY)), (a0_foxY, .inl (cyI, 4, .inl f0_foxY))] sz)) 0 0 (va_A [(a0, .inr (2, [.ref a0_formX, .ref a0_formY, .ref a0_foxX, .ref a0_foxY, z0_seat, z0_strength, .ref a0_debts, z0_near, .int v0_forms, .int v0_hares, .int v0_foxes, .int v0_safe])), (a0_debts, .inl (cyI, 36, .inl f0_debts)), (a1, .inr (8, [.ref a1_bytes, .int v1_length, .int v1_at, z1_token, z1_filled, .int v1_fault, z1_faultPlace])), (a1_bytes, .inl (cyB, 600, .inl f1_bytes)), (a0_formX, .inl (cyI, 8, .inl f0_formX)), (a0_foxX, .inl (cyI, 4, .inl f0_foxX)), (a0_formY, .inl (cyI, 8, .inl f0_formY)), (a0_foxY, .inl (cyI, 4, .inl f0_foxY))] sz) := by
  refine Met.ofW (cc := cX2_readFrom) (maxL := 3) (ret := none) (by decide) rfl ?_
  intro p e s m args below meth c s₁ B hml hv
  obtain ⟨rfl, hsz, hP, hK, hD0, hNw⟩ := hv
  have hx := B.exec
  have hb := B.bytes
  have hr := B.returns
  have hts := atoms_spec (ws := wsX2_readFrom) B.pre
  have hown : s.vm.findClass RX2 = some m.cls := findClass_of_methodNamed B.named
  have hlocks := B.notSynchronized
  subst hsz
  have hD := hD0.self (sz := s.heap.size)
  generalize hAe : va_A [(a0, .inr (2, [.ref a0_formX, .ref a0_formY, .ref a0_foxX, .ref a0_foxY, z0_seat, z0_strength, .ref a0_debts, z0_near, .int v0_forms, .int v0_hares, .int v0_foxes, .int v0_safe])), (a0_debts, .inl (cyI, 36, .inl f0_debts)), (a1, .inr (8, [.ref a1_bytes, .int v1_length, .int v1_at, z1_token, z1_filled, .int v1_fault, z1_faultPlace])), (a1_bytes, .inl (cyB, 600, .inl f1_bytes)), (a0_formX, .inl (cyI, 8, .inl f0_formX)), (a0_foxX, .inl (cyI, 4, .inl f0_foxX)), (a0_formY, .inl (cyI, 8, .inl f0_formY)), (a0_foxY, .inl (cyI, 4, .inl f0_foxY))] s.heap.size = A at hD ⊢
  have hA : ∀ q : Nat, s.heap.size ≤ q → A q := fun q h => by rw [← hAe]; exact Or.inr h
  have hS : va_S A s.heap s.heap [] := va_S.rf
  have hP : va_P (dC, dI) vwCl [(a0, .inr (2, [.ref a0_formX, .ref a0_formY, .ref a0_foxX, .ref a0_foxY, z0_seat, z0_strength, .ref a0_debts, z0_near, .int v0_forms, .int v0_hares, .int v0_foxes, .int v0_safe])), (a0_debts, .inl (cyI, 36, .inl f0_debts)), (a1, .inr (8, [.ref a1_bytes, .int v1_length, .int v1_at, z1_token, z1_filled, .int v1_fault, z1_faultPlace])), (a1_bytes, .inl (cyB, 600, .inl f1_bytes)), (a0_formX, .inl (cyI, 8, .inl f0_formX)), (a0_foxX, .inl (cyI, 4, .inl f0_foxX)), (a0_formY, .inl (cyI, 8, .inl f0_formY)), (a0_foxY, .inl (cyI, 4, .inl f0_foxY))] s.heap := hP
  have hl := lv_entry ([.ref a0, .ref a1]) (n := 3) (Nat.le_of_ble_eq_true rfl)
  rw [lg_entry_eq]
  generalize (lg_sl ([.ref a0, .ref a1]) ++ List.replicate (3 - (lg_sl ([.ref a0, .ref a1])).length) Slot.unset).toArray = ls at hl ⊢
  have hl : lv_has ls 3 [(0, .ref a0), (1, .ref a1)] := hl
  have C0 : cfx p s m _ meth c cX2_readFrom none wsX2_readFrom RX2 3 A (dC, dI) (kT cyB cyI cyJ cyP) := ⟨hx, hb, hr, hts, hown, hlocks, hml, hA, hK, hNw⟩
  clear hAe
  obtain ⟨H, hH⟩ : ∃ H, H = s.heap := ⟨_, rfl⟩
  rw [← hH] at hP ⊢
  have hS : va_S A s.heap H [] := by rw [hH]; exact va_S.rf
  have hS := hS
  refine lv_aload_n hx hb dX2_readFrom_0 rfl (lv_at hl 0 rfl) ?_
  refine lv_iconst (v := 0) hx hb dX2_readFrom_1 (by decide) ?_
  refine va_put (D := (dC, dI)) (ci := 2) (v := .int 0) (ty := .int) (C := RX2) (T := TX2) (N := 12) hx hb hts ui_X2_readFrom_X2 tyX2 tyX2_ok nmX2 hown hK hP hD hS 0 rfl rfl 8 (by decide) (hts _ uw_X2_readFrom_f36) (fun _ h9 => h9) rfl (by decide +kernel) rfl rfl (Nat.le_of_ble_eq_true rfl) dX2_readFrom_2 (fun H locs hP hD hS => ?_)
  have hP : va_P (dC, dI) vwCl [(a0, .inr (2, [.ref a0_formX, .ref a0_formY, .ref a0_foxX, .ref a0_foxY, z0_seat, z0_strength, .ref a0_debts, z0_near, .int 0, .int v0_hares, .int v0_foxes, .int v0_safe])), (a0_debts, .inl (cyI, 36, .inl f0_debts)), (a1, .inr (8, [.ref a1_bytes, .int v1_length, .int v1_at, z1_token, z1_filled, .int v1_fault, z1_faultPlace])), (a1_bytes, .inl (cyB, 600, .inl f1_bytes)), (a0_formX, .inl (cyI, 8, .inl f0_formX)), (a0_foxX, .inl (cyI, 4, .inl f0_foxX)), (a0_formY, .inl (cyI, 8, .inl f0_formY)), (a0_foxY, .inl (cyI, 4, .inl f0_foxY))] H := hP
  have hD : va_D A [(a0, .inr (2, [.ref a0_formX, .ref a0_formY, .ref a0_foxX, .ref a0_foxY, z0_seat, z0_strength, .ref a0_debts, z0_near, .int 0, .int v0_hares, .int v0_foxes, .int v0_safe])), (a0_debts, .inl (cyI, 36, .inl f0_debts)), (a1, .inr (8, [.ref a1_bytes, .int v1_length, .int v1_at, z1_token, z1_filled, .int v1_fault, z1_faultPlace])), (a1_bytes, .inl (cyB, 600, .inl f1_bytes)), (a0_formX, .inl (cyI, 8, .inl f0_formX)), (a0_foxX, .inl (cyI, 4, .inl f0_foxX)), (a0_formY, .inl (cyI, 8, .inl f0_formY)), (a0_foxY, .inl (cyI, 4, .inl f0_foxY))] := hD
  refine lv_aload_n hx hb dX2_readFrom_5 rfl (lv_at hl 0 rfl) ?_
  refine lv_iconst (v := 0) hx hb dX2_readFrom_6 (by decide) ?_
  refine va_put (D := (dC, dI)) (ci := 2) (v := .int 0) (ty := .int) (C := RX2) (T := TX2) (N := 12) hx hb hts ui_X2_readFrom_X2 tyX2 tyX2_ok nmX2 hown hK hP hD hS 0 rfl rfl 9 (by decide) (hts _ uw_X2_readFrom_f40) (fun _ h9 => h9) rfl (by decide +kernel) rfl rfl (Nat.le_of_ble_eq_true rfl) dX2_readFrom_7 (fun H locs hP hD hS => ?_)
  have hP : va_P (dC, dI) vwCl [(a0, .inr (2, [.ref a0_formX, .ref a0_formY, .ref a0_foxX, .ref a0_foxY, z0_seat, z0_strength, .ref a0_debts, z0_near, .int 0, .int 0, .int v0_foxes, .int v0_safe])), (a0_debts, .inl (cyI, 36, .inl f0_debts)), (a1, .inr (8, [.ref a1_bytes, .int v1_length, .int v1_at, z1_token, z1_filled, .int v1_fault, z1_faultPlace])), (a1_bytes, .inl (cyB, 600, .inl f1_bytes)), (a0_formX, .inl (cyI, 8, .inl f0_formX)), (a0_foxX, .inl (cyI, 4, .inl f0_foxX)), (a0_formY, .inl (cyI, 8, .inl f0_formY)), (a0_foxY, .inl (cyI, 4, .inl f0_foxY))] H := hP
  have hD : va_D A [(a0, .inr (2, [.ref a0_formX, .ref a0_formY, .ref a0_foxX, .ref a0_foxY, z0_seat, z0_strength, .ref a0_debts, z0_near, .int 0, .int 0, .int v0_foxes, .int v0_safe])), (a0_debts, .inl (cyI, 36, .inl f0_debts)), (a1, .inr (8, [.ref a1_bytes, .int v1_length, .int v1_at, z1_token, z1_filled, .int v1_fault, z1_faultPlace])), (a1_bytes, .inl (cyB, 600, .inl f1_bytes)), (a0_formX, .inl (cyI, 8, .inl f0_formX)), (a0_foxX, .inl (cyI, 4, .inl f0_foxX)), (a0_formY, .inl (cyI, 8, .inl f0_formY)), (a0_foxY, .inl (cyI, 4, .inl f0_foxY))] := hD
  refine lv_aload_n hx hb dX2_readFrom_10 rfl (lv_at hl 0 rfl) ?_
  refine lv_iconst (v := 0) hx hb dX2_readFrom_11 (by decide) ?_
  refine va_put (D := (dC, dI)) (ci := 2) (v := .int 0) (ty := .int) (C := RX2) (T := TX2) (N := 12) hx hb hts ui_X2_readFrom_X2 tyX2 tyX2_ok nmX2 hown hK hP hD hS 0 rfl rfl 10 (by decide) (hts _ uw_X2_readFrom_f43) (fun _ h9 => h9) rfl (by decide +kernel) rfl rfl (Nat.le_of_ble_eq_true rfl) dX2_readFrom_12 (fun H locs hP hD hS => ?_)
  have hP : va_P (dC, dI) vwCl [(a0, .inr (2, [.ref a0_formX, .ref a0_formY, .ref a0_foxX, .ref a0_foxY, z0_seat, z0_strength, .ref a0_debts, z0_near, .int 0, .int 0, .int 0, .int v0_safe])), (a0_debts, .inl (cyI, 36, .inl f0_debts)), (a1, .inr (8, [.ref a1_bytes, .int v1_length, .int v1_at, z1_token, z1_filled, .int v1_fault, z1_faultPlace])), (a1_bytes, .inl (cyB, 600, .inl f1_bytes)), (a0_formX, .inl (cyI, 8, .inl f0_formX)), (a0_foxX, .inl (cyI, 4, .inl f0_foxX)), (a0_formY, .inl (cyI, 8, .inl f0_formY)), (a0_foxY, .inl (cyI, 4, .inl f0_foxY))] H := hP
  have hD : va_D A [(a0, .inr (2, [.ref a0_formX, .ref a0_formY, .ref a0_foxX, .ref a0_foxY, z0_seat, z0_strength, .ref a0_debts, z0_near, .int 0, .int 0, .int 0, .int v0_safe])), (a0_debts, .inl (cyI, 36, .inl f0_debts)), (a1, .inr (8, [.ref a1_bytes, .int v1_length, .int v1_at, z1_token, z1_filled, .int v1_fault, z1_faultPlace])), (a1_bytes, .inl (cyB, 600, .inl f1_bytes)), (a0_formX, .inl (cyI, 8, .inl f0_formX)), (a0_foxX, .inl (cyI, 4, .inl f0_foxX)), (a0_formY, .inl (cyI, 8, .inl f0_formY)), (a0_foxY, .inl (cyI, 4, .inl f0_foxY))] := hD
  refine lv_iconst (v := 0) hx hb dX2_readFrom_15 (by decide) ?_
  refine lv_istore_n (lv' := [(2, .int 0), (0, .ref a0), (1, .ref a1)]) hx hb dX2_readFrom_16 rfl hl (by decide) rfl (fun ls hl => ?_)
  obtain ⟨n9, hw⟩ := hw
  exact kl_X2_readFrom_17 dC dI cyB cyI cyJ cyP a0 a1 a0_debts a1_bytes a0_formX a0_foxX a0_formY a0_foxY z0_seat z0_strength z0_near z1_token z1_filled z1_faultPlace v1_length v1_fault f1_bytes f0_formX f0_foxX f0_formY f0_foxY Q  C0 n9 _ _ _ 0 0 0 f0_debts v1_at v0_safe 0 hP hD hS (lv_sub hl [1, 2, 0] rfl) hw
theorem ui_X4_add_X4 : ∀ w ∈ u_ws RX4 TX4 5, w ∈ wsX4_add := by decide +kernel
theorem uw_X4_add_f15 : (.fieldLink RX4 15 "MarchHares$Law" "values" "[I" : Cond) ∈ wsX4_add := by decide +kernel
theorem uw_X4_add_f27 : (.fieldLink RX4 27 "MarchHares$Law" "length" "I" : Cond) ∈ wsX4_add := by decide +kernel
theorem uw_X4_add_f9 : (.fieldLink RX4 9 "MarchHares$Law" "kinds" "[I" : Cond) ∈ wsX4_add := by decide +kernel
def wq_X4_add  (f0_kinds : Nat → Int32) (f0_values : Nat → Int32) (v0_length : Int32) (p1 : Int32) (p2 : Int32) (Q : (Nat → Int32) → (Nat → Int32) → Int32 → Prop) : Prop := ((150 ≤ v0_length → (Q f0_kinds f0_values v0_length)) ∧ (¬ 150 ≤ v0_length → vp_in v0_length 150 ∧ ∀ f2 : Nat → Int32, f2 = upd f0_kinds v0_length.toNatClampNeg p1 → vp_in v0_length 150 ∧ ∀ f3 : Nat → Int32, f3 = upd f0_values v0_length.toNatClampNeg p2 → ∀ x4 : Int32, x4 = v0_length + 1 → (Q f2 f3 x4)))
set_option maxHeartbeats 4000000 in
set_option maxRecDepth 100000 in
theorem ck_X4_add (l : Launch) (dC : Nat → ClassId) (dI : Nat → Nat → Nat) (cyB cyI cyJ cyP : ClassId) (a0 a0_kinds a0_values : Nat) (sz : Nat) (z0_pile : Value) (z0_facts : Value)  (f0_kinds : Nat → Int32) (f0_values : Nat → Int32) (v0_length : Int32) (p1 : Int32) (p2 : Int32) {Q : (Nat → Int32) → (Nat → Int32) → Int32 → Prop} (hw : wq_X4_add  f0_kinds f0_values v0_length p1 p2 Q) : Met l yX4_add wsX4_add ({ frames := 0, cells := 0, slots := 0, locals := 0 }) (va_Pc [.ref a0, .int p1, .int p2] (cPc (dC, dI) (kT cyB cyI cyJ cyP) [(a0, .inr (4, [.ref a0_kinds, .ref a0_values, z0_pile, z0_facts, .int v0_length])), (a0_kinds, .inl (cyI, 150, .inl f0_kinds)), (a0_values, .inl (cyI, 150, .inl f0_values))] sz)) (va_Qv (fun (u : (Nat → Int32) × (Nat → Int32) × Int32) => Q u.1 u.2.1 u.2.2) (cB (dC, dI) (kT cyB cyI cyJ cyP) (va_A [(a0, .inr (4, [.ref a0_kinds, .ref a0_values, z0_pile, z0_facts, .int v0_length])), (a0_kinds, .inl (cyI, 150, .inl f0_kinds)), (a0_values, .inl (cyI, 150, .inl f0_values))] sz) (fun u : (Nat → Int32) × (Nat → Int32) × Int32 => ([(a0, .inr (4, [.ref a0_kinds, .ref a0_values, z0_pile, z0_facts, .int u.2.2])), (a0_kinds, .inl (cyI, 150, .inl u.1)), (a0_values, .inl (cyI, 150, .inl u.2.1))] : va_W))) (va_A [(a0, .inr (4, [.ref a0_kinds, .ref a0_values, z0_pile, z0_facts, .int v0_length])), (a0_kinds, .inl (cyI, 150, .inl f0_kinds)), (a0_values, .inl (cyI, 150, .inl f0_values))] sz)) 0 0 (va_A [(a0, .inr (4, [.ref a0_kinds, .ref a0_values, z0_pile, z0_facts, .int v0_length])), (a0_kinds, .inl (cyI, 150, .inl f0_kinds)), (a0_values, .inl (cyI, 150, .inl f0_values))] sz) := by
  refine Met.ofW (cc := cX4_add) (maxL := 3) (ret := none) (by decide) rfl ?_
  intro p e s m args below meth c s₁ B hml hv
  obtain ⟨rfl, hsz, hP, hK, hD0, hNw⟩ := hv
  have hx := B.exec
  have hb := B.bytes
  have hr := B.returns
  have hts := atoms_spec (ws := wsX4_add) B.pre
  have hown : s.vm.findClass RX4 = some m.cls := findClass_of_methodNamed B.named
  have hlocks := B.notSynchronized
  subst hsz
  have hD := hD0.self (sz := s.heap.size)
  generalize hAe : va_A [(a0, .inr (4, [.ref a0_kinds, .ref a0_values, z0_pile, z0_facts, .int v0_length])), (a0_kinds, .inl (cyI, 150, .inl f0_kinds)), (a0_values, .inl (cyI, 150, .inl f0_values))] s.heap.size = A at hD ⊢
  have hA : ∀ q : Nat, s.heap.size ≤ q → A q := fun q h => by rw [← hAe]; exact Or.inr h
  have hS : va_S A s.heap s.heap [] := va_S.rf
  have hP : va_P (dC, dI) vwCl [(a0, .inr (4, [.ref a0_kinds, .ref a0_values, z0_pile, z0_facts, .int v0_length])), (a0_kinds, .inl (cyI, 150, .inl f0_kinds)), (a0_values, .inl (cyI, 150, .inl f0_values))] s.heap := hP
  have hl := lv_entry ([.ref a0, .int p1, .int p2]) (n := 3) (Nat.le_of_ble_eq_true rfl)
  rw [lg_entry_eq]
  generalize (lg_sl ([.ref a0, .int p1, .int p2]) ++ List.replicate (3 - (lg_sl ([.ref a0, .int p1, .int p2])).length) Slot.unset).toArray = ls at hl ⊢
  have hl : lv_has ls 3 [(0, .ref a0), (1, .int p1), (2, .int p2)] := hl
  have C0 : cfx p s m _ meth c cX4_add none wsX4_add RX4 3 A (dC, dI) (kT cyB cyI cyJ cyP) := ⟨hx, hb, hr, hts, hown, hlocks, hml, hA, hK, hNw⟩
  clear hAe
  obtain ⟨H, hH⟩ : ∃ H, H = s.heap := ⟨_, rfl⟩
  rw [← hH] at hP ⊢
  have hS : va_S A s.heap H [] := by rw [hH]; exact va_S.rf
  have hS := hS
  refine lv_aload_n hx hb dX4_add_0 rfl (lv_at hl 0 rfl) ?_
  refine va_get (D := (dC, dI)) (ci := 4) (v := .int v0_length) (C := RX4) (T := TX4) (N := 5) hx hb hts ui_X4_add_X4 hown hK hP 0 rfl rfl 4 (by decide) (hts _ uw_X4_add_f27) (fun _ h9 => h9) rfl dX4_add_1 ?_
  refine lv_sipush (v := 150) hx hb dX4_add_4 (by decide) ?_
  refine lv_icmp_ge (tgt := 40) hx hb dX4_add_7 (by decide) (fun c1 => ?_) (fun c1 => ?_)
  · have hw := hw.1 c1
    exact ((W.vret hx hb hr (fun t ht hW => ⟨⟨(f0_kinds, f0_values, v0_length), rfl, hw, by rw [ht]; exact hP, va_K.moved hW.alike hK, hD⟩, hS.F ht⟩) hS.2.2 dX4_add_40))
  · have hw := hw.2 c1
    refine lv_aload_n hx hb dX4_add_10 rfl (lv_at hl 0 rfl) ?_
    refine va_get (D := (dC, dI)) (ci := 4) (v := .ref a0_kinds) (C := RX4) (T := TX4) (N := 5) hx hb hts ui_X4_add_X4 hown hK hP 0 rfl rfl 0 (by decide) (hts _ uw_X4_add_f9) (fun _ h9 => h9) rfl dX4_add_11 ?_
    refine lv_aload_n hx hb dX4_add_14 rfl (lv_at hl 0 rfl) ?_
    refine va_get (D := (dC, dI)) (ci := 4) (v := .int v0_length) (C := RX4) (T := TX4) (N := 5) hx hb hts ui_X4_add_X4 hown hK hP 0 rfl rfl 4 (by decide) (hts _ uw_X4_add_f27) (fun _ h9 => h9) rfl dX4_add_15 ?_
    refine lv_iload_n hx hb dX4_add_18 rfl (lv_at hl 1 rfl) ?_
    obtain ⟨hi9, hw⟩ := hw
    refine va_iast hx hb hK hP hD hS 1 1 rfl rfl hi9 dX4_add_19 (fun H locs hP hD hS => ?_)
    obtain ⟨f2, ef2⟩ : ∃ y : Nat → Int32, y = upd f0_kinds v0_length.toNatClampNeg p1 := ⟨_, rfl⟩
    have hw := hw f2 ef2
    have hP : va_P (dC, dI) vwCl [(a0, .inr (4, [.ref a0_kinds, .ref a0_values, z0_pile, z0_facts, .int v0_length])), (a0_kinds, .inl (cyI, 150, .inl f2)), (a0_values, .inl (cyI, 150, .inl f0_values))] H := by rw [ef2]; exact hP
    have hD : va_D A [(a0, .inr (4, [.ref a0_kinds, .ref a0_values, z0_pile, z0_facts, .int v0_length])), (a0_kinds, .inl (cyI, 150, .inl f2)), (a0_values, .inl (cyI, 150, .inl f0_values))] := by rw [ef2]; exact hD
    refine lv_aload_n hx hb dX4_add_20 rfl (lv_at hl 0 rfl) ?_
    refine va_get (D := (dC, dI)) (ci := 4) (v := .ref a0_values) (C := RX4) (T := TX4) (N := 5) hx hb hts ui_X4_add_X4 hown hK hP 0 rfl rfl 1 (by decide) (hts _ uw_X4_add_f15) (fun _ h9 => h9) rfl dX4_add_21 ?_
    refine lv_aload_n hx hb dX4_add_24 rfl (lv_at hl 0 rfl) ?_
    refine va_get (D := (dC, dI)) (ci := 4) (v := .int v0_length) (C := RX4) (T := TX4) (N := 5) hx hb hts ui_X4_add_X4 hown hK hP 0 rfl rfl 4 (by decide) (hts _ uw_X4_add_f27) (fun _ h9 => h9) rfl dX4_add_25 ?_
    refine lv_iload_n hx hb dX4_add_28 rfl (lv_at hl 2 rfl) ?_
    obtain ⟨hi9, hw⟩ := hw
    refine va_iast hx hb hK hP hD hS 2 1 rfl rfl hi9 dX4_add_29 (fun H locs hP hD hS => ?_)
    obtain ⟨f3, ef3⟩ : ∃ y : Nat → Int32, y = upd f0_values v0_length.toNatClampNeg p2 := ⟨_, rfl⟩
    have hw := hw f3 ef3
    have hP : va_P (dC, dI) vwCl [(a0, .inr (4, [.ref a0_kinds, .ref a0_values, z0_pile, z0_facts, .int v0_length])), (a0_kinds, .inl (cyI, 150, .inl f2)), (a0_values, .inl (cyI, 150, .inl f3))] H := by rw [ef3]; exact hP
    have hD : va_D A [(a0, .inr (4, [.ref a0_kinds, .ref a0_values, z0_pile, z0_facts, .int v0_length])), (a0_kinds, .inl (cyI, 150, .inl f2)), (a0_values, .inl (cyI, 150, .inl f3))] := by rw [ef3]; exact hD
    refine lv_aload_n hx hb dX4_add_30 rfl (lv_at hl 0 rfl) ?_
    refine lv_dup hx hb dX4_add_31 rfl ?_
    refine va_get (D := (dC, dI)) (ci := 4) (v := .int v0_length) (C := RX4) (T := TX4) (N := 5) hx hb hts ui_X4_add_X4 hown hK hP 0 rfl rfl 4 (by decide) (hts _ uw_X4_add_f27) (fun _ h9 => h9) rfl dX4_add_32 ?_
    refine lv_iconst (v := 1) hx hb dX4_add_35 (by decide) ?_
    refine lv_iadd hx hb dX4_add_36 ?_
    refine lv_topi (fun x4 ex4 => ?_)
    have hw := hw x4 ex4
    refine va_put (D := (dC, dI)) (ci := 4) (v := .int x4) (ty := .int) (C := RX4) (T := TX4) (N := 5) hx hb hts ui_X4_add_X4 tyX4 tyX4_ok nmX4 hown hK hP hD hS 0 rfl rfl 4 (by decide) (hts _ uw_X4_add_f27) (fun _ h9 => h9) rfl (by decide +kernel) rfl rfl (Nat.le_of_ble_eq_true rfl) dX4_add_37 (fun H locs hP hD hS => ?_)
    have hP : va_P (dC, dI) vwCl [(a0, .inr (4, [.ref a0_kinds, .ref a0_values, z0_pile, z0_facts, .int x4])), (a0_kinds, .inl (cyI, 150, .inl f2)), (a0_values, .inl (cyI, 150, .inl f3))] H := hP
    have hD : va_D A [(a0, .inr (4, [.ref a0_kinds, .ref a0_values, z0_pile, z0_facts, .int x4])), (a0_kinds, .inl (cyI, 150, .inl f2)), (a0_values, .inl (cyI, 150, .inl f3))] := hD
    exact ((W.vret hx hb hr (fun t ht hW => ⟨⟨(f2, f3, x4), rfl, hw, by rw [ht]; exact hP, va_K.moved hW.alike hK, hD⟩, hS.F ht⟩) hS.2.2 dX4_add_40))
theorem ui_X4_setPlain_X4 : ∀ w ∈ u_ws RX4 TX4 5, w ∈ wsX4_setPlain := by decide +kernel
theorem uw_X4_setPlain_f27 : (.fieldLink RX4 27 "MarchHares$Law" "length" "I" : Cond) ∈ wsX4_setPlain := by decide +kernel
def wq_X4_setPlain  (v0_length : Int32) (f0_kinds : Nat → Int32) (f0_values : Nat → Int32)  (Q : Int32 → (Nat → Int32) → (Nat → Int32) → Prop) : Prop := wq_X4_add  f0_kinds f0_values 0 0 4 (fun f1 f2 x3 => wq_X4_add  f1 f2 x3 1 0 (fun f4 f5 x6 => wq_X4_add  f4 f5 x6 2 0 (fun f7 f8 x9 => wq_X4_add  f7 f8 x9 1 1 (fun f10 f11 x12 => wq_X4_add  f10 f11 x12 3 0 (fun f13 f14 x15 => (Q x15 f13 f14))))))
set_option maxHeartbeats 4000000 in
set_option maxRecDepth 100000 in
theorem ck_X4_setPlain (l : Launch) (dC : Nat → ClassId) (dI : Nat → Nat → Nat) (cyB cyI cyJ cyP : ClassId) (a0 a0_kinds a0_values : Nat) (sz : Nat) (z0_pile : Value) (z0_facts : Value)  (v0_length : Int32) (f0_kinds : Nat → Int32) (f0_values : Nat → Int32)  {Q : Int32 → (Nat → Int32) → (Nat → Int32) → Prop} (hw : wq_X4_setPlain  v0_length f0_kinds f0_values  Q) : Met l yX4_setPlain wsX4_setPlain ({ frames := 1, cells := 0, slots := 0, locals := 22 }) (va_Pc [.ref a0] (cPc (dC, dI) (kT cyB cyI cyJ cyP) [(a0, .inr (4, [.ref a0_kinds, .ref a0_values, z0_pile, z0_facts, .int v0_length])), (a0_kinds, .inl (cyI, 150, .inl f0_kinds)), (a0_values, .inl (cyI, 150, .inl f0_values))] sz)) (va_Qv (fun (u : Int32 × (Nat → Int32) × (Nat → Int32)) => Q u.1 u.2.1 u.2.2) (cB (dC, dI) (kT cyB cyI cyJ cyP) (va_A [(a0, .inr (4, [.ref a0_kinds, .ref a0_values, z0_pile, z0_facts, .int v0_length])), (a0_kinds, .inl (cyI, 150, .inl f0_kinds)), (a0_values, .inl (cyI, 150, .inl f0_values))] sz) (fun u : Int32 × (Nat → Int32) × (Nat → Int32) => ([(a0, .inr (4, [.ref a0_kinds, .ref a0_values, z0_pile, z0_facts, .int u.1])), (a0_kinds, .inl (cyI, 150, .inl u.2.1)), (a0_values, .inl (cyI, 150, .inl u.2.2))] : va_W))) (va_A [(a0, .inr (4, [.ref a0_kinds, .ref a0_values, z0_pile, z0_facts, .int v0_length])), (a0_kinds, .inl (cyI, 150, .inl f0_kinds)), (a0_values, .inl (cyI, 150, .inl f0_values))] sz)) 0 0 (va_A [(a0, .inr (4, [.ref a0_kinds, .ref a0_values, z0_pile, z0_facts, .int v0_length])), (a0_kinds, .inl (cyI, 150, .inl f0_kinds)), (a0_values, .inl (cyI, 150, .inl f0_values))] sz) := by
  refine Met.ofW (cc := cX4_setPlain) (maxL := 1) (ret := none) (by decide) rfl ?_
  intro p e s m args below meth c s₁ B hml hv
  obtain ⟨rfl, hsz, hP, hK, hD0, hNw⟩ := hv
  have hx := B.exec
  have hb := B.bytes
  have hr := B.returns
  have hts := atoms_spec (ws := wsX4_setPlain) B.pre
  have hown : s.vm.findClass RX4 = some m.cls := findClass_of_methodNamed B.named
  have hlocks := B.notSynchronized
  subst hsz
  have hD := hD0.self (sz := s.heap.size)
  generalize hAe : va_A [(a0, .inr (4, [.ref a0_kinds, .ref a0_values, z0_pile, z0_facts, .int v0_length])), (a0_kinds, .inl (cyI, 150, .inl f0_kinds)), (a0_values, .inl (cyI, 150, .inl f0_values))] s.heap.size = A at hD ⊢
  have hA : ∀ q : Nat, s.heap.size ≤ q → A q := fun q h => by rw [← hAe]; exact Or.inr h
  have hS : va_S A s.heap s.heap [] := va_S.rf
  have hP : va_P (dC, dI) vwCl [(a0, .inr (4, [.ref a0_kinds, .ref a0_values, z0_pile, z0_facts, .int v0_length])), (a0_kinds, .inl (cyI, 150, .inl f0_kinds)), (a0_values, .inl (cyI, 150, .inl f0_values))] s.heap := hP
  have hl := lv_entry ([.ref a0]) (n := 1) (Nat.le_of_ble_eq_true rfl)
  rw [lg_entry_eq]
  generalize (lg_sl ([.ref a0]) ++ List.replicate (1 - (lg_sl ([.ref a0])).length) Slot.unset).toArray = ls at hl ⊢
  have hl : lv_has ls 1 [(0, .ref a0)] := hl
  have C0 : cfx p s m _ meth c cX4_setPlain none wsX4_setPlain RX4 1 A (dC, dI) (kT cyB cyI cyJ cyP) := ⟨hx, hb, hr, hts, hown, hlocks, hml, hA, hK, hNw⟩
  clear hAe
  obtain ⟨H, hH⟩ : ∃ H, H = s.heap := ⟨_, rfl⟩
  rw [← hH] at hP ⊢
  have hS : va_S A s.heap H [] := by rw [hH]; exact va_S.rf
  have hS := hS
  refine lv_aload_n hx hb dX4_setPlain_0 rfl (lv_at hl 0 rfl) ?_
  refine lv_iconst (v := 0) hx hb dX4_setPlain_1 (by decide) ?_
  refine va_put (D := (dC, dI)) (ci := 4) (v := .int 0) (ty := .int) (C := RX4) (T := TX4) (N := 5) hx hb hts ui_X4_setPlain_X4 tyX4 tyX4_ok nmX4 hown hK hP hD hS 0 rfl rfl 4 (by decide) (hts _ uw_X4_setPlain_f27) (fun _ h9 => h9) rfl (by decide +kernel) rfl rfl (Nat.le_of_ble_eq_true rfl) dX4_setPlain_2 (fun H locs hP hD hS => ?_)
  have hP : va_P (dC, dI) vwCl [(a0, .inr (4, [.ref a0_kinds, .ref a0_values, z0_pile, z0_facts, .int 0])), (a0_kinds, .inl (cyI, 150, .inl f0_kinds)), (a0_values, .inl (cyI, 150, .inl f0_values))] H := hP
  have hD : va_D A [(a0, .inr (4, [.ref a0_kinds, .ref a0_values, z0_pile, z0_facts, .int 0])), (a0_kinds, .inl (cyI, 150, .inl f0_kinds)), (a0_values, .inl (cyI, 150, .inl f0_values))] := hD
  refine lv_aload_n hx hb dX4_setPlain_5 rfl (lv_at hl 0 rfl) ?_
  refine lv_iconst (v := 0) hx hb dX4_setPlain_6 (by decide) ?_
  refine lv_iconst (v := 4) hx hb dX4_setPlain_7 (by decide) ?_
  have hPc := hP.sub (ws' := [(a0, .inr (4, [.ref a0_kinds, .ref a0_values, z0_pile, z0_facts, .int 0])), (a0_kinds, .inl (cyI, 150, .inl f0_kinds)), (a0_values, .inl (cyI, 150, .inl f0_values))]) [0, 1, 2] rfl
  have hDc := hD.sub (ws' := [(a0, .inr (4, [.ref a0_kinds, .ref a0_values, z0_pile, z0_facts, .int 0])), (a0_kinds, .inl (cyI, 150, .inl f0_kinds)), (a0_values, .inl (cyI, 150, .inl f0_values))]) [0, 1, 2] (by decide) rfl
  have hFc := va_free (wc := [(a0, .inr (4, [.ref a0_kinds, .ref a0_values, z0_pile, z0_facts, .int 0])), (a0_kinds, .inl (cyI, 150, .inl f0_kinds)), (a0_values, .inl (cyI, 150, .inl f0_values))]) hD hS hA [0, 1, 2] rfl
  refine va_callv (va_runV (As := [.int 0, .int 4]) (rest := []) ⟨hx, hb, hml, hown, hts⟩ (ck_X4_add l dC dI cyB cyI cyJ cyP a0 a0_kinds a0_values H.size (z0_pile) (z0_facts)  f0_kinds f0_values 0 0 4 hw) (cwV 2 hts gX4_setPlain_X4_add rfl rfl rfl (by decide +kernel) ⟨Nat.le_of_ble_eq_true rfl, Nat.le_of_ble_eq_true rfl⟩) ⟨cPc_blind, va_recv hK hPc (ci := 4) (q0 := 0) rfl rfl, cPc_pre hPc hK hDc hNw⟩ rfl rfl hl.1 rfl (lv_room (Nat.le_of_ble_eq_true rfl)) dX4_setPlain_8 ⟨Nat.le_of_ble_eq_true rfl, Nat.le_of_ble_eq_true rfl⟩) hS (fun q _ h => hFc q h) hFc (fun u t H1 locs ht hvm hw hB hz1 hk1 hS => ?_)
  obtain ⟨f1, f2, x3⟩ := u
  obtain ⟨hP1, hK1, hD1⟩ := hB
  rw [ht] at hP1
  obtain ⟨hP, hD⟩ := va_join (wr := []) (w1 := [(a0, .inr (4, [.ref a0_kinds, .ref a0_values, z0_pile, z0_facts, .int x3])), (a0_kinds, .inl (cyI, 150, .inl f1)), (a0_values, .inl (cyI, 150, .inl f2))]) hP hD [0, 1, 2] [] rfl rfl (by decide) (by decide) hk1 hFc hP1 hD1
  have hP : va_P (dC, dI) vwCl [(a0, .inr (4, [.ref a0_kinds, .ref a0_values, z0_pile, z0_facts, .int x3])), (a0_kinds, .inl (cyI, 150, .inl f1)), (a0_values, .inl (cyI, 150, .inl f2))] H1 := hP
  have hD : va_D A [(a0, .inr (4, [.ref a0_kinds, .ref a0_values, z0_pile, z0_facts, .int x3])), (a0_kinds, .inl (cyI, 150, .inl f1)), (a0_values, .inl (cyI, 150, .inl f2))] := hD
  generalize H1 = H at hP hS ⊢
  refine lv_aload_n hx hb dX4_setPlain_11 rfl (lv_at hl 0 rfl) ?_
  refine lv_iconst (v := 1) hx hb dX4_setPlain_12 (by decide) ?_
  refine lv_iconst (v := 0) hx hb dX4_setPlain_13 (by decide) ?_
  have hPc := hP.sub (ws' := [(a0, .inr (4, [.ref a0_kinds, .ref a0_values, z0_pile, z0_facts, .int x3])), (a0_kinds, .inl (cyI, 150, .inl f1)), (a0_values, .inl (cyI, 150, .inl f2))]) [0, 1, 2] rfl
  have hDc := hD.sub (ws' := [(a0, .inr (4, [.ref a0_kinds, .ref a0_values, z0_pile, z0_facts, .int x3])), (a0_kinds, .inl (cyI, 150, .inl f1)), (a0_values, .inl (cyI, 150, .inl f2))]) [0, 1, 2] (by decide) rfl
  have hFc := va_free (wc := [(a0, .inr (4, [.ref a0_kinds, .ref a0_values, z0_pile, z0_facts, .int x3])), (a0_kinds, .inl (cyI, 150, .inl f1)), (a0_values, .inl (cyI, 150, .inl f2))]) hD hS hA [0, 1, 2] rfl
  refine va_callv (va_runV (As := [.int 1, .int 0]) (rest := []) ⟨hx, hb, hml, hown, hts⟩ (ck_X4_add l dC dI cyB cyI cyJ cyP a0 a0_kinds a0_values H.size (z0_pile) (z0_facts)  f1 f2 x3 1 0 hw) (cwV 2 hts gX4_setPlain_X4_add rfl rfl rfl (by decide +kernel) ⟨Nat.le_of_ble_eq_true rfl, Nat.le_of_ble_eq_true rfl⟩) ⟨cPc_blind, va_recv hK hPc (ci := 4) (q0 := 0) rfl rfl, cPc_pre hPc hK hDc hNw⟩ rfl rfl hl.1 rfl (lv_room (Nat.le_of_ble_eq_true rfl)) dX4_setPlain_14 ⟨Nat.le_of_ble_eq_true rfl, Nat.le_of_ble_eq_true rfl⟩) hS (fun q _ h => hFc q h) hFc (fun u t H1 locs ht hvm hw hB hz1 hk1 hS => ?_)
  obtain ⟨f4, f5, x6⟩ := u
  obtain ⟨hP1, hK1, hD1⟩ := hB
  rw [ht] at hP1
  obtain ⟨hP, hD⟩ := va_join (wr := []) (w1 := [(a0, .inr (4, [.ref a0_kinds, .ref a0_values, z0_pile, z0_facts, .int x6])), (a0_kinds, .inl (cyI, 150, .inl f4)), (a0_values, .inl (cyI, 150, .inl f5))]) hP hD [0, 1, 2] [] rfl rfl (by decide) (by decide) hk1 hFc hP1 hD1
  have hP : va_P (dC, dI) vwCl [(a0, .inr (4, [.ref a0_kinds, .ref a0_values, z0_pile, z0_facts, .int x6])), (a0_kinds, .inl (cyI, 150, .inl f4)), (a0_values, .inl (cyI, 150, .inl f5))] H1 := hP
  have hD : va_D A [(a0, .inr (4, [.ref a0_kinds, .ref a0_values, z0_pile, z0_facts, .int x6])), (a0_kinds, .inl (cyI, 150, .inl f4)), (a0_values, .inl (cyI, 150, .inl f5))] := hD
  generalize H1 = H at hP hS ⊢
  refine lv_aload_n hx hb dX4_setPlain_17 rfl (lv_at hl 0 rfl) ?_
  refine lv_iconst (v := 2) hx hb dX4_setPlain_18 (by decide) ?_
  refine lv_iconst (v := 0) hx hb dX4_setPlain_19 (by decide) ?_
  have hPc := hP.sub (ws' := [(a0, .inr (4, [.ref a0_kinds, .ref a0_values, z0_pile, z0_facts, .int x6])), (a0_kinds, .inl (cyI, 150, .inl f4)), (a0_values, .inl (cyI, 150, .inl f5))]) [0, 1, 2] rfl
  have hDc := hD.sub (ws' := [(a0, .inr (4, [.ref a0_kinds, .ref a0_values, z0_pile, z0_facts, .int x6])), (a0_kinds, .inl (cyI, 150, .inl f4)), (a0_values, .inl (cyI, 150, .inl f5))]) [0, 1, 2] (by decide) rfl
  have hFc := va_free (wc := [(a0, .inr (4, [.ref a0_kinds, .ref a0_values, z0_pile, z0_facts, .int x6])), (a0_kinds, .inl (cyI, 150, .inl f4)), (a0_values, .inl (cyI, 150, .inl f5))]) hD hS hA [0, 1, 2] rfl
  refine va_callv (va_runV (As := [.int 2, .int 0]) (rest := []) ⟨hx, hb, hml, hown, hts⟩ (ck_X4_add l dC dI cyB cyI cyJ cyP a0 a0_kinds a0_values H.size (z0_pile) (z0_facts)  f4 f5 x6 2 0 hw) (cwV 2 hts gX4_setPlain_X4_add rfl rfl rfl (by decide +kernel) ⟨Nat.le_of_ble_eq_true rfl, Nat.le_of_ble_eq_true rfl⟩) ⟨cPc_blind, va_recv hK hPc (ci := 4) (q0 := 0) rfl rfl, cPc_pre hPc hK hDc hNw⟩ rfl rfl hl.1 rfl (lv_room (Nat.le_of_ble_eq_true rfl)) dX4_setPlain_20 ⟨Nat.le_of_ble_eq_true rfl, Nat.le_of_ble_eq_true rfl⟩) hS (fun q _ h => hFc q h) hFc (fun u t H1 locs ht hvm hw hB hz1 hk1 hS => ?_)
  obtain ⟨f7, f8, x9⟩ := u
  obtain ⟨hP1, hK1, hD1⟩ := hB
  rw [ht] at hP1
  obtain ⟨hP, hD⟩ := va_join (wr := []) (w1 := [(a0, .inr (4, [.ref a0_kinds, .ref a0_values, z0_pile, z0_facts, .int x9])), (a0_kinds, .inl (cyI, 150, .inl f7)), (a0_values, .inl (cyI, 150, .inl f8))]) hP hD [0, 1, 2] [] rfl rfl (by decide) (by decide) hk1 hFc hP1 hD1
  have hP : va_P (dC, dI) vwCl [(a0, .inr (4, [.ref a0_kinds, .ref a0_values, z0_pile, z0_facts, .int x9])), (a0_kinds, .inl (cyI, 150, .inl f7)), (a0_values, .inl (cyI, 150, .inl f8))] H1 := hP
  have hD : va_D A [(a0, .inr (4, [.ref a0_kinds, .ref a0_values, z0_pile, z0_facts, .int x9])), (a0_kinds, .inl (cyI, 150, .inl f7)), (a0_values, .inl (cyI, 150, .inl f8))] := hD
  generalize H1 = H at hP hS ⊢
  refine lv_aload_n hx hb dX4_setPlain_23 rfl (lv_at hl 0 rfl) ?_
  refine lv_iconst (v := 1) hx hb dX4_setPlain_24 (by decide) ?_
  refine lv_iconst (v := 1) hx hb dX4_setPlain_25 (by decide) ?_
  have hPc := hP.sub (ws' := [(a0, .inr (4, [.ref a0_kinds, .ref a0_values, z0_pile, z0_facts, .int x9])), (a0_kinds, .inl (cyI, 150, .inl f7)), (a0_values, .inl (cyI, 150, .inl f8))]) [0, 1, 2] rfl
  have hDc := hD.sub (ws' := [(a0, .inr (4, [.ref a0_kinds, .ref a0_values, z0_pile, z0_facts, .int x9])), (a0_kinds, .inl (cyI, 150, .inl f7)), (a0_values, .inl (cyI, 150, .inl f8))]) [0, 1, 2] (by decide) rfl
  have hFc := va_free (wc := [(a0, .inr (4, [.ref a0_kinds, .ref a0_values, z0_pile, z0_facts, .int x9])), (a0_kinds, .inl (cyI, 150, .inl f7)), (a0_values, .inl (cyI, 150, .inl f8))]) hD hS hA [0, 1, 2] rfl
  refine va_callv (va_runV (As := [.int 1, .int 1]) (rest := []) ⟨hx, hb, hml, hown, hts⟩ (ck_X4_add l dC dI cyB cyI cyJ cyP a0 a0_kinds a0_values H.size (z0_pile) (z0_facts)  f7 f8 x9 1 1 hw) (cwV 2 hts gX4_setPlain_X4_add rfl rfl rfl (by decide +kernel) ⟨Nat.le_of_ble_eq_true rfl, Nat.le_of_ble_eq_true rfl⟩) ⟨cPc_blind, va_recv hK hPc (ci := 4) (q0 := 0) rfl rfl, cPc_pre hPc hK hDc hNw⟩ rfl rfl hl.1 rfl (lv_room (Nat.le_of_ble_eq_true rfl)) dX4_setPlain_26 ⟨Nat.le_of_ble_eq_true rfl, Nat.le_of_ble_eq_true rfl⟩) hS (fun q _ h => hFc q h) hFc (fun u t H1 locs ht hvm hw hB hz1 hk1 hS => ?_)
  obtain ⟨f10, f11, x12⟩ := u
  obtain ⟨hP1, hK1, hD1⟩ := hB
  rw [ht] at hP1
  obtain ⟨hP, hD⟩ := va_join (wr := []) (w1 := [(a0, .inr (4, [.ref a0_kinds, .ref a0_values, z0_pile, z0_facts, .int x12])), (a0_kinds, .inl (cyI, 150, .inl f10)), (a0_values, .inl (cyI, 150, .inl f11))]) hP hD [0, 1, 2] [] rfl rfl (by decide) (by decide) hk1 hFc hP1 hD1
  have hP : va_P (dC, dI) vwCl [(a0, .inr (4, [.ref a0_kinds, .ref a0_values, z0_pile, z0_facts, .int x12])), (a0_kinds, .inl (cyI, 150, .inl f10)), (a0_values, .inl (cyI, 150, .inl f11))] H1 := hP
  have hD : va_D A [(a0, .inr (4, [.ref a0_kinds, .ref a0_values, z0_pile, z0_facts, .int x12])), (a0_kinds, .inl (cyI, 150, .inl f10)), (a0_values, .inl (cyI, 150, .inl f11))] := hD
  generalize H1 = H at hP hS ⊢
  refine lv_aload_n hx hb dX4_setPlain_29 rfl (lv_at hl 0 rfl) ?_
  refine lv_iconst (v := 3) hx hb dX4_setPlain_30 (by decide) ?_
  refine lv_iconst (v := 0) hx hb dX4_setPlain_31 (by decide) ?_
  have hPc := hP.sub (ws' := [(a0, .inr (4, [.ref a0_kinds, .ref a0_values, z0_pile, z0_facts, .int x12])), (a0_kinds, .inl (cyI, 150, .inl f10)), (a0_values, .inl (cyI, 150, .inl f11))]) [0, 1, 2] rfl
  have hDc := hD.sub (ws' := [(a0, .inr (4, [.ref a0_kinds, .ref a0_values, z0_pile, z0_facts, .int x12])), (a0_kinds, .inl (cyI, 150, .inl f10)), (a0_values, .inl (cyI, 150, .inl f11))]) [0, 1, 2] (by decide) rfl
  have hFc := va_free (wc := [(a0, .inr (4, [.ref a0_kinds, .ref a0_values, z0_pile, z0_facts, .int x12])), (a0_kinds, .inl (cyI, 150, .inl f10)), (a0_values, .inl (cyI, 150, .inl f11))]) hD hS hA [0, 1, 2] rfl
  refine va_callv (va_runV (As := [.int 3, .int 0]) (rest := []) ⟨hx, hb, hml, hown, hts⟩ (ck_X4_add l dC dI cyB cyI cyJ cyP a0 a0_kinds a0_values H.size (z0_pile) (z0_facts)  f10 f11 x12 3 0 hw) (cwV 2 hts gX4_setPlain_X4_add rfl rfl rfl (by decide +kernel) ⟨Nat.le_of_ble_eq_true rfl, Nat.le_of_ble_eq_true rfl⟩) ⟨cPc_blind, va_recv hK hPc (ci := 4) (q0 := 0) rfl rfl, cPc_pre hPc hK hDc hNw⟩ rfl rfl hl.1 rfl (lv_room (Nat.le_of_ble_eq_true rfl)) dX4_setPlain_32 ⟨Nat.le_of_ble_eq_true rfl, Nat.le_of_ble_eq_true rfl⟩) hS (fun q _ h => hFc q h) hFc (fun u t H1 locs ht hvm hw hB hz1 hk1 hS => ?_)
  obtain ⟨f13, f14, x15⟩ := u
  obtain ⟨hP1, hK1, hD1⟩ := hB
  rw [ht] at hP1
  obtain ⟨hP, hD⟩ := va_join (wr := []) (w1 := [(a0, .inr (4, [.ref a0_kinds, .ref a0_values, z0_pile, z0_facts, .int x15])), (a0_kinds, .inl (cyI, 150, .inl f13)), (a0_values, .inl (cyI, 150, .inl f14))]) hP hD [0, 1, 2] [] rfl rfl (by decide) (by decide) hk1 hFc hP1 hD1
  have hP : va_P (dC, dI) vwCl [(a0, .inr (4, [.ref a0_kinds, .ref a0_values, z0_pile, z0_facts, .int x15])), (a0_kinds, .inl (cyI, 150, .inl f13)), (a0_values, .inl (cyI, 150, .inl f14))] H1 := hP
  have hD : va_D A [(a0, .inr (4, [.ref a0_kinds, .ref a0_values, z0_pile, z0_facts, .int x15])), (a0_kinds, .inl (cyI, 150, .inl f13)), (a0_values, .inl (cyI, 150, .inl f14))] := hD
  generalize H1 = H at hP hS ⊢
  exact ((W.vret hx hb hr (fun t ht hW => ⟨⟨(x15, f13, f14), rfl, hw, by rw [ht]; exact hP, va_K.moved hW.alike hK, hD⟩, hS.F ht⟩) hS.2.2 dX4_setPlain_35))
theorem ui_X0_clear_X0 : ∀ w ∈ u_ws RX0 TX0 2, w ∈ wsX0_clear := by decide +kernel
theorem uw_X0_clear_f18 : (.fieldLink RX0 18 "MarchHares$Book" "many" "I" : Cond) ∈ wsX0_clear := by decide +kernel
theorem uw_X0_clear_f9 : (.fieldLink RX0 9 "MarchHares$Book" "seen" "[I" : Cond) ∈ wsX0_clear := by decide +kernel
def wl_X0_clear_7  (Q : Int32 → (Nat → Int32) → Prop)  : Nat → Int32 → (Nat → Int32) → Int32 → Prop
  | 0, _, _, _ => False
  | n + 1, v0_many, f0_seen, l1 => ((8 ≤ l1 → (Q v0_many f0_seen)) ∧ (¬ 8 ≤ l1 → vp_in l1 8 ∧ ∀ f2 : Nat → Int32, f2 = upd f0_seen l1.toNatClampNeg (-1) → ∀ x3 : Int32, x3 = l1 + 1 → (wl_X0_clear_7  Q  n v0_many f2 x3)))
set_option maxHeartbeats 4000000 in
set_option maxRecDepth 100000 in
theorem kl_X0_clear_7 {p : Program} {l : Launch} {e : Env} {s : State} {m : MethodId} {args : Array Value} {below : List Frame} {meth : Method} {c : Code} {A : Nat → Prop} (dC : Nat → ClassId) (dI : Nat → Nat → Nat) (cyB cyI cyJ cyP : ClassId) (a0 a0_seen : Nat)   (Q : Int32 → (Nat → Int32) → Prop)  (C0 : cfx p s m args meth c cX0_clear none wsX0_clear RX0 2 A (dC, dI) (kT cyB cyI cyJ cyP)) : ∀ (n : Nat) (H : Heap) (locs : List Loc) (ls : Array Slot) (v0_many : Int32) (f0_seen : Nat → Int32) (l1 : Int32), va_P (dC, dI) vwCl [(a0, .inr (0, [.ref a0_seen, .int v0_many])), (a0_seen, .inl (cyI, 8, .inl f0_seen))] H → va_D A [(a0, .inr (0, [.ref a0_seen, .int v0_many])), (a0_seen, .inl (cyI, 8, .inl f0_seen))] → va_S A s.heap H locs → lv_has ls 2 [(0, .ref a0), (1, .int l1)] → wl_X0_clear_7  Q  n v0_many f0_seen l1 → W p l e (headSpec wsX0_clear ({ frames := 0, cells := 0, slots := 0, locals := 0 })).room s m args below meth c H locs 0 0 (MQ below (va_Qv (fun (u : Int32 × (Nat → Int32)) => Q u.1 u.2) (cB (dC, dI) (kT cyB cyI cyJ cyP) A (fun u : Int32 × (Nat → Int32) => ([(a0, .inr (0, [.ref a0_seen, .int u.1])), (a0_seen, .inl (cyI, 8, .inl u.2))] : va_W))) A) args s 0 0 A) (F0 m 7 ls []) := by
  obtain ⟨hx, hb, hr, hts, hown, hlocks, hml, hA, hK, hNw⟩ := id C0
  intro n
  induction n with
  | zero => intro H locs ls v0_many f0_seen l1 hP hD hS hl hw; exact False.elim hw
  | succ n ih =>
    intro H locs ls v0_many f0_seen l1 hP hD hS hl hw
    refine lv_iload_n hx hb dX0_clear_7 rfl (lv_at hl 1 rfl) ?_
    refine lv_bipush (v := 8) hx hb dX0_clear_8 (by decide) ?_
    refine lv_icmp_ge (tgt := 26) hx hb dX0_clear_10 (by decide) (fun c1 => ?_) (fun c1 => ?_)
    · have hw := hw.1 c1
      exact ((W.vret hx hb hr (fun t ht hW => ⟨⟨(v0_many, f0_seen), rfl, hw, by rw [ht]; exact hP, va_K.moved hW.alike hK, hD⟩, hS.F ht⟩) hS.2.2 dX0_clear_26))
    · have hw := hw.2 c1
      refine lv_aload_n hx hb dX0_clear_13 rfl (lv_at hl 0 rfl) ?_
      refine va_get (D := (dC, dI)) (ci := 0) (v := .ref a0_seen) (C := RX0) (T := TX0) (N := 2) hx hb hts ui_X0_clear_X0 hown hK hP 0 rfl rfl 0 (by decide) (hts _ uw_X0_clear_f9) (fun _ h9 => h9) rfl dX0_clear_14 ?_
      refine lv_iload_n hx hb dX0_clear_17 rfl (lv_at hl 1 rfl) ?_
      refine lv_iconst (v := (-1)) hx hb dX0_clear_18 (by decide) ?_
      obtain ⟨hi9, hw⟩ := hw
      refine va_iast hx hb hK hP hD hS 1 1 rfl rfl hi9 dX0_clear_19 (fun H locs hP hD hS => ?_)
      obtain ⟨f2, ef2⟩ : ∃ y : Nat → Int32, y = upd f0_seen l1.toNatClampNeg (-1) := ⟨_, rfl⟩
      have hw := hw f2 ef2
      have hP : va_P (dC, dI) vwCl [(a0, .inr (0, [.ref a0_seen, .int v0_many])), (a0_seen, .inl (cyI, 8, .inl f2))] H := by rw [ef2]; exact hP
      have hD : va_D A [(a0, .inr (0, [.ref a0_seen, .int v0_many])), (a0_seen, .inl (cyI, 8, .inl f2))] := by rw [ef2]; exact hD
      obtain ⟨x3, ex3⟩ : ∃ y : Int32, y = l1 + 1 := ⟨_, rfl⟩
      have hw := hw x3 ex3
      refine lv_iinc (v := x3) (lv' := [(1, .int x3), (0, .ref a0)]) hx hb dX0_clear_20 hl (k := 1) rfl (by rw [ex3]; rfl) (by decide) rfl (fun ls hl => ?_)
      refine lv_goto (tgt := 7) hx hb dX0_clear_23 (by decide) ?_
      exact ih _ _ _ v0_many f2 x3 hP hD hS (lv_sub hl [1, 0] rfl) hw
def wq_X0_clear  (v0_many : Int32) (f0_seen : Nat → Int32)  (Q : Int32 → (Nat → Int32) → Prop) : Prop := (∃ k9 : Nat, wl_X0_clear_7  Q  k9 0 f0_seen 0)
set_option maxHeartbeats 4000000 in
set_option maxRecDepth 100000 in
theorem ck_X0_clear (l : Launch) (dC : Nat → ClassId) (dI : Nat → Nat → Nat) (cyB cyI cyJ cyP : ClassId) (a0 a0_seen : Nat) (sz : Nat)   (v0_many : Int32) (f0_seen : Nat → Int32)  {Q : Int32 → (Nat → Int32) → Prop} (hw : wq_X0_clear  v0_many f0_seen  Q) : Met l yX0_clear wsX0_clear ({ frames := 0, cells := 0, slots := 0, locals := 0 }) (va_Pc [.ref a0] (cPc (dC, dI) (kT cyB cyI cyJ cyP) [(a0, .inr (0, [.ref a0_seen, .int v0_many])), (a0_seen, .inl (cyI, 8, .inl f0_seen))] sz)) (va_Qv (fun (u : Int32 × (Nat → Int32)) => Q u.1 u.2) (cB (dC, dI) (kT cyB cyI cyJ cyP) (va_A [(a0, .inr (0, [.ref a0_seen, .int v0_many])), (a0_seen, .inl (cyI, 8, .inl f0_seen))] sz) (fun u : Int32 × (Nat → Int32) => ([(a0, .inr (0, [.ref a0_seen, .int u.1])), (a0_seen, .inl (cyI, 8, .inl u.2))] : va_W))) (va_A [(a0, .inr (0, [.ref a0_seen, .int v0_many])), (a0_seen, .inl (cyI, 8, .inl f0_seen))] sz)) 0 0 (va_A [(a0, .inr (0, [.ref a0_seen, .int v0_many])), (a0_seen, .inl (cyI, 8, .inl f0_seen))] sz) := by
  refine Met.ofW (cc := cX0_clear) (maxL := 2) (ret := none) (by decide) rfl ?_
  intro p e s m args below meth c s₁ B hml hv
  obtain ⟨rfl, hsz, hP, hK, hD0, hNw⟩ := hv
  have hx := B.exec
  have hb := B.bytes
  have hr := B.returns
  have hts := atoms_spec (ws := wsX0_clear) B.pre
  have hown : s.vm.findClass RX0 = some m.cls := findClass_of_methodNamed B.named
  have hlocks := B.notSynchronized
  subst hsz
  have hD := hD0.self (sz := s.heap.size)
  generalize hAe : va_A [(a0, .inr (0, [.ref a0_seen, .int v0_many])), (a0_seen, .inl (cyI, 8, .inl f0_seen))] s.heap.size = A at hD ⊢
  have hA : ∀ q : Nat, s.heap.size ≤ q → A q := fun q h => by rw [← hAe]; exact Or.inr h
  have hS : va_S A s.heap s.heap [] := va_S.rf
  have hP : va_P (dC, dI) vwCl [(a0, .inr (0, [.ref a0_seen, .int v0_many])), (a0_seen, .inl (cyI, 8, .inl f0_seen))] s.heap := hP
  have hl := lv_entry ([.ref a0]) (n := 2) (Nat.le_of_ble_eq_true rfl)
  rw [lg_entry_eq]
  generalize (lg_sl ([.ref a0]) ++ List.replicate (2 - (lg_sl ([.ref a0])).length) Slot.unset).toArray = ls at hl ⊢
  have hl : lv_has ls 2 [(0, .ref a0)] := hl
  have C0 : cfx p s m _ meth c cX0_clear none wsX0_clear RX0 2 A (dC, dI) (kT cyB cyI cyJ cyP) := ⟨hx, hb, hr, hts, hown, hlocks, hml, hA, hK, hNw⟩
  clear hAe
  obtain ⟨H, hH⟩ : ∃ H, H = s.heap := ⟨_, rfl⟩
  rw [← hH] at hP ⊢
  have hS : va_S A s.heap H [] := by rw [hH]; exact va_S.rf
  have hS := hS
  refine lv_aload_n hx hb dX0_clear_0 rfl (lv_at hl 0 rfl) ?_
  refine lv_iconst (v := 0) hx hb dX0_clear_1 (by decide) ?_
  refine va_put (D := (dC, dI)) (ci := 0) (v := .int 0) (ty := .int) (C := RX0) (T := TX0) (N := 2) hx hb hts ui_X0_clear_X0 tyX0 tyX0_ok nmX0 hown hK hP hD hS 0 rfl rfl 1 (by decide) (hts _ uw_X0_clear_f18) (fun _ h9 => h9) rfl (by decide +kernel) rfl rfl (Nat.le_of_ble_eq_true rfl) dX0_clear_2 (fun H locs hP hD hS => ?_)
  have hP : va_P (dC, dI) vwCl [(a0, .inr (0, [.ref a0_seen, .int 0])), (a0_seen, .inl (cyI, 8, .inl f0_seen))] H := hP
  have hD : va_D A [(a0, .inr (0, [.ref a0_seen, .int 0])), (a0_seen, .inl (cyI, 8, .inl f0_seen))] := hD
  refine lv_iconst (v := 0) hx hb dX0_clear_5 (by decide) ?_
  refine lv_istore_n (lv' := [(1, .int 0), (0, .ref a0)]) hx hb dX0_clear_6 rfl hl (by decide) rfl (fun ls hl => ?_)
  obtain ⟨n9, hw⟩ := hw
  exact kl_X0_clear_7 dC dI cyB cyI cyJ cyP a0 a0_seen   Q  C0 n9 _ _ _ 0 f0_seen 0 hP hD hS (lv_sub hl [1, 0] rfl) hw
theorem ui_X1_begin_X1 : ∀ w ∈ u_ws RX1 TX1 4, w ∈ wsX1_begin := by decide +kernel
theorem ui_X1_begin_X2 : ∀ w ∈ u_ws RX2 TX2 12, w ∈ wsX1_begin := by decide +kernel
theorem uw_X1_begin_aci : (.initialized "java/lang/System" : Cond) ∈ wsX1_begin := by decide +kernel
theorem uw_X1_begin_acn : (.native arraycopyName : Cond) ∈ wsX1_begin := by decide +kernel
theorem uw_X1_begin_acs : (.static arraycopyName : Cond) ∈ wsX1_begin := by decide +kernel
theorem uw_X1_begin_f13 : (.fieldLink RX1 13 "MarchHares$Days" "row" "[I" : Cond) ∈ wsX1_begin := by decide +kernel
theorem uw_X1_begin_f24 : (.fieldLink RX1 24 "MarchHares$Days" "down" "LMarchHares$Down;" : Cond) ∈ wsX1_begin := by decide +kernel
theorem uw_X1_begin_f28 : (.fieldLink RX1 28 "MarchHares$Days" "law" "LMarchHares$Law;" : Cond) ∈ wsX1_begin := by decide +kernel
theorem uw_X1_begin_f32 : (.fieldLink RX1 32 "MarchHares$Down" "hares" "I" : Cond) ∈ wsX1_begin := by decide +kernel
theorem uw_X1_begin_f36 : (.fieldLink RX1 36 "MarchHares$Down" "seat" "[I" : Cond) ∈ wsX1_begin := by decide +kernel
theorem uw_X1_begin_f39 : (.fieldLink RX1 39 "MarchHares$Down" "strength" "[I" : Cond) ∈ wsX1_begin := by decide +kernel
theorem uw_X1_begin_f42 : (.fieldLink RX1 42 "MarchHares$Down" "debts" "[I" : Cond) ∈ wsX1_begin := by decide +kernel
theorem uw_X1_begin_m45 : (.methodLink RX1 45 arraycopyName : Cond) ∈ wsX1_begin := by decide +kernel
def wl_X1_begin_40 (v1_hares : Int32) (f1_debts : Nat → Int32) (f1_seat : Nat → Int32) (f1_strength : Nat → Int32) (Q : (Nat → Int32) → Prop)  : Nat → (Nat → Int32) → Int32 → Prop
  | 0, _, _ => False
  | n + 1, f0_row, l3 => ((v1_hares ≤ l3 → ∀ f6 : Nat → Int32, f6 = va_cpy f1_debts f0_row (0 : Int32).toNatClampNeg (28 : Int32).toNatClampNeg (36 : Int32).toNatClampNeg → (Q f6)) ∧ (¬ v1_hares ≤ l3 → ∀ x7 : Int32, x7 = 4 + l3 → vp_in l3 6 ∧ ∀ x8 : Int32, x8 = f1_seat l3.toNatClampNeg → vp_in x7 64 ∧ ∀ f9 : Nat → Int32, f9 = upd f0_row x7.toNatClampNeg x8 → ∀ x10 : Int32, x10 = 10 + l3 → vp_in l3 6 ∧ ∀ x11 : Int32, x11 = f1_strength l3.toNatClampNeg → vp_in x10 64 ∧ ∀ f12 : Nat → Int32, f12 = upd f9 x10.toNatClampNeg x11 → ∀ x13 : Int32, x13 = l3 + 1 → (wl_X1_begin_40 v1_hares f1_debts f1_seat f1_strength Q  n f12 x13)))
set_option maxHeartbeats 4000000 in
set_option maxRecDepth 100000 in
theorem kl_X1_begin_40 {p : Program} {l : Launch} {e : Env} {s : State} {m : MethodId} {args : Array Value} {below : List Frame} {meth : Method} {c : Code} {A : Nat → Prop} (dC : Nat → ClassId) (dI : Nat → Nat → Nat) (cyB cyI cyJ cyP : ClassId) (a0 a1 a2 a0_row a1_debts a1_seat a1_strength : Nat) (z0_owedEach : Value) (r0_down : Value) (r0_law : Value) (z1_formX : Value) (z1_formY : Value) (z1_foxX : Value) (z1_foxY : Value) (z1_near : Value) (z1_forms : Value) (z1_foxes : Value) (z1_safe : Value) (v1_hares : Int32) (f1_debts : Nat → Int32) (f1_seat : Nat → Int32) (f1_strength : Nat → Int32) (Q : (Nat → Int32) → Prop)  (C0 : cfx p s m args meth c cX1_begin none wsX1_begin RX1 4 A (dC, dI) (kT cyB cyI cyJ cyP)) : ∀ (n : Nat) (H : Heap) (locs : List Loc) (ls : Array Slot) (f0_row : Nat → Int32) (l3 : Int32), va_P (dC, dI) vwCl [(a0, .inr (1, [.ref a0_row, z0_owedEach, .ref a1, .ref a2])), (a0_row, .inl (cyI, 64, .inl f0_row)), (a1, .inr (2, [z1_formX, z1_formY, z1_foxX, z1_foxY, .ref a1_seat, .ref a1_strength, .ref a1_debts, z1_near, z1_forms, .int v1_hares, z1_foxes, z1_safe])), (a1_debts, .inl (cyI, 36, .inl f1_debts)), (a1_seat, .inl (cyI, 6, .inl f1_seat)), (a1_strength, .inl (cyI, 6, .inl f1_strength))] H → va_D A [(a0, .inr (1, [.ref a0_row, z0_owedEach, .ref a1, .ref a2])), (a0_row, .inl (cyI, 64, .inl f0_row)), (a1, .inr (2, [z1_formX, z1_formY, z1_foxX, z1_foxY, .ref a1_seat, .ref a1_strength, .ref a1_debts, z1_near, z1_forms, .int v1_hares, z1_foxes, z1_safe])), (a1_debts, .inl (cyI, 36, .inl f1_debts)), (a1_seat, .inl (cyI, 6, .inl f1_seat)), (a1_strength, .inl (cyI, 6, .inl f1_strength))] → va_S A s.heap H locs → lv_has ls 4 [(0, .ref a0), (1, .ref a1), (3, .int l3)] → wl_X1_begin_40 v1_hares f1_debts f1_seat f1_strength Q  n f0_row l3 → W p l e (headSpec wsX1_begin ({ frames := 1, cells := 0, slots := 0, locals := 40 })).room s m args below meth c H locs 0 0 (MQ below (va_Qv (fun (u : (Nat → Int32)) => Q u) (cB (dC, dI) (kT cyB cyI cyJ cyP) A (fun u : (Nat → Int32) => ([(a0, .inr (1, [.ref a0_row, z0_owedEach, .ref a1, .ref a2])), (a0_row, .inl (cyI, 64, .inl u)), (a1, .inr (2, [z1_formX, z1_formY, z1_foxX, z1_foxY, .ref a1_seat, .ref a1_strength, .ref a1_debts, z1_near, z1_forms, .int v1_hares, z1_foxes, z1_safe])), (a1_debts, .inl (cyI, 36, .inl f1_debts)), (a1_seat, .inl (cyI, 6, .inl f1_seat)), (a1_strength, .inl (cyI, 6, .inl f1_strength))] : va_W))) A) args s 0 0 A) (F0 m 40 ls []) := by
  obtain ⟨hx, hb, hr, hts, hown, hlocks, hml, hA, hK, hNw⟩ := id C0
  intro n
  induction n with
  | zero => intro H locs ls f0_row l3 hP hD hS hl hw; exact False.elim hw
  | succ n ih =>
    intro H locs ls f0_row l3 hP hD hS hl hw
    refine lv_iload_n hx hb dX1_begin_40 rfl (lv_at hl 2 rfl) ?_
    refine lv_aload_n hx hb dX1_begin_41 rfl (lv_at hl 1 rfl) ?_
    refine va_get (D := (dC, dI)) (ci := 2) (v := .int v1_hares) (C := RX2) (T := TX2) (N := 12) hx hb hts ui_X1_begin_X2 hown hK hP 2 rfl rfl 9 (by decide) (hts _ uw_X1_begin_f32) (fun _ h9 => h9) rfl dX1_begin_42 ?_
    refine lv_icmp_ge (tgt := 83) hx hb dX1_begin_45 (by decide) (fun c5 => ?_) (fun c5 => ?_)
    · have hw := hw.1 c5
      refine lv_aload_n hx hb dX1_begin_83 rfl (lv_at hl 1 rfl) ?_
      refine va_get (D := (dC, dI)) (ci := 2) (v := .ref a1_debts) (C := RX2) (T := TX2) (N := 12) hx hb hts ui_X1_begin_X2 hown hK hP 2 rfl rfl 6 (by decide) (hts _ uw_X1_begin_f42) (fun _ h9 => h9) rfl dX1_begin_84 ?_
      refine lv_iconst (v := 0) hx hb dX1_begin_87 (by decide) ?_
      refine lv_aload_n hx hb dX1_begin_88 rfl (lv_at hl 0 rfl) ?_
      refine va_get (D := (dC, dI)) (ci := 1) (v := .ref a0_row) (C := RX1) (T := TX1) (N := 4) hx hb hts ui_X1_begin_X1 hown hK hP 0 rfl rfl 0 (by decide) (hts _ uw_X1_begin_f13) (fun _ h9 => h9) rfl dX1_begin_89 ?_
      refine lv_bipush (v := 28) hx hb dX1_begin_92 (by decide) ?_
      refine lv_bipush (v := 36) hx hb dX1_begin_94 (by decide) ?_
      refine va_copyi hx hb (by rw [hml]; exact hl.1.symm) hown (hts _ uw_X1_begin_m45) (hts _ uw_X1_begin_acn) (hts _ uw_X1_begin_acs) (hts _ uw_X1_begin_aci) hK hP hD hS 3 1 1 1 rfl rfl rfl rfl rfl (by decide) (by decide) (by decide) (by decide) (by decide) (fun _ _ => rfl) (Nat.le_of_ble_eq_true rfl) (Nat.le_of_ble_eq_true rfl) dX1_begin_96 (fun H locs hP hD hS => ?_)
      obtain ⟨f6, ef6⟩ : ∃ y : Nat → Int32, y = va_cpy f1_debts f0_row (0 : Int32).toNatClampNeg (28 : Int32).toNatClampNeg (36 : Int32).toNatClampNeg := ⟨_, rfl⟩
      have hw := hw f6 ef6
      have hP : va_P (dC, dI) vwCl [(a0, .inr (1, [.ref a0_row, z0_owedEach, .ref a1, .ref a2])), (a0_row, .inl (cyI, 64, .inl f6)), (a1, .inr (2, [z1_formX, z1_formY, z1_foxX, z1_foxY, .ref a1_seat, .ref a1_strength, .ref a1_debts, z1_near, z1_forms, .int v1_hares, z1_foxes, z1_safe])), (a1_debts, .inl (cyI, 36, .inl f1_debts)), (a1_seat, .inl (cyI, 6, .inl f1_seat)), (a1_strength, .inl (cyI, 6, .inl f1_strength))] H := by rw [ef6]; exact hP
      have hD : va_D A [(a0, .inr (1, [.ref a0_row, z0_owedEach, .ref a1, .ref a2])), (a0_row, .inl (cyI, 64, .inl f6)), (a1, .inr (2, [z1_formX, z1_formY, z1_foxX, z1_foxY, .ref a1_seat, .ref a1_strength, .ref a1_debts, z1_near, z1_forms, .int v1_hares, z1_foxes, z1_safe])), (a1_debts, .inl (cyI, 36, .inl f1_debts)), (a1_seat, .inl (cyI, 6, .inl f1_seat)), (a1_strength, .inl (cyI, 6, .inl f1_strength))] := by rw [ef6]; exact hD
      exact ((W.vret hx hb hr (fun t ht hW => ⟨⟨(f6), rfl, hw, by rw [ht]; exact hP, va_K.moved hW.alike hK, hD⟩, hS.F ht⟩) hS.2.2 dX1_begin_99))
    · have hw := hw.2 c5
      refine lv_aload_n hx hb dX1_begin_48 rfl (lv_at hl 0 rfl) ?_
      refine va_get (D := (dC, dI)) (ci := 1) (v := .ref a0_row) (C := RX1) (T := TX1) (N := 4) hx hb hts ui_X1_begin_X1 hown hK hP 0 rfl rfl 0 (by decide) (hts _ uw_X1_begin_f13) (fun _ h9 => h9) rfl dX1_begin_49 ?_
      refine lv_iconst (v := 4) hx hb dX1_begin_52 (by decide) ?_
      refine lv_iload_n hx hb dX1_begin_53 rfl (lv_at hl 2 rfl) ?_
      refine lv_iadd hx hb dX1_begin_54 ?_
      refine lv_topi (fun x7 ex7 => ?_)
      have hw := hw x7 ex7
      refine lv_aload_n hx hb dX1_begin_55 rfl (lv_at hl 1 rfl) ?_
      refine va_get (D := (dC, dI)) (ci := 2) (v := .ref a1_seat) (C := RX2) (T := TX2) (N := 12) hx hb hts ui_X1_begin_X2 hown hK hP 2 rfl rfl 4 (by decide) (hts _ uw_X1_begin_f36) (fun _ h9 => h9) rfl dX1_begin_56 ?_
      refine lv_iload_n hx hb dX1_begin_59 rfl (lv_at hl 2 rfl) ?_
      obtain ⟨hi9, hw⟩ := hw
      refine va_iald hx hb hK hP 4 1 rfl rfl hi9 dX1_begin_60 ?_
      refine lv_topi (fun x8 ex8 => ?_)
      have hw := hw x8 ex8
      obtain ⟨hi9, hw⟩ := hw
      refine va_iast hx hb hK hP hD hS 1 1 rfl rfl hi9 dX1_begin_61 (fun H locs hP hD hS => ?_)
      obtain ⟨f9, ef9⟩ : ∃ y : Nat → Int32, y = upd f0_row x7.toNatClampNeg x8 := ⟨_, rfl⟩
      have hw := hw f9 ef9
      have hP : va_P (dC, dI) vwCl [(a0, .inr (1, [.ref a0_row, z0_owedEach, .ref a1, .ref a2])), (a0_row, .inl (cyI, 64, .inl f9)), (a1, .inr (2, [z1_formX, z1_formY, z1_foxX, z1_foxY, .ref a1_seat, .ref a1_strength, .ref a1_debts, z1_near, z1_forms, .int v1_hares, z1_foxes, z1_safe])), (a1_debts, .inl (cyI, 36, .inl f1_debts)), (a1_seat, .inl (cyI, 6, .inl f1_seat)), (a1_strength, .inl (cyI, 6, .inl f1_strength))] H := by rw [ef9]; exact hP
      have hD : va_D A [(a0, .inr (1, [.ref a0_row, z0_owedEach, .ref a1, .ref a2])), (a0_row, .inl (cyI, 64, .inl f9)), (a1, .inr (2, [z1_formX, z1_formY, z1_foxX, z1_foxY, .ref a1_seat, .ref a1_strength, .ref a1_debts, z1_near, z1_forms, .int v1_hares, z1_foxes, z1_safe])), (a1_debts, .inl (cyI, 36, .inl f1_debts)), (a1_seat, .inl (cyI, 6, .inl f1_seat)), (a1_strength, .inl (cyI, 6, .inl f1_strength))] := by rw [ef9]; exact hD
      refine lv_aload_n hx hb dX1_begin_62 rfl (lv_at hl 0 rfl) ?_
      refine va_get (D := (dC, dI)) (ci := 1) (v := .ref a0_row) (C := RX1) (T := TX1) (N := 4) hx hb hts ui_X1_begin_X1 hown hK hP 0 rfl rfl 0 (by decide) (hts _ uw_X1_begin_f13) (fun _ h9 => h9) rfl dX1_begin_63 ?_
      refine lv_bipush (v := 10) hx hb dX1_begin_66 (by decide) ?_
      refine lv_iload_n hx hb dX1_begin_68 rfl (lv_at hl 2 rfl) ?_
      refine lv_iadd hx hb dX1_begin_69 ?_
      refine lv_topi (fun x10 ex10 => ?_)
      have hw := hw x10 ex10
      refine lv_aload_n hx hb dX1_begin_70 rfl (lv_at hl 1 rfl) ?_
      refine va_get (D := (dC, dI)) (ci := 2) (v := .ref a1_strength) (C := RX2) (T := TX2) (N := 12) hx hb hts ui_X1_begin_X2 hown hK hP 2 rfl rfl 5 (by decide) (hts _ uw_X1_begin_f39) (fun _ h9 => h9) rfl dX1_begin_71 ?_
      refine lv_iload_n hx hb dX1_begin_74 rfl (lv_at hl 2 rfl) ?_
      obtain ⟨hi9, hw⟩ := hw
      refine va_iald hx hb hK hP 5 1 rfl rfl hi9 dX1_begin_75 ?_
      refine lv_topi (fun x11 ex11 => ?_)
      have hw := hw x11 ex11
      obtain ⟨hi9, hw⟩ := hw
      refine va_iast hx hb hK hP hD hS 1 1 rfl rfl hi9 dX1_begin_76 (fun H locs hP hD hS => ?_)
      obtain ⟨f12, ef12⟩ : ∃ y : Nat → Int32, y = upd f9 x10.toNatClampNeg x11 := ⟨_, rfl⟩
      have hw := hw f12 ef12
      have hP : va_P (dC, dI) vwCl [(a0, .inr (1, [.ref a0_row, z0_owedEach, .ref a1, .ref a2])), (a0_row, .inl (cyI, 64, .inl f12)), (a1, .inr (2, [z1_formX, z1_formY, z1_foxX, z1_foxY, .ref a1_seat, .ref a1_strength, .ref a1_debts, z1_near, z1_forms, .int v1_hares, z1_foxes, z1_safe])), (a1_debts, .inl (cyI, 36, .inl f1_debts)), (a1_seat, .inl (cyI, 6, .inl f1_seat)), (a1_strength, .inl (cyI, 6, .inl f1_strength))] H := by rw [ef12]; exact hP
      have hD : va_D A [(a0, .inr (1, [.ref a0_row, z0_owedEach, .ref a1, .ref a2])), (a0_row, .inl (cyI, 64, .inl f12)), (a1, .inr (2, [z1_formX, z1_formY, z1_foxX, z1_foxY, .ref a1_seat, .ref a1_strength, .ref a1_debts, z1_near, z1_forms, .int v1_hares, z1_foxes, z1_safe])), (a1_debts, .inl (cyI, 36, .inl f1_debts)), (a1_seat, .inl (cyI, 6, .inl f1_seat)), (a1_strength, .inl (cyI, 6, .inl f1_strength))] := by rw [ef12]; exact hD
      obtain ⟨x13, ex13⟩ : ∃ y : Int32, y = l3 + 1 := ⟨_, rfl⟩
      have hw := hw x13 ex13
      refine lv_iinc (v := x13) (lv' := [(3, .int x13), (0, .ref a0), (1, .ref a1)]) hx hb dX1_begin_77 hl (k := 2) rfl (by rw [ex13]; rfl) (by decide) rfl (fun ls hl => ?_)
      refine lv_goto (tgt := 40) hx hb dX1_begin_80 (by decide) ?_
      exact ih _ _ _ f12 x13 hP hD hS (lv_sub hl [1, 2, 0] rfl) hw
def wl_X1_begin_12 (v1_hares : Int32) (f1_debts : Nat → Int32) (f1_seat : Nat → Int32) (f1_strength : Nat → Int32) (Q : (Nat → Int32) → Prop)  : Nat → (Nat → Int32) → Int32 → Prop
  | 0, _, _ => False
  | n + 1, f0_row, l3 => ((64 ≤ l3 → ∀ f2 : Nat → Int32, f2 = upd f0_row (0 : Int32).toNatClampNeg 1 → (∃ k9 : Nat, wl_X1_begin_40 v1_hares f1_debts f1_seat f1_strength Q  k9 f2 0)) ∧ (¬ 64 ≤ l3 → vp_in l3 64 ∧ ∀ f3 : Nat → Int32, f3 = upd f0_row l3.toNatClampNeg 0 → ∀ x4 : Int32, x4 = l3 + 1 → (wl_X1_begin_12 v1_hares f1_debts f1_seat f1_strength Q  n f3 x4)))
set_option maxHeartbeats 4000000 in
set_option maxRecDepth 100000 in
theorem kl_X1_begin_12 {p : Program} {l : Launch} {e : Env} {s : State} {m : MethodId} {args : Array Value} {below : List Frame} {meth : Method} {c : Code} {A : Nat → Prop} (dC : Nat → ClassId) (dI : Nat → Nat → Nat) (cyB cyI cyJ cyP : ClassId) (a0 a1 a2 a0_row a1_debts a1_seat a1_strength : Nat) (z0_owedEach : Value) (r0_down : Value) (r0_law : Value) (z1_formX : Value) (z1_formY : Value) (z1_foxX : Value) (z1_foxY : Value) (z1_near : Value) (z1_forms : Value) (z1_foxes : Value) (z1_safe : Value) (v1_hares : Int32) (f1_debts : Nat → Int32) (f1_seat : Nat → Int32) (f1_strength : Nat → Int32) (Q : (Nat → Int32) → Prop)  (C0 : cfx p s m args meth c cX1_begin none wsX1_begin RX1 4 A (dC, dI) (kT cyB cyI cyJ cyP)) : ∀ (n : Nat) (H : Heap) (locs : List Loc) (ls : Array Slot) (f0_row : Nat → Int32) (l3 : Int32), va_P (dC, dI) vwCl [(a0, .inr (1, [.ref a0_row, z0_owedEach, .ref a1, .ref a2])), (a0_row, .inl (cyI, 64, .inl f0_row)), (a1, .inr (2, [z1_formX, z1_formY, z1_foxX, z1_foxY, .ref a1_seat, .ref a1_strength, .ref a1_debts, z1_near, z1_forms, .int v1_hares, z1_foxes, z1_safe])), (a1_debts, .inl (cyI, 36, .inl f1_debts)), (a1_seat, .inl (cyI, 6, .inl f1_seat)), (a1_strength, .inl (cyI, 6, .inl f1_strength))] H → va_D A [(a0, .inr (1, [.ref a0_row, z0_owedEach, .ref a1, .ref a2])), (a0_row, .inl (cyI, 64, .inl f0_row)), (a1, .inr (2, [z1_formX, z1_formY, z1_foxX, z1_foxY, .ref a1_seat, .ref a1_strength, .ref a1_debts, z1_near, z1_forms, .int v1_hares, z1_foxes, z1_safe])), (a1_debts, .inl (cyI, 36, .inl f1_debts)), (a1_seat, .inl (cyI, 6, .inl f1_seat)), (a1_strength, .inl (cyI, 6, .inl f1_strength))] → va_S A s.heap H locs → lv_has ls 4 [(0, .ref a0), (1, .ref a1), (3, .int l3)] → wl_X1_begin_12 v1_hares f1_debts f1_seat f1_strength Q  n f0_row l3 → W p l e (headSpec wsX1_begin ({ frames := 1, cells := 0, slots := 0, locals := 40 })).room s m args below meth c H locs 0 0 (MQ below (va_Qv (fun (u : (Nat → Int32)) => Q u) (cB (dC, dI) (kT cyB cyI cyJ cyP) A (fun u : (Nat → Int32) => ([(a0, .inr (1, [.ref a0_row, z0_owedEach, .ref a1, .ref a2])), (a0_row, .inl (cyI, 64, .inl u)), (a1, .inr (2, [z1_formX, z1_formY, z1_foxX, z1_foxY, .ref a1_seat, .ref a1_strength, .ref a1_debts, z1_near, z1_forms, .int v1_hares, z1_foxes, z1_safe])), (a1_debts, .inl (cyI, 36, .inl f1_debts)), (a1_seat, .inl (cyI, 6, .inl f1_seat)), (a1_strength, .inl (cyI, 6, .inl f1_strength))] : va_W))) A) args s 0 0 A) (F0 m 12 ls []) := by
  obtain ⟨hx, hb, hr, hts, hown, hlocks, hml, hA, hK, hNw⟩ := id C0
  intro n
  induction n with
  | zero => intro H locs ls f0_row l3 hP hD hS hl hw; exact False.elim hw
  | succ n ih =>
    intro H locs ls f0_row l3 hP hD hS hl hw
    refine lv_iload_n hx hb dX1_begin_12 rfl (lv_at hl 2 rfl) ?_
    refine lv_bipush (v := 64) hx hb dX1_begin_13 (by decide) ?_
    refine lv_icmp_ge (tgt := 31) hx hb dX1_begin_15 (by decide) (fun c1 => ?_) (fun c1 => ?_)
    · have hw := hw.1 c1
      refine lv_aload_n hx hb dX1_begin_31 rfl (lv_at hl 0 rfl) ?_
      refine va_get (D := (dC, dI)) (ci := 1) (v := .ref a0_row) (C := RX1) (T := TX1) (N := 4) hx hb hts ui_X1_begin_X1 hown hK hP 0 rfl rfl 0 (by decide) (hts _ uw_X1_begin_f13) (fun _ h9 => h9) rfl dX1_begin_32 ?_
      refine lv_iconst (v := 0) hx hb dX1_begin_35 (by decide) ?_
      refine lv_iconst (v := 1) hx hb dX1_begin_36 (by decide) ?_
      refine va_iast hx hb hK hP hD hS 1 1 rfl rfl (vin (by decide)) dX1_begin_37 (fun H locs hP hD hS => ?_)
      obtain ⟨f2, ef2⟩ : ∃ y : Nat → Int32, y = upd f0_row (0 : Int32).toNatClampNeg 1 := ⟨_, rfl⟩
      have hw := hw f2 ef2
      have hP : va_P (dC, dI) vwCl [(a0, .inr (1, [.ref a0_row, z0_owedEach, .ref a1, .ref a2])), (a0_row, .inl (cyI, 64, .inl f2)), (a1, .inr (2, [z1_formX, z1_formY, z1_foxX, z1_foxY, .ref a1_seat, .ref a1_strength, .ref a1_debts, z1_near, z1_forms, .int v1_hares, z1_foxes, z1_safe])), (a1_debts, .inl (cyI, 36, .inl f1_debts)), (a1_seat, .inl (cyI, 6, .inl f1_seat)), (a1_strength, .inl (cyI, 6, .inl f1_strength))] H := by rw [ef2]; exact hP
      have hD : va_D A [(a0, .inr (1, [.ref a0_row, z0_owedEach, .ref a1, .ref a2])), (a0_row, .inl (cyI, 64, .inl f2)), (a1, .inr (2, [z1_formX, z1_formY, z1_foxX, z1_foxY, .ref a1_seat, .ref a1_strength, .ref a1_debts, z1_near, z1_forms, .int v1_hares, z1_foxes, z1_safe])), (a1_debts, .inl (cyI, 36, .inl f1_debts)), (a1_seat, .inl (cyI, 6, .inl f1_seat)), (a1_strength, .inl (cyI, 6, .inl f1_strength))] := by rw [ef2]; exact hD
      refine lv_iconst (v := 0) hx hb dX1_begin_38 (by decide) ?_
      refine lv_istore_n (lv' := [(3, .int 0), (0, .ref a0), (1, .ref a1)]) hx hb dX1_begin_39 rfl hl (by decide) rfl (fun ls hl => ?_)
      obtain ⟨n9, hw⟩ := hw
      exact kl_X1_begin_40 dC dI cyB cyI cyJ cyP a0 a1 a2 a0_row a1_debts a1_seat a1_strength z0_owedEach r0_down r0_law z1_formX z1_formY z1_foxX z1_foxY z1_near z1_forms z1_foxes z1_safe v1_hares f1_debts f1_seat f1_strength Q  C0 n9 _ _ _ f2 0 hP hD hS (lv_sub hl [1, 2, 0] rfl) hw
    · have hw := hw.2 c1
      refine lv_aload_n hx hb dX1_begin_18 rfl (lv_at hl 0 rfl) ?_
      refine va_get (D := (dC, dI)) (ci := 1) (v := .ref a0_row) (C := RX1) (T := TX1) (N := 4) hx hb hts ui_X1_begin_X1 hown hK hP 0 rfl rfl 0 (by decide) (hts _ uw_X1_begin_f13) (fun _ h9 => h9) rfl dX1_begin_19 ?_
      refine lv_iload_n hx hb dX1_begin_22 rfl (lv_at hl 2 rfl) ?_
      refine lv_iconst (v := 0) hx hb dX1_begin_23 (by decide) ?_
      obtain ⟨hi9, hw⟩ := hw
      refine va_iast hx hb hK hP hD hS 1 1 rfl rfl hi9 dX1_begin_24 (fun H locs hP hD hS => ?_)
      obtain ⟨f3, ef3⟩ : ∃ y : Nat → Int32, y = upd f0_row l3.toNatClampNeg 0 := ⟨_, rfl⟩
      have hw := hw f3 ef3
      have hP : va_P (dC, dI) vwCl [(a0, .inr (1, [.ref a0_row, z0_owedEach, .ref a1, .ref a2])), (a0_row, .inl (cyI, 64, .inl f3)), (a1, .inr (2, [z1_formX, z1_formY, z1_foxX, z1_foxY, .ref a1_seat, .ref a1_strength, .ref a1_debts, z1_near, z1_forms, .int v1_hares, z1_foxes, z1_safe])), (a1_debts, .inl (cyI, 36, .inl f1_debts)), (a1_seat, .inl (cyI, 6, .inl f1_seat)), (a1_strength, .inl (cyI, 6, .inl f1_strength))] H := by rw [ef3]; exact hP
      have hD : va_D A [(a0, .inr (1, [.ref a0_row, z0_owedEach, .ref a1, .ref a2])), (a0_row, .inl (cyI, 64, .inl f3)), (a1, .inr (2, [z1_formX, z1_formY, z1_foxX, z1_foxY, .ref a1_seat, .ref a1_strength, .ref a1_debts, z1_near, z1_forms, .int v1_hares, z1_foxes, z1_safe])), (a1_debts, .inl (cyI, 36, .inl f1_debts)), (a1_seat, .inl (cyI, 6, .inl f1_seat)), (a1_strength, .inl (cyI, 6, .inl f1_strength))] := by rw [ef3]; exact hD
      obtain ⟨x4, ex4⟩ : ∃ y : Int32, y = l3 + 1 := ⟨_, rfl⟩
      have hw := hw x4 ex4
      refine lv_iinc (v := x4) (lv' := [(3, .int x4), (0, .ref a0), (1, .ref a1)]) hx hb dX1_begin_25 hl (k := 2) rfl (by rw [ex4]; rfl) (by decide) rfl (fun ls hl => ?_)
      refine lv_goto (tgt := 12) hx hb dX1_begin_28 (by decide) ?_
      exact ih _ _ _ f3 x4 hP hD hS (lv_sub hl [1, 2, 0] rfl) hw
def wq_X1_begin (v1_hares : Int32) (f1_debts : Nat → Int32) (f1_seat : Nat → Int32) (f1_strength : Nat → Int32) (f0_row : Nat → Int32)  (Q : (Nat → Int32) → Prop) : Prop := (∃ k9 : Nat, wl_X1_begin_12 v1_hares f1_debts f1_seat f1_strength Q  k9 f0_row 0)
set_option maxHeartbeats 4000000 in
set_option maxRecDepth 100000 in
theorem ck_X1_begin (l : Launch) (dC : Nat → ClassId) (dI : Nat → Nat → Nat) (cyB cyI cyJ cyP : ClassId) (a0 a1 a2 a0_row a1_debts a1_seat a1_strength : Nat) (sz : Nat) (z0_owedEach : Value) (r0_down : Value) (r0_law : Value) (z1_formX : Value) (z1_formY : Value) (z1_foxX : Value) (z1_foxY : Value) (z1_near : Value) (z1_forms : Value) (z1_foxes : Value) (z1_safe : Value) (v1_hares : Int32) (f1_debts : Nat → Int32) (f1_seat : Nat → Int32) (f1_strength : Nat → Int32) (f0_row : Nat → Int32)  {Q : (Nat → Int32) → Prop} (hw : wq_X1_begin v1_hares f1_debts f1_seat f1_strength f0_row  Q) : Met l yX1_begin wsX1_begin ({ frames := 1, cells := 0, slots := 0, locals := 40 }) (va_Pc [.ref a0, .ref a1, .ref a2] (cPc (dC, dI) (kT cyB cyI cyJ cyP) [(a0, .inr (1, [.ref a0_row, z0_owedEach, r0_down, r0_law])), (a0_row, .inl (cyI, 64, .inl f0_row)), (a1, .inr (2, [z1_formX, z1_formY, z1_foxX, z1_foxY, .ref a1_seat, .ref a1_strength, .ref a1_debts, z1_near, z1_forms, .int v1_hares, z1_foxes, z1_safe])), (a1_debts, .inl (cyI, 36, .inl f1_debts)), (a1_seat, .inl (cyI, 6, .inl f1_seat)), (a1_strength, .inl (cyI, 6, .inl f1_strength))] sz)) (va_Qv (fun (u : (Nat → Int32)) => Q u) (cB (dC, dI) (kT cyB cyI cyJ cyP) (va_A [(a0, .inr (1, [.ref a0_row, z0_owedEach, r0_down, r0_law])), (a0_row, .inl (cyI, 64, .inl f0_row)), (a1, .inr (2, [z1_formX, z1_formY, z1_foxX, z1_foxY, .ref a1_seat, .ref a1_strength, .ref a1_debts, z1_near, z1_forms, .int v1_hares, z1_foxes, z1_safe])), (a1_debts, .inl (cyI, 36, .inl f1_debts)), (a1_seat, .inl (cyI, 6, .inl f1_seat)), (a1_strength, .inl (cyI, 6, .inl f1_strength))] sz) (fun u : (Nat → Int32) => ([(a0, .inr (1, [.ref a0_row, z0_owedEach, .ref a1, .ref a2])), (a0_row, .inl (cyI, 64, .inl u)), (a1, .inr (2, [z1_formX, z1_formY, z1_foxX, z1_foxY, .ref a1_seat, .ref a1_strength, .ref a1_debts, z1_near, z1_forms, .int v1_hares, z1_foxes, z1_safe])), (a1_debts, .inl (cyI, 36, .inl f1_debts)), (a1_seat, .inl (cyI, 6, .inl f1_seat)), (a1_strength, .inl (cyI, 6, .inl f1_strength))] : va_W))) (va_A [(a0, .inr (1, [.ref a0_row, z0_owedEach, r0_down, r0_law])), (a0_row, .inl (cyI, 64, .inl f0_row)), (a1, .inr (2, [z1_formX, z1_formY, z1_foxX, z1_foxY, .ref a1_seat, .ref a1_strength, .ref a1_debts, z1_near, z1_forms, .int v1_hares, z1_foxes, z1_safe])), (a1_debts, .inl (cyI, 36, .inl f1_debts)), (a1_seat, .inl (cyI, 6, .inl f1_seat)), (a1_strength, .inl (cyI, 6, .inl f1_strength))] sz)) 0 0 (va_A [(a0, .inr (1, [.ref a0_row, z0_owedEach, r0_down, r0_law])), (a0_row, .inl (cyI, 64, .inl f0_row)), (a1, .inr (2, [z1_formX, z1_formY, z1_foxX, z1_foxY, .ref a1_seat, .ref a1_strength, .ref a1_debts, z1_near, z1_forms, .int v1_hares, z1_foxes, z1_safe])), (a1_debts, .inl (cyI, 36, .inl f1_debts)), (a1_seat, .inl (cyI, 6, .inl f1_seat)), (a1_strength, .inl (cyI, 6, .inl f1_strength))] sz) := by
  refine Met.ofW (cc := cX1_begin) (maxL := 4) (ret := none) (by decide) rfl ?_
  intro p e s m args below meth c s₁ B hml hv
  obtain ⟨rfl, hsz, hP, hK, hD0, hNw⟩ := hv
  have hx := B.exec
  have hb := B.bytes
  have hr := B.returns
  have hts := atoms_spec (ws := wsX1_begin) B.pre
  have hown : s.vm.findClass RX1 = some m.cls := findClass_of_methodNamed B.named
  have hlocks := B.notSynchronized
  subst hsz
  have hD := hD0.self (sz := s.heap.size)
  generalize hAe : va_A [(a0, .inr (1, [.ref a0_row, z0_owedEach, r0_down, r0_law])), (a0_row, .inl (cyI, 64, .inl f0_row)), (a1, .inr (2, [z1_formX, z1_formY, z1_foxX, z1_foxY, .ref a1_seat, .ref a1_strength, .ref a1_debts, z1_near, z1_forms, .int v1_hares, z1_foxes, z1_safe])), (a1_debts, .inl (cyI, 36, .inl f1_debts)), (a1_seat, .inl (cyI, 6, .inl f1_seat)), (a1_strength, .inl (cyI, 6, .inl f1_strength))] s.heap.size = A at hD ⊢
  have hA : ∀ q : Nat, s.heap.size ≤ q → A q := fun q h => by rw [← hAe]; exact Or.inr h
  have hS : va_S A s.heap s.heap [] := va_S.rf
  have hP : va_P (dC, dI) vwCl [(a0, .inr (1, [.ref a0_row, z0_owedEach, r0_down, r0_law])), (a0_row, .inl (cyI, 64, .inl f0_row)), (a1, .inr (2, [z1_formX, z1_formY, z1_foxX, z1_foxY, .ref a1_seat, .ref a1_strength, .ref a1_debts, z1_near, z1_forms, .int v1_hares, z1_foxes, z1_safe])), (a1_debts, .inl (cyI, 36, .inl f1_debts)), (a1_seat, .inl (cyI, 6, .inl f1_seat)), (a1_strength, .inl (cyI, 6, .inl f1_strength))] s.heap := hP
  have hl := lv_entry ([.ref a0, .ref a1, .ref a2]) (n := 4) (Nat.le_of_ble_eq_true rfl)
  rw [lg_entry_eq]
  generalize (lg_sl ([.ref a0, .ref a1, .ref a2]) ++ List.replicate (4 - (lg_sl ([.ref a0, .ref a1, .ref a2])).length) Slot.unset).toArray = ls at hl ⊢
  have hl : lv_has ls 4 [(0, .ref a0), (1, .ref a1), (2, .ref a2)] := hl
  have C0 : cfx p s m _ meth c cX1_begin none wsX1_begin RX1 4 A (dC, dI) (kT cyB cyI cyJ cyP) := ⟨hx, hb, hr, hts, hown, hlocks, hml, hA, hK, hNw⟩
  clear hAe
  obtain ⟨H, hH⟩ : ∃ H, H = s.heap := ⟨_, rfl⟩
  rw [← hH] at hP ⊢
  have hS : va_S A s.heap H [] := by rw [hH]; exact va_S.rf
  have hS := hS
  refine lv_aload_n hx hb dX1_begin_0 rfl (lv_at hl 0 rfl) ?_
  refine lv_aload_n hx hb dX1_begin_1 rfl (lv_at hl 1 rfl) ?_
  refine va_put (D := (dC, dI)) (ci := 1) (v := .ref a1) (ty := .object "MarchHares$Down") (C := RX1) (T := TX1) (N := 4) hx hb hts ui_X1_begin_X1 tyX1 tyX1_ok nmX1 hown hK hP hD hS 0 rfl rfl 2 (by decide) (hts _ uw_X1_begin_f24) (fun _ h9 => h9) rfl (by decide +kernel) rfl rfl (Nat.le_of_ble_eq_true rfl) dX1_begin_2 (fun H locs hP hD hS => ?_)
  have hP : va_P (dC, dI) vwCl [(a0, .inr (1, [.ref a0_row, z0_owedEach, .ref a1, r0_law])), (a0_row, .inl (cyI, 64, .inl f0_row)), (a1, .inr (2, [z1_formX, z1_formY, z1_foxX, z1_foxY, .ref a1_seat, .ref a1_strength, .ref a1_debts, z1_near, z1_forms, .int v1_hares, z1_foxes, z1_safe])), (a1_debts, .inl (cyI, 36, .inl f1_debts)), (a1_seat, .inl (cyI, 6, .inl f1_seat)), (a1_strength, .inl (cyI, 6, .inl f1_strength))] H := hP
  have hD : va_D A [(a0, .inr (1, [.ref a0_row, z0_owedEach, .ref a1, r0_law])), (a0_row, .inl (cyI, 64, .inl f0_row)), (a1, .inr (2, [z1_formX, z1_formY, z1_foxX, z1_foxY, .ref a1_seat, .ref a1_strength, .ref a1_debts, z1_near, z1_forms, .int v1_hares, z1_foxes, z1_safe])), (a1_debts, .inl (cyI, 36, .inl f1_debts)), (a1_seat, .inl (cyI, 6, .inl f1_seat)), (a1_strength, .inl (cyI, 6, .inl f1_strength))] := hD
  refine lv_aload_n hx hb dX1_begin_5 rfl (lv_at hl 0 rfl) ?_
  refine lv_aload_n hx hb dX1_begin_6 rfl (lv_at hl 2 rfl) ?_
  refine va_put (D := (dC, dI)) (ci := 1) (v := .ref a2) (ty := .object "MarchHares$Law") (C := RX1) (T := TX1) (N := 4) hx hb hts ui_X1_begin_X1 tyX1 tyX1_ok nmX1 hown hK hP hD hS 0 rfl rfl 3 (by decide) (hts _ uw_X1_begin_f28) (fun _ h9 => h9) rfl (by decide +kernel) rfl rfl (Nat.le_of_ble_eq_true rfl) dX1_begin_7 (fun H locs hP hD hS => ?_)
  have hP : va_P (dC, dI) vwCl [(a0, .inr (1, [.ref a0_row, z0_owedEach, .ref a1, .ref a2])), (a0_row, .inl (cyI, 64, .inl f0_row)), (a1, .inr (2, [z1_formX, z1_formY, z1_foxX, z1_foxY, .ref a1_seat, .ref a1_strength, .ref a1_debts, z1_near, z1_forms, .int v1_hares, z1_foxes, z1_safe])), (a1_debts, .inl (cyI, 36, .inl f1_debts)), (a1_seat, .inl (cyI, 6, .inl f1_seat)), (a1_strength, .inl (cyI, 6, .inl f1_strength))] H := hP
  have hD : va_D A [(a0, .inr (1, [.ref a0_row, z0_owedEach, .ref a1, .ref a2])), (a0_row, .inl (cyI, 64, .inl f0_row)), (a1, .inr (2, [z1_formX, z1_formY, z1_foxX, z1_foxY, .ref a1_seat, .ref a1_strength, .ref a1_debts, z1_near, z1_forms, .int v1_hares, z1_foxes, z1_safe])), (a1_debts, .inl (cyI, 36, .inl f1_debts)), (a1_seat, .inl (cyI, 6, .inl f1_seat)), (a1_strength, .inl (cyI, 6, .inl f1_strength))] := hD
  refine lv_iconst (v := 0) hx hb dX1_begin_10 (by decide) ?_
  refine lv_istore_n (lv' := [(3, .int 0), (0, .ref a0), (1, .ref a1), (2, .ref a2)]) hx hb dX1_begin_11 rfl hl (by decide) rfl (fun ls hl => ?_)
  obtain ⟨n9, hw⟩ := hw
  exact kl_X1_begin_12 dC dI cyB cyI cyJ cyP a0 a1 a2 a0_row a1_debts a1_seat a1_strength z0_owedEach r0_down r0_law z1_formX z1_formY z1_foxX z1_foxY z1_near z1_forms z1_foxes z1_safe v1_hares f1_debts f1_seat f1_strength Q  C0 n9 _ _ _ f0_row 0 hP hD hS (lv_sub hl [1, 2, 0] rfl) hw
theorem ui_X10_down_X10 : ∀ w ∈ u_ws RX10 TX10 19, w ∈ wsX10_down := by decide +kernel
theorem ui_X10_down_X2 : ∀ w ∈ u_ws RX2 TX2 12, w ∈ wsX10_down := by decide +kernel
theorem ui_X10_down_X5 : ∀ w ∈ u_ws RX5 TX5 2, w ∈ wsX10_down := by decide +kernel
theorem ui_X10_down_X8 : ∀ w ∈ u_ws RX8 TX8 7, w ∈ wsX10_down := by decide +kernel
theorem uw_X10_down_f10 : (.fieldLink RX10 10 "MarchHares" "tape" "LMarchHares$Tape;" : Cond) ∈ wsX10_down := by decide +kernel
theorem uw_X10_down_f120 : (.fieldLink RX10 120 "MarchHares$Tape" "fault" "I" : Cond) ∈ wsX10_down := by decide +kernel
theorem uw_X10_down_f132 : (.fieldLink RX10 132 "MarchHares$Past" "kept" "I" : Cond) ∈ wsX10_down := by decide +kernel
theorem uw_X10_down_f135 : (.fieldLink RX10 135 "MarchHares" "imagesKept" "I" : Cond) ∈ wsX10_down := by decide +kernel
theorem uw_X10_down_f138 : (.fieldLink RX10 138 "MarchHares" "refusedSteps" "I" : Cond) ∈ wsX10_down := by decide +kernel
theorem uw_X10_down_f141 : (.fieldLink RX10 141 "MarchHares$Down" "hares" "I" : Cond) ∈ wsX10_down := by decide +kernel
theorem uw_X10_down_f19 : (.fieldLink RX10 19 "MarchHares" "ground" "LMarchHares$Down;" : Cond) ∈ wsX10_down := by decide +kernel
theorem uw_X10_down_f23 : (.fieldLink RX10 23 "MarchHares" "spareGround" "LMarchHares$Down;" : Cond) ∈ wsX10_down := by decide +kernel
theorem uw_X10_down_f29 : (.fieldLink RX10 29 "MarchHares" "rule" "LMarchHares$Law;" : Cond) ∈ wsX10_down := by decide +kernel
theorem uw_X10_down_f39 : (.fieldLink RX10 39 "MarchHares" "lines" "LMarchHares$Book;" : Cond) ∈ wsX10_down := by decide +kernel
theorem uw_X10_down_f58 : (.fieldLink RX10 58 "MarchHares" "now" "LMarchHares$Days;" : Cond) ∈ wsX10_down := by decide +kernel
theorem uw_X10_down_f68 : (.fieldLink RX10 68 "MarchHares" "past" "LMarchHares$Past;" : Cond) ∈ wsX10_down := by decide +kernel
def wq_X10_down (a0_ground : Nat) (a0_spareGround : Nat) (a0_rule : Nat) (f0_tape_bytes : Nat → Int32) (f0_spareGround_formX : Nat → Int32) (f0_spareGround_foxX : Nat → Int32) (f0_spareGround_formY : Nat → Int32) (f0_spareGround_foxY : Nat → Int32) (f0_spareGround_seat : Nat → Int32) (f0_spareGround_strength : Nat → Int32) (v0_callsIllegal : Int32) (v0_tape_length : Int32) (v0_tape_at : Int32) (v0_tape_token : Int32) (v0_tape_filled : Int32) (v0_tape_fault : Int32) (v0_tape_faultPlace : Int32) (v0_spareGround_forms : Int32) (v0_spareGround_hares : Int32) (v0_spareGround_foxes : Int32) (f0_spareGround_debts : Nat → Int32) (v0_spareGround_safe : Int32) (r0_ground : Value) (r0_spareGround : Value) (v0_rule_length : Int32) (f0_rule_kinds : Nat → Int32) (f0_rule_values : Nat → Int32) (v0_lines_many : Int32) (f0_lines_seen : Nat → Int32) (f0_now_row : Nat → Int32) (r0_now_down : Value) (r0_now_law : Value) (v0_past_kept : Int32) (v0_imagesKept : Int32) (v0_refusedSteps : Int32) (p1 : Int32) (E : String → Int32 → Int32 → Int32 → Int32 → Int32 → Int32 → Int32 → Int32 → Int32 → Int32 → (Nat → Int32) → Int32 → Value → Value → Int32 → (Nat → Int32) → (Nat → Int32) → Int32 → (Nat → Int32) → (Nat → Int32) → Value → Value → Int32 → Int32 → Int32 → Prop) (Q : Int32 → Int32 → Int32 → Int32 → Int32 → Int32 → Int32 → Int32 → Int32 → Int32 → Int32 → (Nat → Int32) → Int32 → Value → Value → Int32 → (Nat → Int32) → (Nat → Int32) → Int32 → (Nat → Int32) → (Nat → Int32) → Value → Value → Int32 → Int32 → Int32 → Prop) : Prop := wq_X10_openText  v0_callsIllegal v0_tape_length v0_tape_at v0_tape_token v0_tape_filled v0_tape_fault v0_tape_faultPlace p1 600 (fun en x1 x2 x3 x4 x5 x6 x7 => E en x1 x2 x3 x4 x5 x6 x7 v0_spareGround_forms v0_spareGround_hares v0_spareGround_foxes f0_spareGround_debts v0_spareGround_safe (.ref a0_ground) (.ref a0_spareGround) v0_rule_length f0_rule_kinds f0_rule_values v0_lines_many f0_lines_seen f0_now_row r0_now_down r0_now_law v0_past_kept v0_imagesKept v0_refusedSteps) (fun x1 x2 x3 x4 x5 x6 x7 => wq_X2_readFrom x2 x6 f0_tape_bytes f0_spareGround_formX f0_spareGround_foxX f0_spareGround_formY f0_spareGround_foxY v0_spareGround_forms v0_spareGround_hares v0_spareGround_foxes f0_spareGround_debts x3 v0_spareGround_safe  (fun x8 x9 x10 f11 x12 x13 => wq_X8_isFaulty x6   (fun r14 => ((r14 = 0 → wq_X4_setPlain  v0_rule_length f0_rule_kinds f0_rule_values  (fun x16 f17 f18 => wq_X0_clear  v0_lines_many f0_lines_seen  (fun x19 f20 => wq_X1_begin x9 f11 f0_spareGround_seat f0_spareGround_strength f0_now_row  (fun f21 => (Q x9 x1 x2 x12 x4 x5 x6 x7 x8 x9 x10 f11 x13 (.ref a0_spareGround) (.ref a0_ground) x16 f17 f18 x19 f20 f21 (.ref a0_spareGround) (.ref a0_rule) 0 0 0))))) ∧ (¬ r14 = 0 → (Q (x6 - 10) x1 x2 x12 x4 x5 x6 x7 x8 x9 x10 f11 x13 (.ref a0_ground) (.ref a0_spareGround) v0_rule_length f0_rule_kinds f0_rule_values v0_lines_many f0_lines_seen f0_now_row r0_now_down r0_now_law v0_past_kept v0_imagesKept v0_refusedSteps))))))
set_option maxHeartbeats 4000000 in
set_option maxRecDepth 100000 in
theorem ck_X10_down (l : Launch) (dC : Nat → ClassId) (dI : Nat → Nat → Nat) (cyB cyI cyJ cyP : ClassId) (a0 a0_tape a0_spareGround a0_spareGround_debts a0_tape_bytes a0_spareGround_formX a0_spareGround_foxX a0_spareGround_formY a0_spareGround_foxY a0_ground a0_rule a0_rule_kinds a0_rule_values a0_lines a0_lines_seen a0_now a0_now_row a0_spareGround_seat a0_spareGround_strength a0_past : Nat) (sz : Nat) (z0_spareRule : Value) (z0_spareLines : Value) (z0_steps : Value) (z0_trial : Value) (z0_images : Value) (z0_round : Value) (z0_seating : Value) (z0_fitting : Value) (z0_callsNoSuch : Value) (z0_spareGround_near : Value) (z0_rule_pile : Value) (z0_rule_facts : Value) (z0_now_owedEach : Value) (z0_past_rows : Value) (f0_tape_bytes : Nat → Int32) (f0_spareGround_formX : Nat → Int32) (f0_spareGround_foxX : Nat → Int32) (f0_spareGround_formY : Nat → Int32) (f0_spareGround_foxY : Nat → Int32) (f0_spareGround_seat : Nat → Int32) (f0_spareGround_strength : Nat → Int32) (v0_callsIllegal : Int32) (v0_tape_length : Int32) (v0_tape_at : Int32) (v0_tape_token : Int32) (v0_tape_filled : Int32) (v0_tape_fault : Int32) (v0_tape_faultPlace : Int32) (v0_spareGround_forms : Int32) (v0_spareGround_hares : Int32) (v0_spareGround_foxes : Int32) (f0_spareGround_debts : Nat → Int32) (v0_spareGround_safe : Int32) (v0_rule_length : Int32) (f0_rule_kinds : Nat → Int32) (f0_rule_values : Nat → Int32) (v0_lines_many : Int32) (f0_lines_seen : Nat → Int32) (f0_now_row : Nat → Int32) (r0_now_down : Value) (r0_now_law : Value) (v0_past_kept : Int32) (v0_imagesKept : Int32) (v0_refusedSteps : Int32) (p1 : Int32) {E : String → Int32 → Int32 → Int32 → Int32 → Int32 → Int32 → Int32 → Int32 → Int32 → Int32 → (Nat → Int32) → Int32 → Value → Value → Int32 → (Nat → Int32) → (Nat → Int32) → Int32 → (Nat → Int32) → (Nat → Int32) → Value → Value → Int32 → Int32 → Int32 → Prop} {Q : Int32 → Int32 → Int32 → Int32 → Int32 → Int32 → Int32 → Int32 → Int32 → Int32 → Int32 → (Nat → Int32) → Int32 → Value → Value → Int32 → (Nat → Int32) → (Nat → Int32) → Int32 → (Nat → Int32) → (Nat → Int32) → Value → Value → Int32 → Int32 → Int32 → Prop} (hw : wq_X10_down a0_ground a0_spareGround a0_rule f0_tape_bytes f0_spareGround_formX f0_spareGround_foxX f0_spareGround_formY f0_spareGround_foxY f0_spareGround_seat f0_spareGround_strength v0_callsIllegal v0_tape_length v0_tape_at v0_tape_token v0_tape_filled v0_tape_fault v0_tape_faultPlace v0_spareGround_forms v0_spareGround_hares v0_spareGround_foxes f0_spareGround_debts v0_spareGround_safe (.ref a0_ground) (.ref a0_spareGround) v0_rule_length f0_rule_kinds f0_rule_values v0_lines_many f0_lines_seen f0_now_row r0_now_down r0_now_law v0_past_kept v0_imagesKept v0_refusedSteps p1 E Q) : vx_Met l yX10_down wsX10_down ({ frames := 9, cells := 1, slots := 6, locals := 186 }) (va_Pc [.ref a0, .int p1] (cPx l (dC, dI) (kT cyB cyI cyJ cyP) [(a0, .inr (10, [.ref a0_tape, .ref a0_ground, .ref a0_spareGround, .ref a0_rule, z0_spareRule, .ref a0_lines, z0_spareLines, z0_steps, .ref a0_now, z0_trial, .ref a0_past, z0_images, z0_round, z0_seating, z0_fitting, .int v0_imagesKept, .int v0_refusedSteps, z0_callsNoSuch, .int v0_callsIllegal])), (a0_tape, .inr (8, [.ref a0_tape_bytes, .int v0_tape_length, .int v0_tape_at, .int v0_tape_token, .int v0_tape_filled, .int v0_tape_fault, .int v0_tape_faultPlace])), (a0_spareGround, .inr (2, [.ref a0_spareGround_formX, .ref a0_spareGround_formY, .ref a0_spareGround_foxX, .ref a0_spareGround_foxY, .ref a0_spareGround_seat, .ref a0_spareGround_strength, .ref a0_spareGround_debts, z0_spareGround_near, .int v0_spareGround_forms, .int v0_spareGround_hares, .int v0_spareGround_foxes, .int v0_spareGround_safe])), (a0_spareGround_debts, .inl (cyI, 36, .inl f0_spareGround_debts)), (a0_tape_bytes, .inl (cyB, 600, .inl f0_tape_bytes)), (a0_spareGround_formX, .inl (cyI, 8, .inl f0_spareGround_formX)), (a0_spareGround_foxX, .inl (cyI, 4, .inl f0_spareGround_foxX)), (a0_spareGround_formY, .inl (cyI, 8, .inl f0_spareGround_formY)), (a0_spareGround_foxY, .inl (cyI, 4, .inl f0_spareGround_foxY)), (a0_rule, .inr (4, [.ref a0_rule_kinds, .ref a0_rule_values, z0_rule_pile, z0_rule_facts, .int v0_rule_length])), (a0_rule_kinds, .inl (cyI, 150, .inl f0_rule_kinds)), (a0_rule_values, .inl (cyI, 150, .inl f0_rule_values)), (a0_lines, .inr (0, [.ref a0_lines_seen, .int v0_lines_many])), (a0_lines_seen, .inl (cyI, 8, .inl f0_lines_seen)), (a0_now, .inr (1, [.ref a0_now_row, z0_now_owedEach, r0_now_down, r0_now_law])), (a0_now_row, .inl (cyI, 64, .inl f0_now_row)), (a0_spareGround_seat, .inl (cyI, 6, .inl f0_spareGround_seat)), (a0_spareGround_strength, .inl (cyI, 6, .inl f0_spareGround_strength)), (a0_past, .inr (5, [z0_past_rows, .int v0_past_kept]))] sz)) (va_Qi (fun (r : Int32) (u : Int32 × Int32 × Int32 × Int32 × Int32 × Int32 × Int32 × Int32 × Int32 × Int32 × (Nat → Int32) × Int32 × Value × Value × Int32 × (Nat → Int32) × (Nat → Int32) × Int32 × (Nat → Int32) × (Nat → Int32) × Value × Value × Int32 × Int32 × Int32) => Q r u.1 u.2.1 u.2.2.1 u.2.2.2.1 u.2.2.2.2.1 u.2.2.2.2.2.1 u.2.2.2.2.2.2.1 u.2.2.2.2.2.2.2.1 u.2.2.2.2.2.2.2.2.1 u.2.2.2.2.2.2.2.2.2.1 u.2.2.2.2.2.2.2.2.2.2.1 u.2.2.2.2.2.2.2.2.2.2.2.1 u.2.2.2.2.2.2.2.2.2.2.2.2.1 u.2.2.2.2.2.2.2.2.2.2.2.2.2.1 u.2.2.2.2.2.2.2.2.2.2.2.2.2.2.1 u.2.2.2.2.2.2.2.2.2.2.2.2.2.2.2.1 u.2.2.2.2.2.2.2.2.2.2.2.2.2.2.2.2.1 u.2.2.2.2.2.2.2.2.2.2.2.2.2.2.2.2.2.1 u.2.2.2.2.2.2.2.2.2.2.2.2.2.2.2.2.2.2.1 u.2.2.2.2.2.2.2.2.2.2.2.2.2.2.2.2.2.2.2.1 u.2.2.2.2.2.2.2.2.2.2.2.2.2.2.2.2.2.2.2.2.1 u.2.2.2.2.2.2.2.2.2.2.2.2.2.2.2.2.2.2.2.2.2.1 u.2.2.2.2.2.2.2.2.2.2.2.2.2.2.2.2.2.2.2.2.2.2.1 u.2.2.2.2.2.2.2.2.2.2.2.2.2.2.2.2.2.2.2.2.2.2.2.1 u.2.2.2.2.2.2.2.2.2.2.2.2.2.2.2.2.2.2.2.2.2.2.2.2) (cB (dC, dI) (kT cyB cyI cyJ cyP) (va_A [(a0, .inr (10, [.ref a0_tape, .ref a0_ground, .ref a0_spareGround, .ref a0_rule, z0_spareRule, .ref a0_lines, z0_spareLines, z0_steps, .ref a0_now, z0_trial, .ref a0_past, z0_images, z0_round, z0_seating, z0_fitting, .int v0_imagesKept, .int v0_refusedSteps, z0_callsNoSuch, .int v0_callsIllegal])), (a0_tape, .inr (8, [.ref a0_tape_bytes, .int v0_tape_length, .int v0_tape_at, .int v0_tape_token, .int v0_tape_filled, .int v0_tape_fault, .int v0_tape_faultPlace])), (a0_spareGround, .inr (2, [.ref a0_spareGround_formX, .ref a0_spareGround_formY, .ref a0_spareGround_foxX, .ref a0_spareGround_foxY, .ref a0_spareGround_seat, .ref a0_spareGround_strength, .ref a0_spareGround_debts, z0_spareGround_near, .int v0_spareGround_forms, .int v0_spareGround_hares, .int v0_spareGround_foxes, .int v0_spareGround_safe])), (a0_spareGround_debts, .inl (cyI, 36, .inl f0_spareGround_debts)), (a0_tape_bytes, .inl (cyB, 600, .inl f0_tape_bytes)), (a0_spareGround_formX, .inl (cyI, 8, .inl f0_spareGround_formX)), (a0_spareGround_foxX, .inl (cyI, 4, .inl f0_spareGround_foxX)), (a0_spareGround_formY, .inl (cyI, 8, .inl f0_spareGround_formY)), (a0_spareGround_foxY, .inl (cyI, 4, .inl f0_spareGround_foxY)), (a0_rule, .inr (4, [.ref a0_rule_kinds, .ref a0_rule_values, z0_rule_pile, z0_rule_facts, .int v0_rule_length])), (a0_rule_kinds, .inl (cyI, 150, .inl f0_rule_kinds)), (a0_rule_values, .inl (cyI, 150, .inl f0_rule_values)), (a0_lines, .inr (0, [.ref a0_lines_seen, .int v0_lines_many])), (a0_lines_seen, .inl (cyI, 8, .inl f0_lines_seen)), (a0_now, .inr (1, [.ref a0_now_row, z0_now_owedEach, r0_now_down, r0_now_law])), (a0_now_row, .inl (cyI, 64, .inl f0_now_row)), (a0_spareGround_seat, .inl (cyI, 6, .inl f0_spareGround_seat)), (a0_spareGround_strength, .inl (cyI, 6, .inl f0_spareGround_strength)), (a0_past, .inr (5, [z0_past_rows, .int v0_past_kept]))] sz) (fun u : Int32 × Int32 × Int32 × Int32 × Int32 × Int32 × Int32 × Int32 × Int32 × Int32 × (Nat → Int32) × Int32 × Value × Value × Int32 × (Nat → Int32) × (Nat → Int32) × Int32 × (Nat → Int32) × (Nat → Int32) × Value × Value × Int32 × Int32 × Int32 => ([(a0, .inr (10, [.ref a0_tape, u.2.2.2.2.2.2.2.2.2.2.2.2.1, u.2.2.2.2.2.2.2.2.2.2.2.2.2.1, .ref a0_rule, z0_spareRule, .ref a0_lines, z0_spareLines, z0_steps, .ref a0_now, z0_trial, .ref a0_past, z0_images, z0_round, z0_seating, z0_fitting, .int u.2.2.2.2.2.2.2.2.2.2.2.2.2.2.2.2.2.2.2.2.2.2.2.1, .int u.2.2.2.2.2.2.2.2.2.2.2.2.2.2.2.2.2.2.2.2.2.2.2.2, z0_callsNoSuch, .int u.1])), (a0_tape, .inr (8, [.ref a0_tape_bytes, .int u.2.1, .int u.2.2.1, .int u.2.2.2.1, .int u.2.2.2.2.1, .int u.2.2.2.2.2.1, .int u.2.2.2.2.2.2.1])), (a0_spareGround, .inr (2, [.ref a0_spareGround_formX, .ref a0_spareGround_formY, .ref a0_spareGround_foxX, .ref a0_spareGround_foxY, .ref a0_spareGround_seat, .ref a0_spareGround_strength, .ref a0_spareGround_debts, z0_spareGround_near, .int u.2.2.2.2.2.2.2.1, .int u.2.2.2.2.2.2.2.2.1, .int u.2.2.2.2.2.2.2.2.2.1, .int u.2.2.2.2.2.2.2.2.2.2.2.1])), (a0_spareGround_debts, .inl (cyI, 36, .inl u.2.2.2.2.2.2.2.2.2.2.1)), (a0_tape_bytes, .inl (cyB, 600, .inl f0_tape_bytes)), (a0_spareGround_formX, .inl (cyI, 8, .inl f0_spareGround_formX)), (a0_spareGround_foxX, .inl (cyI, 4, .inl f0_spareGround_foxX)), (a0_spareGround_formY, .inl (cyI, 8, .inl f0_spareGround_formY)), (a0_spareGround_foxY, .inl (cyI, 4, .inl f0_spareGround_foxY)), (a0_rule, .inr (4, [.ref a0_rule_kinds, .ref a0_rule_values, z0_rule_pile, z0_rule_facts, .int u.2.2.2.2.2.2.2.2.2.2.2.2.2.2.1])), (a0_rule_kinds, .inl (cyI, 150, .inl u.2.2.2.2.2.2.2.2.2.2.2.2.2.2.2.1)), (a0_rule_values, .inl (cyI, 150, .inl u.2.2.2.2.2.2.2.2.2.2.2.2.2.2.2.2.1)), (a0_lines, .inr (0, [.ref a0_lines_seen, .int u.2.2.2.2.2.2.2.2.2.2.2.2.2.2.2.2.2.1])), (a0_lines_seen, .inl (cyI, 8, .inl u.2.2.2.2.2.2.2.2.2.2.2.2.2.2.2.2.2.2.1)), (a0_now, .inr (1, [.ref a0_now_row, z0_now_owedEach, u.2.2.2.2.2.2.2.2.2.2.2.2.2.2.2.2.2.2.2.2.1, u.2.2.2.2.2.2.2.2.2.2.2.2.2.2.2.2.2.2.2.2.2.1])), (a0_now_row, .inl (cyI, 64, .inl u.2.2.2.2.2.2.2.2.2.2.2.2.2.2.2.2.2.2.2.1)), (a0_spareGround_seat, .inl (cyI, 6, .inl f0_spareGround_seat)), (a0_spareGround_strength, .inl (cyI, 6, .inl f0_spareGround_strength)), (a0_past, .inr (5, [z0_past_rows, .int u.2.2.2.2.2.2.2.2.2.2.2.2.2.2.2.2.2.2.2.2.2.2.1]))] : va_W))) (va_A [(a0, .inr (10, [.ref a0_tape, .ref a0_ground, .ref a0_spareGround, .ref a0_rule, z0_spareRule, .ref a0_lines, z0_spareLines, z0_steps, .ref a0_now, z0_trial, .ref a0_past, z0_images, z0_round, z0_seating, z0_fitting, .int v0_imagesKept, .int v0_refusedSteps, z0_callsNoSuch, .int v0_callsIllegal])), (a0_tape, .inr (8, [.ref a0_tape_bytes, .int v0_tape_length, .int v0_tape_at, .int v0_tape_token, .int v0_tape_filled, .int v0_tape_fault, .int v0_tape_faultPlace])), (a0_spareGround, .inr (2, [.ref a0_spareGround_formX, .ref a0_spareGround_formY, .ref a0_spareGround_foxX, .ref a0_spareGround_foxY, .ref a0_spareGround_seat, .ref a0_spareGround_strength, .ref a0_spareGround_debts, z0_spareGround_near, .int v0_spareGround_forms, .int v0_spareGround_hares, .int v0_spareGround_foxes, .int v0_spareGround_safe])), (a0_spareGround_debts, .inl (cyI, 36, .inl f0_spareGround_debts)), (a0_tape_bytes, .inl (cyB, 600, .inl f0_tape_bytes)), (a0_spareGround_formX, .inl (cyI, 8, .inl f0_spareGround_formX)), (a0_spareGround_foxX, .inl (cyI, 4, .inl f0_spareGround_foxX)), (a0_spareGround_formY, .inl (cyI, 8, .inl f0_spareGround_formY)), (a0_spareGround_foxY, .inl (cyI, 4, .inl f0_spareGround_foxY)), (a0_rule, .inr (4, [.ref a0_rule_kinds, .ref a0_rule_values, z0_rule_pile, z0_rule_facts, .int v0_rule_length])), (a0_rule_kinds, .inl (cyI, 150, .inl f0_rule_kinds)), (a0_rule_values, .inl (cyI, 150, .inl f0_rule_values)), (a0_lines, .inr (0, [.ref a0_lines_seen, .int v0_lines_many])), (a0_lines_seen, .inl (cyI, 8, .inl f0_lines_seen)), (a0_now, .inr (1, [.ref a0_now_row, z0_now_owedEach, r0_now_down, r0_now_law])), (a0_now_row, .inl (cyI, 64, .inl f0_now_row)), (a0_spareGround_seat, .inl (cyI, 6, .inl f0_spareGround_seat)), (a0_spareGround_strength, .inl (cyI, 6, .inl f0_spareGround_strength)), (a0_past, .inr (5, [z0_past_rows, .int v0_past_kept]))] sz)) (vx_X (fun _ => True) (fun (en : String) (u : Int32 × Int32 × Int32 × Int32 × Int32 × Int32 × Int32 × Int32 × Int32 × Int32 × (Nat → Int32) × Int32 × Value × Value × Int32 × (Nat → Int32) × (Nat → Int32) × Int32 × (Nat → Int32) × (Nat → Int32) × Value × Value × Int32 × Int32 × Int32) (t : State) => E en u.1 u.2.1 u.2.2.1 u.2.2.2.1 u.2.2.2.2.1 u.2.2.2.2.2.1 u.2.2.2.2.2.2.1 u.2.2.2.2.2.2.2.1 u.2.2.2.2.2.2.2.2.1 u.2.2.2.2.2.2.2.2.2.1 u.2.2.2.2.2.2.2.2.2.2.1 u.2.2.2.2.2.2.2.2.2.2.2.1 u.2.2.2.2.2.2.2.2.2.2.2.2.1 u.2.2.2.2.2.2.2.2.2.2.2.2.2.1 u.2.2.2.2.2.2.2.2.2.2.2.2.2.2.1 u.2.2.2.2.2.2.2.2.2.2.2.2.2.2.2.1 u.2.2.2.2.2.2.2.2.2.2.2.2.2.2.2.2.1 u.2.2.2.2.2.2.2.2.2.2.2.2.2.2.2.2.2.1 u.2.2.2.2.2.2.2.2.2.2.2.2.2.2.2.2.2.2.1 u.2.2.2.2.2.2.2.2.2.2.2.2.2.2.2.2.2.2.2.1 u.2.2.2.2.2.2.2.2.2.2.2.2.2.2.2.2.2.2.2.2.1 u.2.2.2.2.2.2.2.2.2.2.2.2.2.2.2.2.2.2.2.2.2.1 u.2.2.2.2.2.2.2.2.2.2.2.2.2.2.2.2.2.2.2.2.2.2.1 u.2.2.2.2.2.2.2.2.2.2.2.2.2.2.2.2.2.2.2.2.2.2.2.1 u.2.2.2.2.2.2.2.2.2.2.2.2.2.2.2.2.2.2.2.2.2.2.2.2 ∧ cB (dC, dI) (kT cyB cyI cyJ cyP) (va_A [(a0, .inr (10, [.ref a0_tape, .ref a0_ground, .ref a0_spareGround, .ref a0_rule, z0_spareRule, .ref a0_lines, z0_spareLines, z0_steps, .ref a0_now, z0_trial, .ref a0_past, z0_images, z0_round, z0_seating, z0_fitting, .int v0_imagesKept, .int v0_refusedSteps, z0_callsNoSuch, .int v0_callsIllegal])), (a0_tape, .inr (8, [.ref a0_tape_bytes, .int v0_tape_length, .int v0_tape_at, .int v0_tape_token, .int v0_tape_filled, .int v0_tape_fault, .int v0_tape_faultPlace])), (a0_spareGround, .inr (2, [.ref a0_spareGround_formX, .ref a0_spareGround_formY, .ref a0_spareGround_foxX, .ref a0_spareGround_foxY, .ref a0_spareGround_seat, .ref a0_spareGround_strength, .ref a0_spareGround_debts, z0_spareGround_near, .int v0_spareGround_forms, .int v0_spareGround_hares, .int v0_spareGround_foxes, .int v0_spareGround_safe])), (a0_spareGround_debts, .inl (cyI, 36, .inl f0_spareGround_debts)), (a0_tape_bytes, .inl (cyB, 600, .inl f0_tape_bytes)), (a0_spareGround_formX, .inl (cyI, 8, .inl f0_spareGround_formX)), (a0_spareGround_foxX, .inl (cyI, 4, .inl f0_spareGround_foxX)), (a0_spareGround_formY, .inl (cyI, 8, .inl f0_spareGround_formY)), (a0_spareGround_foxY, .inl (cyI, 4, .inl f0_spareGround_foxY)), (a0_rule, .inr (4, [.ref a0_rule_kinds, .ref a0_rule_values, z0_rule_pile, z0_rule_facts, .int v0_rule_length])), (a0_rule_kinds, .inl (cyI, 150, .inl f0_rule_kinds)), (a0_rule_values, .inl (cyI, 150, .inl f0_rule_values)), (a0_lines, .inr (0, [.ref a0_lines_seen, .int v0_lines_many])), (a0_lines_seen, .inl (cyI, 8, .inl f0_lines_seen)), (a0_now, .inr (1, [.ref a0_now_row, z0_now_owedEach, r0_now_down, r0_now_law])), (a0_now_row, .inl (cyI, 64, .inl f0_now_row)), (a0_spareGround_seat, .inl (cyI, 6, .inl f0_spareGround_seat)), (a0_spareGround_strength, .inl (cyI, 6, .inl f0_spareGround_strength)), (a0_past, .inr (5, [z0_past_rows, .int v0_past_kept]))] sz) (fun u : Int32 × Int32 × Int32 × Int32 × Int32 × Int32 × Int32 × Int32 × Int32 × Int32 × (Nat → Int32) × Int32 × Value × Value × Int32 × (Nat → Int32) × (Nat → Int32) × Int32 × (Nat → Int32) × (Nat → Int32) × Value × Value × Int32 × Int32 × Int32 => ([(a0, .inr (10, [.ref a0_tape, u.2.2.2.2.2.2.2.2.2.2.2.2.1, u.2.2.2.2.2.2.2.2.2.2.2.2.2.1, .ref a0_rule, z0_spareRule, .ref a0_lines, z0_spareLines, z0_steps, .ref a0_now, z0_trial, .ref a0_past, z0_images, z0_round, z0_seating, z0_fitting, .int u.2.2.2.2.2.2.2.2.2.2.2.2.2.2.2.2.2.2.2.2.2.2.2.1, .int u.2.2.2.2.2.2.2.2.2.2.2.2.2.2.2.2.2.2.2.2.2.2.2.2, z0_callsNoSuch, .int u.1])), (a0_tape, .inr (8, [.ref a0_tape_bytes, .int u.2.1, .int u.2.2.1, .int u.2.2.2.1, .int u.2.2.2.2.1, .int u.2.2.2.2.2.1, .int u.2.2.2.2.2.2.1])), (a0_spareGround, .inr (2, [.ref a0_spareGround_formX, .ref a0_spareGround_formY, .ref a0_spareGround_foxX, .ref a0_spareGround_foxY, .ref a0_spareGround_seat, .ref a0_spareGround_strength, .ref a0_spareGround_debts, z0_spareGround_near, .int u.2.2.2.2.2.2.2.1, .int u.2.2.2.2.2.2.2.2.1, .int u.2.2.2.2.2.2.2.2.2.1, .int u.2.2.2.2.2.2.2.2.2.2.2.1])), (a0_spareGround_debts, .inl (cyI, 36, .inl u.2.2.2.2.2.2.2.2.2.2.1)), (a0_tape_bytes, .inl (cyB, 600, .inl f0_tape_bytes)), (a0_spareGround_formX, .inl (cyI, 8, .inl f0_spareGround_formX)), (a0_spareGround_foxX, .inl (cyI, 4, .inl f0_spareGround_foxX)), (a0_spareGround_formY, .inl (cyI, 8, .inl f0_spareGround_formY)), (a0_spareGround_foxY, .inl (cyI, 4, .inl f0_spareGround_foxY)), (a0_rule, .inr (4, [.ref a0_rule_kinds, .ref a0_rule_values, z0_rule_pile, z0_rule_facts, .int u.2.2.2.2.2.2.2.2.2.2.2.2.2.2.1])), (a0_rule_kinds, .inl (cyI, 150, .inl u.2.2.2.2.2.2.2.2.2.2.2.2.2.2.2.1)), (a0_rule_values, .inl (cyI, 150, .inl u.2.2.2.2.2.2.2.2.2.2.2.2.2.2.2.2.1)), (a0_lines, .inr (0, [.ref a0_lines_seen, .int u.2.2.2.2.2.2.2.2.2.2.2.2.2.2.2.2.2.1])), (a0_lines_seen, .inl (cyI, 8, .inl u.2.2.2.2.2.2.2.2.2.2.2.2.2.2.2.2.2.2.1)), (a0_now, .inr (1, [.ref a0_now_row, z0_now_owedEach, u.2.2.2.2.2.2.2.2.2.2.2.2.2.2.2.2.2.2.2.2.1, u.2.2.2.2.2.2.2.2.2.2.2.2.2.2.2.2.2.2.2.2.2.1])), (a0_now_row, .inl (cyI, 64, .inl u.2.2.2.2.2.2.2.2.2.2.2.2.2.2.2.2.2.2.2.1)), (a0_spareGround_seat, .inl (cyI, 6, .inl f0_spareGround_seat)), (a0_spareGround_strength, .inl (cyI, 6, .inl f0_spareGround_strength)), (a0_past, .inr (5, [z0_past_rows, .int u.2.2.2.2.2.2.2.2.2.2.2.2.2.2.2.2.2.2.2.2.2.2.1]))] : va_W)) u t) (va_A [(a0, .inr (10, [.ref a0_tape, .ref a0_ground, .ref a0_spareGround, .ref a0_rule, z0_spareRule, .ref a0_lines, z0_spareLines, z0_steps, .ref a0_now, z0_trial, .ref a0_past, z0_images, z0_round, z0_seating, z0_fitting, .int v0_imagesKept, .int v0_refusedSteps, z0_callsNoSuch, .int v0_callsIllegal])), (a0_tape, .inr (8, [.ref a0_tape_bytes, .int v0_tape_length, .int v0_tape_at, .int v0_tape_token, .int v0_tape_filled, .int v0_tape_fault, .int v0_tape_faultPlace])), (a0_spareGround, .inr (2, [.ref a0_spareGround_formX, .ref a0_spareGround_formY, .ref a0_spareGround_foxX, .ref a0_spareGround_foxY, .ref a0_spareGround_seat, .ref a0_spareGround_strength, .ref a0_spareGround_debts, z0_spareGround_near, .int v0_spareGround_forms, .int v0_spareGround_hares, .int v0_spareGround_foxes, .int v0_spareGround_safe])), (a0_spareGround_debts, .inl (cyI, 36, .inl f0_spareGround_debts)), (a0_tape_bytes, .inl (cyB, 600, .inl f0_tape_bytes)), (a0_spareGround_formX, .inl (cyI, 8, .inl f0_spareGround_formX)), (a0_spareGround_foxX, .inl (cyI, 4, .inl f0_spareGround_foxX)), (a0_spareGround_formY, .inl (cyI, 8, .inl f0_spareGround_formY)), (a0_spareGround_foxY, .inl (cyI, 4, .inl f0_spareGround_foxY)), (a0_rule, .inr (4, [.ref a0_rule_kinds, .ref a0_rule_values, z0_rule_pile, z0_rule_facts, .int v0_rule_length])), (a0_rule_kinds, .inl (cyI, 150, .inl f0_rule_kinds)), (a0_rule_values, .inl (cyI, 150, .inl f0_rule_values)), (a0_lines, .inr (0, [.ref a0_lines_seen, .int v0_lines_many])), (a0_lines_seen, .inl (cyI, 8, .inl f0_lines_seen)), (a0_now, .inr (1, [.ref a0_now_row, z0_now_owedEach, r0_now_down, r0_now_law])), (a0_now_row, .inl (cyI, 64, .inl f0_now_row)), (a0_spareGround_seat, .inl (cyI, 6, .inl f0_spareGround_seat)), (a0_spareGround_strength, .inl (cyI, 6, .inl f0_spareGround_strength)), (a0_past, .inr (5, [z0_past_rows, .int v0_past_kept]))] sz)) 1 6 (va_A [(a0, .inr (10, [.ref a0_tape, .ref a0_ground, .ref a0_spareGround, .ref a0_rule, z0_spareRule, .ref a0_lines, z0_spareLines, z0_steps, .ref a0_now, z0_trial, .ref a0_past, z0_images, z0_round, z0_seating, z0_fitting, .int v0_imagesKept, .int v0_refusedSteps, z0_callsNoSuch, .int v0_callsIllegal])), (a0_tape, .inr (8, [.ref a0_tape_bytes, .int v0_tape_length, .int v0_tape_at, .int v0_tape_token, .int v0_tape_filled, .int v0_tape_fault, .int v0_tape_faultPlace])), (a0_spareGround, .inr (2, [.ref a0_spareGround_formX, .ref a0_spareGround_formY, .ref a0_spareGround_foxX, .ref a0_spareGround_foxY, .ref a0_spareGround_seat, .ref a0_spareGround_strength, .ref a0_spareGround_debts, z0_spareGround_near, .int v0_spareGround_forms, .int v0_spareGround_hares, .int v0_spareGround_foxes, .int v0_spareGround_safe])), (a0_spareGround_debts, .inl (cyI, 36, .inl f0_spareGround_debts)), (a0_tape_bytes, .inl (cyB, 600, .inl f0_tape_bytes)), (a0_spareGround_formX, .inl (cyI, 8, .inl f0_spareGround_formX)), (a0_spareGround_foxX, .inl (cyI, 4, .inl f0_spareGround_foxX)), (a0_spareGround_formY, .inl (cyI, 8, .inl f0_spareGround_formY)), (a0_spareGround_foxY, .inl (cyI, 4, .inl f0_spareGround_foxY)), (a0_rule, .inr (4, [.ref a0_rule_kinds, .ref a0_rule_values, z0_rule_pile, z0_rule_facts, .int v0_rule_length])), (a0_rule_kinds, .inl (cyI, 150, .inl f0_rule_kinds)), (a0_rule_values, .inl (cyI, 150, .inl f0_rule_values)), (a0_lines, .inr (0, [.ref a0_lines_seen, .int v0_lines_many])), (a0_lines_seen, .inl (cyI, 8, .inl f0_lines_seen)), (a0_now, .inr (1, [.ref a0_now_row, z0_now_owedEach, r0_now_down, r0_now_law])), (a0_now_row, .inl (cyI, 64, .inl f0_now_row)), (a0_spareGround_seat, .inl (cyI, 6, .inl f0_spareGround_seat)), (a0_spareGround_strength, .inl (cyI, 6, .inl f0_spareGround_strength)), (a0_past, .inr (5, [z0_past_rows, .int v0_past_kept]))] sz) := by
  refine vx_ofW (cc := cX10_down) (maxL := 3) (ret := (some .int)) (by decide) rfl ?_
  intro p e s m args below meth c s₁ B hml hnt hv
  obtain ⟨rfl, hsz, hP, hK, hD0, hNw, hXl, hXu, hXn, hXt⟩ := hv
  have hx := B.exec
  have hb := B.bytes
  have hr := B.returns
  have hts := atoms_spec (ws := wsX10_down) B.pre
  have hown : s.vm.findClass RX10 = some m.cls := findClass_of_methodNamed B.named
  have hlocks := B.notSynchronized
  subst hsz
  have hD := hD0.self (sz := s.heap.size)
  generalize hAe : va_A [(a0, .inr (10, [.ref a0_tape, .ref a0_ground, .ref a0_spareGround, .ref a0_rule, z0_spareRule, .ref a0_lines, z0_spareLines, z0_steps, .ref a0_now, z0_trial, .ref a0_past, z0_images, z0_round, z0_seating, z0_fitting, .int v0_imagesKept, .int v0_refusedSteps, z0_callsNoSuch, .int v0_callsIllegal])), (a0_tape, .inr (8, [.ref a0_tape_bytes, .int v0_tape_length, .int v0_tape_at, .int v0_tape_token, .int v0_tape_filled, .int v0_tape_fault, .int v0_tape_faultPlace])), (a0_spareGround, .inr (2, [.ref a0_spareGround_formX, .ref a0_spareGround_formY, .ref a0_spareGround_foxX, .ref a0_spareGround_foxY, .ref a0_spareGround_seat, .ref a0_spareGround_strength, .ref a0_spareGround_debts, z0_spareGround_near, .int v0_spareGround_forms, .int v0_spareGround_hares, .int v0_spareGround_foxes, .int v0_spareGround_safe])), (a0_spareGround_debts, .inl (cyI, 36, .inl f0_spareGround_debts)), (a0_tape_bytes, .inl (cyB, 600, .inl f0_tape_bytes)), (a0_spareGround_formX, .inl (cyI, 8, .inl f0_spareGround_formX)), (a0_spareGround_foxX, .inl (cyI, 4, .inl f0_spareGround_foxX)), (a0_spareGround_formY, .inl (cyI, 8, .inl f0_spareGround_formY)), (a0_spareGround_foxY, .inl (cyI, 4, .inl f0_spareGround_foxY)), (a0_rule, .inr (4, [.ref a0_rule_kinds, .ref a0_rule_values, z0_rule_pile, z0_rule_facts, .int v0_rule_length])), (a0_rule_kinds, .inl (cyI, 150, .inl f0_rule_kinds)), (a0_rule_values, .inl (cyI, 150, .inl f0_rule_values)), (a0_lines, .inr (0, [.ref a0_lines_seen, .int v0_lines_many])), (a0_lines_seen, .inl (cyI, 8, .inl f0_lines_seen)), (a0_now, .inr (1, [.ref a0_now_row, z0_now_owedEach, r0_now_down, r0_now_law])), (a0_now_row, .inl (cyI, 64, .inl f0_now_row)), (a0_spareGround_seat, .inl (cyI, 6, .inl f0_spareGround_seat)), (a0_spareGround_strength, .inl (cyI, 6, .inl f0_spareGround_strength)), (a0_past, .inr (5, [z0_past_rows, .int v0_past_kept]))] s.heap.size = A at hD hXu hXn ⊢
  have hA : ∀ q : Nat, s.heap.size ≤ q → A q := fun q h => by rw [← hAe]; exact Or.inr h
  have hS : va_S A s.heap s.heap [] := va_S.rf
  have hP : va_P (dC, dI) vwCl [(a0, .inr (10, [.ref a0_tape, .ref a0_ground, .ref a0_spareGround, .ref a0_rule, z0_spareRule, .ref a0_lines, z0_spareLines, z0_steps, .ref a0_now, z0_trial, .ref a0_past, z0_images, z0_round, z0_seating, z0_fitting, .int v0_imagesKept, .int v0_refusedSteps, z0_callsNoSuch, .int v0_callsIllegal])), (a0_tape, .inr (8, [.ref a0_tape_bytes, .int v0_tape_length, .int v0_tape_at, .int v0_tape_token, .int v0_tape_filled, .int v0_tape_fault, .int v0_tape_faultPlace])), (a0_spareGround, .inr (2, [.ref a0_spareGround_formX, .ref a0_spareGround_formY, .ref a0_spareGround_foxX, .ref a0_spareGround_foxY, .ref a0_spareGround_seat, .ref a0_spareGround_strength, .ref a0_spareGround_debts, z0_spareGround_near, .int v0_spareGround_forms, .int v0_spareGround_hares, .int v0_spareGround_foxes, .int v0_spareGround_safe])), (a0_spareGround_debts, .inl (cyI, 36, .inl f0_spareGround_debts)), (a0_tape_bytes, .inl (cyB, 600, .inl f0_tape_bytes)), (a0_spareGround_formX, .inl (cyI, 8, .inl f0_spareGround_formX)), (a0_spareGround_foxX, .inl (cyI, 4, .inl f0_spareGround_foxX)), (a0_spareGround_formY, .inl (cyI, 8, .inl f0_spareGround_formY)), (a0_spareGround_foxY, .inl (cyI, 4, .inl f0_spareGround_foxY)), (a0_rule, .inr (4, [.ref a0_rule_kinds, .ref a0_rule_values, z0_rule_pile, z0_rule_facts, .int v0_rule_length])), (a0_rule_kinds, .inl (cyI, 150, .inl f0_rule_kinds)), (a0_rule_values, .inl (cyI, 150, .inl f0_rule_values)), (a0_lines, .inr (0, [.ref a0_lines_seen, .int v0_lines_many])), (a0_lines_seen, .inl (cyI, 8, .inl f0_lines_seen)), (a0_now, .inr (1, [.ref a0_now_row, z0_now_owedEach, r0_now_down, r0_now_law])), (a0_now_row, .inl (cyI, 64, .inl f0_now_row)), (a0_spareGround_seat, .inl (cyI, 6, .inl f0_spareGround_seat)), (a0_spareGround_strength, .inl (cyI, 6, .inl f0_spareGround_strength)), (a0_past, .inr (5, [z0_past_rows, .int v0_past_kept]))] s.heap := hP
  have hl := lv_entry ([.ref a0, .int p1]) (n := 3) (Nat.le_of_ble_eq_true rfl)
  rw [lg_entry_eq]
  generalize (lg_sl ([.ref a0, .int p1]) ++ List.replicate (3 - (lg_sl ([.ref a0, .int p1])).length) Slot.unset).toArray = ls at hl ⊢
  have hl : lv_has ls 3 [(0, .ref a0), (1, .int p1)] := hl
  have hY : cfY l s A := ⟨hXl, hXu, hXn, hXt⟩
  have hXs : cfX l s c A := ⟨hnt, hY⟩
  have C0 : cfx p s m _ meth c cX10_down (some .int) wsX10_down RX10 3 A (dC, dI) (kT cyB cyI cyJ cyP) ∧ cfX l s c A := ⟨⟨hx, hb, hr, hts, hown, hlocks, hml, hA, hK, hNw⟩, hXs⟩
  clear hAe
  obtain ⟨H, hH⟩ : ∃ H, H = s.heap := ⟨_, rfl⟩
  rw [← hH] at hP ⊢
  have hS : va_S A s.heap H [] := by rw [hH]; exact va_S.rf
  have hS := hS
  refine lv_aload_n hx hb dX10_down_0 rfl (lv_at hl 0 rfl) ?_
  refine lv_iload_n hx hb dX10_down_1 rfl (lv_at hl 1 rfl) ?_
  refine lv_sipush (v := 600) hx hb dX10_down_2 (by decide) ?_
  have hPc := hP.sub (ws' := [(a0, .inr (10, [.ref a0_tape, .ref a0_ground, .ref a0_spareGround, .ref a0_rule, z0_spareRule, .ref a0_lines, z0_spareLines, z0_steps, .ref a0_now, z0_trial, .ref a0_past, z0_images, z0_round, z0_seating, z0_fitting, .int v0_imagesKept, .int v0_refusedSteps, z0_callsNoSuch, .int v0_callsIllegal])), (a0_tape, .inr (8, [.ref a0_tape_bytes, .int v0_tape_length, .int v0_tape_at, .int v0_tape_token, .int v0_tape_filled, .int v0_tape_fault, .int v0_tape_faultPlace]))]) [0, 1] rfl
  have hDc := hD.sub (ws' := [(a0, .inr (10, [.ref a0_tape, .ref a0_ground, .ref a0_spareGround, .ref a0_rule, z0_spareRule, .ref a0_lines, z0_spareLines, z0_steps, .ref a0_now, z0_trial, .ref a0_past, z0_images, z0_round, z0_seating, z0_fitting, .int v0_imagesKept, .int v0_refusedSteps, z0_callsNoSuch, .int v0_callsIllegal])), (a0_tape, .inr (8, [.ref a0_tape_bytes, .int v0_tape_length, .int v0_tape_at, .int v0_tape_token, .int v0_tape_filled, .int v0_tape_fault, .int v0_tape_faultPlace]))]) [0, 1] (by decide) rfl
  have hFc := va_free (wc := [(a0, .inr (10, [.ref a0_tape, .ref a0_ground, .ref a0_spareGround, .ref a0_rule, z0_spareRule, .ref a0_lines, z0_spareLines, z0_steps, .ref a0_now, z0_trial, .ref a0_past, z0_images, z0_round, z0_seating, z0_fitting, .int v0_imagesKept, .int v0_refusedSteps, z0_callsNoSuch, .int v0_callsIllegal])), (a0_tape, .inr (8, [.ref a0_tape_bytes, .int v0_tape_length, .int v0_tape_at, .int v0_tape_token, .int v0_tape_filled, .int v0_tape_fault, .int v0_tape_faultPlace]))]) hD hS hA [0, 1] rfl
  refine vx_callv (vx_runV (As := [.int p1, .int 600]) (rest := []) ⟨hx, hb, hml, hown, hts⟩ (ck_X10_openText l dC dI cyB cyI cyJ cyP a0 a0_tape H.size (.ref a0_ground) (.ref a0_spareGround) (.ref a0_rule) (z0_spareRule) (.ref a0_lines) (z0_spareLines) (z0_steps) (.ref a0_now) (z0_trial) (.ref a0_past) (z0_images) (z0_round) (z0_seating) (z0_fitting) (.int v0_imagesKept) (.int v0_refusedSteps) (z0_callsNoSuch) (.ref a0_tape_bytes)  v0_callsIllegal v0_tape_length v0_tape_at v0_tape_token v0_tape_filled v0_tape_fault v0_tape_faultPlace p1 600 hw) (cwV 2 hts gX10_down_X10_openText rfl rfl rfl (by decide +kernel) ⟨Nat.le_of_ble_eq_true rfl, Nat.le_of_ble_eq_true rfl⟩) ⟨cPx_blind, va_recv hK hPc (ci := 10) (q0 := 0) rfl rfl, cPx_pre hPc hK hDc hNw hY hS hFc⟩ rfl rfl hl.1 rfl (lv_room (Nat.le_of_ble_eq_true rfl)) dX10_down_5 ⟨Nat.le_of_ble_eq_true rfl, Nat.le_of_ble_eq_true rfl⟩) hS (fun q _ h => hFc q h) hFc (fun q _ h => hFc q h) (fun en ce q9 u t H1 locs ht hvm hpx hB hz1 hk1 hS hc9 hv9 hcl9 => ?_) (fun u t H1 locs ht hvm hw hB hz1 hk1 hS => ?_)
  · obtain ⟨x1, x2, x3, x4, x5, x6, x7⟩ := u
    obtain ⟨hw, hP1, hK1, hD1⟩ := hB
    rw [ht] at hP1
    obtain ⟨hP, hD⟩ := va_join (wr := [(a0_spareGround, .inr (2, [.ref a0_spareGround_formX, .ref a0_spareGround_formY, .ref a0_spareGround_foxX, .ref a0_spareGround_foxY, .ref a0_spareGround_seat, .ref a0_spareGround_strength, .ref a0_spareGround_debts, z0_spareGround_near, .int v0_spareGround_forms, .int v0_spareGround_hares, .int v0_spareGround_foxes, .int v0_spareGround_safe])), (a0_spareGround_debts, .inl (cyI, 36, .inl f0_spareGround_debts)), (a0_tape_bytes, .inl (cyB, 600, .inl f0_tape_bytes)), (a0_spareGround_formX, .inl (cyI, 8, .inl f0_spareGround_formX)), (a0_spareGround_foxX, .inl (cyI, 4, .inl f0_spareGround_foxX)), (a0_spareGround_formY, .inl (cyI, 8, .inl f0_spareGround_formY)), (a0_spareGround_foxY, .inl (cyI, 4, .inl f0_spareGround_foxY)), (a0_rule, .inr (4, [.ref a0_rule_kinds, .ref a0_rule_values, z0_rule_pile, z0_rule_facts, .int v0_rule_length])), (a0_rule_kinds, .inl (cyI, 150, .inl f0_rule_kinds)), (a0_rule_values, .inl (cyI, 150, .inl f0_rule_values)), (a0_lines, .inr (0, [.ref a0_lines_seen, .int v0_lines_many])), (a0_lines_seen, .inl (cyI, 8, .inl f0_lines_seen)), (a0_now, .inr (1, [.ref a0_now_row, z0_now_owedEach, r0_now_down, r0_now_law])), (a0_now_row, .inl (cyI, 64, .inl f0_now_row)), (a0_spareGround_seat, .inl (cyI, 6, .inl f0_spareGround_seat)), (a0_spareGround_strength, .inl (cyI, 6, .inl f0_spareGround_strength)), (a0_past, .inr (5, [z0_past_rows, .int v0_past_kept]))]) (w1 := [(a0, .inr (10, [.ref a0_tape, .ref a0_ground, .ref a0_spareGround, .ref a0_rule, z0_spareRule, .ref a0_lines, z0_spareLines, z0_steps, .ref a0_now, z0_trial, .ref a0_past, z0_images, z0_round, z0_seating, z0_fitting, .int v0_imagesKept, .int v0_refusedSteps, z0_callsNoSuch, .int x1])), (a0_tape, .inr (8, [.ref a0_tape_bytes, .int x2, .int x3, .int x4, .int x5, .int x6, .int x7]))]) hP hD [0, 1] [2, 3, 4, 5, 6, 7, 8, 9, 10, 11, 12, 13, 14, 15, 16, 17, 18] rfl rfl (by decide) (by decide) hk1 hFc hP1 hD1
    have hP : va_P (dC, dI) vwCl [(a0, .inr (10, [.ref a0_tape, .ref a0_ground, .ref a0_spareGround, .ref a0_rule, z0_spareRule, .ref a0_lines, z0_spareLines, z0_steps, .ref a0_now, z0_trial, .ref a0_past, z0_images, z0_round, z0_seating, z0_fitting, .int v0_imagesKept, .int v0_refusedSteps, z0_callsNoSuch, .int x1])), (a0_tape, .inr (8, [.ref a0_tape_bytes, .int x2, .int x3, .int x4, .int x5, .int x6, .int x7])), (a0_spareGround, .inr (2, [.ref a0_spareGround_formX, .ref a0_spareGround_formY, .ref a0_spareGround_foxX, .ref a0_spareGround_foxY, .ref a0_spareGround_seat, .ref a0_spareGround_strength, .ref a0_spareGround_debts, z0_spareGround_near, .int v0_spareGround_forms, .int v0_spareGround_hares, .int v0_spareGround_foxes, .int v0_spareGround_safe])), (a0_spareGround_debts, .inl (cyI, 36, .inl f0_spareGround_debts)), (a0_tape_bytes, .inl (cyB, 600, .inl f0_tape_bytes)), (a0_spareGround_formX, .inl (cyI, 8, .inl f0_spareGround_formX)), (a0_spareGround_foxX, .inl (cyI, 4, .inl f0_spareGround_foxX)), (a0_spareGround_formY, .inl (cyI, 8, .inl f0_spareGround_formY)), (a0_spareGround_foxY, .inl (cyI, 4, .inl f0_spareGround_foxY)), (a0_rule, .inr (4, [.ref a0_rule_kinds, .ref a0_rule_values, z0_rule_pile, z0_rule_facts, .int v0_rule_length])), (a0_rule_kinds, .inl (cyI, 150, .inl f0_rule_kinds)), (a0_rule_values, .inl (cyI, 150, .inl f0_rule_values)), (a0_lines, .inr (0, [.ref a0_lines_seen, .int v0_lines_many])), (a0_lines_seen, .inl (cyI, 8, .inl f0_lines_seen)), (a0_now, .inr (1, [.ref a0_now_row, z0_now_owedEach, r0_now_down, r0_now_law])), (a0_now_row, .inl (cyI, 64, .inl f0_now_row)), (a0_spareGround_seat, .inl (cyI, 6, .inl f0_spareGround_seat)), (a0_spareGround_strength, .inl (cyI, 6, .inl f0_spareGround_strength)), (a0_past, .inr (5, [z0_past_rows, .int v0_past_kept]))] H1 := hP.sub [17, 18, 0, 1, 2, 3, 4, 5, 6, 7, 8, 9, 10, 11, 12, 13, 14, 15, 16] rfl
    have hD : va_D A [(a0, .inr (10, [.ref a0_tape, .ref a0_ground, .ref a0_spareGround, .ref a0_rule, z0_spareRule, .ref a0_lines, z0_spareLines, z0_steps, .ref a0_now, z0_trial, .ref a0_past, z0_images, z0_round, z0_seating, z0_fitting, .int v0_imagesKept, .int v0_refusedSteps, z0_callsNoSuch, .int x1])), (a0_tape, .inr (8, [.ref a0_tape_bytes, .int x2, .int x3, .int x4, .int x5, .int x6, .int x7])), (a0_spareGround, .inr (2, [.ref a0_spareGround_formX, .ref a0_spareGround_formY, .ref a0_spareGround_foxX, .ref a0_spareGround_foxY, .ref a0_spareGround_seat, .ref a0_spareGround_strength, .ref a0_spareGround_debts, z0_spareGround_near, .int v0_spareGround_forms, .int v0_spareGround_hares, .int v0_spareGround_foxes, .int v0_spareGround_safe])), (a0_spareGround_debts, .inl (cyI, 36, .inl f0_spareGround_debts)), (a0_tape_bytes, .inl (cyB, 600, .inl f0_tape_bytes)), (a0_spareGround_formX, .inl (cyI, 8, .inl f0_spareGround_formX)), (a0_spareGround_foxX, .inl (cyI, 4, .inl f0_spareGround_foxX)), (a0_spareGround_formY, .inl (cyI, 8, .inl f0_spareGround_formY)), (a0_spareGround_foxY, .inl (cyI, 4, .inl f0_spareGround_foxY)), (a0_rule, .inr (4, [.ref a0_rule_kinds, .ref a0_rule_values, z0_rule_pile, z0_rule_facts, .int v0_rule_length])), (a0_rule_kinds, .inl (cyI, 150, .inl f0_rule_kinds)), (a0_rule_values, .inl (cyI, 150, .inl f0_rule_values)), (a0_lines, .inr (0, [.ref a0_lines_seen, .int v0_lines_many])), (a0_lines_seen, .inl (cyI, 8, .inl f0_lines_seen)), (a0_now, .inr (1, [.ref a0_now_row, z0_now_owedEach, r0_now_down, r0_now_law])), (a0_now_row, .inl (cyI, 64, .inl f0_now_row)), (a0_spareGround_seat, .inl (cyI, 6, .inl f0_spareGround_seat)), (a0_spareGround_strength, .inl (cyI, 6, .inl f0_spareGround_strength)), (a0_past, .inr (5, [z0_past_rows, .int v0_past_kept]))] := hD.sub [17, 18, 0, 1, 2, 3, 4, 5, 6, 7, 8, 9, 10, 11, 12, 13, 14, 15, 16] (by decide) rfl
    generalize H1 = H at hP hS hc9 ⊢
    exact vx_out (fun x hx9 => (hXs.1 x hx9).elim) hlocks hc9 hv9 hcl9 (fun t2 ht2 hal2 => ⟨(x1, x2, x3, x4, x5, x6, x7, v0_spareGround_forms, v0_spareGround_hares, v0_spareGround_foxes, f0_spareGround_debts, v0_spareGround_safe, (.ref a0_ground), (.ref a0_spareGround), v0_rule_length, f0_rule_kinds, f0_rule_values, v0_lines_many, f0_lines_seen, f0_now_row, r0_now_down, r0_now_law, v0_past_kept, v0_imagesKept, v0_refusedSteps), trivial, ⟨hw, by rw [ht2]; exact hP, va_K.moved hal2 hK, hD⟩, hS.F ht2⟩) hS.2.2 (Nat.le_of_ble_eq_true rfl) (Nat.le_of_ble_eq_true rfl)
  obtain ⟨x1, x2, x3, x4, x5, x6, x7⟩ := u
  obtain ⟨hP1, hK1, hD1⟩ := hB
  rw [ht] at hP1
  obtain ⟨hP, hD⟩ := va_join (wr := [(a0_spareGround, .inr (2, [.ref a0_spareGround_formX, .ref a0_spareGround_formY, .ref a0_spareGround_foxX, .ref a0_spareGround_foxY, .ref a0_spareGround_seat, .ref a0_spareGround_strength, .ref a0_spareGround_debts, z0_spareGround_near, .int v0_spareGround_forms, .int v0_spareGround_hares, .int v0_spareGround_foxes, .int v0_spareGround_safe])), (a0_spareGround_debts, .inl (cyI, 36, .inl f0_spareGround_debts)), (a0_tape_bytes, .inl (cyB, 600, .inl f0_tape_bytes)), (a0_spareGround_formX, .inl (cyI, 8, .inl f0_spareGround_formX)), (a0_spareGround_foxX, .inl (cyI, 4, .inl f0_spareGround_foxX)), (a0_spareGround_formY, .inl (cyI, 8, .inl f0_spareGround_formY)), (a0_spareGround_foxY, .inl (cyI, 4, .inl f0_spareGround_foxY)), (a0_rule, .inr (4, [.ref a0_rule_kinds, .ref a0_rule_values, z0_rule_pile, z0_rule_facts, .int v0_rule_length])), (a0_rule_kinds, .inl (cyI, 150, .inl f0_rule_kinds)), (a0_rule_values, .inl (cyI, 150, .inl f0_rule_values)), (a0_lines, .inr (0, [.ref a0_lines_seen, .int v0_lines_many])), (a0_lines_seen, .inl (cyI, 8, .inl f0_lines_seen)), (a0_now, .inr (1, [.ref a0_now_row, z0_now_owedEach, r0_now_down, r0_now_law])), (a0_now_row, .inl (cyI, 64, .inl f0_now_row)), (a0_spareGround_seat, .inl (cyI, 6, .inl f0_spareGround_seat)), (a0_spareGround_strength, .inl (cyI, 6, .inl f0_spareGround_strength)), (a0_past, .inr (5, [z0_past_rows, .int v0_past_kept]))]) (w1 := [(a0, .inr (10, [.ref a0_tape, .ref a0_ground, .ref a0_spareGround, .ref a0_rule, z0_spareRule, .ref a0_lines, z0_spareLines, z0_steps, .ref a0_now, z0_trial, .ref a0_past, z0_images, z0_round, z0_seating, z0_fitting, .int v0_imagesKept, .int v0_refusedSteps, z0_callsNoSuch, .int x1])), (a0_tape, .inr (8, [.ref a0_tape_bytes, .int x2, .int x3, .int x4, .int x5, .int x6, .int x7]))]) hP hD [0, 1] [2, 3, 4, 5, 6, 7, 8, 9, 10, 11, 12, 13, 14, 15, 16, 17, 18] rfl rfl (by decide) (by decide) hk1 hFc hP1 hD1
  have hP : va_P (dC, dI) vwCl [(a0, .inr (10, [.ref a0_tape, .ref a0_ground, .ref a0_spareGround, .ref a0_rule, z0_spareRule, .ref a0_lines, z0_spareLines, z0_steps, .ref a0_now, z0_trial, .ref a0_past, z0_images, z0_round, z0_seating, z0_fitting, .int v0_imagesKept, .int v0_refusedSteps, z0_callsNoSuch, .int x1])), (a0_tape, .inr (8, [.ref a0_tape_bytes, .int x2, .int x3, .int x4, .int x5, .int x6, .int x7])), (a0_spareGround, .inr (2, [.ref a0_spareGround_formX, .ref a0_spareGround_formY, .ref a0_spareGround_foxX, .ref a0_spareGround_foxY, .ref a0_spareGround_seat, .ref a0_spareGround_strength, .ref a0_spareGround_debts, z0_spareGround_near, .int v0_spareGround_forms, .int v0_spareGround_hares, .int v0_spareGround_foxes, .int v0_spareGround_safe])), (a0_spareGround_debts, .inl (cyI, 36, .inl f0_spareGround_debts)), (a0_tape_bytes, .inl (cyB, 600, .inl f0_tape_bytes)), (a0_spareGround_formX, .inl (cyI, 8, .inl f0_spareGround_formX)), (a0_spareGround_foxX, .inl (cyI, 4, .inl f0_spareGround_foxX)), (a0_spareGround_formY, .inl (cyI, 8, .inl f0_spareGround_formY)), (a0_spareGround_foxY, .inl (cyI, 4, .inl f0_spareGround_foxY)), (a0_rule, .inr (4, [.ref a0_rule_kinds, .ref a0_rule_values, z0_rule_pile, z0_rule_facts, .int v0_rule_length])), (a0_rule_kinds, .inl (cyI, 150, .inl f0_rule_kinds)), (a0_rule_values, .inl (cyI, 150, .inl f0_rule_values)), (a0_lines, .inr (0, [.ref a0_lines_seen, .int v0_lines_many])), (a0_lines_seen, .inl (cyI, 8, .inl f0_lines_seen)), (a0_now, .inr (1, [.ref a0_now_row, z0_now_owedEach, r0_now_down, r0_now_law])), (a0_now_row, .inl (cyI, 64, .inl f0_now_row)), (a0_spareGround_seat, .inl (cyI, 6, .inl f0_spareGround_seat)), (a0_spareGround_strength, .inl (cyI, 6, .inl f0_spareGround_strength)), (a0_past, .inr (5, [z0_past_rows, .int v0_past_kept]))] H1 := hP.sub [17, 18, 0, 1, 2, 3, 4, 5, 6, 7, 8, 9, 10, 11, 12, 13, 14, 15, 16] rfl
  have hD : va_D A [(a0, .inr (10, [.ref a0_tape, .ref a0_ground, .ref a0_spareGround, .ref a0_rule, z0_spareRule, .ref a0_lines, z0_spareLines, z0_steps, .ref a0_now, z0_trial, .ref a0_past, z0_images, z0_round, z0_seating, z0_fitting, .int v0_imagesKept, .int v0_refusedSteps, z0_callsNoSuch, .int x1])), (a0_tape, .inr (8, [.ref a0_tape_bytes, .int x2, .int x3, .int x4, .int x5, .int x6, .int x7])), (a0_spareGround, .inr (2, [.ref a0_spareGround_formX, .ref a0_spareGround_formY, .ref a0_spareGround_foxX, .ref a0_spareGround_foxY, .ref a0_spareGround_seat, .ref a0_spareGround_strength, .ref a0_spareGround_debts, z0_spareGround_near, .int v0_spareGround_forms, .int v0_spareGround_hares, .int v0_spareGround_foxes, .int v0_spareGround_safe])), (a0_spareGround_debts, .inl (cyI, 36, .inl f0_spareGround_debts)), (a0_tape_bytes, .inl (cyB, 600, .inl f0_tape_bytes)), (a0_spareGround_formX, .inl (cyI, 8, .inl f0_spareGround_formX)), (a0_spareGround_foxX, .inl (cyI, 4, .inl f0_spareGround_foxX)), (a0_spareGround_formY, .inl (cyI, 8, .inl f0_spareGround_formY)), (a0_spareGround_foxY, .inl (cyI, 4, .inl f0_spareGround_foxY)), (a0_rule, .inr (4, [.ref a0_rule_kinds, .ref a0_rule_values, z0_rule_pile, z0_rule_facts, .int v0_rule_length])), (a0_rule_kinds, .inl (cyI, 150, .inl f0_rule_kinds)), (a0_rule_values, .inl (cyI, 150, .inl f0_rule_values)), (a0_lines, .inr (0, [.ref a0_lines_seen, .int v0_lines_many])), (a0_lines_seen, .inl (cyI, 8, .inl f0_lines_seen)), (a0_now, .inr (1, [.ref a0_now_row, z0_now_owedEach, r0_now_down, r0_now_law])), (a0_now_row, .inl (cyI, 64, .inl f0_now_row)), (a0_spareGround_seat, .inl (cyI, 6, .inl f0_spareGround_seat)), (a0_spareGround_strength, .inl (cyI, 6, .inl f0_spareGround_strength)), (a0_past, .inr (5, [z0_past_rows, .int v0_past_kept]))] := hD.sub [17, 18, 0, 1, 2, 3, 4, 5, 6, 7, 8, 9, 10, 11, 12, 13, 14, 15, 16] (by decide) rfl
  generalize H1 = H at hP hS ⊢
  refine lv_aload_n hx hb dX10_down_8 rfl (lv_at hl 0 rfl) ?_
  refine va_get (D := (dC, dI)) (ci := 10) (v := .ref a0_spareGround) (C := RX10) (T := TX10) (N := 19) hx hb hts ui_X10_down_X10 hown hK hP 0 rfl rfl 2 (by decide) (hts _ uw_X10_down_f23) (fun _ h9 => h9) rfl dX10_down_9 ?_
  refine lv_aload_n hx hb dX10_down_12 rfl (lv_at hl 0 rfl) ?_
  refine va_get (D := (dC, dI)) (ci := 10) (v := .ref a0_tape) (C := RX10) (T := TX10) (N := 19) hx hb hts ui_X10_down_X10 hown hK hP 0 rfl rfl 0 (by decide) (hts _ uw_X10_down_f10) (fun _ h9 => h9) rfl dX10_down_13 ?_
  have hPc := hP.sub (ws' := [(a0_spareGround, .inr (2, [.ref a0_spareGround_formX, .ref a0_spareGround_formY, .ref a0_spareGround_foxX, .ref a0_spareGround_foxY, .ref a0_spareGround_seat, .ref a0_spareGround_strength, .ref a0_spareGround_debts, z0_spareGround_near, .int v0_spareGround_forms, .int v0_spareGround_hares, .int v0_spareGround_foxes, .int v0_spareGround_safe])), (a0_spareGround_debts, .inl (cyI, 36, .inl f0_spareGround_debts)), (a0_tape, .inr (8, [.ref a0_tape_bytes, .int x2, .int x3, .int x4, .int x5, .int x6, .int x7])), (a0_tape_bytes, .inl (cyB, 600, .inl f0_tape_bytes)), (a0_spareGround_formX, .inl (cyI, 8, .inl f0_spareGround_formX)), (a0_spareGround_foxX, .inl (cyI, 4, .inl f0_spareGround_foxX)), (a0_spareGround_formY, .inl (cyI, 8, .inl f0_spareGround_formY)), (a0_spareGround_foxY, .inl (cyI, 4, .inl f0_spareGround_foxY))]) [2, 3, 1, 4, 5, 6, 7, 8] rfl
  have hDc := hD.sub (ws' := [(a0_spareGround, .inr (2, [.ref a0_spareGround_formX, .ref a0_spareGround_formY, .ref a0_spareGround_foxX, .ref a0_spareGround_foxY, .ref a0_spareGround_seat, .ref a0_spareGround_strength, .ref a0_spareGround_debts, z0_spareGround_near, .int v0_spareGround_forms, .int v0_spareGround_hares, .int v0_spareGround_foxes, .int v0_spareGround_safe])), (a0_spareGround_debts, .inl (cyI, 36, .inl f0_spareGround_debts)), (a0_tape, .inr (8, [.ref a0_tape_bytes, .int x2, .int x3, .int x4, .int x5, .int x6, .int x7])), (a0_tape_bytes, .inl (cyB, 600, .inl f0_tape_bytes)), (a0_spareGround_formX, .inl (cyI, 8, .inl f0_spareGround_formX)), (a0_spareGround_foxX, .inl (cyI, 4, .inl f0_spareGround_foxX)), (a0_spareGround_formY, .inl (cyI, 8, .inl f0_spareGround_formY)), (a0_spareGround_foxY, .inl (cyI, 4, .inl f0_spareGround_foxY))]) [2, 3, 1, 4, 5, 6, 7, 8] (by decide) rfl
  have hFc := va_free (wc := [(a0_spareGround, .inr (2, [.ref a0_spareGround_formX, .ref a0_spareGround_formY, .ref a0_spareGround_foxX, .ref a0_spareGround_foxY, .ref a0_spareGround_seat, .ref a0_spareGround_strength, .ref a0_spareGround_debts, z0_spareGround_near, .int v0_spareGround_forms, .int v0_spareGround_hares, .int v0_spareGround_foxes, .int v0_spareGround_safe])), (a0_spareGround_debts, .inl (cyI, 36, .inl f0_spareGround_debts)), (a0_tape, .inr (8, [.ref a0_tape_bytes, .int x2, .int x3, .int x4, .int x5, .int x6, .int x7])), (a0_tape_bytes, .inl (cyB, 600, .inl f0_tape_bytes)), (a0_spareGround_formX, .inl (cyI, 8, .inl f0_spareGround_formX)), (a0_spareGround_foxX, .inl (cyI, 4, .inl f0_spareGround_foxX)), (a0_spareGround_formY, .inl (cyI, 8, .inl f0_spareGround_formY)), (a0_spareGround_foxY, .inl (cyI, 4, .inl f0_spareGround_foxY))]) hD hS hA [2, 3, 1, 4, 5, 6, 7, 8] rfl
  refine va_callv (va_runV (As := [.ref a0_tape]) (rest := []) ⟨hx, hb, hml, hown, hts⟩ (ck_X2_readFrom l dC dI cyB cyI cyJ cyP a0_spareGround a0_tape a0_spareGround_debts a0_tape_bytes a0_spareGround_formX a0_spareGround_foxX a0_spareGround_formY a0_spareGround_foxY H.size (.ref a0_spareGround_seat) (.ref a0_spareGround_strength) (z0_spareGround_near) (.int x4) (.int x5) (.int x7) x2 x6 f0_tape_bytes f0_spareGround_formX f0_spareGround_foxX f0_spareGround_formY f0_spareGround_foxY v0_spareGround_forms v0_spareGround_hares v0_spareGround_foxes f0_spareGround_debts x3 v0_spareGround_safe  hw) (cwV 1 hts gX10_down_X2_readFrom rfl rfl rfl (by decide +kernel) ⟨Nat.le_of_ble_eq_true rfl, Nat.le_of_ble_eq_true rfl⟩) ⟨cPc_blind, va_recv hK hPc (ci := 2) (q0 := 0) rfl rfl, cPc_pre hPc hK hDc hNw⟩ rfl rfl hl.1 rfl (lv_room (Nat.le_of_ble_eq_true rfl)) dX10_down_16 ⟨Nat.le_of_ble_eq_true rfl, Nat.le_of_ble_eq_true rfl⟩) hS (fun q _ h => hFc q h) hFc (fun u t H1 locs ht hvm hw hB hz1 hk1 hS => ?_)
  obtain ⟨x8, x9, x10, f11, x12, x13⟩ := u
  obtain ⟨hP1, hK1, hD1⟩ := hB
  rw [ht] at hP1
  obtain ⟨hP, hD⟩ := va_join (wr := [(a0, .inr (10, [.ref a0_tape, .ref a0_ground, .ref a0_spareGround, .ref a0_rule, z0_spareRule, .ref a0_lines, z0_spareLines, z0_steps, .ref a0_now, z0_trial, .ref a0_past, z0_images, z0_round, z0_seating, z0_fitting, .int v0_imagesKept, .int v0_refusedSteps, z0_callsNoSuch, .int x1])), (a0_rule, .inr (4, [.ref a0_rule_kinds, .ref a0_rule_values, z0_rule_pile, z0_rule_facts, .int v0_rule_length])), (a0_rule_kinds, .inl (cyI, 150, .inl f0_rule_kinds)), (a0_rule_values, .inl (cyI, 150, .inl f0_rule_values)), (a0_lines, .inr (0, [.ref a0_lines_seen, .int v0_lines_many])), (a0_lines_seen, .inl (cyI, 8, .inl f0_lines_seen)), (a0_now, .inr (1, [.ref a0_now_row, z0_now_owedEach, r0_now_down, r0_now_law])), (a0_now_row, .inl (cyI, 64, .inl f0_now_row)), (a0_spareGround_seat, .inl (cyI, 6, .inl f0_spareGround_seat)), (a0_spareGround_strength, .inl (cyI, 6, .inl f0_spareGround_strength)), (a0_past, .inr (5, [z0_past_rows, .int v0_past_kept]))]) (w1 := [(a0_spareGround, .inr (2, [.ref a0_spareGround_formX, .ref a0_spareGround_formY, .ref a0_spareGround_foxX, .ref a0_spareGround_foxY, .ref a0_spareGround_seat, .ref a0_spareGround_strength, .ref a0_spareGround_debts, z0_spareGround_near, .int x8, .int x9, .int x10, .int x13])), (a0_spareGround_debts, .inl (cyI, 36, .inl f11)), (a0_tape, .inr (8, [.ref a0_tape_bytes, .int x2, .int x12, .int x4, .int x5, .int x6, .int x7])), (a0_tape_bytes, .inl (cyB, 600, .inl f0_tape_bytes)), (a0_spareGround_formX, .inl (cyI, 8, .inl f0_spareGround_formX)), (a0_spareGround_foxX, .inl (cyI, 4, .inl f0_spareGround_foxX)), (a0_spareGround_formY, .inl (cyI, 8, .inl f0_spareGround_formY)), (a0_spareGround_foxY, .inl (cyI, 4, .inl f0_spareGround_foxY))]) hP hD [2, 3, 1, 4, 5, 6, 7, 8] [0, 9, 10, 11, 12, 13, 14, 15, 16, 17, 18] rfl rfl (by decide) (by decide) hk1 hFc hP1 hD1
  have hP : va_P (dC, dI) vwCl [(a0, .inr (10, [.ref a0_tape, .ref a0_ground, .ref a0_spareGround, .ref a0_rule, z0_spareRule, .ref a0_lines, z0_spareLines, z0_steps, .ref a0_now, z0_trial, .ref a0_past, z0_images, z0_round, z0_seating, z0_fitting, .int v0_imagesKept, .int v0_refusedSteps, z0_callsNoSuch, .int x1])), (a0_tape, .inr (8, [.ref a0_tape_bytes, .int x2, .int x12, .int x4, .int x5, .int x6, .int x7])), (a0_spareGround, .inr (2, [.ref a0_spareGround_formX, .ref a0_spareGround_formY, .ref a0_spareGround_foxX, .ref a0_spareGround_foxY, .ref a0_spareGround_seat, .ref a0_spareGround_strength, .ref a0_spareGround_debts, z0_spareGround_near, .int x8, .int x9, .int x10, .int x13])), (a0_spareGround_debts, .inl (cyI, 36, .inl f11)), (a0_tape_bytes, .inl (cyB, 600, .inl f0_tape_bytes)), (a0_spareGround_formX, .inl (cyI, 8, .inl f0_spareGround_formX)), (a0_spareGround_foxX, .inl (cyI, 4, .inl f0_spareGround_foxX)), (a0_spareGround_formY, .inl (cyI, 8, .inl f0_spareGround_formY)), (a0_spareGround_foxY, .inl (cyI, 4, .inl f0_spareGround_foxY)), (a0_rule, .inr (4, [.ref a0_rule_kinds, .ref a0_rule_values, z0_rule_pile, z0_rule_facts, .int v0_rule_length])), (a0_rule_kinds, .inl (cyI, 150, .inl f0_rule_kinds)), (a0_rule_values, .inl (cyI, 150, .inl f0_rule_values)), (a0_lines, .inr (0, [.ref a0_lines_seen, .int v0_lines_many])), (a0_lines_seen, .inl (cyI, 8, .inl f0_lines_seen)), (a0_now, .inr (1, [.ref a0_now_row, z0_now_owedEach, r0_now_down, r0_now_law])), (a0_now_row, .inl (cyI, 64, .inl f0_now_row)), (a0_spareGround_seat, .inl (cyI, 6, .inl f0_spareGround_seat)), (a0_spareGround_strength, .inl (cyI, 6, .inl f0_spareGround_strength)), (a0_past, .inr (5, [z0_past_rows, .int v0_past_kept]))] H1 := hP.sub [0, 13, 11, 12, 14, 15, 16, 17, 18, 1, 2, 3, 4, 5, 6, 7, 8, 9, 10] rfl
  have hD : va_D A [(a0, .inr (10, [.ref a0_tape, .ref a0_ground, .ref a0_spareGround, .ref a0_rule, z0_spareRule, .ref a0_lines, z0_spareLines, z0_steps, .ref a0_now, z0_trial, .ref a0_past, z0_images, z0_round, z0_seating, z0_fitting, .int v0_imagesKept, .int v0_refusedSteps, z0_callsNoSuch, .int x1])), (a0_tape, .inr (8, [.ref a0_tape_bytes, .int x2, .int x12, .int x4, .int x5, .int x6, .int x7])), (a0_spareGround, .inr (2, [.ref a0_spareGround_formX, .ref a0_spareGround_formY, .ref a0_spareGround_foxX, .ref a0_spareGround_foxY, .ref a0_spareGround_seat, .ref a0_spareGround_strength, .ref a0_spareGround_debts, z0_spareGround_near, .int x8, .int x9, .int x10, .int x13])), (a0_spareGround_debts, .inl (cyI, 36, .inl f11)), (a0_tape_bytes, .inl (cyB, 600, .inl f0_tape_bytes)), (a0_spareGround_formX, .inl (cyI, 8, .inl f0_spareGround_formX)), (a0_spareGround_foxX, .inl (cyI, 4, .inl f0_spareGround_foxX)), (a0_spareGround_formY, .inl (cyI, 8, .inl f0_spareGround_formY)), (a0_spareGround_foxY, .inl (cyI, 4, .inl f0_spareGround_foxY)), (a0_rule, .inr (4, [.ref a0_rule_kinds, .ref a0_rule_values, z0_rule_pile, z0_rule_facts, .int v0_rule_length])), (a0_rule_kinds, .inl (cyI, 150, .inl f0_rule_kinds)), (a0_rule_values, .inl (cyI, 150, .inl f0_rule_values)), (a0_lines, .inr (0, [.ref a0_lines_seen, .int v0_lines_many])), (a0_lines_seen, .inl (cyI, 8, .inl f0_lines_seen)), (a0_now, .inr (1, [.ref a0_now_row, z0_now_owedEach, r0_now_down, r0_now_law])), (a0_now_row, .inl (cyI, 64, .inl f0_now_row)), (a0_spareGround_seat, .inl (cyI, 6, .inl f0_spareGround_seat)), (a0_spareGround_strength, .inl (cyI, 6, .inl f0_spareGround_strength)), (a0_past, .inr (5, [z0_past_rows, .int v0_past_kept]))] := hD.sub [0, 13, 11, 12, 14, 15, 16, 17, 18, 1, 2, 3, 4, 5, 6, 7, 8, 9, 10] (by decide) rfl
  generalize H1 = H at hP hS ⊢
  refine lv_aload_n hx hb dX10_down_19 rfl (lv_at hl 0 rfl) ?_
  refine va_get (D := (dC, dI)) (ci := 10) (v := .ref a0_tape) (C := RX10) (T := TX10) (N := 19) hx hb hts ui_X10_down_X10 hown hK hP 0 rfl rfl 0 (by decide) (hts _ uw_X10_down_f10) (fun _ h9 => h9) rfl dX10_down_20 ?_
  have hPc := hP.sub (ws' := [(a0_tape, .inr (8, [.ref a0_tape_bytes, .int x2, .int x12, .int x4, .int x5, .int x6, .int x7]))]) [1] rfl
  have hDc := hD.sub (ws' := [(a0_tape, .inr (8, [.ref a0_tape_bytes, .int x2, .int x12, .int x4, .int x5, .int x6, .int x7]))]) [1] (by decide) rfl
  have hFc := va_free (wc := [(a0_tape, .inr (8, [.ref a0_tape_bytes, .int x2, .int x12, .int x4, .int x5, .int x6, .int x7]))]) hD hS hA [1] rfl
  refine va_calli (va_runV (As := []) (rest := []) ⟨hx, hb, hml, hown, hts⟩ (ck_X8_isFaulty l dC dI cyB cyI cyJ cyP a0_tape H.size (.ref a0_tape_bytes) (.int x2) (.int x12) (.int x4) (.int x5) (.int x7) x6   hw) (cwV 0 hts gX10_down_X8_isFaulty rfl rfl rfl (by decide +kernel) ⟨Nat.le_of_ble_eq_true rfl, Nat.le_of_ble_eq_true rfl⟩) ⟨cPc_blind, va_recv hK hPc (ci := 8) (q0 := 0) rfl rfl, cPc_pre hPc hK hDc hNw⟩ rfl rfl hl.1 rfl (lv_room (Nat.le_of_ble_eq_true rfl)) dX10_down_23 ⟨Nat.le_of_ble_eq_true rfl, Nat.le_of_ble_eq_true rfl⟩) hS (fun q _ h => hFc q h) hFc (fun r14 u t H1 locs ht hvm hw hB hz1 hk1 hS => ?_)
  obtain ⟨hP1, hK1, hD1⟩ := hB
  rw [ht] at hP1
  obtain ⟨hP, hD⟩ := va_join (wr := [(a0, .inr (10, [.ref a0_tape, .ref a0_ground, .ref a0_spareGround, .ref a0_rule, z0_spareRule, .ref a0_lines, z0_spareLines, z0_steps, .ref a0_now, z0_trial, .ref a0_past, z0_images, z0_round, z0_seating, z0_fitting, .int v0_imagesKept, .int v0_refusedSteps, z0_callsNoSuch, .int x1])), (a0_spareGround, .inr (2, [.ref a0_spareGround_formX, .ref a0_spareGround_formY, .ref a0_spareGround_foxX, .ref a0_spareGround_foxY, .ref a0_spareGround_seat, .ref a0_spareGround_strength, .ref a0_spareGround_debts, z0_spareGround_near, .int x8, .int x9, .int x10, .int x13])), (a0_spareGround_debts, .inl (cyI, 36, .inl f11)), (a0_tape_bytes, .inl (cyB, 600, .inl f0_tape_bytes)), (a0_spareGround_formX, .inl (cyI, 8, .inl f0_spareGround_formX)), (a0_spareGround_foxX, .inl (cyI, 4, .inl f0_spareGround_foxX)), (a0_spareGround_formY, .inl (cyI, 8, .inl f0_spareGround_formY)), (a0_spareGround_foxY, .inl (cyI, 4, .inl f0_spareGround_foxY)), (a0_rule, .inr (4, [.ref a0_rule_kinds, .ref a0_rule_values, z0_rule_pile, z0_rule_facts, .int v0_rule_length])), (a0_rule_kinds, .inl (cyI, 150, .inl f0_rule_kinds)), (a0_rule_values, .inl (cyI, 150, .inl f0_rule_values)), (a0_lines, .inr (0, [.ref a0_lines_seen, .int v0_lines_many])), (a0_lines_seen, .inl (cyI, 8, .inl f0_lines_seen)), (a0_now, .inr (1, [.ref a0_now_row, z0_now_owedEach, r0_now_down, r0_now_law])), (a0_now_row, .inl (cyI, 64, .inl f0_now_row)), (a0_spareGround_seat, .inl (cyI, 6, .inl f0_spareGround_seat)), (a0_spareGround_strength, .inl (cyI, 6, .inl f0_spareGround_strength)), (a0_past, .inr (5, [z0_past_rows, .int v0_past_kept]))]) (w1 := [(a0_tape, .inr (8, [.ref a0_tape_bytes, .int x2, .int x12, .int x4, .int x5, .int x6, .int x7]))]) hP hD [1] [0, 2, 3, 4, 5, 6, 7, 8, 9, 10, 11, 12, 13, 14, 15, 16, 17, 18] rfl rfl (by decide) (by decide) hk1 hFc hP1 hD1
  have hP : va_P (dC, dI) vwCl [(a0, .inr (10, [.ref a0_tape, .ref a0_ground, .ref a0_spareGround, .ref a0_rule, z0_spareRule, .ref a0_lines, z0_spareLines, z0_steps, .ref a0_now, z0_trial, .ref a0_past, z0_images, z0_round, z0_seating, z0_fitting, .int v0_imagesKept, .int v0_refusedSteps, z0_callsNoSuch, .int x1])), (a0_tape, .inr (8, [.ref a0_tape_bytes, .int x2, .int x12, .int x4, .int x5, .int x6, .int x7])), (a0_spareGround, .inr (2, [.ref a0_spareGround_formX, .ref a0_spareGround_formY, .ref a0_spareGround_foxX, .ref a0_spareGround_foxY, .ref a0_spareGround_seat, .ref a0_spareGround_strength, .ref a0_spareGround_debts, z0_spareGround_near, .int x8, .int x9, .int x10, .int x13])), (a0_spareGround_debts, .inl (cyI, 36, .inl f11)), (a0_tape_bytes, .inl (cyB, 600, .inl f0_tape_bytes)), (a0_spareGround_formX, .inl (cyI, 8, .inl f0_spareGround_formX)), (a0_spareGround_foxX, .inl (cyI, 4, .inl f0_spareGround_foxX)), (a0_spareGround_formY, .inl (cyI, 8, .inl f0_spareGround_formY)), (a0_spareGround_foxY, .inl (cyI, 4, .inl f0_spareGround_foxY)), (a0_rule, .inr (4, [.ref a0_rule_kinds, .ref a0_rule_values, z0_rule_pile, z0_rule_facts, .int v0_rule_length])), (a0_rule_kinds, .inl (cyI, 150, .inl f0_rule_kinds)), (a0_rule_values, .inl (cyI, 150, .inl f0_rule_values)), (a0_lines, .inr (0, [.ref a0_lines_seen, .int v0_lines_many])), (a0_lines_seen, .inl (cyI, 8, .inl f0_lines_seen)), (a0_now, .inr (1, [.ref a0_now_row, z0_now_owedEach, r0_now_down, r0_now_law])), (a0_now_row, .inl (cyI, 64, .inl f0_now_row)), (a0_spareGround_seat, .inl (cyI, 6, .inl f0_spareGround_seat)), (a0_spareGround_strength, .inl (cyI, 6, .inl f0_spareGround_strength)), (a0_past, .inr (5, [z0_past_rows, .int v0_past_kept]))] H1 := hP.sub [0, 18, 1, 2, 3, 4, 5, 6, 7, 8, 9, 10, 11, 12, 13, 14, 15, 16, 17] rfl
  have hD : va_D A [(a0, .inr (10, [.ref a0_tape, .ref a0_ground, .ref a0_spareGround, .ref a0_rule, z0_spareRule, .ref a0_lines, z0_spareLines, z0_steps, .ref a0_now, z0_trial, .ref a0_past, z0_images, z0_round, z0_seating, z0_fitting, .int v0_imagesKept, .int v0_refusedSteps, z0_callsNoSuch, .int x1])), (a0_tape, .inr (8, [.ref a0_tape_bytes, .int x2, .int x12, .int x4, .int x5, .int x6, .int x7])), (a0_spareGround, .inr (2, [.ref a0_spareGround_formX, .ref a0_spareGround_formY, .ref a0_spareGround_foxX, .ref a0_spareGround_foxY, .ref a0_spareGround_seat, .ref a0_spareGround_strength, .ref a0_spareGround_debts, z0_spareGround_near, .int x8, .int x9, .int x10, .int x13])), (a0_spareGround_debts, .inl (cyI, 36, .inl f11)), (a0_tape_bytes, .inl (cyB, 600, .inl f0_tape_bytes)), (a0_spareGround_formX, .inl (cyI, 8, .inl f0_spareGround_formX)), (a0_spareGround_foxX, .inl (cyI, 4, .inl f0_spareGround_foxX)), (a0_spareGround_formY, .inl (cyI, 8, .inl f0_spareGround_formY)), (a0_spareGround_foxY, .inl (cyI, 4, .inl f0_spareGround_foxY)), (a0_rule, .inr (4, [.ref a0_rule_kinds, .ref a0_rule_values, z0_rule_pile, z0_rule_facts, .int v0_rule_length])), (a0_rule_kinds, .inl (cyI, 150, .inl f0_rule_kinds)), (a0_rule_values, .inl (cyI, 150, .inl f0_rule_values)), (a0_lines, .inr (0, [.ref a0_lines_seen, .int v0_lines_many])), (a0_lines_seen, .inl (cyI, 8, .inl f0_lines_seen)), (a0_now, .inr (1, [.ref a0_now_row, z0_now_owedEach, r0_now_down, r0_now_law])), (a0_now_row, .inl (cyI, 64, .inl f0_now_row)), (a0_spareGround_seat, .inl (cyI, 6, .inl f0_spareGround_seat)), (a0_spareGround_strength, .inl (cyI, 6, .inl f0_spareGround_strength)), (a0_past, .inr (5, [z0_past_rows, .int v0_past_kept]))] := hD.sub [0, 18, 1, 2, 3, 4, 5, 6, 7, 8, 9, 10, 11, 12, 13, 14, 15, 16, 17] (by decide) rfl
  generalize H1 = H at hP hS ⊢
  refine lv_if_eq (tgt := 40) hx hb dX10_down_26 (by decide) (fun c15 => ?_) (fun c15 => ?_)
  · have hw := hw.1 c15
    refine lv_aload_n hx hb dX10_down_40 rfl (lv_at hl 0 rfl) ?_
    refine va_get (D := (dC, dI)) (ci := 10) (v := .ref a0_ground) (C := RX10) (T := TX10) (N := 19) hx hb hts ui_X10_down_X10 hown hK hP 0 rfl rfl 1 (by decide) (hts _ uw_X10_down_f19) (fun _ h9 => h9) rfl dX10_down_41 ?_
    refine lv_astore_n (lv' := [(2, .ref a0_ground), (0, .ref a0), (1, .int p1)]) hx hb dX10_down_44 rfl hl (by decide) rfl (fun ls hl => ?_)
    refine lv_aload_n hx hb dX10_down_45 rfl (lv_at hl 1 rfl) ?_
    refine lv_aload_n hx hb dX10_down_46 rfl (lv_at hl 1 rfl) ?_
    refine va_get (D := (dC, dI)) (ci := 10) (v := .ref a0_spareGround) (C := RX10) (T := TX10) (N := 19) hx hb hts ui_X10_down_X10 hown hK hP 0 rfl rfl 2 (by decide) (hts _ uw_X10_down_f23) (fun _ h9 => h9) rfl dX10_down_47 ?_
    refine va_put (D := (dC, dI)) (ci := 10) (v := .ref a0_spareGround) (ty := .object "MarchHares$Down") (C := RX10) (T := TX10) (N := 19) hx hb hts ui_X10_down_X10 tyX10 tyX10_ok nmX10 hown hK hP hD hS 0 rfl rfl 1 (by decide) (hts _ uw_X10_down_f19) (fun _ h9 => h9) rfl (by decide +kernel) rfl rfl (Nat.le_of_ble_eq_true rfl) dX10_down_50 (fun H locs hP hD hS => ?_)
    have hP : va_P (dC, dI) vwCl [(a0, .inr (10, [.ref a0_tape, .ref a0_spareGround, .ref a0_spareGround, .ref a0_rule, z0_spareRule, .ref a0_lines, z0_spareLines, z0_steps, .ref a0_now, z0_trial, .ref a0_past, z0_images, z0_round, z0_seating, z0_fitting, .int v0_imagesKept, .int v0_refusedSteps, z0_callsNoSuch, .int x1])), (a0_tape, .inr (8, [.ref a0_tape_bytes, .int x2, .int x12, .int x4, .int x5, .int x6, .int x7])), (a0_spareGround, .inr (2, [.ref a0_spareGround_formX, .ref a0_spareGround_formY, .ref a0_spareGround_foxX, .ref a0_spareGround_foxY, .ref a0_spareGround_seat, .ref a0_spareGround_strength, .ref a0_spareGround_debts, z0_spareGround_near, .int x8, .int x9, .int x10, .int x13])), (a0_spareGround_debts, .inl (cyI, 36, .inl f11)), (a0_tape_bytes, .inl (cyB, 600, .inl f0_tape_bytes)), (a0_spareGround_formX, .inl (cyI, 8, .inl f0_spareGround_formX)), (a0_spareGround_foxX, .inl (cyI, 4, .inl f0_spareGround_foxX)), (a0_spareGround_formY, .inl (cyI, 8, .inl f0_spareGround_formY)), (a0_spareGround_foxY, .inl (cyI, 4, .inl f0_spareGround_foxY)), (a0_rule, .inr (4, [.ref a0_rule_kinds, .ref a0_rule_values, z0_rule_pile, z0_rule_facts, .int v0_rule_length])), (a0_rule_kinds, .inl (cyI, 150, .inl f0_rule_kinds)), (a0_rule_values, .inl (cyI, 150, .inl f0_rule_values)), (a0_lines, .inr (0, [.ref a0_lines_seen, .int v0_lines_many])), (a0_lines_seen, .inl (cyI, 8, .inl f0_lines_seen)), (a0_now, .inr (1, [.ref a0_now_row, z0_now_owedEach, r0_now_down, r0_now_law])), (a0_now_row, .inl (cyI, 64, .inl f0_now_row)), (a0_spareGround_seat, .inl (cyI, 6, .inl f0_spareGround_seat)), (a0_spareGround_strength, .inl (cyI, 6, .inl f0_spareGround_strength)), (a0_past, .inr (5, [z0_past_rows, .int v0_past_kept]))] H := hP
    have hD : va_D A [(a0, .inr (10, [.ref a0_tape, .ref a0_spareGround, .ref a0_spareGround, .ref a0_rule, z0_spareRule, .ref a0_lines, z0_spareLines, z0_steps, .ref a0_now, z0_trial, .ref a0_past, z0_images, z0_round, z0_seating, z0_fitting, .int v0_imagesKept, .int v0_refusedSteps, z0_callsNoSuch, .int x1])), (a0_tape, .inr (8, [.ref a0_tape_bytes, .int x2, .int x12, .int x4, .int x5, .int x6, .int x7])), (a0_spareGround, .inr (2, [.ref a0_spareGround_formX, .ref a0_spareGround_formY, .ref a0_spareGround_foxX, .ref a0_spareGround_foxY, .ref a0_spareGround_seat, .ref a0_spareGround_strength, .ref a0_spareGround_debts, z0_spareGround_near, .int x8, .int x9, .int x10, .int x13])), (a0_spareGround_debts, .inl (cyI, 36, .inl f11)), (a0_tape_bytes, .inl (cyB, 600, .inl f0_tape_bytes)), (a0_spareGround_formX, .inl (cyI, 8, .inl f0_spareGround_formX)), (a0_spareGround_foxX, .inl (cyI, 4, .inl f0_spareGround_foxX)), (a0_spareGround_formY, .inl (cyI, 8, .inl f0_spareGround_formY)), (a0_spareGround_foxY, .inl (cyI, 4, .inl f0_spareGround_foxY)), (a0_rule, .inr (4, [.ref a0_rule_kinds, .ref a0_rule_values, z0_rule_pile, z0_rule_facts, .int v0_rule_length])), (a0_rule_kinds, .inl (cyI, 150, .inl f0_rule_kinds)), (a0_rule_values, .inl (cyI, 150, .inl f0_rule_values)), (a0_lines, .inr (0, [.ref a0_lines_seen, .int v0_lines_many])), (a0_lines_seen, .inl (cyI, 8, .inl f0_lines_seen)), (a0_now, .inr (1, [.ref a0_now_row, z0_now_owedEach, r0_now_down, r0_now_law])), (a0_now_row, .inl (cyI, 64, .inl f0_now_row)), (a0_spareGround_seat, .inl (cyI, 6, .inl f0_spareGround_seat)), (a0_spareGround_strength, .inl (cyI, 6, .inl f0_spareGround_strength)), (a0_past, .inr (5, [z0_past_rows, .int v0_past_kept]))] := hD
    refine lv_aload_n hx hb dX10_down_53 rfl (lv_at hl 1 rfl) ?_
    refine lv_aload_n hx hb dX10_down_54 rfl (lv_at hl 0 rfl) ?_
    refine va_put (D := (dC, dI)) (ci := 10) (v := .ref a0_ground) (ty := .object "MarchHares$Down") (C := RX10) (T := TX10) (N := 19) hx hb hts ui_X10_down_X10 tyX10 tyX10_ok nmX10 hown hK hP hD hS 0 rfl rfl 2 (by decide) (hts _ uw_X10_down_f23) (fun _ h9 => h9) rfl (by decide +kernel) rfl rfl (Nat.le_of_ble_eq_true rfl) dX10_down_55 (fun H locs hP hD hS => ?_)
    have hP : va_P (dC, dI) vwCl [(a0, .inr (10, [.ref a0_tape, .ref a0_spareGround, .ref a0_ground, .ref a0_rule, z0_spareRule, .ref a0_lines, z0_spareLines, z0_steps, .ref a0_now, z0_trial, .ref a0_past, z0_images, z0_round, z0_seating, z0_fitting, .int v0_imagesKept, .int v0_refusedSteps, z0_callsNoSuch, .int x1])), (a0_tape, .inr (8, [.ref a0_tape_bytes, .int x2, .int x12, .int x4, .int x5, .int x6, .int x7])), (a0_spareGround, .inr (2, [.ref a0_spareGround_formX, .ref a0_spareGround_formY, .ref a0_spareGround_foxX, .ref a0_spareGround_foxY, .ref a0_spareGround_seat, .ref a0_spareGround_strength, .ref a0_spareGround_debts, z0_spareGround_near, .int x8, .int x9, .int x10, .int x13])), (a0_spareGround_debts, .inl (cyI, 36, .inl f11)), (a0_tape_bytes, .inl (cyB, 600, .inl f0_tape_bytes)), (a0_spareGround_formX, .inl (cyI, 8, .inl f0_spareGround_formX)), (a0_spareGround_foxX, .inl (cyI, 4, .inl f0_spareGround_foxX)), (a0_spareGround_formY, .inl (cyI, 8, .inl f0_spareGround_formY)), (a0_spareGround_foxY, .inl (cyI, 4, .inl f0_spareGround_foxY)), (a0_rule, .inr (4, [.ref a0_rule_kinds, .ref a0_rule_values, z0_rule_pile, z0_rule_facts, .int v0_rule_length])), (a0_rule_kinds, .inl (cyI, 150, .inl f0_rule_kinds)), (a0_rule_values, .inl (cyI, 150, .inl f0_rule_values)), (a0_lines, .inr (0, [.ref a0_lines_seen, .int v0_lines_many])), (a0_lines_seen, .inl (cyI, 8, .inl f0_lines_seen)), (a0_now, .inr (1, [.ref a0_now_row, z0_now_owedEach, r0_now_down, r0_now_law])), (a0_now_row, .inl (cyI, 64, .inl f0_now_row)), (a0_spareGround_seat, .inl (cyI, 6, .inl f0_spareGround_seat)), (a0_spareGround_strength, .inl (cyI, 6, .inl f0_spareGround_strength)), (a0_past, .inr (5, [z0_past_rows, .int v0_past_kept]))] H := hP
    have hD : va_D A [(a0, .inr (10, [.ref a0_tape, .ref a0_spareGround, .ref a0_ground, .ref a0_rule, z0_spareRule, .ref a0_lines, z0_spareLines, z0_steps, .ref a0_now, z0_trial, .ref a0_past, z0_images, z0_round, z0_seating, z0_fitting, .int v0_imagesKept, .int v0_refusedSteps, z0_callsNoSuch, .int x1])), (a0_tape, .inr (8, [.ref a0_tape_bytes, .int x2, .int x12, .int x4, .int x5, .int x6, .int x7])), (a0_spareGround, .inr (2, [.ref a0_spareGround_formX, .ref a0_spareGround_formY, .ref a0_spareGround_foxX, .ref a0_spareGround_foxY, .ref a0_spareGround_seat, .ref a0_spareGround_strength, .ref a0_spareGround_debts, z0_spareGround_near, .int x8, .int x9, .int x10, .int x13])), (a0_spareGround_debts, .inl (cyI, 36, .inl f11)), (a0_tape_bytes, .inl (cyB, 600, .inl f0_tape_bytes)), (a0_spareGround_formX, .inl (cyI, 8, .inl f0_spareGround_formX)), (a0_spareGround_foxX, .inl (cyI, 4, .inl f0_spareGround_foxX)), (a0_spareGround_formY, .inl (cyI, 8, .inl f0_spareGround_formY)), (a0_spareGround_foxY, .inl (cyI, 4, .inl f0_spareGround_foxY)), (a0_rule, .inr (4, [.ref a0_rule_kinds, .ref a0_rule_values, z0_rule_pile, z0_rule_facts, .int v0_rule_length])), (a0_rule_kinds, .inl (cyI, 150, .inl f0_rule_kinds)), (a0_rule_values, .inl (cyI, 150, .inl f0_rule_values)), (a0_lines, .inr (0, [.ref a0_lines_seen, .int v0_lines_many])), (a0_lines_seen, .inl (cyI, 8, .inl f0_lines_seen)), (a0_now, .inr (1, [.ref a0_now_row, z0_now_owedEach, r0_now_down, r0_now_law])), (a0_now_row, .inl (cyI, 64, .inl f0_now_row)), (a0_spareGround_seat, .inl (cyI, 6, .inl f0_spareGround_seat)), (a0_spareGround_strength, .inl (cyI, 6, .inl f0_spareGround_strength)), (a0_past, .inr (5, [z0_past_rows, .int v0_past_kept]))] := hD
    refine lv_aload_n hx hb dX10_down_58 rfl (lv_at hl 1 rfl) ?_
    refine va_get (D := (dC, dI)) (ci := 10) (v := .ref a0_rule) (C := RX10) (T := TX10) (N := 19) hx hb hts ui_X10_down_X10 hown hK hP 0 rfl rfl 3 (by decide) (hts _ uw_X10_down_f29) (fun _ h9 => h9) rfl dX10_down_59 ?_
    have hPc := hP.sub (ws' := [(a0_rule, .inr (4, [.ref a0_rule_kinds, .ref a0_rule_values, z0_rule_pile, z0_rule_facts, .int v0_rule_length])), (a0_rule_kinds, .inl (cyI, 150, .inl f0_rule_kinds)), (a0_rule_values, .inl (cyI, 150, .inl f0_rule_values))]) [9, 10, 11] rfl
    have hDc := hD.sub (ws' := [(a0_rule, .inr (4, [.ref a0_rule_kinds, .ref a0_rule_values, z0_rule_pile, z0_rule_facts, .int v0_rule_length])), (a0_rule_kinds, .inl (cyI, 150, .inl f0_rule_kinds)), (a0_rule_values, .inl (cyI, 150, .inl f0_rule_values))]) [9, 10, 11] (by decide) rfl
    have hFc := va_free (wc := [(a0_rule, .inr (4, [.ref a0_rule_kinds, .ref a0_rule_values, z0_rule_pile, z0_rule_facts, .int v0_rule_length])), (a0_rule_kinds, .inl (cyI, 150, .inl f0_rule_kinds)), (a0_rule_values, .inl (cyI, 150, .inl f0_rule_values))]) hD hS hA [9, 10, 11] rfl
    refine va_callv (va_runV (As := []) (rest := []) ⟨hx, hb, hml, hown, hts⟩ (ck_X4_setPlain l dC dI cyB cyI cyJ cyP a0_rule a0_rule_kinds a0_rule_values H.size (z0_rule_pile) (z0_rule_facts)  v0_rule_length f0_rule_kinds f0_rule_values  hw) (cwV 0 hts gX10_down_X4_setPlain rfl rfl rfl (by decide +kernel) ⟨Nat.le_of_ble_eq_true rfl, Nat.le_of_ble_eq_true rfl⟩) ⟨cPc_blind, va_recv hK hPc (ci := 4) (q0 := 0) rfl rfl, cPc_pre hPc hK hDc hNw⟩ rfl rfl hl.1 rfl (lv_room (Nat.le_of_ble_eq_true rfl)) dX10_down_62 ⟨Nat.le_of_ble_eq_true rfl, Nat.le_of_ble_eq_true rfl⟩) hS (fun q _ h => hFc q h) hFc (fun u t H1 locs ht hvm hw hB hz1 hk1 hS => ?_)
    obtain ⟨x16, f17, f18⟩ := u
    obtain ⟨hP1, hK1, hD1⟩ := hB
    rw [ht] at hP1
    obtain ⟨hP, hD⟩ := va_join (wr := [(a0, .inr (10, [.ref a0_tape, .ref a0_spareGround, .ref a0_ground, .ref a0_rule, z0_spareRule, .ref a0_lines, z0_spareLines, z0_steps, .ref a0_now, z0_trial, .ref a0_past, z0_images, z0_round, z0_seating, z0_fitting, .int v0_imagesKept, .int v0_refusedSteps, z0_callsNoSuch, .int x1])), (a0_tape, .inr (8, [.ref a0_tape_bytes, .int x2, .int x12, .int x4, .int x5, .int x6, .int x7])), (a0_spareGround, .inr (2, [.ref a0_spareGround_formX, .ref a0_spareGround_formY, .ref a0_spareGround_foxX, .ref a0_spareGround_foxY, .ref a0_spareGround_seat, .ref a0_spareGround_strength, .ref a0_spareGround_debts, z0_spareGround_near, .int x8, .int x9, .int x10, .int x13])), (a0_spareGround_debts, .inl (cyI, 36, .inl f11)), (a0_tape_bytes, .inl (cyB, 600, .inl f0_tape_bytes)), (a0_spareGround_formX, .inl (cyI, 8, .inl f0_spareGround_formX)), (a0_spareGround_foxX, .inl (cyI, 4, .inl f0_spareGround_foxX)), (a0_spareGround_formY, .inl (cyI, 8, .inl f0_spareGround_formY)), (a0_spareGround_foxY, .inl (cyI, 4, .inl f0_spareGround_foxY)), (a0_lines, .inr (0, [.ref a0_lines_seen, .int v0_lines_many])), (a0_lines_seen, .inl (cyI, 8, .inl f0_lines_seen)), (a0_now, .inr (1, [.ref a0_now_row, z0_now_owedEach, r0_now_down, r0_now_law])), (a0_now_row, .inl (cyI, 64, .inl f0_now_row)), (a0_spareGround_seat, .inl (cyI, 6, .inl f0_spareGround_seat)), (a0_spareGround_strength, .inl (cyI, 6, .inl f0_spareGround_strength)), (a0_past, .inr (5, [z0_past_rows, .int v0_past_kept]))]) (w1 := [(a0_rule, .inr (4, [.ref a0_rule_kinds, .ref a0_rule_values, z0_rule_pile, z0_rule_facts, .int x16])), (a0_rule_kinds, .inl (cyI, 150, .inl f17)), (a0_rule_values, .inl (cyI, 150, .inl f18))]) hP hD [9, 10, 11] [0, 1, 2, 3, 4, 5, 6, 7, 8, 12, 13, 14, 15, 16, 17, 18] rfl rfl (by decide) (by decide) hk1 hFc hP1 hD1
    have hP : va_P (dC, dI) vwCl [(a0, .inr (10, [.ref a0_tape, .ref a0_spareGround, .ref a0_ground, .ref a0_rule, z0_spareRule, .ref a0_lines, z0_spareLines, z0_steps, .ref a0_now, z0_trial, .ref a0_past, z0_images, z0_round, z0_seating, z0_fitting, .int v0_imagesKept, .int v0_refusedSteps, z0_callsNoSuch, .int x1])), (a0_tape, .inr (8, [.ref a0_tape_bytes, .int x2, .int x12, .int x4, .int x5, .int x6, .int x7])), (a0_spareGround, .inr (2, [.ref a0_spareGround_formX, .ref a0_spareGround_formY, .ref a0_spareGround_foxX, .ref a0_spareGround_foxY, .ref a0_spareGround_seat, .ref a0_spareGround_strength, .ref a0_spareGround_debts, z0_spareGround_near, .int x8, .int x9, .int x10, .int x13])), (a0_spareGround_debts, .inl (cyI, 36, .inl f11)), (a0_tape_bytes, .inl (cyB, 600, .inl f0_tape_bytes)), (a0_spareGround_formX, .inl (cyI, 8, .inl f0_spareGround_formX)), (a0_spareGround_foxX, .inl (cyI, 4, .inl f0_spareGround_foxX)), (a0_spareGround_formY, .inl (cyI, 8, .inl f0_spareGround_formY)), (a0_spareGround_foxY, .inl (cyI, 4, .inl f0_spareGround_foxY)), (a0_rule, .inr (4, [.ref a0_rule_kinds, .ref a0_rule_values, z0_rule_pile, z0_rule_facts, .int x16])), (a0_rule_kinds, .inl (cyI, 150, .inl f17)), (a0_rule_values, .inl (cyI, 150, .inl f18)), (a0_lines, .inr (0, [.ref a0_lines_seen, .int v0_lines_many])), (a0_lines_seen, .inl (cyI, 8, .inl f0_lines_seen)), (a0_now, .inr (1, [.ref a0_now_row, z0_now_owedEach, r0_now_down, r0_now_law])), (a0_now_row, .inl (cyI, 64, .inl f0_now_row)), (a0_spareGround_seat, .inl (cyI, 6, .inl f0_spareGround_seat)), (a0_spareGround_strength, .inl (cyI, 6, .inl f0_spareGround_strength)), (a0_past, .inr (5, [z0_past_rows, .int v0_past_kept]))] H1 := hP.sub [0, 1, 2, 3, 4, 5, 6, 7, 8, 16, 17, 18, 9, 10, 11, 12, 13, 14, 15] rfl
    have hD : va_D A [(a0, .inr (10, [.ref a0_tape, .ref a0_spareGround, .ref a0_ground, .ref a0_rule, z0_spareRule, .ref a0_lines, z0_spareLines, z0_steps, .ref a0_now, z0_trial, .ref a0_past, z0_images, z0_round, z0_seating, z0_fitting, .int v0_imagesKept, .int v0_refusedSteps, z0_callsNoSuch, .int x1])), (a0_tape, .inr (8, [.ref a0_tape_bytes, .int x2, .int x12, .int x4, .int x5, .int x6, .int x7])), (a0_spareGround, .inr (2, [.ref a0_spareGround_formX, .ref a0_spareGround_formY, .ref a0_spareGround_foxX, .ref a0_spareGround_foxY, .ref a0_spareGround_seat, .ref a0_spareGround_strength, .ref a0_spareGround_debts, z0_spareGround_near, .int x8, .int x9, .int x10, .int x13])), (a0_spareGround_debts, .inl (cyI, 36, .inl f11)), (a0_tape_bytes, .inl (cyB, 600, .inl f0_tape_bytes)), (a0_spareGround_formX, .inl (cyI, 8, .inl f0_spareGround_formX)), (a0_spareGround_foxX, .inl (cyI, 4, .inl f0_spareGround_foxX)), (a0_spareGround_formY, .inl (cyI, 8, .inl f0_spareGround_formY)), (a0_spareGround_foxY, .inl (cyI, 4, .inl f0_spareGround_foxY)), (a0_rule, .inr (4, [.ref a0_rule_kinds, .ref a0_rule_values, z0_rule_pile, z0_rule_facts, .int x16])), (a0_rule_kinds, .inl (cyI, 150, .inl f17)), (a0_rule_values, .inl (cyI, 150, .inl f18)), (a0_lines, .inr (0, [.ref a0_lines_seen, .int v0_lines_many])), (a0_lines_seen, .inl (cyI, 8, .inl f0_lines_seen)), (a0_now, .inr (1, [.ref a0_now_row, z0_now_owedEach, r0_now_down, r0_now_law])), (a0_now_row, .inl (cyI, 64, .inl f0_now_row)), (a0_spareGround_seat, .inl (cyI, 6, .inl f0_spareGround_seat)), (a0_spareGround_strength, .inl (cyI, 6, .inl f0_spareGround_strength)), (a0_past, .inr (5, [z0_past_rows, .int v0_past_kept]))] := hD.sub [0, 1, 2, 3, 4, 5, 6, 7, 8, 16, 17, 18, 9, 10, 11, 12, 13, 14, 15] (by decide) rfl
    generalize H1 = H at hP hS ⊢
    refine lv_aload_n hx hb dX10_down_65 rfl (lv_at hl 1 rfl) ?_
    refine va_get (D := (dC, dI)) (ci := 10) (v := .ref a0_lines) (C := RX10) (T := TX10) (N := 19) hx hb hts ui_X10_down_X10 hown hK hP 0 rfl rfl 5 (by decide) (hts _ uw_X10_down_f39) (fun _ h9 => h9) rfl dX10_down_66 ?_
    have hPc := hP.sub (ws' := [(a0_lines, .inr (0, [.ref a0_lines_seen, .int v0_lines_many])), (a0_lines_seen, .inl (cyI, 8, .inl f0_lines_seen))]) [12, 13] rfl
    have hDc := hD.sub (ws' := [(a0_lines, .inr (0, [.ref a0_lines_seen, .int v0_lines_many])), (a0_lines_seen, .inl (cyI, 8, .inl f0_lines_seen))]) [12, 13] (by decide) rfl
    have hFc := va_free (wc := [(a0_lines, .inr (0, [.ref a0_lines_seen, .int v0_lines_many])), (a0_lines_seen, .inl (cyI, 8, .inl f0_lines_seen))]) hD hS hA [12, 13] rfl
    refine va_callv (va_runV (As := []) (rest := []) ⟨hx, hb, hml, hown, hts⟩ (ck_X0_clear l dC dI cyB cyI cyJ cyP a0_lines a0_lines_seen H.size   v0_lines_many f0_lines_seen  hw) (cwV 0 hts gX10_down_X0_clear rfl rfl rfl (by decide +kernel) ⟨Nat.le_of_ble_eq_true rfl, Nat.le_of_ble_eq_true rfl⟩) ⟨cPc_blind, va_recv hK hPc (ci := 0) (q0 := 0) rfl rfl, cPc_pre hPc hK hDc hNw⟩ rfl rfl hl.1 rfl (lv_room (Nat.le_of_ble_eq_true rfl)) dX10_down_69 ⟨Nat.le_of_ble_eq_true rfl, Nat.le_of_ble_eq_true rfl⟩) hS (fun q _ h => hFc q h) hFc (fun u t H1 locs ht hvm hw hB hz1 hk1 hS => ?_)
    obtain ⟨x19, f20⟩ := u
    obtain ⟨hP1, hK1, hD1⟩ := hB
    rw [ht] at hP1
    obtain ⟨hP, hD⟩ := va_join (wr := [(a0, .inr (10, [.ref a0_tape, .ref a0_spareGround, .ref a0_ground, .ref a0_rule, z0_spareRule, .ref a0_lines, z0_spareLines, z0_steps, .ref a0_now, z0_trial, .ref a0_past, z0_images, z0_round, z0_seating, z0_fitting, .int v0_imagesKept, .int v0_refusedSteps, z0_callsNoSuch, .int x1])), (a0_tape, .inr (8, [.ref a0_tape_bytes, .int x2, .int x12, .int x4, .int x5, .int x6, .int x7])), (a0_spareGround, .inr (2, [.ref a0_spareGround_formX, .ref a0_spareGround_formY, .ref a0_spareGround_foxX, .ref a0_spareGround_foxY, .ref a0_spareGround_seat, .ref a0_spareGround_strength, .ref a0_spareGround_debts, z0_spareGround_near, .int x8, .int x9, .int x10, .int x13])), (a0_spareGround_debts, .inl (cyI, 36, .inl f11)), (a0_tape_bytes, .inl (cyB, 600, .inl f0_tape_bytes)), (a0_spareGround_formX, .inl (cyI, 8, .inl f0_spareGround_formX)), (a0_spareGround_foxX, .inl (cyI, 4, .inl f0_spareGround_foxX)), (a0_spareGround_formY, .inl (cyI, 8, .inl f0_spareGround_formY)), (a0_spareGround_foxY, .inl (cyI, 4, .inl f0_spareGround_foxY)), (a0_rule, .inr (4, [.ref a0_rule_kinds, .ref a0_rule_values, z0_rule_pile, z0_rule_facts, .int x16])), (a0_rule_kinds, .inl (cyI, 150, .inl f17)), (a0_rule_values, .inl (cyI, 150, .inl f18)), (a0_now, .inr (1, [.ref a0_now_row, z0_now_owedEach, r0_now_down, r0_now_law])), (a0_now_row, .inl (cyI, 64, .inl f0_now_row)), (a0_spareGround_seat, .inl (cyI, 6, .inl f0_spareGround_seat)), (a0_spareGround_strength, .inl (cyI, 6, .inl f0_spareGround_strength)), (a0_past, .inr (5, [z0_past_rows, .int v0_past_kept]))]) (w1 := [(a0_lines, .inr (0, [.ref a0_lines_seen, .int x19])), (a0_lines_seen, .inl (cyI, 8, .inl f20))]) hP hD [12, 13] [0, 1, 2, 3, 4, 5, 6, 7, 8, 9, 10, 11, 14, 15, 16, 17, 18] rfl rfl (by decide) (by decide) hk1 hFc hP1 hD1
    have hP : va_P (dC, dI) vwCl [(a0, .inr (10, [.ref a0_tape, .ref a0_spareGround, .ref a0_ground, .ref a0_rule, z0_spareRule, .ref a0_lines, z0_spareLines, z0_steps, .ref a0_now, z0_trial, .ref a0_past, z0_images, z0_round, z0_seating, z0_fitting, .int v0_imagesKept, .int v0_refusedSteps, z0_callsNoSuch, .int x1])), (a0_tape, .inr (8, [.ref a0_tape_bytes, .int x2, .int x12, .int x4, .int x5, .int x6, .int x7])), (a0_spareGround, .inr (2, [.ref a0_spareGround_formX, .ref a0_spareGround_formY, .ref a0_spareGround_foxX, .ref a0_spareGround_foxY, .ref a0_spareGround_seat, .ref a0_spareGround_strength, .ref a0_spareGround_debts, z0_spareGround_near, .int x8, .int x9, .int x10, .int x13])), (a0_spareGround_debts, .inl (cyI, 36, .inl f11)), (a0_tape_bytes, .inl (cyB, 600, .inl f0_tape_bytes)), (a0_spareGround_formX, .inl (cyI, 8, .inl f0_spareGround_formX)), (a0_spareGround_foxX, .inl (cyI, 4, .inl f0_spareGround_foxX)), (a0_spareGround_formY, .inl (cyI, 8, .inl f0_spareGround_formY)), (a0_spareGround_foxY, .inl (cyI, 4, .inl f0_spareGround_foxY)), (a0_rule, .inr (4, [.ref a0_rule_kinds, .ref a0_rule_values, z0_rule_pile, z0_rule_facts, .int x16])), (a0_rule_kinds, .inl (cyI, 150, .inl f17)), (a0_rule_values, .inl (cyI, 150, .inl f18)), (a0_lines, .inr (0, [.ref a0_lines_seen, .int x19])), (a0_lines_seen, .inl (cyI, 8, .inl f20)), (a0_now, .inr (1, [.ref a0_now_row, z0_now_owedEach, r0_now_down, r0_now_law])), (a0_now_row, .inl (cyI, 64, .inl f0_now_row)), (a0_spareGround_seat, .inl (cyI, 6, .inl f0_spareGround_seat)), (a0_spareGround_strength, .inl (cyI, 6, .inl f0_spareGround_strength)), (a0_past, .inr (5, [z0_past_rows, .int v0_past_kept]))] H1 := hP.sub [0, 1, 2, 3, 4, 5, 6, 7, 8, 9, 10, 11, 17, 18, 12, 13, 14, 15, 16] rfl
    have hD : va_D A [(a0, .inr (10, [.ref a0_tape, .ref a0_spareGround, .ref a0_ground, .ref a0_rule, z0_spareRule, .ref a0_lines, z0_spareLines, z0_steps, .ref a0_now, z0_trial, .ref a0_past, z0_images, z0_round, z0_seating, z0_fitting, .int v0_imagesKept, .int v0_refusedSteps, z0_callsNoSuch, .int x1])), (a0_tape, .inr (8, [.ref a0_tape_bytes, .int x2, .int x12, .int x4, .int x5, .int x6, .int x7])), (a0_spareGround, .inr (2, [.ref a0_spareGround_formX, .ref a0_spareGround_formY, .ref a0_spareGround_foxX, .ref a0_spareGround_foxY, .ref a0_spareGround_seat, .ref a0_spareGround_strength, .ref a0_spareGround_debts, z0_spareGround_near, .int x8, .int x9, .int x10, .int x13])), (a0_spareGround_debts, .inl (cyI, 36, .inl f11)), (a0_tape_bytes, .inl (cyB, 600, .inl f0_tape_bytes)), (a0_spareGround_formX, .inl (cyI, 8, .inl f0_spareGround_formX)), (a0_spareGround_foxX, .inl (cyI, 4, .inl f0_spareGround_foxX)), (a0_spareGround_formY, .inl (cyI, 8, .inl f0_spareGround_formY)), (a0_spareGround_foxY, .inl (cyI, 4, .inl f0_spareGround_foxY)), (a0_rule, .inr (4, [.ref a0_rule_kinds, .ref a0_rule_values, z0_rule_pile, z0_rule_facts, .int x16])), (a0_rule_kinds, .inl (cyI, 150, .inl f17)), (a0_rule_values, .inl (cyI, 150, .inl f18)), (a0_lines, .inr (0, [.ref a0_lines_seen, .int x19])), (a0_lines_seen, .inl (cyI, 8, .inl f20)), (a0_now, .inr (1, [.ref a0_now_row, z0_now_owedEach, r0_now_down, r0_now_law])), (a0_now_row, .inl (cyI, 64, .inl f0_now_row)), (a0_spareGround_seat, .inl (cyI, 6, .inl f0_spareGround_seat)), (a0_spareGround_strength, .inl (cyI, 6, .inl f0_spareGround_strength)), (a0_past, .inr (5, [z0_past_rows, .int v0_past_kept]))] := hD.sub [0, 1, 2, 3, 4, 5, 6, 7, 8, 9, 10, 11, 17, 18, 12, 13, 14, 15, 16] (by decide) rfl
    generalize H1 = H at hP hS ⊢
    refine lv_aload_n hx hb dX10_down_72 rfl (lv_at hl 1 rfl) ?_
    refine va_get (D := (dC, dI)) (ci := 10) (v := .ref a0_now) (C := RX10) (T := TX10) (N := 19) hx hb hts ui_X10_down_X10 hown hK hP 0 rfl rfl 8 (by decide) (hts _ uw_X10_down_f58) (fun _ h9 => h9) rfl dX10_down_73 ?_
    refine lv_aload_n hx hb dX10_down_76 rfl (lv_at hl 1 rfl) ?_
    refine va_get (D := (dC, dI)) (ci := 10) (v := .ref a0_spareGround) (C := RX10) (T := TX10) (N := 19) hx hb hts ui_X10_down_X10 hown hK hP 0 rfl rfl 1 (by decide) (hts _ uw_X10_down_f19) (fun _ h9 => h9) rfl dX10_down_77 ?_
    refine lv_aload_n hx hb dX10_down_80 rfl (lv_at hl 1 rfl) ?_
    refine va_get (D := (dC, dI)) (ci := 10) (v := .ref a0_rule) (C := RX10) (T := TX10) (N := 19) hx hb hts ui_X10_down_X10 hown hK hP 0 rfl rfl 3 (by decide) (hts _ uw_X10_down_f29) (fun _ h9 => h9) rfl dX10_down_81 ?_
    have hPc := hP.sub (ws' := [(a0_now, .inr (1, [.ref a0_now_row, z0_now_owedEach, r0_now_down, r0_now_law])), (a0_now_row, .inl (cyI, 64, .inl f0_now_row)), (a0_spareGround, .inr (2, [.ref a0_spareGround_formX, .ref a0_spareGround_formY, .ref a0_spareGround_foxX, .ref a0_spareGround_foxY, .ref a0_spareGround_seat, .ref a0_spareGround_strength, .ref a0_spareGround_debts, z0_spareGround_near, .int x8, .int x9, .int x10, .int x13])), (a0_spareGround_debts, .inl (cyI, 36, .inl f11)), (a0_spareGround_seat, .inl (cyI, 6, .inl f0_spareGround_seat)), (a0_spareGround_strength, .inl (cyI, 6, .inl f0_spareGround_strength))]) [14, 15, 2, 3, 16, 17] rfl
    have hDc := hD.sub (ws' := [(a0_now, .inr (1, [.ref a0_now_row, z0_now_owedEach, r0_now_down, r0_now_law])), (a0_now_row, .inl (cyI, 64, .inl f0_now_row)), (a0_spareGround, .inr (2, [.ref a0_spareGround_formX, .ref a0_spareGround_formY, .ref a0_spareGround_foxX, .ref a0_spareGround_foxY, .ref a0_spareGround_seat, .ref a0_spareGround_strength, .ref a0_spareGround_debts, z0_spareGround_near, .int x8, .int x9, .int x10, .int x13])), (a0_spareGround_debts, .inl (cyI, 36, .inl f11)), (a0_spareGround_seat, .inl (cyI, 6, .inl f0_spareGround_seat)), (a0_spareGround_strength, .inl (cyI, 6, .inl f0_spareGround_strength))]) [14, 15, 2, 3, 16, 17] (by decide) rfl
    have hFc := va_free (wc := [(a0_now, .inr (1, [.ref a0_now_row, z0_now_owedEach, r0_now_down, r0_now_law])), (a0_now_row, .inl (cyI, 64, .inl f0_now_row)), (a0_spareGround, .inr (2, [.ref a0_spareGround_formX, .ref a0_spareGround_formY, .ref a0_spareGround_foxX, .ref a0_spareGround_foxY, .ref a0_spareGround_seat, .ref a0_spareGround_strength, .ref a0_spareGround_debts, z0_spareGround_near, .int x8, .int x9, .int x10, .int x13])), (a0_spareGround_debts, .inl (cyI, 36, .inl f11)), (a0_spareGround_seat, .inl (cyI, 6, .inl f0_spareGround_seat)), (a0_spareGround_strength, .inl (cyI, 6, .inl f0_spareGround_strength))]) hD hS hA [14, 15, 2, 3, 16, 17] rfl
    refine va_callv (va_runV (As := [.ref a0_spareGround, .ref a0_rule]) (rest := []) ⟨hx, hb, hml, hown, hts⟩ (ck_X1_begin l dC dI cyB cyI cyJ cyP a0_now a0_spareGround a0_rule a0_now_row a0_spareGround_debts a0_spareGround_seat a0_spareGround_strength H.size (z0_now_owedEach) (r0_now_down) (r0_now_law) (.ref a0_spareGround_formX) (.ref a0_spareGround_formY) (.ref a0_spareGround_foxX) (.ref a0_spareGround_foxY) (z0_spareGround_near) (.int x8) (.int x10) (.int x13) x9 f11 f0_spareGround_seat f0_spareGround_strength f0_now_row  hw) (cwV 2 hts gX10_down_X1_begin rfl rfl rfl (by decide +kernel) ⟨Nat.le_of_ble_eq_true rfl, Nat.le_of_ble_eq_true rfl⟩) ⟨cPc_blind, va_recv hK hPc (ci := 1) (q0 := 0) rfl rfl, cPc_pre hPc hK hDc hNw⟩ rfl rfl hl.1 rfl (lv_room (Nat.le_of_ble_eq_true rfl)) dX10_down_84 ⟨Nat.le_of_ble_eq_true rfl, Nat.le_of_ble_eq_true rfl⟩) hS (fun q _ h => hFc q h) hFc (fun u t H1 locs ht hvm hw hB hz1 hk1 hS => ?_)
    obtain ⟨f21, rfl⟩ : ∃ z, z = u := ⟨_, rfl⟩
    obtain ⟨hP1, hK1, hD1⟩ := hB
    rw [ht] at hP1
    obtain ⟨hP, hD⟩ := va_join (wr := [(a0, .inr (10, [.ref a0_tape, .ref a0_spareGround, .ref a0_ground, .ref a0_rule, z0_spareRule, .ref a0_lines, z0_spareLines, z0_steps, .ref a0_now, z0_trial, .ref a0_past, z0_images, z0_round, z0_seating, z0_fitting, .int v0_imagesKept, .int v0_refusedSteps, z0_callsNoSuch, .int x1])), (a0_tape, .inr (8, [.ref a0_tape_bytes, .int x2, .int x12, .int x4, .int x5, .int x6, .int x7])), (a0_tape_bytes, .inl (cyB, 600, .inl f0_tape_bytes)), (a0_spareGround_formX, .inl (cyI, 8, .inl f0_spareGround_formX)), (a0_spareGround_foxX, .inl (cyI, 4, .inl f0_spareGround_foxX)), (a0_spareGround_formY, .inl (cyI, 8, .inl f0_spareGround_formY)), (a0_spareGround_foxY, .inl (cyI, 4, .inl f0_spareGround_foxY)), (a0_rule, .inr (4, [.ref a0_rule_kinds, .ref a0_rule_values, z0_rule_pile, z0_rule_facts, .int x16])), (a0_rule_kinds, .inl (cyI, 150, .inl f17)), (a0_rule_values, .inl (cyI, 150, .inl f18)), (a0_lines, .inr (0, [.ref a0_lines_seen, .int x19])), (a0_lines_seen, .inl (cyI, 8, .inl f20)), (a0_past, .inr (5, [z0_past_rows, .int v0_past_kept]))]) (w1 := [(a0_now, .inr (1, [.ref a0_now_row, z0_now_owedEach, .ref a0_spareGround, .ref a0_rule])), (a0_now_row, .inl (cyI, 64, .inl f21)), (a0_spareGround, .inr (2, [.ref a0_spareGround_formX, .ref a0_spareGround_formY, .ref a0_spareGround_foxX, .ref a0_spareGround_foxY, .ref a0_spareGround_seat, .ref a0_spareGround_strength, .ref a0_spareGround_debts, z0_spareGround_near, .int x8, .int x9, .int x10, .int x13])), (a0_spareGround_debts, .inl (cyI, 36, .inl f11)), (a0_spareGround_seat, .inl (cyI, 6, .inl f0_spareGround_seat)), (a0_spareGround_strength, .inl (cyI, 6, .inl f0_spareGround_strength))]) hP hD [14, 15, 2, 3, 16, 17] [0, 1, 4, 5, 6, 7, 8, 9, 10, 11, 12, 13, 18] rfl rfl (by decide) (by decide) hk1 hFc hP1 hD1
    have hP : va_P (dC, dI) vwCl [(a0, .inr (10, [.ref a0_tape, .ref a0_spareGround, .ref a0_ground, .ref a0_rule, z0_spareRule, .ref a0_lines, z0_spareLines, z0_steps, .ref a0_now, z0_trial, .ref a0_past, z0_images, z0_round, z0_seating, z0_fitting, .int v0_imagesKept, .int v0_refusedSteps, z0_callsNoSuch, .int x1])), (a0_tape, .inr (8, [.ref a0_tape_bytes, .int x2, .int x12, .int x4, .int x5, .int x6, .int x7])), (a0_spareGround, .inr (2, [.ref a0_spareGround_formX, .ref a0_spareGround_formY, .ref a0_spareGround_foxX, .ref a0_spareGround_foxY, .ref a0_spareGround_seat, .ref a0_spareGround_strength, .ref a0_spareGround_debts, z0_spareGround_near, .int x8, .int x9, .int x10, .int x13])), (a0_spareGround_debts, .inl (cyI, 36, .inl f11)), (a0_tape_bytes, .inl (cyB, 600, .inl f0_tape_bytes)), (a0_spareGround_formX, .inl (cyI, 8, .inl f0_spareGround_formX)), (a0_spareGround_foxX, .inl (cyI, 4, .inl f0_spareGround_foxX)), (a0_spareGround_formY, .inl (cyI, 8, .inl f0_spareGround_formY)), (a0_spareGround_foxY, .inl (cyI, 4, .inl f0_spareGround_foxY)), (a0_rule, .inr (4, [.ref a0_rule_kinds, .ref a0_rule_values, z0_rule_pile, z0_rule_facts, .int x16])), (a0_rule_kinds, .inl (cyI, 150, .inl f17)), (a0_rule_values, .inl (cyI, 150, .inl f18)), (a0_lines, .inr (0, [.ref a0_lines_seen, .int x19])), (a0_lines_seen, .inl (cyI, 8, .inl f20)), (a0_now, .inr (1, [.ref a0_now_row, z0_now_owedEach, .ref a0_spareGround, .ref a0_rule])), (a0_now_row, .inl (cyI, 64, .inl f21)), (a0_spareGround_seat, .inl (cyI, 6, .inl f0_spareGround_seat)), (a0_spareGround_strength, .inl (cyI, 6, .inl f0_spareGround_strength)), (a0_past, .inr (5, [z0_past_rows, .int v0_past_kept]))] H1 := hP.sub [0, 1, 15, 16, 2, 3, 4, 5, 6, 7, 8, 9, 10, 11, 13, 14, 17, 18, 12] rfl
    have hD : va_D A [(a0, .inr (10, [.ref a0_tape, .ref a0_spareGround, .ref a0_ground, .ref a0_rule, z0_spareRule, .ref a0_lines, z0_spareLines, z0_steps, .ref a0_now, z0_trial, .ref a0_past, z0_images, z0_round, z0_seating, z0_fitting, .int v0_imagesKept, .int v0_refusedSteps, z0_callsNoSuch, .int x1])), (a0_tape, .inr (8, [.ref a0_tape_bytes, .int x2, .int x12, .int x4, .int x5, .int x6, .int x7])), (a0_spareGround, .inr (2, [.ref a0_spareGround_formX, .ref a0_spareGround_formY, .ref a0_spareGround_foxX, .ref a0_spareGround_foxY, .ref a0_spareGround_seat, .ref a0_spareGround_strength, .ref a0_spareGround_debts, z0_spareGround_near, .int x8, .int x9, .int x10, .int x13])), (a0_spareGround_debts, .inl (cyI, 36, .inl f11)), (a0_tape_bytes, .inl (cyB, 600, .inl f0_tape_bytes)), (a0_spareGround_formX, .inl (cyI, 8, .inl f0_spareGround_formX)), (a0_spareGround_foxX, .inl (cyI, 4, .inl f0_spareGround_foxX)), (a0_spareGround_formY, .inl (cyI, 8, .inl f0_spareGround_formY)), (a0_spareGround_foxY, .inl (cyI, 4, .inl f0_spareGround_foxY)), (a0_rule, .inr (4, [.ref a0_rule_kinds, .ref a0_rule_values, z0_rule_pile, z0_rule_facts, .int x16])), (a0_rule_kinds, .inl (cyI, 150, .inl f17)), (a0_rule_values, .inl (cyI, 150, .inl f18)), (a0_lines, .inr (0, [.ref a0_lines_seen, .int x19])), (a0_lines_seen, .inl (cyI, 8, .inl f20)), (a0_now, .inr (1, [.ref a0_now_row, z0_now_owedEach, .ref a0_spareGround, .ref a0_rule])), (a0_now_row, .inl (cyI, 64, .inl f21)), (a0_spareGround_seat, .inl (cyI, 6, .inl f0_spareGround_seat)), (a0_spareGround_strength, .inl (cyI, 6, .inl f0_spareGround_strength)), (a0_past, .inr (5, [z0_past_rows, .int v0_past_kept]))] := hD.sub [0, 1, 15, 16, 2, 3, 4, 5, 6, 7, 8, 9, 10, 11, 13, 14, 17, 18, 12] (by decide) rfl
    generalize H1 = H at hP hS ⊢
    refine lv_aload_n hx hb dX10_down_87 rfl (lv_at hl 1 rfl) ?_
    refine va_get (D := (dC, dI)) (ci := 10) (v := .ref a0_past) (C := RX10) (T := TX10) (N := 19) hx hb hts ui_X10_down_X10 hown hK hP 0 rfl rfl 10 (by decide) (hts _ uw_X10_down_f68) (fun _ h9 => h9) rfl dX10_down_88 ?_
    refine lv_iconst (v := 0) hx hb dX10_down_91 (by decide) ?_
    refine va_put (D := (dC, dI)) (ci := 5) (v := .int 0) (ty := .int) (C := RX5) (T := TX5) (N := 2) hx hb hts ui_X10_down_X5 tyX5 tyX5_ok nmX5 hown hK hP hD hS 18 rfl rfl 1 (by decide) (hts _ uw_X10_down_f132) (fun _ h9 => h9) rfl (by decide +kernel) rfl rfl (Nat.le_of_ble_eq_true rfl) dX10_down_92 (fun H locs hP hD hS => ?_)
    have hP : va_P (dC, dI) vwCl [(a0, .inr (10, [.ref a0_tape, .ref a0_spareGround, .ref a0_ground, .ref a0_rule, z0_spareRule, .ref a0_lines, z0_spareLines, z0_steps, .ref a0_now, z0_trial, .ref a0_past, z0_images, z0_round, z0_seating, z0_fitting, .int v0_imagesKept, .int v0_refusedSteps, z0_callsNoSuch, .int x1])), (a0_tape, .inr (8, [.ref a0_tape_bytes, .int x2, .int x12, .int x4, .int x5, .int x6, .int x7])), (a0_spareGround, .inr (2, [.ref a0_spareGround_formX, .ref a0_spareGround_formY, .ref a0_spareGround_foxX, .ref a0_spareGround_foxY, .ref a0_spareGround_seat, .ref a0_spareGround_strength, .ref a0_spareGround_debts, z0_spareGround_near, .int x8, .int x9, .int x10, .int x13])), (a0_spareGround_debts, .inl (cyI, 36, .inl f11)), (a0_tape_bytes, .inl (cyB, 600, .inl f0_tape_bytes)), (a0_spareGround_formX, .inl (cyI, 8, .inl f0_spareGround_formX)), (a0_spareGround_foxX, .inl (cyI, 4, .inl f0_spareGround_foxX)), (a0_spareGround_formY, .inl (cyI, 8, .inl f0_spareGround_formY)), (a0_spareGround_foxY, .inl (cyI, 4, .inl f0_spareGround_foxY)), (a0_rule, .inr (4, [.ref a0_rule_kinds, .ref a0_rule_values, z0_rule_pile, z0_rule_facts, .int x16])), (a0_rule_kinds, .inl (cyI, 150, .inl f17)), (a0_rule_values, .inl (cyI, 150, .inl f18)), (a0_lines, .inr (0, [.ref a0_lines_seen, .int x19])), (a0_lines_seen, .inl (cyI, 8, .inl f20)), (a0_now, .inr (1, [.ref a0_now_row, z0_now_owedEach, .ref a0_spareGround, .ref a0_rule])), (a0_now_row, .inl (cyI, 64, .inl f21)), (a0_spareGround_seat, .inl (cyI, 6, .inl f0_spareGround_seat)), (a0_spareGround_strength, .inl (cyI, 6, .inl f0_spareGround_strength)), (a0_past, .inr (5, [z0_past_rows, .int 0]))] H := hP
    have hD : va_D A [(a0, .inr (10, [.ref a0_tape, .ref a0_spareGround, .ref a0_ground, .ref a0_rule, z0_spareRule, .ref a0_lines, z0_spareLines, z0_steps, .ref a0_now, z0_trial, .ref a0_past, z0_images, z0_round, z0_seating, z0_fitting, .int v0_imagesKept, .int v0_refusedSteps, z0_callsNoSuch, .int x1])), (a0_tape, .inr (8, [.ref a0_tape_bytes, .int x2, .int x12, .int x4, .int x5, .int x6, .int x7])), (a0_spareGround, .inr (2, [.ref a0_spareGround_formX, .ref a0_spareGround_formY, .ref a0_spareGround_foxX, .ref a0_spareGround_foxY, .ref a0_spareGround_seat, .ref a0_spareGround_strength, .ref a0_spareGround_debts, z0_spareGround_near, .int x8, .int x9, .int x10, .int x13])), (a0_spareGround_debts, .inl (cyI, 36, .inl f11)), (a0_tape_bytes, .inl (cyB, 600, .inl f0_tape_bytes)), (a0_spareGround_formX, .inl (cyI, 8, .inl f0_spareGround_formX)), (a0_spareGround_foxX, .inl (cyI, 4, .inl f0_spareGround_foxX)), (a0_spareGround_formY, .inl (cyI, 8, .inl f0_spareGround_formY)), (a0_spareGround_foxY, .inl (cyI, 4, .inl f0_spareGround_foxY)), (a0_rule, .inr (4, [.ref a0_rule_kinds, .ref a0_rule_values, z0_rule_pile, z0_rule_facts, .int x16])), (a0_rule_kinds, .inl (cyI, 150, .inl f17)), (a0_rule_values, .inl (cyI, 150, .inl f18)), (a0_lines, .inr (0, [.ref a0_lines_seen, .int x19])), (a0_lines_seen, .inl (cyI, 8, .inl f20)), (a0_now, .inr (1, [.ref a0_now_row, z0_now_owedEach, .ref a0_spareGround, .ref a0_rule])), (a0_now_row, .inl (cyI, 64, .inl f21)), (a0_spareGround_seat, .inl (cyI, 6, .inl f0_spareGround_seat)), (a0_spareGround_strength, .inl (cyI, 6, .inl f0_spareGround_strength)), (a0_past, .inr (5, [z0_past_rows, .int 0]))] := hD
    refine lv_aload_n hx hb dX10_down_95 rfl (lv_at hl 1 rfl) ?_
    refine lv_iconst (v := 0) hx hb dX10_down_96 (by decide) ?_
    refine va_put (D := (dC, dI)) (ci := 10) (v := .int 0) (ty := .int) (C := RX10) (T := TX10) (N := 19) hx hb hts ui_X10_down_X10 tyX10 tyX10_ok nmX10 hown hK hP hD hS 0 rfl rfl 15 (by decide) (hts _ uw_X10_down_f135) (fun _ h9 => h9) rfl (by decide +kernel) rfl rfl (Nat.le_of_ble_eq_true rfl) dX10_down_97 (fun H locs hP hD hS => ?_)
    have hP : va_P (dC, dI) vwCl [(a0, .inr (10, [.ref a0_tape, .ref a0_spareGround, .ref a0_ground, .ref a0_rule, z0_spareRule, .ref a0_lines, z0_spareLines, z0_steps, .ref a0_now, z0_trial, .ref a0_past, z0_images, z0_round, z0_seating, z0_fitting, .int 0, .int v0_refusedSteps, z0_callsNoSuch, .int x1])), (a0_tape, .inr (8, [.ref a0_tape_bytes, .int x2, .int x12, .int x4, .int x5, .int x6, .int x7])), (a0_spareGround, .inr (2, [.ref a0_spareGround_formX, .ref a0_spareGround_formY, .ref a0_spareGround_foxX, .ref a0_spareGround_foxY, .ref a0_spareGround_seat, .ref a0_spareGround_strength, .ref a0_spareGround_debts, z0_spareGround_near, .int x8, .int x9, .int x10, .int x13])), (a0_spareGround_debts, .inl (cyI, 36, .inl f11)), (a0_tape_bytes, .inl (cyB, 600, .inl f0_tape_bytes)), (a0_spareGround_formX, .inl (cyI, 8, .inl f0_spareGround_formX)), (a0_spareGround_foxX, .inl (cyI, 4, .inl f0_spareGround_foxX)), (a0_spareGround_formY, .inl (cyI, 8, .inl f0_spareGround_formY)), (a0_spareGround_foxY, .inl (cyI, 4, .inl f0_spareGround_foxY)), (a0_rule, .inr (4, [.ref a0_rule_kinds, .ref a0_rule_values, z0_rule_pile, z0_rule_facts, .int x16])), (a0_rule_kinds, .inl (cyI, 150, .inl f17)), (a0_rule_values, .inl (cyI, 150, .inl f18)), (a0_lines, .inr (0, [.ref a0_lines_seen, .int x19])), (a0_lines_seen, .inl (cyI, 8, .inl f20)), (a0_now, .inr (1, [.ref a0_now_row, z0_now_owedEach, .ref a0_spareGround, .ref a0_rule])), (a0_now_row, .inl (cyI, 64, .inl f21)), (a0_spareGround_seat, .inl (cyI, 6, .inl f0_spareGround_seat)), (a0_spareGround_strength, .inl (cyI, 6, .inl f0_spareGround_strength)), (a0_past, .inr (5, [z0_past_rows, .int 0]))] H := hP
    have hD : va_D A [(a0, .inr (10, [.ref a0_tape, .ref a0_spareGround, .ref a0_ground, .ref a0_rule, z0_spareRule, .ref a0_lines, z0_spareLines, z0_steps, .ref a0_now, z0_trial, .ref a0_past, z0_images, z0_round, z0_seating, z0_fitting, .int 0, .int v0_refusedSteps, z0_callsNoSuch, .int x1])), (a0_tape, .inr (8, [.ref a0_tape_bytes, .int x2, .int x12, .int x4, .int x5, .int x6, .int x7])), (a0_spareGround, .inr (2, [.ref a0_spareGround_formX, .ref a0_spareGround_formY, .ref a0_spareGround_foxX, .ref a0_spareGround_foxY, .ref a0_spareGround_seat, .ref a0_spareGround_strength, .ref a0_spareGround_debts, z0_spareGround_near, .int x8, .int x9, .int x10, .int x13])), (a0_spareGround_debts, .inl (cyI, 36, .inl f11)), (a0_tape_bytes, .inl (cyB, 600, .inl f0_tape_bytes)), (a0_spareGround_formX, .inl (cyI, 8, .inl f0_spareGround_formX)), (a0_spareGround_foxX, .inl (cyI, 4, .inl f0_spareGround_foxX)), (a0_spareGround_formY, .inl (cyI, 8, .inl f0_spareGround_formY)), (a0_spareGround_foxY, .inl (cyI, 4, .inl f0_spareGround_foxY)), (a0_rule, .inr (4, [.ref a0_rule_kinds, .ref a0_rule_values, z0_rule_pile, z0_rule_facts, .int x16])), (a0_rule_kinds, .inl (cyI, 150, .inl f17)), (a0_rule_values, .inl (cyI, 150, .inl f18)), (a0_lines, .inr (0, [.ref a0_lines_seen, .int x19])), (a0_lines_seen, .inl (cyI, 8, .inl f20)), (a0_now, .inr (1, [.ref a0_now_row, z0_now_owedEach, .ref a0_spareGround, .ref a0_rule])), (a0_now_row, .inl (cyI, 64, .inl f21)), (a0_spareGround_seat, .inl (cyI, 6, .inl f0_spareGround_seat)), (a0_spareGround_strength, .inl (cyI, 6, .inl f0_spareGround_strength)), (a0_past, .inr (5, [z0_past_rows, .int 0]))] := hD
    refine lv_aload_n hx hb dX10_down_100 rfl (lv_at hl 1 rfl) ?_
    refine lv_iconst (v := 0) hx hb dX10_down_101 (by decide) ?_
    refine va_put (D := (dC, dI)) (ci := 10) (v := .int 0) (ty := .int) (C := RX10) (T := TX10) (N := 19) hx hb hts ui_X10_down_X10 tyX10 tyX10_ok nmX10 hown hK hP hD hS 0 rfl rfl 16 (by decide) (hts _ uw_X10_down_f138) (fun _ h9 => h9) rfl (by decide +kernel) rfl rfl (Nat.le_of_ble_eq_true rfl) dX10_down_102 (fun H locs hP hD hS => ?_)
    have hP : va_P (dC, dI) vwCl [(a0, .inr (10, [.ref a0_tape, .ref a0_spareGround, .ref a0_ground, .ref a0_rule, z0_spareRule, .ref a0_lines, z0_spareLines, z0_steps, .ref a0_now, z0_trial, .ref a0_past, z0_images, z0_round, z0_seating, z0_fitting, .int 0, .int 0, z0_callsNoSuch, .int x1])), (a0_tape, .inr (8, [.ref a0_tape_bytes, .int x2, .int x12, .int x4, .int x5, .int x6, .int x7])), (a0_spareGround, .inr (2, [.ref a0_spareGround_formX, .ref a0_spareGround_formY, .ref a0_spareGround_foxX, .ref a0_spareGround_foxY, .ref a0_spareGround_seat, .ref a0_spareGround_strength, .ref a0_spareGround_debts, z0_spareGround_near, .int x8, .int x9, .int x10, .int x13])), (a0_spareGround_debts, .inl (cyI, 36, .inl f11)), (a0_tape_bytes, .inl (cyB, 600, .inl f0_tape_bytes)), (a0_spareGround_formX, .inl (cyI, 8, .inl f0_spareGround_formX)), (a0_spareGround_foxX, .inl (cyI, 4, .inl f0_spareGround_foxX)), (a0_spareGround_formY, .inl (cyI, 8, .inl f0_spareGround_formY)), (a0_spareGround_foxY, .inl (cyI, 4, .inl f0_spareGround_foxY)), (a0_rule, .inr (4, [.ref a0_rule_kinds, .ref a0_rule_values, z0_rule_pile, z0_rule_facts, .int x16])), (a0_rule_kinds, .inl (cyI, 150, .inl f17)), (a0_rule_values, .inl (cyI, 150, .inl f18)), (a0_lines, .inr (0, [.ref a0_lines_seen, .int x19])), (a0_lines_seen, .inl (cyI, 8, .inl f20)), (a0_now, .inr (1, [.ref a0_now_row, z0_now_owedEach, .ref a0_spareGround, .ref a0_rule])), (a0_now_row, .inl (cyI, 64, .inl f21)), (a0_spareGround_seat, .inl (cyI, 6, .inl f0_spareGround_seat)), (a0_spareGround_strength, .inl (cyI, 6, .inl f0_spareGround_strength)), (a0_past, .inr (5, [z0_past_rows, .int 0]))] H := hP
    have hD : va_D A [(a0, .inr (10, [.ref a0_tape, .ref a0_spareGround, .ref a0_ground, .ref a0_rule, z0_spareRule, .ref a0_lines, z0_spareLines, z0_steps, .ref a0_now, z0_trial, .ref a0_past, z0_images, z0_round, z0_seating, z0_fitting, .int 0, .int 0, z0_callsNoSuch, .int x1])), (a0_tape, .inr (8, [.ref a0_tape_bytes, .int x2, .int x12, .int x4, .int x5, .int x6, .int x7])), (a0_spareGround, .inr (2, [.ref a0_spareGround_formX, .ref a0_spareGround_formY, .ref a0_spareGround_foxX, .ref a0_spareGround_foxY, .ref a0_spareGround_seat, .ref a0_spareGround_strength, .ref a0_spareGround_debts, z0_spareGround_near, .int x8, .int x9, .int x10, .int x13])), (a0_spareGround_debts, .inl (cyI, 36, .inl f11)), (a0_tape_bytes, .inl (cyB, 600, .inl f0_tape_bytes)), (a0_spareGround_formX, .inl (cyI, 8, .inl f0_spareGround_formX)), (a0_spareGround_foxX, .inl (cyI, 4, .inl f0_spareGround_foxX)), (a0_spareGround_formY, .inl (cyI, 8, .inl f0_spareGround_formY)), (a0_spareGround_foxY, .inl (cyI, 4, .inl f0_spareGround_foxY)), (a0_rule, .inr (4, [.ref a0_rule_kinds, .ref a0_rule_values, z0_rule_pile, z0_rule_facts, .int x16])), (a0_rule_kinds, .inl (cyI, 150, .inl f17)), (a0_rule_values, .inl (cyI, 150, .inl f18)), (a0_lines, .inr (0, [.ref a0_lines_seen, .int x19])), (a0_lines_seen, .inl (cyI, 8, .inl f20)), (a0_now, .inr (1, [.ref a0_now_row, z0_now_owedEach, .ref a0_spareGround, .ref a0_rule])), (a0_now_row, .inl (cyI, 64, .inl f21)), (a0_spareGround_seat, .inl (cyI, 6, .inl f0_spareGround_seat)), (a0_spareGround_strength, .inl (cyI, 6, .inl f0_spareGround_strength)), (a0_past, .inr (5, [z0_past_rows, .int 0]))] := hD
    refine lv_aload_n hx hb dX10_down_105 rfl (lv_at hl 1 rfl) ?_
    refine va_get (D := (dC, dI)) (ci := 10) (v := .ref a0_spareGround) (C := RX10) (T := TX10) (N := 19) hx hb hts ui_X10_down_X10 hown hK hP 0 rfl rfl 1 (by decide) (hts _ uw_X10_down_f19) (fun _ h9 => h9) rfl dX10_down_106 ?_
    refine va_get (D := (dC, dI)) (ci := 2) (v := .int x9) (C := RX2) (T := TX2) (N := 12) hx hb hts ui_X10_down_X2 hown hK hP 2 rfl rfl 9 (by decide) (hts _ uw_X10_down_f141) (fun _ h9 => h9) rfl dX10_down_109 ?_
    exact vx_ret (W.widen (k := 1) (n := 6) (Nat.le_of_ble_eq_true rfl) (Nat.le_of_ble_eq_true rfl) (W.iret (v := x9) hx hb hr (fun t ht hW => ⟨⟨x9, (x1, x2, x12, x4, x5, x6, x7, x8, x9, x10, f11, x13, (.ref a0_spareGround), (.ref a0_ground), x16, f17, f18, x19, f20, f21, (.ref a0_spareGround), (.ref a0_rule), 0, 0, 0), rfl, hw, by rw [ht]; exact hP, va_K.moved hW.alike hK, hD⟩, hS.F ht⟩) hS.2.2 dX10_down_112))
  · have hw := hw.2 c15
    refine lv_aload_n hx hb dX10_down_29 rfl (lv_at hl 0 rfl) ?_
    refine va_get (D := (dC, dI)) (ci := 10) (v := .ref a0_tape) (C := RX10) (T := TX10) (N := 19) hx hb hts ui_X10_down_X10 hown hK hP 0 rfl rfl 0 (by decide) (hts _ uw_X10_down_f10) (fun _ h9 => h9) rfl dX10_down_30 ?_
    refine va_get (D := (dC, dI)) (ci := 8) (v := .int x6) (C := RX8) (T := TX8) (N := 7) hx hb hts ui_X10_down_X8 hown hK hP 1 rfl rfl 5 (by decide) (hts _ uw_X10_down_f120) (fun _ h9 => h9) rfl dX10_down_33 ?_
    refine lv_bipush (v := 10) hx hb dX10_down_36 (by decide) ?_
    refine lv_isub hx hb dX10_down_38 ?_
    exact vx_ret (W.widen (k := 1) (n := 6) (Nat.le_of_ble_eq_true rfl) (Nat.le_of_ble_eq_true rfl) (W.iret (v := (x6 - 10)) hx hb hr (fun t ht hW => ⟨⟨(x6 - 10), (x1, x2, x12, x4, x5, x6, x7, x8, x9, x10, f11, x13, (.ref a0_ground), (.ref a0_spareGround), v0_rule_length, f0_rule_kinds, f0_rule_values, v0_lines_many, f0_lines_seen, f0_now_row, r0_now_down, r0_now_law, v0_past_kept, v0_imagesKept, v0_refusedSteps), rfl, hw, by rw [ht]; exact hP, va_K.moved hW.alike hK, hD⟩, hS.F ht⟩) hS.2.2 dX10_down_39))
theorem ui_X8_seesDigit_X8 : ∀ w ∈ u_ws RX8 TX8 7, w ∈ wsX8_seesDigit := by decide +kernel
theorem uw_X8_seesDigit_f31 : (.fieldLink RX8 31 "MarchHares$Tape" "at" "I" : Cond) ∈ wsX8_seesDigit := by decide +kernel
def wq_X8_seesDigit (v0_length : Int32) (f0_bytes : Nat → Int32) (v0_at : Int32)  (Q : Int32 → Int32 → Prop) : Prop := wq_X8_skipBlanks v0_length f0_bytes v0_at  (fun x1 => wq_X8_digitAt v0_length f0_bytes  x1 (fun r2 => ((r2 < 0 → (Q 0 x1)) ∧ (¬ r2 < 0 → (Q 1 x1)))))
set_option maxHeartbeats 4000000 in
set_option maxRecDepth 100000 in
theorem ck_X8_seesDigit (l : Launch) (dC : Nat → ClassId) (dI : Nat → Nat → Nat) (cyB cyI cyJ cyP : ClassId) (a0 a0_bytes : Nat) (sz : Nat) (z0_token : Value) (z0_filled : Value) (z0_fault : Value) (z0_faultPlace : Value) (v0_length : Int32) (f0_bytes : Nat → Int32) (v0_at : Int32)  {Q : Int32 → Int32 → Prop} (hw : wq_X8_seesDigit v0_length f0_bytes v0_at  Q) : Met l yX8_seesDigit wsX8_seesDigit ({ frames := 1, cells := 0, slots := 0, locals := 21 }) (va_Pc [.ref a0] (cPc (dC, dI) (kT cyB cyI cyJ cyP) [(a0, .inr (8, [.ref a0_bytes, .int v0_length, .int v0_at, z0_token, z0_filled, z0_fault, z0_faultPlace])), (a0_bytes, .inl (cyB, 600, .inl f0_bytes))] sz)) (va_Qi (fun (r : Int32) (u : Int32) => Q r u) (cB (dC, dI) (kT cyB cyI cyJ cyP) (va_A [(a0, .inr (8, [.ref a0_bytes, .int v0_length, .int v0_at, z0_token, z0_filled, z0_fault, z0_faultPlace])), (a0_bytes, .inl (cyB, 600, .inl f0_bytes))] sz) (fun u : Int32 => ([(a0, .inr (8, [.ref a0_bytes, .int v0_length, .int u, z0_token, z0_filled, z0_fault, z0_faultPlace])), (a0_bytes, .inl (cyB, 600, .inl f0_bytes))] : va_W))) (va_A [(a0, .inr (8, [.ref a0_bytes, .int v0_length, .int v0_at, z0_token, z0_filled, z0_fault, z0_faultPlace])), (a0_bytes, .inl (cyB, 600, .inl f0_bytes))] sz)) 0 0 (va_A [(a0, .inr (8, [.ref a0_bytes, .int v0_length, .int v0_at, z0_token, z0_filled, z0_fault, z0_faultPlace])), (a0_bytes, .inl (cyB, 600, .inl f0_bytes))] sz) := by
  refine Met.ofW (cc := cX8_seesDigit) (maxL := 1) (ret := (some .boolean)) (by decide) rfl ?_
  intro p e s m args below meth c s₁ B hml hv
  obtain ⟨rfl, hsz, hP, hK, hD0, hNw⟩ := hv
  have hx := B.exec
  have hb := B.bytes
  have hr := B.returns
  have hts := atoms_spec (ws := wsX8_seesDigit) B.pre
  have hown : s.vm.findClass RX8 = some m.cls := findClass_of_methodNamed B.named
  have hlocks := B.notSynchronized
  subst hsz
  have hD := hD0.self (sz := s.heap.size)
  generalize hAe : va_A [(a0, .inr (8, [.ref a0_bytes, .int v0_length, .int v0_at, z0_token, z0_filled, z0_fault, z0_faultPlace])), (a0_bytes, .inl (cyB, 600, .inl f0_bytes))] s.heap.size = A at hD ⊢
  have hA : ∀ q : Nat, s.heap.size ≤ q → A q := fun q h => by rw [← hAe]; exact Or.inr h
  have hS : va_S A s.heap s.heap [] := va_S.rf
  have hP : va_P (dC, dI) vwCl [(a0, .inr (8, [.ref a0_bytes, .int v0_length, .int v0_at, z0_token, z0_filled, z0_fault, z0_faultPlace])), (a0_bytes, .inl (cyB, 600, .inl f0_bytes))] s.heap := hP
  have hl := lv_entry ([.ref a0]) (n := 1) (Nat.le_of_ble_eq_true rfl)
  rw [lg_entry_eq]
  generalize (lg_sl ([.ref a0]) ++ List.replicate (1 - (lg_sl ([.ref a0])).length) Slot.unset).toArray = ls at hl ⊢
  have hl : lv_has ls 1 [(0, .ref a0)] := hl
  have C0 : cfx p s m _ meth c cX8_seesDigit (some .boolean) wsX8_seesDigit RX8 1 A (dC, dI) (kT cyB cyI cyJ cyP) := ⟨hx, hb, hr, hts, hown, hlocks, hml, hA, hK, hNw⟩
  clear hAe
  obtain ⟨H, hH⟩ : ∃ H, H = s.heap := ⟨_, rfl⟩
  rw [← hH] at hP ⊢
  have hS : va_S A s.heap H [] := by rw [hH]; exact va_S.rf
  have hS := hS
  refine lv_aload_n hx hb dX8_seesDigit_0 rfl (lv_at hl 0 rfl) ?_
  have hPc := hP.sub (ws' := [(a0, .inr (8, [.ref a0_bytes, .int v0_length, .int v0_at, z0_token, z0_filled, z0_fault, z0_faultPlace])), (a0_bytes, .inl (cyB, 600, .inl f0_bytes))]) [0, 1] rfl
  have hDc := hD.sub (ws' := [(a0, .inr (8, [.ref a0_bytes, .int v0_length, .int v0_at, z0_token, z0_filled, z0_fault, z0_faultPlace])), (a0_bytes, .inl (cyB, 600, .inl f0_bytes))]) [0, 1] (by decide) rfl
  have hFc := va_free (wc := [(a0, .inr (8, [.ref a0_bytes, .int v0_length, .int v0_at, z0_token, z0_filled, z0_fault, z0_faultPlace])), (a0_bytes, .inl (cyB, 600, .inl f0_bytes))]) hD hS hA [0, 1] rfl
  refine va_callv (va_runV (As := []) (rest := []) ⟨hx, hb, hml, hown, hts⟩ (ck_X8_skipBlanks l dC dI cyB cyI cyJ cyP a0 a0_bytes H.size (z0_token) (z0_filled) (z0_fault) (z0_faultPlace) v0_length f0_bytes v0_at  hw) (cwV 0 hts gX8_seesDigit_X8_skipBlanks rfl rfl rfl (by decide +kernel) ⟨Nat.le_of_ble_eq_true rfl, Nat.le_of_ble_eq_true rfl⟩) ⟨cPc_blind, va_recv hK hPc (ci := 8) (q0 := 0) rfl rfl, cPc_pre hPc hK hDc hNw⟩ rfl rfl hl.1 rfl (lv_room (Nat.le_of_ble_eq_true rfl)) dX8_seesDigit_1 ⟨Nat.le_of_ble_eq_true rfl, Nat.le_of_ble_eq_true rfl⟩) hS (fun q _ h => hFc q h) hFc (fun u t H1 locs ht hvm hw hB hz1 hk1 hS => ?_)
  obtain ⟨x1, rfl⟩ : ∃ z, z = u := ⟨_, rfl⟩
  obtain ⟨hP1, hK1, hD1⟩ := hB
  rw [ht] at hP1
  obtain ⟨hP, hD⟩ := va_join (wr := []) (w1 := [(a0, .inr (8, [.ref a0_bytes, .int v0_length, .int x1, z0_token, z0_filled, z0_fault, z0_faultPlace])), (a0_bytes, .inl (cyB, 600, .inl f0_bytes))]) hP hD [0, 1] [] rfl rfl (by decide) (by decide) hk1 hFc hP1 hD1
  have hP : va_P (dC, dI) vwCl [(a0, .inr (8, [.ref a0_bytes, .int v0_length, .int x1, z0_token, z0_filled, z0_fault, z0_faultPlace])), (a0_bytes, .inl (cyB, 600, .inl f0_bytes))] H1 := hP
  have hD : va_D A [(a0, .inr (8, [.ref a0_bytes, .int v0_length, .int x1, z0_token, z0_filled, z0_fault, z0_faultPlace])), (a0_bytes, .inl (cyB, 600, .inl f0_bytes))] := hD
  generalize H1 = H at hP hS ⊢
  refine lv_aload_n hx hb dX8_seesDigit_4 rfl (lv_at hl 0 rfl) ?_
  refine lv_aload_n hx hb dX8_seesDigit_5 rfl (lv_at hl 0 rfl) ?_
  refine va_get (D := (dC, dI)) (ci := 8) (v := .int x1) (C := RX8) (T := TX8) (N := 7) hx hb hts ui_X8_seesDigit_X8 hown hK hP 0 rfl rfl 2 (by decide) (hts _ uw_X8_seesDigit_f31) (fun _ h9 => h9) rfl dX8_seesDigit_6 ?_
  have hPc := hP.sub (ws' := [(a0, .inr (8, [.ref a0_bytes, .int v0_length, .int x1, z0_token, z0_filled, z0_fault, z0_faultPlace])), (a0_bytes, .inl (cyB, 600, .inl f0_bytes))]) [0, 1] rfl
  have hDc := hD.sub (ws' := [(a0, .inr (8, [.ref a0_bytes, .int v0_length, .int x1, z0_token, z0_filled, z0_fault, z0_faultPlace])), (a0_bytes, .inl (cyB, 600, .inl f0_bytes))]) [0, 1] (by decide) rfl
  have hFc := va_free (wc := [(a0, .inr (8, [.ref a0_bytes, .int v0_length, .int x1, z0_token, z0_filled, z0_fault, z0_faultPlace])), (a0_bytes, .inl (cyB, 600, .inl f0_bytes))]) hD hS hA [0, 1] rfl
  refine va_calli (va_runV (As := [.int x1]) (rest := []) ⟨hx, hb, hml, hown, hts⟩ (ck_X8_digitAt l dC dI cyB cyI cyJ cyP a0 a0_bytes H.size (.int x1) (z0_token) (z0_filled) (z0_fault) (z0_faultPlace) v0_length f0_bytes  x1 hw) (cwV 1 hts gX8_seesDigit_X8_digitAt rfl rfl rfl (by decide +kernel) ⟨Nat.le_of_ble_eq_true rfl, Nat.le_of_ble_eq_true rfl⟩) ⟨cPc_blind, va_recv hK hPc (ci := 8) (q0 := 0) rfl rfl, cPc_pre hPc hK hDc hNw⟩ rfl rfl hl.1 rfl (lv_room (Nat.le_of_ble_eq_true rfl)) dX8_seesDigit_9 ⟨Nat.le_of_ble_eq_true rfl, Nat.le_of_ble_eq_true rfl⟩) hS (fun q _ h => hFc q h) hFc (fun r2 u t H1 locs ht hvm hw hB hz1 hk1 hS => ?_)
  obtain ⟨hP1, hK1, hD1⟩ := hB
  rw [ht] at hP1
  obtain ⟨hP, hD⟩ := va_join (wr := []) (w1 := [(a0, .inr (8, [.ref a0_bytes, .int v0_length, .int x1, z0_token, z0_filled, z0_fault, z0_faultPlace])), (a0_bytes, .inl (cyB, 600, .inl f0_bytes))]) hP hD [0, 1] [] rfl rfl (by decide) (by decide) hk1 hFc hP1 hD1
  have hP : va_P (dC, dI) vwCl [(a0, .inr (8, [.ref a0_bytes, .int v0_length, .int x1, z0_token, z0_filled, z0_fault, z0_faultPlace])), (a0_bytes, .inl (cyB, 600, .inl f0_bytes))] H1 := hP
  have hD : va_D A [(a0, .inr (8, [.ref a0_bytes, .int v0_length, .int x1, z0_token, z0_filled, z0_fault, z0_faultPlace])), (a0_bytes, .inl (cyB, 600, .inl f0_bytes))] := hD
  generalize H1 = H at hP hS ⊢
  refine lv_if_lt (tgt := 19) hx hb dX8_seesDigit_12 (by decide) (fun c3 => ?_) (fun c3 => ?_)
  · have hw := hw.1 c3
    refine lv_iconst (v := 0) hx hb dX8_seesDigit_19 (by decide) ?_
    exact ((W.zret (v := 0) hx hb hr rfl (fun t ht hW => ⟨⟨0, (x1), rfl, hw, by rw [ht]; exact hP, va_K.moved hW.alike hK, hD⟩, hS.F ht⟩) hS.2.2 dX8_seesDigit_20))
  · have hw := hw.2 c3
    refine lv_iconst (v := 1) hx hb dX8_seesDigit_15 (by decide) ?_
    refine lv_goto (tgt := 20) hx hb dX8_seesDigit_16 (by decide) ?_
    exact ((W.zret (v := 1) hx hb hr rfl (fun t ht hW => ⟨⟨1, (x1), rfl, hw, by rw [ht]; exact hP, va_K.moved hW.alike hK, hD⟩, hS.F ht⟩) hS.2.2 dX8_seesDigit_20))
def wq_X4_readInner (v1_token : Int32) (v1_fault : Int32) (v1_faultPlace : Int32) (p2 : Int32) (Q : Int32 → Int32 → Prop) : Prop := ((p2 < 6 → ∀ x2 : Int32, x2 = p2 + 1 → False) ∧ (¬ p2 < 6 → wq_X8_blameToken v1_token v1_fault v1_faultPlace 3 (fun x3 x4 => (Q x3 x4))))
set_option maxHeartbeats 4000000 in
set_option maxRecDepth 100000 in
theorem ck_X4_readInner (l : Launch) (dC : Nat → ClassId) (dI : Nat → Nat → Nat) (cyB cyI cyJ cyP : ClassId) (a0 a1 : Nat) (sz : Nat) (z0_kinds : Value) (z0_values : Value) (z0_pile : Value) (z0_facts : Value) (z0_length : Value) (z1_bytes : Value) (z1_length : Value) (z1_at : Value) (z1_filled : Value) (v1_token : Int32) (v1_fault : Int32) (v1_faultPlace : Int32) (p2 : Int32) {Q : Int32 → Int32 → Prop} (hw : wq_X4_readInner v1_token v1_fault v1_faultPlace p2 Q) : Met l yX4_readInner wsX4_readInner ({ frames := 2, cells := 0, slots := 0, locals := 43 }) (va_Pc [.ref a0, .ref a1, .int p2] (cPc (dC, dI) (kT cyB cyI cyJ cyP) [(a0, .inr (4, [z0_kinds, z0_values, z0_pile, z0_facts, z0_length])), (a1, .inr (8, [z1_bytes, z1_length, z1_at, .int v1_token, z1_filled, .int v1_fault, .int v1_faultPlace]))] sz)) (va_Qv (fun (u : Int32 × Int32) => Q u.1 u.2) (cB (dC, dI) (kT cyB cyI cyJ cyP) (va_A [(a0, .inr (4, [z0_kinds, z0_values, z0_pile, z0_facts, z0_length])), (a1, .inr (8, [z1_bytes, z1_length, z1_at, .int v1_token, z1_filled, .int v1_fault, .int v1_faultPlace]))] sz) (fun u : Int32 × Int32 => ([(a0, .inr (4, [z0_kinds, z0_values, z0_pile, z0_facts, z0_length])), (a1, .inr (8, [z1_bytes, z1_length, z1_at, .int v1_token, z1_filled, .int u.1, .int u.2]))] : va_W))) (va_A [(a0, .inr (4, [z0_kinds, z0_values, z0_pile, z0_facts, z0_length])), (a1, .inr (8, [z1_bytes, z1_length, z1_at, .int v1_token, z1_filled, .int v1_fault, .int v1_faultPlace]))] sz)) 0 0 (va_A [(a0, .inr (4, [z0_kinds, z0_values, z0_pile, z0_facts, z0_length])), (a1, .inr (8, [z1_bytes, z1_length, z1_at, .int v1_token, z1_filled, .int v1_fault, .int v1_faultPlace]))] sz) := by
  refine Met.ofW (cc := cX4_readInner) (maxL := 3) (ret := none) (by decide) rfl ?_
  intro p e s m args below meth c s₁ B hml hv
  obtain ⟨rfl, hsz, hP, hK, hD0, hNw⟩ := hv
  have hx := B.exec
  have hb := B.bytes
  have hr := B.returns
  have hts := atoms_spec (ws := wsX4_readInner) B.pre
  have hown : s.vm.findClass RX4 = some m.cls := findClass_of_methodNamed B.named
  have hlocks := B.notSynchronized
  subst hsz
  have hD := hD0.self (sz := s.heap.size)
  generalize hAe : va_A [(a0, .inr (4, [z0_kinds, z0_values, z0_pile, z0_facts, z0_length])), (a1, .inr (8, [z1_bytes, z1_length, z1_at, .int v1_token, z1_filled, .int v1_fault, .int v1_faultPlace]))] s.heap.size = A at hD ⊢
  have hA : ∀ q : Nat, s.heap.size ≤ q → A q := fun q h => by rw [← hAe]; exact Or.inr h
  have hS : va_S A s.heap s.heap [] := va_S.rf
  have hP : va_P (dC, dI) vwCl [(a0, .inr (4, [z0_kinds, z0_values, z0_pile, z0_facts, z0_length])), (a1, .inr (8, [z1_bytes, z1_length, z1_at, .int v1_token, z1_filled, .int v1_fault, .int v1_faultPlace]))] s.heap := hP
  have hl := lv_entry ([.ref a0, .ref a1, .int p2]) (n := 3) (Nat.le_of_ble_eq_true rfl)
  rw [lg_entry_eq]
  generalize (lg_sl ([.ref a0, .ref a1, .int p2]) ++ List.replicate (3 - (lg_sl ([.ref a0, .ref a1, .int p2])).length) Slot.unset).toArray = ls at hl ⊢
  have hl : lv_has ls 3 [(0, .ref a0), (1, .ref a1), (2, .int p2)] := hl
  have C0 : cfx p s m _ meth c cX4_readInner none wsX4_readInner RX4 3 A (dC, dI) (kT cyB cyI cyJ cyP) := ⟨hx, hb, hr, hts, hown, hlocks, hml, hA, hK, hNw⟩
  clear hAe
  obtain ⟨H, hH⟩ : ∃ H, H = s.heap := ⟨_, rfl⟩
  rw [← hH] at hP ⊢
  have hS : va_S A s.heap H [] := by rw [hH]; exact va_S.rf
  have hS := hS
  refine lv_iload_n hx hb dX4_readInner_0 rfl (lv_at hl 2 rfl) ?_
  refine lv_bipush (v := 6) hx hb dX4_readInner_1 (by decide) ?_
  refine lv_icmp_lt (tgt := 12) hx hb dX4_readInner_3 (by decide) (fun c1 => ?_) (fun c1 => ?_)
  · have hw := hw.1 c1
    refine lv_aload_n hx hb dX4_readInner_12 rfl (lv_at hl 0 rfl) ?_
    refine lv_aload_n hx hb dX4_readInner_13 rfl (lv_at hl 1 rfl) ?_
    refine lv_iload_n hx hb dX4_readInner_14 rfl (lv_at hl 2 rfl) ?_
    refine lv_iconst (v := 1) hx hb dX4_readInner_15 (by decide) ?_
    refine lv_iadd hx hb dX4_readInner_16 ?_
    refine lv_topi (fun x2 ex2 => ?_)
    have hw := hw x2 ex2
    exact False.elim hw
  · have hw := hw.2 c1
    refine lv_aload_n hx hb dX4_readInner_6 rfl (lv_at hl 1 rfl) ?_
    refine lv_iconst (v := 3) hx hb dX4_readInner_7 (by decide) ?_
    have hPc := hP.sub (ws' := [(a1, .inr (8, [z1_bytes, z1_length, z1_at, .int v1_token, z1_filled, .int v1_fault, .int v1_faultPlace]))]) [1] rfl
    have hDc := hD.sub (ws' := [(a1, .inr (8, [z1_bytes, z1_length, z1_at, .int v1_token, z1_filled, .int v1_fault, .int v1_faultPlace]))]) [1] (by decide) rfl
    have hFc := va_free (wc := [(a1, .inr (8, [z1_bytes, z1_length, z1_at, .int v1_token, z1_filled, .int v1_fault, .int v1_faultPlace]))]) hD hS hA [1] rfl
    refine va_callv (va_runV (As := [.int 3]) (rest := []) ⟨hx, hb, hml, hown, hts⟩ (ck_X8_blameToken l dC dI cyB cyI cyJ cyP a1 H.size (z1_bytes) (z1_length) (z1_at) (z1_filled) v1_token v1_fault v1_faultPlace 3 hw) (cwV 1 hts gX4_readInner_X8_blameToken rfl rfl rfl (by decide +kernel) ⟨Nat.le_of_ble_eq_true rfl, Nat.le_of_ble_eq_true rfl⟩) ⟨cPc_blind, va_recv hK hPc (ci := 8) (q0 := 0) rfl rfl, cPc_pre hPc hK hDc hNw⟩ rfl rfl hl.1 rfl (lv_room (Nat.le_of_ble_eq_true rfl)) dX4_readInner_8 ⟨Nat.le_of_ble_eq_true rfl, Nat.le_of_ble_eq_true rfl⟩) hS (fun q _ h => hFc q h) hFc (fun u t H1 locs ht hvm hw hB hz1 hk1 hS => ?_)
    obtain ⟨x3, x4⟩ := u
    obtain ⟨hP1, hK1, hD1⟩ := hB
    rw [ht] at hP1
    obtain ⟨hP, hD⟩ := va_join (wr := [(a0, .inr (4, [z0_kinds, z0_values, z0_pile, z0_facts, z0_length]))]) (w1 := [(a1, .inr (8, [z1_bytes, z1_length, z1_at, .int v1_token, z1_filled, .int x3, .int x4]))]) hP hD [1] [0] rfl rfl (by decide) (by decide) hk1 hFc hP1 hD1
    have hP : va_P (dC, dI) vwCl [(a0, .inr (4, [z0_kinds, z0_values, z0_pile, z0_facts, z0_length])), (a1, .inr (8, [z1_bytes, z1_length, z1_at, .int v1_token, z1_filled, .int x3, .int x4]))] H1 := hP
    have hD : va_D A [(a0, .inr (4, [z0_kinds, z0_values, z0_pile, z0_facts, z0_length])), (a1, .inr (8, [z1_bytes, z1_length, z1_at, .int v1_token, z1_filled, .int x3, .int x4]))] := hD
    generalize H1 = H at hP hS ⊢
    exact ((W.vret hx hb hr (fun t ht hW => ⟨⟨(x3, x4), rfl, hw, by rw [ht]; exact hP, va_K.moved hW.alike hK, hD⟩, hS.F ht⟩) hS.2.2 dX4_readInner_11))
def wq_X4_readPair (v1_length : Int32) (f1_bytes : Nat → Int32) (v1_at : Int32) (v1_token : Int32) (v1_fault : Int32) (v1_faultPlace : Int32) (p2 : Int32) (p3 : Int32) (Q : Int32 → Int32 → Int32 → Int32 → Prop) : Prop := ((p2 < 6 → wq_X8_needs v1_length f1_bytes v1_at v1_token v1_fault v1_faultPlace 91 (fun x2 x3 x4 x5 => ∀ x6 : Int32, x6 = p2 + 1 → False)) ∧ (¬ p2 < 6 → wq_X8_blameToken v1_token v1_fault v1_faultPlace 3 (fun x7 x8 => (Q v1_at v1_token x7 x8))))
set_option maxHeartbeats 4000000 in
set_option maxRecDepth 100000 in
theorem ck_X4_readPair (l : Launch) (dC : Nat → ClassId) (dI : Nat → Nat → Nat) (cyB cyI cyJ cyP : ClassId) (a0 a1 a1_bytes : Nat) (sz : Nat) (z0_kinds : Value) (z0_values : Value) (z0_pile : Value) (z0_facts : Value) (z0_length : Value) (z1_filled : Value) (v1_length : Int32) (f1_bytes : Nat → Int32) (v1_at : Int32) (v1_token : Int32) (v1_fault : Int32) (v1_faultPlace : Int32) (p2 : Int32) (p3 : Int32) {Q : Int32 → Int32 → Int32 → Int32 → Prop} (hw : wq_X4_readPair v1_length f1_bytes v1_at v1_token v1_fault v1_faultPlace p2 p3 Q) : Met l yX4_readPair wsX4_readPair ({ frames := 3, cells := 0, slots := 0, locals := 63 }) (va_Pc [.ref a0, .ref a1, .int p2, .int p3] (cPc (dC, dI) (kT cyB cyI cyJ cyP) [(a0, .inr (4, [z0_kinds, z0_values, z0_pile, z0_facts, z0_length])), (a1, .inr (8, [.ref a1_bytes, .int v1_length, .int v1_at, .int v1_token, z1_filled, .int v1_fault, .int v1_faultPlace])), (a1_bytes, .inl (cyB, 600, .inl f1_bytes))] sz)) (va_Qv (fun (u : Int32 × Int32 × Int32 × Int32) => Q u.1 u.2.1 u.2.2.1 u.2.2.2) (cB (dC, dI) (kT cyB cyI cyJ cyP) (va_A [(a0, .inr (4, [z0_kinds, z0_values, z0_pile, z0_facts, z0_length])), (a1, .inr (8, [.ref a1_bytes, .int v1_length, .int v1_at, .int v1_token, z1_filled, .int v1_fault, .int v1_faultPlace])), (a1_bytes, .inl (cyB, 600, .inl f1_bytes))] sz) (fun u : Int32 × Int32 × Int32 × Int32 => ([(a0, .inr (4, [z0_kinds, z0_values, z0_pile, z0_facts, z0_length])), (a1, .inr (8, [.ref a1_bytes, .int v1_length, .int u.1, .int u.2.1, z1_filled, .int u.2.2.1, .int u.2.2.2])), (a1_bytes, .inl (cyB, 600, .inl f1_bytes))] : va_W))) (va_A [(a0, .inr (4, [z0_kinds, z0_values, z0_pile, z0_facts, z0_length])), (a1, .inr (8, [.ref a1_bytes, .int v1_length, .int v1_at, .int v1_token, z1_filled, .int v1_fault, .int v1_faultPlace])), (a1_bytes, .inl (cyB, 600, .inl f1_bytes))] sz)) 0 0 (va_A [(a0, .inr (4, [z0_kinds, z0_values, z0_pile, z0_facts, z0_length])), (a1, .inr (8, [.ref a1_bytes, .int v1_length, .int v1_at, .int v1_token, z1_filled, .int v1_fault, .int v1_faultPlace])), (a1_bytes, .inl (cyB, 600, .inl f1_bytes))] sz) := by
  refine Met.ofW (cc := cX4_readPair) (maxL := 4) (ret := none) (by decide) rfl ?_
  intro p e s m args below meth c s₁ B hml hv
  obtain ⟨rfl, hsz, hP, hK, hD0, hNw⟩ := hv
  have hx := B.exec
  have hb := B.bytes
  have hr := B.returns
  have hts := atoms_spec (ws := wsX4_readPair) B.pre
  have hown : s.vm.findClass RX4 = some m.cls := findClass_of_methodNamed B.named
  have hlocks := B.notSynchronized
  subst hsz
  have hD := hD0.self (sz := s.heap.size)
  generalize hAe : va_A [(a0, .inr (4, [z0_kinds, z0_values, z0_pile, z0_facts, z0_length])), (a1, .inr (8, [.ref a1_bytes, .int v1_length, .int v1_at, .int v1_token, z1_filled, .int v1_fault, .int v1_faultPlace])), (a1_bytes, .inl (cyB, 600, .inl f1_bytes))] s.heap.size = A at hD ⊢
  have hA : ∀ q : Nat, s.heap.size ≤ q → A q := fun q h => by rw [← hAe]; exact Or.inr h
  have hS : va_S A s.heap s.heap [] := va_S.rf
  have hP : va_P (dC, dI) vwCl [(a0, .inr (4, [z0_kinds, z0_values, z0_pile, z0_facts, z0_length])), (a1, .inr (8, [.ref a1_bytes, .int v1_length, .int v1_at, .int v1_token, z1_filled, .int v1_fault, .int v1_faultPlace])), (a1_bytes, .inl (cyB, 600, .inl f1_bytes))] s.heap := hP
  have hl := lv_entry ([.ref a0, .ref a1, .int p2, .int p3]) (n := 4) (Nat.le_of_ble_eq_true rfl)
  rw [lg_entry_eq]
  generalize (lg_sl ([.ref a0, .ref a1, .int p2, .int p3]) ++ List.replicate (4 - (lg_sl ([.ref a0, .ref a1, .int p2, .int p3])).length) Slot.unset).toArray = ls at hl ⊢
  have hl : lv_has ls 4 [(0, .ref a0), (1, .ref a1), (2, .int p2), (3, .int p3)] := hl
  have C0 : cfx p s m _ meth c cX4_readPair none wsX4_readPair RX4 4 A (dC, dI) (kT cyB cyI cyJ cyP) := ⟨hx, hb, hr, hts, hown, hlocks, hml, hA, hK, hNw⟩
  clear hAe
  obtain ⟨H, hH⟩ : ∃ H, H = s.heap := ⟨_, rfl⟩
  rw [← hH] at hP ⊢
  have hS : va_S A s.heap H [] := by rw [hH]; exact va_S.rf
  have hS := hS
  refine lv_iload_n hx hb dX4_readPair_0 rfl (lv_at hl 2 rfl) ?_
  refine lv_bipush (v := 6) hx hb dX4_readPair_1 (by decide) ?_
  refine lv_icmp_lt (tgt := 12) hx hb dX4_readPair_3 (by decide) (fun c1 => ?_) (fun c1 => ?_)
  · have hw := hw.1 c1
    refine lv_aload_n hx hb dX4_readPair_12 rfl (lv_at hl 1 rfl) ?_
    refine lv_bipush (v := 91) hx hb dX4_readPair_13 (by decide) ?_
    have hPc := hP.sub (ws' := [(a1, .inr (8, [.ref a1_bytes, .int v1_length, .int v1_at, .int v1_token, z1_filled, .int v1_fault, .int v1_faultPlace])), (a1_bytes, .inl (cyB, 600, .inl f1_bytes))]) [1, 2] rfl
    have hDc := hD.sub (ws' := [(a1, .inr (8, [.ref a1_bytes, .int v1_length, .int v1_at, .int v1_token, z1_filled, .int v1_fault, .int v1_faultPlace])), (a1_bytes, .inl (cyB, 600, .inl f1_bytes))]) [1, 2] (by decide) rfl
    have hFc := va_free (wc := [(a1, .inr (8, [.ref a1_bytes, .int v1_length, .int v1_at, .int v1_token, z1_filled, .int v1_fault, .int v1_faultPlace])), (a1_bytes, .inl (cyB, 600, .inl f1_bytes))]) hD hS hA [1, 2] rfl
    refine va_callv (va_runV (As := [.int 91]) (rest := []) ⟨hx, hb, hml, hown, hts⟩ (ck_X8_needs l dC dI cyB cyI cyJ cyP a1 a1_bytes H.size (z1_filled) v1_length f1_bytes v1_at v1_token v1_fault v1_faultPlace 91 hw) (cwV 1 hts gX4_readPair_X8_needs rfl rfl rfl (by decide +kernel) ⟨Nat.le_of_ble_eq_true rfl, Nat.le_of_ble_eq_true rfl⟩) ⟨cPc_blind, va_recv hK hPc (ci := 8) (q0 := 0) rfl rfl, cPc_pre hPc hK hDc hNw⟩ rfl rfl hl.1 rfl (lv_room (Nat.le_of_ble_eq_true rfl)) dX4_readPair_15 ⟨Nat.le_of_ble_eq_true rfl, Nat.le_of_ble_eq_true rfl⟩) hS (fun q _ h => hFc q h) hFc (fun u t H1 locs ht hvm hw hB hz1 hk1 hS => ?_)
    obtain ⟨x2, x3, x4, x5⟩ := u
    obtain ⟨hP1, hK1, hD1⟩ := hB
    rw [ht] at hP1
    obtain ⟨hP, hD⟩ := va_join (wr := [(a0, .inr (4, [z0_kinds, z0_values, z0_pile, z0_facts, z0_length]))]) (w1 := [(a1, .inr (8, [.ref a1_bytes, .int v1_length, .int x2, .int x3, z1_filled, .int x4, .int x5])), (a1_bytes, .inl (cyB, 600, .inl f1_bytes))]) hP hD [1, 2] [0] rfl rfl (by decide) (by decide) hk1 hFc hP1 hD1
    have hP : va_P (dC, dI) vwCl [(a0, .inr (4, [z0_kinds, z0_values, z0_pile, z0_facts, z0_length])), (a1, .inr (8, [.ref a1_bytes, .int v1_length, .int x2, .int x3, z1_filled, .int x4, .int x5])), (a1_bytes, .inl (cyB, 600, .inl f1_bytes))] H1 := hP
    have hD : va_D A [(a0, .inr (4, [z0_kinds, z0_values, z0_pile, z0_facts, z0_length])), (a1, .inr (8, [.ref a1_bytes, .int v1_length, .int x2, .int x3, z1_filled, .int x4, .int x5])), (a1_bytes, .inl (cyB, 600, .inl f1_bytes))] := hD
    generalize H1 = H at hP hS ⊢
    refine lv_aload_n hx hb dX4_readPair_18 rfl (lv_at hl 0 rfl) ?_
    refine lv_aload_n hx hb dX4_readPair_19 rfl (lv_at hl 1 rfl) ?_
    refine lv_iload_n hx hb dX4_readPair_20 rfl (lv_at hl 2 rfl) ?_
    refine lv_iconst (v := 1) hx hb dX4_readPair_21 (by decide) ?_
    refine lv_iadd hx hb dX4_readPair_22 ?_
    refine lv_topi (fun x6 ex6 => ?_)
    have hw := hw x6 ex6
    exact False.elim hw
  · have hw := hw.2 c1
    refine lv_aload_n hx hb dX4_readPair_6 rfl (lv_at hl 1 rfl) ?_
    refine lv_iconst (v := 3) hx hb dX4_readPair_7 (by decide) ?_
    have hPc := hP.sub (ws' := [(a1, .inr (8, [.ref a1_bytes, .int v1_length, .int v1_at, .int v1_token, z1_filled, .int v1_fault, .int v1_faultPlace]))]) [1] rfl
    have hDc := hD.sub (ws' := [(a1, .inr (8, [.ref a1_bytes, .int v1_length, .int v1_at, .int v1_token, z1_filled, .int v1_fault, .int v1_faultPlace]))]) [1] (by decide) rfl
    have hFc := va_free (wc := [(a1, .inr (8, [.ref a1_bytes, .int v1_length, .int v1_at, .int v1_token, z1_filled, .int v1_fault, .int v1_faultPlace]))]) hD hS hA [1] rfl
    refine va_callv (va_runV (As := [.int 3]) (rest := []) ⟨hx, hb, hml, hown, hts⟩ (ck_X8_blameToken l dC dI cyB cyI cyJ cyP a1 H.size (.ref a1_bytes) (.int v1_length) (.int v1_at) (z1_filled) v1_token v1_fault v1_faultPlace 3 hw) (cwV 1 hts gX4_readPair_X8_blameToken rfl rfl rfl (by decide +kernel) ⟨Nat.le_of_ble_eq_true rfl, Nat.le_of_ble_eq_true rfl⟩) ⟨cPc_blind, va_recv hK hPc (ci := 8) (q0 := 0) rfl rfl, cPc_pre hPc hK hDc hNw⟩ rfl rfl hl.1 rfl (lv_room (Nat.le_of_ble_eq_true rfl)) dX4_readPair_8 ⟨Nat.le_of_ble_eq_true rfl, Nat.le_of_ble_eq_true rfl⟩) hS (fun q _ h => hFc q h) hFc (fun u t H1 locs ht hvm hw hB hz1 hk1 hS => ?_)
    obtain ⟨x7, x8⟩ := u
    obtain ⟨hP1, hK1, hD1⟩ := hB
    rw [ht] at hP1
    obtain ⟨hP, hD⟩ := va_join (wr := [(a0, .inr (4, [z0_kinds, z0_values, z0_pile, z0_facts, z0_length])), (a1_bytes, .inl (cyB, 600, .inl f1_bytes))]) (w1 := [(a1, .inr (8, [.ref a1_bytes, .int v1_length, .int v1_at, .int v1_token, z1_filled, .int x7, .int x8]))]) hP hD [1] [0, 2] rfl rfl (by decide) (by decide) hk1 hFc hP1 hD1
    have hP : va_P (dC, dI) vwCl [(a0, .inr (4, [z0_kinds, z0_values, z0_pile, z0_facts, z0_length])), (a1, .inr (8, [.ref a1_bytes, .int v1_length, .int v1_at, .int v1_token, z1_filled, .int x7, .int x8])), (a1_bytes, .inl (cyB, 600, .inl f1_bytes))] H1 := hP.sub [0, 2, 1] rfl
    have hD : va_D A [(a0, .inr (4, [z0_kinds, z0_values, z0_pile, z0_facts, z0_length])), (a1, .inr (8, [.ref a1_bytes, .int v1_length, .int v1_at, .int v1_token, z1_filled, .int x7, .int x8])), (a1_bytes, .inl (cyB, 600, .inl f1_bytes))] := hD.sub [0, 2, 1] (by decide) rfl
    generalize H1 = H at hP hS ⊢
    exact ((W.vret hx hb hr (fun t ht hW => ⟨⟨(v1_at, v1_token, x7, x8), rfl, hw, by rw [ht]; exact hP, va_K.moved hW.alike hK, hD⟩, hS.F ht⟩) hS.2.2 dX4_readPair_11))
def wq_X4_readProduct   (p2 : Int32) (Q : Prop) : Prop := False
set_option maxHeartbeats 4000000 in
set_option maxRecDepth 100000 in
theorem ck_X4_readProduct (l : Launch) (dC : Nat → ClassId) (dI : Nat → Nat → Nat) (cyB cyI cyJ cyP : ClassId) (a0 a1 : Nat) (sz : Nat) (z0_kinds : Value) (z0_values : Value) (z0_pile : Value) (z0_facts : Value) (z0_length : Value)   (p2 : Int32) {Q : Prop} (hw : wq_X4_readProduct   p2 Q) : Met l yX4_readProduct wsX4_readProduct ({ frames := 0, cells := 0, slots := 0, locals := 0 }) (va_Pc [.ref a0, .ref a1, .int p2] (cPc (dC, dI) (kT cyB cyI cyJ cyP) [(a0, .inr (4, [z0_kinds, z0_values, z0_pile, z0_facts, z0_length]))] sz)) (va_Qv (fun (_ : Unit) => Q ) (cB (dC, dI) (kT cyB cyI cyJ cyP) (va_A [(a0, .inr (4, [z0_kinds, z0_values, z0_pile, z0_facts, z0_length]))] sz) (fun u : Unit => ([(a0, .inr (4, [z0_kinds, z0_values, z0_pile, z0_facts, z0_length]))] : va_W))) (va_A [(a0, .inr (4, [z0_kinds, z0_values, z0_pile, z0_facts, z0_length]))] sz)) 0 0 (va_A [(a0, .inr (4, [z0_kinds, z0_values, z0_pile, z0_facts, z0_length]))] sz) := by
  refine Met.ofW (cc := cX4_readProduct) (maxL := 5) (ret := none) (by decide) rfl ?_
  intro p e s m args below meth c s₁ B hml hv
  obtain ⟨rfl, hsz, hP, hK, hD0, hNw⟩ := hv
  have hx := B.exec
  have hb := B.bytes
  have hr := B.returns
  have hts := atoms_spec (ws := wsX4_readProduct) B.pre
  have hown : s.vm.findClass RX4 = some m.cls := findClass_of_methodNamed B.named
  have hlocks := B.notSynchronized
  subst hsz
  have hD := hD0.self (sz := s.heap.size)
  generalize hAe : va_A [(a0, .inr (4, [z0_kinds, z0_values, z0_pile, z0_facts, z0_length]))] s.heap.size = A at hD ⊢
  have hA : ∀ q : Nat, s.heap.size ≤ q → A q := fun q h => by rw [← hAe]; exact Or.inr h
  have hS : va_S A s.heap s.heap [] := va_S.rf
  have hP : va_P (dC, dI) vwCl [(a0, .inr (4, [z0_kinds, z0_values, z0_pile, z0_facts, z0_length]))] s.heap := hP
  have hl := lv_entry ([.ref a0, .ref a1, .int p2]) (n := 5) (Nat.le_of_ble_eq_true rfl)
  rw [lg_entry_eq]
  generalize (lg_sl ([.ref a0, .ref a1, .int p2]) ++ List.replicate (5 - (lg_sl ([.ref a0, .ref a1, .int p2])).length) Slot.unset).toArray = ls at hl ⊢
  have hl : lv_has ls 5 [(0, .ref a0), (1, .ref a1), (2, .int p2)] := hl
  have C0 : cfx p s m _ meth c cX4_readProduct none wsX4_readProduct RX4 5 A (dC, dI) (kT cyB cyI cyJ cyP) := ⟨hx, hb, hr, hts, hown, hlocks, hml, hA, hK, hNw⟩
  clear hAe
  obtain ⟨H, hH⟩ : ∃ H, H = s.heap := ⟨_, rfl⟩
  rw [← hH] at hP ⊢
  have hS : va_S A s.heap H [] := by rw [hH]; exact va_S.rf
  have hS := hS
  refine lv_aload_n hx hb dX4_readProduct_0 rfl (lv_at hl 0 rfl) ?_
  refine lv_aload_n hx hb dX4_readProduct_1 rfl (lv_at hl 1 rfl) ?_
  refine lv_iload_n hx hb dX4_readProduct_2 rfl (lv_at hl 2 rfl) ?_
  exact False.elim hw
def wb_X4_readSum_49 (v1_length : Int32) (v1_fault : Int32) (f1_bytes : Nat → Int32) (Q : Int32 → Int32 → (Nat → Int32) → (Nat → Int32) → Int32 → Prop) (K8 : Int32 → Int32 → (Nat → Int32) → (Nat → Int32) → Int32 → Int32 → Int32 → Prop) (v1_at : Int32) (v1_token : Int32) (f0_kinds : Nat → Int32) (f0_values : Nat → Int32) (v0_length : Int32) (l2 : Int32) (l3 : Int32) (s0 : Int32) : Prop := ((¬ s0 = (-1) → wq_X4_readProduct   l2 (wq_X4_add  f0_kinds f0_values v0_length s0 0 (fun f13 f14 x15 => ∀ x16 : Int32, x16 = l3 + 1 → (K8 v1_at v1_token f13 f14 x15 l2 x16)))) ∧ (s0 = (-1) → (Q v1_at v1_token f0_kinds f0_values v0_length)))
set_option maxHeartbeats 4000000 in
set_option maxRecDepth 100000 in
theorem kb_X4_readSum_49 {p : Program} {l : Launch} {e : Env} {s : State} {m : MethodId} {args : Array Value} {below : List Frame} {meth : Method} {c : Code} {A : Nat → Prop} (dC : Nat → ClassId) (dI : Nat → Nat → Nat) (cyB cyI cyJ cyP : ClassId) (a0 a1 a1_bytes a0_kinds a0_values : Nat) (z0_pile : Value) (z0_facts : Value) (z1_filled : Value) (z1_faultPlace : Value) (v1_length : Int32) (v1_fault : Int32) (f1_bytes : Nat → Int32) (Q : Int32 → Int32 → (Nat → Int32) → (Nat → Int32) → Int32 → Prop) (K8 : Int32 → Int32 → (Nat → Int32) → (Nat → Int32) → Int32 → Int32 → Int32 → Prop) (hK8 : ∀ (H : Heap) (locs : List Loc) (ls : Array Slot) (v1_at : Int32) (v1_token : Int32) (f0_kinds : Nat → Int32) (f0_values : Nat → Int32) (v0_length : Int32) (l2 : Int32) (l3 : Int32), va_P (dC, dI) vwCl [(a0, .inr (4, [.ref a0_kinds, .ref a0_values, z0_pile, z0_facts, .int v0_length])), (a1, .inr (8, [.ref a1_bytes, .int v1_length, .int v1_at, .int v1_token, z1_filled, .int v1_fault, z1_faultPlace])), (a1_bytes, .inl (cyB, 600, .inl f1_bytes)), (a0_kinds, .inl (cyI, 150, .inl f0_kinds)), (a0_values, .inl (cyI, 150, .inl f0_values))] H → va_D A [(a0, .inr (4, [.ref a0_kinds, .ref a0_values, z0_pile, z0_facts, .int v0_length])), (a1, .inr (8, [.ref a1_bytes, .int v1_length, .int v1_at, .int v1_token, z1_filled, .int v1_fault, z1_faultPlace])), (a1_bytes, .inl (cyB, 600, .inl f1_bytes)), (a0_kinds, .inl (cyI, 150, .inl f0_kinds)), (a0_values, .inl (cyI, 150, .inl f0_values))] → va_S A s.heap H locs → lv_has ls 5 [(0, .ref a0), (1, .ref a1), (2, .int l2), (3, .int l3)] → K8 v1_at v1_token f0_kinds f0_values v0_length l2 l3 → W p l e (headSpec wsX4_readSum ({ frames := 2, cells := 0, slots := 0, locals := 41 })).room s m args below meth c H locs 0 0 (MQ below (va_Qv (fun (u : Int32 × Int32 × (Nat → Int32) × (Nat → Int32) × Int32) => Q u.1 u.2.1 u.2.2.1 u.2.2.2.1 u.2.2.2.2) (cB (dC, dI) (kT cyB cyI cyJ cyP) A (fun u : Int32 × Int32 × (Nat → Int32) × (Nat → Int32) × Int32 => ([(a0, .inr (4, [.ref a0_kinds, .ref a0_values, z0_pile, z0_facts, .int u.2.2.2.2])), (a1, .inr (8, [.ref a1_bytes, .int v1_length, .int u.1, .int u.2.1, z1_filled, .int v1_fault, z1_faultPlace])), (a1_bytes, .inl (cyB, 600, .inl f1_bytes)), (a0_kinds, .inl (cyI, 150, .inl u.2.2.1)), (a0_values, .inl (cyI, 150, .inl u.2.2.2.1))] : va_W))) A) args s 0 0 A) (F0 m 8 ls [])) (C0 : cfx p s m args meth c cX4_readSum none wsX4_readSum RX4 5 A (dC, dI) (kT cyB cyI cyJ cyP)) : ∀ (H : Heap) (locs : List Loc) (ls : Array Slot) (v1_at : Int32) (v1_token : Int32) (f0_kinds : Nat → Int32) (f0_values : Nat → Int32) (v0_length : Int32) (l2 : Int32) (l3 : Int32) (s0 : Int32), va_P (dC, dI) vwCl [(a0, .inr (4, [.ref a0_kinds, .ref a0_values, z0_pile, z0_facts, .int v0_length])), (a1, .inr (8, [.ref a1_bytes, .int v1_length, .int v1_at, .int v1_token, z1_filled, .int v1_fault, z1_faultPlace])), (a1_bytes, .inl (cyB, 600, .inl f1_bytes)), (a0_kinds, .inl (cyI, 150, .inl f0_kinds)), (a0_values, .inl (cyI, 150, .inl f0_values))] H → va_D A [(a0, .inr (4, [.ref a0_kinds, .ref a0_values, z0_pile, z0_facts, .int v0_length])), (a1, .inr (8, [.ref a1_bytes, .int v1_length, .int v1_at, .int v1_token, z1_filled, .int v1_fault, z1_faultPlace])), (a1_bytes, .inl (cyB, 600, .inl f1_bytes)), (a0_kinds, .inl (cyI, 150, .inl f0_kinds)), (a0_values, .inl (cyI, 150, .inl f0_values))] → va_S A s.heap H locs → lv_has ls 5 [(0, .ref a0), (1, .ref a1), (2, .int l2), (3, .int l3)] → wb_X4_readSum_49 v1_length v1_fault f1_bytes Q K8 v1_at v1_token f0_kinds f0_values v0_length l2 l3 s0 → W p l e (headSpec wsX4_readSum ({ frames := 2, cells := 0, slots := 0, locals := 41 })).room s m args below meth c H locs 0 0 (MQ below (va_Qv (fun (u : Int32 × Int32 × (Nat → Int32) × (Nat → Int32) × Int32) => Q u.1 u.2.1 u.2.2.1 u.2.2.2.1 u.2.2.2.2) (cB (dC, dI) (kT cyB cyI cyJ cyP) A (fun u : Int32 × Int32 × (Nat → Int32) × (Nat → Int32) × Int32 => ([(a0, .inr (4, [.ref a0_kinds, .ref a0_values, z0_pile, z0_facts, .int u.2.2.2.2])), (a1, .inr (8, [.ref a1_bytes, .int v1_length, .int u.1, .int u.2.1, z1_filled, .int v1_fault, z1_faultPlace])), (a1_bytes, .inl (cyB, 600, .inl f1_bytes)), (a0_kinds, .inl (cyI, 150, .inl u.2.2.1)), (a0_values, .inl (cyI, 150, .inl u.2.2.2.1))] : va_W))) A) args s 0 0 A) (F0 m 49 ls [.int s0]) := by
  obtain ⟨hx, hb, hr, hts, hown, hlocks, hml, hA, hK, hNw⟩ := id C0
  intro H locs ls v1_at v1_token f0_kinds f0_values v0_length l2 l3 s0 hP hD hS hl hw
  refine lv_istore (lv' := [(4, .int s0), (0, .ref a0), (1, .ref a1), (2, .int l2), (3, .int l3)]) hx hb dX4_readSum_49 hl (by decide) rfl (fun ls hl => ?_)
  refine lv_iload hx hb dX4_readSum_51 (lv_at hl 0 rfl) ?_
  refine lv_iconst (v := (-1)) hx hb dX4_readSum_53 (by decide) ?_
  refine lv_icmp_ne (tgt := 58) hx hb dX4_readSum_54 (by decide) (fun c12 => ?_) (fun c12 => ?_)
  · have hw := hw.1 c12
    refine lv_aload_n hx hb dX4_readSum_58 rfl (lv_at hl 1 rfl) ?_
    refine lv_aload_n hx hb dX4_readSum_59 rfl (lv_at hl 2 rfl) ?_
    refine lv_iload_n hx hb dX4_readSum_60 rfl (lv_at hl 3 rfl) ?_
    have hPc := hP.sub (ws' := [(a0, .inr (4, [.ref a0_kinds, .ref a0_values, z0_pile, z0_facts, .int v0_length]))]) [0] rfl
    have hDc := hD.sub (ws' := [(a0, .inr (4, [.ref a0_kinds, .ref a0_values, z0_pile, z0_facts, .int v0_length]))]) [0] (by decide) rfl
    have hFc := va_free (wc := [(a0, .inr (4, [.ref a0_kinds, .ref a0_values, z0_pile, z0_facts, .int v0_length]))]) hD hS hA [0] rfl
    refine va_callv (va_runV (As := [.ref a1, .int l2]) (rest := []) ⟨hx, hb, hml, hown, hts⟩ (ck_X4_readProduct l dC dI cyB cyI cyJ cyP a0 a1 H.size (.ref a0_kinds) (.ref a0_values) (z0_pile) (z0_facts) (.int v0_length)   l2 hw) (cwV 2 hts gX4_readSum_X4_readProduct rfl rfl rfl (by decide +kernel) ⟨Nat.le_of_ble_eq_true rfl, Nat.le_of_ble_eq_true rfl⟩) ⟨cPc_blind, va_recv hK hPc (ci := 4) (q0 := 0) rfl rfl, cPc_pre hPc hK hDc hNw⟩ rfl rfl hl.1 rfl (lv_room (Nat.le_of_ble_eq_true rfl)) dX4_readSum_61 ⟨Nat.le_of_ble_eq_true rfl, Nat.le_of_ble_eq_true rfl⟩) hS (fun q _ h => hFc q h) hFc (fun u t H1 locs ht hvm hw hB hz1 hk1 hS => ?_)
    obtain ⟨hP1, hK1, hD1⟩ := hB
    rw [ht] at hP1
    obtain ⟨hP, hD⟩ := va_join (wr := [(a1, .inr (8, [.ref a1_bytes, .int v1_length, .int v1_at, .int v1_token, z1_filled, .int v1_fault, z1_faultPlace])), (a1_bytes, .inl (cyB, 600, .inl f1_bytes)), (a0_kinds, .inl (cyI, 150, .inl f0_kinds)), (a0_values, .inl (cyI, 150, .inl f0_values))]) (w1 := [(a0, .inr (4, [.ref a0_kinds, .ref a0_values, z0_pile, z0_facts, .int v0_length]))]) hP hD [0] [1, 2, 3, 4] rfl rfl (by decide) (by decide) hk1 hFc hP1 hD1
    have hP : va_P (dC, dI) vwCl [(a0, .inr (4, [.ref a0_kinds, .ref a0_values, z0_pile, z0_facts, .int v0_length])), (a1, .inr (8, [.ref a1_bytes, .int v1_length, .int v1_at, .int v1_token, z1_filled, .int v1_fault, z1_faultPlace])), (a1_bytes, .inl (cyB, 600, .inl f1_bytes)), (a0_kinds, .inl (cyI, 150, .inl f0_kinds)), (a0_values, .inl (cyI, 150, .inl f0_values))] H1 := hP.sub [4, 0, 1, 2, 3] rfl
    have hD : va_D A [(a0, .inr (4, [.ref a0_kinds, .ref a0_values, z0_pile, z0_facts, .int v0_length])), (a1, .inr (8, [.ref a1_bytes, .int v1_length, .int v1_at, .int v1_token, z1_filled, .int v1_fault, z1_faultPlace])), (a1_bytes, .inl (cyB, 600, .inl f1_bytes)), (a0_kinds, .inl (cyI, 150, .inl f0_kinds)), (a0_values, .inl (cyI, 150, .inl f0_values))] := hD.sub [4, 0, 1, 2, 3] (by decide) rfl
    generalize H1 = H at hP hS ⊢
    refine lv_aload_n hx hb dX4_readSum_64 rfl (lv_at hl 1 rfl) ?_
    refine lv_iload hx hb dX4_readSum_65 (lv_at hl 0 rfl) ?_
    refine lv_iconst (v := 0) hx hb dX4_readSum_67 (by decide) ?_
    have hPc := hP.sub (ws' := [(a0, .inr (4, [.ref a0_kinds, .ref a0_values, z0_pile, z0_facts, .int v0_length])), (a0_kinds, .inl (cyI, 150, .inl f0_kinds)), (a0_values, .inl (cyI, 150, .inl f0_values))]) [0, 3, 4] rfl
    have hDc := hD.sub (ws' := [(a0, .inr (4, [.ref a0_kinds, .ref a0_values, z0_pile, z0_facts, .int v0_length])), (a0_kinds, .inl (cyI, 150, .inl f0_kinds)), (a0_values, .inl (cyI, 150, .inl f0_values))]) [0, 3, 4] (by decide) rfl
    have hFc := va_free (wc := [(a0, .inr (4, [.ref a0_kinds, .ref a0_values, z0_pile, z0_facts, .int v0_length])), (a0_kinds, .inl (cyI, 150, .inl f0_kinds)), (a0_values, .inl (cyI, 150, .inl f0_values))]) hD hS hA [0, 3, 4] rfl
    refine va_callv (va_runV (As := [.int s0, .int 0]) (rest := []) ⟨hx, hb, hml, hown, hts⟩ (ck_X4_add l dC dI cyB cyI cyJ cyP a0 a0_kinds a0_values H.size (z0_pile) (z0_facts)  f0_kinds f0_values v0_length s0 0 hw) (cwV 2 hts gX4_readSum_X4_add rfl rfl rfl (by decide +kernel) ⟨Nat.le_of_ble_eq_true rfl, Nat.le_of_ble_eq_true rfl⟩) ⟨cPc_blind, va_recv hK hPc (ci := 4) (q0 := 0) rfl rfl, cPc_pre hPc hK hDc hNw⟩ rfl rfl hl.1 rfl (lv_room (Nat.le_of_ble_eq_true rfl)) dX4_readSum_68 ⟨Nat.le_of_ble_eq_true rfl, Nat.le_of_ble_eq_true rfl⟩) hS (fun q _ h => hFc q h) hFc (fun u t H1 locs ht hvm hw hB hz1 hk1 hS => ?_)
    obtain ⟨f13, f14, x15⟩ := u
    obtain ⟨hP1, hK1, hD1⟩ := hB
    rw [ht] at hP1
    obtain ⟨hP, hD⟩ := va_join (wr := [(a1, .inr (8, [.ref a1_bytes, .int v1_length, .int v1_at, .int v1_token, z1_filled, .int v1_fault, z1_faultPlace])), (a1_bytes, .inl (cyB, 600, .inl f1_bytes))]) (w1 := [(a0, .inr (4, [.ref a0_kinds, .ref a0_values, z0_pile, z0_facts, .int x15])), (a0_kinds, .inl (cyI, 150, .inl f13)), (a0_values, .inl (cyI, 150, .inl f14))]) hP hD [0, 3, 4] [1, 2] rfl rfl (by decide) (by decide) hk1 hFc hP1 hD1
    have hP : va_P (dC, dI) vwCl [(a0, .inr (4, [.ref a0_kinds, .ref a0_values, z0_pile, z0_facts, .int x15])), (a1, .inr (8, [.ref a1_bytes, .int v1_length, .int v1_at, .int v1_token, z1_filled, .int v1_fault, z1_faultPlace])), (a1_bytes, .inl (cyB, 600, .inl f1_bytes)), (a0_kinds, .inl (cyI, 150, .inl f13)), (a0_values, .inl (cyI, 150, .inl f14))] H1 := hP.sub [2, 0, 1, 3, 4] rfl
    have hD : va_D A [(a0, .inr (4, [.ref a0_kinds, .ref a0_values, z0_pile, z0_facts, .int x15])), (a1, .inr (8, [.ref a1_bytes, .int v1_length, .int v1_at, .int v1_token, z1_filled, .int v1_fault, z1_faultPlace])), (a1_bytes, .inl (cyB, 600, .inl f1_bytes)), (a0_kinds, .inl (cyI, 150, .inl f13)), (a0_values, .inl (cyI, 150, .inl f14))] := hD.sub [2, 0, 1, 3, 4] (by decide) rfl
    generalize H1 = H at hP hS ⊢
    obtain ⟨x16, ex16⟩ : ∃ y : Int32, y = l3 + 1 := ⟨_, rfl⟩
    have hw := hw x16 ex16
    refine lv_iinc (v := x16) (lv' := [(3, .int x16), (4, .int s0), (0, .ref a0), (1, .ref a1), (2, .int l2)]) hx hb dX4_readSum_71 hl (k := 4) rfl (by rw [ex16]; rfl) (by decide) rfl (fun ls hl => ?_)
    refine lv_goto (tgt := 8) hx hb dX4_readSum_74 (by decide) ?_
    exact hK8 _ _ _ v1_at v1_token f13 f14 x15 l2 x16 hP hD hS (lv_sub hl [2, 3, 4, 0] rfl) hw
  · have hw := hw.2 c12
    exact ((W.vret hx hb hr (fun t ht hW => ⟨⟨(v1_at, v1_token, f0_kinds, f0_values, v0_length), rfl, hw, by rw [ht]; exact hP, va_K.moved hW.alike hK, hD⟩, hS.F ht⟩) hS.2.2 dX4_readSum_57))
def wl_X4_readSum_8 (v1_length : Int32) (v1_fault : Int32) (f1_bytes : Nat → Int32) (Q : Int32 → Int32 → (Nat → Int32) → (Nat → Int32) → Int32 → Prop)  : Nat → Int32 → Int32 → (Nat → Int32) → (Nat → Int32) → Int32 → Int32 → Int32 → Prop
  | 0, _, _, _, _, _, _, _ => False
  | n + 1, v1_at, v1_token, f0_kinds, f0_values, v0_length, l2, l3 => ((150 ≤ l3 → (Q v1_at v1_token f0_kinds f0_values v0_length)) ∧ (¬ 150 ≤ l3 → wq_X8_isFaulty v1_fault   (fun r2 => ((¬ r2 = 0 → (Q v1_at v1_token f0_kinds f0_values v0_length)) ∧ (r2 = 0 → wq_X8_takes v1_length v1_fault f1_bytes v1_at v1_token 43 (fun r6 x4 x5 => ((r6 = 0 → wq_X8_takes v1_length v1_fault f1_bytes x4 x5 45 (fun r10 x8 x9 => ((r10 = 0 → (wb_X4_readSum_49 v1_length v1_fault f1_bytes Q (fun v1_at v1_token f0_kinds f0_values v0_length l2 l3 => wl_X4_readSum_8 v1_length v1_fault f1_bytes Q  n v1_at v1_token f0_kinds f0_values v0_length l2 l3) x8 x9 f0_kinds f0_values v0_length l2 l3 (-1))) ∧ (¬ r10 = 0 → (wb_X4_readSum_49 v1_length v1_fault f1_bytes Q (fun v1_at v1_token f0_kinds f0_values v0_length l2 l3 => wl_X4_readSum_8 v1_length v1_fault f1_bytes Q  n v1_at v1_token f0_kinds f0_values v0_length l2 l3) x8 x9 f0_kinds f0_values v0_length l2 l3 3))))) ∧ (¬ r6 = 0 → (wb_X4_readSum_49 v1_length v1_fault f1_bytes Q (fun v1_at v1_token f0_kinds f0_values v0_length l2 l3 => wl_X4_readSum_8 v1_length v1_fault f1_bytes Q  n v1_at v1_token f0_kinds f0_values v0_length l2 l3) x4 x5 f0_kinds f0_values v0_length l2 l3 2)))))))))
set_option maxHeartbeats 4000000 in
set_option maxRecDepth 100000 in
theorem kl_X4_readSum_8 {p : Program} {l : Launch} {e : Env} {s : State} {m : MethodId} {args : Array Value} {below : List Frame} {meth : Method} {c : Code} {A : Nat → Prop} (dC : Nat → ClassId) (dI : Nat → Nat → Nat) (cyB cyI cyJ cyP : ClassId) (a0 a1 a1_bytes a0_kinds a0_values : Nat) (z0_pile : Value) (z0_facts : Value) (z1_filled : Value) (z1_faultPlace : Value) (v1_length : Int32) (v1_fault : Int32) (f1_bytes : Nat → Int32) (Q : Int32 → Int32 → (Nat → Int32) → (Nat → Int32) → Int32 → Prop)  (C0 : cfx p s m args meth c cX4_readSum none wsX4_readSum RX4 5 A (dC, dI) (kT cyB cyI cyJ cyP)) : ∀ (n : Nat) (H : Heap) (locs : List Loc) (ls : Array Slot) (v1_at : Int32) (v1_token : Int32) (f0_kinds : Nat → Int32) (f0_values : Nat → Int32) (v0_length : Int32) (l2 : Int32) (l3 : Int32), va_P (dC, dI) vwCl [(a0, .inr (4, [.ref a0_kinds, .ref a0_values, z0_pile, z0_facts, .int v0_length])), (a1, .inr (8, [.ref a1_bytes, .int v1_length, .int v1_at, .int v1_token, z1_filled, .int v1_fault, z1_faultPlace])), (a1_bytes, .inl (cyB, 600, .inl f1_bytes)), (a0_kinds, .inl (cyI, 150, .inl f0_kinds)), (a0_values, .inl (cyI, 150, .inl f0_values))] H → va_D A [(a0, .inr (4, [.ref a0_kinds, .ref a0_values, z0_pile, z0_facts, .int v0_length])), (a1, .inr (8, [.ref a1_bytes, .int v1_length, .int v1_at, .int v1_token, z1_filled, .int v1_fault, z1_faultPlace])), (a1_bytes, .inl (cyB, 600, .inl f1_bytes)), (a0_kinds, .inl (cyI, 150, .inl f0_kinds)), (a0_values, .inl (cyI, 150, .inl f0_values))] → va_S A s.heap H locs → lv_has ls 5 [(0, .ref a0), (1, .ref a1), (2, .int l2), (3, .int l3)] → wl_X4_readSum_8 v1_length v1_fault f1_bytes Q  n v1_at v1_token f0_kinds f0_values v0_length l2 l3 → W p l e (headSpec wsX4_readSum ({ frames := 2, cells := 0, slots := 0, locals := 41 })).room s m args below meth c H locs 0 0 (MQ below (va_Qv (fun (u : Int32 × Int32 × (Nat → Int32) × (Nat → Int32) × Int32) => Q u.1 u.2.1 u.2.2.1 u.2.2.2.1 u.2.2.2.2) (cB (dC, dI) (kT cyB cyI cyJ cyP) A (fun u : Int32 × Int32 × (Nat → Int32) × (Nat → Int32) × Int32 => ([(a0, .inr (4, [.ref a0_kinds, .ref a0_values, z0_pile, z0_facts, .int u.2.2.2.2])), (a1, .inr (8, [.ref a1_bytes, .int v1_length, .int u.1, .int u.2.1, z1_filled, .int v1_fault, z1_faultPlace])), (a1_bytes, .inl (cyB, 600, .inl f1_bytes)), (a0_kinds, .inl (cyI, 150, .inl u.2.2.1)), (a0_values, .inl (cyI, 150, .inl u.2.2.2.1))] : va_W))) A) args s 0 0 A) (F0 m 8 ls []) := by
  obtain ⟨hx, hb, hr, hts, hown, hlocks, hml, hA, hK, hNw⟩ := id C0
  intro n
  induction n with
  | zero => intro H locs ls v1_at v1_token f0_kinds f0_values v0_length l2 l3 hP hD hS hl hw; exact False.elim hw
  | succ n ih =>
    intro H locs ls v1_at v1_token f0_kinds f0_values v0_length l2 l3 hP hD hS hl hw
    refine lv_iload_n hx hb dX4_readSum_8 rfl (lv_at hl 3 rfl) ?_
    refine lv_sipush (v := 150) hx hb dX4_readSum_9 (by decide) ?_
    refine lv_icmp_ge (tgt := 77) hx hb dX4_readSum_12 (by decide) (fun c1 => ?_) (fun c1 => ?_)
    · have hw := hw.1 c1
      exact ((W.vret hx hb hr (fun t ht hW => ⟨⟨(v1_at, v1_token, f0_kinds, f0_values, v0_length), rfl, hw, by rw [ht]; exact hP, va_K.moved hW.alike hK, hD⟩, hS.F ht⟩) hS.2.2 dX4_readSum_77))
    · have hw := hw.2 c1
      refine lv_aload_n hx hb dX4_readSum_15 rfl (lv_at hl 1 rfl) ?_
      have hPc := hP.sub (ws' := [(a1, .inr (8, [.ref a1_bytes, .int v1_length, .int v1_at, .int v1_token, z1_filled, .int v1_fault, z1_faultPlace]))]) [1] rfl
      have hDc := hD.sub (ws' := [(a1, .inr (8, [.ref a1_bytes, .int v1_length, .int v1_at, .int v1_token, z1_filled, .int v1_fault, z1_faultPlace]))]) [1] (by decide) rfl
      have hFc := va_free (wc := [(a1, .inr (8, [.ref a1_bytes, .int v1_length, .int v1_at, .int v1_token, z1_filled, .int v1_fault, z1_faultPlace]))]) hD hS hA [1] rfl
      refine va_calli (va_runV (As := []) (rest := []) ⟨hx, hb, hml, hown, hts⟩ (ck_X8_isFaulty l dC dI cyB cyI cyJ cyP a1 H.size (.ref a1_bytes) (.int v1_length) (.int v1_at) (.int v1_token) (z1_filled) (z1_faultPlace) v1_fault   hw) (cwV 0 hts gX4_readSum_X8_isFaulty rfl rfl rfl (by decide +kernel) ⟨Nat.le_of_ble_eq_true rfl, Nat.le_of_ble_eq_true rfl⟩) ⟨cPc_blind, va_recv hK hPc (ci := 8) (q0 := 0) rfl rfl, cPc_pre hPc hK hDc hNw⟩ rfl rfl hl.1 rfl (lv_room (Nat.le_of_ble_eq_true rfl)) dX4_readSum_16 ⟨Nat.le_of_ble_eq_true rfl, Nat.le_of_ble_eq_true rfl⟩) hS (fun q _ h => hFc q h) hFc (fun r2 u t H1 locs ht hvm hw hB hz1 hk1 hS => ?_)
      obtain ⟨hP1, hK1, hD1⟩ := hB
      rw [ht] at hP1
      obtain ⟨hP, hD⟩ := va_join (wr := [(a0, .inr (4, [.ref a0_kinds, .ref a0_values, z0_pile, z0_facts, .int v0_length])), (a1_bytes, .inl (cyB, 600, .inl f1_bytes)), (a0_kinds, .inl (cyI, 150, .inl f0_kinds)), (a0_values, .inl (cyI, 150, .inl f0_values))]) (w1 := [(a1, .inr (8, [.ref a1_bytes, .int v1_length, .int v1_at, .int v1_token, z1_filled, .int v1_fault, z1_faultPlace]))]) hP hD [1] [0, 2, 3, 4] rfl rfl (by decide) (by decide) hk1 hFc hP1 hD1
      have hP : va_P (dC, dI) vwCl [(a0, .inr (4, [.ref a0_kinds, .ref a0_values, z0_pile, z0_facts, .int v0_length])), (a1, .inr (8, [.ref a1_bytes, .int v1_length, .int v1_at, .int v1_token, z1_filled, .int v1_fault, z1_faultPlace])), (a1_bytes, .inl (cyB, 600, .inl f1_bytes)), (a0_kinds, .inl (cyI, 150, .inl f0_kinds)), (a0_values, .inl (cyI, 150, .inl f0_values))] H1 := hP.sub [0, 4, 1, 2, 3] rfl
      have hD : va_D A [(a0, .inr (4, [.ref a0_kinds, .ref a0_values, z0_pile, z0_facts, .int v0_length])), (a1, .inr (8, [.ref a1_bytes, .int v1_length, .int v1_at, .int v1_token, z1_filled, .int v1_fault, z1_faultPlace])), (a1_bytes, .inl (cyB, 600, .inl f1_bytes)), (a0_kinds, .inl (cyI, 150, .inl f0_kinds)), (a0_values, .inl (cyI, 150, .inl f0_values))] := hD.sub [0, 4, 1, 2, 3] (by decide) rfl
      generalize H1 = H at hP hS ⊢
      refine lv_if_ne (tgt := 77) hx hb dX4_readSum_19 (by decide) (fun c3 => ?_) (fun c3 => ?_)
      · have hw := hw.1 c3
        exact ((W.vret hx hb hr (fun t ht hW => ⟨⟨(v1_at, v1_token, f0_kinds, f0_values, v0_length), rfl, hw, by rw [ht]; exact hP, va_K.moved hW.alike hK, hD⟩, hS.F ht⟩) hS.2.2 dX4_readSum_77))
      · have hw := hw.2 c3
        refine lv_aload_n hx hb dX4_readSum_22 rfl (lv_at hl 1 rfl) ?_
        refine lv_bipush (v := 43) hx hb dX4_readSum_23 (by decide) ?_
        have hPc := hP.sub (ws' := [(a1, .inr (8, [.ref a1_bytes, .int v1_length, .int v1_at, .int v1_token, z1_filled, .int v1_fault, z1_faultPlace])), (a1_bytes, .inl (cyB, 600, .inl f1_bytes))]) [1, 2] rfl
        have hDc := hD.sub (ws' := [(a1, .inr (8, [.ref a1_bytes, .int v1_length, .int v1_at, .int v1_token, z1_filled, .int v1_fault, z1_faultPlace])), (a1_bytes, .inl (cyB, 600, .inl f1_bytes))]) [1, 2] (by decide) rfl
        have hFc := va_free (wc := [(a1, .inr (8, [.ref a1_bytes, .int v1_length, .int v1_at, .int v1_token, z1_filled, .int v1_fault, z1_faultPlace])), (a1_bytes, .inl (cyB, 600, .inl f1_bytes))]) hD hS hA [1, 2] rfl
        refine va_calli (va_runV (As := [.int 43]) (rest := []) ⟨hx, hb, hml, hown, hts⟩ (ck_X8_takes l dC dI cyB cyI cyJ cyP a1 a1_bytes H.size (z1_filled) (z1_faultPlace) v1_length v1_fault f1_bytes v1_at v1_token 43 hw) (cwV 1 hts gX4_readSum_X8_takes rfl rfl rfl (by decide +kernel) ⟨Nat.le_of_ble_eq_true rfl, Nat.le_of_ble_eq_true rfl⟩) ⟨cPc_blind, va_recv hK hPc (ci := 8) (q0 := 0) rfl rfl, cPc_pre hPc hK hDc hNw⟩ rfl rfl hl.1 rfl (lv_room (Nat.le_of_ble_eq_true rfl)) dX4_readSum_25 ⟨Nat.le_of_ble_eq_true rfl, Nat.le_of_ble_eq_true rfl⟩) hS (fun q _ h => hFc q h) hFc (fun r6 u t H1 locs ht hvm hw hB hz1 hk1 hS => ?_)
        obtain ⟨x4, x5⟩ := u
        obtain ⟨hP1, hK1, hD1⟩ := hB
        rw [ht] at hP1
        obtain ⟨hP, hD⟩ := va_join (wr := [(a0, .inr (4, [.ref a0_kinds, .ref a0_values, z0_pile, z0_facts, .int v0_length])), (a0_kinds, .inl (cyI, 150, .inl f0_kinds)), (a0_values, .inl (cyI, 150, .inl f0_values))]) (w1 := [(a1, .inr (8, [.ref a1_bytes, .int v1_length, .int x4, .int x5, z1_filled, .int v1_fault, z1_faultPlace])), (a1_bytes, .inl (cyB, 600, .inl f1_bytes))]) hP hD [1, 2] [0, 3, 4] rfl rfl (by decide) (by decide) hk1 hFc hP1 hD1
        have hP : va_P (dC, dI) vwCl [(a0, .inr (4, [.ref a0_kinds, .ref a0_values, z0_pile, z0_facts, .int v0_length])), (a1, .inr (8, [.ref a1_bytes, .int v1_length, .int x4, .int x5, z1_filled, .int v1_fault, z1_faultPlace])), (a1_bytes, .inl (cyB, 600, .inl f1_bytes)), (a0_kinds, .inl (cyI, 150, .inl f0_kinds)), (a0_values, .inl (cyI, 150, .inl f0_values))] H1 := hP.sub [0, 3, 4, 1, 2] rfl
        have hD : va_D A [(a0, .inr (4, [.ref a0_kinds, .ref a0_values, z0_pile, z0_facts, .int v0_length])), (a1, .inr (8, [.ref a1_bytes, .int v1_length, .int x4, .int x5, z1_filled, .int v1_fault, z1_faultPlace])), (a1_bytes, .inl (cyB, 600, .inl f1_bytes)), (a0_kinds, .inl (cyI, 150, .inl f0_kinds)), (a0_values, .inl (cyI, 150, .inl f0_values))] := hD.sub [0, 3, 4, 1, 2] (by decide) rfl
        generalize H1 = H at hP hS ⊢
        refine lv_if_eq (tgt := 35) hx hb dX4_readSum_28 (by decide) (fun c7 => ?_) (fun c7 => ?_)
        · have hw := hw.1 c7
          refine lv_aload_n hx hb dX4_readSum_35 rfl (lv_at hl 1 rfl) ?_
          refine lv_bipush (v := 45) hx hb dX4_readSum_36 (by decide) ?_
          have hPc := hP.sub (ws' := [(a1, .inr (8, [.ref a1_bytes, .int v1_length, .int x4, .int x5, z1_filled, .int v1_fault, z1_faultPlace])), (a1_bytes, .inl (cyB, 600, .inl f1_bytes))]) [1, 2] rfl
          have hDc := hD.sub (ws' := [(a1, .inr (8, [.ref a1_bytes, .int v1_length, .int x4, .int x5, z1_filled, .int v1_fault, z1_faultPlace])), (a1_bytes, .inl (cyB, 600, .inl f1_bytes))]) [1, 2] (by decide) rfl
          have hFc := va_free (wc := [(a1, .inr (8, [.ref a1_bytes, .int v1_length, .int x4, .int x5, z1_filled, .int v1_fault, z1_faultPlace])), (a1_bytes, .inl (cyB, 600, .inl f1_bytes))]) hD hS hA [1, 2] rfl
          refine va_calli (va_runV (As := [.int 45]) (rest := []) ⟨hx, hb, hml, hown, hts⟩ (ck_X8_takes l dC dI cyB cyI cyJ cyP a1 a1_bytes H.size (z1_filled) (z1_faultPlace) v1_length v1_fault f1_bytes x4 x5 45 hw) (cwV 1 hts gX4_readSum_X8_takes rfl rfl rfl (by decide +kernel) ⟨Nat.le_of_ble_eq_true rfl, Nat.le_of_ble_eq_true rfl⟩) ⟨cPc_blind, va_recv hK hPc (ci := 8) (q0 := 0) rfl rfl, cPc_pre hPc hK hDc hNw⟩ rfl rfl hl.1 rfl (lv_room (Nat.le_of_ble_eq_true rfl)) dX4_readSum_38 ⟨Nat.le_of_ble_eq_true rfl, Nat.le_of_ble_eq_true rfl⟩) hS (fun q _ h => hFc q h) hFc (fun r10 u t H1 locs ht hvm hw hB hz1 hk1 hS => ?_)
          obtain ⟨x8, x9⟩ := u
          obtain ⟨hP1, hK1, hD1⟩ := hB
          rw [ht] at hP1
          obtain ⟨hP, hD⟩ := va_join (wr := [(a0, .inr (4, [.ref a0_kinds, .ref a0_values, z0_pile, z0_facts, .int v0_length])), (a0_kinds, .inl (cyI, 150, .inl f0_kinds)), (a0_values, .inl (cyI, 150, .inl f0_values))]) (w1 := [(a1, .inr (8, [.ref a1_bytes, .int v1_length, .int x8, .int x9, z1_filled, .int v1_fault, z1_faultPlace])), (a1_bytes, .inl (cyB, 600, .inl f1_bytes))]) hP hD [1, 2] [0, 3, 4] rfl rfl (by decide) (by decide) hk1 hFc hP1 hD1
          have hP : va_P (dC, dI) vwCl [(a0, .inr (4, [.ref a0_kinds, .ref a0_values, z0_pile, z0_facts, .int v0_length])), (a1, .inr (8, [.ref a1_bytes, .int v1_length, .int x8, .int x9, z1_filled, .int v1_fault, z1_faultPlace])), (a1_bytes, .inl (cyB, 600, .inl f1_bytes)), (a0_kinds, .inl (cyI, 150, .inl f0_kinds)), (a0_values, .inl (cyI, 150, .inl f0_values))] H1 := hP.sub [0, 3, 4, 1, 2] rfl
          have hD : va_D A [(a0, .inr (4, [.ref a0_kinds, .ref a0_values, z0_pile, z0_facts, .int v0_length])), (a1, .inr (8, [.ref a1_bytes, .int v1_length, .int x8, .int x9, z1_filled, .int v1_fault, z1_faultPlace])), (a1_bytes, .inl (cyB, 600, .inl f1_bytes)), (a0_kinds, .inl (cyI, 150, .inl f0_kinds)), (a0_values, .inl (cyI, 150, .inl f0_values))] := hD.sub [0, 3, 4, 1, 2] (by decide) rfl
          generalize H1 = H at hP hS ⊢
          refine lv_if_eq (tgt := 48) hx hb dX4_readSum_41 (by decide) (fun c11 => ?_) (fun c11 => ?_)
          · have hw := hw.1 c11
            refine lv_iconst (v := (-1)) hx hb dX4_readSum_48 (by decide) ?_
            exact kb_X4_readSum_49 dC dI cyB cyI cyJ cyP a0 a1 a1_bytes a0_kinds a0_values z0_pile z0_facts z1_filled z1_faultPlace v1_length v1_fault f1_bytes Q (wl_X4_readSum_8 v1_length v1_fault f1_bytes Q  n) ih C0 _ _ _ x8 x9 f0_kinds f0_values v0_length l2 l3 (-1) hP hD hS (lv_sub hl [0, 1, 2, 3] rfl) hw
          · have hw := hw.2 c11
            refine lv_iconst (v := 3) hx hb dX4_readSum_44 (by decide) ?_
            refine lv_goto (tgt := 49) hx hb dX4_readSum_45 (by decide) ?_
            exact kb_X4_readSum_49 dC dI cyB cyI cyJ cyP a0 a1 a1_bytes a0_kinds a0_values z0_pile z0_facts z1_filled z1_faultPlace v1_length v1_fault f1_bytes Q (wl_X4_readSum_8 v1_length v1_fault f1_bytes Q  n) ih C0 _ _ _ x8 x9 f0_kinds f0_values v0_length l2 l3 3 hP hD hS (lv_sub hl [0, 1, 2, 3] rfl) hw
        · have hw := hw.2 c7
          refine lv_iconst (v := 2) hx hb dX4_readSum_31 (by decide) ?_
          refine lv_goto (tgt := 49) hx hb dX4_readSum_32 (by decide) ?_
          exact kb_X4_readSum_49 dC dI cyB cyI cyJ cyP a0 a1 a1_bytes a0_kinds a0_values z0_pile z0_facts z1_filled z1_faultPlace v1_length v1_fault f1_bytes Q (wl_X4_readSum_8 v1_length v1_fault f1_bytes Q  n) ih C0 _ _ _ x4 x5 f0_kinds f0_values v0_length l2 l3 2 hP hD hS (lv_sub hl [0, 1, 2, 3] rfl) hw
def wq_X4_readSum (v1_length : Int32) (v1_fault : Int32) (f1_bytes : Nat → Int32) (v1_at : Int32) (v1_token : Int32) (f0_kinds : Nat → Int32) (f0_values : Nat → Int32) (v0_length : Int32) (p2 : Int32) (Q : Int32 → Int32 → (Nat → Int32) → (Nat → Int32) → Int32 → Prop) : Prop := wq_X4_readProduct   p2 ((∃ k9 : Nat, wl_X4_readSum_8 v1_length v1_fault f1_bytes Q  k9 v1_at v1_token f0_kinds f0_values v0_length p2 0))
set_option maxHeartbeats 4000000 in
set_option maxRecDepth 100000 in
theorem ck_X4_readSum (l : Launch) (dC : Nat → ClassId) (dI : Nat → Nat → Nat) (cyB cyI cyJ cyP : ClassId) (a0 a1 a1_bytes a0_kinds a0_values : Nat) (sz : Nat) (z0_pile : Value) (z0_facts : Value) (z1_filled : Value) (z1_faultPlace : Value) (v1_length : Int32) (v1_fault : Int32) (f1_bytes : Nat → Int32) (v1_at : Int32) (v1_token : Int32) (f0_kinds : Nat → Int32) (f0_values : Nat → Int32) (v0_length : Int32) (p2 : Int32) {Q : Int32 → Int32 → (Nat → Int32) → (Nat → Int32) → Int32 → Prop} (hw : wq_X4_readSum v1_length v1_fault f1_bytes v1_at v1_token f0_kinds f0_values v0_length p2 Q) : Met l yX4_readSum wsX4_readSum ({ frames := 2, cells := 0, slots := 0, locals := 41 }) (va_Pc [.ref a0, .ref a1, .int p2] (cPc (dC, dI) (kT cyB cyI cyJ cyP) [(a0, .inr (4, [.ref a0_kinds, .ref a0_values, z0_pile, z0_facts, .int v0_length])), (a1, .inr (8, [.ref a1_bytes, .int v1_length, .int v1_at, .int v1_token, z1_filled, .int v1_fault, z1_faultPlace])), (a1_bytes, .inl (cyB, 600, .inl f1_bytes)), (a0_kinds, .inl (cyI, 150, .inl f0_kinds)), (a0_values, .inl (cyI, 150, .inl f0_values))] sz)) (va_Qv (fun (u : Int32 × Int32 × (Nat → Int32) × (Nat → Int32) × Int32) => Q u.1 u.2.1 u.2.2.1 u.2.2.2.1 u.2.2.2.2) (cB (dC, dI) (kT cyB cyI cyJ cyP) (va_A [(a0, .inr (4, [.ref a0_kinds, .ref a0_values, z0_pile, z0_facts, .int v0_length])), (a1, .inr (8, [.ref a1_bytes, .int v1_length, .int v1_at, .int v1_token, z1_filled, .int v1_fault, z1_faultPlace])), (a1_bytes, .inl (cyB, 600, .inl f1_bytes)), (a0_kinds, .inl (cyI, 150, .inl f0_kinds)), (a0_values, .inl (cyI, 150, .inl f0_values))] sz) (fun u : Int32 × Int32 × (Nat → Int32) × (Nat → Int32) × Int32 => ([(a0, .inr (4, [.ref a0_kinds, .ref a0_values, z0_pile, z0_facts, .int u.2.2.2.2])), (a1, .inr (8, [.ref a1_bytes, .int v1_length, .int u.1, .int u.2.1, z1_filled, .int v1_fault, z1_faultPlace])), (a1_bytes, .inl (cyB, 600, .inl f1_bytes)), (a0_kinds, .inl (cyI, 150, .inl u.2.2.1)), (a0_values, .inl (cyI, 150, .inl u.2.2.2.1))] : va_W))) (va_A [(a0, .inr (4, [.ref a0_kinds, .ref a0_values, z0_pile, z0_facts, .int v0_length])), (a1, .inr (8, [.ref a1_bytes, .int v1_length, .int v1_at, .int v1_token, z1_filled, .int v1_fault, z1_faultPlace])), (a1_bytes, .inl (cyB, 600, .inl f1_bytes)), (a0_kinds, .inl (cyI, 150, .inl f0_kinds)), (a0_values, .inl (cyI, 150, .inl f0_values))] sz)) 0 0 (va_A [(a0, .inr (4, [.ref a0_kinds, .ref a0_values, z0_pile, z0_facts, .int v0_length])), (a1, .inr (8, [.ref a1_bytes, .int v1_length, .int v1_at, .int v1_token, z1_filled, .int v1_fault, z1_faultPlace])), (a1_bytes, .inl (cyB, 600, .inl f1_bytes)), (a0_kinds, .inl (cyI, 150, .inl f0_kinds)), (a0_values, .inl (cyI, 150, .inl f0_values))] sz) := by
  refine Met.ofW (cc := cX4_readSum) (maxL := 5) (ret := none) (by decide) rfl ?_
  intro p e s m args below meth c s₁ B hml hv
  obtain ⟨rfl, hsz, hP, hK, hD0, hNw⟩ := hv
  have hx := B.exec
  have hb := B.bytes
  have hr := B.returns
  have hts := atoms_spec (ws := wsX4_readSum) B.pre
  have hown : s.vm.findClass RX4 = some m.cls := findClass_of_methodNamed B.named
  have hlocks := B.notSynchronized
  subst hsz
  have hD := hD0.self (sz := s.heap.size)
  generalize hAe : va_A [(a0, .inr (4, [.ref a0_kinds, .ref a0_values, z0_pile, z0_facts, .int v0_length])), (a1, .inr (8, [.ref a1_bytes, .int v1_length, .int v1_at, .int v1_token, z1_filled, .int v1_fault, z1_faultPlace])), (a1_bytes, .inl (cyB, 600, .inl f1_bytes)), (a0_kinds, .inl (cyI, 150, .inl f0_kinds)), (a0_values, .inl (cyI, 150, .inl f0_values))] s.heap.size = A at hD ⊢
  have hA : ∀ q : Nat, s.heap.size ≤ q → A q := fun q h => by rw [← hAe]; exact Or.inr h
  have hS : va_S A s.heap s.heap [] := va_S.rf
  have hP : va_P (dC, dI) vwCl [(a0, .inr (4, [.ref a0_kinds, .ref a0_values, z0_pile, z0_facts, .int v0_length])), (a1, .inr (8, [.ref a1_bytes, .int v1_length, .int v1_at, .int v1_token, z1_filled, .int v1_fault, z1_faultPlace])), (a1_bytes, .inl (cyB, 600, .inl f1_bytes)), (a0_kinds, .inl (cyI, 150, .inl f0_kinds)), (a0_values, .inl (cyI, 150, .inl f0_values))] s.heap := hP
  have hl := lv_entry ([.ref a0, .ref a1, .int p2]) (n := 5) (Nat.le_of_ble_eq_true rfl)
  rw [lg_entry_eq]
  generalize (lg_sl ([.ref a0, .ref a1, .int p2]) ++ List.replicate (5 - (lg_sl ([.ref a0, .ref a1, .int p2])).length) Slot.unset).toArray = ls at hl ⊢
  have hl : lv_has ls 5 [(0, .ref a0), (1, .ref a1), (2, .int p2)] := hl
  have C0 : cfx p s m _ meth c cX4_readSum none wsX4_readSum RX4 5 A (dC, dI) (kT cyB cyI cyJ cyP) := ⟨hx, hb, hr, hts, hown, hlocks, hml, hA, hK, hNw⟩
  clear hAe
  obtain ⟨H, hH⟩ : ∃ H, H = s.heap := ⟨_, rfl⟩
  rw [← hH] at hP ⊢
  have hS : va_S A s.heap H [] := by rw [hH]; exact va_S.rf
  have hS := hS
  refine lv_aload_n hx hb dX4_readSum_0 rfl (lv_at hl 0 rfl) ?_
  refine lv_aload_n hx hb dX4_readSum_1 rfl (lv_at hl 1 rfl) ?_
  refine lv_iload_n hx hb dX4_readSum_2 rfl (lv_at hl 2 rfl) ?_
  have hPc := hP.sub (ws' := [(a0, .inr (4, [.ref a0_kinds, .ref a0_values, z0_pile, z0_facts, .int v0_length]))]) [0] rfl
  have hDc := hD.sub (ws' := [(a0, .inr (4, [.ref a0_kinds, .ref a0_values, z0_pile, z0_facts, .int v0_length]))]) [0] (by decide) rfl
  have hFc := va_free (wc := [(a0, .inr (4, [.ref a0_kinds, .ref a0_values, z0_pile, z0_facts, .int v0_length]))]) hD hS hA [0] rfl
  refine va_callv (va_runV (As := [.ref a1, .int p2]) (rest := []) ⟨hx, hb, hml, hown, hts⟩ (ck_X4_readProduct l dC dI cyB cyI cyJ cyP a0 a1 H.size (.ref a0_kinds) (.ref a0_values) (z0_pile) (z0_facts) (.int v0_length)   p2 hw) (cwV 2 hts gX4_readSum_X4_readProduct rfl rfl rfl (by decide +kernel) ⟨Nat.le_of_ble_eq_true rfl, Nat.le_of_ble_eq_true rfl⟩) ⟨cPc_blind, va_recv hK hPc (ci := 4) (q0 := 0) rfl rfl, cPc_pre hPc hK hDc hNw⟩ rfl rfl hl.1 rfl (lv_room (Nat.le_of_ble_eq_true rfl)) dX4_readSum_3 ⟨Nat.le_of_ble_eq_true rfl, Nat.le_of_ble_eq_true rfl⟩) hS (fun q _ h => hFc q h) hFc (fun u t H1 locs ht hvm hw hB hz1 hk1 hS => ?_)
  obtain ⟨hP1, hK1, hD1⟩ := hB
  rw [ht] at hP1
  obtain ⟨hP, hD⟩ := va_join (wr := [(a1, .inr (8, [.ref a1_bytes, .int v1_length, .int v1_at, .int v1_token, z1_filled, .int v1_fault, z1_faultPlace])), (a1_bytes, .inl (cyB, 600, .inl f1_bytes)), (a0_kinds, .inl (cyI, 150, .inl f0_kinds)), (a0_values, .inl (cyI, 150, .inl f0_values))]) (w1 := [(a0, .inr (4, [.ref a0_kinds, .ref a0_values, z0_pile, z0_facts, .int v0_length]))]) hP hD [0] [1, 2, 3, 4] rfl rfl (by decide) (by decide) hk1 hFc hP1 hD1
  have hP : va_P (dC, dI) vwCl [(a0, .inr (4, [.ref a0_kinds, .ref a0_values, z0_pile, z0_facts, .int v0_length])), (a1, .inr (8, [.ref a1_bytes, .int v1_length, .int v1_at, .int v1_token, z1_filled, .int v1_fault, z1_faultPlace])), (a1_bytes, .inl (cyB, 600, .inl f1_bytes)), (a0_kinds, .inl (cyI, 150, .inl f0_kinds)), (a0_values, .inl (cyI, 150, .inl f0_values))] H1 := hP.sub [4, 0, 1, 2, 3] rfl
  have hD : va_D A [(a0, .inr (4, [.ref a0_kinds, .ref a0_values, z0_pile, z0_facts, .int v0_length])), (a1, .inr (8, [.ref a1_bytes, .int v1_length, .int v1_at, .int v1_token, z1_filled, .int v1_fault, z1_faultPlace])), (a1_bytes, .inl (cyB, 600, .inl f1_bytes)), (a0_kinds, .inl (cyI, 150, .inl f0_kinds)), (a0_values, .inl (cyI, 150, .inl f0_values))] := hD.sub [4, 0, 1, 2, 3] (by decide) rfl
  generalize H1 = H at hP hS ⊢
  refine lv_iconst (v := 0) hx hb dX4_readSum_6 (by decide) ?_
  refine lv_istore_n (lv' := [(3, .int 0), (0, .ref a0), (1, .ref a1), (2, .int p2)]) hx hb dX4_readSum_7 rfl hl (by decide) rfl (fun ls hl => ?_)
  obtain ⟨n9, hw⟩ := hw
  exact kl_X4_readSum_8 dC dI cyB cyI cyJ cyP a0 a1 a1_bytes a0_kinds a0_values z0_pile z0_facts z1_filled z1_faultPlace v1_length v1_fault f1_bytes Q  C0 n9 _ _ _ v1_at v1_token f0_kinds f0_values v0_length p2 0 hP hD hS (lv_sub hl [1, 2, 3, 0] rfl) hw
def wq_X8_needsEnd (v0_length : Int32) (f0_bytes : Nat → Int32) (v0_at : Int32) (v0_fault : Int32) (v0_faultPlace : Int32)  (Q : Int32 → Int32 → Int32 → Prop) : Prop := wq_X8_isEnded v0_length f0_bytes v0_at  (fun r2 x1 => ((¬ r2 = 0 → (Q x1 v0_fault v0_faultPlace)) ∧ (r2 = 0 → wq_X8_blameSign v0_length f0_bytes x1 v0_fault v0_faultPlace  (fun x4 x5 x6 => (Q x4 x5 x6)))))
set_option maxHeartbeats 4000000 in
set_option maxRecDepth 100000 in
theorem ck_X8_needsEnd (l : Launch) (dC : Nat → ClassId) (dI : Nat → Nat → Nat) (cyB cyI cyJ cyP : ClassId) (a0 a0_bytes : Nat) (sz : Nat) (z0_token : Value) (z0_filled : Value) (v0_length : Int32) (f0_bytes : Nat → Int32) (v0_at : Int32) (v0_fault : Int32) (v0_faultPlace : Int32)  {Q : Int32 → Int32 → Int32 → Prop} (hw : wq_X8_needsEnd v0_length f0_bytes v0_at v0_fault v0_faultPlace  Q) : Met l yX8_needsEnd wsX8_needsEnd ({ frames := 2, cells := 0, slots := 0, locals := 42 }) (va_Pc [.ref a0] (cPc (dC, dI) (kT cyB cyI cyJ cyP) [(a0, .inr (8, [.ref a0_bytes, .int v0_length, .int v0_at, z0_token, z0_filled, .int v0_fault, .int v0_faultPlace])), (a0_bytes, .inl (cyB, 600, .inl f0_bytes))] sz)) (va_Qv (fun (u : Int32 × Int32 × Int32) => Q u.1 u.2.1 u.2.2) (cB (dC, dI) (kT cyB cyI cyJ cyP) (va_A [(a0, .inr (8, [.ref a0_bytes, .int v0_length, .int v0_at, z0_token, z0_filled, .int v0_fault, .int v0_faultPlace])), (a0_bytes, .inl (cyB, 600, .inl f0_bytes))] sz) (fun u : Int32 × Int32 × Int32 => ([(a0, .inr (8, [.ref a0_bytes, .int v0_length, .int u.1, z0_token, z0_filled, .int u.2.1, .int u.2.2])), (a0_bytes, .inl (cyB, 600, .inl f0_bytes))] : va_W))) (va_A [(a0, .inr (8, [.ref a0_bytes, .int v0_length, .int v0_at, z0_token, z0_filled, .int v0_fault, .int v0_faultPlace])), (a0_bytes, .inl (cyB, 600, .inl f0_bytes))] sz)) 0 0 (va_A [(a0, .inr (8, [.ref a0_bytes, .int v0_length, .int v0_at, z0_token, z0_filled, .int v0_fault, .int v0_faultPlace])), (a0_bytes, .inl (cyB, 600, .inl f0_bytes))] sz) := by
  refine Met.ofW (cc := cX8_needsEnd) (maxL := 1) (ret := none) (by decide) rfl ?_
  intro p e s m args below meth c s₁ B hml hv
  obtain ⟨rfl, hsz, hP, hK, hD0, hNw⟩ := hv
  have hx := B.exec
  have hb := B.bytes
  have hr := B.returns
  have hts := atoms_spec (ws := wsX8_needsEnd) B.pre
  have hown : s.vm.findClass RX8 = some m.cls := findClass_of_methodNamed B.named
  have hlocks := B.notSynchronized
  subst hsz
  have hD := hD0.self (sz := s.heap.size)
  generalize hAe : va_A [(a0, .inr (8, [.ref a0_bytes, .int v0_length, .int v0_at, z0_token, z0_filled, .int v0_fault, .int v0_faultPlace])), (a0_bytes, .inl (cyB, 600, .inl f0_bytes))] s.heap.size = A at hD ⊢
  have hA : ∀ q : Nat, s.heap.size ≤ q → A q := fun q h => by rw [← hAe]; exact Or.inr h
  have hS : va_S A s.heap s.heap [] := va_S.rf
  have hP : va_P (dC, dI) vwCl [(a0, .inr (8, [.ref a0_bytes, .int v0_length, .int v0_at, z0_token, z0_filled, .int v0_fault, .int v0_faultPlace])), (a0_bytes, .inl (cyB, 600, .inl f0_bytes))] s.heap := hP
  have hl := lv_entry ([.ref a0]) (n := 1) (Nat.le_of_ble_eq_true rfl)
  rw [lg_entry_eq]
  generalize (lg_sl ([.ref a0]) ++ List.replicate (1 - (lg_sl ([.ref a0])).length) Slot.unset).toArray = ls at hl ⊢
  have hl : lv_has ls 1 [(0, .ref a0)] := hl
  have C0 : cfx p s m _ meth c cX8_needsEnd none wsX8_needsEnd RX8 1 A (dC, dI) (kT cyB cyI cyJ cyP) := ⟨hx, hb, hr, hts, hown, hlocks, hml, hA, hK, hNw⟩
  clear hAe
  obtain ⟨H, hH⟩ : ∃ H, H = s.heap := ⟨_, rfl⟩
  rw [← hH] at hP ⊢
  have hS : va_S A s.heap H [] := by rw [hH]; exact va_S.rf
  have hS := hS
  refine lv_aload_n hx hb dX8_needsEnd_0 rfl (lv_at hl 0 rfl) ?_
  have hPc := hP.sub (ws' := [(a0, .inr (8, [.ref a0_bytes, .int v0_length, .int v0_at, z0_token, z0_filled, .int v0_fault, .int v0_faultPlace])), (a0_bytes, .inl (cyB, 600, .inl f0_bytes))]) [0, 1] rfl
  have hDc := hD.sub (ws' := [(a0, .inr (8, [.ref a0_bytes, .int v0_length, .int v0_at, z0_token, z0_filled, .int v0_fault, .int v0_faultPlace])), (a0_bytes, .inl (cyB, 600, .inl f0_bytes))]) [0, 1] (by decide) rfl
  have hFc := va_free (wc := [(a0, .inr (8, [.ref a0_bytes, .int v0_length, .int v0_at, z0_token, z0_filled, .int v0_fault, .int v0_faultPlace])), (a0_bytes, .inl (cyB, 600, .inl f0_bytes))]) hD hS hA [0, 1] rfl
  refine va_calli (va_runV (As := []) (rest := []) ⟨hx, hb, hml, hown, hts⟩ (ck_X8_isEnded l dC dI cyB cyI cyJ cyP a0 a0_bytes H.size (z0_token) (z0_filled) (.int v0_fault) (.int v0_faultPlace) v0_length f0_bytes v0_at  hw) (cwV 0 hts gX8_needsEnd_X8_isEnded rfl rfl rfl (by decide +kernel) ⟨Nat.le_of_ble_eq_true rfl, Nat.le_of_ble_eq_true rfl⟩) ⟨cPc_blind, va_recv hK hPc (ci := 8) (q0 := 0) rfl rfl, cPc_pre hPc hK hDc hNw⟩ rfl rfl hl.1 rfl (lv_room (Nat.le_of_ble_eq_true rfl)) dX8_needsEnd_1 ⟨Nat.le_of_ble_eq_true rfl, Nat.le_of_ble_eq_true rfl⟩) hS (fun q _ h => hFc q h) hFc (fun r2 u t H1 locs ht hvm hw hB hz1 hk1 hS => ?_)
  obtain ⟨x1, rfl⟩ : ∃ z, z = u := ⟨_, rfl⟩
  obtain ⟨hP1, hK1, hD1⟩ := hB
  rw [ht] at hP1
  obtain ⟨hP, hD⟩ := va_join (wr := []) (w1 := [(a0, .inr (8, [.ref a0_bytes, .int v0_length, .int x1, z0_token, z0_filled, .int v0_fault, .int v0_faultPlace])), (a0_bytes, .inl (cyB, 600, .inl f0_bytes))]) hP hD [0, 1] [] rfl rfl (by decide) (by decide) hk1 hFc hP1 hD1
  have hP : va_P (dC, dI) vwCl [(a0, .inr (8, [.ref a0_bytes, .int v0_length, .int x1, z0_token, z0_filled, .int v0_fault, .int v0_faultPlace])), (a0_bytes, .inl (cyB, 600, .inl f0_bytes))] H1 := hP
  have hD : va_D A [(a0, .inr (8, [.ref a0_bytes, .int v0_length, .int x1, z0_token, z0_filled, .int v0_fault, .int v0_faultPlace])), (a0_bytes, .inl (cyB, 600, .inl f0_bytes))] := hD
  generalize H1 = H at hP hS ⊢
  refine lv_if_ne (tgt := 11) hx hb dX8_needsEnd_4 (by decide) (fun c3 => ?_) (fun c3 => ?_)
  · have hw := hw.1 c3
    exact ((W.vret hx hb hr (fun t ht hW => ⟨⟨(x1, v0_fault, v0_faultPlace), rfl, hw, by rw [ht]; exact hP, va_K.moved hW.alike hK, hD⟩, hS.F ht⟩) hS.2.2 dX8_needsEnd_11))
  · have hw := hw.2 c3
    refine lv_aload_n hx hb dX8_needsEnd_7 rfl (lv_at hl 0 rfl) ?_
    have hPc := hP.sub (ws' := [(a0, .inr (8, [.ref a0_bytes, .int v0_length, .int x1, z0_token, z0_filled, .int v0_fault, .int v0_faultPlace])), (a0_bytes, .inl (cyB, 600, .inl f0_bytes))]) [0, 1] rfl
    have hDc := hD.sub (ws' := [(a0, .inr (8, [.ref a0_bytes, .int v0_length, .int x1, z0_token, z0_filled, .int v0_fault, .int v0_faultPlace])), (a0_bytes, .inl (cyB, 600, .inl f0_bytes))]) [0, 1] (by decide) rfl
    have hFc := va_free (wc := [(a0, .inr (8, [.ref a0_bytes, .int v0_length, .int x1, z0_token, z0_filled, .int v0_fault, .int v0_faultPlace])), (a0_bytes, .inl (cyB, 600, .inl f0_bytes))]) hD hS hA [0, 1] rfl
    refine va_callv (va_runV (As := []) (rest := []) ⟨hx, hb, hml, hown, hts⟩ (ck_X8_blameSign l dC dI cyB cyI cyJ cyP a0 a0_bytes H.size (z0_token) (z0_filled) v0_length f0_bytes x1 v0_fault v0_faultPlace  hw) (cwV 0 hts gX8_needsEnd_X8_blameSign rfl rfl rfl (by decide +kernel) ⟨Nat.le_of_ble_eq_true rfl, Nat.le_of_ble_eq_true rfl⟩) ⟨cPc_blind, va_recv hK hPc (ci := 8) (q0 := 0) rfl rfl, cPc_pre hPc hK hDc hNw⟩ rfl rfl hl.1 rfl (lv_room (Nat.le_of_ble_eq_true rfl)) dX8_needsEnd_8 ⟨Nat.le_of_ble_eq_true rfl, Nat.le_of_ble_eq_true rfl⟩) hS (fun q _ h => hFc q h) hFc (fun u t H1 locs ht hvm hw hB hz1 hk1 hS => ?_)
    obtain ⟨x4, x5, x6⟩ := u
    obtain ⟨hP1, hK1, hD1⟩ := hB
    rw [ht] at hP1
    obtain ⟨hP, hD⟩ := va_join (wr := []) (w1 := [(a0, .inr (8, [.ref a0_bytes, .int v0_length, .int x4, z0_token, z0_filled, .int x5, .int x6])), (a0_bytes, .inl (cyB, 600, .inl f0_bytes))]) hP hD [0, 1] [] rfl rfl (by decide) (by decide) hk1 hFc hP1 hD1
    have hP : va_P (dC, dI) vwCl [(a0, .inr (8, [.ref a0_bytes, .int v0_length, .int x4, z0_token, z0_filled, .int x5, .int x6])), (a0_bytes, .inl (cyB, 600, .inl f0_bytes))] H1 := hP
    have hD : va_D A [(a0, .inr (8, [.ref a0_bytes, .int v0_length, .int x4, z0_token, z0_filled, .int x5, .int x6])), (a0_bytes, .inl (cyB, 600, .inl f0_bytes))] := hD
    generalize H1 = H at hP hS ⊢
    exact ((W.vret hx hb hr (fun t ht hW => ⟨⟨(x4, x5, x6), rfl, hw, by rw [ht]; exact hP, va_K.moved hW.alike hK, hD⟩, hS.F ht⟩) hS.2.2 dX8_needsEnd_11))
theorem ui_X4_readFrom_X4 : ∀ w ∈ u_ws RX4 TX4 5, w ∈ wsX4_readFrom := by decide +kernel
theorem uw_X4_readFrom_f27 : (.fieldLink RX4 27 "MarchHares$Law" "length" "I" : Cond) ∈ wsX4_readFrom := by decide +kernel
def wq_X4_readFrom (v1_length : Int32) (f1_bytes : Nat → Int32) (v0_length : Int32) (v1_at : Int32) (v1_token : Int32) (f0_kinds : Nat → Int32) (f0_values : Nat → Int32) (v1_fault : Int32) (v1_faultPlace : Int32)  (Q : Int32 → Int32 → Int32 → (Nat → Int32) → (Nat → Int32) → Int32 → Int32 → Prop) : Prop := wq_X4_readSum v1_length v1_fault f1_bytes v1_at v1_token f0_kinds f0_values 0 0 (fun x1 x2 f3 f4 x5 => wq_X8_needsEnd v1_length f1_bytes x1 v1_fault v1_faultPlace  (fun x6 x7 x8 => (Q x5 x6 x2 f3 f4 x7 x8)))
set_option maxHeartbeats 4000000 in
set_option maxRecDepth 100000 in
theorem ck_X4_readFrom (l : Launch) (dC : Nat → ClassId) (dI : Nat → Nat → Nat) (cyB cyI cyJ cyP : ClassId) (a0 a1 a1_bytes a0_kinds a0_values : Nat) (sz : Nat) (z0_pile : Value) (z0_facts : Value) (z1_filled : Value) (v1_length : Int32) (f1_bytes : Nat → Int32) (v0_length : Int32) (v1_at : Int32) (v1_token : Int32) (f0_kinds : Nat → Int32) (f0_values : Nat → Int32) (v1_fault : Int32) (v1_faultPlace : Int32)  {Q : Int32 → Int32 → Int32 → (Nat → Int32) → (Nat → Int32) → Int32 → Int32 → Prop} (hw : wq_X4_readFrom v1_length f1_bytes v0_length v1_at v1_token f0_kinds f0_values v1_fault v1_faultPlace  Q) : Met l yX4_readFrom wsX4_readFrom ({ frames := 3, cells := 0, slots := 0, locals := 65 }) (va_Pc [.ref a0, .ref a1] (cPc (dC, dI) (kT cyB cyI cyJ cyP) [(a0, .inr (4, [.ref a0_kinds, .ref a0_values, z0_pile, z0_facts, .int v0_length])), (a1, .inr (8, [.ref a1_bytes, .int v1_length, .int v1_at, .int v1_token, z1_filled, .int v1_fault, .int v1_faultPlace])), (a1_bytes, .inl (cyB, 600, .inl f1_bytes)), (a0_kinds, .inl (cyI, 150, .inl f0_kinds)), (a0_values, .inl (cyI, 150, .inl f0_values))] sz)) (va_Qv (fun (u : Int32 × Int32 × Int32 × (Nat → Int32) × (Nat → Int32) × Int32 × Int32) => Q u.1 u.2.1 u.2.2.1 u.2.2.2.1 u.2.2.2.2.1 u.2.2.2.2.2.1 u.2.2.2.2.2.2) (cB (dC, dI) (kT cyB cyI cyJ cyP) (va_A [(a0, .inr (4, [.ref a0_kinds, .ref a0_values, z0_pile, z0_facts, .int v0_length])), (a1, .inr (8, [.ref a1_bytes, .int v1_length, .int v1_at, .int v1_token, z1_filled, .int v1_fault, .int v1_faultPlace])), (a1_bytes, .inl (cyB, 600, .inl f1_bytes)), (a0_kinds, .inl (cyI, 150, .inl f0_kinds)), (a0_values, .inl (cyI, 150, .inl f0_values))] sz) (fun u : Int32 × Int32 × Int32 × (Nat → Int32) × (Nat → Int32) × Int32 × Int32 => ([(a0, .inr (4, [.ref a0_kinds, .ref a0_values, z0_pile, z0_facts, .int u.1])), (a1, .inr (8, [.ref a1_bytes, .int v1_length, .int u.2.1, .int u.2.2.1, z1_filled, .int u.2.2.2.2.2.1, .int u.2.2.2.2.2.2])), (a1_bytes, .inl (cyB, 600, .inl f1_bytes)), (a0_kinds, .inl (cyI, 150, .inl u.2.2.2.1)), (a0_values, .inl (cyI, 150, .inl u.2.2.2.2.1))] : va_W))) (va_A [(a0, .inr (4, [.ref a0_kinds, .ref a0_values, z0_pile, z0_facts, .int v0_length])), (a1, .inr (8, [.ref a1_bytes, .int v1_length, .int v1_at, .int v1_token, z1_filled, .int v1_fault, .int v1_faultPlace])), (a1_bytes, .inl (cyB, 600, .inl f1_bytes)), (a0_kinds, .inl (cyI, 150, .inl f0_kinds)), (a0_values, .inl (cyI, 150, .inl f0_values))] sz)) 0 0 (va_A [(a0, .inr (4, [.ref a0_kinds, .ref a0_values, z0_pile, z0_facts, .int v0_length])), (a1, .inr (8, [.ref a1_bytes, .int v1_length, .int v1_at, .int v1_token, z1_filled, .int v1_fault, .int v1_faultPlace])), (a1_bytes, .inl (cyB, 600, .inl f1_bytes)), (a0_kinds, .inl (cyI, 150, .inl f0_kinds)), (a0_values, .inl (cyI, 150, .inl f0_values))] sz) := by
  refine Met.ofW (cc := cX4_readFrom) (maxL := 2) (ret := none) (by decide) rfl ?_
  intro p e s m args below meth c s₁ B hml hv
  obtain ⟨rfl, hsz, hP, hK, hD0, hNw⟩ := hv
  have hx := B.exec
  have hb := B.bytes
  have hr := B.returns
  have hts := atoms_spec (ws := wsX4_readFrom) B.pre
  have hown : s.vm.findClass RX4 = some m.cls := findClass_of_methodNamed B.named
  have hlocks := B.notSynchronized
  subst hsz
  have hD := hD0.self (sz := s.heap.size)
  generalize hAe : va_A [(a0, .inr (4, [.ref a0_kinds, .ref a0_values, z0_pile, z0_facts, .int v0_length])), (a1, .inr (8, [.ref a1_bytes, .int v1_length, .int v1_at, .int v1_token, z1_filled, .int v1_fault, .int v1_faultPlace])), (a1_bytes, .inl (cyB, 600, .inl f1_bytes)), (a0_kinds, .inl (cyI, 150, .inl f0_kinds)), (a0_values, .inl (cyI, 150, .inl f0_values))] s.heap.size = A at hD ⊢
  have hA : ∀ q : Nat, s.heap.size ≤ q → A q := fun q h => by rw [← hAe]; exact Or.inr h
  have hS : va_S A s.heap s.heap [] := va_S.rf
  have hP : va_P (dC, dI) vwCl [(a0, .inr (4, [.ref a0_kinds, .ref a0_values, z0_pile, z0_facts, .int v0_length])), (a1, .inr (8, [.ref a1_bytes, .int v1_length, .int v1_at, .int v1_token, z1_filled, .int v1_fault, .int v1_faultPlace])), (a1_bytes, .inl (cyB, 600, .inl f1_bytes)), (a0_kinds, .inl (cyI, 150, .inl f0_kinds)), (a0_values, .inl (cyI, 150, .inl f0_values))] s.heap := hP
  have hl := lv_entry ([.ref a0, .ref a1]) (n := 2) (Nat.le_of_ble_eq_true rfl)
  rw [lg_entry_eq]
  generalize (lg_sl ([.ref a0, .ref a1]) ++ List.replicate (2 - (lg_sl ([.ref a0, .ref a1])).length) Slot.unset).toArray = ls at hl ⊢
  have hl : lv_has ls 2 [(0, .ref a0), (1, .ref a1)] := hl
  have C0 : cfx p s m _ meth c cX4_readFrom none wsX4_readFrom RX4 2 A (dC, dI) (kT cyB cyI cyJ cyP) := ⟨hx, hb, hr, hts, hown, hlocks, hml, hA, hK, hNw⟩
  clear hAe
  obtain ⟨H, hH⟩ : ∃ H, H = s.heap := ⟨_, rfl⟩
  rw [← hH] at hP ⊢
  have hS : va_S A s.heap H [] := by rw [hH]; exact va_S.rf
  have hS := hS
  refine lv_aload_n hx hb dX4_readFrom_0 rfl (lv_at hl 0 rfl) ?_
  refine lv_iconst (v := 0) hx hb dX4_readFrom_1 (by decide) ?_
  refine va_put (D := (dC, dI)) (ci := 4) (v := .int 0) (ty := .int) (C := RX4) (T := TX4) (N := 5) hx hb hts ui_X4_readFrom_X4 tyX4 tyX4_ok nmX4 hown hK hP hD hS 0 rfl rfl 4 (by decide) (hts _ uw_X4_readFrom_f27) (fun _ h9 => h9) rfl (by decide +kernel) rfl rfl (Nat.le_of_ble_eq_true rfl) dX4_readFrom_2 (fun H locs hP hD hS => ?_)
  have hP : va_P (dC, dI) vwCl [(a0, .inr (4, [.ref a0_kinds, .ref a0_values, z0_pile, z0_facts, .int 0])), (a1, .inr (8, [.ref a1_bytes, .int v1_length, .int v1_at, .int v1_token, z1_filled, .int v1_fault, .int v1_faultPlace])), (a1_bytes, .inl (cyB, 600, .inl f1_bytes)), (a0_kinds, .inl (cyI, 150, .inl f0_kinds)), (a0_values, .inl (cyI, 150, .inl f0_values))] H := hP
  have hD : va_D A [(a0, .inr (4, [.ref a0_kinds, .ref a0_values, z0_pile, z0_facts, .int 0])), (a1, .inr (8, [.ref a1_bytes, .int v1_length, .int v1_at, .int v1_token, z1_filled, .int v1_fault, .int v1_faultPlace])), (a1_bytes, .inl (cyB, 600, .inl f1_bytes)), (a0_kinds, .inl (cyI, 150, .inl f0_kinds)), (a0_values, .inl (cyI, 150, .inl f0_values))] := hD
  refine lv_aload_n hx hb dX4_readFrom_5 rfl (lv_at hl 0 rfl) ?_
  refine lv_aload_n hx hb dX4_readFrom_6 rfl (lv_at hl 1 rfl) ?_
  refine lv_iconst (v := 0) hx hb dX4_readFrom_7 (by decide) ?_
  have hPc := hP.sub (ws' := [(a0, .inr (4, [.ref a0_kinds, .ref a0_values, z0_pile, z0_facts, .int 0])), (a1, .inr (8, [.ref a1_bytes, .int v1_length, .int v1_at, .int v1_token, z1_filled, .int v1_fault, .int v1_faultPlace])), (a1_bytes, .inl (cyB, 600, .inl f1_bytes)), (a0_kinds, .inl (cyI, 150, .inl f0_kinds)), (a0_values, .inl (cyI, 150, .inl f0_values))]) [0, 1, 2, 3, 4] rfl
  have hDc := hD.sub (ws' := [(a0, .inr (4, [.ref a0_kinds, .ref a0_values, z0_pile, z0_facts, .int 0])), (a1, .inr (8, [.ref a1_bytes, .int v1_length, .int v1_at, .int v1_token, z1_filled, .int v1_fault, .int v1_faultPlace])), (a1_bytes, .inl (cyB, 600, .inl f1_bytes)), (a0_kinds, .inl (cyI, 150, .inl f0_kinds)), (a0_values, .inl (cyI, 150, .inl f0_values))]) [0, 1, 2, 3, 4] (by decide) rfl
  have hFc := va_free (wc := [(a0, .inr (4, [.ref a0_kinds, .ref a0_values, z0_pile, z0_facts, .int 0])), (a1, .inr (8, [.ref a1_bytes, .int v1_length, .int v1_at, .int v1_token, z1_filled, .int v1_fault, .int v1_faultPlace])), (a1_bytes, .inl (cyB, 600, .inl f1_bytes)), (a0_kinds, .inl (cyI, 150, .inl f0_kinds)), (a0_values, .inl (cyI, 150, .inl f0_values))]) hD hS hA [0, 1, 2, 3, 4] rfl
  refine va_callv (va_runV (As := [.ref a1, .int 0]) (rest := []) ⟨hx, hb, hml, hown, hts⟩ (ck_X4_readSum l dC dI cyB cyI cyJ cyP a0 a1 a1_bytes a0_kinds a0_values H.size (z0_pile) (z0_facts) (z1_filled) (.int v1_faultPlace) v1_length v1_fault f1_bytes v1_at v1_token f0_kinds f0_values 0 0 hw) (cwV 2 hts gX4_readFrom_X4_readSum rfl rfl rfl (by decide +kernel) ⟨Nat.le_of_ble_eq_true rfl, Nat.le_of_ble_eq_true rfl⟩) ⟨cPc_blind, va_recv hK hPc (ci := 4) (q0 := 0) rfl rfl, cPc_pre hPc hK hDc hNw⟩ rfl rfl hl.1 rfl (lv_room (Nat.le_of_ble_eq_true rfl)) dX4_readFrom_8 ⟨Nat.le_of_ble_eq_true rfl, Nat.le_of_ble_eq_true rfl⟩) hS (fun q _ h => hFc q h) hFc (fun u t H1 locs ht hvm hw hB hz1 hk1 hS => ?_)
  obtain ⟨x1, x2, f3, f4, x5⟩ := u
  obtain ⟨hP1, hK1, hD1⟩ := hB
  rw [ht] at hP1
  obtain ⟨hP, hD⟩ := va_join (wr := []) (w1 := [(a0, .inr (4, [.ref a0_kinds, .ref a0_values, z0_pile, z0_facts, .int x5])), (a1, .inr (8, [.ref a1_bytes, .int v1_length, .int x1, .int x2, z1_filled, .int v1_fault, .int v1_faultPlace])), (a1_bytes, .inl (cyB, 600, .inl f1_bytes)), (a0_kinds, .inl (cyI, 150, .inl f3)), (a0_values, .inl (cyI, 150, .inl f4))]) hP hD [0, 1, 2, 3, 4] [] rfl rfl (by decide) (by decide) hk1 hFc hP1 hD1
  have hP : va_P (dC, dI) vwCl [(a0, .inr (4, [.ref a0_kinds, .ref a0_values, z0_pile, z0_facts, .int x5])), (a1, .inr (8, [.ref a1_bytes, .int v1_length, .int x1, .int x2, z1_filled, .int v1_fault, .int v1_faultPlace])), (a1_bytes, .inl (cyB, 600, .inl f1_bytes)), (a0_kinds, .inl (cyI, 150, .inl f3)), (a0_values, .inl (cyI, 150, .inl f4))] H1 := hP
  have hD : va_D A [(a0, .inr (4, [.ref a0_kinds, .ref a0_values, z0_pile, z0_facts, .int x5])), (a1, .inr (8, [.ref a1_bytes, .int v1_length, .int x1, .int x2, z1_filled, .int v1_fault, .int v1_faultPlace])), (a1_bytes, .inl (cyB, 600, .inl f1_bytes)), (a0_kinds, .inl (cyI, 150, .inl f3)), (a0_values, .inl (cyI, 150, .inl f4))] := hD
  generalize H1 = H at hP hS ⊢
  refine lv_aload_n hx hb dX4_readFrom_11 rfl (lv_at hl 1 rfl) ?_
  have hPc := hP.sub (ws' := [(a1, .inr (8, [.ref a1_bytes, .int v1_length, .int x1, .int x2, z1_filled, .int v1_fault, .int v1_faultPlace])), (a1_bytes, .inl (cyB, 600, .inl f1_bytes))]) [1, 2] rfl
  have hDc := hD.sub (ws' := [(a1, .inr (8, [.ref a1_bytes, .int v1_length, .int x1, .int x2, z1_filled, .int v1_fault, .int v1_faultPlace])), (a1_bytes, .inl (cyB, 600, .inl f1_bytes))]) [1, 2] (by decide) rfl
  have hFc := va_free (wc := [(a1, .inr (8, [.ref a1_bytes, .int v1_length, .int x1, .int x2, z1_filled, .int v1_fault, .int v1_faultPlace])), (a1_bytes, .inl (cyB, 600, .inl f1_bytes))]) hD hS hA [1, 2] rfl
  refine va_callv (va_runV (As := []) (rest := []) ⟨hx, hb, hml, hown, hts⟩ (ck_X8_needsEnd l dC dI cyB cyI cyJ cyP a1 a1_bytes H.size (.int x2) (z1_filled) v1_length f1_bytes x1 v1_fault v1_faultPlace  hw) (cwV 0 hts gX4_readFrom_X8_needsEnd rfl rfl rfl (by decide +kernel) ⟨Nat.le_of_ble_eq_true rfl, Nat.le_of_ble_eq_true rfl⟩) ⟨cPc_blind, va_recv hK hPc (ci := 8) (q0 := 0) rfl rfl, cPc_pre hPc hK hDc hNw⟩ rfl rfl hl.1 rfl (lv_room (Nat.le_of_ble_eq_true rfl)) dX4_readFrom_12 ⟨Nat.le_of_ble_eq_true rfl, Nat.le_of_ble_eq_true rfl⟩) hS (fun q _ h => hFc q h) hFc (fun u t H1 locs ht hvm hw hB hz1 hk1 hS => ?_)
  obtain ⟨x6, x7, x8⟩ := u
  obtain ⟨hP1, hK1, hD1⟩ := hB
  rw [ht] at hP1
  obtain ⟨hP, hD⟩ := va_join (wr := [(a0, .inr (4, [.ref a0_kinds, .ref a0_values, z0_pile, z0_facts, .int x5])), (a0_kinds, .inl (cyI, 150, .inl f3)), (a0_values, .inl (cyI, 150, .inl f4))]) (w1 := [(a1, .inr (8, [.ref a1_bytes, .int v1_length, .int x6, .int x2, z1_filled, .int x7, .int x8])), (a1_bytes, .inl (cyB, 600, .inl f1_bytes))]) hP hD [1, 2] [0, 3, 4] rfl rfl (by decide) (by decide) hk1 hFc hP1 hD1
  have hP : va_P (dC, dI) vwCl [(a0, .inr (4, [.ref a0_kinds, .ref a0_values, z0_pile, z0_facts, .int x5])), (a1, .inr (8, [.ref a1_bytes, .int v1_length, .int x6, .int x2, z1_filled, .int x7, .int x8])), (a1_bytes, .inl (cyB, 600, .inl f1_bytes)), (a0_kinds, .inl (cyI, 150, .inl f3)), (a0_values, .inl (cyI, 150, .inl f4))] H1 := hP.sub [0, 3, 4, 1, 2] rfl
  have hD : va_D A [(a0, .inr (4, [.ref a0_kinds, .ref a0_values, z0_pile, z0_facts, .int x5])), (a1, .inr (8, [.ref a1_bytes, .int v1_length, .int x6, .int x2, z1_filled, .int x7, .int x8])), (a1_bytes, .inl (cyB, 600, .inl f1_bytes)), (a0_kinds, .inl (cyI, 150, .inl f3)), (a0_values, .inl (cyI, 150, .inl f4))] := hD.sub [0, 3, 4, 1, 2] (by decide) rfl
  generalize H1 = H at hP hS ⊢
  exact ((W.vret hx hb hr (fun t ht hW => ⟨⟨(x5, x6, x2, f3, f4, x7, x8), rfl, hw, by rw [ht]; exact hP, va_K.moved hW.alike hK, hD⟩, hS.F ht⟩) hS.2.2 dX4_readFrom_15))
theorem ui_X1_obey_X1 : ∀ w ∈ u_ws RX1 TX1 4, w ∈ wsX1_obey := by decide +kernel
theorem uw_X1_obey_f28 : (.fieldLink RX1 28 "MarchHares$Days" "law" "LMarchHares$Law;" : Cond) ∈ wsX1_obey := by decide +kernel
def wq_X1_obey    (Q : Prop) : Prop := Q
set_option maxHeartbeats 4000000 in
set_option maxRecDepth 100000 in
theorem ck_X1_obey (l : Launch) (dC : Nat → ClassId) (dI : Nat → Nat → Nat) (cyB cyI cyJ cyP : ClassId) (a0 a1 : Nat) (sz : Nat) (z0_row : Value) (z0_owedEach : Value) (z0_down : Value) (r0_law : Value)    {Q : Prop} (hw : wq_X1_obey    Q) : Met l yX1_obey wsX1_obey ({ frames := 0, cells := 0, slots := 0, locals := 0 }) (va_Pc [.ref a0, .ref a1] (cPc (dC, dI) (kT cyB cyI cyJ cyP) [(a0, .inr (1, [z0_row, z0_owedEach, z0_down, r0_law]))] sz)) (va_Qv (fun (_ : Unit) => Q ) (cB (dC, dI) (kT cyB cyI cyJ cyP) (va_A [(a0, .inr (1, [z0_row, z0_owedEach, z0_down, r0_law]))] sz) (fun u : Unit => ([(a0, .inr (1, [z0_row, z0_owedEach, z0_down, .ref a1]))] : va_W))) (va_A [(a0, .inr (1, [z0_row, z0_owedEach, z0_down, r0_law]))] sz)) 0 0 (va_A [(a0, .inr (1, [z0_row, z0_owedEach, z0_down, r0_law]))] sz) := by
  refine Met.ofW (cc := cX1_obey) (maxL := 2) (ret := none) (by decide) rfl ?_
  intro p e s m args below meth c s₁ B hml hv
  obtain ⟨rfl, hsz, hP, hK, hD0, hNw⟩ := hv
  have hx := B.exec
  have hb := B.bytes
  have hr := B.returns
  have hts := atoms_spec (ws := wsX1_obey) B.pre
  have hown : s.vm.findClass RX1 = some m.cls := findClass_of_methodNamed B.named
  have hlocks := B.notSynchronized
  subst hsz
  have hD := hD0.self (sz := s.heap.size)
  generalize hAe : va_A [(a0, .inr (1, [z0_row, z0_owedEach, z0_down, r0_law]))] s.heap.size = A at hD ⊢
  have hA : ∀ q : Nat, s.heap.size ≤ q → A q := fun q h => by rw [← hAe]; exact Or.inr h
  have hS : va_S A s.heap s.heap [] := va_S.rf
  have hP : va_P (dC, dI) vwCl [(a0, .inr (1, [z0_row, z0_owedEach, z0_down, r0_law]))] s.heap := hP
  have hl := lv_entry ([.ref a0, .ref a1]) (n := 2) (Nat.le_of_ble_eq_true rfl)
  rw [lg_entry_eq]
  generalize (lg_sl ([.ref a0, .ref a1]) ++ List.replicate (2 - (lg_sl ([.ref a0, .ref a1])).length) Slot.unset).toArray = ls at hl ⊢
  have hl : lv_has ls 2 [(0, .ref a0), (1, .ref a1)] := hl
  have C0 : cfx p s m _ meth c cX1_obey none wsX1_obey RX1 2 A (dC, dI) (kT cyB cyI cyJ cyP) := ⟨hx, hb, hr, hts, hown, hlocks, hml, hA, hK, hNw⟩
  clear hAe
  obtain ⟨H, hH⟩ : ∃ H, H = s.heap := ⟨_, rfl⟩
  rw [← hH] at hP ⊢
  have hS : va_S A s.heap H [] := by rw [hH]; exact va_S.rf
  have hS := hS
  refine lv_aload_n hx hb dX1_obey_0 rfl (lv_at hl 0 rfl) ?_
  refine lv_aload_n hx hb dX1_obey_1 rfl (lv_at hl 1 rfl) ?_
  refine va_put (D := (dC, dI)) (ci := 1) (v := .ref a1) (ty := .object "MarchHares$Law") (C := RX1) (T := TX1) (N := 4) hx hb hts ui_X1_obey_X1 tyX1 tyX1_ok nmX1 hown hK hP hD hS 0 rfl rfl 3 (by decide) (hts _ uw_X1_obey_f28) (fun _ h9 => h9) rfl (by decide +kernel) rfl rfl (Nat.le_of_ble_eq_true rfl) dX1_obey_2 (fun H locs hP hD hS => ?_)
  have hP : va_P (dC, dI) vwCl [(a0, .inr (1, [z0_row, z0_owedEach, z0_down, .ref a1]))] H := hP
  have hD : va_D A [(a0, .inr (1, [z0_row, z0_owedEach, z0_down, .ref a1]))] := hD
  exact ((W.vret hx hb hr (fun t ht hW => ⟨⟨(), rfl, hw, by rw [ht]; exact hP, va_K.moved hW.alike hK, hD⟩, hS.F ht⟩) hS.2.2 dX1_obey_5))
theorem ui_X10_law_X10 : ∀ w ∈ u_ws RX10 TX10 19, w ∈ wsX10_law := by decide +kernel
theorem ui_X10_law_X8 : ∀ w ∈ u_ws RX8 TX8 7, w ∈ wsX10_law := by decide +kernel
theorem uw_X10_law_f10 : (.fieldLink RX10 10 "MarchHares" "tape" "LMarchHares$Tape;" : Cond) ∈ wsX10_law := by decide +kernel
theorem uw_X10_law_f120 : (.fieldLink RX10 120 "MarchHares$Tape" "fault" "I" : Cond) ∈ wsX10_law := by decide +kernel
theorem uw_X10_law_f29 : (.fieldLink RX10 29 "MarchHares" "rule" "LMarchHares$Law;" : Cond) ∈ wsX10_law := by decide +kernel
theorem uw_X10_law_f33 : (.fieldLink RX10 33 "MarchHares" "spareRule" "LMarchHares$Law;" : Cond) ∈ wsX10_law := by decide +kernel
theorem uw_X10_law_f58 : (.fieldLink RX10 58 "MarchHares" "now" "LMarchHares$Days;" : Cond) ∈ wsX10_law := by decide +kernel
def wq_X10_law (a0_rule : Nat) (a0_spareRule : Nat) (f0_tape_bytes : Nat → Int32) (v0_callsIllegal : Int32) (v0_tape_length : Int32) (v0_tape_at : Int32) (v0_tape_token : Int32) (v0_tape_filled : Int32) (v0_tape_fault : Int32) (v0_tape_faultPlace : Int32) (v0_spareRule_length : Int32) (f0_spareRule_kinds : Nat → Int32) (f0_spareRule_values : Nat → Int32) (r0_rule : Value) (r0_spareRule : Value) (r0_now_law : Value) (p1 : Int32) (E : String → Int32 → Int32 → Int32 → Int32 → Int32 → Int32 → Int32 → Int32 → (Nat → Int32) → (Nat → Int32) → Value → Value → Value → Prop) (Q : Int32 → Int32 → Int32 → Int32 → Int32 → Int32 → Int32 → Int32 → Int32 → (Nat → Int32) → (Nat → Int32) → Value → Value → Value → Prop) : Prop := wq_X10_openText  v0_callsIllegal v0_tape_length v0_tape_at v0_tape_token v0_tape_filled v0_tape_fault v0_tape_faultPlace p1 150 (fun en x1 x2 x3 x4 x5 x6 x7 => E en x1 x2 x3 x4 x5 x6 x7 v0_spareRule_length f0_spareRule_kinds f0_spareRule_values (.ref a0_rule) (.ref a0_spareRule) r0_now_law) (fun x1 x2 x3 x4 x5 x6 x7 => wq_X4_readFrom x2 f0_tape_bytes v0_spareRule_length x3 x4 f0_spareRule_kinds f0_spareRule_values x6 x7  (fun x8 x9 x10 f11 f12 x13 x14 => wq_X8_isFaulty x13   (fun r15 => ((r15 = 0 → wq_X1_obey    ((Q 1 x1 x2 x9 x10 x5 x13 x14 x8 f11 f12 (.ref a0_spareRule) (.ref a0_rule) (.ref a0_spareRule)))) ∧ (¬ r15 = 0 → (Q (x13 - 10) x1 x2 x9 x10 x5 x13 x14 x8 f11 f12 (.ref a0_rule) (.ref a0_spareRule) r0_now_law))))))
set_option maxHeartbeats 4000000 in
set_option maxRecDepth 100000 in
theorem ck_X10_law (l : Launch) (dC : Nat → ClassId) (dI : Nat → Nat → Nat) (cyB cyI cyJ cyP : ClassId) (a0 a0_tape a0_spareRule a0_tape_bytes a0_spareRule_kinds a0_spareRule_values a0_rule a0_now : Nat) (sz : Nat) (z0_ground : Value) (z0_spareGround : Value) (z0_lines : Value) (z0_spareLines : Value) (z0_steps : Value) (z0_trial : Value) (z0_past : Value) (z0_images : Value) (z0_round : Value) (z0_seating : Value) (z0_fitting : Value) (z0_imagesKept : Value) (z0_refusedSteps : Value) (z0_callsNoSuch : Value) (z0_spareRule_pile : Value) (z0_spareRule_facts : Value) (z0_now_row : Value) (z0_now_owedEach : Value) (z0_now_down : Value) (f0_tape_bytes : Nat → Int32) (v0_callsIllegal : Int32) (v0_tape_length : Int32) (v0_tape_at : Int32) (v0_tape_token : Int32) (v0_tape_filled : Int32) (v0_tape_fault : Int32) (v0_tape_faultPlace : Int32) (v0_spareRule_length : Int32) (f0_spareRule_kinds : Nat → Int32) (f0_spareRule_values : Nat → Int32) (r0_now_law : Value) (p1 : Int32) {E : String → Int32 → Int32 → Int32 → Int32 → Int32 → Int32 → Int32 → Int32 → (Nat → Int32) → (Nat → Int32) → Value → Value → Value → Prop} {Q : Int32 → Int32 → Int32 → Int32 → Int32 → Int32 → Int32 → Int32 → Int32 → (Nat → Int32) → (Nat → Int32) → Value → Value → Value → Prop} (hw : wq_X10_law a0_rule a0_spareRule f0_tape_bytes v0_callsIllegal v0_tape_length v0_tape_at v0_tape_token v0_tape_filled v0_tape_fault v0_tape_faultPlace v0_spareRule_length f0_spareRule_kinds f0_spareRule_values (.ref a0_rule) (.ref a0_spareRule) r0_now_law p1 E Q) : vx_Met l yX10_law wsX10_law ({ frames := 9, cells := 1, slots := 6, locals := 186 }) (va_Pc [.ref a0, .int p1] (cPx l (dC, dI) (kT cyB cyI cyJ cyP) [(a0, .inr (10, [.ref a0_tape, z0_ground, z0_spareGround, .ref a0_rule, .ref a0_spareRule, z0_lines, z0_spareLines, z0_steps, .ref a0_now, z0_trial, z0_past, z0_images, z0_round, z0_seating, z0_fitting, z0_imagesKept, z0_refusedSteps, z0_callsNoSuch, .int v0_callsIllegal])), (a0_tape, .inr (8, [.ref a0_tape_bytes, .int v0_tape_length, .int v0_tape_at, .int v0_tape_token, .int v0_tape_filled, .int v0_tape_fault, .int v0_tape_faultPlace])), (a0_spareRule, .inr (4, [.ref a0_spareRule_kinds, .ref a0_spareRule_values, z0_spareRule_pile, z0_spareRule_facts, .int v0_spareRule_length])), (a0_tape_bytes, .inl (cyB, 600, .inl f0_tape_bytes)), (a0_spareRule_kinds, .inl (cyI, 150, .inl f0_spareRule_kinds)), (a0_spareRule_values, .inl (cyI, 150, .inl f0_spareRule_values)), (a0_now, .inr (1, [z0_now_row, z0_now_owedEach, z0_now_down, r0_now_law]))] sz)) (va_Qi (fun (r : Int32) (u : Int32 × Int32 × Int32 × Int32 × Int32 × Int32 × Int32 × Int32 × (Nat → Int32) × (Nat → Int32) × Value × Value × Value) => Q r u.1 u.2.1 u.2.2.1 u.2.2.2.1 u.2.2.2.2.1 u.2.2.2.2.2.1 u.2.2.2.2.2.2.1 u.2.2.2.2.2.2.2.1 u.2.2.2.2.2.2.2.2.1 u.2.2.2.2.2.2.2.2.2.1 u.2.2.2.2.2.2.2.2.2.2.1 u.2.2.2.2.2.2.2.2.2.2.2.1 u.2.2.2.2.2.2.2.2.2.2.2.2) (cB (dC, dI) (kT cyB cyI cyJ cyP) (va_A [(a0, .inr (10, [.ref a0_tape, z0_ground, z0_spareGround, .ref a0_rule, .ref a0_spareRule, z0_lines, z0_spareLines, z0_steps, .ref a0_now, z0_trial, z0_past, z0_images, z0_round, z0_seating, z0_fitting, z0_imagesKept, z0_refusedSteps, z0_callsNoSuch, .int v0_callsIllegal])), (a0_tape, .inr (8, [.ref a0_tape_bytes, .int v0_tape_length, .int v0_tape_at, .int v0_tape_token, .int v0_tape_filled, .int v0_tape_fault, .int v0_tape_faultPlace])), (a0_spareRule, .inr (4, [.ref a0_spareRule_kinds, .ref a0_spareRule_values, z0_spareRule_pile, z0_spareRule_facts, .int v0_spareRule_length])), (a0_tape_bytes, .inl (cyB, 600, .inl f0_tape_bytes)), (a0_spareRule_kinds, .inl (cyI, 150, .inl f0_spareRule_kinds)), (a0_spareRule_values, .inl (cyI, 150, .inl f0_spareRule_values)), (a0_now, .inr (1, [z0_now_row, z0_now_owedEach, z0_now_down, r0_now_law]))] sz) (fun u : Int32 × Int32 × Int32 × Int32 × Int32 × Int32 × Int32 × Int32 × (Nat → Int32) × (Nat → Int32) × Value × Value × Value => ([(a0, .inr (10, [.ref a0_tape, z0_ground, z0_spareGround, u.2.2.2.2.2.2.2.2.2.2.1, u.2.2.2.2.2.2.2.2.2.2.2.1, z0_lines, z0_spareLines, z0_steps, .ref a0_now, z0_trial, z0_past, z0_images, z0_round, z0_seating, z0_fitting, z0_imagesKept, z0_refusedSteps, z0_callsNoSuch, .int u.1])), (a0_tape, .inr (8, [.ref a0_tape_bytes, .int u.2.1, .int u.2.2.1, .int u.2.2.2.1, .int u.2.2.2.2.1, .int u.2.2.2.2.2.1, .int u.2.2.2.2.2.2.1])), (a0_spareRule, .inr (4, [.ref a0_spareRule_kinds, .ref a0_spareRule_values, z0_spareRule_pile, z0_spareRule_facts, .int u.2.2.2.2.2.2.2.1])), (a0_tape_bytes, .inl (cyB, 600, .inl f0_tape_bytes)), (a0_spareRule_kinds, .inl (cyI, 150, .inl u.2.2.2.2.2.2.2.2.1)), (a0_spareRule_values, .inl (cyI, 150, .inl u.2.2.2.2.2.2.2.2.2.1)), (a0_now, .inr (1, [z0_now_row, z0_now_owedEach, z0_now_down, u.2.2.2.2.2.2.2.2.2.2.2.2]))] : va_W))) (va_A [(a0, .inr (10, [.ref a0_tape, z0_ground, z0_spareGround, .ref a0_rule, .ref a0_spareRule, z0_lines, z0_spareLines, z0_steps, .ref a0_now, z0_trial, z0_past, z0_images, z0_round, z0_seating, z0_fitting, z0_imagesKept, z0_refusedSteps, z0_callsNoSuch, .int v0_callsIllegal])), (a0_tape, .inr (8, [.ref a0_tape_bytes, .int v0_tape_length, .int v0_tape_at, .int v0_tape_token, .int v0_tape_filled, .int v0_tape_fault, .int v0_tape_faultPlace])), (a0_spareRule, .inr (4, [.ref a0_spareRule_kinds, .ref a0_spareRule_values, z0_spareRule_pile, z0_spareRule_facts, .int v0_spareRule_length])), (a0_tape_bytes, .inl (cyB, 600, .inl f0_tape_bytes)), (a0_spareRule_kinds, .inl (cyI, 150, .inl f0_spareRule_kinds)), (a0_spareRule_values, .inl (cyI, 150, .inl f0_spareRule_values)), (a0_now, .inr (1, [z0_now_row, z0_now_owedEach, z0_now_down, r0_now_law]))] sz)) (vx_X (fun _ => True) (fun (en : String) (u : Int32 × Int32 × Int32 × Int32 × Int32 × Int32 × Int32 × Int32 × (Nat → Int32) × (Nat → Int32) × Value × Value × Value) (t : State) => E en u.1 u.2.1 u.2.2.1 u.2.2.2.1 u.2.2.2.2.1 u.2.2.2.2.2.1 u.2.2.2.2.2.2.1 u.2.2.2.2.2.2.2.1 u.2.2.2.2.2.2.2.2.1 u.2.2.2.2.2.2.2.2.2.1 u.2.2.2.2.2.2.2.2.2.2.1 u.2.2.2.2.2.2.2.2.2.2.2.1 u.2.2.2.2.2.2.2.2.2.2.2.2 ∧ cB (dC, dI) (kT cyB cyI cyJ cyP) (va_A [(a0, .inr (10, [.ref a0_tape, z0_ground, z0_spareGround, .ref a0_rule, .ref a0_spareRule, z0_lines, z0_spareLines, z0_steps, .ref a0_now, z0_trial, z0_past, z0_images, z0_round, z0_seating, z0_fitting, z0_imagesKept, z0_refusedSteps, z0_callsNoSuch, .int v0_callsIllegal])), (a0_tape, .inr (8, [.ref a0_tape_bytes, .int v0_tape_length, .int v0_tape_at, .int v0_tape_token, .int v0_tape_filled, .int v0_tape_fault, .int v0_tape_faultPlace])), (a0_spareRule, .inr (4, [.ref a0_spareRule_kinds, .ref a0_spareRule_values, z0_spareRule_pile, z0_spareRule_facts, .int v0_spareRule_length])), (a0_tape_bytes, .inl (cyB, 600, .inl f0_tape_bytes)), (a0_spareRule_kinds, .inl (cyI, 150, .inl f0_spareRule_kinds)), (a0_spareRule_values, .inl (cyI, 150, .inl f0_spareRule_values)), (a0_now, .inr (1, [z0_now_row, z0_now_owedEach, z0_now_down, r0_now_law]))] sz) (fun u : Int32 × Int32 × Int32 × Int32 × Int32 × Int32 × Int32 × Int32 × (Nat → Int32) × (Nat → Int32) × Value × Value × Value => ([(a0, .inr (10, [.ref a0_tape, z0_ground, z0_spareGround, u.2.2.2.2.2.2.2.2.2.2.1, u.2.2.2.2.2.2.2.2.2.2.2.1, z0_lines, z0_spareLines, z0_steps, .ref a0_now, z0_trial, z0_past, z0_images, z0_round, z0_seating, z0_fitting, z0_imagesKept, z0_refusedSteps, z0_callsNoSuch, .int u.1])), (a0_tape, .inr (8, [.ref a0_tape_bytes, .int u.2.1, .int u.2.2.1, .int u.2.2.2.1, .int u.2.2.2.2.1, .int u.2.2.2.2.2.1, .int u.2.2.2.2.2.2.1])), (a0_spareRule, .inr (4, [.ref a0_spareRule_kinds, .ref a0_spareRule_values, z0_spareRule_pile, z0_spareRule_facts, .int u.2.2.2.2.2.2.2.1])), (a0_tape_bytes, .inl (cyB, 600, .inl f0_tape_bytes)), (a0_spareRule_kinds, .inl (cyI, 150, .inl u.2.2.2.2.2.2.2.2.1)), (a0_spareRule_values, .inl (cyI, 150, .inl u.2.2.2.2.2.2.2.2.2.1)), (a0_now, .inr (1, [z0_now_row, z0_now_owedEach, z0_now_down, u.2.2.2.2.2.2.2.2.2.2.2.2]))] : va_W)) u t) (va_A [(a0, .inr (10, [.ref a0_tape, z0_ground, z0_spareGround, .ref a0_rule, .ref a0_spareRule, z0_lines, z0_spareLines, z0_steps, .ref a0_now, z0_trial, z0_past, z0_images, z0_round, z0_seating, z0_fitting, z0_imagesKept, z0_refusedSteps, z0_callsNoSuch, .int v0_callsIllegal])), (a0_tape, .inr (8, [.ref a0_tape_bytes, .int v0_tape_length, .int v0_tape_at, .int v0_tape_token, .int v0_tape_filled, .int v0_tape_fault, .int v0_tape_faultPlace])), (a0_spareRule, .inr (4, [.ref a0_spareRule_kinds, .ref a0_spareRule_values, z0_spareRule_pile, z0_spareRule_facts, .int v0_spareRule_length])), (a0_tape_bytes, .inl (cyB, 600, .inl f0_tape_bytes)), (a0_spareRule_kinds, .inl (cyI, 150, .inl f0_spareRule_kinds)), (a0_spareRule_values, .inl (cyI, 150, .inl f0_spareRule_values)), (a0_now, .inr (1, [z0_now_row, z0_now_owedEach, z0_now_down, r0_now_law]))] sz)) 1 6 (va_A [(a0, .inr (10, [.ref a0_tape, z0_ground, z0_spareGround, .ref a0_rule, .ref a0_spareRule, z0_lines, z0_spareLines, z0_steps, .ref a0_now, z0_trial, z0_past, z0_images, z0_round, z0_seating, z0_fitting, z0_imagesKept, z0_refusedSteps, z0_callsNoSuch, .int v0_callsIllegal])), (a0_tape, .inr (8, [.ref a0_tape_bytes, .int v0_tape_length, .int v0_tape_at, .int v0_tape_token, .int v0_tape_filled, .int v0_tape_fault, .int v0_tape_faultPlace])), (a0_spareRule, .inr (4, [.ref a0_spareRule_kinds, .ref a0_spareRule_values, z0_spareRule_pile, z0_spareRule_facts, .int v0_spareRule_length])), (a0_tape_bytes, .inl (cyB, 600, .inl f0_tape_bytes)), (a0_spareRule_kinds, .inl (cyI, 150, .inl f0_spareRule_kinds)), (a0_spareRule_values, .inl (cyI, 150, .inl f0_spareRule_values)), (a0_now, .inr (1, [z0_now_row, z0_now_owedEach, z0_now_down, r0_now_law]))] sz) := by
  refine vx_ofW (cc := cX10_law) (maxL := 3) (ret := (some .int)) (by decide) rfl ?_
  intro p e s m args below meth c s₁ B hml hnt hv
  obtain ⟨rfl, hsz, hP, hK, hD0, hNw, hXl, hXu, hXn, hXt⟩ := hv
  have hx := B.exec
  have hb := B.bytes
  have hr := B.returns
  have hts := atoms_spec (ws := wsX10_law) B.pre
  have hown : s.vm.findClass RX10 = some m.cls := findClass_of_methodNamed B.named
  have hlocks := B.notSynchronized
  subst hsz
  have hD := hD0.self (sz := s.heap.size)
  generalize hAe : va_A [(a0, .inr (10, [.ref a0_tape, z0_ground, z0_spareGround, .ref a0_rule, .ref a0_spareRule, z0_lines, z0_spareLines, z0_steps, .ref a0_now, z0_trial, z0_past, z0_images, z0_round, z0_seating, z0_fitting, z0_imagesKept, z0_refusedSteps, z0_callsNoSuch, .int v0_callsIllegal])), (a0_tape, .inr (8, [.ref a0_tape_bytes, .int v0_tape_length, .int v0_tape_at, .int v0_tape_token, .int v0_tape_filled, .int v0_tape_fault, .int v0_tape_faultPlace])), (a0_spareRule, .inr (4, [.ref a0_spareRule_kinds, .ref a0_spareRule_values, z0_spareRule_pile, z0_spareRule_facts, .int v0_spareRule_length])), (a0_tape_bytes, .inl (cyB, 600, .inl f0_tape_bytes)), (a0_spareRule_kinds, .inl (cyI, 150, .inl f0_spareRule_kinds)), (a0_spareRule_values, .inl (cyI, 150, .inl f0_spareRule_values)), (a0_now, .inr (1, [z0_now_row, z0_now_owedEach, z0_now_down, r0_now_law]))] s.heap.size = A at hD hXu hXn ⊢
  have hA : ∀ q : Nat, s.heap.size ≤ q → A q := fun q h => by rw [← hAe]; exact Or.inr h
  have hS : va_S A s.heap s.heap [] := va_S.rf
  have hP : va_P (dC, dI) vwCl [(a0, .inr (10, [.ref a0_tape, z0_ground, z0_spareGround, .ref a0_rule, .ref a0_spareRule, z0_lines, z0_spareLines, z0_steps, .ref a0_now, z0_trial, z0_past, z0_images, z0_round, z0_seating, z0_fitting, z0_imagesKept, z0_refusedSteps, z0_callsNoSuch, .int v0_callsIllegal])), (a0_tape, .inr (8, [.ref a0_tape_bytes, .int v0_tape_length, .int v0_tape_at, .int v0_tape_token, .int v0_tape_filled, .int v0_tape_fault, .int v0_tape_faultPlace])), (a0_spareRule, .inr (4, [.ref a0_spareRule_kinds, .ref a0_spareRule_values, z0_spareRule_pile, z0_spareRule_facts, .int v0_spareRule_length])), (a0_tape_bytes, .inl (cyB, 600, .inl f0_tape_bytes)), (a0_spareRule_kinds, .inl (cyI, 150, .inl f0_spareRule_kinds)), (a0_spareRule_values, .inl (cyI, 150, .inl f0_spareRule_values)), (a0_now, .inr (1, [z0_now_row, z0_now_owedEach, z0_now_down, r0_now_law]))] s.heap := hP
  have hl := lv_entry ([.ref a0, .int p1]) (n := 3) (Nat.le_of_ble_eq_true rfl)
  rw [lg_entry_eq]
  generalize (lg_sl ([.ref a0, .int p1]) ++ List.replicate (3 - (lg_sl ([.ref a0, .int p1])).length) Slot.unset).toArray = ls at hl ⊢
  have hl : lv_has ls 3 [(0, .ref a0), (1, .int p1)] := hl
  have hY : cfY l s A := ⟨hXl, hXu, hXn, hXt⟩
  have hXs : cfX l s c A := ⟨hnt, hY⟩
  have C0 : cfx p s m _ meth c cX10_law (some .int) wsX10_law RX10 3 A (dC, dI) (kT cyB cyI cyJ cyP) ∧ cfX l s c A := ⟨⟨hx, hb, hr, hts, hown, hlocks, hml, hA, hK, hNw⟩, hXs⟩
  clear hAe
  obtain ⟨H, hH⟩ : ∃ H, H = s.heap := ⟨_, rfl⟩
  rw [← hH] at hP ⊢
  have hS : va_S A s.heap H [] := by rw [hH]; exact va_S.rf
  have hS := hS
  refine lv_aload_n hx hb dX10_law_0 rfl (lv_at hl 0 rfl) ?_
  refine lv_iload_n hx hb dX10_law_1 rfl (lv_at hl 1 rfl) ?_
  refine lv_sipush (v := 150) hx hb dX10_law_2 (by decide) ?_
  have hPc := hP.sub (ws' := [(a0, .inr (10, [.ref a0_tape, z0_ground, z0_spareGround, .ref a0_rule, .ref a0_spareRule, z0_lines, z0_spareLines, z0_steps, .ref a0_now, z0_trial, z0_past, z0_images, z0_round, z0_seating, z0_fitting, z0_imagesKept, z0_refusedSteps, z0_callsNoSuch, .int v0_callsIllegal])), (a0_tape, .inr (8, [.ref a0_tape_bytes, .int v0_tape_length, .int v0_tape_at, .int v0_tape_token, .int v0_tape_filled, .int v0_tape_fault, .int v0_tape_faultPlace]))]) [0, 1] rfl
  have hDc := hD.sub (ws' := [(a0, .inr (10, [.ref a0_tape, z0_ground, z0_spareGround, .ref a0_rule, .ref a0_spareRule, z0_lines, z0_spareLines, z0_steps, .ref a0_now, z0_trial, z0_past, z0_images, z0_round, z0_seating, z0_fitting, z0_imagesKept, z0_refusedSteps, z0_callsNoSuch, .int v0_callsIllegal])), (a0_tape, .inr (8, [.ref a0_tape_bytes, .int v0_tape_length, .int v0_tape_at, .int v0_tape_token, .int v0_tape_filled, .int v0_tape_fault, .int v0_tape_faultPlace]))]) [0, 1] (by decide) rfl
  have hFc := va_free (wc := [(a0, .inr (10, [.ref a0_tape, z0_ground, z0_spareGround, .ref a0_rule, .ref a0_spareRule, z0_lines, z0_spareLines, z0_steps, .ref a0_now, z0_trial, z0_past, z0_images, z0_round, z0_seating, z0_fitting, z0_imagesKept, z0_refusedSteps, z0_callsNoSuch, .int v0_callsIllegal])), (a0_tape, .inr (8, [.ref a0_tape_bytes, .int v0_tape_length, .int v0_tape_at, .int v0_tape_token, .int v0_tape_filled, .int v0_tape_fault, .int v0_tape_faultPlace]))]) hD hS hA [0, 1] rfl
  refine vx_callv (vx_runV (As := [.int p1, .int 150]) (rest := []) ⟨hx, hb, hml, hown, hts⟩ (ck_X10_openText l dC dI cyB cyI cyJ cyP a0 a0_tape H.size (z0_ground) (z0_spareGround) (.ref a0_rule) (.ref a0_spareRule) (z0_lines) (z0_spareLines) (z0_steps) (.ref a0_now) (z0_trial) (z0_past) (z0_images) (z0_round) (z0_seating) (z0_fitting) (z0_imagesKept) (z0_refusedSteps) (z0_callsNoSuch) (.ref a0_tape_bytes)  v0_callsIllegal v0_tape_length v0_tape_at v0_tape_token v0_tape_filled v0_tape_fault v0_tape_faultPlace p1 150 hw) (cwV 2 hts gX10_law_X10_openText rfl rfl rfl (by decide +kernel) ⟨Nat.le_of_ble_eq_true rfl, Nat.le_of_ble_eq_true rfl⟩) ⟨cPx_blind, va_recv hK hPc (ci := 10) (q0 := 0) rfl rfl, cPx_pre hPc hK hDc hNw hY hS hFc⟩ rfl rfl hl.1 rfl (lv_room (Nat.le_of_ble_eq_true rfl)) dX10_law_5 ⟨Nat.le_of_ble_eq_true rfl, Nat.le_of_ble_eq_true rfl⟩) hS (fun q _ h => hFc q h) hFc (fun q _ h => hFc q h) (fun en ce q9 u t H1 locs ht hvm hpx hB hz1 hk1 hS hc9 hv9 hcl9 => ?_) (fun u t H1 locs ht hvm hw hB hz1 hk1 hS => ?_)
  · obtain ⟨x1, x2, x3, x4, x5, x6, x7⟩ := u
    obtain ⟨hw, hP1, hK1, hD1⟩ := hB
    rw [ht] at hP1
    obtain ⟨hP, hD⟩ := va_join (wr := [(a0_spareRule, .inr (4, [.ref a0_spareRule_kinds, .ref a0_spareRule_values, z0_spareRule_pile, z0_spareRule_facts, .int v0_spareRule_length])), (a0_tape_bytes, .inl (cyB, 600, .inl f0_tape_bytes)), (a0_spareRule_kinds, .inl (cyI, 150, .inl f0_spareRule_kinds)), (a0_spareRule_values, .inl (cyI, 150, .inl f0_spareRule_values)), (a0_now, .inr (1, [z0_now_row, z0_now_owedEach, z0_now_down, r0_now_law]))]) (w1 := [(a0, .inr (10, [.ref a0_tape, z0_ground, z0_spareGround, .ref a0_rule, .ref a0_spareRule, z0_lines, z0_spareLines, z0_steps, .ref a0_now, z0_trial, z0_past, z0_images, z0_round, z0_seating, z0_fitting, z0_imagesKept, z0_refusedSteps, z0_callsNoSuch, .int x1])), (a0_tape, .inr (8, [.ref a0_tape_bytes, .int x2, .int x3, .int x4, .int x5, .int x6, .int x7]))]) hP hD [0, 1] [2, 3, 4, 5, 6] rfl rfl (by decide) (by decide) hk1 hFc hP1 hD1
    have hP : va_P (dC, dI) vwCl [(a0, .inr (10, [.ref a0_tape, z0_ground, z0_spareGround, .ref a0_rule, .ref a0_spareRule, z0_lines, z0_spareLines, z0_steps, .ref a0_now, z0_trial, z0_past, z0_images, z0_round, z0_seating, z0_fitting, z0_imagesKept, z0_refusedSteps, z0_callsNoSuch, .int x1])), (a0_tape, .inr (8, [.ref a0_tape_bytes, .int x2, .int x3, .int x4, .int x5, .int x6, .int x7])), (a0_spareRule, .inr (4, [.ref a0_spareRule_kinds, .ref a0_spareRule_values, z0_spareRule_pile, z0_spareRule_facts, .int v0_spareRule_length])), (a0_tape_bytes, .inl (cyB, 600, .inl f0_tape_bytes)), (a0_spareRule_kinds, .inl (cyI, 150, .inl f0_spareRule_kinds)), (a0_spareRule_values, .inl (cyI, 150, .inl f0_spareRule_values)), (a0_now, .inr (1, [z0_now_row, z0_now_owedEach, z0_now_down, r0_now_law]))] H1 := hP.sub [5, 6, 0, 1, 2, 3, 4] rfl
    have hD : va_D A [(a0, .inr (10, [.ref a0_tape, z0_ground, z0_spareGround, .ref a0_rule, .ref a0_spareRule, z0_lines, z0_spareLines, z0_steps, .ref a0_now, z0_trial, z0_past, z0_images, z0_round, z0_seating, z0_fitting, z0_imagesKept, z0_refusedSteps, z0_callsNoSuch, .int x1])), (a0_tape, .inr (8, [.ref a0_tape_bytes, .int x2, .int x3, .int x4, .int x5, .int x6, .int x7])), (a0_spareRule, .inr (4, [.ref a0_spareRule_kinds, .ref a0_spareRule_values, z0_spareRule_pile, z0_spareRule_facts, .int v0_spareRule_length])), (a0_tape_bytes, .inl (cyB, 600, .inl f0_tape_bytes)), (a0_spareRule_kinds, .inl (cyI, 150, .inl f0_spareRule_kinds)), (a0_spareRule_values, .inl (cyI, 150, .inl f0_spareRule_values)), (a0_now, .inr (1, [z0_now_row, z0_now_owedEach, z0_now_down, r0_now_law]))] := hD.sub [5, 6, 0, 1, 2, 3, 4] (by decide) rfl
    generalize H1 = H at hP hS hc9 ⊢
    exact vx_out (fun x hx9 => (hXs.1 x hx9).elim) hlocks hc9 hv9 hcl9 (fun t2 ht2 hal2 => ⟨(x1, x2, x3, x4, x5, x6, x7, v0_spareRule_length, f0_spareRule_kinds, f0_spareRule_values, (.ref a0_rule), (.ref a0_spareRule), r0_now_law), trivial, ⟨hw, by rw [ht2]; exact hP, va_K.moved hal2 hK, hD⟩, hS.F ht2⟩) hS.2.2 (Nat.le_of_ble_eq_true rfl) (Nat.le_of_ble_eq_true rfl)
  obtain ⟨x1, x2, x3, x4, x5, x6, x7⟩ := u
  obtain ⟨hP1, hK1, hD1⟩ := hB
  rw [ht] at hP1
  obtain ⟨hP, hD⟩ := va_join (wr := [(a0_spareRule, .inr (4, [.ref a0_spareRule_kinds, .ref a0_spareRule_values, z0_spareRule_pile, z0_spareRule_facts, .int v0_spareRule_length])), (a0_tape_bytes, .inl (cyB, 600, .inl f0_tape_bytes)), (a0_spareRule_kinds, .inl (cyI, 150, .inl f0_spareRule_kinds)), (a0_spareRule_values, .inl (cyI, 150, .inl f0_spareRule_values)), (a0_now, .inr (1, [z0_now_row, z0_now_owedEach, z0_now_down, r0_now_law]))]) (w1 := [(a0, .inr (10, [.ref a0_tape, z0_ground, z0_spareGround, .ref a0_rule, .ref a0_spareRule, z0_lines, z0_spareLines, z0_steps, .ref a0_now, z0_trial, z0_past, z0_images, z0_round, z0_seating, z0_fitting, z0_imagesKept, z0_refusedSteps, z0_callsNoSuch, .int x1])), (a0_tape, .inr (8, [.ref a0_tape_bytes, .int x2, .int x3, .int x4, .int x5, .int x6, .int x7]))]) hP hD [0, 1] [2, 3, 4, 5, 6] rfl rfl (by decide) (by decide) hk1 hFc hP1 hD1
  have hP : va_P (dC, dI) vwCl [(a0, .inr (10, [.ref a0_tape, z0_ground, z0_spareGround, .ref a0_rule, .ref a0_spareRule, z0_lines, z0_spareLines, z0_steps, .ref a0_now, z0_trial, z0_past, z0_images, z0_round, z0_seating, z0_fitting, z0_imagesKept, z0_refusedSteps, z0_callsNoSuch, .int x1])), (a0_tape, .inr (8, [.ref a0_tape_bytes, .int x2, .int x3, .int x4, .int x5, .int x6, .int x7])), (a0_spareRule, .inr (4, [.ref a0_spareRule_kinds, .ref a0_spareRule_values, z0_spareRule_pile, z0_spareRule_facts, .int v0_spareRule_length])), (a0_tape_bytes, .inl (cyB, 600, .inl f0_tape_bytes)), (a0_spareRule_kinds, .inl (cyI, 150, .inl f0_spareRule_kinds)), (a0_spareRule_values, .inl (cyI, 150, .inl f0_spareRule_values)), (a0_now, .inr (1, [z0_now_row, z0_now_owedEach, z0_now_down, r0_now_law]))] H1 := hP.sub [5, 6, 0, 1, 2, 3, 4] rfl
  have hD : va_D A [(a0, .inr (10, [.ref a0_tape, z0_ground, z0_spareGround, .ref a0_rule, .ref a0_spareRule, z0_lines, z0_spareLines, z0_steps, .ref a0_now, z0_trial, z0_past, z0_images, z0_round, z0_seating, z0_fitting, z0_imagesKept, z0_refusedSteps, z0_callsNoSuch, .int x1])), (a0_tape, .inr (8, [.ref a0_tape_bytes, .int x2, .int x3, .int x4, .int x5, .int x6, .int x7])), (a0_spareRule, .inr (4, [.ref a0_spareRule_kinds, .ref a0_spareRule_values, z0_spareRule_pile, z0_spareRule_facts, .int v0_spareRule_length])), (a0_tape_bytes, .inl (cyB, 600, .inl f0_tape_bytes)), (a0_spareRule_kinds, .inl (cyI, 150, .inl f0_spareRule_kinds)), (a0_spareRule_values, .inl (cyI, 150, .inl f0_spareRule_values)), (a0_now, .inr (1, [z0_now_row, z0_now_owedEach, z0_now_down, r0_now_law]))] := hD.sub [5, 6, 0, 1, 2, 3, 4] (by decide) rfl
  generalize H1 = H at hP hS ⊢
  refine lv_aload_n hx hb dX10_law_8 rfl (lv_at hl 0 rfl) ?_
  refine va_get (D := (dC, dI)) (ci := 10) (v := .ref a0_spareRule) (C := RX10) (T := TX10) (N := 19) hx hb hts ui_X10_law_X10 hown hK hP 0 rfl rfl 4 (by decide) (hts _ uw_X10_law_f33) (fun _ h9 => h9) rfl dX10_law_9 ?_
  refine lv_aload_n hx hb dX10_law_12 rfl (lv_at hl 0 rfl) ?_
  refine va_get (D := (dC, dI)) (ci := 10) (v := .ref a0_tape) (C := RX10) (T := TX10) (N := 19) hx hb hts ui_X10_law_X10 hown hK hP 0 rfl rfl 0 (by decide) (hts _ uw_X10_law_f10) (fun _ h9 => h9) rfl dX10_law_13 ?_
  have hPc := hP.sub (ws' := [(a0_spareRule, .inr (4, [.ref a0_spareRule_kinds, .ref a0_spareRule_values, z0_spareRule_pile, z0_spareRule_facts, .int v0_spareRule_length])), (a0_tape, .inr (8, [.ref a0_tape_bytes, .int x2, .int x3, .int x4, .int x5, .int x6, .int x7])), (a0_tape_bytes, .inl (cyB, 600, .inl f0_tape_bytes)), (a0_spareRule_kinds, .inl (cyI, 150, .inl f0_spareRule_kinds)), (a0_spareRule_values, .inl (cyI, 150, .inl f0_spareRule_values))]) [2, 1, 3, 4, 5] rfl
  have hDc := hD.sub (ws' := [(a0_spareRule, .inr (4, [.ref a0_spareRule_kinds, .ref a0_spareRule_values, z0_spareRule_pile, z0_spareRule_facts, .int v0_spareRule_length])), (a0_tape, .inr (8, [.ref a0_tape_bytes, .int x2, .int x3, .int x4, .int x5, .int x6, .int x7])), (a0_tape_bytes, .inl (cyB, 600, .inl f0_tape_bytes)), (a0_spareRule_kinds, .inl (cyI, 150, .inl f0_spareRule_kinds)), (a0_spareRule_values, .inl (cyI, 150, .inl f0_spareRule_values))]) [2, 1, 3, 4, 5] (by decide) rfl
  have hFc := va_free (wc := [(a0_spareRule, .inr (4, [.ref a0_spareRule_kinds, .ref a0_spareRule_values, z0_spareRule_pile, z0_spareRule_facts, .int v0_spareRule_length])), (a0_tape, .inr (8, [.ref a0_tape_bytes, .int x2, .int x3, .int x4, .int x5, .int x6, .int x7])), (a0_tape_bytes, .inl (cyB, 600, .inl f0_tape_bytes)), (a0_spareRule_kinds, .inl (cyI, 150, .inl f0_spareRule_kinds)), (a0_spareRule_values, .inl (cyI, 150, .inl f0_spareRule_values))]) hD hS hA [2, 1, 3, 4, 5] rfl
  refine va_callv (va_runV (As := [.ref a0_tape]) (rest := []) ⟨hx, hb, hml, hown, hts⟩ (ck_X4_readFrom l dC dI cyB cyI cyJ cyP a0_spareRule a0_tape a0_tape_bytes a0_spareRule_kinds a0_spareRule_values H.size (z0_spareRule_pile) (z0_spareRule_facts) (.int x5) x2 f0_tape_bytes v0_spareRule_length x3 x4 f0_spareRule_kinds f0_spareRule_values x6 x7  hw) (cwV 1 hts gX10_law_X4_readFrom rfl rfl rfl (by decide +kernel) ⟨Nat.le_of_ble_eq_true rfl, Nat.le_of_ble_eq_true rfl⟩) ⟨cPc_blind, va_recv hK hPc (ci := 4) (q0 := 0) rfl rfl, cPc_pre hPc hK hDc hNw⟩ rfl rfl hl.1 rfl (lv_room (Nat.le_of_ble_eq_true rfl)) dX10_law_16 ⟨Nat.le_of_ble_eq_true rfl, Nat.le_of_ble_eq_true rfl⟩) hS (fun q _ h => hFc q h) hFc (fun u t H1 locs ht hvm hw hB hz1 hk1 hS => ?_)
  obtain ⟨x8, x9, x10, f11, f12, x13, x14⟩ := u
  obtain ⟨hP1, hK1, hD1⟩ := hB
  rw [ht] at hP1
  obtain ⟨hP, hD⟩ := va_join (wr := [(a0, .inr (10, [.ref a0_tape, z0_ground, z0_spareGround, .ref a0_rule, .ref a0_spareRule, z0_lines, z0_spareLines, z0_steps, .ref a0_now, z0_trial, z0_past, z0_images, z0_round, z0_seating, z0_fitting, z0_imagesKept, z0_refusedSteps, z0_callsNoSuch, .int x1])), (a0_now, .inr (1, [z0_now_row, z0_now_owedEach, z0_now_down, r0_now_law]))]) (w1 := [(a0_spareRule, .inr (4, [.ref a0_spareRule_kinds, .ref a0_spareRule_values, z0_spareRule_pile, z0_spareRule_facts, .int x8])), (a0_tape, .inr (8, [.ref a0_tape_bytes, .int x2, .int x9, .int x10, .int x5, .int x13, .int x14])), (a0_tape_bytes, .inl (cyB, 600, .inl f0_tape_bytes)), (a0_spareRule_kinds, .inl (cyI, 150, .inl f11)), (a0_spareRule_values, .inl (cyI, 150, .inl f12))]) hP hD [2, 1, 3, 4, 5] [0, 6] rfl rfl (by decide) (by decide) hk1 hFc hP1 hD1
  have hP : va_P (dC, dI) vwCl [(a0, .inr (10, [.ref a0_tape, z0_ground, z0_spareGround, .ref a0_rule, .ref a0_spareRule, z0_lines, z0_spareLines, z0_steps, .ref a0_now, z0_trial, z0_past, z0_images, z0_round, z0_seating, z0_fitting, z0_imagesKept, z0_refusedSteps, z0_callsNoSuch, .int x1])), (a0_tape, .inr (8, [.ref a0_tape_bytes, .int x2, .int x9, .int x10, .int x5, .int x13, .int x14])), (a0_spareRule, .inr (4, [.ref a0_spareRule_kinds, .ref a0_spareRule_values, z0_spareRule_pile, z0_spareRule_facts, .int x8])), (a0_tape_bytes, .inl (cyB, 600, .inl f0_tape_bytes)), (a0_spareRule_kinds, .inl (cyI, 150, .inl f11)), (a0_spareRule_values, .inl (cyI, 150, .inl f12)), (a0_now, .inr (1, [z0_now_row, z0_now_owedEach, z0_now_down, r0_now_law]))] H1 := hP.sub [0, 3, 2, 4, 5, 6, 1] rfl
  have hD : va_D A [(a0, .inr (10, [.ref a0_tape, z0_ground, z0_spareGround, .ref a0_rule, .ref a0_spareRule, z0_lines, z0_spareLines, z0_steps, .ref a0_now, z0_trial, z0_past, z0_images, z0_round, z0_seating, z0_fitting, z0_imagesKept, z0_refusedSteps, z0_callsNoSuch, .int x1])), (a0_tape, .inr (8, [.ref a0_tape_bytes, .int x2, .int x9, .int x10, .int x5, .int x13, .int x14])), (a0_spareRule, .inr (4, [.ref a0_spareRule_kinds, .ref a0_spareRule_values, z0_spareRule_pile, z0_spareRule_facts, .int x8])), (a0_tape_bytes, .inl (cyB, 600, .inl f0_tape_bytes)), (a0_spareRule_kinds, .inl (cyI, 150, .inl f11)), (a0_spareRule_values, .inl (cyI, 150, .inl f12)), (a0_now, .inr (1, [z0_now_row, z0_now_owedEach, z0_now_down, r0_now_law]))] := hD.sub [0, 3, 2, 4, 5, 6, 1] (by decide) rfl
  generalize H1 = H at hP hS ⊢
  refine lv_aload_n hx hb dX10_law_19 rfl (lv_at hl 0 rfl) ?_
  refine va_get (D := (dC, dI)) (ci := 10) (v := .ref a0_tape) (C := RX10) (T := TX10) (N := 19) hx hb hts ui_X10_law_X10 hown hK hP 0 rfl rfl 0 (by decide) (hts _ uw_X10_law_f10) (fun _ h9 => h9) rfl dX10_law_20 ?_
  have hPc := hP.sub (ws' := [(a0_tape, .inr (8, [.ref a0_tape_bytes, .int x2, .int x9, .int x10, .int x5, .int x13, .int x14]))]) [1] rfl
  have hDc := hD.sub (ws' := [(a0_tape, .inr (8, [.ref a0_tape_bytes, .int x2, .int x9, .int x10, .int x5, .int x13, .int x14]))]) [1] (by decide) rfl
  have hFc := va_free (wc := [(a0_tape, .inr (8, [.ref a0_tape_bytes, .int x2, .int x9, .int x10, .int x5, .int x13, .int x14]))]) hD hS hA [1] rfl
  refine va_calli (va_runV (As := []) (rest := []) ⟨hx, hb, hml, hown, hts⟩ (ck_X8_isFaulty l dC dI cyB cyI cyJ cyP a0_tape H.size (.ref a0_tape_bytes) (.int x2) (.int x9) (.int x10) (.int x5) (.int x14) x13   hw) (cwV 0 hts gX10_law_X8_isFaulty rfl rfl rfl (by decide +kernel) ⟨Nat.le_of_ble_eq_true rfl, Nat.le_of_ble_eq_true rfl⟩) ⟨cPc_blind, va_recv hK hPc (ci := 8) (q0 := 0) rfl rfl, cPc_pre hPc hK hDc hNw⟩ rfl rfl hl.1 rfl (lv_room (Nat.le_of_ble_eq_true rfl)) dX10_law_23 ⟨Nat.le_of_ble_eq_true rfl, Nat.le_of_ble_eq_true rfl⟩) hS (fun q _ h => hFc q h) hFc (fun r15 u t H1 locs ht hvm hw hB hz1 hk1 hS => ?_)
  obtain ⟨hP1, hK1, hD1⟩ := hB
  rw [ht] at hP1
  obtain ⟨hP, hD⟩ := va_join (wr := [(a0, .inr (10, [.ref a0_tape, z0_ground, z0_spareGround, .ref a0_rule, .ref a0_spareRule, z0_lines, z0_spareLines, z0_steps, .ref a0_now, z0_trial, z0_past, z0_images, z0_round, z0_seating, z0_fitting, z0_imagesKept, z0_refusedSteps, z0_callsNoSuch, .int x1])), (a0_spareRule, .inr (4, [.ref a0_spareRule_kinds, .ref a0_spareRule_values, z0_spareRule_pile, z0_spareRule_facts, .int x8])), (a0_tape_bytes, .inl (cyB, 600, .inl f0_tape_bytes)), (a0_spareRule_kinds, .inl (cyI, 150, .inl f11)), (a0_spareRule_values, .inl (cyI, 150, .inl f12)), (a0_now, .inr (1, [z0_now_row, z0_now_owedEach, z0_now_down, r0_now_law]))]) (w1 := [(a0_tape, .inr (8, [.ref a0_tape_bytes, .int x2, .int x9, .int x10, .int x5, .int x13, .int x14]))]) hP hD [1] [0, 2, 3, 4, 5, 6] rfl rfl (by decide) (by decide) hk1 hFc hP1 hD1
  have hP : va_P (dC, dI) vwCl [(a0, .inr (10, [.ref a0_tape, z0_ground, z0_spareGround, .ref a0_rule, .ref a0_spareRule, z0_lines, z0_spareLines, z0_steps, .ref a0_now, z0_trial, z0_past, z0_images, z0_round, z0_seating, z0_fitting, z0_imagesKept, z0_refusedSteps, z0_callsNoSuch, .int x1])), (a0_tape, .inr (8, [.ref a0_tape_bytes, .int x2, .int x9, .int x10, .int x5, .int x13, .int x14])), (a0_spareRule, .inr (4, [.ref a0_spareRule_kinds, .ref a0_spareRule_values, z0_spareRule_pile, z0_spareRule_facts, .int x8])), (a0_tape_bytes, .inl (cyB, 600, .inl f0_tape_bytes)), (a0_spareRule_kinds, .inl (cyI, 150, .inl f11)), (a0_spareRule_values, .inl (cyI, 150, .inl f12)), (a0_now, .inr (1, [z0_now_row, z0_now_owedEach, z0_now_down, r0_now_law]))] H1 := hP.sub [0, 6, 1, 2, 3, 4, 5] rfl
  have hD : va_D A [(a0, .inr (10, [.ref a0_tape, z0_ground, z0_spareGround, .ref a0_rule, .ref a0_spareRule, z0_lines, z0_spareLines, z0_steps, .ref a0_now, z0_trial, z0_past, z0_images, z0_round, z0_seating, z0_fitting, z0_imagesKept, z0_refusedSteps, z0_callsNoSuch, .int x1])), (a0_tape, .inr (8, [.ref a0_tape_bytes, .int x2, .int x9, .int x10, .int x5, .int x13, .int x14])), (a0_spareRule, .inr (4, [.ref a0_spareRule_kinds, .ref a0_spareRule_values, z0_spareRule_pile, z0_spareRule_facts, .int x8])), (a0_tape_bytes, .inl (cyB, 600, .inl f0_tape_bytes)), (a0_spareRule_kinds, .inl (cyI, 150, .inl f11)), (a0_spareRule_values, .inl (cyI, 150, .inl f12)), (a0_now, .inr (1, [z0_now_row, z0_now_owedEach, z0_now_down, r0_now_law]))] := hD.sub [0, 6, 1, 2, 3, 4, 5] (by decide) rfl
  generalize H1 = H at hP hS ⊢
  refine lv_if_eq (tgt := 40) hx hb dX10_law_26 (by decide) (fun c16 => ?_) (fun c16 => ?_)
  · have hw := hw.1 c16
    refine lv_aload_n hx hb dX10_law_40 rfl (lv_at hl 0 rfl) ?_
    refine va_get (D := (dC, dI)) (ci := 10) (v := .ref a0_rule) (C := RX10) (T := TX10) (N := 19) hx hb hts ui_X10_law_X10 hown hK hP 0 rfl rfl 3 (by decide) (hts _ uw_X10_law_f29) (fun _ h9 => h9) rfl dX10_law_41 ?_
    refine lv_astore_n (lv' := [(2, .ref a0_rule), (0, .ref a0), (1, .int p1)]) hx hb dX10_law_44 rfl hl (by decide) rfl (fun ls hl => ?_)
    refine lv_aload_n hx hb dX10_law_45 rfl (lv_at hl 1 rfl) ?_
    refine lv_aload_n hx hb dX10_law_46 rfl (lv_at hl 1 rfl) ?_
    refine va_get (D := (dC, dI)) (ci := 10) (v := .ref a0_spareRule) (C := RX10) (T := TX10) (N := 19) hx hb hts ui_X10_law_X10 hown hK hP 0 rfl rfl 4 (by decide) (hts _ uw_X10_law_f33) (fun _ h9 => h9) rfl dX10_law_47 ?_
    refine va_put (D := (dC, dI)) (ci := 10) (v := .ref a0_spareRule) (ty := .object "MarchHares$Law") (C := RX10) (T := TX10) (N := 19) hx hb hts ui_X10_law_X10 tyX10 tyX10_ok nmX10 hown hK hP hD hS 0 rfl rfl 3 (by decide) (hts _ uw_X10_law_f29) (fun _ h9 => h9) rfl (by decide +kernel) rfl rfl (Nat.le_of_ble_eq_true rfl) dX10_law_50 (fun H locs hP hD hS => ?_)
    have hP : va_P (dC, dI) vwCl [(a0, .inr (10, [.ref a0_tape, z0_ground, z0_spareGround, .ref a0_spareRule, .ref a0_spareRule, z0_lines, z0_spareLines, z0_steps, .ref a0_now, z0_trial, z0_past, z0_images, z0_round, z0_seating, z0_fitting, z0_imagesKept, z0_refusedSteps, z0_callsNoSuch, .int x1])), (a0_tape, .inr (8, [.ref a0_tape_bytes, .int x2, .int x9, .int x10, .int x5, .int x13, .int x14])), (a0_spareRule, .inr (4, [.ref a0_spareRule_kinds, .ref a0_spareRule_values, z0_spareRule_pile, z0_spareRule_facts, .int x8])), (a0_tape_bytes, .inl (cyB, 600, .inl f0_tape_bytes)), (a0_spareRule_kinds, .inl (cyI, 150, .inl f11)), (a0_spareRule_values, .inl (cyI, 150, .inl f12)), (a0_now, .inr (1, [z0_now_row, z0_now_owedEach, z0_now_down, r0_now_law]))] H := hP
    have hD : va_D A [(a0, .inr (10, [.ref a0_tape, z0_ground, z0_spareGround, .ref a0_spareRule, .ref a0_spareRule, z0_lines, z0_spareLines, z0_steps, .ref a0_now, z0_trial, z0_past, z0_images, z0_round, z0_seating, z0_fitting, z0_imagesKept, z0_refusedSteps, z0_callsNoSuch, .int x1])), (a0_tape, .inr (8, [.ref a0_tape_bytes, .int x2, .int x9, .int x10, .int x5, .int x13, .int x14])), (a0_spareRule, .inr (4, [.ref a0_spareRule_kinds, .ref a0_spareRule_values, z0_spareRule_pile, z0_spareRule_facts, .int x8])), (a0_tape_bytes, .inl (cyB, 600, .inl f0_tape_bytes)), (a0_spareRule_kinds, .inl (cyI, 150, .inl f11)), (a0_spareRule_values, .inl (cyI, 150, .inl f12)), (a0_now, .inr (1, [z0_now_row, z0_now_owedEach, z0_now_down, r0_now_law]))] := hD
    refine lv_aload_n hx hb dX10_law_53 rfl (lv_at hl 1 rfl) ?_
    refine lv_aload_n hx hb dX10_law_54 rfl (lv_at hl 0 rfl) ?_
    refine va_put (D := (dC, dI)) (ci := 10) (v := .ref a0_rule) (ty := .object "MarchHares$Law") (C := RX10) (T := TX10) (N := 19) hx hb hts ui_X10_law_X10 tyX10 tyX10_ok nmX10 hown hK hP hD hS 0 rfl rfl 4 (by decide) (hts _ uw_X10_law_f33) (fun _ h9 => h9) rfl (by decide +kernel) rfl rfl (Nat.le_of_ble_eq_true rfl) dX10_law_55 (fun H locs hP hD hS => ?_)
    have hP : va_P (dC, dI) vwCl [(a0, .inr (10, [.ref a0_tape, z0_ground, z0_spareGround, .ref a0_spareRule, .ref a0_rule, z0_lines, z0_spareLines, z0_steps, .ref a0_now, z0_trial, z0_past, z0_images, z0_round, z0_seating, z0_fitting, z0_imagesKept, z0_refusedSteps, z0_callsNoSuch, .int x1])), (a0_tape, .inr (8, [.ref a0_tape_bytes, .int x2, .int x9, .int x10, .int x5, .int x13, .int x14])), (a0_spareRule, .inr (4, [.ref a0_spareRule_kinds, .ref a0_spareRule_values, z0_spareRule_pile, z0_spareRule_facts, .int x8])), (a0_tape_bytes, .inl (cyB, 600, .inl f0_tape_bytes)), (a0_spareRule_kinds, .inl (cyI, 150, .inl f11)), (a0_spareRule_values, .inl (cyI, 150, .inl f12)), (a0_now, .inr (1, [z0_now_row, z0_now_owedEach, z0_now_down, r0_now_law]))] H := hP
    have hD : va_D A [(a0, .inr (10, [.ref a0_tape, z0_ground, z0_spareGround, .ref a0_spareRule, .ref a0_rule, z0_lines, z0_spareLines, z0_steps, .ref a0_now, z0_trial, z0_past, z0_images, z0_round, z0_seating, z0_fitting, z0_imagesKept, z0_refusedSteps, z0_callsNoSuch, .int x1])), (a0_tape, .inr (8, [.ref a0_tape_bytes, .int x2, .int x9, .int x10, .int x5, .int x13, .int x14])), (a0_spareRule, .inr (4, [.ref a0_spareRule_kinds, .ref a0_spareRule_values, z0_spareRule_pile, z0_spareRule_facts, .int x8])), (a0_tape_bytes, .inl (cyB, 600, .inl f0_tape_bytes)), (a0_spareRule_kinds, .inl (cyI, 150, .inl f11)), (a0_spareRule_values, .inl (cyI, 150, .inl f12)), (a0_now, .inr (1, [z0_now_row, z0_now_owedEach, z0_now_down, r0_now_law]))] := hD
    refine lv_aload_n hx hb dX10_law_58 rfl (lv_at hl 1 rfl) ?_
    refine va_get (D := (dC, dI)) (ci := 10) (v := .ref a0_now) (C := RX10) (T := TX10) (N := 19) hx hb hts ui_X10_law_X10 hown hK hP 0 rfl rfl 8 (by decide) (hts _ uw_X10_law_f58) (fun _ h9 => h9) rfl dX10_law_59 ?_
    refine lv_aload_n hx hb dX10_law_62 rfl (lv_at hl 1 rfl) ?_
    refine va_get (D := (dC, dI)) (ci := 10) (v := .ref a0_spareRule) (C := RX10) (T := TX10) (N := 19) hx hb hts ui_X10_law_X10 hown hK hP 0 rfl rfl 3 (by decide) (hts _ uw_X10_law_f29) (fun _ h9 => h9) rfl dX10_law_63 ?_
    have hPc := hP.sub (ws' := [(a0_now, .inr (1, [z0_now_row, z0_now_owedEach, z0_now_down, r0_now_law]))]) [6] rfl
    have hDc := hD.sub (ws' := [(a0_now, .inr (1, [z0_now_row, z0_now_owedEach, z0_now_down, r0_now_law]))]) [6] (by decide) rfl
    have hFc := va_free (wc := [(a0_now, .inr (1, [z0_now_row, z0_now_owedEach, z0_now_down, r0_now_law]))]) hD hS hA [6] rfl
    refine va_callv (va_runV (As := [.ref a0_spareRule]) (rest := []) ⟨hx, hb, hml, hown, hts⟩ (ck_X1_obey l dC dI cyB cyI cyJ cyP a0_now a0_spareRule H.size (z0_now_row) (z0_now_owedEach) (z0_now_down) (r0_now_law)    hw) (cwV 1 hts gX10_law_X1_obey rfl rfl rfl (by decide +kernel) ⟨Nat.le_of_ble_eq_true rfl, Nat.le_of_ble_eq_true rfl⟩) ⟨cPc_blind, va_recv hK hPc (ci := 1) (q0 := 0) rfl rfl, cPc_pre hPc hK hDc hNw⟩ rfl rfl hl.1 rfl (lv_room (Nat.le_of_ble_eq_true rfl)) dX10_law_66 ⟨Nat.le_of_ble_eq_true rfl, Nat.le_of_ble_eq_true rfl⟩) hS (fun q _ h => hFc q h) hFc (fun u t H1 locs ht hvm hw hB hz1 hk1 hS => ?_)
    obtain ⟨hP1, hK1, hD1⟩ := hB
    rw [ht] at hP1
    obtain ⟨hP, hD⟩ := va_join (wr := [(a0, .inr (10, [.ref a0_tape, z0_ground, z0_spareGround, .ref a0_spareRule, .ref a0_rule, z0_lines, z0_spareLines, z0_steps, .ref a0_now, z0_trial, z0_past, z0_images, z0_round, z0_seating, z0_fitting, z0_imagesKept, z0_refusedSteps, z0_callsNoSuch, .int x1])), (a0_tape, .inr (8, [.ref a0_tape_bytes, .int x2, .int x9, .int x10, .int x5, .int x13, .int x14])), (a0_spareRule, .inr (4, [.ref a0_spareRule_kinds, .ref a0_spareRule_values, z0_spareRule_pile, z0_spareRule_facts, .int x8])), (a0_tape_bytes, .inl (cyB, 600, .inl f0_tape_bytes)), (a0_spareRule_kinds, .inl (cyI, 150, .inl f11)), (a0_spareRule_values, .inl (cyI, 150, .inl f12))]) (w1 := [(a0_now, .inr (1, [z0_now_row, z0_now_owedEach, z0_now_down, .ref a0_spareRule]))]) hP hD [6] [0, 1, 2, 3, 4, 5] rfl rfl (by decide) (by decide) hk1 hFc hP1 hD1
    have hP : va_P (dC, dI) vwCl [(a0, .inr (10, [.ref a0_tape, z0_ground, z0_spareGround, .ref a0_spareRule, .ref a0_rule, z0_lines, z0_spareLines, z0_steps, .ref a0_now, z0_trial, z0_past, z0_images, z0_round, z0_seating, z0_fitting, z0_imagesKept, z0_refusedSteps, z0_callsNoSuch, .int x1])), (a0_tape, .inr (8, [.ref a0_tape_bytes, .int x2, .int x9, .int x10, .int x5, .int x13, .int x14])), (a0_spareRule, .inr (4, [.ref a0_spareRule_kinds, .ref a0_spareRule_values, z0_spareRule_pile, z0_spareRule_facts, .int x8])), (a0_tape_bytes, .inl (cyB, 600, .inl f0_tape_bytes)), (a0_spareRule_kinds, .inl (cyI, 150, .inl f11)), (a0_spareRule_values, .inl (cyI, 150, .inl f12)), (a0_now, .inr (1, [z0_now_row, z0_now_owedEach, z0_now_down, .ref a0_spareRule]))] H1 := hP
    have hD : va_D A [(a0, .inr (10, [.ref a0_tape, z0_ground, z0_spareGround, .ref a0_spareRule, .ref a0_rule, z0_lines, z0_spareLines, z0_steps, .ref a0_now, z0_trial, z0_past, z0_images, z0_round, z0_seating, z0_fitting, z0_imagesKept, z0_refusedSteps, z0_callsNoSuch, .int x1])), (a0_tape, .inr (8, [.ref a0_tape_bytes, .int x2, .int x9, .int x10, .int x5, .int x13, .int x14])), (a0_spareRule, .inr (4, [.ref a0_spareRule_kinds, .ref a0_spareRule_values, z0_spareRule_pile, z0_spareRule_facts, .int x8])), (a0_tape_bytes, .inl (cyB, 600, .inl f0_tape_bytes)), (a0_spareRule_kinds, .inl (cyI, 150, .inl f11)), (a0_spareRule_values, .inl (cyI, 150, .inl f12)), (a0_now, .inr (1, [z0_now_row, z0_now_owedEach, z0_now_down, .ref a0_spareRule]))] := hD
    generalize H1 = H at hP hS ⊢
    refine lv_iconst (v := 1) hx hb dX10_law_69 (by decide) ?_
    exact vx_ret (W.widen (k := 1) (n := 6) (Nat.le_of_ble_eq_true rfl) (Nat.le_of_ble_eq_true rfl) (W.iret (v := 1) hx hb hr (fun t ht hW => ⟨⟨1, (x1, x2, x9, x10, x5, x13, x14, x8, f11, f12, (.ref a0_spareRule), (.ref a0_rule), (.ref a0_spareRule)), rfl, hw, by rw [ht]; exact hP, va_K.moved hW.alike hK, hD⟩, hS.F ht⟩) hS.2.2 dX10_law_70))
  · have hw := hw.2 c16
    refine lv_aload_n hx hb dX10_law_29 rfl (lv_at hl 0 rfl) ?_
    refine va_get (D := (dC, dI)) (ci := 10) (v := .ref a0_tape) (C := RX10) (T := TX10) (N := 19) hx hb hts ui_X10_law_X10 hown hK hP 0 rfl rfl 0 (by decide) (hts _ uw_X10_law_f10) (fun _ h9 => h9) rfl dX10_law_30 ?_
    refine va_get (D := (dC, dI)) (ci := 8) (v := .int x13) (C := RX8) (T := TX8) (N := 7) hx hb hts ui_X10_law_X8 hown hK hP 1 rfl rfl 5 (by decide) (hts _ uw_X10_law_f120) (fun _ h9 => h9) rfl dX10_law_33 ?_
    refine lv_bipush (v := 10) hx hb dX10_law_36 (by decide) ?_
    refine lv_isub hx hb dX10_law_38 ?_
    exact vx_ret (W.widen (k := 1) (n := 6) (Nat.le_of_ble_eq_true rfl) (Nat.le_of_ble_eq_true rfl) (W.iret (v := (x13 - 10)) hx hb hr (fun t ht hW => ⟨⟨(x13 - 10), (x1, x2, x9, x10, x5, x13, x14, x8, f11, f12, (.ref a0_rule), (.ref a0_spareRule), r0_now_law), rfl, hw, by rw [ht]; exact hP, va_K.moved hW.alike hK, hD⟩, hS.F ht⟩) hS.2.2 dX10_law_39))
