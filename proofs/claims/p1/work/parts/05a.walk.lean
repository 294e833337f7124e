def wq_X10_within   (p0 : Int32) (p1 : Int32) (p2 : Int32) (Q : Int32 → Prop) : Prop := ((p0 < p1 → (Q 0)) ∧ (¬ p0 < p1 → ((p2 < p0 → (Q 0)) ∧ (¬ p2 < p0 → (Q 1)))))
set_option maxHeartbeats 4000000 in
set_option maxRecDepth 100000 in
theorem ck_X10_within (l : Launch) (dC : Nat → ClassId) (dI : Nat → Nat → Nat) (cyB cyI cyJ cyP : ClassId) (sz : Nat)    (p0 : Int32) (p1 : Int32) (p2 : Int32) {Q : Int32 → Prop} (hw : wq_X10_within   p0 p1 p2 Q) : Met l yX10_within wsX10_within ({ frames := 0, cells := 0, slots := 0, locals := 0 }) (va_Pc [.int p0, .int p1, .int p2] (cPc (dC, dI) (kT cyB cyI cyJ cyP) [] sz)) (va_Qi (fun (r : Int32) (_ : Unit) => Q r ) (cB (dC, dI) (kT cyB cyI cyJ cyP) (va_A [] sz) (fun u : Unit => ([] : va_W))) (va_A [] sz)) 0 0 (va_A [] sz) := by
  refine Met.ofW (cc := cX10_within) (maxL := 3) (ret := (some .boolean)) (by decide) rfl ?_
  intro p e s m args below meth c s₁ B hml hv
  obtain ⟨rfl, hsz, hP, hK, hD0, hNw⟩ := hv
  have hx := B.exec
  have hb := B.bytes
  have hr := B.returns
  have hts := atoms_spec (ws := wsX10_within) B.pre
  have hown : s.vm.findClass RX10 = some m.cls := findClass_of_methodNamed B.named
  have hlocks := B.notSynchronized
  subst hsz
  have hD := hD0.self (sz := s.heap.size)
  generalize hAe : va_A [] s.heap.size = A at hD ⊢
  have hA : ∀ q : Nat, s.heap.size ≤ q → A q := fun q h => by rw [← hAe]; exact Or.inr h
  have hS : va_S A s.heap s.heap [] := va_S.rf
  have hP : va_P (dC, dI) vwCl [] s.heap := hP
  have hl := lv_entry ([.int p0, .int p1, .int p2]) (n := 3) (Nat.le_of_ble_eq_true rfl)
  rw [lg_entry_eq]
  generalize (lg_sl ([.int p0, .int p1, .int p2]) ++ List.replicate (3 - (lg_sl ([.int p0, .int p1, .int p2])).length) Slot.unset).toArray = ls at hl ⊢
  have hl : lv_has ls 3 [(0, .int p0), (1, .int p1), (2, .int p2)] := hl
  have C0 : cfx p s m _ meth c cX10_within (some .boolean) wsX10_within RX10 3 A (dC, dI) (kT cyB cyI cyJ cyP) := ⟨hx, hb, hr, hts, hown, hlocks, hml, hA, hK, hNw⟩
  clear hAe
  obtain ⟨H, hH⟩ : ∃ H, H = s.heap := ⟨_, rfl⟩
  rw [← hH] at hP ⊢
  have hS : va_S A s.heap H [] := by rw [hH]; exact va_S.rf
  have hS := hS
  refine lv_iload_n hx hb dX10_within_0 rfl (lv_at hl 0 rfl) ?_
  refine lv_iload_n hx hb dX10_within_1 rfl (lv_at hl 1 rfl) ?_
  refine lv_icmp_lt (tgt := 14) hx hb dX10_within_2 (by decide) (fun c1 => ?_) (fun c1 => ?_)
  · have hw := hw.1 c1
    refine lv_iconst (v := 0) hx hb dX10_within_14 (by decide) ?_
    exact ((W.zret (v := 0) hx hb hr rfl (fun t ht hW => ⟨⟨0, (), rfl, hw, by rw [ht]; exact hP, va_K.moved hW.alike hK, hD⟩, hS.F ht⟩) hS.2.2 dX10_within_15))
  · have hw := hw.2 c1
    refine lv_iload_n hx hb dX10_within_5 rfl (lv_at hl 0 rfl) ?_
    refine lv_iload_n hx hb dX10_within_6 rfl (lv_at hl 2 rfl) ?_
    refine lv_icmp_gt (tgt := 14) hx hb dX10_within_7 (by decide) (fun c2 => ?_) (fun c2 => ?_)
    · have hw := hw.1 c2
      refine lv_iconst (v := 0) hx hb dX10_within_14 (by decide) ?_
      exact ((W.zret (v := 0) hx hb hr rfl (fun t ht hW => ⟨⟨0, (), rfl, hw, by rw [ht]; exact hP, va_K.moved hW.alike hK, hD⟩, hS.F ht⟩) hS.2.2 dX10_within_15))
    · have hw := hw.2 c2
      refine lv_iconst (v := 1) hx hb dX10_within_10 (by decide) ?_
      refine lv_goto (tgt := 15) hx hb dX10_within_11 (by decide) ?_
      exact ((W.zret (v := 1) hx hb hr rfl (fun t ht hW => ⟨⟨1, (), rfl, hw, by rw [ht]; exact hP, va_K.moved hW.alike hK, hD⟩, hS.F ht⟩) hS.2.2 dX10_within_15))
theorem ub_X10_needLegal_409 : ∀ w ∈ (vx_atS RX10 409 "java/lang/IllegalArgumentException" ["java/lang/RuntimeException", "java/lang/Exception"]).filter (fun w => !goodWord w), w ∈ xB := by decide +kernel
theorem ug_X10_needLegal_409 : ∀ w ∈ Cond.classLink RX10 405 "java/lang/IllegalArgumentException" :: Cond.initialized "java/lang/IllegalArgumentException" :: vx_atS RX10 409 "java/lang/IllegalArgumentException" ["java/lang/RuntimeException", "java/lang/Exception"], vx_ot w = true := by decide +kernel
theorem uh_X10_needLegal_409 : ∀ w ∈ (vx_atS RX10 409 "java/lang/IllegalArgumentException" ["java/lang/RuntimeException", "java/lang/Exception"]).filter goodWord, w ∈ wsX10_needLegal := by decide +kernel
theorem ui_X10_needLegal_X10 : ∀ w ∈ u_ws RX10 TX10 19, w ∈ wsX10_needLegal := by decide +kernel
theorem uw_X10_needLegal_cl405 : (.classLink RX10 405 "java/lang/IllegalArgumentException" : Cond) ∈ wsX10_needLegal := by decide +kernel
theorem uw_X10_needLegal_f395 : (.fieldLink RX10 395 "MarchHares" "callsIllegal" "I" : Cond) ∈ wsX10_needLegal := by decide +kernel
theorem uw_X10_needLegal_ini405 : (.initialized "java/lang/IllegalArgumentException" : Cond) ∈ wsX10_needLegal := by decide +kernel
def wq_X10_needLegal  (v0_callsIllegal : Int32) (p1 : Int32) (E : String → Int32 → Prop) (Q : Int32 → Prop) : Prop := ((¬ p1 = 0 → (Q v0_callsIllegal)) ∧ (p1 = 0 → ∀ x2 : Int32, x2 = v0_callsIllegal + 1 → (E "java/lang/IllegalArgumentException" x2)))
set_option maxHeartbeats 4000000 in
set_option maxRecDepth 100000 in
theorem ck_X10_needLegal (l : Launch) (dC : Nat → ClassId) (dI : Nat → Nat → Nat) (cyB cyI cyJ cyP : ClassId) (a0 : Nat) (sz : Nat) (z0_tape : Value) (z0_ground : Value) (z0_spareGround : Value) (z0_rule : Value) (z0_spareRule : Value) (z0_lines : Value) (z0_spareLines : Value) (z0_steps : Value) (z0_now : Value) (z0_trial : Value) (z0_past : Value) (z0_images : Value) (z0_round : Value) (z0_seating : Value) (z0_fitting : Value) (z0_imagesKept : Value) (z0_refusedSteps : Value) (z0_callsNoSuch : Value)  (v0_callsIllegal : Int32) (p1 : Int32) {E : String → Int32 → Prop} {Q : Int32 → Prop} (hw : wq_X10_needLegal  v0_callsIllegal p1 E Q) : vx_Met l yX10_needLegal wsX10_needLegal ({ frames := 6, cells := 1, slots := 6, locals := 120 }) (va_Pc [.ref a0, .int p1] (cPx l (dC, dI) (kT cyB cyI cyJ cyP) [(a0, .inr (10, [z0_tape, z0_ground, z0_spareGround, z0_rule, z0_spareRule, z0_lines, z0_spareLines, z0_steps, z0_now, z0_trial, z0_past, z0_images, z0_round, z0_seating, z0_fitting, z0_imagesKept, z0_refusedSteps, z0_callsNoSuch, .int v0_callsIllegal]))] sz)) (va_Qv (fun (u : Int32) => Q u) (cB (dC, dI) (kT cyB cyI cyJ cyP) (va_A [(a0, .inr (10, [z0_tape, z0_ground, z0_spareGround, z0_rule, z0_spareRule, z0_lines, z0_spareLines, z0_steps, z0_now, z0_trial, z0_past, z0_images, z0_round, z0_seating, z0_fitting, z0_imagesKept, z0_refusedSteps, z0_callsNoSuch, .int v0_callsIllegal]))] sz) (fun u : Int32 => ([(a0, .inr (10, [z0_tape, z0_ground, z0_spareGround, z0_rule, z0_spareRule, z0_lines, z0_spareLines, z0_steps, z0_now, z0_trial, z0_past, z0_images, z0_round, z0_seating, z0_fitting, z0_imagesKept, z0_refusedSteps, z0_callsNoSuch, .int u]))] : va_W))) (va_A [(a0, .inr (10, [z0_tape, z0_ground, z0_spareGround, z0_rule, z0_spareRule, z0_lines, z0_spareLines, z0_steps, z0_now, z0_trial, z0_past, z0_images, z0_round, z0_seating, z0_fitting, z0_imagesKept, z0_refusedSteps, z0_callsNoSuch, .int v0_callsIllegal]))] sz)) (vx_X (fun _ => True) (fun (en : String) (u : Int32) (t : State) => E en u ∧ cB (dC, dI) (kT cyB cyI cyJ cyP) (va_A [(a0, .inr (10, [z0_tape, z0_ground, z0_spareGround, z0_rule, z0_spareRule, z0_lines, z0_spareLines, z0_steps, z0_now, z0_trial, z0_past, z0_images, z0_round, z0_seating, z0_fitting, z0_imagesKept, z0_refusedSteps, z0_callsNoSuch, .int v0_callsIllegal]))] sz) (fun u : Int32 => ([(a0, .inr (10, [z0_tape, z0_ground, z0_spareGround, z0_rule, z0_spareRule, z0_lines, z0_spareLines, z0_steps, z0_now, z0_trial, z0_past, z0_images, z0_round, z0_seating, z0_fitting, z0_imagesKept, z0_refusedSteps, z0_callsNoSuch, .int u]))] : va_W)) u t) (va_A [(a0, .inr (10, [z0_tape, z0_ground, z0_spareGround, z0_rule, z0_spareRule, z0_lines, z0_spareLines, z0_steps, z0_now, z0_trial, z0_past, z0_images, z0_round, z0_seating, z0_fitting, z0_imagesKept, z0_refusedSteps, z0_callsNoSuch, .int v0_callsIllegal]))] sz)) 1 6 (va_A [(a0, .inr (10, [z0_tape, z0_ground, z0_spareGround, z0_rule, z0_spareRule, z0_lines, z0_spareLines, z0_steps, z0_now, z0_trial, z0_past, z0_images, z0_round, z0_seating, z0_fitting, z0_imagesKept, z0_refusedSteps, z0_callsNoSuch, .int v0_callsIllegal]))] sz) := by
  refine vx_ofW (cc := cX10_needLegal) (maxL := 2) (ret := none) (by decide) rfl ?_
  intro p e s m args below meth c s₁ B hml hnt hv
  obtain ⟨rfl, hsz, hP, hK, hD0, hNw, hXl, hXu, hXn, hXt⟩ := hv
  have hx := B.exec
  have hb := B.bytes
  have hr := B.returns
  have hts := atoms_spec (ws := wsX10_needLegal) B.pre
  have hown : s.vm.findClass RX10 = some m.cls := findClass_of_methodNamed B.named
  have hlocks := B.notSynchronized
  subst hsz
  have hD := hD0.self (sz := s.heap.size)
  generalize hAe : va_A [(a0, .inr (10, [z0_tape, z0_ground, z0_spareGround, z0_rule, z0_spareRule, z0_lines, z0_spareLines, z0_steps, z0_now, z0_trial, z0_past, z0_images, z0_round, z0_seating, z0_fitting, z0_imagesKept, z0_refusedSteps, z0_callsNoSuch, .int v0_callsIllegal]))] s.heap.size = A at hD hXu hXn ⊢
  have hA : ∀ q : Nat, s.heap.size ≤ q → A q := fun q h => by rw [← hAe]; exact Or.inr h
  have hS : va_S A s.heap s.heap [] := va_S.rf
  have hP : va_P (dC, dI) vwCl [(a0, .inr (10, [z0_tape, z0_ground, z0_spareGround, z0_rule, z0_spareRule, z0_lines, z0_spareLines, z0_steps, z0_now, z0_trial, z0_past, z0_images, z0_round, z0_seating, z0_fitting, z0_imagesKept, z0_refusedSteps, z0_callsNoSuch, .int v0_callsIllegal]))] s.heap := hP
  have hl := lv_entry ([.ref a0, .int p1]) (n := 2) (Nat.le_of_ble_eq_true rfl)
  rw [lg_entry_eq]
  generalize (lg_sl ([.ref a0, .int p1]) ++ List.replicate (2 - (lg_sl ([.ref a0, .int p1])).length) Slot.unset).toArray = ls at hl ⊢
  have hl : lv_has ls 2 [(0, .ref a0), (1, .int p1)] := hl
  have hY : cfY l s A := ⟨hXl, hXu, hXn, hXt⟩
  have hXs : cfX l s c A := ⟨hnt, hY⟩
  have C0 : cfx p s m _ meth c cX10_needLegal none wsX10_needLegal RX10 2 A (dC, dI) (kT cyB cyI cyJ cyP) ∧ cfX l s c A := ⟨⟨hx, hb, hr, hts, hown, hlocks, hml, hA, hK, hNw⟩, hXs⟩
  clear hAe
  obtain ⟨H, hH⟩ : ∃ H, H = s.heap := ⟨_, rfl⟩
  rw [← hH] at hP ⊢
  have hS : va_S A s.heap H [] := by rw [hH]; exact va_S.rf
  have hS := hS
  refine lv_iload_n hx hb dX10_needLegal_0 rfl (lv_at hl 1 rfl) ?_
  refine lv_if_ne (tgt := 25) hx hb dX10_needLegal_1 (by decide) (fun c1 => ?_) (fun c1 => ?_)
  · have hw := hw.1 c1
    exact vx_ret (W.widen (k := 1) (n := 6) (Nat.le_of_ble_eq_true rfl) (Nat.le_of_ble_eq_true rfl) (W.vret hx hb hr (fun t ht hW => ⟨⟨(v0_callsIllegal), rfl, hw, by rw [ht]; exact hP, va_K.moved hW.alike hK, hD⟩, hS.F ht⟩) hS.2.2 dX10_needLegal_25))
  · have hw := hw.2 c1
    refine lv_aload_n hx hb dX10_needLegal_4 rfl (lv_at hl 0 rfl) ?_
    refine lv_dup hx hb dX10_needLegal_5 rfl ?_
    refine va_get (D := (dC, dI)) (ci := 10) (v := .int v0_callsIllegal) (C := RX10) (T := TX10) (N := 19) hx hb hts ui_X10_needLegal_X10 hown hK hP 0 rfl rfl 18 (by decide) (hts _ uw_X10_needLegal_f395) (fun _ h9 => h9) rfl dX10_needLegal_6 ?_
    refine lv_iconst (v := 1) hx hb dX10_needLegal_9 (by decide) ?_
    refine lv_iadd hx hb dX10_needLegal_10 ?_
    refine lv_topi (fun x2 ex2 => ?_)
    have hw := hw x2 ex2
    refine va_put (D := (dC, dI)) (ci := 10) (v := .int x2) (ty := .int) (C := RX10) (T := TX10) (N := 19) hx hb hts ui_X10_needLegal_X10 tyX10 tyX10_ok nmX10 hown hK hP hD hS 0 rfl rfl 18 (by decide) (hts _ uw_X10_needLegal_f395) (fun _ h9 => h9) rfl (by decide +kernel) rfl rfl (Nat.le_of_ble_eq_true rfl) dX10_needLegal_11 (fun H locs hP hD hS => ?_)
    have hP : va_P (dC, dI) vwCl [(a0, .inr (10, [z0_tape, z0_ground, z0_spareGround, z0_rule, z0_spareRule, z0_lines, z0_spareLines, z0_steps, z0_now, z0_trial, z0_past, z0_images, z0_round, z0_seating, z0_fitting, z0_imagesKept, z0_refusedSteps, z0_callsNoSuch, .int x2]))] H := hP
    have hD : va_D A [(a0, .inr (10, [z0_tape, z0_ground, z0_spareGround, z0_rule, z0_spareRule, z0_lines, z0_spareLines, z0_steps, z0_now, z0_trial, z0_past, z0_images, z0_round, z0_seating, z0_fitting, z0_imagesKept, z0_refusedSteps, z0_callsNoSuch, .int x2]))] := hD
    obtain ⟨sa9, hsa9⟩ := hY.2.2.2.2.1 _ (List.mem_of_getElem? (i := 3) rfl)
    exact vx_throwSW hx hb hY.1 (own := RX10) (cls := "java/lang/IllegalArgumentException") (names := ["java/lang/RuntimeException", "java/lang/Exception"]) (ik := 405) (is := 407) (ic := 409) hown (by decide +kernel) (by decide +kernel) (hts _ uw_X10_needLegal_cl405) (hts _ uw_X10_needLegal_ini405) hsa9 (vx_hat (fun w hw9 => hts w (uh_X10_needLegal_409 w hw9)) ub_X10_needLegal_409 (xB_use hY.2.2.2.1)) ug_X10_needLegal_409 hY.2.1 hY.2.2.1 hS (by rw [hml]; exact hl.1) dX10_needLegal_14 dX10_needLegal_17 dX10_needLegal_18 dX10_needLegal_21 dX10_needLegal_24 (fun x hx9 => (hXs.1 x hx9).elim) (Nat.le_of_ble_eq_true rfl) (Nat.le_of_ble_eq_true rfl) (Nat.le_of_ble_eq_true rfl) (Nat.le_of_ble_eq_true rfl) hlocks (fun t hal hsz9 hq9 => ⟨(x2), trivial, ⟨hw, hP.kept (fun k q hk9 => hq9 _ ((hP k q hk9).lt)), va_K.moved hal hK, hD⟩, xt_frame hS hsz9 hq9⟩) hS.2.2 (Nat.le_of_ble_eq_true rfl) (Nat.le_of_ble_eq_true rfl)
def wq_X10_needWithin  (v0_callsIllegal : Int32) (p1 : Int32) (p2 : Int32) (p3 : Int32) (E : String → Int32 → Prop) (Q : Int32 → Prop) : Prop := wq_X10_within   p1 p2 p3 (fun r1 => wq_X10_needLegal  v0_callsIllegal r1 (fun en x2 => E en x2) (fun x2 => (Q x2)))
set_option maxHeartbeats 4000000 in
set_option maxRecDepth 100000 in
theorem ck_X10_needWithin (l : Launch) (dC : Nat → ClassId) (dI : Nat → Nat → Nat) (cyB cyI cyJ cyP : ClassId) (a0 : Nat) (sz : Nat) (z0_tape : Value) (z0_ground : Value) (z0_spareGround : Value) (z0_rule : Value) (z0_spareRule : Value) (z0_lines : Value) (z0_spareLines : Value) (z0_steps : Value) (z0_now : Value) (z0_trial : Value) (z0_past : Value) (z0_images : Value) (z0_round : Value) (z0_seating : Value) (z0_fitting : Value) (z0_imagesKept : Value) (z0_refusedSteps : Value) (z0_callsNoSuch : Value)  (v0_callsIllegal : Int32) (p1 : Int32) (p2 : Int32) (p3 : Int32) {E : String → Int32 → Prop} {Q : Int32 → Prop} (hw : wq_X10_needWithin  v0_callsIllegal p1 p2 p3 E Q) : vx_Met l yX10_needWithin wsX10_needWithin ({ frames := 7, cells := 1, slots := 6, locals := 141 }) (va_Pc [.ref a0, .int p1, .int p2, .int p3] (cPx l (dC, dI) (kT cyB cyI cyJ cyP) [(a0, .inr (10, [z0_tape, z0_ground, z0_spareGround, z0_rule, z0_spareRule, z0_lines, z0_spareLines, z0_steps, z0_now, z0_trial, z0_past, z0_images, z0_round, z0_seating, z0_fitting, z0_imagesKept, z0_refusedSteps, z0_callsNoSuch, .int v0_callsIllegal]))] sz)) (va_Qv (fun (u : Int32) => Q u) (cB (dC, dI) (kT cyB cyI cyJ cyP) (va_A [(a0, .inr (10, [z0_tape, z0_ground, z0_spareGround, z0_rule, z0_spareRule, z0_lines, z0_spareLines, z0_steps, z0_now, z0_trial, z0_past, z0_images, z0_round, z0_seating, z0_fitting, z0_imagesKept, z0_refusedSteps, z0_callsNoSuch, .int v0_callsIllegal]))] sz) (fun u : Int32 => ([(a0, .inr (10, [z0_tape, z0_ground, z0_spareGround, z0_rule, z0_spareRule, z0_lines, z0_spareLines, z0_steps, z0_now, z0_trial, z0_past, z0_images, z0_round, z0_seating, z0_fitting, z0_imagesKept, z0_refusedSteps, z0_callsNoSuch, .int u]))] : va_W))) (va_A [(a0, .inr (10, [z0_tape, z0_ground, z0_spareGround, z0_rule, z0_spareRule, z0_lines, z0_spareLines, z0_steps, z0_now, z0_trial, z0_past, z0_images, z0_round, z0_seating, z0_fitting, z0_imagesKept, z0_refusedSteps, z0_callsNoSuch, .int v0_callsIllegal]))] sz)) (vx_X (fun _ => True) (fun (en : String) (u : Int32) (t : State) => E en u ∧ cB (dC, dI) (kT cyB cyI cyJ cyP) (va_A [(a0, .inr (10, [z0_tape, z0_ground, z0_spareGround, z0_rule, z0_spareRule, z0_lines, z0_spareLines, z0_steps, z0_now, z0_trial, z0_past, z0_images, z0_round, z0_seating, z0_fitting, z0_imagesKept, z0_refusedSteps, z0_callsNoSuch, .int v0_callsIllegal]))] sz) (fun u : Int32 => ([(a0, .inr (10, [z0_tape, z0_ground, z0_spareGround, z0_rule, z0_spareRule, z0_lines, z0_spareLines, z0_steps, z0_now, z0_trial, z0_past, z0_images, z0_round, z0_seating, z0_fitting, z0_imagesKept, z0_refusedSteps, z0_callsNoSuch, .int u]))] : va_W)) u t) (va_A [(a0, .inr (10, [z0_tape, z0_ground, z0_spareGround, z0_rule, z0_spareRule, z0_lines, z0_spareLines, z0_steps, z0_now, z0_trial, z0_past, z0_images, z0_round, z0_seating, z0_fitting, z0_imagesKept, z0_refusedSteps, z0_callsNoSuch, .int v0_callsIllegal]))] sz)) 1 6 (va_A [(a0, .inr (10, [z0_tape, z0_ground, z0_spareGround, z0_rule, z0_spareRule, z0_lines, z0_spareLines, z0_steps, z0_now, z0_trial, z0_past, z0_images, z0_round, z0_seating, z0_fitting, z0_imagesKept, z0_refusedSteps, z0_callsNoSuch, .int v0_callsIllegal]))] sz) := by
  refine vx_ofW (cc := cX10_needWithin) (maxL := 4) (ret := none) (by decide) rfl ?_
  intro p e s m args below meth c s₁ B hml hnt hv
  obtain ⟨rfl, hsz, hP, hK, hD0, hNw, hXl, hXu, hXn, hXt⟩ := hv
  have hx := B.exec
  have hb := B.bytes
  have hr := B.returns
  have hts := atoms_spec (ws := wsX10_needWithin) B.pre
  have hown : s.vm.findClass RX10 = some m.cls := findClass_of_methodNamed B.named
  have hlocks := B.notSynchronized
  subst hsz
  have hD := hD0.self (sz := s.heap.size)
  generalize hAe : va_A [(a0, .inr (10, [z0_tape, z0_ground, z0_spareGround, z0_rule, z0_spareRule, z0_lines, z0_spareLines, z0_steps, z0_now, z0_trial, z0_past, z0_images, z0_round, z0_seating, z0_fitting, z0_imagesKept, z0_refusedSteps, z0_callsNoSuch, .int v0_callsIllegal]))] s.heap.size = A at hD hXu hXn ⊢
  have hA : ∀ q : Nat, s.heap.size ≤ q → A q := fun q h => by rw [← hAe]; exact Or.inr h
  have hS : va_S A s.heap s.heap [] := va_S.rf
  have hP : va_P (dC, dI) vwCl [(a0, .inr (10, [z0_tape, z0_ground, z0_spareGround, z0_rule, z0_spareRule, z0_lines, z0_spareLines, z0_steps, z0_now, z0_trial, z0_past, z0_images, z0_round, z0_seating, z0_fitting, z0_imagesKept, z0_refusedSteps, z0_callsNoSuch, .int v0_callsIllegal]))] s.heap := hP
  have hl := lv_entry ([.ref a0, .int p1, .int p2, .int p3]) (n := 4) (Nat.le_of_ble_eq_true rfl)
  rw [lg_entry_eq]
  generalize (lg_sl ([.ref a0, .int p1, .int p2, .int p3]) ++ List.replicate (4 - (lg_sl ([.ref a0, .int p1, .int p2, .int p3])).length) Slot.unset).toArray = ls at hl ⊢
  have hl : lv_has ls 4 [(0, .ref a0), (1, .int p1), (2, .int p2), (3, .int p3)] := hl
  have hY : cfY l s A := ⟨hXl, hXu, hXn, hXt⟩
  have hXs : cfX l s c A := ⟨hnt, hY⟩
  have C0 : cfx p s m _ meth c cX10_needWithin none wsX10_needWithin RX10 4 A (dC, dI) (kT cyB cyI cyJ cyP) ∧ cfX l s c A := ⟨⟨hx, hb, hr, hts, hown, hlocks, hml, hA, hK, hNw⟩, hXs⟩
  clear hAe
  obtain ⟨H, hH⟩ : ∃ H, H = s.heap := ⟨_, rfl⟩
  rw [← hH] at hP ⊢
  have hS : va_S A s.heap H [] := by rw [hH]; exact va_S.rf
  have hS := hS
  refine lv_aload_n hx hb dX10_needWithin_0 rfl (lv_at hl 0 rfl) ?_
  refine lv_iload_n hx hb dX10_needWithin_1 rfl (lv_at hl 1 rfl) ?_
  refine lv_iload_n hx hb dX10_needWithin_2 rfl (lv_at hl 2 rfl) ?_
  refine lv_iload_n hx hb dX10_needWithin_3 rfl (lv_at hl 3 rfl) ?_
  have hPc := hP.sub (ws' := []) [] rfl
  have hDc := hD.sub (ws' := []) [] (by decide) rfl
  have hFc := va_free (wc := []) hD hS hA [] rfl
  refine va_calli (va_runS (As := [.int p1, .int p2, .int p3]) (rest := [.ref a0]) ⟨hx, hb, hml, hown, hts⟩ (ck_X10_within l dC dI cyB cyI cyJ cyP  H.size    p1 p2 p3 hw) (va_cwS 3 hts gX10_needWithin_X10_within rfl rfl rfl (by decide +kernel) ⟨Nat.le_of_ble_eq_true rfl, Nat.le_of_ble_eq_true rfl⟩) ⟨cPc_blind, cPc_pre hPc hK hDc hNw⟩ rfl rfl hl.1 rfl (lv_room (Nat.le_of_ble_eq_true rfl)) dX10_needWithin_4 ⟨Nat.le_of_ble_eq_true rfl, Nat.le_of_ble_eq_true rfl⟩) hS (fun q _ h => hFc q h) hFc (fun r1 u t H1 locs ht hvm hw hB hz1 hk1 hS => ?_)
  obtain ⟨hP1, hK1, hD1⟩ := hB
  rw [ht] at hP1
  obtain ⟨hP, hD⟩ := va_join (wr := [(a0, .inr (10, [z0_tape, z0_ground, z0_spareGround, z0_rule, z0_spareRule, z0_lines, z0_spareLines, z0_steps, z0_now, z0_trial, z0_past, z0_images, z0_round, z0_seating, z0_fitting, z0_imagesKept, z0_refusedSteps, z0_callsNoSuch, .int v0_callsIllegal]))]) (w1 := []) hP hD [] [0] rfl rfl (by decide) (by decide) hk1 hFc hP1 hD1
  have hP : va_P (dC, dI) vwCl [(a0, .inr (10, [z0_tape, z0_ground, z0_spareGround, z0_rule, z0_spareRule, z0_lines, z0_spareLines, z0_steps, z0_now, z0_trial, z0_past, z0_images, z0_round, z0_seating, z0_fitting, z0_imagesKept, z0_refusedSteps, z0_callsNoSuch, .int v0_callsIllegal]))] H1 := hP
  have hD : va_D A [(a0, .inr (10, [z0_tape, z0_ground, z0_spareGround, z0_rule, z0_spareRule, z0_lines, z0_spareLines, z0_steps, z0_now, z0_trial, z0_past, z0_images, z0_round, z0_seating, z0_fitting, z0_imagesKept, z0_refusedSteps, z0_callsNoSuch, .int v0_callsIllegal]))] := hD
  generalize H1 = H at hP hS ⊢
  have hPc := hP.sub (ws' := [(a0, .inr (10, [z0_tape, z0_ground, z0_spareGround, z0_rule, z0_spareRule, z0_lines, z0_spareLines, z0_steps, z0_now, z0_trial, z0_past, z0_images, z0_round, z0_seating, z0_fitting, z0_imagesKept, z0_refusedSteps, z0_callsNoSuch, .int v0_callsIllegal]))]) [0] rfl
  have hDc := hD.sub (ws' := [(a0, .inr (10, [z0_tape, z0_ground, z0_spareGround, z0_rule, z0_spareRule, z0_lines, z0_spareLines, z0_steps, z0_now, z0_trial, z0_past, z0_images, z0_round, z0_seating, z0_fitting, z0_imagesKept, z0_refusedSteps, z0_callsNoSuch, .int v0_callsIllegal]))]) [0] (by decide) rfl
  have hFc := va_free (wc := [(a0, .inr (10, [z0_tape, z0_ground, z0_spareGround, z0_rule, z0_spareRule, z0_lines, z0_spareLines, z0_steps, z0_now, z0_trial, z0_past, z0_images, z0_round, z0_seating, z0_fitting, z0_imagesKept, z0_refusedSteps, z0_callsNoSuch, .int v0_callsIllegal]))]) hD hS hA [0] rfl
  refine vx_callv (vx_runV (As := [.int r1]) (rest := []) ⟨hx, hb, hml, hown, hts⟩ (ck_X10_needLegal l dC dI cyB cyI cyJ cyP a0 H.size (z0_tape) (z0_ground) (z0_spareGround) (z0_rule) (z0_spareRule) (z0_lines) (z0_spareLines) (z0_steps) (z0_now) (z0_trial) (z0_past) (z0_images) (z0_round) (z0_seating) (z0_fitting) (z0_imagesKept) (z0_refusedSteps) (z0_callsNoSuch)  v0_callsIllegal r1 hw) (cwV 1 hts gX10_needWithin_X10_needLegal rfl rfl rfl (by decide +kernel) ⟨Nat.le_of_ble_eq_true rfl, Nat.le_of_ble_eq_true rfl⟩) ⟨cPx_blind, va_recv hK hPc (ci := 10) (q0 := 0) rfl rfl, cPx_pre hPc hK hDc hNw hY hS hFc⟩ rfl rfl hl.1 rfl (lv_room (Nat.le_of_ble_eq_true rfl)) dX10_needWithin_7 ⟨Nat.le_of_ble_eq_true rfl, Nat.le_of_ble_eq_true rfl⟩) hS (fun q _ h => hFc q h) hFc (fun q _ h => hFc q h) (fun en ce q9 u t H1 locs ht hvm hpx hB hz1 hk1 hS hc9 hv9 hcl9 => ?_) (fun u t H1 locs ht hvm hw hB hz1 hk1 hS => ?_)
  · obtain ⟨x2, rfl⟩ : ∃ z, z = u := ⟨_, rfl⟩
    obtain ⟨hw, hP1, hK1, hD1⟩ := hB
    rw [ht] at hP1
    obtain ⟨hP, hD⟩ := va_join (wr := []) (w1 := [(a0, .inr (10, [z0_tape, z0_ground, z0_spareGround, z0_rule, z0_spareRule, z0_lines, z0_spareLines, z0_steps, z0_now, z0_trial, z0_past, z0_images, z0_round, z0_seating, z0_fitting, z0_imagesKept, z0_refusedSteps, z0_callsNoSuch, .int x2]))]) hP hD [0] [] rfl rfl (by decide) (by decide) hk1 hFc hP1 hD1
    have hP : va_P (dC, dI) vwCl [(a0, .inr (10, [z0_tape, z0_ground, z0_spareGround, z0_rule, z0_spareRule, z0_lines, z0_spareLines, z0_steps, z0_now, z0_trial, z0_past, z0_images, z0_round, z0_seating, z0_fitting, z0_imagesKept, z0_refusedSteps, z0_callsNoSuch, .int x2]))] H1 := hP
    have hD : va_D A [(a0, .inr (10, [z0_tape, z0_ground, z0_spareGround, z0_rule, z0_spareRule, z0_lines, z0_spareLines, z0_steps, z0_now, z0_trial, z0_past, z0_images, z0_round, z0_seating, z0_fitting, z0_imagesKept, z0_refusedSteps, z0_callsNoSuch, .int x2]))] := hD
    generalize H1 = H at hP hS hc9 ⊢
    exact vx_out (fun x hx9 => (hXs.1 x hx9).elim) hlocks hc9 hv9 hcl9 (fun t2 ht2 hal2 => ⟨(x2), trivial, ⟨hw, by rw [ht2]; exact hP, va_K.moved hal2 hK, hD⟩, hS.F ht2⟩) hS.2.2 (Nat.le_of_ble_eq_true rfl) (Nat.le_of_ble_eq_true rfl)
  obtain ⟨x2, rfl⟩ : ∃ z, z = u := ⟨_, rfl⟩
  obtain ⟨hP1, hK1, hD1⟩ := hB
  rw [ht] at hP1
  obtain ⟨hP, hD⟩ := va_join (wr := []) (w1 := [(a0, .inr (10, [z0_tape, z0_ground, z0_spareGround, z0_rule, z0_spareRule, z0_lines, z0_spareLines, z0_steps, z0_now, z0_trial, z0_past, z0_images, z0_round, z0_seating, z0_fitting, z0_imagesKept, z0_refusedSteps, z0_callsNoSuch, .int x2]))]) hP hD [0] [] rfl rfl (by decide) (by decide) hk1 hFc hP1 hD1
  have hP : va_P (dC, dI) vwCl [(a0, .inr (10, [z0_tape, z0_ground, z0_spareGround, z0_rule, z0_spareRule, z0_lines, z0_spareLines, z0_steps, z0_now, z0_trial, z0_past, z0_images, z0_round, z0_seating, z0_fitting, z0_imagesKept, z0_refusedSteps, z0_callsNoSuch, .int x2]))] H1 := hP
  have hD : va_D A [(a0, .inr (10, [z0_tape, z0_ground, z0_spareGround, z0_rule, z0_spareRule, z0_lines, z0_spareLines, z0_steps, z0_now, z0_trial, z0_past, z0_images, z0_round, z0_seating, z0_fitting, z0_imagesKept, z0_refusedSteps, z0_callsNoSuch, .int x2]))] := hD
  generalize H1 = H at hP hS ⊢
  exact vx_ret (W.widen (k := 1) (n := 6) (Nat.le_of_ble_eq_true rfl) (Nat.le_of_ble_eq_true rfl) (W.vret hx hb hr (fun t ht hW => ⟨⟨(x2), rfl, hw, by rw [ht]; exact hP, va_K.moved hW.alike hK, hD⟩, hS.F ht⟩) hS.2.2 dX10_needWithin_10))
theorem ui_X1_copyFrom_X1 : ∀ w ∈ u_ws RX1 TX1 4, w ∈ wsX1_copyFrom := by decide +kernel
theorem uw_X1_copyFrom_aci : (.initialized "java/lang/System" : Cond) ∈ wsX1_copyFrom := by decide +kernel
theorem uw_X1_copyFrom_acn : (.native arraycopyName : Cond) ∈ wsX1_copyFrom := by decide +kernel
theorem uw_X1_copyFrom_acs : (.static arraycopyName : Cond) ∈ wsX1_copyFrom := by decide +kernel
theorem uw_X1_copyFrom_f13 : (.fieldLink RX1 13 "MarchHares$Days" "row" "[I" : Cond) ∈ wsX1_copyFrom := by decide +kernel
theorem uw_X1_copyFrom_f24 : (.fieldLink RX1 24 "MarchHares$Days" "down" "LMarchHares$Down;" : Cond) ∈ wsX1_copyFrom := by decide +kernel
theorem uw_X1_copyFrom_f28 : (.fieldLink RX1 28 "MarchHares$Days" "law" "LMarchHares$Law;" : Cond) ∈ wsX1_copyFrom := by decide +kernel
theorem uw_X1_copyFrom_m45 : (.methodLink RX1 45 arraycopyName : Cond) ∈ wsX1_copyFrom := by decide +kernel
def wq_X1_copyFrom (f1_row : Nat → Int32) (f0_row : Nat → Int32)  (Q : (Nat → Int32) → Prop) : Prop := ∀ f1 : Nat → Int32, f1 = va_cpy f1_row f0_row (0 : Int32).toNatClampNeg (0 : Int32).toNatClampNeg (64 : Int32).toNatClampNeg → (Q f1)
set_option maxHeartbeats 4000000 in
set_option maxRecDepth 100000 in
theorem ck_X1_copyFrom (l : Launch) (dC : Nat → ClassId) (dI : Nat → Nat → Nat) (cyB cyI cyJ cyP : ClassId) (a0 a1 a1_down a1_law a1_row a0_row : Nat) (sz : Nat) (z0_owedEach : Value) (r0_down : Value) (r0_law : Value) (z1_owedEach : Value) (f1_row : Nat → Int32) (f0_row : Nat → Int32)  {Q : (Nat → Int32) → Prop} (hw : wq_X1_copyFrom f1_row f0_row  Q) : Met l yX1_copyFrom wsX1_copyFrom ({ frames := 1, cells := 0, slots := 0, locals := 40 }) (va_Pc [.ref a0, .ref a1] (cPc (dC, dI) (kT cyB cyI cyJ cyP) [(a0, .inr (1, [.ref a0_row, z0_owedEach, r0_down, r0_law])), (a1, .inr (1, [.ref a1_row, z1_owedEach, .ref a1_down, .ref a1_law])), (a1_row, .inl (cyI, 64, .inl f1_row)), (a0_row, .inl (cyI, 64, .inl f0_row))] sz)) (va_Qv (fun (u : (Nat → Int32)) => Q u) (cB (dC, dI) (kT cyB cyI cyJ cyP) (va_A [(a0, .inr (1, [.ref a0_row, z0_owedEach, r0_down, r0_law])), (a1, .inr (1, [.ref a1_row, z1_owedEach, .ref a1_down, .ref a1_law])), (a1_row, .inl (cyI, 64, .inl f1_row)), (a0_row, .inl (cyI, 64, .inl f0_row))] sz) (fun u : (Nat → Int32) => ([(a0, .inr (1, [.ref a0_row, z0_owedEach, .ref a1_down, .ref a1_law])), (a1, .inr (1, [.ref a1_row, z1_owedEach, .ref a1_down, .ref a1_law])), (a1_row, .inl (cyI, 64, .inl f1_row)), (a0_row, .inl (cyI, 64, .inl u))] : va_W))) (va_A [(a0, .inr (1, [.ref a0_row, z0_owedEach, r0_down, r0_law])), (a1, .inr (1, [.ref a1_row, z1_owedEach, .ref a1_down, .ref a1_law])), (a1_row, .inl (cyI, 64, .inl f1_row)), (a0_row, .inl (cyI, 64, .inl f0_row))] sz)) 0 0 (va_A [(a0, .inr (1, [.ref a0_row, z0_owedEach, r0_down, r0_law])), (a1, .inr (1, [.ref a1_row, z1_owedEach, .ref a1_down, .ref a1_law])), (a1_row, .inl (cyI, 64, .inl f1_row)), (a0_row, .inl (cyI, 64, .inl f0_row))] sz) := by
  refine Met.ofW (cc := cX1_copyFrom) (maxL := 2) (ret := none) (by decide) rfl ?_
  intro p e s m args below meth c s₁ B hml hv
  obtain ⟨rfl, hsz, hP, hK, hD0, hNw⟩ := hv
  have hx := B.exec
  have hb := B.bytes
  have hr := B.returns
  have hts := atoms_spec (ws := wsX1_copyFrom) B.pre
  have hown : s.vm.findClass RX1 = some m.cls := findClass_of_methodNamed B.named
  have hlocks := B.notSynchronized
  subst hsz
  have hD := hD0.self (sz := s.heap.size)
  generalize hAe : va_A [(a0, .inr (1, [.ref a0_row, z0_owedEach, r0_down, r0_law])), (a1, .inr (1, [.ref a1_row, z1_owedEach, .ref a1_down, .ref a1_law])), (a1_row, .inl (cyI, 64, .inl f1_row)), (a0_row, .inl (cyI, 64, .inl f0_row))] s.heap.size = A at hD ⊢
  have hA : ∀ q : Nat, s.heap.size ≤ q → A q := fun q h => by rw [← hAe]; exact Or.inr h
  have hS : va_S A s.heap s.heap [] := va_S.rf
  have hP : va_P (dC, dI) vwCl [(a0, .inr (1, [.ref a0_row, z0_owedEach, r0_down, r0_law])), (a1, .inr (1, [.ref a1_row, z1_owedEach, .ref a1_down, .ref a1_law])), (a1_row, .inl (cyI, 64, .inl f1_row)), (a0_row, .inl (cyI, 64, .inl f0_row))] s.heap := hP
  have hl := lv_entry ([.ref a0, .ref a1]) (n := 2) (Nat.le_of_ble_eq_true rfl)
  rw [lg_entry_eq]
  generalize (lg_sl ([.ref a0, .ref a1]) ++ List.replicate (2 - (lg_sl ([.ref a0, .ref a1])).length) Slot.unset).toArray = ls at hl ⊢
  have hl : lv_has ls 2 [(0, .ref a0), (1, .ref a1)] := hl
  have C0 : cfx p s m _ meth c cX1_copyFrom none wsX1_copyFrom RX1 2 A (dC, dI) (kT cyB cyI cyJ cyP) := ⟨hx, hb, hr, hts, hown, hlocks, hml, hA, hK, hNw⟩
  clear hAe
  obtain ⟨H, hH⟩ : ∃ H, H = s.heap := ⟨_, rfl⟩
  rw [← hH] at hP ⊢
  have hS : va_S A s.heap H [] := by rw [hH]; exact va_S.rf
  have hS := hS
  refine lv_aload_n hx hb dX1_copyFrom_0 rfl (lv_at hl 0 rfl) ?_
  refine lv_aload_n hx hb dX1_copyFrom_1 rfl (lv_at hl 1 rfl) ?_
  refine va_get (D := (dC, dI)) (ci := 1) (v := .ref a1_down) (C := RX1) (T := TX1) (N := 4) hx hb hts ui_X1_copyFrom_X1 hown hK hP 1 rfl rfl 2 (by decide) (hts _ uw_X1_copyFrom_f24) (fun _ h9 => h9) rfl dX1_copyFrom_2 ?_
  refine va_put (D := (dC, dI)) (ci := 1) (v := .ref a1_down) (ty := .object "MarchHares$Down") (C := RX1) (T := TX1) (N := 4) hx hb hts ui_X1_copyFrom_X1 tyX1 tyX1_ok nmX1 hown hK hP hD hS 0 rfl rfl 2 (by decide) (hts _ uw_X1_copyFrom_f24) (fun _ h9 => h9) rfl (by decide +kernel) rfl rfl (Nat.le_of_ble_eq_true rfl) dX1_copyFrom_5 (fun H locs hP hD hS => ?_)
  have hP : va_P (dC, dI) vwCl [(a0, .inr (1, [.ref a0_row, z0_owedEach, .ref a1_down, r0_law])), (a1, .inr (1, [.ref a1_row, z1_owedEach, .ref a1_down, .ref a1_law])), (a1_row, .inl (cyI, 64, .inl f1_row)), (a0_row, .inl (cyI, 64, .inl f0_row))] H := hP
  have hD : va_D A [(a0, .inr (1, [.ref a0_row, z0_owedEach, .ref a1_down, r0_law])), (a1, .inr (1, [.ref a1_row, z1_owedEach, .ref a1_down, .ref a1_law])), (a1_row, .inl (cyI, 64, .inl f1_row)), (a0_row, .inl (cyI, 64, .inl f0_row))] := hD
  refine lv_aload_n hx hb dX1_copyFrom_8 rfl (lv_at hl 0 rfl) ?_
  refine lv_aload_n hx hb dX1_copyFrom_9 rfl (lv_at hl 1 rfl) ?_
  refine va_get (D := (dC, dI)) (ci := 1) (v := .ref a1_law) (C := RX1) (T := TX1) (N := 4) hx hb hts ui_X1_copyFrom_X1 hown hK hP 1 rfl rfl 3 (by decide) (hts _ uw_X1_copyFrom_f28) (fun _ h9 => h9) rfl dX1_copyFrom_10 ?_
  refine va_put (D := (dC, dI)) (ci := 1) (v := .ref a1_law) (ty := .object "MarchHares$Law") (C := RX1) (T := TX1) (N := 4) hx hb hts ui_X1_copyFrom_X1 tyX1 tyX1_ok nmX1 hown hK hP hD hS 0 rfl rfl 3 (by decide) (hts _ uw_X1_copyFrom_f28) (fun _ h9 => h9) rfl (by decide +kernel) rfl rfl (Nat.le_of_ble_eq_true rfl) dX1_copyFrom_13 (fun H locs hP hD hS => ?_)
  have hP : va_P (dC, dI) vwCl [(a0, .inr (1, [.ref a0_row, z0_owedEach, .ref a1_down, .ref a1_law])), (a1, .inr (1, [.ref a1_row, z1_owedEach, .ref a1_down, .ref a1_law])), (a1_row, .inl (cyI, 64, .inl f1_row)), (a0_row, .inl (cyI, 64, .inl f0_row))] H := hP
  have hD : va_D A [(a0, .inr (1, [.ref a0_row, z0_owedEach, .ref a1_down, .ref a1_law])), (a1, .inr (1, [.ref a1_row, z1_owedEach, .ref a1_down, .ref a1_law])), (a1_row, .inl (cyI, 64, .inl f1_row)), (a0_row, .inl (cyI, 64, .inl f0_row))] := hD
  refine lv_aload_n hx hb dX1_copyFrom_16 rfl (lv_at hl 1 rfl) ?_
  refine va_get (D := (dC, dI)) (ci := 1) (v := .ref a1_row) (C := RX1) (T := TX1) (N := 4) hx hb hts ui_X1_copyFrom_X1 hown hK hP 1 rfl rfl 0 (by decide) (hts _ uw_X1_copyFrom_f13) (fun _ h9 => h9) rfl dX1_copyFrom_17 ?_
  refine lv_iconst (v := 0) hx hb dX1_copyFrom_20 (by decide) ?_
  refine lv_aload_n hx hb dX1_copyFrom_21 rfl (lv_at hl 0 rfl) ?_
  refine va_get (D := (dC, dI)) (ci := 1) (v := .ref a0_row) (C := RX1) (T := TX1) (N := 4) hx hb hts ui_X1_copyFrom_X1 hown hK hP 0 rfl rfl 0 (by decide) (hts _ uw_X1_copyFrom_f13) (fun _ h9 => h9) rfl dX1_copyFrom_22 ?_
  refine lv_iconst (v := 0) hx hb dX1_copyFrom_25 (by decide) ?_
  refine lv_bipush (v := 64) hx hb dX1_copyFrom_26 (by decide) ?_
  refine va_copyi hx hb (by rw [hml]; exact hl.1.symm) hown (hts _ uw_X1_copyFrom_m45) (hts _ uw_X1_copyFrom_acn) (hts _ uw_X1_copyFrom_acs) (hts _ uw_X1_copyFrom_aci) hK hP hD hS 2 3 1 1 rfl rfl rfl rfl rfl (by decide) (by decide) (by decide) (by decide) (by decide) (fun _ _ => rfl) (Nat.le_of_ble_eq_true rfl) (Nat.le_of_ble_eq_true rfl) dX1_copyFrom_28 (fun H locs hP hD hS => ?_)
  obtain ⟨f1, ef1⟩ : ∃ y : Nat → Int32, y = va_cpy f1_row f0_row (0 : Int32).toNatClampNeg (0 : Int32).toNatClampNeg (64 : Int32).toNatClampNeg := ⟨_, rfl⟩
  have hw := hw f1 ef1
  have hP : va_P (dC, dI) vwCl [(a0, .inr (1, [.ref a0_row, z0_owedEach, .ref a1_down, .ref a1_law])), (a1, .inr (1, [.ref a1_row, z1_owedEach, .ref a1_down, .ref a1_law])), (a1_row, .inl (cyI, 64, .inl f1_row)), (a0_row, .inl (cyI, 64, .inl f1))] H := by rw [ef1]; exact hP
  have hD : va_D A [(a0, .inr (1, [.ref a0_row, z0_owedEach, .ref a1_down, .ref a1_law])), (a1, .inr (1, [.ref a1_row, z1_owedEach, .ref a1_down, .ref a1_law])), (a1_row, .inl (cyI, 64, .inl f1_row)), (a0_row, .inl (cyI, 64, .inl f1))] := by rw [ef1]; exact hD
  exact ((W.vret hx hb hr (fun t ht hW => ⟨⟨(f1), rfl, hw, by rw [ht]; exact hP, va_K.moved hW.alike hK, hD⟩, hS.F ht⟩) hS.2.2 dX1_copyFrom_31))
theorem ui_X1_endangered_X1 : ∀ w ∈ u_ws RX1 TX1 4, w ∈ wsX1_endangered := by decide +kernel
theorem ui_X1_endangered_X2 : ∀ w ∈ u_ws RX2 TX2 12, w ∈ wsX1_endangered := by decide +kernel
theorem uw_X1_endangered_f24 : (.fieldLink RX1 24 "MarchHares$Days" "down" "LMarchHares$Down;" : Cond) ∈ wsX1_endangered := by decide +kernel
theorem uw_X1_endangered_f32 : (.fieldLink RX1 32 "MarchHares$Down" "hares" "I" : Cond) ∈ wsX1_endangered := by decide +kernel
def wl_X1_endangered_4 (v0_down_hares : Int32) (Q : Int32 → Prop)  : Nat → Int32 → Int32 → Prop
  | 0, _, _ => False
  | n + 1, l1, l2 => ((v0_down_hares ≤ l2 → (Q l1)) ∧ (¬ v0_down_hares ≤ l2 → False))
set_option maxHeartbeats 4000000 in
set_option maxRecDepth 100000 in
theorem kl_X1_endangered_4 {p : Program} {l : Launch} {e : Env} {s : State} {m : MethodId} {args : Array Value} {below : List Frame} {meth : Method} {c : Code} {A : Nat → Prop} (dC : Nat → ClassId) (dI : Nat → Nat → Nat) (cyB cyI cyJ cyP : ClassId) (a0 a0_down : Nat) (z0_row : Value) (z0_owedEach : Value) (z0_law : Value) (z0_down_formX : Value) (z0_down_formY : Value) (z0_down_foxX : Value) (z0_down_foxY : Value) (z0_down_seat : Value) (z0_down_strength : Value) (z0_down_debts : Value) (z0_down_near : Value) (z0_down_forms : Value) (z0_down_foxes : Value) (z0_down_safe : Value) (v0_down_hares : Int32) (Q : Int32 → Prop)  (C0 : cfx p s m args meth c cX1_endangered (some .int) wsX1_endangered RX1 3 A (dC, dI) (kT cyB cyI cyJ cyP)) : ∀ (n : Nat) (H : Heap) (locs : List Loc) (ls : Array Slot) (l1 : Int32) (l2 : Int32), va_P (dC, dI) vwCl [(a0, .inr (1, [z0_row, z0_owedEach, .ref a0_down, z0_law])), (a0_down, .inr (2, [z0_down_formX, z0_down_formY, z0_down_foxX, z0_down_foxY, z0_down_seat, z0_down_strength, z0_down_debts, z0_down_near, z0_down_forms, .int v0_down_hares, z0_down_foxes, z0_down_safe]))] H → va_D A [(a0, .inr (1, [z0_row, z0_owedEach, .ref a0_down, z0_law])), (a0_down, .inr (2, [z0_down_formX, z0_down_formY, z0_down_foxX, z0_down_foxY, z0_down_seat, z0_down_strength, z0_down_debts, z0_down_near, z0_down_forms, .int v0_down_hares, z0_down_foxes, z0_down_safe]))] → va_S A s.heap H locs → lv_has ls 3 [(0, .ref a0), (1, .int l1), (2, .int l2)] → wl_X1_endangered_4 v0_down_hares Q  n l1 l2 → W p l e (headSpec wsX1_endangered ({ frames := 0, cells := 0, slots := 0, locals := 0 })).room s m args below meth c H locs 0 0 (MQ below (va_Qi (fun (r : Int32) (_ : Unit) => Q r ) (cB (dC, dI) (kT cyB cyI cyJ cyP) A (fun u : Unit => ([(a0, .inr (1, [z0_row, z0_owedEach, .ref a0_down, z0_law])), (a0_down, .inr (2, [z0_down_formX, z0_down_formY, z0_down_foxX, z0_down_foxY, z0_down_seat, z0_down_strength, z0_down_debts, z0_down_near, z0_down_forms, .int v0_down_hares, z0_down_foxes, z0_down_safe]))] : va_W))) A) args s 0 0 A) (F0 m 4 ls []) := by
  obtain ⟨hx, hb, hr, hts, hown, hlocks, hml, hA, hK, hNw⟩ := id C0
  intro n
  induction n with
  | zero => intro H locs ls l1 l2 hP hD hS hl hw; exact False.elim hw
  | succ n ih =>
    intro H locs ls l1 l2 hP hD hS hl hw
    refine lv_iload_n hx hb dX1_endangered_4 rfl (lv_at hl 2 rfl) ?_
    refine lv_aload_n hx hb dX1_endangered_5 rfl (lv_at hl 0 rfl) ?_
    refine va_get (D := (dC, dI)) (ci := 1) (v := .ref a0_down) (C := RX1) (T := TX1) (N := 4) hx hb hts ui_X1_endangered_X1 hown hK hP 0 rfl rfl 2 (by decide) (hts _ uw_X1_endangered_f24) (fun _ h9 => h9) rfl dX1_endangered_6 ?_
    refine va_get (D := (dC, dI)) (ci := 2) (v := .int v0_down_hares) (C := RX2) (T := TX2) (N := 12) hx hb hts ui_X1_endangered_X2 hown hK hP 1 rfl rfl 9 (by decide) (hts _ uw_X1_endangered_f32) (fun _ h9 => h9) rfl dX1_endangered_9 ?_
    refine lv_icmp_ge (tgt := 59) hx hb dX1_endangered_12 (by decide) (fun c1 => ?_) (fun c1 => ?_)
    · have hw := hw.1 c1
      refine lv_iload_n hx hb dX1_endangered_59 rfl (lv_at hl 1 rfl) ?_
      exact ((W.iret (v := l1) hx hb hr (fun t ht hW => ⟨⟨l1, (), rfl, hw, by rw [ht]; exact hP, va_K.moved hW.alike hK, hD⟩, hS.F ht⟩) hS.2.2 dX1_endangered_60))
    · have hw := hw.2 c1
      exact False.elim hw
def wq_X1_endangered (v0_down_hares : Int32)   (Q : Int32 → Prop) : Prop := (∃ k9 : Nat, wl_X1_endangered_4 v0_down_hares Q  k9 0 0)
set_option maxHeartbeats 4000000 in
set_option maxRecDepth 100000 in
theorem ck_X1_endangered (l : Launch) (dC : Nat → ClassId) (dI : Nat → Nat → Nat) (cyB cyI cyJ cyP : ClassId) (a0 a0_down : Nat) (sz : Nat) (z0_row : Value) (z0_owedEach : Value) (z0_law : Value) (z0_down_formX : Value) (z0_down_formY : Value) (z0_down_foxX : Value) (z0_down_foxY : Value) (z0_down_seat : Value) (z0_down_strength : Value) (z0_down_debts : Value) (z0_down_near : Value) (z0_down_forms : Value) (z0_down_foxes : Value) (z0_down_safe : Value) (v0_down_hares : Int32)   {Q : Int32 → Prop} (hw : wq_X1_endangered v0_down_hares   Q) : Met l yX1_endangered wsX1_endangered ({ frames := 0, cells := 0, slots := 0, locals := 0 }) (va_Pc [.ref a0] (cPc (dC, dI) (kT cyB cyI cyJ cyP) [(a0, .inr (1, [z0_row, z0_owedEach, .ref a0_down, z0_law])), (a0_down, .inr (2, [z0_down_formX, z0_down_formY, z0_down_foxX, z0_down_foxY, z0_down_seat, z0_down_strength, z0_down_debts, z0_down_near, z0_down_forms, .int v0_down_hares, z0_down_foxes, z0_down_safe]))] sz)) (va_Qi (fun (r : Int32) (_ : Unit) => Q r ) (cB (dC, dI) (kT cyB cyI cyJ cyP) (va_A [(a0, .inr (1, [z0_row, z0_owedEach, .ref a0_down, z0_law])), (a0_down, .inr (2, [z0_down_formX, z0_down_formY, z0_down_foxX, z0_down_foxY, z0_down_seat, z0_down_strength, z0_down_debts, z0_down_near, z0_down_forms, .int v0_down_hares, z0_down_foxes, z0_down_safe]))] sz) (fun u : Unit => ([(a0, .inr (1, [z0_row, z0_owedEach, .ref a0_down, z0_law])), (a0_down, .inr (2, [z0_down_formX, z0_down_formY, z0_down_foxX, z0_down_foxY, z0_down_seat, z0_down_strength, z0_down_debts, z0_down_near, z0_down_forms, .int v0_down_hares, z0_down_foxes, z0_down_safe]))] : va_W))) (va_A [(a0, .inr (1, [z0_row, z0_owedEach, .ref a0_down, z0_law])), (a0_down, .inr (2, [z0_down_formX, z0_down_formY, z0_down_foxX, z0_down_foxY, z0_down_seat, z0_down_strength, z0_down_debts, z0_down_near, z0_down_forms, .int v0_down_hares, z0_down_foxes, z0_down_safe]))] sz)) 0 0 (va_A [(a0, .inr (1, [z0_row, z0_owedEach, .ref a0_down, z0_law])), (a0_down, .inr (2, [z0_down_formX, z0_down_formY, z0_down_foxX, z0_down_foxY, z0_down_seat, z0_down_strength, z0_down_debts, z0_down_near, z0_down_forms, .int v0_down_hares, z0_down_foxes, z0_down_safe]))] sz) := by
  refine Met.ofW (cc := cX1_endangered) (maxL := 3) (ret := (some .int)) (by decide) rfl ?_
  intro p e s m args below meth c s₁ B hml hv
  obtain ⟨rfl, hsz, hP, hK, hD0, hNw⟩ := hv
  have hx := B.exec
  have hb := B.bytes
  have hr := B.returns
  have hts := atoms_spec (ws := wsX1_endangered) B.pre
  have hown : s.vm.findClass RX1 = some m.cls := findClass_of_methodNamed B.named
  have hlocks := B.notSynchronized
  subst hsz
  have hD := hD0.self (sz := s.heap.size)
  generalize hAe : va_A [(a0, .inr (1, [z0_row, z0_owedEach, .ref a0_down, z0_law])), (a0_down, .inr (2, [z0_down_formX, z0_down_formY, z0_down_foxX, z0_down_foxY, z0_down_seat, z0_down_strength, z0_down_debts, z0_down_near, z0_down_forms, .int v0_down_hares, z0_down_foxes, z0_down_safe]))] s.heap.size = A at hD ⊢
  have hA : ∀ q : Nat, s.heap.size ≤ q → A q := fun q h => by rw [← hAe]; exact Or.inr h
  have hS : va_S A s.heap s.heap [] := va_S.rf
  have hP : va_P (dC, dI) vwCl [(a0, .inr (1, [z0_row, z0_owedEach, .ref a0_down, z0_law])), (a0_down, .inr (2, [z0_down_formX, z0_down_formY, z0_down_foxX, z0_down_foxY, z0_down_seat, z0_down_strength, z0_down_debts, z0_down_near, z0_down_forms, .int v0_down_hares, z0_down_foxes, z0_down_safe]))] s.heap := hP
  have hl := lv_entry ([.ref a0]) (n := 3) (Nat.le_of_ble_eq_true rfl)
  rw [lg_entry_eq]
  generalize (lg_sl ([.ref a0]) ++ List.replicate (3 - (lg_sl ([.ref a0])).length) Slot.unset).toArray = ls at hl ⊢
  have hl : lv_has ls 3 [(0, .ref a0)] := hl
  have C0 : cfx p s m _ meth c cX1_endangered (some .int) wsX1_endangered RX1 3 A (dC, dI) (kT cyB cyI cyJ cyP) := ⟨hx, hb, hr, hts, hown, hlocks, hml, hA, hK, hNw⟩
  clear hAe
  obtain ⟨H, hH⟩ : ∃ H, H = s.heap := ⟨_, rfl⟩
  rw [← hH] at hP ⊢
  have hS : va_S A s.heap H [] := by rw [hH]; exact va_S.rf
  have hS := hS
  refine lv_iconst (v := 0) hx hb dX1_endangered_0 (by decide) ?_
  refine lv_istore_n (lv' := [(1, .int 0), (0, .ref a0)]) hx hb dX1_endangered_1 rfl hl (by decide) rfl (fun ls hl => ?_)
  refine lv_iconst (v := 0) hx hb dX1_endangered_2 (by decide) ?_
  refine lv_istore_n (lv' := [(2, .int 0), (1, .int 0), (0, .ref a0)]) hx hb dX1_endangered_3 rfl hl (by decide) rfl (fun ls hl => ?_)
  obtain ⟨n9, hw⟩ := hw
  exact kl_X1_endangered_4 dC dI cyB cyI cyJ cyP a0 a0_down z0_row z0_owedEach z0_law z0_down_formX z0_down_formY z0_down_foxX z0_down_foxY z0_down_seat z0_down_strength z0_down_debts z0_down_near z0_down_forms z0_down_foxes z0_down_safe v0_down_hares Q  C0 n9 _ _ _ 0 0 hP hD hS (lv_sub hl [2, 1, 0] rfl) hw
theorem ui_X1_strike_X1 : ∀ w ∈ u_ws RX1 TX1 4, w ∈ wsX1_strike := by decide +kernel
theorem ui_X1_strike_X2 : ∀ w ∈ u_ws RX2 TX2 12, w ∈ wsX1_strike := by decide +kernel
theorem uw_X1_strike_f24 : (.fieldLink RX1 24 "MarchHares$Days" "down" "LMarchHares$Down;" : Cond) ∈ wsX1_strike := by decide +kernel
theorem uw_X1_strike_f32 : (.fieldLink RX1 32 "MarchHares$Down" "hares" "I" : Cond) ∈ wsX1_strike := by decide +kernel
def wl_X1_strike_7 (v0_down_hares : Int32) (Q : Prop)  : Nat → Int32 → Int32 → Prop
  | 0, _, _ => False
  | n + 1, l1, l2 => ((v0_down_hares ≤ l2 → Q) ∧ (¬ v0_down_hares ≤ l2 → False))
set_option maxHeartbeats 4000000 in
set_option maxRecDepth 100000 in
theorem kl_X1_strike_7 {p : Program} {l : Launch} {e : Env} {s : State} {m : MethodId} {args : Array Value} {below : List Frame} {meth : Method} {c : Code} {A : Nat → Prop} (dC : Nat → ClassId) (dI : Nat → Nat → Nat) (cyB cyI cyJ cyP : ClassId) (a0 a0_down : Nat) (z0_row : Value) (z0_owedEach : Value) (z0_law : Value) (z0_down_formX : Value) (z0_down_formY : Value) (z0_down_foxX : Value) (z0_down_foxY : Value) (z0_down_seat : Value) (z0_down_strength : Value) (z0_down_debts : Value) (z0_down_near : Value) (z0_down_forms : Value) (z0_down_foxes : Value) (z0_down_safe : Value) (v0_down_hares : Int32) (Q : Prop)  (C0 : cfx p s m args meth c cX1_strike none wsX1_strike RX1 3 A (dC, dI) (kT cyB cyI cyJ cyP)) : ∀ (n : Nat) (H : Heap) (locs : List Loc) (ls : Array Slot) (l1 : Int32) (l2 : Int32), va_P (dC, dI) vwCl [(a0, .inr (1, [z0_row, z0_owedEach, .ref a0_down, z0_law])), (a0_down, .inr (2, [z0_down_formX, z0_down_formY, z0_down_foxX, z0_down_foxY, z0_down_seat, z0_down_strength, z0_down_debts, z0_down_near, z0_down_forms, .int v0_down_hares, z0_down_foxes, z0_down_safe]))] H → va_D A [(a0, .inr (1, [z0_row, z0_owedEach, .ref a0_down, z0_law])), (a0_down, .inr (2, [z0_down_formX, z0_down_formY, z0_down_foxX, z0_down_foxY, z0_down_seat, z0_down_strength, z0_down_debts, z0_down_near, z0_down_forms, .int v0_down_hares, z0_down_foxes, z0_down_safe]))] → va_S A s.heap H locs → lv_has ls 3 [(0, .ref a0), (1, .int l1), (2, .int l2)] → wl_X1_strike_7 v0_down_hares Q  n l1 l2 → W p l e (headSpec wsX1_strike ({ frames := 1, cells := 0, slots := 0, locals := 22 })).room s m args below meth c H locs 0 0 (MQ below (va_Qv (fun (_ : Unit) => Q ) (cB (dC, dI) (kT cyB cyI cyJ cyP) A (fun u : Unit => ([(a0, .inr (1, [z0_row, z0_owedEach, .ref a0_down, z0_law])), (a0_down, .inr (2, [z0_down_formX, z0_down_formY, z0_down_foxX, z0_down_foxY, z0_down_seat, z0_down_strength, z0_down_debts, z0_down_near, z0_down_forms, .int v0_down_hares, z0_down_foxes, z0_down_safe]))] : va_W))) A) args s 0 0 A) (F0 m 7 ls []) := by
  obtain ⟨hx, hb, hr, hts, hown, hlocks, hml, hA, hK, hNw⟩ := id C0
  intro n
  induction n with
  | zero => intro H locs ls l1 l2 hP hD hS hl hw; exact False.elim hw
  | succ n ih =>
    intro H locs ls l1 l2 hP hD hS hl hw
    refine lv_iload_n hx hb dX1_strike_7 rfl (lv_at hl 2 rfl) ?_
    refine lv_aload_n hx hb dX1_strike_8 rfl (lv_at hl 0 rfl) ?_
    refine va_get (D := (dC, dI)) (ci := 1) (v := .ref a0_down) (C := RX1) (T := TX1) (N := 4) hx hb hts ui_X1_strike_X1 hown hK hP 0 rfl rfl 2 (by decide) (hts _ uw_X1_strike_f24) (fun _ h9 => h9) rfl dX1_strike_9 ?_
    refine va_get (D := (dC, dI)) (ci := 2) (v := .int v0_down_hares) (C := RX2) (T := TX2) (N := 12) hx hb hts ui_X1_strike_X2 hown hK hP 1 rfl rfl 9 (by decide) (hts _ uw_X1_strike_f32) (fun _ h9 => h9) rfl dX1_strike_12 ?_
    refine lv_icmp_ge (tgt := 80) hx hb dX1_strike_15 (by decide) (fun c2 => ?_) (fun c2 => ?_)
    · have hw := hw.1 c2
      exact ((W.vret hx hb hr (fun t ht hW => ⟨⟨(), rfl, hw, by rw [ht]; exact hP, va_K.moved hW.alike hK, hD⟩, hS.F ht⟩) hS.2.2 dX1_strike_80))
    · have hw := hw.2 c2
      exact False.elim hw
def wq_X1_strike (v0_down_hares : Int32)   (Q : Prop) : Prop := wq_X1_endangered v0_down_hares   (fun r1 => (∃ k9 : Nat, wl_X1_strike_7 v0_down_hares Q  k9 r1 0))
set_option maxHeartbeats 4000000 in
set_option maxRecDepth 100000 in
theorem ck_X1_strike (l : Launch) (dC : Nat → ClassId) (dI : Nat → Nat → Nat) (cyB cyI cyJ cyP : ClassId) (a0 a0_down : Nat) (sz : Nat) (z0_row : Value) (z0_owedEach : Value) (z0_law : Value) (z0_down_formX : Value) (z0_down_formY : Value) (z0_down_foxX : Value) (z0_down_foxY : Value) (z0_down_seat : Value) (z0_down_strength : Value) (z0_down_debts : Value) (z0_down_near : Value) (z0_down_forms : Value) (z0_down_foxes : Value) (z0_down_safe : Value) (v0_down_hares : Int32)   {Q : Prop} (hw : wq_X1_strike v0_down_hares   Q) : Met l yX1_strike wsX1_strike ({ frames := 1, cells := 0, slots := 0, locals := 22 }) (va_Pc [.ref a0] (cPc (dC, dI) (kT cyB cyI cyJ cyP) [(a0, .inr (1, [z0_row, z0_owedEach, .ref a0_down, z0_law])), (a0_down, .inr (2, [z0_down_formX, z0_down_formY, z0_down_foxX, z0_down_foxY, z0_down_seat, z0_down_strength, z0_down_debts, z0_down_near, z0_down_forms, .int v0_down_hares, z0_down_foxes, z0_down_safe]))] sz)) (va_Qv (fun (_ : Unit) => Q ) (cB (dC, dI) (kT cyB cyI cyJ cyP) (va_A [(a0, .inr (1, [z0_row, z0_owedEach, .ref a0_down, z0_law])), (a0_down, .inr (2, [z0_down_formX, z0_down_formY, z0_down_foxX, z0_down_foxY, z0_down_seat, z0_down_strength, z0_down_debts, z0_down_near, z0_down_forms, .int v0_down_hares, z0_down_foxes, z0_down_safe]))] sz) (fun u : Unit => ([(a0, .inr (1, [z0_row, z0_owedEach, .ref a0_down, z0_law])), (a0_down, .inr (2, [z0_down_formX, z0_down_formY, z0_down_foxX, z0_down_foxY, z0_down_seat, z0_down_strength, z0_down_debts, z0_down_near, z0_down_forms, .int v0_down_hares, z0_down_foxes, z0_down_safe]))] : va_W))) (va_A [(a0, .inr (1, [z0_row, z0_owedEach, .ref a0_down, z0_law])), (a0_down, .inr (2, [z0_down_formX, z0_down_formY, z0_down_foxX, z0_down_foxY, z0_down_seat, z0_down_strength, z0_down_debts, z0_down_near, z0_down_forms, .int v0_down_hares, z0_down_foxes, z0_down_safe]))] sz)) 0 0 (va_A [(a0, .inr (1, [z0_row, z0_owedEach, .ref a0_down, z0_law])), (a0_down, .inr (2, [z0_down_formX, z0_down_formY, z0_down_foxX, z0_down_foxY, z0_down_seat, z0_down_strength, z0_down_debts, z0_down_near, z0_down_forms, .int v0_down_hares, z0_down_foxes, z0_down_safe]))] sz) := by
  refine Met.ofW (cc := cX1_strike) (maxL := 3) (ret := none) (by decide) rfl ?_
  intro p e s m args below meth c s₁ B hml hv
  obtain ⟨rfl, hsz, hP, hK, hD0, hNw⟩ := hv
  have hx := B.exec
  have hb := B.bytes
  have hr := B.returns
  have hts := atoms_spec (ws := wsX1_strike) B.pre
  have hown : s.vm.findClass RX1 = some m.cls := findClass_of_methodNamed B.named
  have hlocks := B.notSynchronized
  subst hsz
  have hD := hD0.self (sz := s.heap.size)
  generalize hAe : va_A [(a0, .inr (1, [z0_row, z0_owedEach, .ref a0_down, z0_law])), (a0_down, .inr (2, [z0_down_formX, z0_down_formY, z0_down_foxX, z0_down_foxY, z0_down_seat, z0_down_strength, z0_down_debts, z0_down_near, z0_down_forms, .int v0_down_hares, z0_down_foxes, z0_down_safe]))] s.heap.size = A at hD ⊢
  have hA : ∀ q : Nat, s.heap.size ≤ q → A q := fun q h => by rw [← hAe]; exact Or.inr h
  have hS : va_S A s.heap s.heap [] := va_S.rf
  have hP : va_P (dC, dI) vwCl [(a0, .inr (1, [z0_row, z0_owedEach, .ref a0_down, z0_law])), (a0_down, .inr (2, [z0_down_formX, z0_down_formY, z0_down_foxX, z0_down_foxY, z0_down_seat, z0_down_strength, z0_down_debts, z0_down_near, z0_down_forms, .int v0_down_hares, z0_down_foxes, z0_down_safe]))] s.heap := hP
  have hl := lv_entry ([.ref a0]) (n := 3) (Nat.le_of_ble_eq_true rfl)
  rw [lg_entry_eq]
  generalize (lg_sl ([.ref a0]) ++ List.replicate (3 - (lg_sl ([.ref a0])).length) Slot.unset).toArray = ls at hl ⊢
  have hl : lv_has ls 3 [(0, .ref a0)] := hl
  have C0 : cfx p s m _ meth c cX1_strike none wsX1_strike RX1 3 A (dC, dI) (kT cyB cyI cyJ cyP) := ⟨hx, hb, hr, hts, hown, hlocks, hml, hA, hK, hNw⟩
  clear hAe
  obtain ⟨H, hH⟩ : ∃ H, H = s.heap := ⟨_, rfl⟩
  rw [← hH] at hP ⊢
  have hS : va_S A s.heap H [] := by rw [hH]; exact va_S.rf
  have hS := hS
  refine lv_aload_n hx hb dX1_strike_0 rfl (lv_at hl 0 rfl) ?_
  have hPc := hP.sub (ws' := [(a0, .inr (1, [z0_row, z0_owedEach, .ref a0_down, z0_law])), (a0_down, .inr (2, [z0_down_formX, z0_down_formY, z0_down_foxX, z0_down_foxY, z0_down_seat, z0_down_strength, z0_down_debts, z0_down_near, z0_down_forms, .int v0_down_hares, z0_down_foxes, z0_down_safe]))]) [0, 1] rfl
  have hDc := hD.sub (ws' := [(a0, .inr (1, [z0_row, z0_owedEach, .ref a0_down, z0_law])), (a0_down, .inr (2, [z0_down_formX, z0_down_formY, z0_down_foxX, z0_down_foxY, z0_down_seat, z0_down_strength, z0_down_debts, z0_down_near, z0_down_forms, .int v0_down_hares, z0_down_foxes, z0_down_safe]))]) [0, 1] (by decide) rfl
  have hFc := va_free (wc := [(a0, .inr (1, [z0_row, z0_owedEach, .ref a0_down, z0_law])), (a0_down, .inr (2, [z0_down_formX, z0_down_formY, z0_down_foxX, z0_down_foxY, z0_down_seat, z0_down_strength, z0_down_debts, z0_down_near, z0_down_forms, .int v0_down_hares, z0_down_foxes, z0_down_safe]))]) hD hS hA [0, 1] rfl
  refine va_calli (va_runV (As := []) (rest := []) ⟨hx, hb, hml, hown, hts⟩ (ck_X1_endangered l dC dI cyB cyI cyJ cyP a0 a0_down H.size (z0_row) (z0_owedEach) (z0_law) (z0_down_formX) (z0_down_formY) (z0_down_foxX) (z0_down_foxY) (z0_down_seat) (z0_down_strength) (z0_down_debts) (z0_down_near) (z0_down_forms) (z0_down_foxes) (z0_down_safe) v0_down_hares   hw) (cwV 0 hts gX1_strike_X1_endangered rfl rfl rfl (by decide +kernel) ⟨Nat.le_of_ble_eq_true rfl, Nat.le_of_ble_eq_true rfl⟩) ⟨cPc_blind, va_recv hK hPc (ci := 1) (q0 := 0) rfl rfl, cPc_pre hPc hK hDc hNw⟩ rfl rfl hl.1 rfl (lv_room (Nat.le_of_ble_eq_true rfl)) dX1_strike_1 ⟨Nat.le_of_ble_eq_true rfl, Nat.le_of_ble_eq_true rfl⟩) hS (fun q _ h => hFc q h) hFc (fun r1 u t H1 locs ht hvm hw hB hz1 hk1 hS => ?_)
  obtain ⟨hP1, hK1, hD1⟩ := hB
  rw [ht] at hP1
  obtain ⟨hP, hD⟩ := va_join (wr := []) (w1 := [(a0, .inr (1, [z0_row, z0_owedEach, .ref a0_down, z0_law])), (a0_down, .inr (2, [z0_down_formX, z0_down_formY, z0_down_foxX, z0_down_foxY, z0_down_seat, z0_down_strength, z0_down_debts, z0_down_near, z0_down_forms, .int v0_down_hares, z0_down_foxes, z0_down_safe]))]) hP hD [0, 1] [] rfl rfl (by decide) (by decide) hk1 hFc hP1 hD1
  have hP : va_P (dC, dI) vwCl [(a0, .inr (1, [z0_row, z0_owedEach, .ref a0_down, z0_law])), (a0_down, .inr (2, [z0_down_formX, z0_down_formY, z0_down_foxX, z0_down_foxY, z0_down_seat, z0_down_strength, z0_down_debts, z0_down_near, z0_down_forms, .int v0_down_hares, z0_down_foxes, z0_down_safe]))] H1 := hP
  have hD : va_D A [(a0, .inr (1, [z0_row, z0_owedEach, .ref a0_down, z0_law])), (a0_down, .inr (2, [z0_down_formX, z0_down_formY, z0_down_foxX, z0_down_foxY, z0_down_seat, z0_down_strength, z0_down_debts, z0_down_near, z0_down_forms, .int v0_down_hares, z0_down_foxes, z0_down_safe]))] := hD
  generalize H1 = H at hP hS ⊢
  refine lv_istore_n (lv' := [(1, .int r1), (0, .ref a0)]) hx hb dX1_strike_4 rfl hl (by decide) rfl (fun ls hl => ?_)
  refine lv_iconst (v := 0) hx hb dX1_strike_5 (by decide) ?_
  refine lv_istore_n (lv' := [(2, .int 0), (1, .int r1), (0, .ref a0)]) hx hb dX1_strike_6 rfl hl (by decide) rfl (fun ls hl => ?_)
  obtain ⟨n9, hw⟩ := hw
  exact kl_X1_strike_7 dC dI cyB cyI cyJ cyP a0 a0_down z0_row z0_owedEach z0_law z0_down_formX z0_down_formY z0_down_foxX z0_down_foxY z0_down_seat z0_down_strength z0_down_debts z0_down_near z0_down_forms z0_down_foxes z0_down_safe v0_down_hares Q  C0 n9 _ _ _ r1 0 hP hD hS (lv_sub hl [2, 1, 0] rfl) hw
theorem ui_X1_passDay_X1 : ∀ w ∈ u_ws RX1 TX1 4, w ∈ wsX1_passDay := by decide +kernel
theorem ui_X1_passDay_X2 : ∀ w ∈ u_ws RX2 TX2 12, w ∈ wsX1_passDay := by decide +kernel
theorem uw_X1_passDay_f13 : (.fieldLink RX1 13 "MarchHares$Days" "row" "[I" : Cond) ∈ wsX1_passDay := by decide +kernel
theorem uw_X1_passDay_f24 : (.fieldLink RX1 24 "MarchHares$Days" "down" "LMarchHares$Down;" : Cond) ∈ wsX1_passDay := by decide +kernel
theorem uw_X1_passDay_f32 : (.fieldLink RX1 32 "MarchHares$Down" "hares" "I" : Cond) ∈ wsX1_passDay := by decide +kernel
def wl_X1_passDay_2 (v0_down_hares : Int32) (Q : (Nat → Int32) → Prop)  : Nat → (Nat → Int32) → Int32 → Prop
  | 0, _, _ => False
  | n + 1, f0_row, l1 => ((v0_down_hares ≤ l1 → ∀ f2 : Nat → Int32, f2 = upd f0_row (3 : Int32).toNatClampNeg 0 → ∀ x3 : Int32, x3 = f2 (0 : Int32).toNatClampNeg → ∀ x4 : Int32, x4 = x3 + 1 → ∀ f5 : Nat → Int32, f5 = upd f2 (0 : Int32).toNatClampNeg x4 → ∀ x6 : Int32, x6 = f5 (0 : Int32).toNatClampNeg → ((x6 ≤ 31 → (Q f5)) ∧ (¬ x6 ≤ 31 → wq_X1_strike v0_down_hares   (∀ f8 : Nat → Int32, f8 = upd f5 (0 : Int32).toNatClampNeg 1 → ∀ x9 : Int32, x9 = f8 (1 : Int32).toNatClampNeg → ∀ x10 : Int32, x10 = x9 + 1 → ∀ f11 : Nat → Int32, f11 = upd f8 (1 : Int32).toNatClampNeg x10 → (Q f11))))) ∧ (¬ v0_down_hares ≤ l1 → False))
set_option maxHeartbeats 4000000 in
set_option maxRecDepth 100000 in
theorem kl_X1_passDay_2 {p : Program} {l : Launch} {e : Env} {s : State} {m : MethodId} {args : Array Value} {below : List Frame} {meth : Method} {c : Code} {A : Nat → Prop} (dC : Nat → ClassId) (dI : Nat → Nat → Nat) (cyB cyI cyJ cyP : ClassId) (a0 a0_down a0_row : Nat) (z0_owedEach : Value) (z0_law : Value) (z0_down_formX : Value) (z0_down_formY : Value) (z0_down_foxX : Value) (z0_down_foxY : Value) (z0_down_seat : Value) (z0_down_strength : Value) (z0_down_debts : Value) (z0_down_near : Value) (z0_down_forms : Value) (z0_down_foxes : Value) (z0_down_safe : Value) (v0_down_hares : Int32) (Q : (Nat → Int32) → Prop)  (C0 : cfx p s m args meth c cX1_passDay none wsX1_passDay RX1 2 A (dC, dI) (kT cyB cyI cyJ cyP)) : ∀ (n : Nat) (H : Heap) (locs : List Loc) (ls : Array Slot) (f0_row : Nat → Int32) (l1 : Int32), va_P (dC, dI) vwCl [(a0, .inr (1, [.ref a0_row, z0_owedEach, .ref a0_down, z0_law])), (a0_down, .inr (2, [z0_down_formX, z0_down_formY, z0_down_foxX, z0_down_foxY, z0_down_seat, z0_down_strength, z0_down_debts, z0_down_near, z0_down_forms, .int v0_down_hares, z0_down_foxes, z0_down_safe])), (a0_row, .inl (cyI, 64, .inl f0_row))] H → va_D A [(a0, .inr (1, [.ref a0_row, z0_owedEach, .ref a0_down, z0_law])), (a0_down, .inr (2, [z0_down_formX, z0_down_formY, z0_down_foxX, z0_down_foxY, z0_down_seat, z0_down_strength, z0_down_debts, z0_down_near, z0_down_forms, .int v0_down_hares, z0_down_foxes, z0_down_safe])), (a0_row, .inl (cyI, 64, .inl f0_row))] → va_S A s.heap H locs → lv_has ls 2 [(0, .ref a0), (1, .int l1)] → wl_X1_passDay_2 v0_down_hares Q  n f0_row l1 → W p l e (headSpec wsX1_passDay ({ frames := 2, cells := 0, slots := 0, locals := 44 })).room s m args below meth c H locs 0 0 (MQ below (va_Qv (fun (u : (Nat → Int32)) => Q u) (cB (dC, dI) (kT cyB cyI cyJ cyP) A (fun u : (Nat → Int32) => ([(a0, .inr (1, [.ref a0_row, z0_owedEach, .ref a0_down, z0_law])), (a0_down, .inr (2, [z0_down_formX, z0_down_formY, z0_down_foxX, z0_down_foxY, z0_down_seat, z0_down_strength, z0_down_debts, z0_down_near, z0_down_forms, .int v0_down_hares, z0_down_foxes, z0_down_safe])), (a0_row, .inl (cyI, 64, .inl u))] : va_W))) A) args s 0 0 A) (F0 m 2 ls []) := by
  obtain ⟨hx, hb, hr, hts, hown, hlocks, hml, hA, hK, hNw⟩ := id C0
  intro n
  induction n with
  | zero => intro H locs ls f0_row l1 hP hD hS hl hw; exact False.elim hw
  | succ n ih =>
    intro H locs ls f0_row l1 hP hD hS hl hw
    refine lv_iload_n hx hb dX1_passDay_2 rfl (lv_at hl 1 rfl) ?_
    refine lv_aload_n hx hb dX1_passDay_3 rfl (lv_at hl 0 rfl) ?_
    refine va_get (D := (dC, dI)) (ci := 1) (v := .ref a0_down) (C := RX1) (T := TX1) (N := 4) hx hb hts ui_X1_passDay_X1 hown hK hP 0 rfl rfl 2 (by decide) (hts _ uw_X1_passDay_f24) (fun _ h9 => h9) rfl dX1_passDay_4 ?_
    refine va_get (D := (dC, dI)) (ci := 2) (v := .int v0_down_hares) (C := RX2) (T := TX2) (N := 12) hx hb hts ui_X1_passDay_X2 hown hK hP 1 rfl rfl 9 (by decide) (hts _ uw_X1_passDay_f32) (fun _ h9 => h9) rfl dX1_passDay_7 ?_
    refine lv_icmp_ge (tgt := 52) hx hb dX1_passDay_10 (by decide) (fun c1 => ?_) (fun c1 => ?_)
    · have hw := hw.1 c1
      refine lv_aload_n hx hb dX1_passDay_52 rfl (lv_at hl 0 rfl) ?_
      refine va_get (D := (dC, dI)) (ci := 1) (v := .ref a0_row) (C := RX1) (T := TX1) (N := 4) hx hb hts ui_X1_passDay_X1 hown hK hP 0 rfl rfl 0 (by decide) (hts _ uw_X1_passDay_f13) (fun _ h9 => h9) rfl dX1_passDay_53 ?_
      refine lv_iconst (v := 3) hx hb dX1_passDay_56 (by decide) ?_
      refine lv_iconst (v := 0) hx hb dX1_passDay_57 (by decide) ?_
      refine va_iast hx hb hK hP hD hS 2 1 rfl rfl (vin (by decide)) dX1_passDay_58 (fun H locs hP hD hS => ?_)
      obtain ⟨f2, ef2⟩ : ∃ y : Nat → Int32, y = upd f0_row (3 : Int32).toNatClampNeg 0 := ⟨_, rfl⟩
      have hw := hw f2 ef2
      have hP : va_P (dC, dI) vwCl [(a0, .inr (1, [.ref a0_row, z0_owedEach, .ref a0_down, z0_law])), (a0_down, .inr (2, [z0_down_formX, z0_down_formY, z0_down_foxX, z0_down_foxY, z0_down_seat, z0_down_strength, z0_down_debts, z0_down_near, z0_down_forms, .int v0_down_hares, z0_down_foxes, z0_down_safe])), (a0_row, .inl (cyI, 64, .inl f2))] H := by rw [ef2]; exact hP
      have hD : va_D A [(a0, .inr (1, [.ref a0_row, z0_owedEach, .ref a0_down, z0_law])), (a0_down, .inr (2, [z0_down_formX, z0_down_formY, z0_down_foxX, z0_down_foxY, z0_down_seat, z0_down_strength, z0_down_debts, z0_down_near, z0_down_forms, .int v0_down_hares, z0_down_foxes, z0_down_safe])), (a0_row, .inl (cyI, 64, .inl f2))] := by rw [ef2]; exact hD
      refine lv_aload_n hx hb dX1_passDay_59 rfl (lv_at hl 0 rfl) ?_
      refine va_get (D := (dC, dI)) (ci := 1) (v := .ref a0_row) (C := RX1) (T := TX1) (N := 4) hx hb hts ui_X1_passDay_X1 hown hK hP 0 rfl rfl 0 (by decide) (hts _ uw_X1_passDay_f13) (fun _ h9 => h9) rfl dX1_passDay_60 ?_
      refine lv_iconst (v := 0) hx hb dX1_passDay_63 (by decide) ?_
      refine lv_dup2_11 hx hb dX1_passDay_64 rfl rfl ?_
      refine va_iald hx hb hK hP 2 1 rfl rfl (vin (by decide)) dX1_passDay_65 ?_
      refine lv_topi (fun x3 ex3 => ?_)
      have hw := hw x3 ex3
      refine lv_iconst (v := 1) hx hb dX1_passDay_66 (by decide) ?_
      refine lv_iadd hx hb dX1_passDay_67 ?_
      refine lv_topi (fun x4 ex4 => ?_)
      have hw := hw x4 ex4
      refine va_iast hx hb hK hP hD hS 2 1 rfl rfl (vin (by decide)) dX1_passDay_68 (fun H locs hP hD hS => ?_)
      obtain ⟨f5, ef5⟩ : ∃ y : Nat → Int32, y = upd f2 (0 : Int32).toNatClampNeg x4 := ⟨_, rfl⟩
      have hw := hw f5 ef5
      have hP : va_P (dC, dI) vwCl [(a0, .inr (1, [.ref a0_row, z0_owedEach, .ref a0_down, z0_law])), (a0_down, .inr (2, [z0_down_formX, z0_down_formY, z0_down_foxX, z0_down_foxY, z0_down_seat, z0_down_strength, z0_down_debts, z0_down_near, z0_down_forms, .int v0_down_hares, z0_down_foxes, z0_down_safe])), (a0_row, .inl (cyI, 64, .inl f5))] H := by rw [ef5]; exact hP
      have hD : va_D A [(a0, .inr (1, [.ref a0_row, z0_owedEach, .ref a0_down, z0_law])), (a0_down, .inr (2, [z0_down_formX, z0_down_formY, z0_down_foxX, z0_down_foxY, z0_down_seat, z0_down_strength, z0_down_debts, z0_down_near, z0_down_forms, .int v0_down_hares, z0_down_foxes, z0_down_safe])), (a0_row, .inl (cyI, 64, .inl f5))] := by rw [ef5]; exact hD
      refine lv_aload_n hx hb dX1_passDay_69 rfl (lv_at hl 0 rfl) ?_
      refine va_get (D := (dC, dI)) (ci := 1) (v := .ref a0_row) (C := RX1) (T := TX1) (N := 4) hx hb hts ui_X1_passDay_X1 hown hK hP 0 rfl rfl 0 (by decide) (hts _ uw_X1_passDay_f13) (fun _ h9 => h9) rfl dX1_passDay_70 ?_
      refine lv_iconst (v := 0) hx hb dX1_passDay_73 (by decide) ?_
      refine va_iald hx hb hK hP 2 1 rfl rfl (vin (by decide)) dX1_passDay_74 ?_
      refine lv_topi (fun x6 ex6 => ?_)
      have hw := hw x6 ex6
      refine lv_bipush (v := 31) hx hb dX1_passDay_75 (by decide) ?_
      refine lv_icmp_le (tgt := 101) hx hb dX1_passDay_77 (by decide) (fun c7 => ?_) (fun c7 => ?_)
      · have hw := hw.1 c7
        exact ((W.vret hx hb hr (fun t ht hW => ⟨⟨(f5), rfl, hw, by rw [ht]; exact hP, va_K.moved hW.alike hK, hD⟩, hS.F ht⟩) hS.2.2 dX1_passDay_101))
      · have hw := hw.2 c7
        refine lv_aload_n hx hb dX1_passDay_80 rfl (lv_at hl 0 rfl) ?_
        have hPc := hP.sub (ws' := [(a0, .inr (1, [.ref a0_row, z0_owedEach, .ref a0_down, z0_law])), (a0_down, .inr (2, [z0_down_formX, z0_down_formY, z0_down_foxX, z0_down_foxY, z0_down_seat, z0_down_strength, z0_down_debts, z0_down_near, z0_down_forms, .int v0_down_hares, z0_down_foxes, z0_down_safe]))]) [0, 1] rfl
        have hDc := hD.sub (ws' := [(a0, .inr (1, [.ref a0_row, z0_owedEach, .ref a0_down, z0_law])), (a0_down, .inr (2, [z0_down_formX, z0_down_formY, z0_down_foxX, z0_down_foxY, z0_down_seat, z0_down_strength, z0_down_debts, z0_down_near, z0_down_forms, .int v0_down_hares, z0_down_foxes, z0_down_safe]))]) [0, 1] (by decide) rfl
        have hFc := va_free (wc := [(a0, .inr (1, [.ref a0_row, z0_owedEach, .ref a0_down, z0_law])), (a0_down, .inr (2, [z0_down_formX, z0_down_formY, z0_down_foxX, z0_down_foxY, z0_down_seat, z0_down_strength, z0_down_debts, z0_down_near, z0_down_forms, .int v0_down_hares, z0_down_foxes, z0_down_safe]))]) hD hS hA [0, 1] rfl
        refine va_callv (va_runV (As := []) (rest := []) ⟨hx, hb, hml, hown, hts⟩ (ck_X1_strike l dC dI cyB cyI cyJ cyP a0 a0_down H.size (.ref a0_row) (z0_owedEach) (z0_law) (z0_down_formX) (z0_down_formY) (z0_down_foxX) (z0_down_foxY) (z0_down_seat) (z0_down_strength) (z0_down_debts) (z0_down_near) (z0_down_forms) (z0_down_foxes) (z0_down_safe) v0_down_hares   hw) (cwV 0 hts gX1_passDay_X1_strike rfl rfl rfl (by decide +kernel) ⟨Nat.le_of_ble_eq_true rfl, Nat.le_of_ble_eq_true rfl⟩) ⟨cPc_blind, va_recv hK hPc (ci := 1) (q0 := 0) rfl rfl, cPc_pre hPc hK hDc hNw⟩ rfl rfl hl.1 rfl (lv_room (Nat.le_of_ble_eq_true rfl)) dX1_passDay_81 ⟨Nat.le_of_ble_eq_true rfl, Nat.le_of_ble_eq_true rfl⟩) hS (fun q _ h => hFc q h) hFc (fun u t H1 locs ht hvm hw hB hz1 hk1 hS => ?_)
        obtain ⟨hP1, hK1, hD1⟩ := hB
        rw [ht] at hP1
        obtain ⟨hP, hD⟩ := va_join (wr := [(a0_row, .inl (cyI, 64, .inl f5))]) (w1 := [(a0, .inr (1, [.ref a0_row, z0_owedEach, .ref a0_down, z0_law])), (a0_down, .inr (2, [z0_down_formX, z0_down_formY, z0_down_foxX, z0_down_foxY, z0_down_seat, z0_down_strength, z0_down_debts, z0_down_near, z0_down_forms, .int v0_down_hares, z0_down_foxes, z0_down_safe]))]) hP hD [0, 1] [2] rfl rfl (by decide) (by decide) hk1 hFc hP1 hD1
        have hP : va_P (dC, dI) vwCl [(a0, .inr (1, [.ref a0_row, z0_owedEach, .ref a0_down, z0_law])), (a0_down, .inr (2, [z0_down_formX, z0_down_formY, z0_down_foxX, z0_down_foxY, z0_down_seat, z0_down_strength, z0_down_debts, z0_down_near, z0_down_forms, .int v0_down_hares, z0_down_foxes, z0_down_safe])), (a0_row, .inl (cyI, 64, .inl f5))] H1 := hP.sub [1, 2, 0] rfl
        have hD : va_D A [(a0, .inr (1, [.ref a0_row, z0_owedEach, .ref a0_down, z0_law])), (a0_down, .inr (2, [z0_down_formX, z0_down_formY, z0_down_foxX, z0_down_foxY, z0_down_seat, z0_down_strength, z0_down_debts, z0_down_near, z0_down_forms, .int v0_down_hares, z0_down_foxes, z0_down_safe])), (a0_row, .inl (cyI, 64, .inl f5))] := hD.sub [1, 2, 0] (by decide) rfl
        generalize H1 = H at hP hS ⊢
        refine lv_aload_n hx hb dX1_passDay_84 rfl (lv_at hl 0 rfl) ?_
        refine va_get (D := (dC, dI)) (ci := 1) (v := .ref a0_row) (C := RX1) (T := TX1) (N := 4) hx hb hts ui_X1_passDay_X1 hown hK hP 0 rfl rfl 0 (by decide) (hts _ uw_X1_passDay_f13) (fun _ h9 => h9) rfl dX1_passDay_85 ?_
        refine lv_iconst (v := 0) hx hb dX1_passDay_88 (by decide) ?_
        refine lv_iconst (v := 1) hx hb dX1_passDay_89 (by decide) ?_
        refine va_iast hx hb hK hP hD hS 2 1 rfl rfl (vin (by decide)) dX1_passDay_90 (fun H locs hP hD hS => ?_)
        obtain ⟨f8, ef8⟩ : ∃ y : Nat → Int32, y = upd f5 (0 : Int32).toNatClampNeg 1 := ⟨_, rfl⟩
        have hw := hw f8 ef8
        have hP : va_P (dC, dI) vwCl [(a0, .inr (1, [.ref a0_row, z0_owedEach, .ref a0_down, z0_law])), (a0_down, .inr (2, [z0_down_formX, z0_down_formY, z0_down_foxX, z0_down_foxY, z0_down_seat, z0_down_strength, z0_down_debts, z0_down_near, z0_down_forms, .int v0_down_hares, z0_down_foxes, z0_down_safe])), (a0_row, .inl (cyI, 64, .inl f8))] H := by rw [ef8]; exact hP
        have hD : va_D A [(a0, .inr (1, [.ref a0_row, z0_owedEach, .ref a0_down, z0_law])), (a0_down, .inr (2, [z0_down_formX, z0_down_formY, z0_down_foxX, z0_down_foxY, z0_down_seat, z0_down_strength, z0_down_debts, z0_down_near, z0_down_forms, .int v0_down_hares, z0_down_foxes, z0_down_safe])), (a0_row, .inl (cyI, 64, .inl f8))] := by rw [ef8]; exact hD
        refine lv_aload_n hx hb dX1_passDay_91 rfl (lv_at hl 0 rfl) ?_
        refine va_get (D := (dC, dI)) (ci := 1) (v := .ref a0_row) (C := RX1) (T := TX1) (N := 4) hx hb hts ui_X1_passDay_X1 hown hK hP 0 rfl rfl 0 (by decide) (hts _ uw_X1_passDay_f13) (fun _ h9 => h9) rfl dX1_passDay_92 ?_
        refine lv_iconst (v := 1) hx hb dX1_passDay_95 (by decide) ?_
        refine lv_dup2_11 hx hb dX1_passDay_96 rfl rfl ?_
        refine va_iald hx hb hK hP 2 1 rfl rfl (vin (by decide)) dX1_passDay_97 ?_
        refine lv_topi (fun x9 ex9 => ?_)
        have hw := hw x9 ex9
        refine lv_iconst (v := 1) hx hb dX1_passDay_98 (by decide) ?_
        refine lv_iadd hx hb dX1_passDay_99 ?_
        refine lv_topi (fun x10 ex10 => ?_)
        have hw := hw x10 ex10
        refine va_iast hx hb hK hP hD hS 2 1 rfl rfl (vin (by decide)) dX1_passDay_100 (fun H locs hP hD hS => ?_)
        obtain ⟨f11, ef11⟩ : ∃ y : Nat → Int32, y = upd f8 (1 : Int32).toNatClampNeg x10 := ⟨_, rfl⟩
        have hw := hw f11 ef11
        have hP : va_P (dC, dI) vwCl [(a0, .inr (1, [.ref a0_row, z0_owedEach, .ref a0_down, z0_law])), (a0_down, .inr (2, [z0_down_formX, z0_down_formY, z0_down_foxX, z0_down_foxY, z0_down_seat, z0_down_strength, z0_down_debts, z0_down_near, z0_down_forms, .int v0_down_hares, z0_down_foxes, z0_down_safe])), (a0_row, .inl (cyI, 64, .inl f11))] H := by rw [ef11]; exact hP
        have hD : va_D A [(a0, .inr (1, [.ref a0_row, z0_owedEach, .ref a0_down, z0_law])), (a0_down, .inr (2, [z0_down_formX, z0_down_formY, z0_down_foxX, z0_down_foxY, z0_down_seat, z0_down_strength, z0_down_debts, z0_down_near, z0_down_forms, .int v0_down_hares, z0_down_foxes, z0_down_safe])), (a0_row, .inl (cyI, 64, .inl f11))] := by rw [ef11]; exact hD
        exact ((W.vret hx hb hr (fun t ht hW => ⟨⟨(f11), rfl, hw, by rw [ht]; exact hP, va_K.moved hW.alike hK, hD⟩, hS.F ht⟩) hS.2.2 dX1_passDay_101))
    · have hw := hw.2 c1
      exact False.elim hw
def wq_X1_passDay (v0_down_hares : Int32) (f0_row : Nat → Int32)  (Q : (Nat → Int32) → Prop) : Prop := (∃ k9 : Nat, wl_X1_passDay_2 v0_down_hares Q  k9 f0_row 0)
set_option maxHeartbeats 4000000 in
set_option maxRecDepth 100000 in
theorem ck_X1_passDay (l : Launch) (dC : Nat → ClassId) (dI : Nat → Nat → Nat) (cyB cyI cyJ cyP : ClassId) (a0 a0_down a0_row : Nat) (sz : Nat) (z0_owedEach : Value) (z0_law : Value) (z0_down_formX : Value) (z0_down_formY : Value) (z0_down_foxX : Value) (z0_down_foxY : Value) (z0_down_seat : Value) (z0_down_strength : Value) (z0_down_debts : Value) (z0_down_near : Value) (z0_down_forms : Value) (z0_down_foxes : Value) (z0_down_safe : Value) (v0_down_hares : Int32) (f0_row : Nat → Int32)  {Q : (Nat → Int32) → Prop} (hw : wq_X1_passDay v0_down_hares f0_row  Q) : Met l yX1_passDay wsX1_passDay ({ frames := 2, cells := 0, slots := 0, locals := 44 }) (va_Pc [.ref a0] (cPc (dC, dI) (kT cyB cyI cyJ cyP) [(a0, .inr (1, [.ref a0_row, z0_owedEach, .ref a0_down, z0_law])), (a0_down, .inr (2, [z0_down_formX, z0_down_formY, z0_down_foxX, z0_down_foxY, z0_down_seat, z0_down_strength, z0_down_debts, z0_down_near, z0_down_forms, .int v0_down_hares, z0_down_foxes, z0_down_safe])), (a0_row, .inl (cyI, 64, .inl f0_row))] sz)) (va_Qv (fun (u : (Nat → Int32)) => Q u) (cB (dC, dI) (kT cyB cyI cyJ cyP) (va_A [(a0, .inr (1, [.ref a0_row, z0_owedEach, .ref a0_down, z0_law])), (a0_down, .inr (2, [z0_down_formX, z0_down_formY, z0_down_foxX, z0_down_foxY, z0_down_seat, z0_down_strength, z0_down_debts, z0_down_near, z0_down_forms, .int v0_down_hares, z0_down_foxes, z0_down_safe])), (a0_row, .inl (cyI, 64, .inl f0_row))] sz) (fun u : (Nat → Int32) => ([(a0, .inr (1, [.ref a0_row, z0_owedEach, .ref a0_down, z0_law])), (a0_down, .inr (2, [z0_down_formX, z0_down_formY, z0_down_foxX, z0_down_foxY, z0_down_seat, z0_down_strength, z0_down_debts, z0_down_near, z0_down_forms, .int v0_down_hares, z0_down_foxes, z0_down_safe])), (a0_row, .inl (cyI, 64, .inl u))] : va_W))) (va_A [(a0, .inr (1, [.ref a0_row, z0_owedEach, .ref a0_down, z0_law])), (a0_down, .inr (2, [z0_down_formX, z0_down_formY, z0_down_foxX, z0_down_foxY, z0_down_seat, z0_down_strength, z0_down_debts, z0_down_near, z0_down_forms, .int v0_down_hares, z0_down_foxes, z0_down_safe])), (a0_row, .inl (cyI, 64, .inl f0_row))] sz)) 0 0 (va_A [(a0, .inr (1, [.ref a0_row, z0_owedEach, .ref a0_down, z0_law])), (a0_down, .inr (2, [z0_down_formX, z0_down_formY, z0_down_foxX, z0_down_foxY, z0_down_seat, z0_down_strength, z0_down_debts, z0_down_near, z0_down_forms, .int v0_down_hares, z0_down_foxes, z0_down_safe])), (a0_row, .inl (cyI, 64, .inl f0_row))] sz) := by
  refine Met.ofW (cc := cX1_passDay) (maxL := 2) (ret := none) (by decide) rfl ?_
  intro p e s m args below meth c s₁ B hml hv
  obtain ⟨rfl, hsz, hP, hK, hD0, hNw⟩ := hv
  have hx := B.exec
  have hb := B.bytes
  have hr := B.returns
  have hts := atoms_spec (ws := wsX1_passDay) B.pre
  have hown : s.vm.findClass RX1 = some m.cls := findClass_of_methodNamed B.named
  have hlocks := B.notSynchronized
  subst hsz
  have hD := hD0.self (sz := s.heap.size)
  generalize hAe : va_A [(a0, .inr (1, [.ref a0_row, z0_owedEach, .ref a0_down, z0_law])), (a0_down, .inr (2, [z0_down_formX, z0_down_formY, z0_down_foxX, z0_down_foxY, z0_down_seat, z0_down_strength, z0_down_debts, z0_down_near, z0_down_forms, .int v0_down_hares, z0_down_foxes, z0_down_safe])), (a0_row, .inl (cyI, 64, .inl f0_row))] s.heap.size = A at hD ⊢
  have hA : ∀ q : Nat, s.heap.size ≤ q → A q := fun q h => by rw [← hAe]; exact Or.inr h
  have hS : va_S A s.heap s.heap [] := va_S.rf
  have hP : va_P (dC, dI) vwCl [(a0, .inr (1, [.ref a0_row, z0_owedEach, .ref a0_down, z0_law])), (a0_down, .inr (2, [z0_down_formX, z0_down_formY, z0_down_foxX, z0_down_foxY, z0_down_seat, z0_down_strength, z0_down_debts, z0_down_near, z0_down_forms, .int v0_down_hares, z0_down_foxes, z0_down_safe])), (a0_row, .inl (cyI, 64, .inl f0_row))] s.heap := hP
  have hl := lv_entry ([.ref a0]) (n := 2) (Nat.le_of_ble_eq_true rfl)
  rw [lg_entry_eq]
  generalize (lg_sl ([.ref a0]) ++ List.replicate (2 - (lg_sl ([.ref a0])).length) Slot.unset).toArray = ls at hl ⊢
  have hl : lv_has ls 2 [(0, .ref a0)] := hl
  have C0 : cfx p s m _ meth c cX1_passDay none wsX1_passDay RX1 2 A (dC, dI) (kT cyB cyI cyJ cyP) := ⟨hx, hb, hr, hts, hown, hlocks, hml, hA, hK, hNw⟩
  clear hAe
  obtain ⟨H, hH⟩ : ∃ H, H = s.heap := ⟨_, rfl⟩
  rw [← hH] at hP ⊢
  have hS : va_S A s.heap H [] := by rw [hH]; exact va_S.rf
  have hS := hS
  refine lv_iconst (v := 0) hx hb dX1_passDay_0 (by decide) ?_
  refine lv_istore_n (lv' := [(1, .int 0), (0, .ref a0)]) hx hb dX1_passDay_1 rfl hl (by decide) rfl (fun ls hl => ?_)
  obtain ⟨n9, hw⟩ := hw
  exact kl_X1_passDay_2 dC dI cyB cyI cyJ cyP a0 a0_down a0_row z0_owedEach z0_law z0_down_formX z0_down_formY z0_down_foxX z0_down_foxY z0_down_seat z0_down_strength z0_down_debts z0_down_near z0_down_forms z0_down_foxes z0_down_safe v0_down_hares Q  C0 n9 _ _ _ f0_row 0 hP hD hS (lv_sub hl [1, 0] rfl) hw
theorem ui_X1_day_X1 : ∀ w ∈ u_ws RX1 TX1 4, w ∈ wsX1_day := by decide +kernel
theorem uw_X1_day_f13 : (.fieldLink RX1 13 "MarchHares$Days" "row" "[I" : Cond) ∈ wsX1_day := by decide +kernel
def wq_X1_day (f0_row : Nat → Int32)   (Q : Int32 → Prop) : Prop := ∀ x1 : Int32, x1 = f0_row (0 : Int32).toNatClampNeg → (Q x1)
set_option maxHeartbeats 4000000 in
set_option maxRecDepth 100000 in
theorem ck_X1_day (l : Launch) (dC : Nat → ClassId) (dI : Nat → Nat → Nat) (cyB cyI cyJ cyP : ClassId) (a0 a0_row : Nat) (sz : Nat) (z0_owedEach : Value) (z0_down : Value) (z0_law : Value) (f0_row : Nat → Int32)   {Q : Int32 → Prop} (hw : wq_X1_day f0_row   Q) : Met l yX1_day wsX1_day ({ frames := 0, cells := 0, slots := 0, locals := 0 }) (va_Pc [.ref a0] (cPc (dC, dI) (kT cyB cyI cyJ cyP) [(a0, .inr (1, [.ref a0_row, z0_owedEach, z0_down, z0_law])), (a0_row, .inl (cyI, 64, .inl f0_row))] sz)) (va_Qi (fun (r : Int32) (_ : Unit) => Q r ) (cB (dC, dI) (kT cyB cyI cyJ cyP) (va_A [(a0, .inr (1, [.ref a0_row, z0_owedEach, z0_down, z0_law])), (a0_row, .inl (cyI, 64, .inl f0_row))] sz) (fun u : Unit => ([(a0, .inr (1, [.ref a0_row, z0_owedEach, z0_down, z0_law])), (a0_row, .inl (cyI, 64, .inl f0_row))] : va_W))) (va_A [(a0, .inr (1, [.ref a0_row, z0_owedEach, z0_down, z0_law])), (a0_row, .inl (cyI, 64, .inl f0_row))] sz)) 0 0 (va_A [(a0, .inr (1, [.ref a0_row, z0_owedEach, z0_down, z0_law])), (a0_row, .inl (cyI, 64, .inl f0_row))] sz) := by
  refine Met.ofW (cc := cX1_day) (maxL := 1) (ret := (some .int)) (by decide) rfl ?_
  intro p e s m args below meth c s₁ B hml hv
  obtain ⟨rfl, hsz, hP, hK, hD0, hNw⟩ := hv
  have hx := B.exec
  have hb := B.bytes
  have hr := B.returns
  have hts := atoms_spec (ws := wsX1_day) B.pre
  have hown : s.vm.findClass RX1 = some m.cls := findClass_of_methodNamed B.named
  have hlocks := B.notSynchronized
  subst hsz
  have hD := hD0.self (sz := s.heap.size)
  generalize hAe : va_A [(a0, .inr (1, [.ref a0_row, z0_owedEach, z0_down, z0_law])), (a0_row, .inl (cyI, 64, .inl f0_row))] s.heap.size = A at hD ⊢
  have hA : ∀ q : Nat, s.heap.size ≤ q → A q := fun q h => by rw [← hAe]; exact Or.inr h
  have hS : va_S A s.heap s.heap [] := va_S.rf
  have hP : va_P (dC, dI) vwCl [(a0, .inr (1, [.ref a0_row, z0_owedEach, z0_down, z0_law])), (a0_row, .inl (cyI, 64, .inl f0_row))] s.heap := hP
  have hl := lv_entry ([.ref a0]) (n := 1) (Nat.le_of_ble_eq_true rfl)
  rw [lg_entry_eq]
  generalize (lg_sl ([.ref a0]) ++ List.replicate (1 - (lg_sl ([.ref a0])).length) Slot.unset).toArray = ls at hl ⊢
  have hl : lv_has ls 1 [(0, .ref a0)] := hl
  have C0 : cfx p s m _ meth c cX1_day (some .int) wsX1_day RX1 1 A (dC, dI) (kT cyB cyI cyJ cyP) := ⟨hx, hb, hr, hts, hown, hlocks, hml, hA, hK, hNw⟩
  clear hAe
  obtain ⟨H, hH⟩ : ∃ H, H = s.heap := ⟨_, rfl⟩
  rw [← hH] at hP ⊢
  have hS : va_S A s.heap H [] := by rw [hH]; exact va_S.rf
  have hS := hS
  refine lv_aload_n hx hb dX1_day_0 rfl (lv_at hl 0 rfl) ?_
  refine va_get (D := (dC, dI)) (ci := 1) (v := .ref a0_row) (C := RX1) (T := TX1) (N := 4) hx hb hts ui_X1_day_X1 hown hK hP 0 rfl rfl 0 (by decide) (hts _ uw_X1_day_f13) (fun _ h9 => h9) rfl dX1_day_1 ?_
  refine lv_iconst (v := 0) hx hb dX1_day_4 (by decide) ?_
  refine va_iald hx hb hK hP 1 1 rfl rfl (vin (by decide)) dX1_day_5 ?_
  refine lv_topi (fun x1 ex1 => ?_)
  have hw := hw x1 ex1
  exact ((W.iret (v := x1) hx hb hr (fun t ht hW => ⟨⟨x1, (), rfl, hw, by rw [ht]; exact hP, va_K.moved hW.alike hK, hD⟩, hS.F ht⟩) hS.2.2 dX1_day_6))
theorem ui_X1_caughtOnes_X1 : ∀ w ∈ u_ws RX1 TX1 4, w ∈ wsX1_caughtOnes := by decide +kernel
theorem uw_X1_caughtOnes_f13 : (.fieldLink RX1 13 "MarchHares$Days" "row" "[I" : Cond) ∈ wsX1_caughtOnes := by decide +kernel
def wq_X1_caughtOnes (f0_row : Nat → Int32)   (Q : Int32 → Prop) : Prop := ∀ x1 : Int32, x1 = f0_row (2 : Int32).toNatClampNeg → (Q x1)
set_option maxHeartbeats 4000000 in
set_option maxRecDepth 100000 in
theorem ck_X1_caughtOnes (l : Launch) (dC : Nat → ClassId) (dI : Nat → Nat → Nat) (cyB cyI cyJ cyP : ClassId) (a0 a0_row : Nat) (sz : Nat) (z0_owedEach : Value) (z0_down : Value) (z0_law : Value) (f0_row : Nat → Int32)   {Q : Int32 → Prop} (hw : wq_X1_caughtOnes f0_row   Q) : Met l yX1_caughtOnes wsX1_caughtOnes ({ frames := 0, cells := 0, slots := 0, locals := 0 }) (va_Pc [.ref a0] (cPc (dC, dI) (kT cyB cyI cyJ cyP) [(a0, .inr (1, [.ref a0_row, z0_owedEach, z0_down, z0_law])), (a0_row, .inl (cyI, 64, .inl f0_row))] sz)) (va_Qi (fun (r : Int32) (_ : Unit) => Q r ) (cB (dC, dI) (kT cyB cyI cyJ cyP) (va_A [(a0, .inr (1, [.ref a0_row, z0_owedEach, z0_down, z0_law])), (a0_row, .inl (cyI, 64, .inl f0_row))] sz) (fun u : Unit => ([(a0, .inr (1, [.ref a0_row, z0_owedEach, z0_down, z0_law])), (a0_row, .inl (cyI, 64, .inl f0_row))] : va_W))) (va_A [(a0, .inr (1, [.ref a0_row, z0_owedEach, z0_down, z0_law])), (a0_row, .inl (cyI, 64, .inl f0_row))] sz)) 0 0 (va_A [(a0, .inr (1, [.ref a0_row, z0_owedEach, z0_down, z0_law])), (a0_row, .inl (cyI, 64, .inl f0_row))] sz) := by
  refine Met.ofW (cc := cX1_caughtOnes) (maxL := 1) (ret := (some .int)) (by decide) rfl ?_
  intro p e s m args below meth c s₁ B hml hv
  obtain ⟨rfl, hsz, hP, hK, hD0, hNw⟩ := hv
  have hx := B.exec
  have hb := B.bytes
  have hr := B.returns
  have hts := atoms_spec (ws := wsX1_caughtOnes) B.pre
  have hown : s.vm.findClass RX1 = some m.cls := findClass_of_methodNamed B.named
  have hlocks := B.notSynchronized
  subst hsz
  have hD := hD0.self (sz := s.heap.size)
  generalize hAe : va_A [(a0, .inr (1, [.ref a0_row, z0_owedEach, z0_down, z0_law])), (a0_row, .inl (cyI, 64, .inl f0_row))] s.heap.size = A at hD ⊢
  have hA : ∀ q : Nat, s.heap.size ≤ q → A q := fun q h => by rw [← hAe]; exact Or.inr h
  have hS : va_S A s.heap s.heap [] := va_S.rf
  have hP : va_P (dC, dI) vwCl [(a0, .inr (1, [.ref a0_row, z0_owedEach, z0_down, z0_law])), (a0_row, .inl (cyI, 64, .inl f0_row))] s.heap := hP
  have hl := lv_entry ([.ref a0]) (n := 1) (Nat.le_of_ble_eq_true rfl)
  rw [lg_entry_eq]
  generalize (lg_sl ([.ref a0]) ++ List.replicate (1 - (lg_sl ([.ref a0])).length) Slot.unset).toArray = ls at hl ⊢
  have hl : lv_has ls 1 [(0, .ref a0)] := hl
  have C0 : cfx p s m _ meth c cX1_caughtOnes (some .int) wsX1_caughtOnes RX1 1 A (dC, dI) (kT cyB cyI cyJ cyP) := ⟨hx, hb, hr, hts, hown, hlocks, hml, hA, hK, hNw⟩
  clear hAe
  obtain ⟨H, hH⟩ : ∃ H, H = s.heap := ⟨_, rfl⟩
  rw [← hH] at hP ⊢
  have hS : va_S A s.heap H [] := by rw [hH]; exact va_S.rf
  have hS := hS
  refine lv_aload_n hx hb dX1_caughtOnes_0 rfl (lv_at hl 0 rfl) ?_
  refine va_get (D := (dC, dI)) (ci := 1) (v := .ref a0_row) (C := RX1) (T := TX1) (N := 4) hx hb hts ui_X1_caughtOnes_X1 hown hK hP 0 rfl rfl 0 (by decide) (hts _ uw_X1_caughtOnes_f13) (fun _ h9 => h9) rfl dX1_caughtOnes_1 ?_
  refine lv_iconst (v := 2) hx hb dX1_caughtOnes_4 (by decide) ?_
  refine va_iald hx hb hK hP 1 1 rfl rfl (vin (by decide)) dX1_caughtOnes_5 ?_
  refine lv_topi (fun x1 ex1 => ?_)
  have hw := hw x1 ex1
  exact ((W.iret (v := x1) hx hb hr (fun t ht hW => ⟨⟨x1, (), rfl, hw, by rw [ht]; exact hP, va_K.moved hW.alike hK, hD⟩, hS.F ht⟩) hS.2.2 dX1_caughtOnes_6))
theorem ui_X1_allDebts_X1 : ∀ w ∈ u_ws RX1 TX1 4, w ∈ wsX1_allDebts := by decide +kernel
theorem ui_X1_allDebts_X2 : ∀ w ∈ u_ws RX2 TX2 12, w ∈ wsX1_allDebts := by decide +kernel
theorem uw_X1_allDebts_f24 : (.fieldLink RX1 24 "MarchHares$Days" "down" "LMarchHares$Down;" : Cond) ∈ wsX1_allDebts := by decide +kernel
theorem uw_X1_allDebts_f32 : (.fieldLink RX1 32 "MarchHares$Down" "hares" "I" : Cond) ∈ wsX1_allDebts := by decide +kernel
def wl_X1_allDebts_4 (v0_down_hares : Int32) (Q : Int32 → Prop)  : Nat → Int32 → Int32 → Prop
  | 0, _, _ => False
  | n + 1, l1, l2 => ((v0_down_hares ≤ l2 → (Q l1)) ∧ (¬ v0_down_hares ≤ l2 → False))
set_option maxHeartbeats 4000000 in
set_option maxRecDepth 100000 in
theorem kl_X1_allDebts_4 {p : Program} {l : Launch} {e : Env} {s : State} {m : MethodId} {args : Array Value} {below : List Frame} {meth : Method} {c : Code} {A : Nat → Prop} (dC : Nat → ClassId) (dI : Nat → Nat → Nat) (cyB cyI cyJ cyP : ClassId) (a0 a0_down : Nat) (z0_row : Value) (z0_owedEach : Value) (z0_law : Value) (z0_down_formX : Value) (z0_down_formY : Value) (z0_down_foxX : Value) (z0_down_foxY : Value) (z0_down_seat : Value) (z0_down_strength : Value) (z0_down_debts : Value) (z0_down_near : Value) (z0_down_forms : Value) (z0_down_foxes : Value) (z0_down_safe : Value) (v0_down_hares : Int32) (Q : Int32 → Prop)  (C0 : cfx p s m args meth c cX1_allDebts (some .int) wsX1_allDebts RX1 3 A (dC, dI) (kT cyB cyI cyJ cyP)) : ∀ (n : Nat) (H : Heap) (locs : List Loc) (ls : Array Slot) (l1 : Int32) (l2 : Int32), va_P (dC, dI) vwCl [(a0, .inr (1, [z0_row, z0_owedEach, .ref a0_down, z0_law])), (a0_down, .inr (2, [z0_down_formX, z0_down_formY, z0_down_foxX, z0_down_foxY, z0_down_seat, z0_down_strength, z0_down_debts, z0_down_near, z0_down_forms, .int v0_down_hares, z0_down_foxes, z0_down_safe]))] H → va_D A [(a0, .inr (1, [z0_row, z0_owedEach, .ref a0_down, z0_law])), (a0_down, .inr (2, [z0_down_formX, z0_down_formY, z0_down_foxX, z0_down_foxY, z0_down_seat, z0_down_strength, z0_down_debts, z0_down_near, z0_down_forms, .int v0_down_hares, z0_down_foxes, z0_down_safe]))] → va_S A s.heap H locs → lv_has ls 3 [(0, .ref a0), (1, .int l1), (2, .int l2)] → wl_X1_allDebts_4 v0_down_hares Q  n l1 l2 → W p l e (headSpec wsX1_allDebts ({ frames := 0, cells := 0, slots := 0, locals := 0 })).room s m args below meth c H locs 0 0 (MQ below (va_Qi (fun (r : Int32) (_ : Unit) => Q r ) (cB (dC, dI) (kT cyB cyI cyJ cyP) A (fun u : Unit => ([(a0, .inr (1, [z0_row, z0_owedEach, .ref a0_down, z0_law])), (a0_down, .inr (2, [z0_down_formX, z0_down_formY, z0_down_foxX, z0_down_foxY, z0_down_seat, z0_down_strength, z0_down_debts, z0_down_near, z0_down_forms, .int v0_down_hares, z0_down_foxes, z0_down_safe]))] : va_W))) A) args s 0 0 A) (F0 m 4 ls []) := by
  obtain ⟨hx, hb, hr, hts, hown, hlocks, hml, hA, hK, hNw⟩ := id C0
  intro n
  induction n with
  | zero => intro H locs ls l1 l2 hP hD hS hl hw; exact False.elim hw
  | succ n ih =>
    intro H locs ls l1 l2 hP hD hS hl hw
    refine lv_iload_n hx hb dX1_allDebts_4 rfl (lv_at hl 2 rfl) ?_
    refine lv_aload_n hx hb dX1_allDebts_5 rfl (lv_at hl 0 rfl) ?_
    refine va_get (D := (dC, dI)) (ci := 1) (v := .ref a0_down) (C := RX1) (T := TX1) (N := 4) hx hb hts ui_X1_allDebts_X1 hown hK hP 0 rfl rfl 2 (by decide) (hts _ uw_X1_allDebts_f24) (fun _ h9 => h9) rfl dX1_allDebts_6 ?_
    refine va_get (D := (dC, dI)) (ci := 2) (v := .int v0_down_hares) (C := RX2) (T := TX2) (N := 12) hx hb hts ui_X1_allDebts_X2 hown hK hP 1 rfl rfl 9 (by decide) (hts _ uw_X1_allDebts_f32) (fun _ h9 => h9) rfl dX1_allDebts_9 ?_
    refine lv_icmp_ge (tgt := 29) hx hb dX1_allDebts_12 (by decide) (fun c1 => ?_) (fun c1 => ?_)
    · have hw := hw.1 c1
      refine lv_iload_n hx hb dX1_allDebts_29 rfl (lv_at hl 1 rfl) ?_
      exact ((W.iret (v := l1) hx hb hr (fun t ht hW => ⟨⟨l1, (), rfl, hw, by rw [ht]; exact hP, va_K.moved hW.alike hK, hD⟩, hS.F ht⟩) hS.2.2 dX1_allDebts_30))
    · have hw := hw.2 c1
      exact False.elim hw
def wq_X1_allDebts (v0_down_hares : Int32)   (Q : Int32 → Prop) : Prop := (∃ k9 : Nat, wl_X1_allDebts_4 v0_down_hares Q  k9 0 0)
set_option maxHeartbeats 4000000 in
set_option maxRecDepth 100000 in
theorem ck_X1_allDebts (l : Launch) (dC : Nat → ClassId) (dI : Nat → Nat → Nat) (cyB cyI cyJ cyP : ClassId) (a0 a0_down : Nat) (sz : Nat) (z0_row : Value) (z0_owedEach : Value) (z0_law : Value) (z0_down_formX : Value) (z0_down_formY : Value) (z0_down_foxX : Value) (z0_down_foxY : Value) (z0_down_seat : Value) (z0_down_strength : Value) (z0_down_debts : Value) (z0_down_near : Value) (z0_down_forms : Value) (z0_down_foxes : Value) (z0_down_safe : Value) (v0_down_hares : Int32)   {Q : Int32 → Prop} (hw : wq_X1_allDebts v0_down_hares   Q) : Met l yX1_allDebts wsX1_allDebts ({ frames := 0, cells := 0, slots := 0, locals := 0 }) (va_Pc [.ref a0] (cPc (dC, dI) (kT cyB cyI cyJ cyP) [(a0, .inr (1, [z0_row, z0_owedEach, .ref a0_down, z0_law])), (a0_down, .inr (2, [z0_down_formX, z0_down_formY, z0_down_foxX, z0_down_foxY, z0_down_seat, z0_down_strength, z0_down_debts, z0_down_near, z0_down_forms, .int v0_down_hares, z0_down_foxes, z0_down_safe]))] sz)) (va_Qi (fun (r : Int32) (_ : Unit) => Q r ) (cB (dC, dI) (kT cyB cyI cyJ cyP) (va_A [(a0, .inr (1, [z0_row, z0_owedEach, .ref a0_down, z0_law])), (a0_down, .inr (2, [z0_down_formX, z0_down_formY, z0_down_foxX, z0_down_foxY, z0_down_seat, z0_down_strength, z0_down_debts, z0_down_near, z0_down_forms, .int v0_down_hares, z0_down_foxes, z0_down_safe]))] sz) (fun u : Unit => ([(a0, .inr (1, [z0_row, z0_owedEach, .ref a0_down, z0_law])), (a0_down, .inr (2, [z0_down_formX, z0_down_formY, z0_down_foxX, z0_down_foxY, z0_down_seat, z0_down_strength, z0_down_debts, z0_down_near, z0_down_forms, .int v0_down_hares, z0_down_foxes, z0_down_safe]))] : va_W))) (va_A [(a0, .inr (1, [z0_row, z0_owedEach, .ref a0_down, z0_law])), (a0_down, .inr (2, [z0_down_formX, z0_down_formY, z0_down_foxX, z0_down_foxY, z0_down_seat, z0_down_strength, z0_down_debts, z0_down_near, z0_down_forms, .int v0_down_hares, z0_down_foxes, z0_down_safe]))] sz)) 0 0 (va_A [(a0, .inr (1, [z0_row, z0_owedEach, .ref a0_down, z0_law])), (a0_down, .inr (2, [z0_down_formX, z0_down_formY, z0_down_foxX, z0_down_foxY, z0_down_seat, z0_down_strength, z0_down_debts, z0_down_near, z0_down_forms, .int v0_down_hares, z0_down_foxes, z0_down_safe]))] sz) := by
  refine Met.ofW (cc := cX1_allDebts) (maxL := 3) (ret := (some .int)) (by decide) rfl ?_
  intro p e s m args below meth c s₁ B hml hv
  obtain ⟨rfl, hsz, hP, hK, hD0, hNw⟩ := hv
  have hx := B.exec
  have hb := B.bytes
  have hr := B.returns
  have hts := atoms_spec (ws := wsX1_allDebts) B.pre
  have hown : s.vm.findClass RX1 = some m.cls := findClass_of_methodNamed B.named
  have hlocks := B.notSynchronized
  subst hsz
  have hD := hD0.self (sz := s.heap.size)
  generalize hAe : va_A [(a0, .inr (1, [z0_row, z0_owedEach, .ref a0_down, z0_law])), (a0_down, .inr (2, [z0_down_formX, z0_down_formY, z0_down_foxX, z0_down_foxY, z0_down_seat, z0_down_strength, z0_down_debts, z0_down_near, z0_down_forms, .int v0_down_hares, z0_down_foxes, z0_down_safe]))] s.heap.size = A at hD ⊢
  have hA : ∀ q : Nat, s.heap.size ≤ q → A q := fun q h => by rw [← hAe]; exact Or.inr h
  have hS : va_S A s.heap s.heap [] := va_S.rf
  have hP : va_P (dC, dI) vwCl [(a0, .inr (1, [z0_row, z0_owedEach, .ref a0_down, z0_law])), (a0_down, .inr (2, [z0_down_formX, z0_down_formY, z0_down_foxX, z0_down_foxY, z0_down_seat, z0_down_strength, z0_down_debts, z0_down_near, z0_down_forms, .int v0_down_hares, z0_down_foxes, z0_down_safe]))] s.heap := hP
  have hl := lv_entry ([.ref a0]) (n := 3) (Nat.le_of_ble_eq_true rfl)
  rw [lg_entry_eq]
  generalize (lg_sl ([.ref a0]) ++ List.replicate (3 - (lg_sl ([.ref a0])).length) Slot.unset).toArray = ls at hl ⊢
  have hl : lv_has ls 3 [(0, .ref a0)] := hl
  have C0 : cfx p s m _ meth c cX1_allDebts (some .int) wsX1_allDebts RX1 3 A (dC, dI) (kT cyB cyI cyJ cyP) := ⟨hx, hb, hr, hts, hown, hlocks, hml, hA, hK, hNw⟩
  clear hAe
  obtain ⟨H, hH⟩ : ∃ H, H = s.heap := ⟨_, rfl⟩
  rw [← hH] at hP ⊢
  have hS : va_S A s.heap H [] := by rw [hH]; exact va_S.rf
  have hS := hS
  refine lv_iconst (v := 0) hx hb dX1_allDebts_0 (by decide) ?_
  refine lv_istore_n (lv' := [(1, .int 0), (0, .ref a0)]) hx hb dX1_allDebts_1 rfl hl (by decide) rfl (fun ls hl => ?_)
  refine lv_iconst (v := 0) hx hb dX1_allDebts_2 (by decide) ?_
  refine lv_istore_n (lv' := [(2, .int 0), (1, .int 0), (0, .ref a0)]) hx hb dX1_allDebts_3 rfl hl (by decide) rfl (fun ls hl => ?_)
  obtain ⟨n9, hw⟩ := hw
  exact kl_X1_allDebts_4 dC dI cyB cyI cyJ cyP a0 a0_down z0_row z0_owedEach z0_law z0_down_formX z0_down_formY z0_down_foxX z0_down_foxY z0_down_seat z0_down_strength z0_down_debts z0_down_near z0_down_forms z0_down_foxes z0_down_safe v0_down_hares Q  C0 n9 _ _ _ 0 0 hP hD hS (lv_sub hl [2, 1, 0] rfl) hw
theorem lk_neI {x k : Int32} {n : Int} (h : ¬ x = k) (e : k.toInt = n) : ¬ n = x.toInt := fun q => h (Int32.toInt_inj.mp (q.symm.trans e.symm))
theorem ui_X10_ahead_X10 : ∀ w ∈ u_ws RX10 TX10 19, w ∈ wsX10_ahead := by decide +kernel
theorem uw_X10_ahead_f58 : (.fieldLink RX10 58 "MarchHares" "now" "LMarchHares$Days;" : Cond) ∈ wsX10_ahead := by decide +kernel
theorem uw_X10_ahead_f62 : (.fieldLink RX10 62 "MarchHares" "trial" "LMarchHares$Days;" : Cond) ∈ wsX10_ahead := by decide +kernel
def wl_X10_ahead_28 (a0_ground : Nat) (a0_rule : Nat) (f0_now_row : Nat → Int32) (v0_ground_hares : Int32) (E : String → Int32 → (Nat → Int32) → Value → Value → Prop) (Q : Int32 → Int32 → (Nat → Int32) → Value → Value → Prop)  : Nat → Int32 → (Nat → Int32) → Value → Value → Int32 → Int32 → Int32 → Prop
  | 0, _, _, _, _, _, _, _ => False
  | n + 1, v0_callsIllegal, f0_trial_row, r0_trial_down, r0_trial_law, l1, l2, l3 => ((l1 ≤ l3 → ((l2 = 0 → wq_X1_day f0_trial_row   (fun r6 => (Q r6 v0_callsIllegal f0_trial_row (.ref a0_ground) (.ref a0_rule)))) ∧ (¬ l2 = 0 → ((l2 = 1 → wq_X1_caughtOnes f0_trial_row   (fun r8 => (Q r8 v0_callsIllegal f0_trial_row (.ref a0_ground) (.ref a0_rule)))) ∧ (¬ l2 = 1 → wq_X1_allDebts v0_ground_hares   (fun r9 => (Q r9 v0_callsIllegal f0_trial_row (.ref a0_ground) (.ref a0_rule)))))))) ∧ (¬ l1 ≤ l3 → wq_X1_passDay v0_ground_hares f0_trial_row  (fun f10 => ∀ x11 : Int32, x11 = l3 + 1 → (wl_X10_ahead_28 a0_ground a0_rule f0_now_row v0_ground_hares E Q  n v0_callsIllegal f10 (.ref a0_ground) (.ref a0_rule) l1 l2 x11))))
set_option maxHeartbeats 4000000 in
set_option maxRecDepth 100000 in
theorem kl_X10_ahead_28 {p : Program} {l : Launch} {e : Env} {s : State} {m : MethodId} {args : Array Value} {below : List Frame} {meth : Method} {c : Code} {A : Nat → Prop} (dC : Nat → ClassId) (dI : Nat → Nat → Nat) (cyB cyI cyJ cyP : ClassId) (a0 a0_trial a0_now a0_now_row a0_trial_row a0_ground a0_rule : Nat) (z0_tape : Value) (z0_ground : Value) (z0_spareGround : Value) (z0_rule : Value) (z0_spareRule : Value) (z0_lines : Value) (z0_spareLines : Value) (z0_steps : Value) (z0_past : Value) (z0_images : Value) (z0_round : Value) (z0_seating : Value) (z0_fitting : Value) (z0_imagesKept : Value) (z0_refusedSteps : Value) (z0_callsNoSuch : Value) (z0_trial_owedEach : Value) (z0_now_owedEach : Value) (z0_ground_formX : Value) (z0_ground_formY : Value) (z0_ground_foxX : Value) (z0_ground_foxY : Value) (z0_ground_seat : Value) (z0_ground_strength : Value) (z0_ground_debts : Value) (z0_ground_near : Value) (z0_ground_forms : Value) (z0_ground_foxes : Value) (z0_ground_safe : Value) (f0_now_row : Nat → Int32) (v0_ground_hares : Int32) (E : String → Int32 → (Nat → Int32) → Value → Value → Prop) (Q : Int32 → Int32 → (Nat → Int32) → Value → Value → Prop)  (C0 : cfx p s m args meth c cX10_ahead (some .int) wsX10_ahead RX10 4 A (dC, dI) (kT cyB cyI cyJ cyP) ∧ cfX l s c A) : ∀ (n : Nat) (H : Heap) (locs : List Loc) (ls : Array Slot) (v0_callsIllegal : Int32) (f0_trial_row : Nat → Int32) (r0_trial_down : Value) (r0_trial_law : Value) (l1 : Int32) (l2 : Int32) (l3 : Int32), va_P (dC, dI) vwCl [(a0, .inr (10, [z0_tape, z0_ground, z0_spareGround, z0_rule, z0_spareRule, z0_lines, z0_spareLines, z0_steps, .ref a0_now, .ref a0_trial, z0_past, z0_images, z0_round, z0_seating, z0_fitting, z0_imagesKept, z0_refusedSteps, z0_callsNoSuch, .int v0_callsIllegal])), (a0_trial, .inr (1, [.ref a0_trial_row, z0_trial_owedEach, .ref a0_ground, .ref a0_rule])), (a0_now, .inr (1, [.ref a0_now_row, z0_now_owedEach, .ref a0_ground, .ref a0_rule])), (a0_now_row, .inl (cyI, 64, .inl f0_now_row)), (a0_trial_row, .inl (cyI, 64, .inl f0_trial_row)), (a0_ground, .inr (2, [z0_ground_formX, z0_ground_formY, z0_ground_foxX, z0_ground_foxY, z0_ground_seat, z0_ground_strength, z0_ground_debts, z0_ground_near, z0_ground_forms, .int v0_ground_hares, z0_ground_foxes, z0_ground_safe]))] H → va_D A [(a0, .inr (10, [z0_tape, z0_ground, z0_spareGround, z0_rule, z0_spareRule, z0_lines, z0_spareLines, z0_steps, .ref a0_now, .ref a0_trial, z0_past, z0_images, z0_round, z0_seating, z0_fitting, z0_imagesKept, z0_refusedSteps, z0_callsNoSuch, .int v0_callsIllegal])), (a0_trial, .inr (1, [.ref a0_trial_row, z0_trial_owedEach, .ref a0_ground, .ref a0_rule])), (a0_now, .inr (1, [.ref a0_now_row, z0_now_owedEach, .ref a0_ground, .ref a0_rule])), (a0_now_row, .inl (cyI, 64, .inl f0_now_row)), (a0_trial_row, .inl (cyI, 64, .inl f0_trial_row)), (a0_ground, .inr (2, [z0_ground_formX, z0_ground_formY, z0_ground_foxX, z0_ground_foxY, z0_ground_seat, z0_ground_strength, z0_ground_debts, z0_ground_near, z0_ground_forms, .int v0_ground_hares, z0_ground_foxes, z0_ground_safe]))] → va_S A s.heap H locs → lv_has ls 4 [(0, .ref a0), (1, .int l1), (2, .int l2), (3, .int l3)] → wl_X10_ahead_28 a0_ground a0_rule f0_now_row v0_ground_hares E Q  n v0_callsIllegal f0_trial_row r0_trial_down r0_trial_law l1 l2 l3 → W p l e (headSpec wsX10_ahead ({ frames := 8, cells := 2, slots := 12, locals := 164 })).room s m args below meth c H locs 2 12 (vx_MQ below (va_Qi (fun (r : Int32) (u : Int32 × (Nat → Int32) × Value × Value) => Q r u.1 u.2.1 u.2.2.1 u.2.2.2) (cB (dC, dI) (kT cyB cyI cyJ cyP) A (fun u : Int32 × (Nat → Int32) × Value × Value => ([(a0, .inr (10, [z0_tape, z0_ground, z0_spareGround, z0_rule, z0_spareRule, z0_lines, z0_spareLines, z0_steps, .ref a0_now, .ref a0_trial, z0_past, z0_images, z0_round, z0_seating, z0_fitting, z0_imagesKept, z0_refusedSteps, z0_callsNoSuch, .int u.1])), (a0_trial, .inr (1, [.ref a0_trial_row, z0_trial_owedEach, u.2.2.1, u.2.2.2])), (a0_now, .inr (1, [.ref a0_now_row, z0_now_owedEach, .ref a0_ground, .ref a0_rule])), (a0_now_row, .inl (cyI, 64, .inl f0_now_row)), (a0_trial_row, .inl (cyI, 64, .inl u.2.1)), (a0_ground, .inr (2, [z0_ground_formX, z0_ground_formY, z0_ground_foxX, z0_ground_foxY, z0_ground_seat, z0_ground_strength, z0_ground_debts, z0_ground_near, z0_ground_forms, .int v0_ground_hares, z0_ground_foxes, z0_ground_safe]))] : va_W))) A) (vx_X (fun _ => True) (fun (en : String) (u : Int32 × (Nat → Int32) × Value × Value) (t : State) => E en u.1 u.2.1 u.2.2.1 u.2.2.2 ∧ cB (dC, dI) (kT cyB cyI cyJ cyP) A (fun u : Int32 × (Nat → Int32) × Value × Value => ([(a0, .inr (10, [z0_tape, z0_ground, z0_spareGround, z0_rule, z0_spareRule, z0_lines, z0_spareLines, z0_steps, .ref a0_now, .ref a0_trial, z0_past, z0_images, z0_round, z0_seating, z0_fitting, z0_imagesKept, z0_refusedSteps, z0_callsNoSuch, .int u.1])), (a0_trial, .inr (1, [.ref a0_trial_row, z0_trial_owedEach, u.2.2.1, u.2.2.2])), (a0_now, .inr (1, [.ref a0_now_row, z0_now_owedEach, .ref a0_ground, .ref a0_rule])), (a0_now_row, .inl (cyI, 64, .inl f0_now_row)), (a0_trial_row, .inl (cyI, 64, .inl u.2.1)), (a0_ground, .inr (2, [z0_ground_formX, z0_ground_formY, z0_ground_foxX, z0_ground_foxY, z0_ground_seat, z0_ground_strength, z0_ground_debts, z0_ground_near, z0_ground_forms, .int v0_ground_hares, z0_ground_foxes, z0_ground_safe]))] : va_W)) u t) A) args s 2 12 A) (F0 m 28 ls []) := by
  obtain ⟨⟨hx, hb, hr, hts, hown, hlocks, hml, hA, hK, hNw⟩, hXs⟩ := id C0
  have hY := hXs.2
  intro n
  induction n with
  | zero => intro H locs ls v0_callsIllegal f0_trial_row r0_trial_down r0_trial_law l1 l2 l3 hP hD hS hl hw; exact False.elim hw
  | succ n ih =>
    intro H locs ls v0_callsIllegal f0_trial_row r0_trial_down r0_trial_law l1 l2 l3 hP hD hS hl hw
    refine lv_iload_n hx hb dX10_ahead_28 rfl (lv_at hl 3 rfl) ?_
    refine lv_iload_n hx hb dX10_ahead_29 rfl (lv_at hl 1 rfl) ?_
    refine lv_icmp_ge (tgt := 46) hx hb dX10_ahead_30 (by decide) (fun c4 => ?_) (fun c4 => ?_)
    · have hw := hw.1 c4
      refine lv_iload_n hx hb dX10_ahead_46 rfl (lv_at hl 2 rfl) ?_
      by_cases c5 : l2 = 0
      · have hw := hw.1 c5
        refine lv_lookup (tgt := 72) (off := 25) hx hb dX10_ahead_47 (by decide) (by rw [c5]; decide) (by decide) ?_
        refine lv_aload_n hx hb dX10_ahead_72 rfl (lv_at hl 0 rfl) ?_
        refine va_get (D := (dC, dI)) (ci := 10) (v := .ref a0_trial) (C := RX10) (T := TX10) (N := 19) hx hb hts ui_X10_ahead_X10 hown hK hP 0 rfl rfl 9 (by decide) (hts _ uw_X10_ahead_f62) (fun _ h9 => h9) rfl dX10_ahead_73 ?_
        have hPc := hP.sub (ws' := [(a0_trial, .inr (1, [.ref a0_trial_row, z0_trial_owedEach, .ref a0_ground, .ref a0_rule])), (a0_trial_row, .inl (cyI, 64, .inl f0_trial_row))]) [1, 4] rfl
        have hDc := hD.sub (ws' := [(a0_trial, .inr (1, [.ref a0_trial_row, z0_trial_owedEach, .ref a0_ground, .ref a0_rule])), (a0_trial_row, .inl (cyI, 64, .inl f0_trial_row))]) [1, 4] (by decide) rfl
        have hFc := va_free (wc := [(a0_trial, .inr (1, [.ref a0_trial_row, z0_trial_owedEach, .ref a0_ground, .ref a0_rule])), (a0_trial_row, .inl (cyI, 64, .inl f0_trial_row))]) hD hS hA [1, 4] rfl
        refine va_calli (va_runV (As := []) (rest := []) ⟨hx, hb, hml, hown, hts⟩ (ck_X1_day l dC dI cyB cyI cyJ cyP a0_trial a0_trial_row H.size (z0_trial_owedEach) (.ref a0_ground) (.ref a0_rule) f0_trial_row   hw) (cwV 0 hts gX10_ahead_X1_day rfl rfl rfl (by decide +kernel) ⟨Nat.le_of_ble_eq_true rfl, Nat.le_of_ble_eq_true rfl⟩) ⟨cPc_blind, va_recv hK hPc (ci := 1) (q0 := 0) rfl rfl, cPc_pre hPc hK hDc hNw⟩ rfl rfl hl.1 rfl (lv_room (Nat.le_of_ble_eq_true rfl)) dX10_ahead_76 ⟨Nat.le_of_ble_eq_true rfl, Nat.le_of_ble_eq_true rfl⟩) hS (fun q _ h => hFc q h) hFc (fun r6 u t H1 locs ht hvm hw hB hz1 hk1 hS => ?_)
        obtain ⟨hP1, hK1, hD1⟩ := hB
        rw [ht] at hP1
        obtain ⟨hP, hD⟩ := va_join (wr := [(a0, .inr (10, [z0_tape, z0_ground, z0_spareGround, z0_rule, z0_spareRule, z0_lines, z0_spareLines, z0_steps, .ref a0_now, .ref a0_trial, z0_past, z0_images, z0_round, z0_seating, z0_fitting, z0_imagesKept, z0_refusedSteps, z0_callsNoSuch, .int v0_callsIllegal])), (a0_now, .inr (1, [.ref a0_now_row, z0_now_owedEach, .ref a0_ground, .ref a0_rule])), (a0_now_row, .inl (cyI, 64, .inl f0_now_row)), (a0_ground, .inr (2, [z0_ground_formX, z0_ground_formY, z0_ground_foxX, z0_ground_foxY, z0_ground_seat, z0_ground_strength, z0_ground_debts, z0_ground_near, z0_ground_forms, .int v0_ground_hares, z0_ground_foxes, z0_ground_safe]))]) (w1 := [(a0_trial, .inr (1, [.ref a0_trial_row, z0_trial_owedEach, .ref a0_ground, .ref a0_rule])), (a0_trial_row, .inl (cyI, 64, .inl f0_trial_row))]) hP hD [1, 4] [0, 2, 3, 5] rfl rfl (by decide) (by decide) hk1 hFc hP1 hD1
        have hP : va_P (dC, dI) vwCl [(a0, .inr (10, [z0_tape, z0_ground, z0_spareGround, z0_rule, z0_spareRule, z0_lines, z0_spareLines, z0_steps, .ref a0_now, .ref a0_trial, z0_past, z0_images, z0_round, z0_seating, z0_fitting, z0_imagesKept, z0_refusedSteps, z0_callsNoSuch, .int v0_callsIllegal])), (a0_trial, .inr (1, [.ref a0_trial_row, z0_trial_owedEach, .ref a0_ground, .ref a0_rule])), (a0_now, .inr (1, [.ref a0_now_row, z0_now_owedEach, .ref a0_ground, .ref a0_rule])), (a0_now_row, .inl (cyI, 64, .inl f0_now_row)), (a0_trial_row, .inl (cyI, 64, .inl f0_trial_row)), (a0_ground, .inr (2, [z0_ground_formX, z0_ground_formY, z0_ground_foxX, z0_ground_foxY, z0_ground_seat, z0_ground_strength, z0_ground_debts, z0_ground_near, z0_ground_forms, .int v0_ground_hares, z0_ground_foxes, z0_ground_safe]))] H1 := hP.sub [0, 4, 1, 2, 5, 3] rfl
        have hD : va_D A [(a0, .inr (10, [z0_tape, z0_ground, z0_spareGround, z0_rule, z0_spareRule, z0_lines, z0_spareLines, z0_steps, .ref a0_now, .ref a0_trial, z0_past, z0_images, z0_round, z0_seating, z0_fitting, z0_imagesKept, z0_refusedSteps, z0_callsNoSuch, .int v0_callsIllegal])), (a0_trial, .inr (1, [.ref a0_trial_row, z0_trial_owedEach, .ref a0_ground, .ref a0_rule])), (a0_now, .inr (1, [.ref a0_now_row, z0_now_owedEach, .ref a0_ground, .ref a0_rule])), (a0_now_row, .inl (cyI, 64, .inl f0_now_row)), (a0_trial_row, .inl (cyI, 64, .inl f0_trial_row)), (a0_ground, .inr (2, [z0_ground_formX, z0_ground_formY, z0_ground_foxX, z0_ground_foxY, z0_ground_seat, z0_ground_strength, z0_ground_debts, z0_ground_near, z0_ground_forms, .int v0_ground_hares, z0_ground_foxes, z0_ground_safe]))] := hD.sub [0, 4, 1, 2, 5, 3] (by decide) rfl
        generalize H1 = H at hP hS ⊢
        exact vx_ret (W.widen (k := 2) (n := 12) (Nat.le_of_ble_eq_true rfl) (Nat.le_of_ble_eq_true rfl) (W.iret (v := r6) hx hb hr (fun t ht hW => ⟨⟨r6, (v0_callsIllegal, f0_trial_row, (.ref a0_ground), (.ref a0_rule)), rfl, hw, by rw [ht]; exact hP, va_K.moved hW.alike hK, hD⟩, hS.F ht⟩) hS.2.2 dX10_ahead_79))
      have hw := hw.2 c5
      by_cases c7 : l2 = 1
      · have hw := hw.1 c7
        refine lv_lookup (tgt := 80) (off := 33) hx hb dX10_ahead_47 (by decide) (by rw [c7]; decide) (by decide) ?_
        refine lv_aload_n hx hb dX10_ahead_80 rfl (lv_at hl 0 rfl) ?_
        refine va_get (D := (dC, dI)) (ci := 10) (v := .ref a0_trial) (C := RX10) (T := TX10) (N := 19) hx hb hts ui_X10_ahead_X10 hown hK hP 0 rfl rfl 9 (by decide) (hts _ uw_X10_ahead_f62) (fun _ h9 => h9) rfl dX10_ahead_81 ?_
        have hPc := hP.sub (ws' := [(a0_trial, .inr (1, [.ref a0_trial_row, z0_trial_owedEach, .ref a0_ground, .ref a0_rule])), (a0_trial_row, .inl (cyI, 64, .inl f0_trial_row))]) [1, 4] rfl
        have hDc := hD.sub (ws' := [(a0_trial, .inr (1, [.ref a0_trial_row, z0_trial_owedEach, .ref a0_ground, .ref a0_rule])), (a0_trial_row, .inl (cyI, 64, .inl f0_trial_row))]) [1, 4] (by decide) rfl
        have hFc := va_free (wc := [(a0_trial, .inr (1, [.ref a0_trial_row, z0_trial_owedEach, .ref a0_ground, .ref a0_rule])), (a0_trial_row, .inl (cyI, 64, .inl f0_trial_row))]) hD hS hA [1, 4] rfl
        refine va_calli (va_runV (As := []) (rest := []) ⟨hx, hb, hml, hown, hts⟩ (ck_X1_caughtOnes l dC dI cyB cyI cyJ cyP a0_trial a0_trial_row H.size (z0_trial_owedEach) (.ref a0_ground) (.ref a0_rule) f0_trial_row   hw) (cwV 0 hts gX10_ahead_X1_caughtOnes rfl rfl rfl (by decide +kernel) ⟨Nat.le_of_ble_eq_true rfl, Nat.le_of_ble_eq_true rfl⟩) ⟨cPc_blind, va_recv hK hPc (ci := 1) (q0 := 0) rfl rfl, cPc_pre hPc hK hDc hNw⟩ rfl rfl hl.1 rfl (lv_room (Nat.le_of_ble_eq_true rfl)) dX10_ahead_84 ⟨Nat.le_of_ble_eq_true rfl, Nat.le_of_ble_eq_true rfl⟩) hS (fun q _ h => hFc q h) hFc (fun r8 u t H1 locs ht hvm hw hB hz1 hk1 hS => ?_)
        obtain ⟨hP1, hK1, hD1⟩ := hB
        rw [ht] at hP1
        obtain ⟨hP, hD⟩ := va_join (wr := [(a0, .inr (10, [z0_tape, z0_ground, z0_spareGround, z0_rule, z0_spareRule, z0_lines, z0_spareLines, z0_steps, .ref a0_now, .ref a0_trial, z0_past, z0_images, z0_round, z0_seating, z0_fitting, z0_imagesKept, z0_refusedSteps, z0_callsNoSuch, .int v0_callsIllegal])), (a0_now, .inr (1, [.ref a0_now_row, z0_now_owedEach, .ref a0_ground, .ref a0_rule])), (a0_now_row, .inl (cyI, 64, .inl f0_now_row)), (a0_ground, .inr (2, [z0_ground_formX, z0_ground_formY, z0_ground_foxX, z0_ground_foxY, z0_ground_seat, z0_ground_strength, z0_ground_debts, z0_ground_near, z0_ground_forms, .int v0_ground_hares, z0_ground_foxes, z0_ground_safe]))]) (w1 := [(a0_trial, .inr (1, [.ref a0_trial_row, z0_trial_owedEach, .ref a0_ground, .ref a0_rule])), (a0_trial_row, .inl (cyI, 64, .inl f0_trial_row))]) hP hD [1, 4] [0, 2, 3, 5] rfl rfl (by decide) (by decide) hk1 hFc hP1 hD1
        have hP : va_P (dC, dI) vwCl [(a0, .inr (10, [z0_tape, z0_ground, z0_spareGround, z0_rule, z0_spareRule, z0_lines, z0_spareLines, z0_steps, .ref a0_now, .ref a0_trial, z0_past, z0_images, z0_round, z0_seating, z0_fitting, z0_imagesKept, z0_refusedSteps, z0_callsNoSuch, .int v0_callsIllegal])), (a0_trial, .inr (1, [.ref a0_trial_row, z0_trial_owedEach, .ref a0_ground, .ref a0_rule])), (a0_now, .inr (1, [.ref a0_now_row, z0_now_owedEach, .ref a0_ground, .ref a0_rule])), (a0_now_row, .inl (cyI, 64, .inl f0_now_row)), (a0_trial_row, .inl (cyI, 64, .inl f0_trial_row)), (a0_ground, .inr (2, [z0_ground_formX, z0_ground_formY, z0_ground_foxX, z0_ground_foxY, z0_ground_seat, z0_ground_strength, z0_ground_debts, z0_ground_near, z0_ground_forms, .int v0_ground_hares, z0_ground_foxes, z0_ground_safe]))] H1 := hP.sub [0, 4, 1, 2, 5, 3] rfl
        have hD : va_D A [(a0, .inr (10, [z0_tape, z0_ground, z0_spareGround, z0_rule, z0_spareRule, z0_lines, z0_spareLines, z0_steps, .ref a0_now, .ref a0_trial, z0_past, z0_images, z0_round, z0_seating, z0_fitting, z0_imagesKept, z0_refusedSteps, z0_callsNoSuch, .int v0_callsIllegal])), (a0_trial, .inr (1, [.ref a0_trial_row, z0_trial_owedEach, .ref a0_ground, .ref a0_rule])), (a0_now, .inr (1, [.ref a0_now_row, z0_now_owedEach, .ref a0_ground, .ref a0_rule])), (a0_now_row, .inl (cyI, 64, .inl f0_now_row)), (a0_trial_row, .inl (cyI, 64, .inl f0_trial_row)), (a0_ground, .inr (2, [z0_ground_formX, z0_ground_formY, z0_ground_foxX, z0_ground_foxY, z0_ground_seat, z0_ground_strength, z0_ground_debts, z0_ground_near, z0_ground_forms, .int v0_ground_hares, z0_ground_foxes, z0_ground_safe]))] := hD.sub [0, 4, 1, 2, 5, 3] (by decide) rfl
        generalize H1 = H at hP hS ⊢
        exact vx_ret (W.widen (k := 2) (n := 12) (Nat.le_of_ble_eq_true rfl) (Nat.le_of_ble_eq_true rfl) (W.iret (v := r8) hx hb hr (fun t ht hW => ⟨⟨r8, (v0_callsIllegal, f0_trial_row, (.ref a0_ground), (.ref a0_rule)), rfl, hw, by rw [ht]; exact hP, va_K.moved hW.alike hK, hD⟩, hS.F ht⟩) hS.2.2 dX10_ahead_87))
      have hw := hw.2 c7
      refine lv_lookup (tgt := 88) (off := 41) hx hb dX10_ahead_47 (by decide) (by have nc5 := lk_neI (n := 0) c5 rfl; have nc7 := lk_neI (n := 1) c7 rfl; simp [Op.lookupswitch.offset, nc5, nc7]) (by decide) ?_
      refine lv_aload_n hx hb dX10_ahead_88 rfl (lv_at hl 0 rfl) ?_
      refine va_get (D := (dC, dI)) (ci := 10) (v := .ref a0_trial) (C := RX10) (T := TX10) (N := 19) hx hb hts ui_X10_ahead_X10 hown hK hP 0 rfl rfl 9 (by decide) (hts _ uw_X10_ahead_f62) (fun _ h9 => h9) rfl dX10_ahead_89 ?_
      have hPc := hP.sub (ws' := [(a0_trial, .inr (1, [.ref a0_trial_row, z0_trial_owedEach, .ref a0_ground, .ref a0_rule])), (a0_ground, .inr (2, [z0_ground_formX, z0_ground_formY, z0_ground_foxX, z0_ground_foxY, z0_ground_seat, z0_ground_strength, z0_ground_debts, z0_ground_near, z0_ground_forms, .int v0_ground_hares, z0_ground_foxes, z0_ground_safe]))]) [1, 5] rfl
      have hDc := hD.sub (ws' := [(a0_trial, .inr (1, [.ref a0_trial_row, z0_trial_owedEach, .ref a0_ground, .ref a0_rule])), (a0_ground, .inr (2, [z0_ground_formX, z0_ground_formY, z0_ground_foxX, z0_ground_foxY, z0_ground_seat, z0_ground_strength, z0_ground_debts, z0_ground_near, z0_ground_forms, .int v0_ground_hares, z0_ground_foxes, z0_ground_safe]))]) [1, 5] (by decide) rfl
      have hFc := va_free (wc := [(a0_trial, .inr (1, [.ref a0_trial_row, z0_trial_owedEach, .ref a0_ground, .ref a0_rule])), (a0_ground, .inr (2, [z0_ground_formX, z0_ground_formY, z0_ground_foxX, z0_ground_foxY, z0_ground_seat, z0_ground_strength, z0_ground_debts, z0_ground_near, z0_ground_forms, .int v0_ground_hares, z0_ground_foxes, z0_ground_safe]))]) hD hS hA [1, 5] rfl
      refine va_calli (va_runV (As := []) (rest := []) ⟨hx, hb, hml, hown, hts⟩ (ck_X1_allDebts l dC dI cyB cyI cyJ cyP a0_trial a0_ground H.size (.ref a0_trial_row) (z0_trial_owedEach) (.ref a0_rule) (z0_ground_formX) (z0_ground_formY) (z0_ground_foxX) (z0_ground_foxY) (z0_ground_seat) (z0_ground_strength) (z0_ground_debts) (z0_ground_near) (z0_ground_forms) (z0_ground_foxes) (z0_ground_safe) v0_ground_hares   hw) (cwV 0 hts gX10_ahead_X1_allDebts rfl rfl rfl (by decide +kernel) ⟨Nat.le_of_ble_eq_true rfl, Nat.le_of_ble_eq_true rfl⟩) ⟨cPc_blind, va_recv hK hPc (ci := 1) (q0 := 0) rfl rfl, cPc_pre hPc hK hDc hNw⟩ rfl rfl hl.1 rfl (lv_room (Nat.le_of_ble_eq_true rfl)) dX10_ahead_92 ⟨Nat.le_of_ble_eq_true rfl, Nat.le_of_ble_eq_true rfl⟩) hS (fun q _ h => hFc q h) hFc (fun r9 u t H1 locs ht hvm hw hB hz1 hk1 hS => ?_)
      obtain ⟨hP1, hK1, hD1⟩ := hB
      rw [ht] at hP1
      obtain ⟨hP, hD⟩ := va_join (wr := [(a0, .inr (10, [z0_tape, z0_ground, z0_spareGround, z0_rule, z0_spareRule, z0_lines, z0_spareLines, z0_steps, .ref a0_now, .ref a0_trial, z0_past, z0_images, z0_round, z0_seating, z0_fitting, z0_imagesKept, z0_refusedSteps, z0_callsNoSuch, .int v0_callsIllegal])), (a0_now, .inr (1, [.ref a0_now_row, z0_now_owedEach, .ref a0_ground, .ref a0_rule])), (a0_now_row, .inl (cyI, 64, .inl f0_now_row)), (a0_trial_row, .inl (cyI, 64, .inl f0_trial_row))]) (w1 := [(a0_trial, .inr (1, [.ref a0_trial_row, z0_trial_owedEach, .ref a0_ground, .ref a0_rule])), (a0_ground, .inr (2, [z0_ground_formX, z0_ground_formY, z0_ground_foxX, z0_ground_foxY, z0_ground_seat, z0_ground_strength, z0_ground_debts, z0_ground_near, z0_ground_forms, .int v0_ground_hares, z0_ground_foxes, z0_ground_safe]))]) hP hD [1, 5] [0, 2, 3, 4] rfl rfl (by decide) (by decide) hk1 hFc hP1 hD1
      have hP : va_P (dC, dI) vwCl [(a0, .inr (10, [z0_tape, z0_ground, z0_spareGround, z0_rule, z0_spareRule, z0_lines, z0_spareLines, z0_steps, .ref a0_now, .ref a0_trial, z0_past, z0_images, z0_round, z0_seating, z0_fitting, z0_imagesKept, z0_refusedSteps, z0_callsNoSuch, .int v0_callsIllegal])), (a0_trial, .inr (1, [.ref a0_trial_row, z0_trial_owedEach, .ref a0_ground, .ref a0_rule])), (a0_now, .inr (1, [.ref a0_now_row, z0_now_owedEach, .ref a0_ground, .ref a0_rule])), (a0_now_row, .inl (cyI, 64, .inl f0_now_row)), (a0_trial_row, .inl (cyI, 64, .inl f0_trial_row)), (a0_ground, .inr (2, [z0_ground_formX, z0_ground_formY, z0_ground_foxX, z0_ground_foxY, z0_ground_seat, z0_ground_strength, z0_ground_debts, z0_ground_near, z0_ground_forms, .int v0_ground_hares, z0_ground_foxes, z0_ground_safe]))] H1 := hP.sub [0, 4, 1, 2, 3, 5] rfl
      have hD : va_D A [(a0, .inr (10, [z0_tape, z0_ground, z0_spareGround, z0_rule, z0_spareRule, z0_lines, z0_spareLines, z0_steps, .ref a0_now, .ref a0_trial, z0_past, z0_images, z0_round, z0_seating, z0_fitting, z0_imagesKept, z0_refusedSteps, z0_callsNoSuch, .int v0_callsIllegal])), (a0_trial, .inr (1, [.ref a0_trial_row, z0_trial_owedEach, .ref a0_ground, .ref a0_rule])), (a0_now, .inr (1, [.ref a0_now_row, z0_now_owedEach, .ref a0_ground, .ref a0_rule])), (a0_now_row, .inl (cyI, 64, .inl f0_now_row)), (a0_trial_row, .inl (cyI, 64, .inl f0_trial_row)), (a0_ground, .inr (2, [z0_ground_formX, z0_ground_formY, z0_ground_foxX, z0_ground_foxY, z0_ground_seat, z0_ground_strength, z0_ground_debts, z0_ground_near, z0_ground_forms, .int v0_ground_hares, z0_ground_foxes, z0_ground_safe]))] := hD.sub [0, 4, 1, 2, 3, 5] (by decide) rfl
      generalize H1 = H at hP hS ⊢
      exact vx_ret (W.widen (k := 2) (n := 12) (Nat.le_of_ble_eq_true rfl) (Nat.le_of_ble_eq_true rfl) (W.iret (v := r9) hx hb hr (fun t ht hW => ⟨⟨r9, (v0_callsIllegal, f0_trial_row, (.ref a0_ground), (.ref a0_rule)), rfl, hw, by rw [ht]; exact hP, va_K.moved hW.alike hK, hD⟩, hS.F ht⟩) hS.2.2 dX10_ahead_95))
    · have hw := hw.2 c4
      refine lv_aload_n hx hb dX10_ahead_33 rfl (lv_at hl 0 rfl) ?_
      refine va_get (D := (dC, dI)) (ci := 10) (v := .ref a0_trial) (C := RX10) (T := TX10) (N := 19) hx hb hts ui_X10_ahead_X10 hown hK hP 0 rfl rfl 9 (by decide) (hts _ uw_X10_ahead_f62) (fun _ h9 => h9) rfl dX10_ahead_34 ?_
      have hPc := hP.sub (ws' := [(a0_trial, .inr (1, [.ref a0_trial_row, z0_trial_owedEach, .ref a0_ground, .ref a0_rule])), (a0_ground, .inr (2, [z0_ground_formX, z0_ground_formY, z0_ground_foxX, z0_ground_foxY, z0_ground_seat, z0_ground_strength, z0_ground_debts, z0_ground_near, z0_ground_forms, .int v0_ground_hares, z0_ground_foxes, z0_ground_safe])), (a0_trial_row, .inl (cyI, 64, .inl f0_trial_row))]) [1, 5, 4] rfl
      have hDc := hD.sub (ws' := [(a0_trial, .inr (1, [.ref a0_trial_row, z0_trial_owedEach, .ref a0_ground, .ref a0_rule])), (a0_ground, .inr (2, [z0_ground_formX, z0_ground_formY, z0_ground_foxX, z0_ground_foxY, z0_ground_seat, z0_ground_strength, z0_ground_debts, z0_ground_near, z0_ground_forms, .int v0_ground_hares, z0_ground_foxes, z0_ground_safe])), (a0_trial_row, .inl (cyI, 64, .inl f0_trial_row))]) [1, 5, 4] (by decide) rfl
      have hFc := va_free (wc := [(a0_trial, .inr (1, [.ref a0_trial_row, z0_trial_owedEach, .ref a0_ground, .ref a0_rule])), (a0_ground, .inr (2, [z0_ground_formX, z0_ground_formY, z0_ground_foxX, z0_ground_foxY, z0_ground_seat, z0_ground_strength, z0_ground_debts, z0_ground_near, z0_ground_forms, .int v0_ground_hares, z0_ground_foxes, z0_ground_safe])), (a0_trial_row, .inl (cyI, 64, .inl f0_trial_row))]) hD hS hA [1, 5, 4] rfl
      refine va_callv (va_runV (As := []) (rest := []) ⟨hx, hb, hml, hown, hts⟩ (ck_X1_passDay l dC dI cyB cyI cyJ cyP a0_trial a0_ground a0_trial_row H.size (z0_trial_owedEach) (.ref a0_rule) (z0_ground_formX) (z0_ground_formY) (z0_ground_foxX) (z0_ground_foxY) (z0_ground_seat) (z0_ground_strength) (z0_ground_debts) (z0_ground_near) (z0_ground_forms) (z0_ground_foxes) (z0_ground_safe) v0_ground_hares f0_trial_row  hw) (cwV 0 hts gX10_ahead_X1_passDay rfl rfl rfl (by decide +kernel) ⟨Nat.le_of_ble_eq_true rfl, Nat.le_of_ble_eq_true rfl⟩) ⟨cPc_blind, va_recv hK hPc (ci := 1) (q0 := 0) rfl rfl, cPc_pre hPc hK hDc hNw⟩ rfl rfl hl.1 rfl (lv_room (Nat.le_of_ble_eq_true rfl)) dX10_ahead_37 ⟨Nat.le_of_ble_eq_true rfl, Nat.le_of_ble_eq_true rfl⟩) hS (fun q _ h => hFc q h) hFc (fun u t H1 locs ht hvm hw hB hz1 hk1 hS => ?_)
      obtain ⟨f10, rfl⟩ : ∃ z, z = u := ⟨_, rfl⟩
      obtain ⟨hP1, hK1, hD1⟩ := hB
      rw [ht] at hP1
      obtain ⟨hP, hD⟩ := va_join (wr := [(a0, .inr (10, [z0_tape, z0_ground, z0_spareGround, z0_rule, z0_spareRule, z0_lines, z0_spareLines, z0_steps, .ref a0_now, .ref a0_trial, z0_past, z0_images, z0_round, z0_seating, z0_fitting, z0_imagesKept, z0_refusedSteps, z0_callsNoSuch, .int v0_callsIllegal])), (a0_now, .inr (1, [.ref a0_now_row, z0_now_owedEach, .ref a0_ground, .ref a0_rule])), (a0_now_row, .inl (cyI, 64, .inl f0_now_row))]) (w1 := [(a0_trial, .inr (1, [.ref a0_trial_row, z0_trial_owedEach, .ref a0_ground, .ref a0_rule])), (a0_ground, .inr (2, [z0_ground_formX, z0_ground_formY, z0_ground_foxX, z0_ground_foxY, z0_ground_seat, z0_ground_strength, z0_ground_debts, z0_ground_near, z0_ground_forms, .int v0_ground_hares, z0_ground_foxes, z0_ground_safe])), (a0_trial_row, .inl (cyI, 64, .inl f10))]) hP hD [1, 5, 4] [0, 2, 3] rfl rfl (by decide) (by decide) hk1 hFc hP1 hD1
      have hP : va_P (dC, dI) vwCl [(a0, .inr (10, [z0_tape, z0_ground, z0_spareGround, z0_rule, z0_spareRule, z0_lines, z0_spareLines, z0_steps, .ref a0_now, .ref a0_trial, z0_past, z0_images, z0_round, z0_seating, z0_fitting, z0_imagesKept, z0_refusedSteps, z0_callsNoSuch, .int v0_callsIllegal])), (a0_trial, .inr (1, [.ref a0_trial_row, z0_trial_owedEach, .ref a0_ground, .ref a0_rule])), (a0_now, .inr (1, [.ref a0_now_row, z0_now_owedEach, .ref a0_ground, .ref a0_rule])), (a0_now_row, .inl (cyI, 64, .inl f0_now_row)), (a0_trial_row, .inl (cyI, 64, .inl f10)), (a0_ground, .inr (2, [z0_ground_formX, z0_ground_formY, z0_ground_foxX, z0_ground_foxY, z0_ground_seat, z0_ground_strength, z0_ground_debts, z0_ground_near, z0_ground_forms, .int v0_ground_hares, z0_ground_foxes, z0_ground_safe]))] H1 := hP.sub [0, 3, 1, 2, 5, 4] rfl
      have hD : va_D A [(a0, .inr (10, [z0_tape, z0_ground, z0_spareGround, z0_rule, z0_spareRule, z0_lines, z0_spareLines, z0_steps, .ref a0_now, .ref a0_trial, z0_past, z0_images, z0_round, z0_seating, z0_fitting, z0_imagesKept, z0_refusedSteps, z0_callsNoSuch, .int v0_callsIllegal])), (a0_trial, .inr (1, [.ref a0_trial_row, z0_trial_owedEach, .ref a0_ground, .ref a0_rule])), (a0_now, .inr (1, [.ref a0_now_row, z0_now_owedEach, .ref a0_ground, .ref a0_rule])), (a0_now_row, .inl (cyI, 64, .inl f0_now_row)), (a0_trial_row, .inl (cyI, 64, .inl f10)), (a0_ground, .inr (2, [z0_ground_formX, z0_ground_formY, z0_ground_foxX, z0_ground_foxY, z0_ground_seat, z0_ground_strength, z0_ground_debts, z0_ground_near, z0_ground_forms, .int v0_ground_hares, z0_ground_foxes, z0_ground_safe]))] := hD.sub [0, 3, 1, 2, 5, 4] (by decide) rfl
      generalize H1 = H at hP hS ⊢
      obtain ⟨x11, ex11⟩ : ∃ y : Int32, y = l3 + 1 := ⟨_, rfl⟩
      have hw := hw x11 ex11
      refine lv_iinc (v := x11) (lv' := [(3, .int x11), (0, .ref a0), (1, .int l1), (2, .int l2)]) hx hb dX10_ahead_40 hl (k := 3) rfl (by rw [ex11]; rfl) (by decide) rfl (fun ls hl => ?_)
      refine lv_goto (tgt := 28) hx hb dX10_ahead_43 (by decide) ?_
      exact ih _ _ _ v0_callsIllegal f10 (.ref a0_ground) (.ref a0_rule) l1 l2 x11 hP hD hS (lv_sub hl [1, 2, 3, 0] rfl) hw
def wq_X10_ahead (a0_ground : Nat) (a0_rule : Nat) (f0_now_row : Nat → Int32) (v0_ground_hares : Int32) (v0_callsIllegal : Int32) (f0_trial_row : Nat → Int32) (r0_trial_down : Value) (r0_trial_law : Value) (p1 : Int32) (p2 : Int32) (E : String → Int32 → (Nat → Int32) → Value → Value → Prop) (Q : Int32 → Int32 → (Nat → Int32) → Value → Value → Prop) : Prop := wq_X10_needWithin  v0_callsIllegal p1 0 99 (fun en x1 => E en x1 f0_trial_row r0_trial_down r0_trial_law) (fun x1 => wq_X10_needWithin  x1 p2 0 2 (fun en x2 => E en x2 f0_trial_row r0_trial_down r0_trial_law) (fun x2 => wq_X1_copyFrom f0_now_row f0_trial_row  (fun f3 => (∃ k9 : Nat, wl_X10_ahead_28 a0_ground a0_rule f0_now_row v0_ground_hares E Q  k9 x2 f3 (.ref a0_ground) (.ref a0_rule) p1 p2 0))))
set_option maxHeartbeats 4000000 in
set_option maxRecDepth 100000 in
theorem ck_X10_ahead (l : Launch) (dC : Nat → ClassId) (dI : Nat → Nat → Nat) (cyB cyI cyJ cyP : ClassId) (a0 a0_trial a0_now a0_now_row a0_trial_row a0_ground a0_rule : Nat) (sz : Nat) (z0_tape : Value) (z0_ground : Value) (z0_spareGround : Value) (z0_rule : Value) (z0_spareRule : Value) (z0_lines : Value) (z0_spareLines : Value) (z0_steps : Value) (z0_past : Value) (z0_images : Value) (z0_round : Value) (z0_seating : Value) (z0_fitting : Value) (z0_imagesKept : Value) (z0_refusedSteps : Value) (z0_callsNoSuch : Value) (z0_trial_owedEach : Value) (z0_now_owedEach : Value) (z0_ground_formX : Value) (z0_ground_formY : Value) (z0_ground_foxX : Value) (z0_ground_foxY : Value) (z0_ground_seat : Value) (z0_ground_strength : Value) (z0_ground_debts : Value) (z0_ground_near : Value) (z0_ground_forms : Value) (z0_ground_foxes : Value) (z0_ground_safe : Value) (f0_now_row : Nat → Int32) (v0_ground_hares : Int32) (v0_callsIllegal : Int32) (f0_trial_row : Nat → Int32) (r0_trial_down : Value) (r0_trial_law : Value) (p1 : Int32) (p2 : Int32) {E : String → Int32 → (Nat → Int32) → Value → Value → Prop} {Q : Int32 → Int32 → (Nat → Int32) → Value → Value → Prop} (hw : wq_X10_ahead a0_ground a0_rule f0_now_row v0_ground_hares v0_callsIllegal f0_trial_row r0_trial_down r0_trial_law p1 p2 E Q) : vx_Met l yX10_ahead wsX10_ahead ({ frames := 8, cells := 2, slots := 12, locals := 164 }) (va_Pc [.ref a0, .int p1, .int p2] (cPx l (dC, dI) (kT cyB cyI cyJ cyP) [(a0, .inr (10, [z0_tape, z0_ground, z0_spareGround, z0_rule, z0_spareRule, z0_lines, z0_spareLines, z0_steps, .ref a0_now, .ref a0_trial, z0_past, z0_images, z0_round, z0_seating, z0_fitting, z0_imagesKept, z0_refusedSteps, z0_callsNoSuch, .int v0_callsIllegal])), (a0_trial, .inr (1, [.ref a0_trial_row, z0_trial_owedEach, r0_trial_down, r0_trial_law])), (a0_now, .inr (1, [.ref a0_now_row, z0_now_owedEach, .ref a0_ground, .ref a0_rule])), (a0_now_row, .inl (cyI, 64, .inl f0_now_row)), (a0_trial_row, .inl (cyI, 64, .inl f0_trial_row)), (a0_ground, .inr (2, [z0_ground_formX, z0_ground_formY, z0_ground_foxX, z0_ground_foxY, z0_ground_seat, z0_ground_strength, z0_ground_debts, z0_ground_near, z0_ground_forms, .int v0_ground_hares, z0_ground_foxes, z0_ground_safe]))] sz)) (va_Qi (fun (r : Int32) (u : Int32 × (Nat → Int32) × Value × Value) => Q r u.1 u.2.1 u.2.2.1 u.2.2.2) (cB (dC, dI) (kT cyB cyI cyJ cyP) (va_A [(a0, .inr (10, [z0_tape, z0_ground, z0_spareGround, z0_rule, z0_spareRule, z0_lines, z0_spareLines, z0_steps, .ref a0_now, .ref a0_trial, z0_past, z0_images, z0_round, z0_seating, z0_fitting, z0_imagesKept, z0_refusedSteps, z0_callsNoSuch, .int v0_callsIllegal])), (a0_trial, .inr (1, [.ref a0_trial_row, z0_trial_owedEach, r0_trial_down, r0_trial_law])), (a0_now, .inr (1, [.ref a0_now_row, z0_now_owedEach, .ref a0_ground, .ref a0_rule])), (a0_now_row, .inl (cyI, 64, .inl f0_now_row)), (a0_trial_row, .inl (cyI, 64, .inl f0_trial_row)), (a0_ground, .inr (2, [z0_ground_formX, z0_ground_formY, z0_ground_foxX, z0_ground_foxY, z0_ground_seat, z0_ground_strength, z0_ground_debts, z0_ground_near, z0_ground_forms, .int v0_ground_hares, z0_ground_foxes, z0_ground_safe]))] sz) (fun u : Int32 × (Nat → Int32) × Value × Value => ([(a0, .inr (10, [z0_tape, z0_ground, z0_spareGround, z0_rule, z0_spareRule, z0_lines, z0_spareLines, z0_steps, .ref a0_now, .ref a0_trial, z0_past, z0_images, z0_round, z0_seating, z0_fitting, z0_imagesKept, z0_refusedSteps, z0_callsNoSuch, .int u.1])), (a0_trial, .inr (1, [.ref a0_trial_row, z0_trial_owedEach, u.2.2.1, u.2.2.2])), (a0_now, .inr (1, [.ref a0_now_row, z0_now_owedEach, .ref a0_ground, .ref a0_rule])), (a0_now_row, .inl (cyI, 64, .inl f0_now_row)), (a0_trial_row, .inl (cyI, 64, .inl u.2.1)), (a0_ground, .inr (2, [z0_ground_formX, z0_ground_formY, z0_ground_foxX, z0_ground_foxY, z0_ground_seat, z0_ground_strength, z0_ground_debts, z0_ground_near, z0_ground_forms, .int v0_ground_hares, z0_ground_foxes, z0_ground_safe]))] : va_W))) (va_A [(a0, .inr (10, [z0_tape, z0_ground, z0_spareGround, z0_rule, z0_spareRule, z0_lines, z0_spareLines, z0_steps, .ref a0_now, .ref a0_trial, z0_past, z0_images, z0_round, z0_seating, z0_fitting, z0_imagesKept, z0_refusedSteps, z0_callsNoSuch, .int v0_callsIllegal])), (a0_trial, .inr (1, [.ref a0_trial_row, z0_trial_owedEach, r0_trial_down, r0_trial_law])), (a0_now, .inr (1, [.ref a0_now_row, z0_now_owedEach, .ref a0_ground, .ref a0_rule])), (a0_now_row, .inl (cyI, 64, .inl f0_now_row)), (a0_trial_row, .inl (cyI, 64, .inl f0_trial_row)), (a0_ground, .inr (2, [z0_ground_formX, z0_ground_formY, z0_ground_foxX, z0_ground_foxY, z0_ground_seat, z0_ground_strength, z0_ground_debts, z0_ground_near, z0_ground_forms, .int v0_ground_hares, z0_ground_foxes, z0_ground_safe]))] sz)) (vx_X (fun _ => True) (fun (en : String) (u : Int32 × (Nat → Int32) × Value × Value) (t : State) => E en u.1 u.2.1 u.2.2.1 u.2.2.2 ∧ cB (dC, dI) (kT cyB cyI cyJ cyP) (va_A [(a0, .inr (10, [z0_tape, z0_ground, z0_spareGround, z0_rule, z0_spareRule, z0_lines, z0_spareLines, z0_steps, .ref a0_now, .ref a0_trial, z0_past, z0_images, z0_round, z0_seating, z0_fitting, z0_imagesKept, z0_refusedSteps, z0_callsNoSuch, .int v0_callsIllegal])), (a0_trial, .inr (1, [.ref a0_trial_row, z0_trial_owedEach, r0_trial_down, r0_trial_law])), (a0_now, .inr (1, [.ref a0_now_row, z0_now_owedEach, .ref a0_ground, .ref a0_rule])), (a0_now_row, .inl (cyI, 64, .inl f0_now_row)), (a0_trial_row, .inl (cyI, 64, .inl f0_trial_row)), (a0_ground, .inr (2, [z0_ground_formX, z0_ground_formY, z0_ground_foxX, z0_ground_foxY, z0_ground_seat, z0_ground_strength, z0_ground_debts, z0_ground_near, z0_ground_forms, .int v0_ground_hares, z0_ground_foxes, z0_ground_safe]))] sz) (fun u : Int32 × (Nat → Int32) × Value × Value => ([(a0, .inr (10, [z0_tape, z0_ground, z0_spareGround, z0_rule, z0_spareRule, z0_lines, z0_spareLines, z0_steps, .ref a0_now, .ref a0_trial, z0_past, z0_images, z0_round, z0_seating, z0_fitting, z0_imagesKept, z0_refusedSteps, z0_callsNoSuch, .int u.1])), (a0_trial, .inr (1, [.ref a0_trial_row, z0_trial_owedEach, u.2.2.1, u.2.2.2])), (a0_now, .inr (1, [.ref a0_now_row, z0_now_owedEach, .ref a0_ground, .ref a0_rule])), (a0_now_row, .inl (cyI, 64, .inl f0_now_row)), (a0_trial_row, .inl (cyI, 64, .inl u.2.1)), (a0_ground, .inr (2, [z0_ground_formX, z0_ground_formY, z0_ground_foxX, z0_ground_foxY, z0_ground_seat, z0_ground_strength, z0_ground_debts, z0_ground_near, z0_ground_forms, .int v0_ground_hares, z0_ground_foxes, z0_ground_safe]))] : va_W)) u t) (va_A [(a0, .inr (10, [z0_tape, z0_ground, z0_spareGround, z0_rule, z0_spareRule, z0_lines, z0_spareLines, z0_steps, .ref a0_now, .ref a0_trial, z0_past, z0_images, z0_round, z0_seating, z0_fitting, z0_imagesKept, z0_refusedSteps, z0_callsNoSuch, .int v0_callsIllegal])), (a0_trial, .inr (1, [.ref a0_trial_row, z0_trial_owedEach, r0_trial_down, r0_trial_law])), (a0_now, .inr (1, [.ref a0_now_row, z0_now_owedEach, .ref a0_ground, .ref a0_rule])), (a0_now_row, .inl (cyI, 64, .inl f0_now_row)), (a0_trial_row, .inl (cyI, 64, .inl f0_trial_row)), (a0_ground, .inr (2, [z0_ground_formX, z0_ground_formY, z0_ground_foxX, z0_ground_foxY, z0_ground_seat, z0_ground_strength, z0_ground_debts, z0_ground_near, z0_ground_forms, .int v0_ground_hares, z0_ground_foxes, z0_ground_safe]))] sz)) 2 12 (va_A [(a0, .inr (10, [z0_tape, z0_ground, z0_spareGround, z0_rule, z0_spareRule, z0_lines, z0_spareLines, z0_steps, .ref a0_now, .ref a0_trial, z0_past, z0_images, z0_round, z0_seating, z0_fitting, z0_imagesKept, z0_refusedSteps, z0_callsNoSuch, .int v0_callsIllegal])), (a0_trial, .inr (1, [.ref a0_trial_row, z0_trial_owedEach, r0_trial_down, r0_trial_law])), (a0_now, .inr (1, [.ref a0_now_row, z0_now_owedEach, .ref a0_ground, .ref a0_rule])), (a0_now_row, .inl (cyI, 64, .inl f0_now_row)), (a0_trial_row, .inl (cyI, 64, .inl f0_trial_row)), (a0_ground, .inr (2, [z0_ground_formX, z0_ground_formY, z0_ground_foxX, z0_ground_foxY, z0_ground_seat, z0_ground_strength, z0_ground_debts, z0_ground_near, z0_ground_forms, .int v0_ground_hares, z0_ground_foxes, z0_ground_safe]))] sz) := by
  refine vx_ofW (cc := cX10_ahead) (maxL := 4) (ret := (some .int)) (by decide) rfl ?_
  intro p e s m args below meth c s₁ B hml hnt hv
  obtain ⟨rfl, hsz, hP, hK, hD0, hNw, hXl, hXu, hXn, hXt⟩ := hv
  have hx := B.exec
  have hb := B.bytes
  have hr := B.returns
  have hts := atoms_spec (ws := wsX10_ahead) B.pre
  have hown : s.vm.findClass RX10 = some m.cls := findClass_of_methodNamed B.named
  have hlocks := B.notSynchronized
  subst hsz
  have hD := hD0.self (sz := s.heap.size)
  generalize hAe : va_A [(a0, .inr (10, [z0_tape, z0_ground, z0_spareGround, z0_rule, z0_spareRule, z0_lines, z0_spareLines, z0_steps, .ref a0_now, .ref a0_trial, z0_past, z0_images, z0_round, z0_seating, z0_fitting, z0_imagesKept, z0_refusedSteps, z0_callsNoSuch, .int v0_callsIllegal])), (a0_trial, .inr (1, [.ref a0_trial_row, z0_trial_owedEach, r0_trial_down, r0_trial_law])), (a0_now, .inr (1, [.ref a0_now_row, z0_now_owedEach, .ref a0_ground, .ref a0_rule])), (a0_now_row, .inl (cyI, 64, .inl f0_now_row)), (a0_trial_row, .inl (cyI, 64, .inl f0_trial_row)), (a0_ground, .inr (2, [z0_ground_formX, z0_ground_formY, z0_ground_foxX, z0_ground_foxY, z0_ground_seat, z0_ground_strength, z0_ground_debts, z0_ground_near, z0_ground_forms, .int v0_ground_hares, z0_ground_foxes, z0_ground_safe]))] s.heap.size = A at hD hXu hXn ⊢
  have hA : ∀ q : Nat, s.heap.size ≤ q → A q := fun q h => by rw [← hAe]; exact Or.inr h
  have hS : va_S A s.heap s.heap [] := va_S.rf
  have hP : va_P (dC, dI) vwCl [(a0, .inr (10, [z0_tape, z0_ground, z0_spareGround, z0_rule, z0_spareRule, z0_lines, z0_spareLines, z0_steps, .ref a0_now, .ref a0_trial, z0_past, z0_images, z0_round, z0_seating, z0_fitting, z0_imagesKept, z0_refusedSteps, z0_callsNoSuch, .int v0_callsIllegal])), (a0_trial, .inr (1, [.ref a0_trial_row, z0_trial_owedEach, r0_trial_down, r0_trial_law])), (a0_now, .inr (1, [.ref a0_now_row, z0_now_owedEach, .ref a0_ground, .ref a0_rule])), (a0_now_row, .inl (cyI, 64, .inl f0_now_row)), (a0_trial_row, .inl (cyI, 64, .inl f0_trial_row)), (a0_ground, .inr (2, [z0_ground_formX, z0_ground_formY, z0_ground_foxX, z0_ground_foxY, z0_ground_seat, z0_ground_strength, z0_ground_debts, z0_ground_near, z0_ground_forms, .int v0_ground_hares, z0_ground_foxes, z0_ground_safe]))] s.heap := hP
  have hl := lv_entry ([.ref a0, .int p1, .int p2]) (n := 4) (Nat.le_of_ble_eq_true rfl)
  rw [lg_entry_eq]
  generalize (lg_sl ([.ref a0, .int p1, .int p2]) ++ List.replicate (4 - (lg_sl ([.ref a0, .int p1, .int p2])).length) Slot.unset).toArray = ls at hl ⊢
  have hl : lv_has ls 4 [(0, .ref a0), (1, .int p1), (2, .int p2)] := hl
  have hY : cfY l s A := ⟨hXl, hXu, hXn, hXt⟩
  have hXs : cfX l s c A := ⟨hnt, hY⟩
  have C0 : cfx p s m _ meth c cX10_ahead (some .int) wsX10_ahead RX10 4 A (dC, dI) (kT cyB cyI cyJ cyP) ∧ cfX l s c A := ⟨⟨hx, hb, hr, hts, hown, hlocks, hml, hA, hK, hNw⟩, hXs⟩
  clear hAe
  obtain ⟨H, hH⟩ : ∃ H, H = s.heap := ⟨_, rfl⟩
  rw [← hH] at hP ⊢
  have hS : va_S A s.heap H [] := by rw [hH]; exact va_S.rf
  have hS := hS
  refine lv_aload_n hx hb dX10_ahead_0 rfl (lv_at hl 0 rfl) ?_
  refine lv_iload_n hx hb dX10_ahead_1 rfl (lv_at hl 1 rfl) ?_
  refine lv_iconst (v := 0) hx hb dX10_ahead_2 (by decide) ?_
  refine lv_bipush (v := 99) hx hb dX10_ahead_3 (by decide) ?_
  have hPc := hP.sub (ws' := [(a0, .inr (10, [z0_tape, z0_ground, z0_spareGround, z0_rule, z0_spareRule, z0_lines, z0_spareLines, z0_steps, .ref a0_now, .ref a0_trial, z0_past, z0_images, z0_round, z0_seating, z0_fitting, z0_imagesKept, z0_refusedSteps, z0_callsNoSuch, .int v0_callsIllegal]))]) [0] rfl
  have hDc := hD.sub (ws' := [(a0, .inr (10, [z0_tape, z0_ground, z0_spareGround, z0_rule, z0_spareRule, z0_lines, z0_spareLines, z0_steps, .ref a0_now, .ref a0_trial, z0_past, z0_images, z0_round, z0_seating, z0_fitting, z0_imagesKept, z0_refusedSteps, z0_callsNoSuch, .int v0_callsIllegal]))]) [0] (by decide) rfl
  have hFc := va_free (wc := [(a0, .inr (10, [z0_tape, z0_ground, z0_spareGround, z0_rule, z0_spareRule, z0_lines, z0_spareLines, z0_steps, .ref a0_now, .ref a0_trial, z0_past, z0_images, z0_round, z0_seating, z0_fitting, z0_imagesKept, z0_refusedSteps, z0_callsNoSuch, .int v0_callsIllegal]))]) hD hS hA [0] rfl
  refine vx_callv (vx_runV (As := [.int p1, .int 0, .int 99]) (rest := []) ⟨hx, hb, hml, hown, hts⟩ (ck_X10_needWithin l dC dI cyB cyI cyJ cyP a0 H.size (z0_tape) (z0_ground) (z0_spareGround) (z0_rule) (z0_spareRule) (z0_lines) (z0_spareLines) (z0_steps) (.ref a0_now) (.ref a0_trial) (z0_past) (z0_images) (z0_round) (z0_seating) (z0_fitting) (z0_imagesKept) (z0_refusedSteps) (z0_callsNoSuch)  v0_callsIllegal p1 0 99 hw) (cwV 3 hts gX10_ahead_X10_needWithin rfl rfl rfl (by decide +kernel) ⟨Nat.le_of_ble_eq_true rfl, Nat.le_of_ble_eq_true rfl⟩) ⟨cPx_blind, va_recv hK hPc (ci := 10) (q0 := 0) rfl rfl, cPx_pre hPc hK hDc hNw hY hS hFc⟩ rfl rfl hl.1 rfl (lv_room (Nat.le_of_ble_eq_true rfl)) dX10_ahead_5 ⟨Nat.le_of_ble_eq_true rfl, Nat.le_of_ble_eq_true rfl⟩) hS (fun q _ h => hFc q h) hFc (fun q _ h => hFc q h) (fun en ce q9 u t H1 locs ht hvm hpx hB hz1 hk1 hS hc9 hv9 hcl9 => ?_) (fun u t H1 locs ht hvm hw hB hz1 hk1 hS => ?_)
  · obtain ⟨x1, rfl⟩ : ∃ z, z = u := ⟨_, rfl⟩
    obtain ⟨hw, hP1, hK1, hD1⟩ := hB
    rw [ht] at hP1
    obtain ⟨hP, hD⟩ := va_join (wr := [(a0_trial, .inr (1, [.ref a0_trial_row, z0_trial_owedEach, r0_trial_down, r0_trial_law])), (a0_now, .inr (1, [.ref a0_now_row, z0_now_owedEach, .ref a0_ground, .ref a0_rule])), (a0_now_row, .inl (cyI, 64, .inl f0_now_row)), (a0_trial_row, .inl (cyI, 64, .inl f0_trial_row)), (a0_ground, .inr (2, [z0_ground_formX, z0_ground_formY, z0_ground_foxX, z0_ground_foxY, z0_ground_seat, z0_ground_strength, z0_ground_debts, z0_ground_near, z0_ground_forms, .int v0_ground_hares, z0_ground_foxes, z0_ground_safe]))]) (w1 := [(a0, .inr (10, [z0_tape, z0_ground, z0_spareGround, z0_rule, z0_spareRule, z0_lines, z0_spareLines, z0_steps, .ref a0_now, .ref a0_trial, z0_past, z0_images, z0_round, z0_seating, z0_fitting, z0_imagesKept, z0_refusedSteps, z0_callsNoSuch, .int x1]))]) hP hD [0] [1, 2, 3, 4, 5] rfl rfl (by decide) (by decide) hk1 hFc hP1 hD1
    have hP : va_P (dC, dI) vwCl [(a0, .inr (10, [z0_tape, z0_ground, z0_spareGround, z0_rule, z0_spareRule, z0_lines, z0_spareLines, z0_steps, .ref a0_now, .ref a0_trial, z0_past, z0_images, z0_round, z0_seating, z0_fitting, z0_imagesKept, z0_refusedSteps, z0_callsNoSuch, .int x1])), (a0_trial, .inr (1, [.ref a0_trial_row, z0_trial_owedEach, r0_trial_down, r0_trial_law])), (a0_now, .inr (1, [.ref a0_now_row, z0_now_owedEach, .ref a0_ground, .ref a0_rule])), (a0_now_row, .inl (cyI, 64, .inl f0_now_row)), (a0_trial_row, .inl (cyI, 64, .inl f0_trial_row)), (a0_ground, .inr (2, [z0_ground_formX, z0_ground_formY, z0_ground_foxX, z0_ground_foxY, z0_ground_seat, z0_ground_strength, z0_ground_debts, z0_ground_near, z0_ground_forms, .int v0_ground_hares, z0_ground_foxes, z0_ground_safe]))] H1 := hP.sub [5, 0, 1, 2, 3, 4] rfl
    have hD : va_D A [(a0, .inr (10, [z0_tape, z0_ground, z0_spareGround, z0_rule, z0_spareRule, z0_lines, z0_spareLines, z0_steps, .ref a0_now, .ref a0_trial, z0_past, z0_images, z0_round, z0_seating, z0_fitting, z0_imagesKept, z0_refusedSteps, z0_callsNoSuch, .int x1])), (a0_trial, .inr (1, [.ref a0_trial_row, z0_trial_owedEach, r0_trial_down, r0_trial_law])), (a0_now, .inr (1, [.ref a0_now_row, z0_now_owedEach, .ref a0_ground, .ref a0_rule])), (a0_now_row, .inl (cyI, 64, .inl f0_now_row)), (a0_trial_row, .inl (cyI, 64, .inl f0_trial_row)), (a0_ground, .inr (2, [z0_ground_formX, z0_ground_formY, z0_ground_foxX, z0_ground_foxY, z0_ground_seat, z0_ground_strength, z0_ground_debts, z0_ground_near, z0_ground_forms, .int v0_ground_hares, z0_ground_foxes, z0_ground_safe]))] := hD.sub [5, 0, 1, 2, 3, 4] (by decide) rfl
    generalize H1 = H at hP hS hc9 ⊢
    exact vx_out (fun x hx9 => (hXs.1 x hx9).elim) hlocks hc9 hv9 hcl9 (fun t2 ht2 hal2 => ⟨(x1, f0_trial_row, r0_trial_down, r0_trial_law), trivial, ⟨hw, by rw [ht2]; exact hP, va_K.moved hal2 hK, hD⟩, hS.F ht2⟩) hS.2.2 (Nat.le_of_ble_eq_true rfl) (Nat.le_of_ble_eq_true rfl)
  obtain ⟨x1, rfl⟩ : ∃ z, z = u := ⟨_, rfl⟩
  obtain ⟨hP1, hK1, hD1⟩ := hB
  rw [ht] at hP1
  obtain ⟨hP, hD⟩ := va_join (wr := [(a0_trial, .inr (1, [.ref a0_trial_row, z0_trial_owedEach, r0_trial_down, r0_trial_law])), (a0_now, .inr (1, [.ref a0_now_row, z0_now_owedEach, .ref a0_ground, .ref a0_rule])), (a0_now_row, .inl (cyI, 64, .inl f0_now_row)), (a0_trial_row, .inl (cyI, 64, .inl f0_trial_row)), (a0_ground, .inr (2, [z0_ground_formX, z0_ground_formY, z0_ground_foxX, z0_ground_foxY, z0_ground_seat, z0_ground_strength, z0_ground_debts, z0_ground_near, z0_ground_forms, .int v0_ground_hares, z0_ground_foxes, z0_ground_safe]))]) (w1 := [(a0, .inr (10, [z0_tape, z0_ground, z0_spareGround, z0_rule, z0_spareRule, z0_lines, z0_spareLines, z0_steps, .ref a0_now, .ref a0_trial, z0_past, z0_images, z0_round, z0_seating, z0_fitting, z0_imagesKept, z0_refusedSteps, z0_callsNoSuch, .int x1]))]) hP hD [0] [1, 2, 3, 4, 5] rfl rfl (by decide) (by decide) hk1 hFc hP1 hD1
  have hP : va_P (dC, dI) vwCl [(a0, .inr (10, [z0_tape, z0_ground, z0_spareGround, z0_rule, z0_spareRule, z0_lines, z0_spareLines, z0_steps, .ref a0_now, .ref a0_trial, z0_past, z0_images, z0_round, z0_seating, z0_fitting, z0_imagesKept, z0_refusedSteps, z0_callsNoSuch, .int x1])), (a0_trial, .inr (1, [.ref a0_trial_row, z0_trial_owedEach, r0_trial_down, r0_trial_law])), (a0_now, .inr (1, [.ref a0_now_row, z0_now_owedEach, .ref a0_ground, .ref a0_rule])), (a0_now_row, .inl (cyI, 64, .inl f0_now_row)), (a0_trial_row, .inl (cyI, 64, .inl f0_trial_row)), (a0_ground, .inr (2, [z0_ground_formX, z0_ground_formY, z0_ground_foxX, z0_ground_foxY, z0_ground_seat, z0_ground_strength, z0_ground_debts, z0_ground_near, z0_ground_forms, .int v0_ground_hares, z0_ground_foxes, z0_ground_safe]))] H1 := hP.sub [5, 0, 1, 2, 3, 4] rfl
  have hD : va_D A [(a0, .inr (10, [z0_tape, z0_ground, z0_spareGround, z0_rule, z0_spareRule, z0_lines, z0_spareLines, z0_steps, .ref a0_now, .ref a0_trial, z0_past, z0_images, z0_round, z0_seating, z0_fitting, z0_imagesKept, z0_refusedSteps, z0_callsNoSuch, .int x1])), (a0_trial, .inr (1, [.ref a0_trial_row, z0_trial_owedEach, r0_trial_down, r0_trial_law])), (a0_now, .inr (1, [.ref a0_now_row, z0_now_owedEach, .ref a0_ground, .ref a0_rule])), (a0_now_row, .inl (cyI, 64, .inl f0_now_row)), (a0_trial_row, .inl (cyI, 64, .inl f0_trial_row)), (a0_ground, .inr (2, [z0_ground_formX, z0_ground_formY, z0_ground_foxX, z0_ground_foxY, z0_ground_seat, z0_ground_strength, z0_ground_debts, z0_ground_near, z0_ground_forms, .int v0_ground_hares, z0_ground_foxes, z0_ground_safe]))] := hD.sub [5, 0, 1, 2, 3, 4] (by decide) rfl
  generalize H1 = H at hP hS ⊢
  refine lv_aload_n hx hb dX10_ahead_8 rfl (lv_at hl 0 rfl) ?_
  refine lv_iload_n hx hb dX10_ahead_9 rfl (lv_at hl 2 rfl) ?_
  refine lv_iconst (v := 0) hx hb dX10_ahead_10 (by decide) ?_
  refine lv_iconst (v := 2) hx hb dX10_ahead_11 (by decide) ?_
  have hPc := hP.sub (ws' := [(a0, .inr (10, [z0_tape, z0_ground, z0_spareGround, z0_rule, z0_spareRule, z0_lines, z0_spareLines, z0_steps, .ref a0_now, .ref a0_trial, z0_past, z0_images, z0_round, z0_seating, z0_fitting, z0_imagesKept, z0_refusedSteps, z0_callsNoSuch, .int x1]))]) [0] rfl
  have hDc := hD.sub (ws' := [(a0, .inr (10, [z0_tape, z0_ground, z0_spareGround, z0_rule, z0_spareRule, z0_lines, z0_spareLines, z0_steps, .ref a0_now, .ref a0_trial, z0_past, z0_images, z0_round, z0_seating, z0_fitting, z0_imagesKept, z0_refusedSteps, z0_callsNoSuch, .int x1]))]) [0] (by decide) rfl
  have hFc := va_free (wc := [(a0, .inr (10, [z0_tape, z0_ground, z0_spareGround, z0_rule, z0_spareRule, z0_lines, z0_spareLines, z0_steps, .ref a0_now, .ref a0_trial, z0_past, z0_images, z0_round, z0_seating, z0_fitting, z0_imagesKept, z0_refusedSteps, z0_callsNoSuch, .int x1]))]) hD hS hA [0] rfl
  refine vx_callv (vx_runV (As := [.int p2, .int 0, .int 2]) (rest := []) ⟨hx, hb, hml, hown, hts⟩ (ck_X10_needWithin l dC dI cyB cyI cyJ cyP a0 H.size (z0_tape) (z0_ground) (z0_spareGround) (z0_rule) (z0_spareRule) (z0_lines) (z0_spareLines) (z0_steps) (.ref a0_now) (.ref a0_trial) (z0_past) (z0_images) (z0_round) (z0_seating) (z0_fitting) (z0_imagesKept) (z0_refusedSteps) (z0_callsNoSuch)  x1 p2 0 2 hw) (cwV 3 hts gX10_ahead_X10_needWithin rfl rfl rfl (by decide +kernel) ⟨Nat.le_of_ble_eq_true rfl, Nat.le_of_ble_eq_true rfl⟩) ⟨cPx_blind, va_recv hK hPc (ci := 10) (q0 := 0) rfl rfl, cPx_pre hPc hK hDc hNw hY hS hFc⟩ rfl rfl hl.1 rfl (lv_room (Nat.le_of_ble_eq_true rfl)) dX10_ahead_12 ⟨Nat.le_of_ble_eq_true rfl, Nat.le_of_ble_eq_true rfl⟩) hS (fun q _ h => hFc q h) hFc (fun q _ h => hFc q h) (fun en ce q9 u t H1 locs ht hvm hpx hB hz1 hk1 hS hc9 hv9 hcl9 => ?_) (fun u t H1 locs ht hvm hw hB hz1 hk1 hS => ?_)
  · obtain ⟨x2, rfl⟩ : ∃ z, z = u := ⟨_, rfl⟩
    obtain ⟨hw, hP1, hK1, hD1⟩ := hB
    rw [ht] at hP1
    obtain ⟨hP, hD⟩ := va_join (wr := [(a0_trial, .inr (1, [.ref a0_trial_row, z0_trial_owedEach, r0_trial_down, r0_trial_law])), (a0_now, .inr (1, [.ref a0_now_row, z0_now_owedEach, .ref a0_ground, .ref a0_rule])), (a0_now_row, .inl (cyI, 64, .inl f0_now_row)), (a0_trial_row, .inl (cyI, 64, .inl f0_trial_row)), (a0_ground, .inr (2, [z0_ground_formX, z0_ground_formY, z0_ground_foxX, z0_ground_foxY, z0_ground_seat, z0_ground_strength, z0_ground_debts, z0_ground_near, z0_ground_forms, .int v0_ground_hares, z0_ground_foxes, z0_ground_safe]))]) (w1 := [(a0, .inr (10, [z0_tape, z0_ground, z0_spareGround, z0_rule, z0_spareRule, z0_lines, z0_spareLines, z0_steps, .ref a0_now, .ref a0_trial, z0_past, z0_images, z0_round, z0_seating, z0_fitting, z0_imagesKept, z0_refusedSteps, z0_callsNoSuch, .int x2]))]) hP hD [0] [1, 2, 3, 4, 5] rfl rfl (by decide) (by decide) hk1 hFc hP1 hD1
    have hP : va_P (dC, dI) vwCl [(a0, .inr (10, [z0_tape, z0_ground, z0_spareGround, z0_rule, z0_spareRule, z0_lines, z0_spareLines, z0_steps, .ref a0_now, .ref a0_trial, z0_past, z0_images, z0_round, z0_seating, z0_fitting, z0_imagesKept, z0_refusedSteps, z0_callsNoSuch, .int x2])), (a0_trial, .inr (1, [.ref a0_trial_row, z0_trial_owedEach, r0_trial_down, r0_trial_law])), (a0_now, .inr (1, [.ref a0_now_row, z0_now_owedEach, .ref a0_ground, .ref a0_rule])), (a0_now_row, .inl (cyI, 64, .inl f0_now_row)), (a0_trial_row, .inl (cyI, 64, .inl f0_trial_row)), (a0_ground, .inr (2, [z0_ground_formX, z0_ground_formY, z0_ground_foxX, z0_ground_foxY, z0_ground_seat, z0_ground_strength, z0_ground_debts, z0_ground_near, z0_ground_forms, .int v0_ground_hares, z0_ground_foxes, z0_ground_safe]))] H1 := hP.sub [5, 0, 1, 2, 3, 4] rfl
    have hD : va_D A [(a0, .inr (10, [z0_tape, z0_ground, z0_spareGround, z0_rule, z0_spareRule, z0_lines, z0_spareLines, z0_steps, .ref a0_now, .ref a0_trial, z0_past, z0_images, z0_round, z0_seating, z0_fitting, z0_imagesKept, z0_refusedSteps, z0_callsNoSuch, .int x2])), (a0_trial, .inr (1, [.ref a0_trial_row, z0_trial_owedEach, r0_trial_down, r0_trial_law])), (a0_now, .inr (1, [.ref a0_now_row, z0_now_owedEach, .ref a0_ground, .ref a0_rule])), (a0_now_row, .inl (cyI, 64, .inl f0_now_row)), (a0_trial_row, .inl (cyI, 64, .inl f0_trial_row)), (a0_ground, .inr (2, [z0_ground_formX, z0_ground_formY, z0_ground_foxX, z0_ground_foxY, z0_ground_seat, z0_ground_strength, z0_ground_debts, z0_ground_near, z0_ground_forms, .int v0_ground_hares, z0_ground_foxes, z0_ground_safe]))] := hD.sub [5, 0, 1, 2, 3, 4] (by decide) rfl
    generalize H1 = H at hP hS hc9 ⊢
    exact vx_out (fun x hx9 => (hXs.1 x hx9).elim) hlocks hc9 hv9 hcl9 (fun t2 ht2 hal2 => ⟨(x2, f0_trial_row, r0_trial_down, r0_trial_law), trivial, ⟨hw, by rw [ht2]; exact hP, va_K.moved hal2 hK, hD⟩, hS.F ht2⟩) hS.2.2 (Nat.le_of_ble_eq_true rfl) (Nat.le_of_ble_eq_true rfl)
  obtain ⟨x2, rfl⟩ : ∃ z, z = u := ⟨_, rfl⟩
  obtain ⟨hP1, hK1, hD1⟩ := hB
  rw [ht] at hP1
  obtain ⟨hP, hD⟩ := va_join (wr := [(a0_trial, .inr (1, [.ref a0_trial_row, z0_trial_owedEach, r0_trial_down, r0_trial_law])), (a0_now, .inr (1, [.ref a0_now_row, z0_now_owedEach, .ref a0_ground, .ref a0_rule])), (a0_now_row, .inl (cyI, 64, .inl f0_now_row)), (a0_trial_row, .inl (cyI, 64, .inl f0_trial_row)), (a0_ground, .inr (2, [z0_ground_formX, z0_ground_formY, z0_ground_foxX, z0_ground_foxY, z0_ground_seat, z0_ground_strength, z0_ground_debts, z0_ground_near, z0_ground_forms, .int v0_ground_hares, z0_ground_foxes, z0_ground_safe]))]) (w1 := [(a0, .inr (10, [z0_tape, z0_ground, z0_spareGround, z0_rule, z0_spareRule, z0_lines, z0_spareLines, z0_steps, .ref a0_now, .ref a0_trial, z0_past, z0_images, z0_round, z0_seating, z0_fitting, z0_imagesKept, z0_refusedSteps, z0_callsNoSuch, .int x2]))]) hP hD [0] [1, 2, 3, 4, 5] rfl rfl (by decide) (by decide) hk1 hFc hP1 hD1
  have hP : va_P (dC, dI) vwCl [(a0, .inr (10, [z0_tape, z0_ground, z0_spareGround, z0_rule, z0_spareRule, z0_lines, z0_spareLines, z0_steps, .ref a0_now, .ref a0_trial, z0_past, z0_images, z0_round, z0_seating, z0_fitting, z0_imagesKept, z0_refusedSteps, z0_callsNoSuch, .int x2])), (a0_trial, .inr (1, [.ref a0_trial_row, z0_trial_owedEach, r0_trial_down, r0_trial_law])), (a0_now, .inr (1, [.ref a0_now_row, z0_now_owedEach, .ref a0_ground, .ref a0_rule])), (a0_now_row, .inl (cyI, 64, .inl f0_now_row)), (a0_trial_row, .inl (cyI, 64, .inl f0_trial_row)), (a0_ground, .inr (2, [z0_ground_formX, z0_ground_formY, z0_ground_foxX, z0_ground_foxY, z0_ground_seat, z0_ground_strength, z0_ground_debts, z0_ground_near, z0_ground_forms, .int v0_ground_hares, z0_ground_foxes, z0_ground_safe]))] H1 := hP.sub [5, 0, 1, 2, 3, 4] rfl
  have hD : va_D A [(a0, .inr (10, [z0_tape, z0_ground, z0_spareGround, z0_rule, z0_spareRule, z0_lines, z0_spareLines, z0_steps, .ref a0_now, .ref a0_trial, z0_past, z0_images, z0_round, z0_seating, z0_fitting, z0_imagesKept, z0_refusedSteps, z0_callsNoSuch, .int x2])), (a0_trial, .inr (1, [.ref a0_trial_row, z0_trial_owedEach, r0_trial_down, r0_trial_law])), (a0_now, .inr (1, [.ref a0_now_row, z0_now_owedEach, .ref a0_ground, .ref a0_rule])), (a0_now_row, .inl (cyI, 64, .inl f0_now_row)), (a0_trial_row, .inl (cyI, 64, .inl f0_trial_row)), (a0_ground, .inr (2, [z0_ground_formX, z0_ground_formY, z0_ground_foxX, z0_ground_foxY, z0_ground_seat, z0_ground_strength, z0_ground_debts, z0_ground_near, z0_ground_forms, .int v0_ground_hares, z0_ground_foxes, z0_ground_safe]))] := hD.sub [5, 0, 1, 2, 3, 4] (by decide) rfl
  generalize H1 = H at hP hS ⊢
  refine lv_aload_n hx hb dX10_ahead_15 rfl (lv_at hl 0 rfl) ?_
  refine va_get (D := (dC, dI)) (ci := 10) (v := .ref a0_trial) (C := RX10) (T := TX10) (N := 19) hx hb hts ui_X10_ahead_X10 hown hK hP 0 rfl rfl 9 (by decide) (hts _ uw_X10_ahead_f62) (fun _ h9 => h9) rfl dX10_ahead_16 ?_
  refine lv_aload_n hx hb dX10_ahead_19 rfl (lv_at hl 0 rfl) ?_
  refine va_get (D := (dC, dI)) (ci := 10) (v := .ref a0_now) (C := RX10) (T := TX10) (N := 19) hx hb hts ui_X10_ahead_X10 hown hK hP 0 rfl rfl 8 (by decide) (hts _ uw_X10_ahead_f58) (fun _ h9 => h9) rfl dX10_ahead_20 ?_
  have hPc := hP.sub (ws' := [(a0_trial, .inr (1, [.ref a0_trial_row, z0_trial_owedEach, r0_trial_down, r0_trial_law])), (a0_now, .inr (1, [.ref a0_now_row, z0_now_owedEach, .ref a0_ground, .ref a0_rule])), (a0_now_row, .inl (cyI, 64, .inl f0_now_row)), (a0_trial_row, .inl (cyI, 64, .inl f0_trial_row))]) [1, 2, 3, 4] rfl
  have hDc := hD.sub (ws' := [(a0_trial, .inr (1, [.ref a0_trial_row, z0_trial_owedEach, r0_trial_down, r0_trial_law])), (a0_now, .inr (1, [.ref a0_now_row, z0_now_owedEach, .ref a0_ground, .ref a0_rule])), (a0_now_row, .inl (cyI, 64, .inl f0_now_row)), (a0_trial_row, .inl (cyI, 64, .inl f0_trial_row))]) [1, 2, 3, 4] (by decide) rfl
  have hFc := va_free (wc := [(a0_trial, .inr (1, [.ref a0_trial_row, z0_trial_owedEach, r0_trial_down, r0_trial_law])), (a0_now, .inr (1, [.ref a0_now_row, z0_now_owedEach, .ref a0_ground, .ref a0_rule])), (a0_now_row, .inl (cyI, 64, .inl f0_now_row)), (a0_trial_row, .inl (cyI, 64, .inl f0_trial_row))]) hD hS hA [1, 2, 3, 4] rfl
  refine va_callv (va_runV (As := [.ref a0_now]) (rest := []) ⟨hx, hb, hml, hown, hts⟩ (ck_X1_copyFrom l dC dI cyB cyI cyJ cyP a0_trial a0_now a0_ground a0_rule a0_now_row a0_trial_row H.size (z0_trial_owedEach) (r0_trial_down) (r0_trial_law) (z0_now_owedEach) f0_now_row f0_trial_row  hw) (cwV 1 hts gX10_ahead_X1_copyFrom rfl rfl rfl (by decide +kernel) ⟨Nat.le_of_ble_eq_true rfl, Nat.le_of_ble_eq_true rfl⟩) ⟨cPc_blind, va_recv hK hPc (ci := 1) (q0 := 0) rfl rfl, cPc_pre hPc hK hDc hNw⟩ rfl rfl hl.1 rfl (lv_room (Nat.le_of_ble_eq_true rfl)) dX10_ahead_23 ⟨Nat.le_of_ble_eq_true rfl, Nat.le_of_ble_eq_true rfl⟩) hS (fun q _ h => hFc q h) hFc (fun u t H1 locs ht hvm hw hB hz1 hk1 hS => ?_)
  obtain ⟨f3, rfl⟩ : ∃ z, z = u := ⟨_, rfl⟩
  obtain ⟨hP1, hK1, hD1⟩ := hB
  rw [ht] at hP1
  obtain ⟨hP, hD⟩ := va_join (wr := [(a0, .inr (10, [z0_tape, z0_ground, z0_spareGround, z0_rule, z0_spareRule, z0_lines, z0_spareLines, z0_steps, .ref a0_now, .ref a0_trial, z0_past, z0_images, z0_round, z0_seating, z0_fitting, z0_imagesKept, z0_refusedSteps, z0_callsNoSuch, .int x2])), (a0_ground, .inr (2, [z0_ground_formX, z0_ground_formY, z0_ground_foxX, z0_ground_foxY, z0_ground_seat, z0_ground_strength, z0_ground_debts, z0_ground_near, z0_ground_forms, .int v0_ground_hares, z0_ground_foxes, z0_ground_safe]))]) (w1 := [(a0_trial, .inr (1, [.ref a0_trial_row, z0_trial_owedEach, .ref a0_ground, .ref a0_rule])), (a0_now, .inr (1, [.ref a0_now_row, z0_now_owedEach, .ref a0_ground, .ref a0_rule])), (a0_now_row, .inl (cyI, 64, .inl f0_now_row)), (a0_trial_row, .inl (cyI, 64, .inl f3))]) hP hD [1, 2, 3, 4] [0, 5] rfl rfl (by decide) (by decide) hk1 hFc hP1 hD1
  have hP : va_P (dC, dI) vwCl [(a0, .inr (10, [z0_tape, z0_ground, z0_spareGround, z0_rule, z0_spareRule, z0_lines, z0_spareLines, z0_steps, .ref a0_now, .ref a0_trial, z0_past, z0_images, z0_round, z0_seating, z0_fitting, z0_imagesKept, z0_refusedSteps, z0_callsNoSuch, .int x2])), (a0_trial, .inr (1, [.ref a0_trial_row, z0_trial_owedEach, .ref a0_ground, .ref a0_rule])), (a0_now, .inr (1, [.ref a0_now_row, z0_now_owedEach, .ref a0_ground, .ref a0_rule])), (a0_now_row, .inl (cyI, 64, .inl f0_now_row)), (a0_trial_row, .inl (cyI, 64, .inl f3)), (a0_ground, .inr (2, [z0_ground_formX, z0_ground_formY, z0_ground_foxX, z0_ground_foxY, z0_ground_seat, z0_ground_strength, z0_ground_debts, z0_ground_near, z0_ground_forms, .int v0_ground_hares, z0_ground_foxes, z0_ground_safe]))] H1 := hP.sub [0, 2, 3, 4, 5, 1] rfl
  have hD : va_D A [(a0, .inr (10, [z0_tape, z0_ground, z0_spareGround, z0_rule, z0_spareRule, z0_lines, z0_spareLines, z0_steps, .ref a0_now, .ref a0_trial, z0_past, z0_images, z0_round, z0_seating, z0_fitting, z0_imagesKept, z0_refusedSteps, z0_callsNoSuch, .int x2])), (a0_trial, .inr (1, [.ref a0_trial_row, z0_trial_owedEach, .ref a0_ground, .ref a0_rule])), (a0_now, .inr (1, [.ref a0_now_row, z0_now_owedEach, .ref a0_ground, .ref a0_rule])), (a0_now_row, .inl (cyI, 64, .inl f0_now_row)), (a0_trial_row, .inl (cyI, 64, .inl f3)), (a0_ground, .inr (2, [z0_ground_formX, z0_ground_formY, z0_ground_foxX, z0_ground_foxY, z0_ground_seat, z0_ground_strength, z0_ground_debts, z0_ground_near, z0_ground_forms, .int v0_ground_hares, z0_ground_foxes, z0_ground_safe]))] := hD.sub [0, 2, 3, 4, 5, 1] (by decide) rfl
  generalize H1 = H at hP hS ⊢
  refine lv_iconst (v := 0) hx hb dX10_ahead_26 (by decide) ?_
  refine lv_istore_n (lv' := [(3, .int 0), (0, .ref a0), (1, .int p1), (2, .int p2)]) hx hb dX10_ahead_27 rfl hl (by decide) rfl (fun ls hl => ?_)
  obtain ⟨n9, hw⟩ := hw
  exact kl_X10_ahead_28 dC dI cyB cyI cyJ cyP a0 a0_trial a0_now a0_now_row a0_trial_row a0_ground a0_rule z0_tape z0_ground z0_spareGround z0_rule z0_spareRule z0_lines z0_spareLines z0_steps z0_past z0_images z0_round z0_seating z0_fitting z0_imagesKept z0_refusedSteps z0_callsNoSuch z0_trial_owedEach z0_now_owedEach z0_ground_formX z0_ground_formY z0_ground_foxX z0_ground_foxY z0_ground_seat z0_ground_strength z0_ground_debts z0_ground_near z0_ground_forms z0_ground_foxes z0_ground_safe f0_now_row v0_ground_hares E Q  C0 n9 _ _ _ x2 f3 (.ref a0_ground) (.ref a0_rule) p1 p2 0 hP hD hS (lv_sub hl [1, 2, 3, 0] rfl) hw
theorem ui_X8_open_X8 : ∀ w ∈ u_ws RX8 TX8 7, w ∈ wsX8_open := by decide +kernel
theorem uw_X8_open_f15 : (.fieldLink RX8 15 "MarchHares$Tape" "faultPlace" "I" : Cond) ∈ wsX8_open := by decide +kernel
theorem uw_X8_open_f19 : (.fieldLink RX8 19 "MarchHares$Tape" "filled" "I" : Cond) ∈ wsX8_open := by decide +kernel
theorem uw_X8_open_f28 : (.fieldLink RX8 28 "MarchHares$Tape" "length" "I" : Cond) ∈ wsX8_open := by decide +kernel
theorem uw_X8_open_f31 : (.fieldLink RX8 31 "MarchHares$Tape" "at" "I" : Cond) ∈ wsX8_open := by decide +kernel
theorem uw_X8_open_f34 : (.fieldLink RX8 34 "MarchHares$Tape" "token" "I" : Cond) ∈ wsX8_open := by decide +kernel
theorem uw_X8_open_f37 : (.fieldLink RX8 37 "MarchHares$Tape" "fault" "I" : Cond) ∈ wsX8_open := by decide +kernel
theorem uw_X8_open_inim : (.initialized "java/lang/Math" : Cond) ∈ wsX8_open := by decide +kernel
theorem uw_X8_open_m22 : (.methodLink RX8 22 Lib.Math.min.name : Cond) ∈ wsX8_open := by decide +kernel
theorem uw_X8_open_mcmin : (.code Lib.Math.min.name Lib.Math.min.code 2 (some .int) : Cond) ∈ wsX8_open := by decide +kernel
theorem uw_X8_open_msmin : (.static Lib.Math.min.name : Cond) ∈ wsX8_open := by decide +kernel
def wq_X8_open  (v0_length : Int32) (v0_at : Int32) (v0_token : Int32) (v0_filled : Int32) (v0_fault : Int32) (v0_faultPlace : Int32) (p1 : Int32) (Q : Int32 → Int32 → Int32 → Int32 → Int32 → Int32 → Prop) : Prop := ∀ x1 : Int32, x1 = (if 600 < p1 then 600 else p1) → (Q x1 0 0 0 0 (-1))
set_option maxHeartbeats 4000000 in
set_option maxRecDepth 100000 in
theorem ck_X8_open (l : Launch) (dC : Nat → ClassId) (dI : Nat → Nat → Nat) (cyB cyI cyJ cyP : ClassId) (a0 : Nat) (sz : Nat) (z0_bytes : Value)  (v0_length : Int32) (v0_at : Int32) (v0_token : Int32) (v0_filled : Int32) (v0_fault : Int32) (v0_faultPlace : Int32) (p1 : Int32) {Q : Int32 → Int32 → Int32 → Int32 → Int32 → Int32 → Prop} (hw : wq_X8_open  v0_length v0_at v0_token v0_filled v0_fault v0_faultPlace p1 Q) : Met l yX8_open wsX8_open ({ frames := 1, cells := 0, slots := 0, locals := 32 }) (va_Pc [.ref a0, .int p1] (cPc (dC, dI) (kT cyB cyI cyJ cyP) [(a0, .inr (8, [z0_bytes, .int v0_length, .int v0_at, .int v0_token, .int v0_filled, .int v0_fault, .int v0_faultPlace]))] sz)) (va_Qv (fun (u : Int32 × Int32 × Int32 × Int32 × Int32 × Int32) => Q u.1 u.2.1 u.2.2.1 u.2.2.2.1 u.2.2.2.2.1 u.2.2.2.2.2) (cB (dC, dI) (kT cyB cyI cyJ cyP) (va_A [(a0, .inr (8, [z0_bytes, .int v0_length, .int v0_at, .int v0_token, .int v0_filled, .int v0_fault, .int v0_faultPlace]))] sz) (fun u : Int32 × Int32 × Int32 × Int32 × Int32 × Int32 => ([(a0, .inr (8, [z0_bytes, .int u.1, .int u.2.1, .int u.2.2.1, .int u.2.2.2.1, .int u.2.2.2.2.1, .int u.2.2.2.2.2]))] : va_W))) (va_A [(a0, .inr (8, [z0_bytes, .int v0_length, .int v0_at, .int v0_token, .int v0_filled, .int v0_fault, .int v0_faultPlace]))] sz)) 0 0 (va_A [(a0, .inr (8, [z0_bytes, .int v0_length, .int v0_at, .int v0_token, .int v0_filled, .int v0_fault, .int v0_faultPlace]))] sz) := by
  refine Met.ofW (cc := cX8_open) (maxL := 2) (ret := none) (by decide) rfl ?_
  intro p e s m args below meth c s₁ B hml hv
  obtain ⟨rfl, hsz, hP, hK, hD0, hNw⟩ := hv
  have hx := B.exec
  have hb := B.bytes
  have hr := B.returns
  have hts := atoms_spec (ws := wsX8_open) B.pre
  have hown : s.vm.findClass RX8 = some m.cls := findClass_of_methodNamed B.named
  have hlocks := B.notSynchronized
  subst hsz
  have hD := hD0.self (sz := s.heap.size)
  generalize hAe : va_A [(a0, .inr (8, [z0_bytes, .int v0_length, .int v0_at, .int v0_token, .int v0_filled, .int v0_fault, .int v0_faultPlace]))] s.heap.size = A at hD ⊢
  have hA : ∀ q : Nat, s.heap.size ≤ q → A q := fun q h => by rw [← hAe]; exact Or.inr h
  have hS : va_S A s.heap s.heap [] := va_S.rf
  have hP : va_P (dC, dI) vwCl [(a0, .inr (8, [z0_bytes, .int v0_length, .int v0_at, .int v0_token, .int v0_filled, .int v0_fault, .int v0_faultPlace]))] s.heap := hP
  have hl := lv_entry ([.ref a0, .int p1]) (n := 2) (Nat.le_of_ble_eq_true rfl)
  rw [lg_entry_eq]
  generalize (lg_sl ([.ref a0, .int p1]) ++ List.replicate (2 - (lg_sl ([.ref a0, .int p1])).length) Slot.unset).toArray = ls at hl ⊢
  have hl : lv_has ls 2 [(0, .ref a0), (1, .int p1)] := hl
  have C0 : cfx p s m _ meth c cX8_open none wsX8_open RX8 2 A (dC, dI) (kT cyB cyI cyJ cyP) := ⟨hx, hb, hr, hts, hown, hlocks, hml, hA, hK, hNw⟩
  clear hAe
  obtain ⟨H, hH⟩ : ∃ H, H = s.heap := ⟨_, rfl⟩
  rw [← hH] at hP ⊢
  have hS : va_S A s.heap H [] := by rw [hH]; exact va_S.rf
  have hS := hS
  refine lv_aload_n hx hb dX8_open_0 rfl (lv_at hl 0 rfl) ?_
  refine lv_iload_n hx hb dX8_open_1 rfl (lv_at hl 1 rfl) ?_
  refine lv_sipush (v := 600) hx hb dX8_open_2 (by decide) ?_
  refine va_mmin hx hb (by rw [hml]; exact hl.1.symm) hown (hts _ uw_X8_open_m22) (hts _ uw_X8_open_msmin) (hts _ uw_X8_open_inim) (hts _ uw_X8_open_mcmin) (Nat.le_of_ble_eq_true rfl) (Nat.le_of_ble_eq_true rfl) (Nat.le_of_ble_eq_true rfl) (Nat.le_of_ble_eq_true rfl) dX8_open_5 ?_
  refine lv_topi (fun x1 ex1 => ?_)
  have hw := hw x1 ex1
  refine va_put (D := (dC, dI)) (ci := 8) (v := .int x1) (ty := .int) (C := RX8) (T := TX8) (N := 7) hx hb hts ui_X8_open_X8 tyX8 tyX8_ok nmX8 hown hK hP hD hS 0 rfl rfl 1 (by decide) (hts _ uw_X8_open_f28) (fun _ h9 => h9) rfl (by decide +kernel) rfl rfl (Nat.le_of_ble_eq_true rfl) dX8_open_8 (fun H locs hP hD hS => ?_)
  have hP : va_P (dC, dI) vwCl [(a0, .inr (8, [z0_bytes, .int x1, .int v0_at, .int v0_token, .int v0_filled, .int v0_fault, .int v0_faultPlace]))] H := hP
  have hD : va_D A [(a0, .inr (8, [z0_bytes, .int x1, .int v0_at, .int v0_token, .int v0_filled, .int v0_fault, .int v0_faultPlace]))] := hD
  refine lv_aload_n hx hb dX8_open_11 rfl (lv_at hl 0 rfl) ?_
  refine lv_iconst (v := 0) hx hb dX8_open_12 (by decide) ?_
  refine va_put (D := (dC, dI)) (ci := 8) (v := .int 0) (ty := .int) (C := RX8) (T := TX8) (N := 7) hx hb hts ui_X8_open_X8 tyX8 tyX8_ok nmX8 hown hK hP hD hS 0 rfl rfl 2 (by decide) (hts _ uw_X8_open_f31) (fun _ h9 => h9) rfl (by decide +kernel) rfl rfl (Nat.le_of_ble_eq_true rfl) dX8_open_13 (fun H locs hP hD hS => ?_)
  have hP : va_P (dC, dI) vwCl [(a0, .inr (8, [z0_bytes, .int x1, .int 0, .int v0_token, .int v0_filled, .int v0_fault, .int v0_faultPlace]))] H := hP
  have hD : va_D A [(a0, .inr (8, [z0_bytes, .int x1, .int 0, .int v0_token, .int v0_filled, .int v0_fault, .int v0_faultPlace]))] := hD
  refine lv_aload_n hx hb dX8_open_16 rfl (lv_at hl 0 rfl) ?_
  refine lv_iconst (v := 0) hx hb dX8_open_17 (by decide) ?_
  refine va_put (D := (dC, dI)) (ci := 8) (v := .int 0) (ty := .int) (C := RX8) (T := TX8) (N := 7) hx hb hts ui_X8_open_X8 tyX8 tyX8_ok nmX8 hown hK hP hD hS 0 rfl rfl 3 (by decide) (hts _ uw_X8_open_f34) (fun _ h9 => h9) rfl (by decide +kernel) rfl rfl (Nat.le_of_ble_eq_true rfl) dX8_open_18 (fun H locs hP hD hS => ?_)
  have hP : va_P (dC, dI) vwCl [(a0, .inr (8, [z0_bytes, .int x1, .int 0, .int 0, .int v0_filled, .int v0_fault, .int v0_faultPlace]))] H := hP
  have hD : va_D A [(a0, .inr (8, [z0_bytes, .int x1, .int 0, .int 0, .int v0_filled, .int v0_fault, .int v0_faultPlace]))] := hD
  refine lv_aload_n hx hb dX8_open_21 rfl (lv_at hl 0 rfl) ?_
  refine lv_iconst (v := 0) hx hb dX8_open_22 (by decide) ?_
  refine va_put (D := (dC, dI)) (ci := 8) (v := .int 0) (ty := .int) (C := RX8) (T := TX8) (N := 7) hx hb hts ui_X8_open_X8 tyX8 tyX8_ok nmX8 hown hK hP hD hS 0 rfl rfl 4 (by decide) (hts _ uw_X8_open_f19) (fun _ h9 => h9) rfl (by decide +kernel) rfl rfl (Nat.le_of_ble_eq_true rfl) dX8_open_23 (fun H locs hP hD hS => ?_)
  have hP : va_P (dC, dI) vwCl [(a0, .inr (8, [z0_bytes, .int x1, .int 0, .int 0, .int 0, .int v0_fault, .int v0_faultPlace]))] H := hP
  have hD : va_D A [(a0, .inr (8, [z0_bytes, .int x1, .int 0, .int 0, .int 0, .int v0_fault, .int v0_faultPlace]))] := hD
  refine lv_aload_n hx hb dX8_open_26 rfl (lv_at hl 0 rfl) ?_
  refine lv_iconst (v := 0) hx hb dX8_open_27 (by decide) ?_
  refine va_put (D := (dC, dI)) (ci := 8) (v := .int 0) (ty := .int) (C := RX8) (T := TX8) (N := 7) hx hb hts ui_X8_open_X8 tyX8 tyX8_ok nmX8 hown hK hP hD hS 0 rfl rfl 5 (by decide) (hts _ uw_X8_open_f37) (fun _ h9 => h9) rfl (by decide +kernel) rfl rfl (Nat.le_of_ble_eq_true rfl) dX8_open_28 (fun H locs hP hD hS => ?_)
  have hP : va_P (dC, dI) vwCl [(a0, .inr (8, [z0_bytes, .int x1, .int 0, .int 0, .int 0, .int 0, .int v0_faultPlace]))] H := hP
  have hD : va_D A [(a0, .inr (8, [z0_bytes, .int x1, .int 0, .int 0, .int 0, .int 0, .int v0_faultPlace]))] := hD
  refine lv_aload_n hx hb dX8_open_31 rfl (lv_at hl 0 rfl) ?_
  refine lv_iconst (v := (-1)) hx hb dX8_open_32 (by decide) ?_
  refine va_put (D := (dC, dI)) (ci := 8) (v := .int (-1)) (ty := .int) (C := RX8) (T := TX8) (N := 7) hx hb hts ui_X8_open_X8 tyX8 tyX8_ok nmX8 hown hK hP hD hS 0 rfl rfl 6 (by decide) (hts _ uw_X8_open_f15) (fun _ h9 => h9) rfl (by decide +kernel) rfl rfl (Nat.le_of_ble_eq_true rfl) dX8_open_33 (fun H locs hP hD hS => ?_)
  have hP : va_P (dC, dI) vwCl [(a0, .inr (8, [z0_bytes, .int x1, .int 0, .int 0, .int 0, .int 0, .int (-1)]))] H := hP
  have hD : va_D A [(a0, .inr (8, [z0_bytes, .int x1, .int 0, .int 0, .int 0, .int 0, .int (-1)]))] := hD
  exact ((W.vret hx hb hr (fun t ht hW => ⟨⟨(x1, 0, 0, 0, 0, (-1)), rfl, hw, by rw [ht]; exact hP, va_K.moved hW.alike hK, hD⟩, hS.F ht⟩) hS.2.2 dX8_open_36))
theorem ui_X10_openText_X10 : ∀ w ∈ u_ws RX10 TX10 19, w ∈ wsX10_openText := by decide +kernel
theorem ui_X10_openText_X8 : ∀ w ∈ u_ws RX8 TX8 7, w ∈ wsX10_openText := by decide +kernel
theorem uw_X10_openText_f10 : (.fieldLink RX10 10 "MarchHares" "tape" "LMarchHares$Tape;" : Cond) ∈ wsX10_openText := by decide +kernel
theorem uw_X10_openText_f105 : (.fieldLink RX10 105 "MarchHares$Tape" "filled" "I" : Cond) ∈ wsX10_openText := by decide +kernel
theorem uw_X10_openText_inim : (.initialized "java/lang/Math" : Cond) ∈ wsX10_openText := by decide +kernel
theorem uw_X10_openText_m384 : (.methodLink RX10 384 Lib.Math.min.name : Cond) ∈ wsX10_openText := by decide +kernel
theorem uw_X10_openText_mcmin : (.code Lib.Math.min.name Lib.Math.min.code 2 (some .int) : Cond) ∈ wsX10_openText := by decide +kernel
theorem uw_X10_openText_msmin : (.static Lib.Math.min.name : Cond) ∈ wsX10_openText := by decide +kernel
def wq_X10_openText  (v0_callsIllegal : Int32) (v0_tape_length : Int32) (v0_tape_at : Int32) (v0_tape_token : Int32) (v0_tape_filled : Int32) (v0_tape_fault : Int32) (v0_tape_faultPlace : Int32) (p1 : Int32) (p2 : Int32) (E : String → Int32 → Int32 → Int32 → Int32 → Int32 → Int32 → Int32 → Prop) (Q : Int32 → Int32 → Int32 → Int32 → Int32 → Int32 → Int32 → Prop) : Prop := ∀ x1 : Int32, x1 = (if v0_tape_filled < p2 then v0_tape_filled else p2) → wq_X10_needWithin  v0_callsIllegal p1 0 x1 (fun en x2 => E en x2 v0_tape_length v0_tape_at v0_tape_token v0_tape_filled v0_tape_fault v0_tape_faultPlace) (fun x2 => wq_X8_open  v0_tape_length v0_tape_at v0_tape_token v0_tape_filled v0_tape_fault v0_tape_faultPlace p1 (fun x3 x4 x5 x6 x7 x8 => (Q x2 x3 x4 x5 x6 x7 x8)))
set_option maxHeartbeats 4000000 in
set_option maxRecDepth 100000 in
theorem ck_X10_openText (l : Launch) (dC : Nat → ClassId) (dI : Nat → Nat → Nat) (cyB cyI cyJ cyP : ClassId) (a0 a0_tape : Nat) (sz : Nat) (z0_ground : Value) (z0_spareGround : Value) (z0_rule : Value) (z0_spareRule : Value) (z0_lines : Value) (z0_spareLines : Value) (z0_steps : Value) (z0_now : Value) (z0_trial : Value) (z0_past : Value) (z0_images : Value) (z0_round : Value) (z0_seating : Value) (z0_fitting : Value) (z0_imagesKept : Value) (z0_refusedSteps : Value) (z0_callsNoSuch : Value) (z0_tape_bytes : Value)  (v0_callsIllegal : Int32) (v0_tape_length : Int32) (v0_tape_at : Int32) (v0_tape_token : Int32) (v0_tape_filled : Int32) (v0_tape_fault : Int32) (v0_tape_faultPlace : Int32) (p1 : Int32) (p2 : Int32) {E : String → Int32 → Int32 → Int32 → Int32 → Int32 → Int32 → Int32 → Prop} {Q : Int32 → Int32 → Int32 → Int32 → Int32 → Int32 → Int32 → Prop} (hw : wq_X10_openText  v0_callsIllegal v0_tape_length v0_tape_at v0_tape_token v0_tape_filled v0_tape_fault v0_tape_faultPlace p1 p2 E Q) : vx_Met l yX10_openText wsX10_openText ({ frames := 8, cells := 1, slots := 6, locals := 164 }) (va_Pc [.ref a0, .int p1, .int p2] (cPx l (dC, dI) (kT cyB cyI cyJ cyP) [(a0, .inr (10, [.ref a0_tape, z0_ground, z0_spareGround, z0_rule, z0_spareRule, z0_lines, z0_spareLines, z0_steps, z0_now, z0_trial, z0_past, z0_images, z0_round, z0_seating, z0_fitting, z0_imagesKept, z0_refusedSteps, z0_callsNoSuch, .int v0_callsIllegal])), (a0_tape, .inr (8, [z0_tape_bytes, .int v0_tape_length, .int v0_tape_at, .int v0_tape_token, .int v0_tape_filled, .int v0_tape_fault, .int v0_tape_faultPlace]))] sz)) (va_Qv (fun (u : Int32 × Int32 × Int32 × Int32 × Int32 × Int32 × Int32) => Q u.1 u.2.1 u.2.2.1 u.2.2.2.1 u.2.2.2.2.1 u.2.2.2.2.2.1 u.2.2.2.2.2.2) (cB (dC, dI) (kT cyB cyI cyJ cyP) (va_A [(a0, .inr (10, [.ref a0_tape, z0_ground, z0_spareGround, z0_rule, z0_spareRule, z0_lines, z0_spareLines, z0_steps, z0_now, z0_trial, z0_past, z0_images, z0_round, z0_seating, z0_fitting, z0_imagesKept, z0_refusedSteps, z0_callsNoSuch, .int v0_callsIllegal])), (a0_tape, .inr (8, [z0_tape_bytes, .int v0_tape_length, .int v0_tape_at, .int v0_tape_token, .int v0_tape_filled, .int v0_tape_fault, .int v0_tape_faultPlace]))] sz) (fun u : Int32 × Int32 × Int32 × Int32 × Int32 × Int32 × Int32 => ([(a0, .inr (10, [.ref a0_tape, z0_ground, z0_spareGround, z0_rule, z0_spareRule, z0_lines, z0_spareLines, z0_steps, z0_now, z0_trial, z0_past, z0_images, z0_round, z0_seating, z0_fitting, z0_imagesKept, z0_refusedSteps, z0_callsNoSuch, .int u.1])), (a0_tape, .inr (8, [z0_tape_bytes, .int u.2.1, .int u.2.2.1, .int u.2.2.2.1, .int u.2.2.2.2.1, .int u.2.2.2.2.2.1, .int u.2.2.2.2.2.2]))] : va_W))) (va_A [(a0, .inr (10, [.ref a0_tape, z0_ground, z0_spareGround, z0_rule, z0_spareRule, z0_lines, z0_spareLines, z0_steps, z0_now, z0_trial, z0_past, z0_images, z0_round, z0_seating, z0_fitting, z0_imagesKept, z0_refusedSteps, z0_callsNoSuch, .int v0_callsIllegal])), (a0_tape, .inr (8, [z0_tape_bytes, .int v0_tape_length, .int v0_tape_at, .int v0_tape_token, .int v0_tape_filled, .int v0_tape_fault, .int v0_tape_faultPlace]))] sz)) (vx_X (fun _ => True) (fun (en : String) (u : Int32 × Int32 × Int32 × Int32 × Int32 × Int32 × Int32) (t : State) => E en u.1 u.2.1 u.2.2.1 u.2.2.2.1 u.2.2.2.2.1 u.2.2.2.2.2.1 u.2.2.2.2.2.2 ∧ cB (dC, dI) (kT cyB cyI cyJ cyP) (va_A [(a0, .inr (10, [.ref a0_tape, z0_ground, z0_spareGround, z0_rule, z0_spareRule, z0_lines, z0_spareLines, z0_steps, z0_now, z0_trial, z0_past, z0_images, z0_round, z0_seating, z0_fitting, z0_imagesKept, z0_refusedSteps, z0_callsNoSuch, .int v0_callsIllegal])), (a0_tape, .inr (8, [z0_tape_bytes, .int v0_tape_length, .int v0_tape_at, .int v0_tape_token, .int v0_tape_filled, .int v0_tape_fault, .int v0_tape_faultPlace]))] sz) (fun u : Int32 × Int32 × Int32 × Int32 × Int32 × Int32 × Int32 => ([(a0, .inr (10, [.ref a0_tape, z0_ground, z0_spareGround, z0_rule, z0_spareRule, z0_lines, z0_spareLines, z0_steps, z0_now, z0_trial, z0_past, z0_images, z0_round, z0_seating, z0_fitting, z0_imagesKept, z0_refusedSteps, z0_callsNoSuch, .int u.1])), (a0_tape, .inr (8, [z0_tape_bytes, .int u.2.1, .int u.2.2.1, .int u.2.2.2.1, .int u.2.2.2.2.1, .int u.2.2.2.2.2.1, .int u.2.2.2.2.2.2]))] : va_W)) u t) (va_A [(a0, .inr (10, [.ref a0_tape, z0_ground, z0_spareGround, z0_rule, z0_spareRule, z0_lines, z0_spareLines, z0_steps, z0_now, z0_trial, z0_past, z0_images, z0_round, z0_seating, z0_fitting, z0_imagesKept, z0_refusedSteps, z0_callsNoSuch, .int v0_callsIllegal])), (a0_tape, .inr (8, [z0_tape_bytes, .int v0_tape_length, .int v0_tape_at, .int v0_tape_token, .int v0_tape_filled, .int v0_tape_fault, .int v0_tape_faultPlace]))] sz)) 1 6 (va_A [(a0, .inr (10, [.ref a0_tape, z0_ground, z0_spareGround, z0_rule, z0_spareRule, z0_lines, z0_spareLines, z0_steps, z0_now, z0_trial, z0_past, z0_images, z0_round, z0_seating, z0_fitting, z0_imagesKept, z0_refusedSteps, z0_callsNoSuch, .int v0_callsIllegal])), (a0_tape, .inr (8, [z0_tape_bytes, .int v0_tape_length, .int v0_tape_at, .int v0_tape_token, .int v0_tape_filled, .int v0_tape_fault, .int v0_tape_faultPlace]))] sz) := by
  refine vx_ofW (cc := cX10_openText) (maxL := 3) (ret := none) (by decide) rfl ?_
  intro p e s m args below meth c s₁ B hml hnt hv
  obtain ⟨rfl, hsz, hP, hK, hD0, hNw, hXl, hXu, hXn, hXt⟩ := hv
  have hx := B.exec
  have hb := B.bytes
  have hr := B.returns
  have hts := atoms_spec (ws := wsX10_openText) B.pre
  have hown : s.vm.findClass RX10 = some m.cls := findClass_of_methodNamed B.named
  have hlocks := B.notSynchronized
  subst hsz
  have hD := hD0.self (sz := s.heap.size)
  generalize hAe : va_A [(a0, .inr (10, [.ref a0_tape, z0_ground, z0_spareGround, z0_rule, z0_spareRule, z0_lines, z0_spareLines, z0_steps, z0_now, z0_trial, z0_past, z0_images, z0_round, z0_seating, z0_fitting, z0_imagesKept, z0_refusedSteps, z0_callsNoSuch, .int v0_callsIllegal])), (a0_tape, .inr (8, [z0_tape_bytes, .int v0_tape_length, .int v0_tape_at, .int v0_tape_token, .int v0_tape_filled, .int v0_tape_fault, .int v0_tape_faultPlace]))] s.heap.size = A at hD hXu hXn ⊢
  have hA : ∀ q : Nat, s.heap.size ≤ q → A q := fun q h => by rw [← hAe]; exact Or.inr h
  have hS : va_S A s.heap s.heap [] := va_S.rf
  have hP : va_P (dC, dI) vwCl [(a0, .inr (10, [.ref a0_tape, z0_ground, z0_spareGround, z0_rule, z0_spareRule, z0_lines, z0_spareLines, z0_steps, z0_now, z0_trial, z0_past, z0_images, z0_round, z0_seating, z0_fitting, z0_imagesKept, z0_refusedSteps, z0_callsNoSuch, .int v0_callsIllegal])), (a0_tape, .inr (8, [z0_tape_bytes, .int v0_tape_length, .int v0_tape_at, .int v0_tape_token, .int v0_tape_filled, .int v0_tape_fault, .int v0_tape_faultPlace]))] s.heap := hP
  have hl := lv_entry ([.ref a0, .int p1, .int p2]) (n := 3) (Nat.le_of_ble_eq_true rfl)
  rw [lg_entry_eq]
  generalize (lg_sl ([.ref a0, .int p1, .int p2]) ++ List.replicate (3 - (lg_sl ([.ref a0, .int p1, .int p2])).length) Slot.unset).toArray = ls at hl ⊢
  have hl : lv_has ls 3 [(0, .ref a0), (1, .int p1), (2, .int p2)] := hl
  have hY : cfY l s A := ⟨hXl, hXu, hXn, hXt⟩
  have hXs : cfX l s c A := ⟨hnt, hY⟩
  have C0 : cfx p s m _ meth c cX10_openText none wsX10_openText RX10 3 A (dC, dI) (kT cyB cyI cyJ cyP) ∧ cfX l s c A := ⟨⟨hx, hb, hr, hts, hown, hlocks, hml, hA, hK, hNw⟩, hXs⟩
  clear hAe
  obtain ⟨H, hH⟩ : ∃ H, H = s.heap := ⟨_, rfl⟩
  rw [← hH] at hP ⊢
  have hS : va_S A s.heap H [] := by rw [hH]; exact va_S.rf
  have hS := hS
  refine lv_aload_n hx hb dX10_openText_0 rfl (lv_at hl 0 rfl) ?_
  refine lv_iload_n hx hb dX10_openText_1 rfl (lv_at hl 1 rfl) ?_
  refine lv_iconst (v := 0) hx hb dX10_openText_2 (by decide) ?_
  refine lv_iload_n hx hb dX10_openText_3 rfl (lv_at hl 2 rfl) ?_
  refine lv_aload_n hx hb dX10_openText_4 rfl (lv_at hl 0 rfl) ?_
  refine va_get (D := (dC, dI)) (ci := 10) (v := .ref a0_tape) (C := RX10) (T := TX10) (N := 19) hx hb hts ui_X10_openText_X10 hown hK hP 0 rfl rfl 0 (by decide) (hts _ uw_X10_openText_f10) (fun _ h9 => h9) rfl dX10_openText_5 ?_
  refine va_get (D := (dC, dI)) (ci := 8) (v := .int v0_tape_filled) (C := RX8) (T := TX8) (N := 7) hx hb hts ui_X10_openText_X8 hown hK hP 1 rfl rfl 4 (by decide) (hts _ uw_X10_openText_f105) (fun _ h9 => h9) rfl dX10_openText_8 ?_
  refine va_mmin hx hb (by rw [hml]; exact hl.1.symm) hown (hts _ uw_X10_openText_m384) (hts _ uw_X10_openText_msmin) (hts _ uw_X10_openText_inim) (hts _ uw_X10_openText_mcmin) (Nat.le_of_ble_eq_true rfl) (Nat.le_of_ble_eq_true rfl) (Nat.le_of_ble_eq_true rfl) (Nat.le_of_ble_eq_true rfl) dX10_openText_11 ?_
  refine lv_topi (fun x1 ex1 => ?_)
  have hw := hw x1 ex1
  have hPc := hP.sub (ws' := [(a0, .inr (10, [.ref a0_tape, z0_ground, z0_spareGround, z0_rule, z0_spareRule, z0_lines, z0_spareLines, z0_steps, z0_now, z0_trial, z0_past, z0_images, z0_round, z0_seating, z0_fitting, z0_imagesKept, z0_refusedSteps, z0_callsNoSuch, .int v0_callsIllegal]))]) [0] rfl
  have hDc := hD.sub (ws' := [(a0, .inr (10, [.ref a0_tape, z0_ground, z0_spareGround, z0_rule, z0_spareRule, z0_lines, z0_spareLines, z0_steps, z0_now, z0_trial, z0_past, z0_images, z0_round, z0_seating, z0_fitting, z0_imagesKept, z0_refusedSteps, z0_callsNoSuch, .int v0_callsIllegal]))]) [0] (by decide) rfl
  have hFc := va_free (wc := [(a0, .inr (10, [.ref a0_tape, z0_ground, z0_spareGround, z0_rule, z0_spareRule, z0_lines, z0_spareLines, z0_steps, z0_now, z0_trial, z0_past, z0_images, z0_round, z0_seating, z0_fitting, z0_imagesKept, z0_refusedSteps, z0_callsNoSuch, .int v0_callsIllegal]))]) hD hS hA [0] rfl
  refine vx_callv (vx_runV (As := [.int p1, .int 0, .int x1]) (rest := []) ⟨hx, hb, hml, hown, hts⟩ (ck_X10_needWithin l dC dI cyB cyI cyJ cyP a0 H.size (.ref a0_tape) (z0_ground) (z0_spareGround) (z0_rule) (z0_spareRule) (z0_lines) (z0_spareLines) (z0_steps) (z0_now) (z0_trial) (z0_past) (z0_images) (z0_round) (z0_seating) (z0_fitting) (z0_imagesKept) (z0_refusedSteps) (z0_callsNoSuch)  v0_callsIllegal p1 0 x1 hw) (cwV 3 hts gX10_openText_X10_needWithin rfl rfl rfl (by decide +kernel) ⟨Nat.le_of_ble_eq_true rfl, Nat.le_of_ble_eq_true rfl⟩) ⟨cPx_blind, va_recv hK hPc (ci := 10) (q0 := 0) rfl rfl, cPx_pre hPc hK hDc hNw hY hS hFc⟩ rfl rfl hl.1 rfl (lv_room (Nat.le_of_ble_eq_true rfl)) dX10_openText_14 ⟨Nat.le_of_ble_eq_true rfl, Nat.le_of_ble_eq_true rfl⟩) hS (fun q _ h => hFc q h) hFc (fun q _ h => hFc q h) (fun en ce q9 u t H1 locs ht hvm hpx hB hz1 hk1 hS hc9 hv9 hcl9 => ?_) (fun u t H1 locs ht hvm hw hB hz1 hk1 hS => ?_)
  · obtain ⟨x2, rfl⟩ : ∃ z, z = u := ⟨_, rfl⟩
    obtain ⟨hw, hP1, hK1, hD1⟩ := hB
    rw [ht] at hP1
    obtain ⟨hP, hD⟩ := va_join (wr := [(a0_tape, .inr (8, [z0_tape_bytes, .int v0_tape_length, .int v0_tape_at, .int v0_tape_token, .int v0_tape_filled, .int v0_tape_fault, .int v0_tape_faultPlace]))]) (w1 := [(a0, .inr (10, [.ref a0_tape, z0_ground, z0_spareGround, z0_rule, z0_spareRule, z0_lines, z0_spareLines, z0_steps, z0_now, z0_trial, z0_past, z0_images, z0_round, z0_seating, z0_fitting, z0_imagesKept, z0_refusedSteps, z0_callsNoSuch, .int x2]))]) hP hD [0] [1] rfl rfl (by decide) (by decide) hk1 hFc hP1 hD1
    have hP : va_P (dC, dI) vwCl [(a0, .inr (10, [.ref a0_tape, z0_ground, z0_spareGround, z0_rule, z0_spareRule, z0_lines, z0_spareLines, z0_steps, z0_now, z0_trial, z0_past, z0_images, z0_round, z0_seating, z0_fitting, z0_imagesKept, z0_refusedSteps, z0_callsNoSuch, .int x2])), (a0_tape, .inr (8, [z0_tape_bytes, .int v0_tape_length, .int v0_tape_at, .int v0_tape_token, .int v0_tape_filled, .int v0_tape_fault, .int v0_tape_faultPlace]))] H1 := hP.sub [1, 0] rfl
    have hD : va_D A [(a0, .inr (10, [.ref a0_tape, z0_ground, z0_spareGround, z0_rule, z0_spareRule, z0_lines, z0_spareLines, z0_steps, z0_now, z0_trial, z0_past, z0_images, z0_round, z0_seating, z0_fitting, z0_imagesKept, z0_refusedSteps, z0_callsNoSuch, .int x2])), (a0_tape, .inr (8, [z0_tape_bytes, .int v0_tape_length, .int v0_tape_at, .int v0_tape_token, .int v0_tape_filled, .int v0_tape_fault, .int v0_tape_faultPlace]))] := hD.sub [1, 0] (by decide) rfl
    generalize H1 = H at hP hS hc9 ⊢
    exact vx_out (fun x hx9 => (hXs.1 x hx9).elim) hlocks hc9 hv9 hcl9 (fun t2 ht2 hal2 => ⟨(x2, v0_tape_length, v0_tape_at, v0_tape_token, v0_tape_filled, v0_tape_fault, v0_tape_faultPlace), trivial, ⟨hw, by rw [ht2]; exact hP, va_K.moved hal2 hK, hD⟩, hS.F ht2⟩) hS.2.2 (Nat.le_of_ble_eq_true rfl) (Nat.le_of_ble_eq_true rfl)
  obtain ⟨x2, rfl⟩ : ∃ z, z = u := ⟨_, rfl⟩
  obtain ⟨hP1, hK1, hD1⟩ := hB
  rw [ht] at hP1
  obtain ⟨hP, hD⟩ := va_join (wr := [(a0_tape, .inr (8, [z0_tape_bytes, .int v0_tape_length, .int v0_tape_at, .int v0_tape_token, .int v0_tape_filled, .int v0_tape_fault, .int v0_tape_faultPlace]))]) (w1 := [(a0, .inr (10, [.ref a0_tape, z0_ground, z0_spareGround, z0_rule, z0_spareRule, z0_lines, z0_spareLines, z0_steps, z0_now, z0_trial, z0_past, z0_images, z0_round, z0_seating, z0_fitting, z0_imagesKept, z0_refusedSteps, z0_callsNoSuch, .int x2]))]) hP hD [0] [1] rfl rfl (by decide) (by decide) hk1 hFc hP1 hD1
  have hP : va_P (dC, dI) vwCl [(a0, .inr (10, [.ref a0_tape, z0_ground, z0_spareGround, z0_rule, z0_spareRule, z0_lines, z0_spareLines, z0_steps, z0_now, z0_trial, z0_past, z0_images, z0_round, z0_seating, z0_fitting, z0_imagesKept, z0_refusedSteps, z0_callsNoSuch, .int x2])), (a0_tape, .inr (8, [z0_tape_bytes, .int v0_tape_length, .int v0_tape_at, .int v0_tape_token, .int v0_tape_filled, .int v0_tape_fault, .int v0_tape_faultPlace]))] H1 := hP.sub [1, 0] rfl
  have hD : va_D A [(a0, .inr (10, [.ref a0_tape, z0_ground, z0_spareGround, z0_rule, z0_spareRule, z0_lines, z0_spareLines, z0_steps, z0_now, z0_trial, z0_past, z0_images, z0_round, z0_seating, z0_fitting, z0_imagesKept, z0_refusedSteps, z0_callsNoSuch, .int x2])), (a0_tape, .inr (8, [z0_tape_bytes, .int v0_tape_length, .int v0_tape_at, .int v0_tape_token, .int v0_tape_filled, .int v0_tape_fault, .int v0_tape_faultPlace]))] := hD.sub [1, 0] (by decide) rfl
  generalize H1 = H at hP hS ⊢
  refine lv_aload_n hx hb dX10_openText_17 rfl (lv_at hl 0 rfl) ?_
  refine va_get (D := (dC, dI)) (ci := 10) (v := .ref a0_tape) (C := RX10) (T := TX10) (N := 19) hx hb hts ui_X10_openText_X10 hown hK hP 0 rfl rfl 0 (by decide) (hts _ uw_X10_openText_f10) (fun _ h9 => h9) rfl dX10_openText_18 ?_
  refine lv_iload_n hx hb dX10_openText_21 rfl (lv_at hl 1 rfl) ?_
  have hPc := hP.sub (ws' := [(a0_tape, .inr (8, [z0_tape_bytes, .int v0_tape_length, .int v0_tape_at, .int v0_tape_token, .int v0_tape_filled, .int v0_tape_fault, .int v0_tape_faultPlace]))]) [1] rfl
  have hDc := hD.sub (ws' := [(a0_tape, .inr (8, [z0_tape_bytes, .int v0_tape_length, .int v0_tape_at, .int v0_tape_token, .int v0_tape_filled, .int v0_tape_fault, .int v0_tape_faultPlace]))]) [1] (by decide) rfl
  have hFc := va_free (wc := [(a0_tape, .inr (8, [z0_tape_bytes, .int v0_tape_length, .int v0_tape_at, .int v0_tape_token, .int v0_tape_filled, .int v0_tape_fault, .int v0_tape_faultPlace]))]) hD hS hA [1] rfl
  refine va_callv (va_runV (As := [.int p1]) (rest := []) ⟨hx, hb, hml, hown, hts⟩ (ck_X8_open l dC dI cyB cyI cyJ cyP a0_tape H.size (z0_tape_bytes)  v0_tape_length v0_tape_at v0_tape_token v0_tape_filled v0_tape_fault v0_tape_faultPlace p1 hw) (cwV 1 hts gX10_openText_X8_open rfl rfl rfl (by decide +kernel) ⟨Nat.le_of_ble_eq_true rfl, Nat.le_of_ble_eq_true rfl⟩) ⟨cPc_blind, va_recv hK hPc (ci := 8) (q0 := 0) rfl rfl, cPc_pre hPc hK hDc hNw⟩ rfl rfl hl.1 rfl (lv_room (Nat.le_of_ble_eq_true rfl)) dX10_openText_22 ⟨Nat.le_of_ble_eq_true rfl, Nat.le_of_ble_eq_true rfl⟩) hS (fun q _ h => hFc q h) hFc (fun u t H1 locs ht hvm hw hB hz1 hk1 hS => ?_)
  obtain ⟨x3, x4, x5, x6, x7, x8⟩ := u
  obtain ⟨hP1, hK1, hD1⟩ := hB
  rw [ht] at hP1
  obtain ⟨hP, hD⟩ := va_join (wr := [(a0, .inr (10, [.ref a0_tape, z0_ground, z0_spareGround, z0_rule, z0_spareRule, z0_lines, z0_spareLines, z0_steps, z0_now, z0_trial, z0_past, z0_images, z0_round, z0_seating, z0_fitting, z0_imagesKept, z0_refusedSteps, z0_callsNoSuch, .int x2]))]) (w1 := [(a0_tape, .inr (8, [z0_tape_bytes, .int x3, .int x4, .int x5, .int x6, .int x7, .int x8]))]) hP hD [1] [0] rfl rfl (by decide) (by decide) hk1 hFc hP1 hD1
  have hP : va_P (dC, dI) vwCl [(a0, .inr (10, [.ref a0_tape, z0_ground, z0_spareGround, z0_rule, z0_spareRule, z0_lines, z0_spareLines, z0_steps, z0_now, z0_trial, z0_past, z0_images, z0_round, z0_seating, z0_fitting, z0_imagesKept, z0_refusedSteps, z0_callsNoSuch, .int x2])), (a0_tape, .inr (8, [z0_tape_bytes, .int x3, .int x4, .int x5, .int x6, .int x7, .int x8]))] H1 := hP
  have hD : va_D A [(a0, .inr (10, [.ref a0_tape, z0_ground, z0_spareGround, z0_rule, z0_spareRule, z0_lines, z0_spareLines, z0_steps, z0_now, z0_trial, z0_past, z0_images, z0_round, z0_seating, z0_fitting, z0_imagesKept, z0_refusedSteps, z0_callsNoSuch, .int x2])), (a0_tape, .inr (8, [z0_tape_bytes, .int x3, .int x4, .int x5, .int x6, .int x7, .int x8]))] := hD
  generalize H1 = H at hP hS ⊢
  exact vx_ret (W.widen (k := 1) (n := 6) (Nat.le_of_ble_eq_true rfl) (Nat.le_of_ble_eq_true rfl) (W.vret hx hb hr (fun t ht hW => ⟨⟨(x2, x3, x4, x5, x6, x7, x8), rfl, hw, by rw [ht]; exact hP, va_K.moved hW.alike hK, hD⟩, hS.F ht⟩) hS.2.2 dX10_openText_25))
theorem ui_X0_clear_X0 : ∀ w ∈ u_ws RX0 TX0 2, w ∈ wsX0_clear := by decide +kernel
theorem uw_X0_clear_f18 : (.fieldLink RX0 18 "MarchHares$Book" "many" "I" : Cond) ∈ wsX0_clear := by decide +kernel
theorem uw_X0_clear_f9 : (.fieldLink RX0 9 "MarchHares$Book" "seen" "[I" : Cond) ∈ wsX0_clear := by decide +kernel
def wl_X0_clear_7  (Q : Int32 → (Nat → Int32) → Prop)  : Nat → Int32 → (Nat → Int32) → Int32 → Prop
  | 0, _, _, _ => False
  | n + 1, v0_many, f0_seen, l1 => ((8 ≤ l1 → (Q v0_many f0_seen)) ∧ (¬ 8 ≤ l1 → vp_in l1 8 ∧ ∀ f2 : Nat → Int32, f2 = upd f0_seen l1.toNatClampNeg (-1) → ∀ x3 : Int32, x3 = l1 + 1 → (wl_X0_clear_7  Q  n v0_many f2 x3)))
set_option maxHeartbeats 4000000 in
set_option maxRecDepth 100000 in
theorem kl_X0_clear_7 {p : Program} {l : Launch} {e : Env} {s : State} {m : MethodId} {args : Array Value} {below : List Frame} {meth : Method} {c : Code} {A : Nat → Prop} (dC : Nat → ClassId) (dI : Nat → Nat → Nat) (cyB cyI cyJ cyP : ClassId) (a0 a0_seen : Nat)   (Q : Int32 → (Nat → Int32) → Prop)  (C0 : cfx p s m args meth c cX0_clear none wsX0_clear RX0 2 A (dC, dI) (kT cyB cyI cyJ cyP)) : ∀ (n : Nat) (H : Heap) (locs : List Loc) (ls : Array Slot) (v0_many : Int32) (f0_seen : Nat → Int32) (l1 : Int32), va_P (dC, dI) vwCl [(a0, .inr (0, [.ref a0_seen, .int v0_many])), (a0_seen, .inl (cyI, 8, .inl f0_seen))] H → va_D A [(a0, .inr (0, [.ref a0_seen, .int v0_many])), (a0_seen, .inl (cyI, 8, .inl f0_seen))] → va_S A s.heap H locs → lv_has ls 2 [(0, .ref a0), (1, .int l1)] → wl_X0_clear_7  Q  n v0_many f0_seen l1 → W p l e (headSpec wsX0_clear ({ frames := 0, cells := 0, slots := 0, locals := 0 })).room s m args below meth c H locs 0 0 (MQ below (va_Qv (fun (u : Int32 × (Nat → Int32)) => Q u.1 u.2) (cB (dC, dI) (kT cyB cyI cyJ cyP) A (fun u : Int32 × (Nat → Int32) => ([(a0, .inr (0, [.ref a0_seen, .int u.1])), (a0_seen, .inl (cyI, 8, .inl u.2))] : va_W))) A) args s 0 0 A) (F0 m 7 ls []) := by
  obtain ⟨hx, hb, hr, hts, hown, hlocks, hml, hA, hK, hNw⟩ := id C0
  intro n
  induction n with
  | zero => intro H locs ls v0_many f0_seen l1 hP hD hS hl hw; exact False.elim hw
  | succ n ih =>
    intro H locs ls v0_many f0_seen l1 hP hD hS hl hw
    refine lv_iload_n hx hb dX0_clear_7 rfl (lv_at hl 1 rfl) ?_
    refine lv_bipush (v := 8) hx hb dX0_clear_8 (by decide) ?_
    refine lv_icmp_ge (tgt := 26) hx hb dX0_clear_10 (by decide) (fun c1 => ?_) (fun c1 => ?_)
    · have hw := hw.1 c1
      exact ((W.vret hx hb hr (fun t ht hW => ⟨⟨(v0_many, f0_seen), rfl, hw, by rw [ht]; exact hP, va_K.moved hW.alike hK, hD⟩, hS.F ht⟩) hS.2.2 dX0_clear_26))
    · have hw := hw.2 c1
      refine lv_aload_n hx hb dX0_clear_13 rfl (lv_at hl 0 rfl) ?_
      refine va_get (D := (dC, dI)) (ci := 0) (v := .ref a0_seen) (C := RX0) (T := TX0) (N := 2) hx hb hts ui_X0_clear_X0 hown hK hP 0 rfl rfl 0 (by decide) (hts _ uw_X0_clear_f9) (fun _ h9 => h9) rfl dX0_clear_14 ?_
      refine lv_iload_n hx hb dX0_clear_17 rfl (lv_at hl 1 rfl) ?_
      refine lv_iconst (v := (-1)) hx hb dX0_clear_18 (by decide) ?_
      obtain ⟨hi9, hw⟩ := hw
      refine va_iast hx hb hK hP hD hS 1 1 rfl rfl hi9 dX0_clear_19 (fun H locs hP hD hS => ?_)
      obtain ⟨f2, ef2⟩ : ∃ y : Nat → Int32, y = upd f0_seen l1.toNatClampNeg (-1) := ⟨_, rfl⟩
      have hw := hw f2 ef2
      have hP : va_P (dC, dI) vwCl [(a0, .inr (0, [.ref a0_seen, .int v0_many])), (a0_seen, .inl (cyI, 8, .inl f2))] H := by rw [ef2]; exact hP
      have hD : va_D A [(a0, .inr (0, [.ref a0_seen, .int v0_many])), (a0_seen, .inl (cyI, 8, .inl f2))] := by rw [ef2]; exact hD
      obtain ⟨x3, ex3⟩ : ∃ y : Int32, y = l1 + 1 := ⟨_, rfl⟩
      have hw := hw x3 ex3
      refine lv_iinc (v := x3) (lv' := [(1, .int x3), (0, .ref a0)]) hx hb dX0_clear_20 hl (k := 1) rfl (by rw [ex3]; rfl) (by decide) rfl (fun ls hl => ?_)
      refine lv_goto (tgt := 7) hx hb dX0_clear_23 (by decide) ?_
      exact ih _ _ _ v0_many f2 x3 hP hD hS (lv_sub hl [1, 0] rfl) hw
def wq_X0_clear  (v0_many : Int32) (f0_seen : Nat → Int32)  (Q : Int32 → (Nat → Int32) → Prop) : Prop := (∃ k9 : Nat, wl_X0_clear_7  Q  k9 0 f0_seen 0)
set_option maxHeartbeats 4000000 in
set_option maxRecDepth 100000 in
theorem ck_X0_clear (l : Launch) (dC : Nat → ClassId) (dI : Nat → Nat → Nat) (cyB cyI cyJ cyP : ClassId) (a0 a0_seen : Nat) (sz : Nat)   (v0_many : Int32) (f0_seen : Nat → Int32)  {Q : Int32 → (Nat → Int32) → Prop} (hw : wq_X0_clear  v0_many f0_seen  Q) : Met l yX0_clear wsX0_clear ({ frames := 0, cells := 0, slots := 0, locals := 0 }) (va_Pc [.ref a0] (cPc (dC, dI) (kT cyB cyI cyJ cyP) [(a0, .inr (0, [.ref a0_seen, .int v0_many])), (a0_seen, .inl (cyI, 8, .inl f0_seen))] sz)) (va_Qv (fun (u : Int32 × (Nat → Int32)) => Q u.1 u.2) (cB (dC, dI) (kT cyB cyI cyJ cyP) (va_A [(a0, .inr (0, [.ref a0_seen, .int v0_many])), (a0_seen, .inl (cyI, 8, .inl f0_seen))] sz) (fun u : Int32 × (Nat → Int32) => ([(a0, .inr (0, [.ref a0_seen, .int u.1])), (a0_seen, .inl (cyI, 8, .inl u.2))] : va_W))) (va_A [(a0, .inr (0, [.ref a0_seen, .int v0_many])), (a0_seen, .inl (cyI, 8, .inl f0_seen))] sz)) 0 0 (va_A [(a0, .inr (0, [.ref a0_seen, .int v0_many])), (a0_seen, .inl (cyI, 8, .inl f0_seen))] sz) := by
  refine Met.ofW (cc := cX0_clear) (maxL := 2) (ret := none) (by decide) rfl ?_
  intro p e s m args below meth c s₁ B hml hv
  obtain ⟨rfl, hsz, hP, hK, hD0, hNw⟩ := hv
  have hx := B.exec
  have hb := B.bytes
  have hr := B.returns
  have hts := atoms_spec (ws := wsX0_clear) B.pre
  have hown : s.vm.findClass RX0 = some m.cls := findClass_of_methodNamed B.named
  have hlocks := B.notSynchronized
  subst hsz
  have hD := hD0.self (sz := s.heap.size)
  generalize hAe : va_A [(a0, .inr (0, [.ref a0_seen, .int v0_many])), (a0_seen, .inl (cyI, 8, .inl f0_seen))] s.heap.size = A at hD ⊢
  have hA : ∀ q : Nat, s.heap.size ≤ q → A q := fun q h => by rw [← hAe]; exact Or.inr h
  have hS : va_S A s.heap s.heap [] := va_S.rf
  have hP : va_P (dC, dI) vwCl [(a0, .inr (0, [.ref a0_seen, .int v0_many])), (a0_seen, .inl (cyI, 8, .inl f0_seen))] s.heap := hP
  have hl := lv_entry ([.ref a0]) (n := 2) (Nat.le_of_ble_eq_true rfl)
  rw [lg_entry_eq]
  generalize (lg_sl ([.ref a0]) ++ List.replicate (2 - (lg_sl ([.ref a0])).length) Slot.unset).toArray = ls at hl ⊢
  have hl : lv_has ls 2 [(0, .ref a0)] := hl
  have C0 : cfx p s m _ meth c cX0_clear none wsX0_clear RX0 2 A (dC, dI) (kT cyB cyI cyJ cyP) := ⟨hx, hb, hr, hts, hown, hlocks, hml, hA, hK, hNw⟩
  clear hAe
  obtain ⟨H, hH⟩ : ∃ H, H = s.heap := ⟨_, rfl⟩
  rw [← hH] at hP ⊢
  have hS : va_S A s.heap H [] := by rw [hH]; exact va_S.rf
  have hS := hS
  refine lv_aload_n hx hb dX0_clear_0 rfl (lv_at hl 0 rfl) ?_
  refine lv_iconst (v := 0) hx hb dX0_clear_1 (by decide) ?_
  refine va_put (D := (dC, dI)) (ci := 0) (v := .int 0) (ty := .int) (C := RX0) (T := TX0) (N := 2) hx hb hts ui_X0_clear_X0 tyX0 tyX0_ok nmX0 hown hK hP hD hS 0 rfl rfl 1 (by decide) (hts _ uw_X0_clear_f18) (fun _ h9 => h9) rfl (by decide +kernel) rfl rfl (Nat.le_of_ble_eq_true rfl) dX0_clear_2 (fun H locs hP hD hS => ?_)
  have hP : va_P (dC, dI) vwCl [(a0, .inr (0, [.ref a0_seen, .int 0])), (a0_seen, .inl (cyI, 8, .inl f0_seen))] H := hP
  have hD : va_D A [(a0, .inr (0, [.ref a0_seen, .int 0])), (a0_seen, .inl (cyI, 8, .inl f0_seen))] := hD
  refine lv_iconst (v := 0) hx hb dX0_clear_5 (by decide) ?_
  refine lv_istore_n (lv' := [(1, .int 0), (0, .ref a0)]) hx hb dX0_clear_6 rfl hl (by decide) rfl (fun ls hl => ?_)
  obtain ⟨n9, hw⟩ := hw
  exact kl_X0_clear_7 dC dI cyB cyI cyJ cyP a0 a0_seen   Q  C0 n9 _ _ _ 0 f0_seen 0 hP hD hS (lv_sub hl [1, 0] rfl) hw
theorem ui_X8_isFaulty_X8 : ∀ w ∈ u_ws RX8 TX8 7, w ∈ wsX8_isFaulty := by decide +kernel
theorem uw_X8_isFaulty_f37 : (.fieldLink RX8 37 "MarchHares$Tape" "fault" "I" : Cond) ∈ wsX8_isFaulty := by decide +kernel
def wq_X8_isFaulty (v0_fault : Int32)   (Q : Int32 → Prop) : Prop := ((v0_fault = 0 → (Q 0)) ∧ (¬ v0_fault = 0 → (Q 1)))
set_option maxHeartbeats 4000000 in
set_option maxRecDepth 100000 in
theorem ck_X8_isFaulty (l : Launch) (dC : Nat → ClassId) (dI : Nat → Nat → Nat) (cyB cyI cyJ cyP : ClassId) (a0 : Nat) (sz : Nat) (z0_bytes : Value) (z0_length : Value) (z0_at : Value) (z0_token : Value) (z0_filled : Value) (z0_faultPlace : Value) (v0_fault : Int32)   {Q : Int32 → Prop} (hw : wq_X8_isFaulty v0_fault   Q) : Met l yX8_isFaulty wsX8_isFaulty ({ frames := 0, cells := 0, slots := 0, locals := 0 }) (va_Pc [.ref a0] (cPc (dC, dI) (kT cyB cyI cyJ cyP) [(a0, .inr (8, [z0_bytes, z0_length, z0_at, z0_token, z0_filled, .int v0_fault, z0_faultPlace]))] sz)) (va_Qi (fun (r : Int32) (_ : Unit) => Q r ) (cB (dC, dI) (kT cyB cyI cyJ cyP) (va_A [(a0, .inr (8, [z0_bytes, z0_length, z0_at, z0_token, z0_filled, .int v0_fault, z0_faultPlace]))] sz) (fun u : Unit => ([(a0, .inr (8, [z0_bytes, z0_length, z0_at, z0_token, z0_filled, .int v0_fault, z0_faultPlace]))] : va_W))) (va_A [(a0, .inr (8, [z0_bytes, z0_length, z0_at, z0_token, z0_filled, .int v0_fault, z0_faultPlace]))] sz)) 0 0 (va_A [(a0, .inr (8, [z0_bytes, z0_length, z0_at, z0_token, z0_filled, .int v0_fault, z0_faultPlace]))] sz) := by
  refine Met.ofW (cc := cX8_isFaulty) (maxL := 1) (ret := (some .boolean)) (by decide) rfl ?_
  intro p e s m args below meth c s₁ B hml hv
  obtain ⟨rfl, hsz, hP, hK, hD0, hNw⟩ := hv
  have hx := B.exec
  have hb := B.bytes
  have hr := B.returns
  have hts := atoms_spec (ws := wsX8_isFaulty) B.pre
  have hown : s.vm.findClass RX8 = some m.cls := findClass_of_methodNamed B.named
  have hlocks := B.notSynchronized
  subst hsz
  have hD := hD0.self (sz := s.heap.size)
  generalize hAe : va_A [(a0, .inr (8, [z0_bytes, z0_length, z0_at, z0_token, z0_filled, .int v0_fault, z0_faultPlace]))] s.heap.size = A at hD ⊢
  have hA : ∀ q : Nat, s.heap.size ≤ q → A q := fun q h => by rw [← hAe]; exact Or.inr h
  have hS : va_S A s.heap s.heap [] := va_S.rf
  have hP : va_P (dC, dI) vwCl [(a0, .inr (8, [z0_bytes, z0_length, z0_at, z0_token, z0_filled, .int v0_fault, z0_faultPlace]))] s.heap := hP
  have hl := lv_entry ([.ref a0]) (n := 1) (Nat.le_of_ble_eq_true rfl)
  rw [lg_entry_eq]
  generalize (lg_sl ([.ref a0]) ++ List.replicate (1 - (lg_sl ([.ref a0])).length) Slot.unset).toArray = ls at hl ⊢
  have hl : lv_has ls 1 [(0, .ref a0)] := hl
  have C0 : cfx p s m _ meth c cX8_isFaulty (some .boolean) wsX8_isFaulty RX8 1 A (dC, dI) (kT cyB cyI cyJ cyP) := ⟨hx, hb, hr, hts, hown, hlocks, hml, hA, hK, hNw⟩
  clear hAe
  obtain ⟨H, hH⟩ : ∃ H, H = s.heap := ⟨_, rfl⟩
  rw [← hH] at hP ⊢
  have hS : va_S A s.heap H [] := by rw [hH]; exact va_S.rf
  have hS := hS
  refine lv_aload_n hx hb dX8_isFaulty_0 rfl (lv_at hl 0 rfl) ?_
  refine va_get (D := (dC, dI)) (ci := 8) (v := .int v0_fault) (C := RX8) (T := TX8) (N := 7) hx hb hts ui_X8_isFaulty_X8 hown hK hP 0 rfl rfl 5 (by decide) (hts _ uw_X8_isFaulty_f37) (fun _ h9 => h9) rfl dX8_isFaulty_1 ?_
  refine lv_if_eq (tgt := 11) hx hb dX8_isFaulty_4 (by decide) (fun c1 => ?_) (fun c1 => ?_)
  · have hw := hw.1 c1
    refine lv_iconst (v := 0) hx hb dX8_isFaulty_11 (by decide) ?_
    exact ((W.zret (v := 0) hx hb hr rfl (fun t ht hW => ⟨⟨0, (), rfl, hw, by rw [ht]; exact hP, va_K.moved hW.alike hK, hD⟩, hS.F ht⟩) hS.2.2 dX8_isFaulty_12))
  · have hw := hw.2 c1
    refine lv_iconst (v := 1) hx hb dX8_isFaulty_7 (by decide) ?_
    refine lv_goto (tgt := 12) hx hb dX8_isFaulty_8 (by decide) ?_
    exact ((W.zret (v := 1) hx hb hr rfl (fun t ht hW => ⟨⟨1, (), rfl, hw, by rw [ht]; exact hP, va_K.moved hW.alike hK, hD⟩, hS.F ht⟩) hS.2.2 dX8_isFaulty_12))
theorem ui_X8_skipBlanks_X8 : ∀ w ∈ u_ws RX8 TX8 7, w ∈ wsX8_skipBlanks := by decide +kernel
theorem uw_X8_skipBlanks_f28 : (.fieldLink RX8 28 "MarchHares$Tape" "length" "I" : Cond) ∈ wsX8_skipBlanks := by decide +kernel
theorem uw_X8_skipBlanks_f31 : (.fieldLink RX8 31 "MarchHares$Tape" "at" "I" : Cond) ∈ wsX8_skipBlanks := by decide +kernel
def wl_X8_skipBlanks_0 (v0_length : Int32) (v0_at : Int32) (Q : Prop)  : Nat → Prop
  | 0 => False
  | n + 1 => ((v0_length ≤ v0_at → Q) ∧ (¬ v0_length ≤ v0_at → False))
set_option maxHeartbeats 4000000 in
set_option maxRecDepth 100000 in
theorem kl_X8_skipBlanks_0 {p : Program} {l : Launch} {e : Env} {s : State} {m : MethodId} {args : Array Value} {below : List Frame} {meth : Method} {c : Code} {A : Nat → Prop} (dC : Nat → ClassId) (dI : Nat → Nat → Nat) (cyB cyI cyJ cyP : ClassId) (a0 : Nat) (z0_bytes : Value) (z0_token : Value) (z0_filled : Value) (z0_fault : Value) (z0_faultPlace : Value) (v0_length : Int32) (v0_at : Int32) (Q : Prop)  (C0 : cfx p s m args meth c cX8_skipBlanks none wsX8_skipBlanks RX8 1 A (dC, dI) (kT cyB cyI cyJ cyP)) : ∀ (n : Nat) (H : Heap) (locs : List Loc) (ls : Array Slot) , va_P (dC, dI) vwCl [(a0, .inr (8, [z0_bytes, .int v0_length, .int v0_at, z0_token, z0_filled, z0_fault, z0_faultPlace]))] H → va_D A [(a0, .inr (8, [z0_bytes, .int v0_length, .int v0_at, z0_token, z0_filled, z0_fault, z0_faultPlace]))] → va_S A s.heap H locs → lv_has ls 1 [(0, .ref a0)] → wl_X8_skipBlanks_0 v0_length v0_at Q  n  → W p l e (headSpec wsX8_skipBlanks ({ frames := 0, cells := 0, slots := 0, locals := 0 })).room s m args below meth c H locs 0 0 (MQ below (va_Qv (fun (_ : Unit) => Q ) (cB (dC, dI) (kT cyB cyI cyJ cyP) A (fun u : Unit => ([(a0, .inr (8, [z0_bytes, .int v0_length, .int v0_at, z0_token, z0_filled, z0_fault, z0_faultPlace]))] : va_W))) A) args s 0 0 A) (F0 m 0 ls []) := by
  obtain ⟨hx, hb, hr, hts, hown, hlocks, hml, hA, hK, hNw⟩ := id C0
  intro n
  induction n with
  | zero => intro H locs ls  hP hD hS hl hw; exact False.elim hw
  | succ n ih =>
    intro H locs ls  hP hD hS hl hw
    refine lv_aload_n hx hb dX8_skipBlanks_0 rfl (lv_at hl 0 rfl) ?_
    refine va_get (D := (dC, dI)) (ci := 8) (v := .int v0_at) (C := RX8) (T := TX8) (N := 7) hx hb hts ui_X8_skipBlanks_X8 hown hK hP 0 rfl rfl 2 (by decide) (hts _ uw_X8_skipBlanks_f31) (fun _ h9 => h9) rfl dX8_skipBlanks_1 ?_
    refine lv_aload_n hx hb dX8_skipBlanks_4 rfl (lv_at hl 0 rfl) ?_
    refine va_get (D := (dC, dI)) (ci := 8) (v := .int v0_length) (C := RX8) (T := TX8) (N := 7) hx hb hts ui_X8_skipBlanks_X8 hown hK hP 0 rfl rfl 1 (by decide) (hts _ uw_X8_skipBlanks_f28) (fun _ h9 => h9) rfl dX8_skipBlanks_5 ?_
    refine lv_icmp_ge (tgt := 38) hx hb dX8_skipBlanks_8 (by decide) (fun c1 => ?_) (fun c1 => ?_)
    · have hw := hw.1 c1
      exact ((W.vret hx hb hr (fun t ht hW => ⟨⟨(), rfl, hw, by rw [ht]; exact hP, va_K.moved hW.alike hK, hD⟩, hS.F ht⟩) hS.2.2 dX8_skipBlanks_38))
    · have hw := hw.2 c1
      exact False.elim hw
def wq_X8_skipBlanks (v0_length : Int32) (v0_at : Int32)   (Q : Prop) : Prop := (∃ k9 : Nat, wl_X8_skipBlanks_0 v0_length v0_at Q  k9 )
set_option maxHeartbeats 4000000 in
set_option maxRecDepth 100000 in
theorem ck_X8_skipBlanks (l : Launch) (dC : Nat → ClassId) (dI : Nat → Nat → Nat) (cyB cyI cyJ cyP : ClassId) (a0 : Nat) (sz : Nat) (z0_bytes : Value) (z0_token : Value) (z0_filled : Value) (z0_fault : Value) (z0_faultPlace : Value) (v0_length : Int32) (v0_at : Int32)   {Q : Prop} (hw : wq_X8_skipBlanks v0_length v0_at   Q) : Met l yX8_skipBlanks wsX8_skipBlanks ({ frames := 0, cells := 0, slots := 0, locals := 0 }) (va_Pc [.ref a0] (cPc (dC, dI) (kT cyB cyI cyJ cyP) [(a0, .inr (8, [z0_bytes, .int v0_length, .int v0_at, z0_token, z0_filled, z0_fault, z0_faultPlace]))] sz)) (va_Qv (fun (_ : Unit) => Q ) (cB (dC, dI) (kT cyB cyI cyJ cyP) (va_A [(a0, .inr (8, [z0_bytes, .int v0_length, .int v0_at, z0_token, z0_filled, z0_fault, z0_faultPlace]))] sz) (fun u : Unit => ([(a0, .inr (8, [z0_bytes, .int v0_length, .int v0_at, z0_token, z0_filled, z0_fault, z0_faultPlace]))] : va_W))) (va_A [(a0, .inr (8, [z0_bytes, .int v0_length, .int v0_at, z0_token, z0_filled, z0_fault, z0_faultPlace]))] sz)) 0 0 (va_A [(a0, .inr (8, [z0_bytes, .int v0_length, .int v0_at, z0_token, z0_filled, z0_fault, z0_faultPlace]))] sz) := by
  refine Met.ofW (cc := cX8_skipBlanks) (maxL := 1) (ret := none) (by decide) rfl ?_
  intro p e s m args below meth c s₁ B hml hv
  obtain ⟨rfl, hsz, hP, hK, hD0, hNw⟩ := hv
  have hx := B.exec
  have hb := B.bytes
  have hr := B.returns
  have hts := atoms_spec (ws := wsX8_skipBlanks) B.pre
  have hown : s.vm.findClass RX8 = some m.cls := findClass_of_methodNamed B.named
  have hlocks := B.notSynchronized
  subst hsz
  have hD := hD0.self (sz := s.heap.size)
  generalize hAe : va_A [(a0, .inr (8, [z0_bytes, .int v0_length, .int v0_at, z0_token, z0_filled, z0_fault, z0_faultPlace]))] s.heap.size = A at hD ⊢
  have hA : ∀ q : Nat, s.heap.size ≤ q → A q := fun q h => by rw [← hAe]; exact Or.inr h
  have hS : va_S A s.heap s.heap [] := va_S.rf
  have hP : va_P (dC, dI) vwCl [(a0, .inr (8, [z0_bytes, .int v0_length, .int v0_at, z0_token, z0_filled, z0_fault, z0_faultPlace]))] s.heap := hP
  have hl := lv_entry ([.ref a0]) (n := 1) (Nat.le_of_ble_eq_true rfl)
  rw [lg_entry_eq]
  generalize (lg_sl ([.ref a0]) ++ List.replicate (1 - (lg_sl ([.ref a0])).length) Slot.unset).toArray = ls at hl ⊢
  have hl : lv_has ls 1 [(0, .ref a0)] := hl
  have C0 : cfx p s m _ meth c cX8_skipBlanks none wsX8_skipBlanks RX8 1 A (dC, dI) (kT cyB cyI cyJ cyP) := ⟨hx, hb, hr, hts, hown, hlocks, hml, hA, hK, hNw⟩
  clear hAe
  obtain ⟨H, hH⟩ : ∃ H, H = s.heap := ⟨_, rfl⟩
  rw [← hH] at hP ⊢
  have hS : va_S A s.heap H [] := by rw [hH]; exact va_S.rf
  have hS := hS
  obtain ⟨n9, hw⟩ := hw
  exact kl_X8_skipBlanks_0 dC dI cyB cyI cyJ cyP a0 z0_bytes z0_token z0_filled z0_fault z0_faultPlace v0_length v0_at Q  C0 n9 _ _ _  hP hD hS (lv_sub hl [0] rfl) hw
theorem ui_X8_isEnded_X8 : ∀ w ∈ u_ws RX8 TX8 7, w ∈ wsX8_isEnded := by decide +kernel
theorem uw_X8_isEnded_f28 : (.fieldLink RX8 28 "MarchHares$Tape" "length" "I" : Cond) ∈ wsX8_isEnded := by decide +kernel
theorem uw_X8_isEnded_f31 : (.fieldLink RX8 31 "MarchHares$Tape" "at" "I" : Cond) ∈ wsX8_isEnded := by decide +kernel
def wq_X8_isEnded (v0_length : Int32) (v0_at : Int32)   (Q : Int32 → Prop) : Prop := wq_X8_skipBlanks v0_length v0_at   (((v0_at < v0_length → False) ∧ (¬ v0_at < v0_length → (Q 1))))
set_option maxHeartbeats 4000000 in
set_option maxRecDepth 100000 in
theorem ck_X8_isEnded (l : Launch) (dC : Nat → ClassId) (dI : Nat → Nat → Nat) (cyB cyI cyJ cyP : ClassId) (a0 : Nat) (sz : Nat) (z0_bytes : Value) (z0_token : Value) (z0_filled : Value) (z0_fault : Value) (z0_faultPlace : Value) (v0_length : Int32) (v0_at : Int32)   {Q : Int32 → Prop} (hw : wq_X8_isEnded v0_length v0_at   Q) : Met l yX8_isEnded wsX8_isEnded ({ frames := 1, cells := 0, slots := 0, locals := 20 }) (va_Pc [.ref a0] (cPc (dC, dI) (kT cyB cyI cyJ cyP) [(a0, .inr (8, [z0_bytes, .int v0_length, .int v0_at, z0_token, z0_filled, z0_fault, z0_faultPlace]))] sz)) (va_Qi (fun (r : Int32) (_ : Unit) => Q r ) (cB (dC, dI) (kT cyB cyI cyJ cyP) (va_A [(a0, .inr (8, [z0_bytes, .int v0_length, .int v0_at, z0_token, z0_filled, z0_fault, z0_faultPlace]))] sz) (fun u : Unit => ([(a0, .inr (8, [z0_bytes, .int v0_length, .int v0_at, z0_token, z0_filled, z0_fault, z0_faultPlace]))] : va_W))) (va_A [(a0, .inr (8, [z0_bytes, .int v0_length, .int v0_at, z0_token, z0_filled, z0_fault, z0_faultPlace]))] sz)) 0 0 (va_A [(a0, .inr (8, [z0_bytes, .int v0_length, .int v0_at, z0_token, z0_filled, z0_fault, z0_faultPlace]))] sz) := by
  refine Met.ofW (cc := cX8_isEnded) (maxL := 1) (ret := (some .boolean)) (by decide) rfl ?_
  intro p e s m args below meth c s₁ B hml hv
  obtain ⟨rfl, hsz, hP, hK, hD0, hNw⟩ := hv
  have hx := B.exec
  have hb := B.bytes
  have hr := B.returns
  have hts := atoms_spec (ws := wsX8_isEnded) B.pre
  have hown : s.vm.findClass RX8 = some m.cls := findClass_of_methodNamed B.named
  have hlocks := B.notSynchronized
  subst hsz
  have hD := hD0.self (sz := s.heap.size)
  generalize hAe : va_A [(a0, .inr (8, [z0_bytes, .int v0_length, .int v0_at, z0_token, z0_filled, z0_fault, z0_faultPlace]))] s.heap.size = A at hD ⊢
  have hA : ∀ q : Nat, s.heap.size ≤ q → A q := fun q h => by rw [← hAe]; exact Or.inr h
  have hS : va_S A s.heap s.heap [] := va_S.rf
  have hP : va_P (dC, dI) vwCl [(a0, .inr (8, [z0_bytes, .int v0_length, .int v0_at, z0_token, z0_filled, z0_fault, z0_faultPlace]))] s.heap := hP
  have hl := lv_entry ([.ref a0]) (n := 1) (Nat.le_of_ble_eq_true rfl)
  rw [lg_entry_eq]
  generalize (lg_sl ([.ref a0]) ++ List.replicate (1 - (lg_sl ([.ref a0])).length) Slot.unset).toArray = ls at hl ⊢
  have hl : lv_has ls 1 [(0, .ref a0)] := hl
  have C0 : cfx p s m _ meth c cX8_isEnded (some .boolean) wsX8_isEnded RX8 1 A (dC, dI) (kT cyB cyI cyJ cyP) := ⟨hx, hb, hr, hts, hown, hlocks, hml, hA, hK, hNw⟩
  clear hAe
  obtain ⟨H, hH⟩ : ∃ H, H = s.heap := ⟨_, rfl⟩
  rw [← hH] at hP ⊢
  have hS : va_S A s.heap H [] := by rw [hH]; exact va_S.rf
  have hS := hS
  refine lv_aload_n hx hb dX8_isEnded_0 rfl (lv_at hl 0 rfl) ?_
  have hPc := hP.sub (ws' := [(a0, .inr (8, [z0_bytes, .int v0_length, .int v0_at, z0_token, z0_filled, z0_fault, z0_faultPlace]))]) [0] rfl
  have hDc := hD.sub (ws' := [(a0, .inr (8, [z0_bytes, .int v0_length, .int v0_at, z0_token, z0_filled, z0_fault, z0_faultPlace]))]) [0] (by decide) rfl
  have hFc := va_free (wc := [(a0, .inr (8, [z0_bytes, .int v0_length, .int v0_at, z0_token, z0_filled, z0_fault, z0_faultPlace]))]) hD hS hA [0] rfl
  refine va_callv (va_runV (As := []) (rest := []) ⟨hx, hb, hml, hown, hts⟩ (ck_X8_skipBlanks l dC dI cyB cyI cyJ cyP a0 H.size (z0_bytes) (z0_token) (z0_filled) (z0_fault) (z0_faultPlace) v0_length v0_at   hw) (cwV 0 hts gX8_isEnded_X8_skipBlanks rfl rfl rfl (by decide +kernel) ⟨Nat.le_of_ble_eq_true rfl, Nat.le_of_ble_eq_true rfl⟩) ⟨cPc_blind, va_recv hK hPc (ci := 8) (q0 := 0) rfl rfl, cPc_pre hPc hK hDc hNw⟩ rfl rfl hl.1 rfl (lv_room (Nat.le_of_ble_eq_true rfl)) dX8_isEnded_1 ⟨Nat.le_of_ble_eq_true rfl, Nat.le_of_ble_eq_true rfl⟩) hS (fun q _ h => hFc q h) hFc (fun u t H1 locs ht hvm hw hB hz1 hk1 hS => ?_)
  obtain ⟨hP1, hK1, hD1⟩ := hB
  rw [ht] at hP1
  obtain ⟨hP, hD⟩ := va_join (wr := []) (w1 := [(a0, .inr (8, [z0_bytes, .int v0_length, .int v0_at, z0_token, z0_filled, z0_fault, z0_faultPlace]))]) hP hD [0] [] rfl rfl (by decide) (by decide) hk1 hFc hP1 hD1
  have hP : va_P (dC, dI) vwCl [(a0, .inr (8, [z0_bytes, .int v0_length, .int v0_at, z0_token, z0_filled, z0_fault, z0_faultPlace]))] H1 := hP
  have hD : va_D A [(a0, .inr (8, [z0_bytes, .int v0_length, .int v0_at, z0_token, z0_filled, z0_fault, z0_faultPlace]))] := hD
  generalize H1 = H at hP hS ⊢
  refine lv_aload_n hx hb dX8_isEnded_4 rfl (lv_at hl 0 rfl) ?_
  refine va_get (D := (dC, dI)) (ci := 8) (v := .int v0_at) (C := RX8) (T := TX8) (N := 7) hx hb hts ui_X8_isEnded_X8 hown hK hP 0 rfl rfl 2 (by decide) (hts _ uw_X8_isEnded_f31) (fun _ h9 => h9) rfl dX8_isEnded_5 ?_
  refine lv_aload_n hx hb dX8_isEnded_8 rfl (lv_at hl 0 rfl) ?_
  refine va_get (D := (dC, dI)) (ci := 8) (v := .int v0_length) (C := RX8) (T := TX8) (N := 7) hx hb hts ui_X8_isEnded_X8 hown hK hP 0 rfl rfl 1 (by decide) (hts _ uw_X8_isEnded_f28) (fun _ h9 => h9) rfl dX8_isEnded_9 ?_
  refine lv_icmp_lt (tgt := 19) hx hb dX8_isEnded_12 (by decide) (fun c1 => ?_) (fun c1 => ?_)
  · have hw := hw.1 c1
    exact False.elim hw
  · have hw := hw.2 c1
    refine lv_iconst (v := 1) hx hb dX8_isEnded_15 (by decide) ?_
    refine lv_goto (tgt := 20) hx hb dX8_isEnded_16 (by decide) ?_
    exact ((W.zret (v := 1) hx hb hr rfl (fun t ht hW => ⟨⟨1, (), rfl, hw, by rw [ht]; exact hP, va_K.moved hW.alike hK, hD⟩, hS.F ht⟩) hS.2.2 dX8_isEnded_20))
theorem ui_X8_digitAt_X8 : ∀ w ∈ u_ws RX8 TX8 7, w ∈ wsX8_digitAt := by decide +kernel
theorem uw_X8_digitAt_f28 : (.fieldLink RX8 28 "MarchHares$Tape" "length" "I" : Cond) ∈ wsX8_digitAt := by decide +kernel
def wq_X8_digitAt (v0_length : Int32)  (p1 : Int32) (Q : Int32 → Prop) : Prop := ((v0_length ≤ p1 → (Q (-1))) ∧ (¬ v0_length ≤ p1 → False))
set_option maxHeartbeats 4000000 in
set_option maxRecDepth 100000 in
theorem ck_X8_digitAt (l : Launch) (dC : Nat → ClassId) (dI : Nat → Nat → Nat) (cyB cyI cyJ cyP : ClassId) (a0 : Nat) (sz : Nat) (z0_bytes : Value) (z0_at : Value) (z0_token : Value) (z0_filled : Value) (z0_fault : Value) (z0_faultPlace : Value) (v0_length : Int32)  (p1 : Int32) {Q : Int32 → Prop} (hw : wq_X8_digitAt v0_length  p1 Q) : Met l yX8_digitAt wsX8_digitAt ({ frames := 0, cells := 0, slots := 0, locals := 0 }) (va_Pc [.ref a0, .int p1] (cPc (dC, dI) (kT cyB cyI cyJ cyP) [(a0, .inr (8, [z0_bytes, .int v0_length, z0_at, z0_token, z0_filled, z0_fault, z0_faultPlace]))] sz)) (va_Qi (fun (r : Int32) (_ : Unit) => Q r ) (cB (dC, dI) (kT cyB cyI cyJ cyP) (va_A [(a0, .inr (8, [z0_bytes, .int v0_length, z0_at, z0_token, z0_filled, z0_fault, z0_faultPlace]))] sz) (fun u : Unit => ([(a0, .inr (8, [z0_bytes, .int v0_length, z0_at, z0_token, z0_filled, z0_fault, z0_faultPlace]))] : va_W))) (va_A [(a0, .inr (8, [z0_bytes, .int v0_length, z0_at, z0_token, z0_filled, z0_fault, z0_faultPlace]))] sz)) 0 0 (va_A [(a0, .inr (8, [z0_bytes, .int v0_length, z0_at, z0_token, z0_filled, z0_fault, z0_faultPlace]))] sz) := by
  refine Met.ofW (cc := cX8_digitAt) (maxL := 2) (ret := (some .int)) (by decide) rfl ?_
  intro p e s m args below meth c s₁ B hml hv
  obtain ⟨rfl, hsz, hP, hK, hD0, hNw⟩ := hv
  have hx := B.exec
  have hb := B.bytes
  have hr := B.returns
  have hts := atoms_spec (ws := wsX8_digitAt) B.pre
  have hown : s.vm.findClass RX8 = some m.cls := findClass_of_methodNamed B.named
  have hlocks := B.notSynchronized
  subst hsz
  have hD := hD0.self (sz := s.heap.size)
  generalize hAe : va_A [(a0, .inr (8, [z0_bytes, .int v0_length, z0_at, z0_token, z0_filled, z0_fault, z0_faultPlace]))] s.heap.size = A at hD ⊢
  have hA : ∀ q : Nat, s.heap.size ≤ q → A q := fun q h => by rw [← hAe]; exact Or.inr h
  have hS : va_S A s.heap s.heap [] := va_S.rf
  have hP : va_P (dC, dI) vwCl [(a0, .inr (8, [z0_bytes, .int v0_length, z0_at, z0_token, z0_filled, z0_fault, z0_faultPlace]))] s.heap := hP
  have hl := lv_entry ([.ref a0, .int p1]) (n := 2) (Nat.le_of_ble_eq_true rfl)
  rw [lg_entry_eq]
  generalize (lg_sl ([.ref a0, .int p1]) ++ List.replicate (2 - (lg_sl ([.ref a0, .int p1])).length) Slot.unset).toArray = ls at hl ⊢
  have hl : lv_has ls 2 [(0, .ref a0), (1, .int p1)] := hl
  have C0 : cfx p s m _ meth c cX8_digitAt (some .int) wsX8_digitAt RX8 2 A (dC, dI) (kT cyB cyI cyJ cyP) := ⟨hx, hb, hr, hts, hown, hlocks, hml, hA, hK, hNw⟩
  clear hAe
  obtain ⟨H, hH⟩ : ∃ H, H = s.heap := ⟨_, rfl⟩
  rw [← hH] at hP ⊢
  have hS : va_S A s.heap H [] := by rw [hH]; exact va_S.rf
  have hS := hS
  refine lv_iload_n hx hb dX8_digitAt_0 rfl (lv_at hl 1 rfl) ?_
  refine lv_aload_n hx hb dX8_digitAt_1 rfl (lv_at hl 0 rfl) ?_
  refine va_get (D := (dC, dI)) (ci := 8) (v := .int v0_length) (C := RX8) (T := TX8) (N := 7) hx hb hts ui_X8_digitAt_X8 hown hK hP 0 rfl rfl 1 (by decide) (hts _ uw_X8_digitAt_f28) (fun _ h9 => h9) rfl dX8_digitAt_2 ?_
  refine lv_icmp_ge (tgt := 30) hx hb dX8_digitAt_5 (by decide) (fun c1 => ?_) (fun c1 => ?_)
  · have hw := hw.1 c1
    refine lv_iconst (v := (-1)) hx hb dX8_digitAt_30 (by decide) ?_
    exact ((W.iret (v := (-1)) hx hb hr (fun t ht hW => ⟨⟨(-1), (), rfl, hw, by rw [ht]; exact hP, va_K.moved hW.alike hK, hD⟩, hS.F ht⟩) hS.2.2 dX8_digitAt_31))
  · have hw := hw.2 c1
    exact False.elim hw
theorem ui_X8_blame_X8 : ∀ w ∈ u_ws RX8 TX8 7, w ∈ wsX8_blame := by decide +kernel
theorem uw_X8_blame_f15 : (.fieldLink RX8 15 "MarchHares$Tape" "faultPlace" "I" : Cond) ∈ wsX8_blame := by decide +kernel
theorem uw_X8_blame_f37 : (.fieldLink RX8 37 "MarchHares$Tape" "fault" "I" : Cond) ∈ wsX8_blame := by decide +kernel
def wq_X8_blame  (v0_fault : Int32) (v0_faultPlace : Int32) (p1 : Int32) (p2 : Int32) (Q : Int32 → Int32 → Prop) : Prop := ((¬ v0_fault = 0 → (Q v0_fault v0_faultPlace)) ∧ (v0_fault = 0 → (Q p1 p2)))
set_option maxHeartbeats 4000000 in
set_option maxRecDepth 100000 in
theorem ck_X8_blame (l : Launch) (dC : Nat → ClassId) (dI : Nat → Nat → Nat) (cyB cyI cyJ cyP : ClassId) (a0 : Nat) (sz : Nat) (z0_bytes : Value) (z0_length : Value) (z0_at : Value) (z0_token : Value) (z0_filled : Value)  (v0_fault : Int32) (v0_faultPlace : Int32) (p1 : Int32) (p2 : Int32) {Q : Int32 → Int32 → Prop} (hw : wq_X8_blame  v0_fault v0_faultPlace p1 p2 Q) : Met l yX8_blame wsX8_blame ({ frames := 0, cells := 0, slots := 0, locals := 0 }) (va_Pc [.ref a0, .int p1, .int p2] (cPc (dC, dI) (kT cyB cyI cyJ cyP) [(a0, .inr (8, [z0_bytes, z0_length, z0_at, z0_token, z0_filled, .int v0_fault, .int v0_faultPlace]))] sz)) (va_Qv (fun (u : Int32 × Int32) => Q u.1 u.2) (cB (dC, dI) (kT cyB cyI cyJ cyP) (va_A [(a0, .inr (8, [z0_bytes, z0_length, z0_at, z0_token, z0_filled, .int v0_fault, .int v0_faultPlace]))] sz) (fun u : Int32 × Int32 => ([(a0, .inr (8, [z0_bytes, z0_length, z0_at, z0_token, z0_filled, .int u.1, .int u.2]))] : va_W))) (va_A [(a0, .inr (8, [z0_bytes, z0_length, z0_at, z0_token, z0_filled, .int v0_fault, .int v0_faultPlace]))] sz)) 0 0 (va_A [(a0, .inr (8, [z0_bytes, z0_length, z0_at, z0_token, z0_filled, .int v0_fault, .int v0_faultPlace]))] sz) := by
  refine Met.ofW (cc := cX8_blame) (maxL := 3) (ret := none) (by decide) rfl ?_
  intro p e s m args below meth c s₁ B hml hv
  obtain ⟨rfl, hsz, hP, hK, hD0, hNw⟩ := hv
  have hx := B.exec
  have hb := B.bytes
  have hr := B.returns
  have hts := atoms_spec (ws := wsX8_blame) B.pre
  have hown : s.vm.findClass RX8 = some m.cls := findClass_of_methodNamed B.named
  have hlocks := B.notSynchronized
  subst hsz
  have hD := hD0.self (sz := s.heap.size)
  generalize hAe : va_A [(a0, .inr (8, [z0_bytes, z0_length, z0_at, z0_token, z0_filled, .int v0_fault, .int v0_faultPlace]))] s.heap.size = A at hD ⊢
  have hA : ∀ q : Nat, s.heap.size ≤ q → A q := fun q h => by rw [← hAe]; exact Or.inr h
  have hS : va_S A s.heap s.heap [] := va_S.rf
  have hP : va_P (dC, dI) vwCl [(a0, .inr (8, [z0_bytes, z0_length, z0_at, z0_token, z0_filled, .int v0_fault, .int v0_faultPlace]))] s.heap := hP
  have hl := lv_entry ([.ref a0, .int p1, .int p2]) (n := 3) (Nat.le_of_ble_eq_true rfl)
  rw [lg_entry_eq]
  generalize (lg_sl ([.ref a0, .int p1, .int p2]) ++ List.replicate (3 - (lg_sl ([.ref a0, .int p1, .int p2])).length) Slot.unset).toArray = ls at hl ⊢
  have hl : lv_has ls 3 [(0, .ref a0), (1, .int p1), (2, .int p2)] := hl
  have C0 : cfx p s m _ meth c cX8_blame none wsX8_blame RX8 3 A (dC, dI) (kT cyB cyI cyJ cyP) := ⟨hx, hb, hr, hts, hown, hlocks, hml, hA, hK, hNw⟩
  clear hAe
  obtain ⟨H, hH⟩ : ∃ H, H = s.heap := ⟨_, rfl⟩
  rw [← hH] at hP ⊢
  have hS : va_S A s.heap H [] := by rw [hH]; exact va_S.rf
  have hS := hS
  refine lv_aload_n hx hb dX8_blame_0 rfl (lv_at hl 0 rfl) ?_
  refine va_get (D := (dC, dI)) (ci := 8) (v := .int v0_fault) (C := RX8) (T := TX8) (N := 7) hx hb hts ui_X8_blame_X8 hown hK hP 0 rfl rfl 5 (by decide) (hts _ uw_X8_blame_f37) (fun _ h9 => h9) rfl dX8_blame_1 ?_
  refine lv_if_ne (tgt := 17) hx hb dX8_blame_4 (by decide) (fun c1 => ?_) (fun c1 => ?_)
  · have hw := hw.1 c1
    exact ((W.vret hx hb hr (fun t ht hW => ⟨⟨(v0_fault, v0_faultPlace), rfl, hw, by rw [ht]; exact hP, va_K.moved hW.alike hK, hD⟩, hS.F ht⟩) hS.2.2 dX8_blame_17))
  · have hw := hw.2 c1
    refine lv_aload_n hx hb dX8_blame_7 rfl (lv_at hl 0 rfl) ?_
    refine lv_iload_n hx hb dX8_blame_8 rfl (lv_at hl 1 rfl) ?_
    refine va_put (D := (dC, dI)) (ci := 8) (v := .int p1) (ty := .int) (C := RX8) (T := TX8) (N := 7) hx hb hts ui_X8_blame_X8 tyX8 tyX8_ok nmX8 hown hK hP hD hS 0 rfl rfl 5 (by decide) (hts _ uw_X8_blame_f37) (fun _ h9 => h9) rfl (by decide +kernel) rfl rfl (Nat.le_of_ble_eq_true rfl) dX8_blame_9 (fun H locs hP hD hS => ?_)
    have hP : va_P (dC, dI) vwCl [(a0, .inr (8, [z0_bytes, z0_length, z0_at, z0_token, z0_filled, .int p1, .int v0_faultPlace]))] H := hP
    have hD : va_D A [(a0, .inr (8, [z0_bytes, z0_length, z0_at, z0_token, z0_filled, .int p1, .int v0_faultPlace]))] := hD
    refine lv_aload_n hx hb dX8_blame_12 rfl (lv_at hl 0 rfl) ?_
    refine lv_iload_n hx hb dX8_blame_13 rfl (lv_at hl 2 rfl) ?_
    refine va_put (D := (dC, dI)) (ci := 8) (v := .int p2) (ty := .int) (C := RX8) (T := TX8) (N := 7) hx hb hts ui_X8_blame_X8 tyX8 tyX8_ok nmX8 hown hK hP hD hS 0 rfl rfl 6 (by decide) (hts _ uw_X8_blame_f15) (fun _ h9 => h9) rfl (by decide +kernel) rfl rfl (Nat.le_of_ble_eq_true rfl) dX8_blame_14 (fun H locs hP hD hS => ?_)
    have hP : va_P (dC, dI) vwCl [(a0, .inr (8, [z0_bytes, z0_length, z0_at, z0_token, z0_filled, .int p1, .int p2]))] H := hP
    have hD : va_D A [(a0, .inr (8, [z0_bytes, z0_length, z0_at, z0_token, z0_filled, .int p1, .int p2]))] := hD
    exact ((W.vret hx hb hr (fun t ht hW => ⟨⟨(p1, p2), rfl, hw, by rw [ht]; exact hP, va_K.moved hW.alike hK, hD⟩, hS.F ht⟩) hS.2.2 dX8_blame_17))
theorem ui_X8_takes_X8 : ∀ w ∈ u_ws RX8 TX8 7, w ∈ wsX8_takes := by decide +kernel
theorem uw_X8_takes_f28 : (.fieldLink RX8 28 "MarchHares$Tape" "length" "I" : Cond) ∈ wsX8_takes := by decide +kernel
theorem uw_X8_takes_f31 : (.fieldLink RX8 31 "MarchHares$Tape" "at" "I" : Cond) ∈ wsX8_takes := by decide +kernel
def wq_X8_takes (v0_length : Int32) (v0_at : Int32) (v0_fault : Int32)  (p1 : Int32) (Q : Int32 → Prop) : Prop := wq_X8_skipBlanks v0_length v0_at   (wq_X8_isFaulty v0_fault   (fun r1 => ((¬ r1 = 0 → (Q 0)) ∧ (r1 = 0 → ((v0_length ≤ v0_at → (Q 0)) ∧ (¬ v0_length ≤ v0_at → False))))))
set_option maxHeartbeats 4000000 in
set_option maxRecDepth 100000 in
theorem ck_X8_takes (l : Launch) (dC : Nat → ClassId) (dI : Nat → Nat → Nat) (cyB cyI cyJ cyP : ClassId) (a0 : Nat) (sz : Nat) (z0_bytes : Value) (z0_token : Value) (z0_filled : Value) (z0_faultPlace : Value) (v0_length : Int32) (v0_at : Int32) (v0_fault : Int32)  (p1 : Int32) {Q : Int32 → Prop} (hw : wq_X8_takes v0_length v0_at v0_fault  p1 Q) : Met l yX8_takes wsX8_takes ({ frames := 1, cells := 0, slots := 0, locals := 20 }) (va_Pc [.ref a0, .int p1] (cPc (dC, dI) (kT cyB cyI cyJ cyP) [(a0, .inr (8, [z0_bytes, .int v0_length, .int v0_at, z0_token, z0_filled, .int v0_fault, z0_faultPlace]))] sz)) (va_Qi (fun (r : Int32) (_ : Unit) => Q r ) (cB (dC, dI) (kT cyB cyI cyJ cyP) (va_A [(a0, .inr (8, [z0_bytes, .int v0_length, .int v0_at, z0_token, z0_filled, .int v0_fault, z0_faultPlace]))] sz) (fun u : Unit => ([(a0, .inr (8, [z0_bytes, .int v0_length, .int v0_at, z0_token, z0_filled, .int v0_fault, z0_faultPlace]))] : va_W))) (va_A [(a0, .inr (8, [z0_bytes, .int v0_length, .int v0_at, z0_token, z0_filled, .int v0_fault, z0_faultPlace]))] sz)) 0 0 (va_A [(a0, .inr (8, [z0_bytes, .int v0_length, .int v0_at, z0_token, z0_filled, .int v0_fault, z0_faultPlace]))] sz) := by
  refine Met.ofW (cc := cX8_takes) (maxL := 2) (ret := (some .boolean)) (by decide) rfl ?_
  intro p e s m args below meth c s₁ B hml hv
  obtain ⟨rfl, hsz, hP, hK, hD0, hNw⟩ := hv
  have hx := B.exec
  have hb := B.bytes
  have hr := B.returns
  have hts := atoms_spec (ws := wsX8_takes) B.pre
  have hown : s.vm.findClass RX8 = some m.cls := findClass_of_methodNamed B.named
  have hlocks := B.notSynchronized
  subst hsz
  have hD := hD0.self (sz := s.heap.size)
  generalize hAe : va_A [(a0, .inr (8, [z0_bytes, .int v0_length, .int v0_at, z0_token, z0_filled, .int v0_fault, z0_faultPlace]))] s.heap.size = A at hD ⊢
  have hA : ∀ q : Nat, s.heap.size ≤ q → A q := fun q h => by rw [← hAe]; exact Or.inr h
  have hS : va_S A s.heap s.heap [] := va_S.rf
  have hP : va_P (dC, dI) vwCl [(a0, .inr (8, [z0_bytes, .int v0_length, .int v0_at, z0_token, z0_filled, .int v0_fault, z0_faultPlace]))] s.heap := hP
  have hl := lv_entry ([.ref a0, .int p1]) (n := 2) (Nat.le_of_ble_eq_true rfl)
  rw [lg_entry_eq]
  generalize (lg_sl ([.ref a0, .int p1]) ++ List.replicate (2 - (lg_sl ([.ref a0, .int p1])).length) Slot.unset).toArray = ls at hl ⊢
  have hl : lv_has ls 2 [(0, .ref a0), (1, .int p1)] := hl
  have C0 : cfx p s m _ meth c cX8_takes (some .boolean) wsX8_takes RX8 2 A (dC, dI) (kT cyB cyI cyJ cyP) := ⟨hx, hb, hr, hts, hown, hlocks, hml, hA, hK, hNw⟩
  clear hAe
  obtain ⟨H, hH⟩ : ∃ H, H = s.heap := ⟨_, rfl⟩
  rw [← hH] at hP ⊢
  have hS : va_S A s.heap H [] := by rw [hH]; exact va_S.rf
  have hS := hS
  refine lv_aload_n hx hb dX8_takes_0 rfl (lv_at hl 0 rfl) ?_
  have hPc := hP.sub (ws' := [(a0, .inr (8, [z0_bytes, .int v0_length, .int v0_at, z0_token, z0_filled, .int v0_fault, z0_faultPlace]))]) [0] rfl
  have hDc := hD.sub (ws' := [(a0, .inr (8, [z0_bytes, .int v0_length, .int v0_at, z0_token, z0_filled, .int v0_fault, z0_faultPlace]))]) [0] (by decide) rfl
  have hFc := va_free (wc := [(a0, .inr (8, [z0_bytes, .int v0_length, .int v0_at, z0_token, z0_filled, .int v0_fault, z0_faultPlace]))]) hD hS hA [0] rfl
  refine va_callv (va_runV (As := []) (rest := []) ⟨hx, hb, hml, hown, hts⟩ (ck_X8_skipBlanks l dC dI cyB cyI cyJ cyP a0 H.size (z0_bytes) (z0_token) (z0_filled) (.int v0_fault) (z0_faultPlace) v0_length v0_at   hw) (cwV 0 hts gX8_takes_X8_skipBlanks rfl rfl rfl (by decide +kernel) ⟨Nat.le_of_ble_eq_true rfl, Nat.le_of_ble_eq_true rfl⟩) ⟨cPc_blind, va_recv hK hPc (ci := 8) (q0 := 0) rfl rfl, cPc_pre hPc hK hDc hNw⟩ rfl rfl hl.1 rfl (lv_room (Nat.le_of_ble_eq_true rfl)) dX8_takes_1 ⟨Nat.le_of_ble_eq_true rfl, Nat.le_of_ble_eq_true rfl⟩) hS (fun q _ h => hFc q h) hFc (fun u t H1 locs ht hvm hw hB hz1 hk1 hS => ?_)
  obtain ⟨hP1, hK1, hD1⟩ := hB
  rw [ht] at hP1
  obtain ⟨hP, hD⟩ := va_join (wr := []) (w1 := [(a0, .inr (8, [z0_bytes, .int v0_length, .int v0_at, z0_token, z0_filled, .int v0_fault, z0_faultPlace]))]) hP hD [0] [] rfl rfl (by decide) (by decide) hk1 hFc hP1 hD1
  have hP : va_P (dC, dI) vwCl [(a0, .inr (8, [z0_bytes, .int v0_length, .int v0_at, z0_token, z0_filled, .int v0_fault, z0_faultPlace]))] H1 := hP
  have hD : va_D A [(a0, .inr (8, [z0_bytes, .int v0_length, .int v0_at, z0_token, z0_filled, .int v0_fault, z0_faultPlace]))] := hD
  generalize H1 = H at hP hS ⊢
  refine lv_aload_n hx hb dX8_takes_4 rfl (lv_at hl 0 rfl) ?_
  have hPc := hP.sub (ws' := [(a0, .inr (8, [z0_bytes, .int v0_length, .int v0_at, z0_token, z0_filled, .int v0_fault, z0_faultPlace]))]) [0] rfl
  have hDc := hD.sub (ws' := [(a0, .inr (8, [z0_bytes, .int v0_length, .int v0_at, z0_token, z0_filled, .int v0_fault, z0_faultPlace]))]) [0] (by decide) rfl
  have hFc := va_free (wc := [(a0, .inr (8, [z0_bytes, .int v0_length, .int v0_at, z0_token, z0_filled, .int v0_fault, z0_faultPlace]))]) hD hS hA [0] rfl
  refine va_calli (va_runV (As := []) (rest := []) ⟨hx, hb, hml, hown, hts⟩ (ck_X8_isFaulty l dC dI cyB cyI cyJ cyP a0 H.size (z0_bytes) (.int v0_length) (.int v0_at) (z0_token) (z0_filled) (z0_faultPlace) v0_fault   hw) (cwV 0 hts gX8_takes_X8_isFaulty rfl rfl rfl (by decide +kernel) ⟨Nat.le_of_ble_eq_true rfl, Nat.le_of_ble_eq_true rfl⟩) ⟨cPc_blind, va_recv hK hPc (ci := 8) (q0 := 0) rfl rfl, cPc_pre hPc hK hDc hNw⟩ rfl rfl hl.1 rfl (lv_room (Nat.le_of_ble_eq_true rfl)) dX8_takes_5 ⟨Nat.le_of_ble_eq_true rfl, Nat.le_of_ble_eq_true rfl⟩) hS (fun q _ h => hFc q h) hFc (fun r1 u t H1 locs ht hvm hw hB hz1 hk1 hS => ?_)
  obtain ⟨hP1, hK1, hD1⟩ := hB
  rw [ht] at hP1
  obtain ⟨hP, hD⟩ := va_join (wr := []) (w1 := [(a0, .inr (8, [z0_bytes, .int v0_length, .int v0_at, z0_token, z0_filled, .int v0_fault, z0_faultPlace]))]) hP hD [0] [] rfl rfl (by decide) (by decide) hk1 hFc hP1 hD1
  have hP : va_P (dC, dI) vwCl [(a0, .inr (8, [z0_bytes, .int v0_length, .int v0_at, z0_token, z0_filled, .int v0_fault, z0_faultPlace]))] H1 := hP
  have hD : va_D A [(a0, .inr (8, [z0_bytes, .int v0_length, .int v0_at, z0_token, z0_filled, .int v0_fault, z0_faultPlace]))] := hD
  generalize H1 = H at hP hS ⊢
  refine lv_if_ne (tgt := 35) hx hb dX8_takes_8 (by decide) (fun c2 => ?_) (fun c2 => ?_)
  · have hw := hw.1 c2
    refine lv_iconst (v := 0) hx hb dX8_takes_35 (by decide) ?_
    exact ((W.zret (v := 0) hx hb hr rfl (fun t ht hW => ⟨⟨0, (), rfl, hw, by rw [ht]; exact hP, va_K.moved hW.alike hK, hD⟩, hS.F ht⟩) hS.2.2 dX8_takes_36))
  · have hw := hw.2 c2
    refine lv_aload_n hx hb dX8_takes_11 rfl (lv_at hl 0 rfl) ?_
    refine va_get (D := (dC, dI)) (ci := 8) (v := .int v0_at) (C := RX8) (T := TX8) (N := 7) hx hb hts ui_X8_takes_X8 hown hK hP 0 rfl rfl 2 (by decide) (hts _ uw_X8_takes_f31) (fun _ h9 => h9) rfl dX8_takes_12 ?_
    refine lv_aload_n hx hb dX8_takes_15 rfl (lv_at hl 0 rfl) ?_
    refine va_get (D := (dC, dI)) (ci := 8) (v := .int v0_length) (C := RX8) (T := TX8) (N := 7) hx hb hts ui_X8_takes_X8 hown hK hP 0 rfl rfl 1 (by decide) (hts _ uw_X8_takes_f28) (fun _ h9 => h9) rfl dX8_takes_16 ?_
    refine lv_icmp_ge (tgt := 35) hx hb dX8_takes_19 (by decide) (fun c3 => ?_) (fun c3 => ?_)
    · have hw := hw.1 c3
      refine lv_iconst (v := 0) hx hb dX8_takes_35 (by decide) ?_
      exact ((W.zret (v := 0) hx hb hr rfl (fun t ht hW => ⟨⟨0, (), rfl, hw, by rw [ht]; exact hP, va_K.moved hW.alike hK, hD⟩, hS.F ht⟩) hS.2.2 dX8_takes_36))
    · have hw := hw.2 c3
      exact False.elim hw
theorem ui_X8_blameSign_X8 : ∀ w ∈ u_ws RX8 TX8 7, w ∈ wsX8_blameSign := by decide +kernel
theorem uw_X8_blameSign_f31 : (.fieldLink RX8 31 "MarchHares$Tape" "at" "I" : Cond) ∈ wsX8_blameSign := by decide +kernel
def wq_X8_blameSign (v0_length : Int32) (v0_at : Int32) (v0_fault : Int32) (v0_faultPlace : Int32)  (Q : Int32 → Int32 → Prop) : Prop := wq_X8_skipBlanks v0_length v0_at   (wq_X8_blame  v0_fault v0_faultPlace 1 v0_at (fun x1 x2 => (Q x1 x2)))
set_option maxHeartbeats 4000000 in
set_option maxRecDepth 100000 in
theorem ck_X8_blameSign (l : Launch) (dC : Nat → ClassId) (dI : Nat → Nat → Nat) (cyB cyI cyJ cyP : ClassId) (a0 : Nat) (sz : Nat) (z0_bytes : Value) (z0_token : Value) (z0_filled : Value) (v0_length : Int32) (v0_at : Int32) (v0_fault : Int32) (v0_faultPlace : Int32)  {Q : Int32 → Int32 → Prop} (hw : wq_X8_blameSign v0_length v0_at v0_fault v0_faultPlace  Q) : Met l yX8_blameSign wsX8_blameSign ({ frames := 1, cells := 0, slots := 0, locals := 22 }) (va_Pc [.ref a0] (cPc (dC, dI) (kT cyB cyI cyJ cyP) [(a0, .inr (8, [z0_bytes, .int v0_length, .int v0_at, z0_token, z0_filled, .int v0_fault, .int v0_faultPlace]))] sz)) (va_Qv (fun (u : Int32 × Int32) => Q u.1 u.2) (cB (dC, dI) (kT cyB cyI cyJ cyP) (va_A [(a0, .inr (8, [z0_bytes, .int v0_length, .int v0_at, z0_token, z0_filled, .int v0_fault, .int v0_faultPlace]))] sz) (fun u : Int32 × Int32 => ([(a0, .inr (8, [z0_bytes, .int v0_length, .int v0_at, z0_token, z0_filled, .int u.1, .int u.2]))] : va_W))) (va_A [(a0, .inr (8, [z0_bytes, .int v0_length, .int v0_at, z0_token, z0_filled, .int v0_fault, .int v0_faultPlace]))] sz)) 0 0 (va_A [(a0, .inr (8, [z0_bytes, .int v0_length, .int v0_at, z0_token, z0_filled, .int v0_fault, .int v0_faultPlace]))] sz) := by
  refine Met.ofW (cc := cX8_blameSign) (maxL := 1) (ret := none) (by decide) rfl ?_
  intro p e s m args below meth c s₁ B hml hv
  obtain ⟨rfl, hsz, hP, hK, hD0, hNw⟩ := hv
  have hx := B.exec
  have hb := B.bytes
  have hr := B.returns
  have hts := atoms_spec (ws := wsX8_blameSign) B.pre
  have hown : s.vm.findClass RX8 = some m.cls := findClass_of_methodNamed B.named
  have hlocks := B.notSynchronized
  subst hsz
  have hD := hD0.self (sz := s.heap.size)
  generalize hAe : va_A [(a0, .inr (8, [z0_bytes, .int v0_length, .int v0_at, z0_token, z0_filled, .int v0_fault, .int v0_faultPlace]))] s.heap.size = A at hD ⊢
  have hA : ∀ q : Nat, s.heap.size ≤ q → A q := fun q h => by rw [← hAe]; exact Or.inr h
  have hS : va_S A s.heap s.heap [] := va_S.rf
  have hP : va_P (dC, dI) vwCl [(a0, .inr (8, [z0_bytes, .int v0_length, .int v0_at, z0_token, z0_filled, .int v0_fault, .int v0_faultPlace]))] s.heap := hP
  have hl := lv_entry ([.ref a0]) (n := 1) (Nat.le_of_ble_eq_true rfl)
  rw [lg_entry_eq]
  generalize (lg_sl ([.ref a0]) ++ List.replicate (1 - (lg_sl ([.ref a0])).length) Slot.unset).toArray = ls at hl ⊢
  have hl : lv_has ls 1 [(0, .ref a0)] := hl
  have C0 : cfx p s m _ meth c cX8_blameSign none wsX8_blameSign RX8 1 A (dC, dI) (kT cyB cyI cyJ cyP) := ⟨hx, hb, hr, hts, hown, hlocks, hml, hA, hK, hNw⟩
  clear hAe
  obtain ⟨H, hH⟩ : ∃ H, H = s.heap := ⟨_, rfl⟩
  rw [← hH] at hP ⊢
  have hS : va_S A s.heap H [] := by rw [hH]; exact va_S.rf
  have hS := hS
  refine lv_aload_n hx hb dX8_blameSign_0 rfl (lv_at hl 0 rfl) ?_
  have hPc := hP.sub (ws' := [(a0, .inr (8, [z0_bytes, .int v0_length, .int v0_at, z0_token, z0_filled, .int v0_fault, .int v0_faultPlace]))]) [0] rfl
  have hDc := hD.sub (ws' := [(a0, .inr (8, [z0_bytes, .int v0_length, .int v0_at, z0_token, z0_filled, .int v0_fault, .int v0_faultPlace]))]) [0] (by decide) rfl
  have hFc := va_free (wc := [(a0, .inr (8, [z0_bytes, .int v0_length, .int v0_at, z0_token, z0_filled, .int v0_fault, .int v0_faultPlace]))]) hD hS hA [0] rfl
  refine va_callv (va_runV (As := []) (rest := []) ⟨hx, hb, hml, hown, hts⟩ (ck_X8_skipBlanks l dC dI cyB cyI cyJ cyP a0 H.size (z0_bytes) (z0_token) (z0_filled) (.int v0_fault) (.int v0_faultPlace) v0_length v0_at   hw) (cwV 0 hts gX8_blameSign_X8_skipBlanks rfl rfl rfl (by decide +kernel) ⟨Nat.le_of_ble_eq_true rfl, Nat.le_of_ble_eq_true rfl⟩) ⟨cPc_blind, va_recv hK hPc (ci := 8) (q0 := 0) rfl rfl, cPc_pre hPc hK hDc hNw⟩ rfl rfl hl.1 rfl (lv_room (Nat.le_of_ble_eq_true rfl)) dX8_blameSign_1 ⟨Nat.le_of_ble_eq_true rfl, Nat.le_of_ble_eq_true rfl⟩) hS (fun q _ h => hFc q h) hFc (fun u t H1 locs ht hvm hw hB hz1 hk1 hS => ?_)
  obtain ⟨hP1, hK1, hD1⟩ := hB
  rw [ht] at hP1
  obtain ⟨hP, hD⟩ := va_join (wr := []) (w1 := [(a0, .inr (8, [z0_bytes, .int v0_length, .int v0_at, z0_token, z0_filled, .int v0_fault, .int v0_faultPlace]))]) hP hD [0] [] rfl rfl (by decide) (by decide) hk1 hFc hP1 hD1
  have hP : va_P (dC, dI) vwCl [(a0, .inr (8, [z0_bytes, .int v0_length, .int v0_at, z0_token, z0_filled, .int v0_fault, .int v0_faultPlace]))] H1 := hP
  have hD : va_D A [(a0, .inr (8, [z0_bytes, .int v0_length, .int v0_at, z0_token, z0_filled, .int v0_fault, .int v0_faultPlace]))] := hD
  generalize H1 = H at hP hS ⊢
  refine lv_aload_n hx hb dX8_blameSign_4 rfl (lv_at hl 0 rfl) ?_
  refine lv_iconst (v := 1) hx hb dX8_blameSign_5 (by decide) ?_
  refine lv_aload_n hx hb dX8_blameSign_6 rfl (lv_at hl 0 rfl) ?_
  refine va_get (D := (dC, dI)) (ci := 8) (v := .int v0_at) (C := RX8) (T := TX8) (N := 7) hx hb hts ui_X8_blameSign_X8 hown hK hP 0 rfl rfl 2 (by decide) (hts _ uw_X8_blameSign_f31) (fun _ h9 => h9) rfl dX8_blameSign_7 ?_
  have hPc := hP.sub (ws' := [(a0, .inr (8, [z0_bytes, .int v0_length, .int v0_at, z0_token, z0_filled, .int v0_fault, .int v0_faultPlace]))]) [0] rfl
  have hDc := hD.sub (ws' := [(a0, .inr (8, [z0_bytes, .int v0_length, .int v0_at, z0_token, z0_filled, .int v0_fault, .int v0_faultPlace]))]) [0] (by decide) rfl
  have hFc := va_free (wc := [(a0, .inr (8, [z0_bytes, .int v0_length, .int v0_at, z0_token, z0_filled, .int v0_fault, .int v0_faultPlace]))]) hD hS hA [0] rfl
  refine va_callv (va_runV (As := [.int 1, .int v0_at]) (rest := []) ⟨hx, hb, hml, hown, hts⟩ (ck_X8_blame l dC dI cyB cyI cyJ cyP a0 H.size (z0_bytes) (.int v0_length) (.int v0_at) (z0_token) (z0_filled)  v0_fault v0_faultPlace 1 v0_at hw) (cwV 2 hts gX8_blameSign_X8_blame rfl rfl rfl (by decide +kernel) ⟨Nat.le_of_ble_eq_true rfl, Nat.le_of_ble_eq_true rfl⟩) ⟨cPc_blind, va_recv hK hPc (ci := 8) (q0 := 0) rfl rfl, cPc_pre hPc hK hDc hNw⟩ rfl rfl hl.1 rfl (lv_room (Nat.le_of_ble_eq_true rfl)) dX8_blameSign_10 ⟨Nat.le_of_ble_eq_true rfl, Nat.le_of_ble_eq_true rfl⟩) hS (fun q _ h => hFc q h) hFc (fun u t H1 locs ht hvm hw hB hz1 hk1 hS => ?_)
  obtain ⟨x1, x2⟩ := u
  obtain ⟨hP1, hK1, hD1⟩ := hB
  rw [ht] at hP1
  obtain ⟨hP, hD⟩ := va_join (wr := []) (w1 := [(a0, .inr (8, [z0_bytes, .int v0_length, .int v0_at, z0_token, z0_filled, .int x1, .int x2]))]) hP hD [0] [] rfl rfl (by decide) (by decide) hk1 hFc hP1 hD1
  have hP : va_P (dC, dI) vwCl [(a0, .inr (8, [z0_bytes, .int v0_length, .int v0_at, z0_token, z0_filled, .int x1, .int x2]))] H1 := hP
  have hD : va_D A [(a0, .inr (8, [z0_bytes, .int v0_length, .int v0_at, z0_token, z0_filled, .int x1, .int x2]))] := hD
  generalize H1 = H at hP hS ⊢
  exact ((W.vret hx hb hr (fun t ht hW => ⟨⟨(x1, x2), rfl, hw, by rw [ht]; exact hP, va_K.moved hW.alike hK, hD⟩, hS.F ht⟩) hS.2.2 dX8_blameSign_13))
def wl_X0_readFrom_6 (v1_length : Int32) (v1_at : Int32) (v1_fault : Int32) (Q : Int32 → (Nat → Int32) → Prop)  : Nat → Int32 → (Nat → Int32) → Int32 → Int32 → Prop
  | 0, _, _, _, _ => False
  | n + 1, v0_many, f0_seen, l2, l3 => ((8 < l3 → (Q v0_many f0_seen)) ∧ (¬ 8 < l3 → wq_X8_isFaulty v1_fault   (fun r4 => ((¬ r4 = 0 → (Q v0_many f0_seen)) ∧ (r4 = 0 → wq_X8_isEnded v1_length v1_at   (fun r6 => ((¬ r6 = 0 → (Q v0_many f0_seen)) ∧ (r6 = 0 → False))))))))
set_option maxHeartbeats 4000000 in
set_option maxRecDepth 100000 in
theorem kl_X0_readFrom_6 {p : Program} {l : Launch} {e : Env} {s : State} {m : MethodId} {args : Array Value} {below : List Frame} {meth : Method} {c : Code} {A : Nat → Prop} (dC : Nat → ClassId) (dI : Nat → Nat → Nat) (cyB cyI cyJ cyP : ClassId) (a0 a1 a0_seen : Nat) (z1_bytes : Value) (z1_token : Value) (z1_filled : Value) (z1_faultPlace : Value) (v1_length : Int32) (v1_at : Int32) (v1_fault : Int32) (Q : Int32 → (Nat → Int32) → Prop)  (C0 : cfx p s m args meth c cX0_readFrom none wsX0_readFrom RX0 4 A (dC, dI) (kT cyB cyI cyJ cyP)) : ∀ (n : Nat) (H : Heap) (locs : List Loc) (ls : Array Slot) (v0_many : Int32) (f0_seen : Nat → Int32) (l2 : Int32) (l3 : Int32), va_P (dC, dI) vwCl [(a0, .inr (0, [.ref a0_seen, .int v0_many])), (a0_seen, .inl (cyI, 8, .inl f0_seen)), (a1, .inr (8, [z1_bytes, .int v1_length, .int v1_at, z1_token, z1_filled, .int v1_fault, z1_faultPlace]))] H → va_D A [(a0, .inr (0, [.ref a0_seen, .int v0_many])), (a0_seen, .inl (cyI, 8, .inl f0_seen)), (a1, .inr (8, [z1_bytes, .int v1_length, .int v1_at, z1_token, z1_filled, .int v1_fault, z1_faultPlace]))] → va_S A s.heap H locs → lv_has ls 4 [(0, .ref a0), (1, .ref a1), (2, .int l2), (3, .int l3)] → wl_X0_readFrom_6 v1_length v1_at v1_fault Q  n v0_many f0_seen l2 l3 → W p l e (headSpec wsX0_readFrom ({ frames := 2, cells := 0, slots := 0, locals := 40 })).room s m args below meth c H locs 0 0 (MQ below (va_Qv (fun (u : Int32 × (Nat → Int32)) => Q u.1 u.2) (cB (dC, dI) (kT cyB cyI cyJ cyP) A (fun u : Int32 × (Nat → Int32) => ([(a0, .inr (0, [.ref a0_seen, .int u.1])), (a0_seen, .inl (cyI, 8, .inl u.2)), (a1, .inr (8, [z1_bytes, .int v1_length, .int v1_at, z1_token, z1_filled, .int v1_fault, z1_faultPlace]))] : va_W))) A) args s 0 0 A) (F0 m 6 ls []) := by
  obtain ⟨hx, hb, hr, hts, hown, hlocks, hml, hA, hK, hNw⟩ := id C0
  intro n
  induction n with
  | zero => intro H locs ls v0_many f0_seen l2 l3 hP hD hS hl hw; exact False.elim hw
  | succ n ih =>
    intro H locs ls v0_many f0_seen l2 l3 hP hD hS hl hw
    refine lv_iload_n hx hb dX0_readFrom_6 rfl (lv_at hl 3 rfl) ?_
    refine lv_bipush (v := 8) hx hb dX0_readFrom_7 (by decide) ?_
    refine lv_icmp_gt (tgt := 38) hx hb dX0_readFrom_9 (by decide) (fun c3 => ?_) (fun c3 => ?_)
    · have hw := hw.1 c3
      exact ((W.vret hx hb hr (fun t ht hW => ⟨⟨(v0_many, f0_seen), rfl, hw, by rw [ht]; exact hP, va_K.moved hW.alike hK, hD⟩, hS.F ht⟩) hS.2.2 dX0_readFrom_38))
    · have hw := hw.2 c3
      refine lv_aload_n hx hb dX0_readFrom_12 rfl (lv_at hl 1 rfl) ?_
      have hPc := hP.sub (ws' := [(a1, .inr (8, [z1_bytes, .int v1_length, .int v1_at, z1_token, z1_filled, .int v1_fault, z1_faultPlace]))]) [2] rfl
      have hDc := hD.sub (ws' := [(a1, .inr (8, [z1_bytes, .int v1_length, .int v1_at, z1_token, z1_filled, .int v1_fault, z1_faultPlace]))]) [2] (by decide) rfl
      have hFc := va_free (wc := [(a1, .inr (8, [z1_bytes, .int v1_length, .int v1_at, z1_token, z1_filled, .int v1_fault, z1_faultPlace]))]) hD hS hA [2] rfl
      refine va_calli (va_runV (As := []) (rest := []) ⟨hx, hb, hml, hown, hts⟩ (ck_X8_isFaulty l dC dI cyB cyI cyJ cyP a1 H.size (z1_bytes) (.int v1_length) (.int v1_at) (z1_token) (z1_filled) (z1_faultPlace) v1_fault   hw) (cwV 0 hts gX0_readFrom_X8_isFaulty rfl rfl rfl (by decide +kernel) ⟨Nat.le_of_ble_eq_true rfl, Nat.le_of_ble_eq_true rfl⟩) ⟨cPc_blind, va_recv hK hPc (ci := 8) (q0 := 0) rfl rfl, cPc_pre hPc hK hDc hNw⟩ rfl rfl hl.1 rfl (lv_room (Nat.le_of_ble_eq_true rfl)) dX0_readFrom_13 ⟨Nat.le_of_ble_eq_true rfl, Nat.le_of_ble_eq_true rfl⟩) hS (fun q _ h => hFc q h) hFc (fun r4 u t H1 locs ht hvm hw hB hz1 hk1 hS => ?_)
      obtain ⟨hP1, hK1, hD1⟩ := hB
      rw [ht] at hP1
      obtain ⟨hP, hD⟩ := va_join (wr := [(a0, .inr (0, [.ref a0_seen, .int v0_many])), (a0_seen, .inl (cyI, 8, .inl f0_seen))]) (w1 := [(a1, .inr (8, [z1_bytes, .int v1_length, .int v1_at, z1_token, z1_filled, .int v1_fault, z1_faultPlace]))]) hP hD [2] [0, 1] rfl rfl (by decide) (by decide) hk1 hFc hP1 hD1
      have hP : va_P (dC, dI) vwCl [(a0, .inr (0, [.ref a0_seen, .int v0_many])), (a0_seen, .inl (cyI, 8, .inl f0_seen)), (a1, .inr (8, [z1_bytes, .int v1_length, .int v1_at, z1_token, z1_filled, .int v1_fault, z1_faultPlace]))] H1 := hP
      have hD : va_D A [(a0, .inr (0, [.ref a0_seen, .int v0_many])), (a0_seen, .inl (cyI, 8, .inl f0_seen)), (a1, .inr (8, [z1_bytes, .int v1_length, .int v1_at, z1_token, z1_filled, .int v1_fault, z1_faultPlace]))] := hD
      generalize H1 = H at hP hS ⊢
      refine lv_if_ne (tgt := 38) hx hb dX0_readFrom_16 (by decide) (fun c5 => ?_) (fun c5 => ?_)
      · have hw := hw.1 c5
        exact ((W.vret hx hb hr (fun t ht hW => ⟨⟨(v0_many, f0_seen), rfl, hw, by rw [ht]; exact hP, va_K.moved hW.alike hK, hD⟩, hS.F ht⟩) hS.2.2 dX0_readFrom_38))
      · have hw := hw.2 c5
        refine lv_aload_n hx hb dX0_readFrom_19 rfl (lv_at hl 1 rfl) ?_
        have hPc := hP.sub (ws' := [(a1, .inr (8, [z1_bytes, .int v1_length, .int v1_at, z1_token, z1_filled, .int v1_fault, z1_faultPlace]))]) [2] rfl
        have hDc := hD.sub (ws' := [(a1, .inr (8, [z1_bytes, .int v1_length, .int v1_at, z1_token, z1_filled, .int v1_fault, z1_faultPlace]))]) [2] (by decide) rfl
        have hFc := va_free (wc := [(a1, .inr (8, [z1_bytes, .int v1_length, .int v1_at, z1_token, z1_filled, .int v1_fault, z1_faultPlace]))]) hD hS hA [2] rfl
        refine va_calli (va_runV (As := []) (rest := []) ⟨hx, hb, hml, hown, hts⟩ (ck_X8_isEnded l dC dI cyB cyI cyJ cyP a1 H.size (z1_bytes) (z1_token) (z1_filled) (.int v1_fault) (z1_faultPlace) v1_length v1_at   hw) (cwV 0 hts gX0_readFrom_X8_isEnded rfl rfl rfl (by decide +kernel) ⟨Nat.le_of_ble_eq_true rfl, Nat.le_of_ble_eq_true rfl⟩) ⟨cPc_blind, va_recv hK hPc (ci := 8) (q0 := 0) rfl rfl, cPc_pre hPc hK hDc hNw⟩ rfl rfl hl.1 rfl (lv_room (Nat.le_of_ble_eq_true rfl)) dX0_readFrom_20 ⟨Nat.le_of_ble_eq_true rfl, Nat.le_of_ble_eq_true rfl⟩) hS (fun q _ h => hFc q h) hFc (fun r6 u t H1 locs ht hvm hw hB hz1 hk1 hS => ?_)
        obtain ⟨hP1, hK1, hD1⟩ := hB
        rw [ht] at hP1
        obtain ⟨hP, hD⟩ := va_join (wr := [(a0, .inr (0, [.ref a0_seen, .int v0_many])), (a0_seen, .inl (cyI, 8, .inl f0_seen))]) (w1 := [(a1, .inr (8, [z1_bytes, .int v1_length, .int v1_at, z1_token, z1_filled, .int v1_fault, z1_faultPlace]))]) hP hD [2] [0, 1] rfl rfl (by decide) (by decide) hk1 hFc hP1 hD1
        have hP : va_P (dC, dI) vwCl [(a0, .inr (0, [.ref a0_seen, .int v0_many])), (a0_seen, .inl (cyI, 8, .inl f0_seen)), (a1, .inr (8, [z1_bytes, .int v1_length, .int v1_at, z1_token, z1_filled, .int v1_fault, z1_faultPlace]))] H1 := hP
        have hD : va_D A [(a0, .inr (0, [.ref a0_seen, .int v0_many])), (a0_seen, .inl (cyI, 8, .inl f0_seen)), (a1, .inr (8, [z1_bytes, .int v1_length, .int v1_at, z1_token, z1_filled, .int v1_fault, z1_faultPlace]))] := hD
        generalize H1 = H at hP hS ⊢
        refine lv_if_ne (tgt := 38) hx hb dX0_readFrom_23 (by decide) (fun c7 => ?_) (fun c7 => ?_)
        · have hw := hw.1 c7
          exact ((W.vret hx hb hr (fun t ht hW => ⟨⟨(v0_many, f0_seen), rfl, hw, by rw [ht]; exact hP, va_K.moved hW.alike hK, hD⟩, hS.F ht⟩) hS.2.2 dX0_readFrom_38))
        · have hw := hw.2 c7
          exact False.elim hw
def wq_X0_readFrom (v1_length : Int32) (v1_at : Int32) (v1_fault : Int32) (v0_many : Int32) (f0_seen : Nat → Int32) (p2 : Int32) (Q : Int32 → (Nat → Int32) → Prop) : Prop := wq_X0_clear  v0_many f0_seen  (fun x1 f2 => (∃ k9 : Nat, wl_X0_readFrom_6 v1_length v1_at v1_fault Q  k9 x1 f2 p2 0))
set_option maxHeartbeats 4000000 in
set_option maxRecDepth 100000 in
theorem ck_X0_readFrom (l : Launch) (dC : Nat → ClassId) (dI : Nat → Nat → Nat) (cyB cyI cyJ cyP : ClassId) (a0 a1 a0_seen : Nat) (sz : Nat) (z1_bytes : Value) (z1_token : Value) (z1_filled : Value) (z1_faultPlace : Value) (v1_length : Int32) (v1_at : Int32) (v1_fault : Int32) (v0_many : Int32) (f0_seen : Nat → Int32) (p2 : Int32) {Q : Int32 → (Nat → Int32) → Prop} (hw : wq_X0_readFrom v1_length v1_at v1_fault v0_many f0_seen p2 Q) : Met l yX0_readFrom wsX0_readFrom ({ frames := 2, cells := 0, slots := 0, locals := 40 }) (va_Pc [.ref a0, .ref a1, .int p2] (cPc (dC, dI) (kT cyB cyI cyJ cyP) [(a0, .inr (0, [.ref a0_seen, .int v0_many])), (a0_seen, .inl (cyI, 8, .inl f0_seen)), (a1, .inr (8, [z1_bytes, .int v1_length, .int v1_at, z1_token, z1_filled, .int v1_fault, z1_faultPlace]))] sz)) (va_Qv (fun (u : Int32 × (Nat → Int32)) => Q u.1 u.2) (cB (dC, dI) (kT cyB cyI cyJ cyP) (va_A [(a0, .inr (0, [.ref a0_seen, .int v0_many])), (a0_seen, .inl (cyI, 8, .inl f0_seen)), (a1, .inr (8, [z1_bytes, .int v1_length, .int v1_at, z1_token, z1_filled, .int v1_fault, z1_faultPlace]))] sz) (fun u : Int32 × (Nat → Int32) => ([(a0, .inr (0, [.ref a0_seen, .int u.1])), (a0_seen, .inl (cyI, 8, .inl u.2)), (a1, .inr (8, [z1_bytes, .int v1_length, .int v1_at, z1_token, z1_filled, .int v1_fault, z1_faultPlace]))] : va_W))) (va_A [(a0, .inr (0, [.ref a0_seen, .int v0_many])), (a0_seen, .inl (cyI, 8, .inl f0_seen)), (a1, .inr (8, [z1_bytes, .int v1_length, .int v1_at, z1_token, z1_filled, .int v1_fault, z1_faultPlace]))] sz)) 0 0 (va_A [(a0, .inr (0, [.ref a0_seen, .int v0_many])), (a0_seen, .inl (cyI, 8, .inl f0_seen)), (a1, .inr (8, [z1_bytes, .int v1_length, .int v1_at, z1_token, z1_filled, .int v1_fault, z1_faultPlace]))] sz) := by
  refine Met.ofW (cc := cX0_readFrom) (maxL := 4) (ret := none) (by decide) rfl ?_
  intro p e s m args below meth c s₁ B hml hv
  obtain ⟨rfl, hsz, hP, hK, hD0, hNw⟩ := hv
  have hx := B.exec
  have hb := B.bytes
  have hr := B.returns
  have hts := atoms_spec (ws := wsX0_readFrom) B.pre
  have hown : s.vm.findClass RX0 = some m.cls := findClass_of_methodNamed B.named
  have hlocks := B.notSynchronized
  subst hsz
  have hD := hD0.self (sz := s.heap.size)
  generalize hAe : va_A [(a0, .inr (0, [.ref a0_seen, .int v0_many])), (a0_seen, .inl (cyI, 8, .inl f0_seen)), (a1, .inr (8, [z1_bytes, .int v1_length, .int v1_at, z1_token, z1_filled, .int v1_fault, z1_faultPlace]))] s.heap.size = A at hD ⊢
  have hA : ∀ q : Nat, s.heap.size ≤ q → A q := fun q h => by rw [← hAe]; exact Or.inr h
  have hS : va_S A s.heap s.heap [] := va_S.rf
  have hP : va_P (dC, dI) vwCl [(a0, .inr (0, [.ref a0_seen, .int v0_many])), (a0_seen, .inl (cyI, 8, .inl f0_seen)), (a1, .inr (8, [z1_bytes, .int v1_length, .int v1_at, z1_token, z1_filled, .int v1_fault, z1_faultPlace]))] s.heap := hP
  have hl := lv_entry ([.ref a0, .ref a1, .int p2]) (n := 4) (Nat.le_of_ble_eq_true rfl)
  rw [lg_entry_eq]
  generalize (lg_sl ([.ref a0, .ref a1, .int p2]) ++ List.replicate (4 - (lg_sl ([.ref a0, .ref a1, .int p2])).length) Slot.unset).toArray = ls at hl ⊢
  have hl : lv_has ls 4 [(0, .ref a0), (1, .ref a1), (2, .int p2)] := hl
  have C0 : cfx p s m _ meth c cX0_readFrom none wsX0_readFrom RX0 4 A (dC, dI) (kT cyB cyI cyJ cyP) := ⟨hx, hb, hr, hts, hown, hlocks, hml, hA, hK, hNw⟩
  clear hAe
  obtain ⟨H, hH⟩ : ∃ H, H = s.heap := ⟨_, rfl⟩
  rw [← hH] at hP ⊢
  have hS : va_S A s.heap H [] := by rw [hH]; exact va_S.rf
  have hS := hS
  refine lv_aload_n hx hb dX0_readFrom_0 rfl (lv_at hl 0 rfl) ?_
  have hPc := hP.sub (ws' := [(a0, .inr (0, [.ref a0_seen, .int v0_many])), (a0_seen, .inl (cyI, 8, .inl f0_seen))]) [0, 1] rfl
  have hDc := hD.sub (ws' := [(a0, .inr (0, [.ref a0_seen, .int v0_many])), (a0_seen, .inl (cyI, 8, .inl f0_seen))]) [0, 1] (by decide) rfl
  have hFc := va_free (wc := [(a0, .inr (0, [.ref a0_seen, .int v0_many])), (a0_seen, .inl (cyI, 8, .inl f0_seen))]) hD hS hA [0, 1] rfl
  refine va_callv (va_runV (As := []) (rest := []) ⟨hx, hb, hml, hown, hts⟩ (ck_X0_clear l dC dI cyB cyI cyJ cyP a0 a0_seen H.size   v0_many f0_seen  hw) (cwV 0 hts gX0_readFrom_X0_clear rfl rfl rfl (by decide +kernel) ⟨Nat.le_of_ble_eq_true rfl, Nat.le_of_ble_eq_true rfl⟩) ⟨cPc_blind, va_recv hK hPc (ci := 0) (q0 := 0) rfl rfl, cPc_pre hPc hK hDc hNw⟩ rfl rfl hl.1 rfl (lv_room (Nat.le_of_ble_eq_true rfl)) dX0_readFrom_1 ⟨Nat.le_of_ble_eq_true rfl, Nat.le_of_ble_eq_true rfl⟩) hS (fun q _ h => hFc q h) hFc (fun u t H1 locs ht hvm hw hB hz1 hk1 hS => ?_)
  obtain ⟨x1, f2⟩ := u
  obtain ⟨hP1, hK1, hD1⟩ := hB
  rw [ht] at hP1
  obtain ⟨hP, hD⟩ := va_join (wr := [(a1, .inr (8, [z1_bytes, .int v1_length, .int v1_at, z1_token, z1_filled, .int v1_fault, z1_faultPlace]))]) (w1 := [(a0, .inr (0, [.ref a0_seen, .int x1])), (a0_seen, .inl (cyI, 8, .inl f2))]) hP hD [0, 1] [2] rfl rfl (by decide) (by decide) hk1 hFc hP1 hD1
  have hP : va_P (dC, dI) vwCl [(a0, .inr (0, [.ref a0_seen, .int x1])), (a0_seen, .inl (cyI, 8, .inl f2)), (a1, .inr (8, [z1_bytes, .int v1_length, .int v1_at, z1_token, z1_filled, .int v1_fault, z1_faultPlace]))] H1 := hP.sub [1, 2, 0] rfl
  have hD : va_D A [(a0, .inr (0, [.ref a0_seen, .int x1])), (a0_seen, .inl (cyI, 8, .inl f2)), (a1, .inr (8, [z1_bytes, .int v1_length, .int v1_at, z1_token, z1_filled, .int v1_fault, z1_faultPlace]))] := hD.sub [1, 2, 0] (by decide) rfl
  generalize H1 = H at hP hS ⊢
  refine lv_iconst (v := 0) hx hb dX0_readFrom_4 (by decide) ?_
  refine lv_istore_n (lv' := [(3, .int 0), (0, .ref a0), (1, .ref a1), (2, .int p2)]) hx hb dX0_readFrom_5 rfl hl (by decide) rfl (fun ls hl => ?_)
  obtain ⟨n9, hw⟩ := hw
  exact kl_X0_readFrom_6 dC dI cyB cyI cyJ cyP a0 a1 a0_seen z1_bytes z1_token z1_filled z1_faultPlace v1_length v1_at v1_fault Q  C0 n9 _ _ _ x1 f2 p2 0 hP hD hS (lv_sub hl [1, 2, 3, 0] rfl) hw
theorem ui_X10_book_X0 : ∀ w ∈ u_ws RX0 TX0 2, w ∈ wsX10_book := by decide +kernel
theorem ui_X10_book_X10 : ∀ w ∈ u_ws RX10 TX10 19, w ∈ wsX10_book := by decide +kernel
theorem ui_X10_book_X2 : ∀ w ∈ u_ws RX2 TX2 12, w ∈ wsX10_book := by decide +kernel
theorem uw_X10_book_f10 : (.fieldLink RX10 10 "MarchHares" "tape" "LMarchHares$Tape;" : Cond) ∈ wsX10_book := by decide +kernel
theorem uw_X10_book_f149 : (.fieldLink RX10 149 "MarchHares$Down" "forms" "I" : Cond) ∈ wsX10_book := by decide +kernel
theorem uw_X10_book_f171 : (.fieldLink RX10 171 "MarchHares$Book" "many" "I" : Cond) ∈ wsX10_book := by decide +kernel
theorem uw_X10_book_f19 : (.fieldLink RX10 19 "MarchHares" "ground" "LMarchHares$Down;" : Cond) ∈ wsX10_book := by decide +kernel
theorem uw_X10_book_f39 : (.fieldLink RX10 39 "MarchHares" "lines" "LMarchHares$Book;" : Cond) ∈ wsX10_book := by decide +kernel
theorem uw_X10_book_f43 : (.fieldLink RX10 43 "MarchHares" "spareLines" "LMarchHares$Book;" : Cond) ∈ wsX10_book := by decide +kernel
def wq_X10_book (a0_lines : Nat) (a0_spareLines : Nat) (v0_ground_forms : Int32) (v0_callsIllegal : Int32) (v0_tape_length : Int32) (v0_tape_at : Int32) (v0_tape_token : Int32) (v0_tape_filled : Int32) (v0_tape_fault : Int32) (v0_tape_faultPlace : Int32) (v0_spareLines_many : Int32) (f0_spareLines_seen : Nat → Int32) (r0_lines : Value) (r0_spareLines : Value) (p1 : Int32) (E : String → Int32 → Int32 → Int32 → Int32 → Int32 → Int32 → Int32 → Int32 → (Nat → Int32) → Value → Value → Prop) (Q : Int32 → Int32 → Int32 → Int32 → Int32 → Int32 → Int32 → Int32 → Int32 → (Nat → Int32) → Value → Value → Prop) : Prop := wq_X10_openText  v0_callsIllegal v0_tape_length v0_tape_at v0_tape_token v0_tape_filled v0_tape_fault v0_tape_faultPlace p1 60 (fun en x1 x2 x3 x4 x5 x6 x7 => E en x1 x2 x3 x4 x5 x6 x7 v0_spareLines_many f0_spareLines_seen (.ref a0_lines) (.ref a0_spareLines)) (fun x1 x2 x3 x4 x5 x6 x7 => wq_X0_readFrom x2 x3 x6 v0_spareLines_many f0_spareLines_seen v0_ground_forms (fun x8 f9 => wq_X8_isFaulty x6   (fun r10 => ((r10 = 0 → (Q x8 x1 x2 x3 x4 x5 x6 x7 x8 f9 (.ref a0_spareLines) (.ref a0_lines))) ∧ (¬ r10 = 0 → False)))))
set_option maxHeartbeats 4000000 in
set_option maxRecDepth 100000 in
theorem ck_X10_book (l : Launch) (dC : Nat → ClassId) (dI : Nat → Nat → Nat) (cyB cyI cyJ cyP : ClassId) (a0 a0_tape a0_spareLines a0_ground a0_spareLines_seen a0_lines : Nat) (sz : Nat) (z0_spareGround : Value) (z0_rule : Value) (z0_spareRule : Value) (z0_steps : Value) (z0_now : Value) (z0_trial : Value) (z0_past : Value) (z0_images : Value) (z0_round : Value) (z0_seating : Value) (z0_fitting : Value) (z0_imagesKept : Value) (z0_refusedSteps : Value) (z0_callsNoSuch : Value) (z0_tape_bytes : Value) (z0_ground_formX : Value) (z0_ground_formY : Value) (z0_ground_foxX : Value) (z0_ground_foxY : Value) (z0_ground_seat : Value) (z0_ground_strength : Value) (z0_ground_debts : Value) (z0_ground_near : Value) (z0_ground_hares : Value) (z0_ground_foxes : Value) (z0_ground_safe : Value) (v0_ground_forms : Int32) (v0_callsIllegal : Int32) (v0_tape_length : Int32) (v0_tape_at : Int32) (v0_tape_token : Int32) (v0_tape_filled : Int32) (v0_tape_fault : Int32) (v0_tape_faultPlace : Int32) (v0_spareLines_many : Int32) (f0_spareLines_seen : Nat → Int32) (p1 : Int32) {E : String → Int32 → Int32 → Int32 → Int32 → Int32 → Int32 → Int32 → Int32 → (Nat → Int32) → Value → Value → Prop} {Q : Int32 → Int32 → Int32 → Int32 → Int32 → Int32 → Int32 → Int32 → Int32 → (Nat → Int32) → Value → Value → Prop} (hw : wq_X10_book a0_lines a0_spareLines v0_ground_forms v0_callsIllegal v0_tape_length v0_tape_at v0_tape_token v0_tape_filled v0_tape_fault v0_tape_faultPlace v0_spareLines_many f0_spareLines_seen (.ref a0_lines) (.ref a0_spareLines) p1 E Q) : vx_Met l yX10_book wsX10_book ({ frames := 9, cells := 1, slots := 6, locals := 186 }) (va_Pc [.ref a0, .int p1] (cPx l (dC, dI) (kT cyB cyI cyJ cyP) [(a0, .inr (10, [.ref a0_tape, .ref a0_ground, z0_spareGround, z0_rule, z0_spareRule, .ref a0_lines, .ref a0_spareLines, z0_steps, z0_now, z0_trial, z0_past, z0_images, z0_round, z0_seating, z0_fitting, z0_imagesKept, z0_refusedSteps, z0_callsNoSuch, .int v0_callsIllegal])), (a0_tape, .inr (8, [z0_tape_bytes, .int v0_tape_length, .int v0_tape_at, .int v0_tape_token, .int v0_tape_filled, .int v0_tape_fault, .int v0_tape_faultPlace])), (a0_ground, .inr (2, [z0_ground_formX, z0_ground_formY, z0_ground_foxX, z0_ground_foxY, z0_ground_seat, z0_ground_strength, z0_ground_debts, z0_ground_near, .int v0_ground_forms, z0_ground_hares, z0_ground_foxes, z0_ground_safe])), (a0_spareLines, .inr (0, [.ref a0_spareLines_seen, .int v0_spareLines_many])), (a0_spareLines_seen, .inl (cyI, 8, .inl f0_spareLines_seen))] sz)) (va_Qi (fun (r : Int32) (u : Int32 × Int32 × Int32 × Int32 × Int32 × Int32 × Int32 × Int32 × (Nat → Int32) × Value × Value) => Q r u.1 u.2.1 u.2.2.1 u.2.2.2.1 u.2.2.2.2.1 u.2.2.2.2.2.1 u.2.2.2.2.2.2.1 u.2.2.2.2.2.2.2.1 u.2.2.2.2.2.2.2.2.1 u.2.2.2.2.2.2.2.2.2.1 u.2.2.2.2.2.2.2.2.2.2) (cB (dC, dI) (kT cyB cyI cyJ cyP) (va_A [(a0, .inr (10, [.ref a0_tape, .ref a0_ground, z0_spareGround, z0_rule, z0_spareRule, .ref a0_lines, .ref a0_spareLines, z0_steps, z0_now, z0_trial, z0_past, z0_images, z0_round, z0_seating, z0_fitting, z0_imagesKept, z0_refusedSteps, z0_callsNoSuch, .int v0_callsIllegal])), (a0_tape, .inr (8, [z0_tape_bytes, .int v0_tape_length, .int v0_tape_at, .int v0_tape_token, .int v0_tape_filled, .int v0_tape_fault, .int v0_tape_faultPlace])), (a0_ground, .inr (2, [z0_ground_formX, z0_ground_formY, z0_ground_foxX, z0_ground_foxY, z0_ground_seat, z0_ground_strength, z0_ground_debts, z0_ground_near, .int v0_ground_forms, z0_ground_hares, z0_ground_foxes, z0_ground_safe])), (a0_spareLines, .inr (0, [.ref a0_spareLines_seen, .int v0_spareLines_many])), (a0_spareLines_seen, .inl (cyI, 8, .inl f0_spareLines_seen))] sz) (fun u : Int32 × Int32 × Int32 × Int32 × Int32 × Int32 × Int32 × Int32 × (Nat → Int32) × Value × Value => ([(a0, .inr (10, [.ref a0_tape, .ref a0_ground, z0_spareGround, z0_rule, z0_spareRule, u.2.2.2.2.2.2.2.2.2.1, u.2.2.2.2.2.2.2.2.2.2, z0_steps, z0_now, z0_trial, z0_past, z0_images, z0_round, z0_seating, z0_fitting, z0_imagesKept, z0_refusedSteps, z0_callsNoSuch, .int u.1])), (a0_tape, .inr (8, [z0_tape_bytes, .int u.2.1, .int u.2.2.1, .int u.2.2.2.1, .int u.2.2.2.2.1, .int u.2.2.2.2.2.1, .int u.2.2.2.2.2.2.1])), (a0_ground, .inr (2, [z0_ground_formX, z0_ground_formY, z0_ground_foxX, z0_ground_foxY, z0_ground_seat, z0_ground_strength, z0_ground_debts, z0_ground_near, .int v0_ground_forms, z0_ground_hares, z0_ground_foxes, z0_ground_safe])), (a0_spareLines, .inr (0, [.ref a0_spareLines_seen, .int u.2.2.2.2.2.2.2.1])), (a0_spareLines_seen, .inl (cyI, 8, .inl u.2.2.2.2.2.2.2.2.1))] : va_W))) (va_A [(a0, .inr (10, [.ref a0_tape, .ref a0_ground, z0_spareGround, z0_rule, z0_spareRule, .ref a0_lines, .ref a0_spareLines, z0_steps, z0_now, z0_trial, z0_past, z0_images, z0_round, z0_seating, z0_fitting, z0_imagesKept, z0_refusedSteps, z0_callsNoSuch, .int v0_callsIllegal])), (a0_tape, .inr (8, [z0_tape_bytes, .int v0_tape_length, .int v0_tape_at, .int v0_tape_token, .int v0_tape_filled, .int v0_tape_fault, .int v0_tape_faultPlace])), (a0_ground, .inr (2, [z0_ground_formX, z0_ground_formY, z0_ground_foxX, z0_ground_foxY, z0_ground_seat, z0_ground_strength, z0_ground_debts, z0_ground_near, .int v0_ground_forms, z0_ground_hares, z0_ground_foxes, z0_ground_safe])), (a0_spareLines, .inr (0, [.ref a0_spareLines_seen, .int v0_spareLines_many])), (a0_spareLines_seen, .inl (cyI, 8, .inl f0_spareLines_seen))] sz)) (vx_X (fun _ => True) (fun (en : String) (u : Int32 × Int32 × Int32 × Int32 × Int32 × Int32 × Int32 × Int32 × (Nat → Int32) × Value × Value) (t : State) => E en u.1 u.2.1 u.2.2.1 u.2.2.2.1 u.2.2.2.2.1 u.2.2.2.2.2.1 u.2.2.2.2.2.2.1 u.2.2.2.2.2.2.2.1 u.2.2.2.2.2.2.2.2.1 u.2.2.2.2.2.2.2.2.2.1 u.2.2.2.2.2.2.2.2.2.2 ∧ cB (dC, dI) (kT cyB cyI cyJ cyP) (va_A [(a0, .inr (10, [.ref a0_tape, .ref a0_ground, z0_spareGround, z0_rule, z0_spareRule, .ref a0_lines, .ref a0_spareLines, z0_steps, z0_now, z0_trial, z0_past, z0_images, z0_round, z0_seating, z0_fitting, z0_imagesKept, z0_refusedSteps, z0_callsNoSuch, .int v0_callsIllegal])), (a0_tape, .inr (8, [z0_tape_bytes, .int v0_tape_length, .int v0_tape_at, .int v0_tape_token, .int v0_tape_filled, .int v0_tape_fault, .int v0_tape_faultPlace])), (a0_ground, .inr (2, [z0_ground_formX, z0_ground_formY, z0_ground_foxX, z0_ground_foxY, z0_ground_seat, z0_ground_strength, z0_ground_debts, z0_ground_near, .int v0_ground_forms, z0_ground_hares, z0_ground_foxes, z0_ground_safe])), (a0_spareLines, .inr (0, [.ref a0_spareLines_seen, .int v0_spareLines_many])), (a0_spareLines_seen, .inl (cyI, 8, .inl f0_spareLines_seen))] sz) (fun u : Int32 × Int32 × Int32 × Int32 × Int32 × Int32 × Int32 × Int32 × (Nat → Int32) × Value × Value => ([(a0, .inr (10, [.ref a0_tape, .ref a0_ground, z0_spareGround, z0_rule, z0_spareRule, u.2.2.2.2.2.2.2.2.2.1, u.2.2.2.2.2.2.2.2.2.2, z0_steps, z0_now, z0_trial, z0_past, z0_images, z0_round, z0_seating, z0_fitting, z0_imagesKept, z0_refusedSteps, z0_callsNoSuch, .int u.1])), (a0_tape, .inr (8, [z0_tape_bytes, .int u.2.1, .int u.2.2.1, .int u.2.2.2.1, .int u.2.2.2.2.1, .int u.2.2.2.2.2.1, .int u.2.2.2.2.2.2.1])), (a0_ground, .inr (2, [z0_ground_formX, z0_ground_formY, z0_ground_foxX, z0_ground_foxY, z0_ground_seat, z0_ground_strength, z0_ground_debts, z0_ground_near, .int v0_ground_forms, z0_ground_hares, z0_ground_foxes, z0_ground_safe])), (a0_spareLines, .inr (0, [.ref a0_spareLines_seen, .int u.2.2.2.2.2.2.2.1])), (a0_spareLines_seen, .inl (cyI, 8, .inl u.2.2.2.2.2.2.2.2.1))] : va_W)) u t) (va_A [(a0, .inr (10, [.ref a0_tape, .ref a0_ground, z0_spareGround, z0_rule, z0_spareRule, .ref a0_lines, .ref a0_spareLines, z0_steps, z0_now, z0_trial, z0_past, z0_images, z0_round, z0_seating, z0_fitting, z0_imagesKept, z0_refusedSteps, z0_callsNoSuch, .int v0_callsIllegal])), (a0_tape, .inr (8, [z0_tape_bytes, .int v0_tape_length, .int v0_tape_at, .int v0_tape_token, .int v0_tape_filled, .int v0_tape_fault, .int v0_tape_faultPlace])), (a0_ground, .inr (2, [z0_ground_formX, z0_ground_formY, z0_ground_foxX, z0_ground_foxY, z0_ground_seat, z0_ground_strength, z0_ground_debts, z0_ground_near, .int v0_ground_forms, z0_ground_hares, z0_ground_foxes, z0_ground_safe])), (a0_spareLines, .inr (0, [.ref a0_spareLines_seen, .int v0_spareLines_many])), (a0_spareLines_seen, .inl (cyI, 8, .inl f0_spareLines_seen))] sz)) 1 6 (va_A [(a0, .inr (10, [.ref a0_tape, .ref a0_ground, z0_spareGround, z0_rule, z0_spareRule, .ref a0_lines, .ref a0_spareLines, z0_steps, z0_now, z0_trial, z0_past, z0_images, z0_round, z0_seating, z0_fitting, z0_imagesKept, z0_refusedSteps, z0_callsNoSuch, .int v0_callsIllegal])), (a0_tape, .inr (8, [z0_tape_bytes, .int v0_tape_length, .int v0_tape_at, .int v0_tape_token, .int v0_tape_filled, .int v0_tape_fault, .int v0_tape_faultPlace])), (a0_ground, .inr (2, [z0_ground_formX, z0_ground_formY, z0_ground_foxX, z0_ground_foxY, z0_ground_seat, z0_ground_strength, z0_ground_debts, z0_ground_near, .int v0_ground_forms, z0_ground_hares, z0_ground_foxes, z0_ground_safe])), (a0_spareLines, .inr (0, [.ref a0_spareLines_seen, .int v0_spareLines_many])), (a0_spareLines_seen, .inl (cyI, 8, .inl f0_spareLines_seen))] sz) := by
  refine vx_ofW (cc := cX10_book) (maxL := 3) (ret := (some .int)) (by decide) rfl ?_
  intro p e s m args below meth c s₁ B hml hnt hv
  obtain ⟨rfl, hsz, hP, hK, hD0, hNw, hXl, hXu, hXn, hXt⟩ := hv
  have hx := B.exec
  have hb := B.bytes
  have hr := B.returns
  have hts := atoms_spec (ws := wsX10_book) B.pre
  have hown : s.vm.findClass RX10 = some m.cls := findClass_of_methodNamed B.named
  have hlocks := B.notSynchronized
  subst hsz
  have hD := hD0.self (sz := s.heap.size)
  generalize hAe : va_A [(a0, .inr (10, [.ref a0_tape, .ref a0_ground, z0_spareGround, z0_rule, z0_spareRule, .ref a0_lines, .ref a0_spareLines, z0_steps, z0_now, z0_trial, z0_past, z0_images, z0_round, z0_seating, z0_fitting, z0_imagesKept, z0_refusedSteps, z0_callsNoSuch, .int v0_callsIllegal])), (a0_tape, .inr (8, [z0_tape_bytes, .int v0_tape_length, .int v0_tape_at, .int v0_tape_token, .int v0_tape_filled, .int v0_tape_fault, .int v0_tape_faultPlace])), (a0_ground, .inr (2, [z0_ground_formX, z0_ground_formY, z0_ground_foxX, z0_ground_foxY, z0_ground_seat, z0_ground_strength, z0_ground_debts, z0_ground_near, .int v0_ground_forms, z0_ground_hares, z0_ground_foxes, z0_ground_safe])), (a0_spareLines, .inr (0, [.ref a0_spareLines_seen, .int v0_spareLines_many])), (a0_spareLines_seen, .inl (cyI, 8, .inl f0_spareLines_seen))] s.heap.size = A at hD hXu hXn ⊢
  have hA : ∀ q : Nat, s.heap.size ≤ q → A q := fun q h => by rw [← hAe]; exact Or.inr h
  have hS : va_S A s.heap s.heap [] := va_S.rf
  have hP : va_P (dC, dI) vwCl [(a0, .inr (10, [.ref a0_tape, .ref a0_ground, z0_spareGround, z0_rule, z0_spareRule, .ref a0_lines, .ref a0_spareLines, z0_steps, z0_now, z0_trial, z0_past, z0_images, z0_round, z0_seating, z0_fitting, z0_imagesKept, z0_refusedSteps, z0_callsNoSuch, .int v0_callsIllegal])), (a0_tape, .inr (8, [z0_tape_bytes, .int v0_tape_length, .int v0_tape_at, .int v0_tape_token, .int v0_tape_filled, .int v0_tape_fault, .int v0_tape_faultPlace])), (a0_ground, .inr (2, [z0_ground_formX, z0_ground_formY, z0_ground_foxX, z0_ground_foxY, z0_ground_seat, z0_ground_strength, z0_ground_debts, z0_ground_near, .int v0_ground_forms, z0_ground_hares, z0_ground_foxes, z0_ground_safe])), (a0_spareLines, .inr (0, [.ref a0_spareLines_seen, .int v0_spareLines_many])), (a0_spareLines_seen, .inl (cyI, 8, .inl f0_spareLines_seen))] s.heap := hP
  have hl := lv_entry ([.ref a0, .int p1]) (n := 3) (Nat.le_of_ble_eq_true rfl)
  rw [lg_entry_eq]
  generalize (lg_sl ([.ref a0, .int p1]) ++ List.replicate (3 - (lg_sl ([.ref a0, .int p1])).length) Slot.unset).toArray = ls at hl ⊢
  have hl : lv_has ls 3 [(0, .ref a0), (1, .int p1)] := hl
  have hY : cfY l s A := ⟨hXl, hXu, hXn, hXt⟩
  have hXs : cfX l s c A := ⟨hnt, hY⟩
  have C0 : cfx p s m _ meth c cX10_book (some .int) wsX10_book RX10 3 A (dC, dI) (kT cyB cyI cyJ cyP) ∧ cfX l s c A := ⟨⟨hx, hb, hr, hts, hown, hlocks, hml, hA, hK, hNw⟩, hXs⟩
  clear hAe
  obtain ⟨H, hH⟩ : ∃ H, H = s.heap := ⟨_, rfl⟩
  rw [← hH] at hP ⊢
  have hS : va_S A s.heap H [] := by rw [hH]; exact va_S.rf
  have hS := hS
  refine lv_aload_n hx hb dX10_book_0 rfl (lv_at hl 0 rfl) ?_
  refine lv_iload_n hx hb dX10_book_1 rfl (lv_at hl 1 rfl) ?_
  refine lv_bipush (v := 60) hx hb dX10_book_2 (by decide) ?_
  have hPc := hP.sub (ws' := [(a0, .inr (10, [.ref a0_tape, .ref a0_ground, z0_spareGround, z0_rule, z0_spareRule, .ref a0_lines, .ref a0_spareLines, z0_steps, z0_now, z0_trial, z0_past, z0_images, z0_round, z0_seating, z0_fitting, z0_imagesKept, z0_refusedSteps, z0_callsNoSuch, .int v0_callsIllegal])), (a0_tape, .inr (8, [z0_tape_bytes, .int v0_tape_length, .int v0_tape_at, .int v0_tape_token, .int v0_tape_filled, .int v0_tape_fault, .int v0_tape_faultPlace]))]) [0, 1] rfl
  have hDc := hD.sub (ws' := [(a0, .inr (10, [.ref a0_tape, .ref a0_ground, z0_spareGround, z0_rule, z0_spareRule, .ref a0_lines, .ref a0_spareLines, z0_steps, z0_now, z0_trial, z0_past, z0_images, z0_round, z0_seating, z0_fitting, z0_imagesKept, z0_refusedSteps, z0_callsNoSuch, .int v0_callsIllegal])), (a0_tape, .inr (8, [z0_tape_bytes, .int v0_tape_length, .int v0_tape_at, .int v0_tape_token, .int v0_tape_filled, .int v0_tape_fault, .int v0_tape_faultPlace]))]) [0, 1] (by decide) rfl
  have hFc := va_free (wc := [(a0, .inr (10, [.ref a0_tape, .ref a0_ground, z0_spareGround, z0_rule, z0_spareRule, .ref a0_lines, .ref a0_spareLines, z0_steps, z0_now, z0_trial, z0_past, z0_images, z0_round, z0_seating, z0_fitting, z0_imagesKept, z0_refusedSteps, z0_callsNoSuch, .int v0_callsIllegal])), (a0_tape, .inr (8, [z0_tape_bytes, .int v0_tape_length, .int v0_tape_at, .int v0_tape_token, .int v0_tape_filled, .int v0_tape_fault, .int v0_tape_faultPlace]))]) hD hS hA [0, 1] rfl
  refine vx_callv (vx_runV (As := [.int p1, .int 60]) (rest := []) ⟨hx, hb, hml, hown, hts⟩ (ck_X10_openText l dC dI cyB cyI cyJ cyP a0 a0_tape H.size (.ref a0_ground) (z0_spareGround) (z0_rule) (z0_spareRule) (.ref a0_lines) (.ref a0_spareLines) (z0_steps) (z0_now) (z0_trial) (z0_past) (z0_images) (z0_round) (z0_seating) (z0_fitting) (z0_imagesKept) (z0_refusedSteps) (z0_callsNoSuch) (z0_tape_bytes)  v0_callsIllegal v0_tape_length v0_tape_at v0_tape_token v0_tape_filled v0_tape_fault v0_tape_faultPlace p1 60 hw) (cwV 2 hts gX10_book_X10_openText rfl rfl rfl (by decide +kernel) ⟨Nat.le_of_ble_eq_true rfl, Nat.le_of_ble_eq_true rfl⟩) ⟨cPx_blind, va_recv hK hPc (ci := 10) (q0 := 0) rfl rfl, cPx_pre hPc hK hDc hNw hY hS hFc⟩ rfl rfl hl.1 rfl (lv_room (Nat.le_of_ble_eq_true rfl)) dX10_book_4 ⟨Nat.le_of_ble_eq_true rfl, Nat.le_of_ble_eq_true rfl⟩) hS (fun q _ h => hFc q h) hFc (fun q _ h => hFc q h) (fun en ce q9 u t H1 locs ht hvm hpx hB hz1 hk1 hS hc9 hv9 hcl9 => ?_) (fun u t H1 locs ht hvm hw hB hz1 hk1 hS => ?_)
  · obtain ⟨x1, x2, x3, x4, x5, x6, x7⟩ := u
    obtain ⟨hw, hP1, hK1, hD1⟩ := hB
    rw [ht] at hP1
    obtain ⟨hP, hD⟩ := va_join (wr := [(a0_ground, .inr (2, [z0_ground_formX, z0_ground_formY, z0_ground_foxX, z0_ground_foxY, z0_ground_seat, z0_ground_strength, z0_ground_debts, z0_ground_near, .int v0_ground_forms, z0_ground_hares, z0_ground_foxes, z0_ground_safe])), (a0_spareLines, .inr (0, [.ref a0_spareLines_seen, .int v0_spareLines_many])), (a0_spareLines_seen, .inl (cyI, 8, .inl f0_spareLines_seen))]) (w1 := [(a0, .inr (10, [.ref a0_tape, .ref a0_ground, z0_spareGround, z0_rule, z0_spareRule, .ref a0_lines, .ref a0_spareLines, z0_steps, z0_now, z0_trial, z0_past, z0_images, z0_round, z0_seating, z0_fitting, z0_imagesKept, z0_refusedSteps, z0_callsNoSuch, .int x1])), (a0_tape, .inr (8, [z0_tape_bytes, .int x2, .int x3, .int x4, .int x5, .int x6, .int x7]))]) hP hD [0, 1] [2, 3, 4] rfl rfl (by decide) (by decide) hk1 hFc hP1 hD1
    have hP : va_P (dC, dI) vwCl [(a0, .inr (10, [.ref a0_tape, .ref a0_ground, z0_spareGround, z0_rule, z0_spareRule, .ref a0_lines, .ref a0_spareLines, z0_steps, z0_now, z0_trial, z0_past, z0_images, z0_round, z0_seating, z0_fitting, z0_imagesKept, z0_refusedSteps, z0_callsNoSuch, .int x1])), (a0_tape, .inr (8, [z0_tape_bytes, .int x2, .int x3, .int x4, .int x5, .int x6, .int x7])), (a0_ground, .inr (2, [z0_ground_formX, z0_ground_formY, z0_ground_foxX, z0_ground_foxY, z0_ground_seat, z0_ground_strength, z0_ground_debts, z0_ground_near, .int v0_ground_forms, z0_ground_hares, z0_ground_foxes, z0_ground_safe])), (a0_spareLines, .inr (0, [.ref a0_spareLines_seen, .int v0_spareLines_many])), (a0_spareLines_seen, .inl (cyI, 8, .inl f0_spareLines_seen))] H1 := hP.sub [3, 4, 0, 1, 2] rfl
    have hD : va_D A [(a0, .inr (10, [.ref a0_tape, .ref a0_ground, z0_spareGround, z0_rule, z0_spareRule, .ref a0_lines, .ref a0_spareLines, z0_steps, z0_now, z0_trial, z0_past, z0_images, z0_round, z0_seating, z0_fitting, z0_imagesKept, z0_refusedSteps, z0_callsNoSuch, .int x1])), (a0_tape, .inr (8, [z0_tape_bytes, .int x2, .int x3, .int x4, .int x5, .int x6, .int x7])), (a0_ground, .inr (2, [z0_ground_formX, z0_ground_formY, z0_ground_foxX, z0_ground_foxY, z0_ground_seat, z0_ground_strength, z0_ground_debts, z0_ground_near, .int v0_ground_forms, z0_ground_hares, z0_ground_foxes, z0_ground_safe])), (a0_spareLines, .inr (0, [.ref a0_spareLines_seen, .int v0_spareLines_many])), (a0_spareLines_seen, .inl (cyI, 8, .inl f0_spareLines_seen))] := hD.sub [3, 4, 0, 1, 2] (by decide) rfl
    generalize H1 = H at hP hS hc9 ⊢
    exact vx_out (fun x hx9 => (hXs.1 x hx9).elim) hlocks hc9 hv9 hcl9 (fun t2 ht2 hal2 => ⟨(x1, x2, x3, x4, x5, x6, x7, v0_spareLines_many, f0_spareLines_seen, (.ref a0_lines), (.ref a0_spareLines)), trivial, ⟨hw, by rw [ht2]; exact hP, va_K.moved hal2 hK, hD⟩, hS.F ht2⟩) hS.2.2 (Nat.le_of_ble_eq_true rfl) (Nat.le_of_ble_eq_true rfl)
  obtain ⟨x1, x2, x3, x4, x5, x6, x7⟩ := u
  obtain ⟨hP1, hK1, hD1⟩ := hB
  rw [ht] at hP1
  obtain ⟨hP, hD⟩ := va_join (wr := [(a0_ground, .inr (2, [z0_ground_formX, z0_ground_formY, z0_ground_foxX, z0_ground_foxY, z0_ground_seat, z0_ground_strength, z0_ground_debts, z0_ground_near, .int v0_ground_forms, z0_ground_hares, z0_ground_foxes, z0_ground_safe])), (a0_spareLines, .inr (0, [.ref a0_spareLines_seen, .int v0_spareLines_many])), (a0_spareLines_seen, .inl (cyI, 8, .inl f0_spareLines_seen))]) (w1 := [(a0, .inr (10, [.ref a0_tape, .ref a0_ground, z0_spareGround, z0_rule, z0_spareRule, .ref a0_lines, .ref a0_spareLines, z0_steps, z0_now, z0_trial, z0_past, z0_images, z0_round, z0_seating, z0_fitting, z0_imagesKept, z0_refusedSteps, z0_callsNoSuch, .int x1])), (a0_tape, .inr (8, [z0_tape_bytes, .int x2, .int x3, .int x4, .int x5, .int x6, .int x7]))]) hP hD [0, 1] [2, 3, 4] rfl rfl (by decide) (by decide) hk1 hFc hP1 hD1
  have hP : va_P (dC, dI) vwCl [(a0, .inr (10, [.ref a0_tape, .ref a0_ground, z0_spareGround, z0_rule, z0_spareRule, .ref a0_lines, .ref a0_spareLines, z0_steps, z0_now, z0_trial, z0_past, z0_images, z0_round, z0_seating, z0_fitting, z0_imagesKept, z0_refusedSteps, z0_callsNoSuch, .int x1])), (a0_tape, .inr (8, [z0_tape_bytes, .int x2, .int x3, .int x4, .int x5, .int x6, .int x7])), (a0_ground, .inr (2, [z0_ground_formX, z0_ground_formY, z0_ground_foxX, z0_ground_foxY, z0_ground_seat, z0_ground_strength, z0_ground_debts, z0_ground_near, .int v0_ground_forms, z0_ground_hares, z0_ground_foxes, z0_ground_safe])), (a0_spareLines, .inr (0, [.ref a0_spareLines_seen, .int v0_spareLines_many])), (a0_spareLines_seen, .inl (cyI, 8, .inl f0_spareLines_seen))] H1 := hP.sub [3, 4, 0, 1, 2] rfl
  have hD : va_D A [(a0, .inr (10, [.ref a0_tape, .ref a0_ground, z0_spareGround, z0_rule, z0_spareRule, .ref a0_lines, .ref a0_spareLines, z0_steps, z0_now, z0_trial, z0_past, z0_images, z0_round, z0_seating, z0_fitting, z0_imagesKept, z0_refusedSteps, z0_callsNoSuch, .int x1])), (a0_tape, .inr (8, [z0_tape_bytes, .int x2, .int x3, .int x4, .int x5, .int x6, .int x7])), (a0_ground, .inr (2, [z0_ground_formX, z0_ground_formY, z0_ground_foxX, z0_ground_foxY, z0_ground_seat, z0_ground_strength, z0_ground_debts, z0_ground_near, .int v0_ground_forms, z0_ground_hares, z0_ground_foxes, z0_ground_safe])), (a0_spareLines, .inr (0, [.ref a0_spareLines_seen, .int v0_spareLines_many])), (a0_spareLines_seen, .inl (cyI, 8, .inl f0_spareLines_seen))] := hD.sub [3, 4, 0, 1, 2] (by decide) rfl
  generalize H1 = H at hP hS ⊢
  refine lv_aload_n hx hb dX10_book_7 rfl (lv_at hl 0 rfl) ?_
  refine va_get (D := (dC, dI)) (ci := 10) (v := .ref a0_spareLines) (C := RX10) (T := TX10) (N := 19) hx hb hts ui_X10_book_X10 hown hK hP 0 rfl rfl 6 (by decide) (hts _ uw_X10_book_f43) (fun _ h9 => h9) rfl dX10_book_8 ?_
  refine lv_aload_n hx hb dX10_book_11 rfl (lv_at hl 0 rfl) ?_
  refine va_get (D := (dC, dI)) (ci := 10) (v := .ref a0_tape) (C := RX10) (T := TX10) (N := 19) hx hb hts ui_X10_book_X10 hown hK hP 0 rfl rfl 0 (by decide) (hts _ uw_X10_book_f10) (fun _ h9 => h9) rfl dX10_book_12 ?_
  refine lv_aload_n hx hb dX10_book_15 rfl (lv_at hl 0 rfl) ?_
  refine va_get (D := (dC, dI)) (ci := 10) (v := .ref a0_ground) (C := RX10) (T := TX10) (N := 19) hx hb hts ui_X10_book_X10 hown hK hP 0 rfl rfl 1 (by decide) (hts _ uw_X10_book_f19) (fun _ h9 => h9) rfl dX10_book_16 ?_
  refine va_get (D := (dC, dI)) (ci := 2) (v := .int v0_ground_forms) (C := RX2) (T := TX2) (N := 12) hx hb hts ui_X10_book_X2 hown hK hP 2 rfl rfl 8 (by decide) (hts _ uw_X10_book_f149) (fun _ h9 => h9) rfl dX10_book_19 ?_
  have hPc := hP.sub (ws' := [(a0_spareLines, .inr (0, [.ref a0_spareLines_seen, .int v0_spareLines_many])), (a0_spareLines_seen, .inl (cyI, 8, .inl f0_spareLines_seen)), (a0_tape, .inr (8, [z0_tape_bytes, .int x2, .int x3, .int x4, .int x5, .int x6, .int x7]))]) [3, 4, 1] rfl
  have hDc := hD.sub (ws' := [(a0_spareLines, .inr (0, [.ref a0_spareLines_seen, .int v0_spareLines_many])), (a0_spareLines_seen, .inl (cyI, 8, .inl f0_spareLines_seen)), (a0_tape, .inr (8, [z0_tape_bytes, .int x2, .int x3, .int x4, .int x5, .int x6, .int x7]))]) [3, 4, 1] (by decide) rfl
  have hFc := va_free (wc := [(a0_spareLines, .inr (0, [.ref a0_spareLines_seen, .int v0_spareLines_many])), (a0_spareLines_seen, .inl (cyI, 8, .inl f0_spareLines_seen)), (a0_tape, .inr (8, [z0_tape_bytes, .int x2, .int x3, .int x4, .int x5, .int x6, .int x7]))]) hD hS hA [3, 4, 1] rfl
  refine va_callv (va_runV (As := [.ref a0_tape, .int v0_ground_forms]) (rest := []) ⟨hx, hb, hml, hown, hts⟩ (ck_X0_readFrom l dC dI cyB cyI cyJ cyP a0_spareLines a0_tape a0_spareLines_seen H.size (z0_tape_bytes) (.int x4) (.int x5) (.int x7) x2 x3 x6 v0_spareLines_many f0_spareLines_seen v0_ground_forms hw) (cwV 2 hts gX10_book_X0_readFrom rfl rfl rfl (by decide +kernel) ⟨Nat.le_of_ble_eq_true rfl, Nat.le_of_ble_eq_true rfl⟩) ⟨cPc_blind, va_recv hK hPc (ci := 0) (q0 := 0) rfl rfl, cPc_pre hPc hK hDc hNw⟩ rfl rfl hl.1 rfl (lv_room (Nat.le_of_ble_eq_true rfl)) dX10_book_22 ⟨Nat.le_of_ble_eq_true rfl, Nat.le_of_ble_eq_true rfl⟩) hS (fun q _ h => hFc q h) hFc (fun u t H1 locs ht hvm hw hB hz1 hk1 hS => ?_)
  obtain ⟨x8, f9⟩ := u
  obtain ⟨hP1, hK1, hD1⟩ := hB
  rw [ht] at hP1
  obtain ⟨hP, hD⟩ := va_join (wr := [(a0, .inr (10, [.ref a0_tape, .ref a0_ground, z0_spareGround, z0_rule, z0_spareRule, .ref a0_lines, .ref a0_spareLines, z0_steps, z0_now, z0_trial, z0_past, z0_images, z0_round, z0_seating, z0_fitting, z0_imagesKept, z0_refusedSteps, z0_callsNoSuch, .int x1])), (a0_ground, .inr (2, [z0_ground_formX, z0_ground_formY, z0_ground_foxX, z0_ground_foxY, z0_ground_seat, z0_ground_strength, z0_ground_debts, z0_ground_near, .int v0_ground_forms, z0_ground_hares, z0_ground_foxes, z0_ground_safe]))]) (w1 := [(a0_spareLines, .inr (0, [.ref a0_spareLines_seen, .int x8])), (a0_spareLines_seen, .inl (cyI, 8, .inl f9)), (a0_tape, .inr (8, [z0_tape_bytes, .int x2, .int x3, .int x4, .int x5, .int x6, .int x7]))]) hP hD [3, 4, 1] [0, 2] rfl rfl (by decide) (by decide) hk1 hFc hP1 hD1
  have hP : va_P (dC, dI) vwCl [(a0, .inr (10, [.ref a0_tape, .ref a0_ground, z0_spareGround, z0_rule, z0_spareRule, .ref a0_lines, .ref a0_spareLines, z0_steps, z0_now, z0_trial, z0_past, z0_images, z0_round, z0_seating, z0_fitting, z0_imagesKept, z0_refusedSteps, z0_callsNoSuch, .int x1])), (a0_tape, .inr (8, [z0_tape_bytes, .int x2, .int x3, .int x4, .int x5, .int x6, .int x7])), (a0_ground, .inr (2, [z0_ground_formX, z0_ground_formY, z0_ground_foxX, z0_ground_foxY, z0_ground_seat, z0_ground_strength, z0_ground_debts, z0_ground_near, .int v0_ground_forms, z0_ground_hares, z0_ground_foxes, z0_ground_safe])), (a0_spareLines, .inr (0, [.ref a0_spareLines_seen, .int x8])), (a0_spareLines_seen, .inl (cyI, 8, .inl f9))] H1 := hP.sub [0, 4, 1, 2, 3] rfl
  have hD : va_D A [(a0, .inr (10, [.ref a0_tape, .ref a0_ground, z0_spareGround, z0_rule, z0_spareRule, .ref a0_lines, .ref a0_spareLines, z0_steps, z0_now, z0_trial, z0_past, z0_images, z0_round, z0_seating, z0_fitting, z0_imagesKept, z0_refusedSteps, z0_callsNoSuch, .int x1])), (a0_tape, .inr (8, [z0_tape_bytes, .int x2, .int x3, .int x4, .int x5, .int x6, .int x7])), (a0_ground, .inr (2, [z0_ground_formX, z0_ground_formY, z0_ground_foxX, z0_ground_foxY, z0_ground_seat, z0_ground_strength, z0_ground_debts, z0_ground_near, .int v0_ground_forms, z0_ground_hares, z0_ground_foxes, z0_ground_safe])), (a0_spareLines, .inr (0, [.ref a0_spareLines_seen, .int x8])), (a0_spareLines_seen, .inl (cyI, 8, .inl f9))] := hD.sub [0, 4, 1, 2, 3] (by decide) rfl
  generalize H1 = H at hP hS ⊢
  refine lv_aload_n hx hb dX10_book_25 rfl (lv_at hl 0 rfl) ?_
  refine va_get (D := (dC, dI)) (ci := 10) (v := .ref a0_tape) (C := RX10) (T := TX10) (N := 19) hx hb hts ui_X10_book_X10 hown hK hP 0 rfl rfl 0 (by decide) (hts _ uw_X10_book_f10) (fun _ h9 => h9) rfl dX10_book_26 ?_
  have hPc := hP.sub (ws' := [(a0_tape, .inr (8, [z0_tape_bytes, .int x2, .int x3, .int x4, .int x5, .int x6, .int x7]))]) [1] rfl
  have hDc := hD.sub (ws' := [(a0_tape, .inr (8, [z0_tape_bytes, .int x2, .int x3, .int x4, .int x5, .int x6, .int x7]))]) [1] (by decide) rfl
  have hFc := va_free (wc := [(a0_tape, .inr (8, [z0_tape_bytes, .int x2, .int x3, .int x4, .int x5, .int x6, .int x7]))]) hD hS hA [1] rfl
  refine va_calli (va_runV (As := []) (rest := []) ⟨hx, hb, hml, hown, hts⟩ (ck_X8_isFaulty l dC dI cyB cyI cyJ cyP a0_tape H.size (z0_tape_bytes) (.int x2) (.int x3) (.int x4) (.int x5) (.int x7) x6   hw) (cwV 0 hts gX10_book_X8_isFaulty rfl rfl rfl (by decide +kernel) ⟨Nat.le_of_ble_eq_true rfl, Nat.le_of_ble_eq_true rfl⟩) ⟨cPc_blind, va_recv hK hPc (ci := 8) (q0 := 0) rfl rfl, cPc_pre hPc hK hDc hNw⟩ rfl rfl hl.1 rfl (lv_room (Nat.le_of_ble_eq_true rfl)) dX10_book_29 ⟨Nat.le_of_ble_eq_true rfl, Nat.le_of_ble_eq_true rfl⟩) hS (fun q _ h => hFc q h) hFc (fun r10 u t H1 locs ht hvm hw hB hz1 hk1 hS => ?_)
  obtain ⟨hP1, hK1, hD1⟩ := hB
  rw [ht] at hP1
  obtain ⟨hP, hD⟩ := va_join (wr := [(a0, .inr (10, [.ref a0_tape, .ref a0_ground, z0_spareGround, z0_rule, z0_spareRule, .ref a0_lines, .ref a0_spareLines, z0_steps, z0_now, z0_trial, z0_past, z0_images, z0_round, z0_seating, z0_fitting, z0_imagesKept, z0_refusedSteps, z0_callsNoSuch, .int x1])), (a0_ground, .inr (2, [z0_ground_formX, z0_ground_formY, z0_ground_foxX, z0_ground_foxY, z0_ground_seat, z0_ground_strength, z0_ground_debts, z0_ground_near, .int v0_ground_forms, z0_ground_hares, z0_ground_foxes, z0_ground_safe])), (a0_spareLines, .inr (0, [.ref a0_spareLines_seen, .int x8])), (a0_spareLines_seen, .inl (cyI, 8, .inl f9))]) (w1 := [(a0_tape, .inr (8, [z0_tape_bytes, .int x2, .int x3, .int x4, .int x5, .int x6, .int x7]))]) hP hD [1] [0, 2, 3, 4] rfl rfl (by decide) (by decide) hk1 hFc hP1 hD1
  have hP : va_P (dC, dI) vwCl [(a0, .inr (10, [.ref a0_tape, .ref a0_ground, z0_spareGround, z0_rule, z0_spareRule, .ref a0_lines, .ref a0_spareLines, z0_steps, z0_now, z0_trial, z0_past, z0_images, z0_round, z0_seating, z0_fitting, z0_imagesKept, z0_refusedSteps, z0_callsNoSuch, .int x1])), (a0_tape, .inr (8, [z0_tape_bytes, .int x2, .int x3, .int x4, .int x5, .int x6, .int x7])), (a0_ground, .inr (2, [z0_ground_formX, z0_ground_formY, z0_ground_foxX, z0_ground_foxY, z0_ground_seat, z0_ground_strength, z0_ground_debts, z0_ground_near, .int v0_ground_forms, z0_ground_hares, z0_ground_foxes, z0_ground_safe])), (a0_spareLines, .inr (0, [.ref a0_spareLines_seen, .int x8])), (a0_spareLines_seen, .inl (cyI, 8, .inl f9))] H1 := hP.sub [0, 4, 1, 2, 3] rfl
  have hD : va_D A [(a0, .inr (10, [.ref a0_tape, .ref a0_ground, z0_spareGround, z0_rule, z0_spareRule, .ref a0_lines, .ref a0_spareLines, z0_steps, z0_now, z0_trial, z0_past, z0_images, z0_round, z0_seating, z0_fitting, z0_imagesKept, z0_refusedSteps, z0_callsNoSuch, .int x1])), (a0_tape, .inr (8, [z0_tape_bytes, .int x2, .int x3, .int x4, .int x5, .int x6, .int x7])), (a0_ground, .inr (2, [z0_ground_formX, z0_ground_formY, z0_ground_foxX, z0_ground_foxY, z0_ground_seat, z0_ground_strength, z0_ground_debts, z0_ground_near, .int v0_ground_forms, z0_ground_hares, z0_ground_foxes, z0_ground_safe])), (a0_spareLines, .inr (0, [.ref a0_spareLines_seen, .int x8])), (a0_spareLines_seen, .inl (cyI, 8, .inl f9))] := hD.sub [0, 4, 1, 2, 3] (by decide) rfl
  generalize H1 = H at hP hS ⊢
  refine lv_if_eq (tgt := 46) hx hb dX10_book_32 (by decide) (fun c11 => ?_) (fun c11 => ?_)
  · have hw := hw.1 c11
    refine lv_aload_n hx hb dX10_book_46 rfl (lv_at hl 0 rfl) ?_
    refine va_get (D := (dC, dI)) (ci := 10) (v := .ref a0_lines) (C := RX10) (T := TX10) (N := 19) hx hb hts ui_X10_book_X10 hown hK hP 0 rfl rfl 5 (by decide) (hts _ uw_X10_book_f39) (fun _ h9 => h9) rfl dX10_book_47 ?_
    refine lv_astore_n (lv' := [(2, .ref a0_lines), (0, .ref a0), (1, .int p1)]) hx hb dX10_book_50 rfl hl (by decide) rfl (fun ls hl => ?_)
    refine lv_aload_n hx hb dX10_book_51 rfl (lv_at hl 1 rfl) ?_
    refine lv_aload_n hx hb dX10_book_52 rfl (lv_at hl 1 rfl) ?_
    refine va_get (D := (dC, dI)) (ci := 10) (v := .ref a0_spareLines) (C := RX10) (T := TX10) (N := 19) hx hb hts ui_X10_book_X10 hown hK hP 0 rfl rfl 6 (by decide) (hts _ uw_X10_book_f43) (fun _ h9 => h9) rfl dX10_book_53 ?_
    refine va_put (D := (dC, dI)) (ci := 10) (v := .ref a0_spareLines) (ty := .object "MarchHares$Book") (C := RX10) (T := TX10) (N := 19) hx hb hts ui_X10_book_X10 tyX10 tyX10_ok nmX10 hown hK hP hD hS 0 rfl rfl 5 (by decide) (hts _ uw_X10_book_f39) (fun _ h9 => h9) rfl (by decide +kernel) rfl rfl (Nat.le_of_ble_eq_true rfl) dX10_book_56 (fun H locs hP hD hS => ?_)
    have hP : va_P (dC, dI) vwCl [(a0, .inr (10, [.ref a0_tape, .ref a0_ground, z0_spareGround, z0_rule, z0_spareRule, .ref a0_spareLines, .ref a0_spareLines, z0_steps, z0_now, z0_trial, z0_past, z0_images, z0_round, z0_seating, z0_fitting, z0_imagesKept, z0_refusedSteps, z0_callsNoSuch, .int x1])), (a0_tape, .inr (8, [z0_tape_bytes, .int x2, .int x3, .int x4, .int x5, .int x6, .int x7])), (a0_ground, .inr (2, [z0_ground_formX, z0_ground_formY, z0_ground_foxX, z0_ground_foxY, z0_ground_seat, z0_ground_strength, z0_ground_debts, z0_ground_near, .int v0_ground_forms, z0_ground_hares, z0_ground_foxes, z0_ground_safe])), (a0_spareLines, .inr (0, [.ref a0_spareLines_seen, .int x8])), (a0_spareLines_seen, .inl (cyI, 8, .inl f9))] H := hP
    have hD : va_D A [(a0, .inr (10, [.ref a0_tape, .ref a0_ground, z0_spareGround, z0_rule, z0_spareRule, .ref a0_spareLines, .ref a0_spareLines, z0_steps, z0_now, z0_trial, z0_past, z0_images, z0_round, z0_seating, z0_fitting, z0_imagesKept, z0_refusedSteps, z0_callsNoSuch, .int x1])), (a0_tape, .inr (8, [z0_tape_bytes, .int x2, .int x3, .int x4, .int x5, .int x6, .int x7])), (a0_ground, .inr (2, [z0_ground_formX, z0_ground_formY, z0_ground_foxX, z0_ground_foxY, z0_ground_seat, z0_ground_strength, z0_ground_debts, z0_ground_near, .int v0_ground_forms, z0_ground_hares, z0_ground_foxes, z0_ground_safe])), (a0_spareLines, .inr (0, [.ref a0_spareLines_seen, .int x8])), (a0_spareLines_seen, .inl (cyI, 8, .inl f9))] := hD
    refine lv_aload_n hx hb dX10_book_59 rfl (lv_at hl 1 rfl) ?_
    refine lv_aload_n hx hb dX10_book_60 rfl (lv_at hl 0 rfl) ?_
    refine va_put (D := (dC, dI)) (ci := 10) (v := .ref a0_lines) (ty := .object "MarchHares$Book") (C := RX10) (T := TX10) (N := 19) hx hb hts ui_X10_book_X10 tyX10 tyX10_ok nmX10 hown hK hP hD hS 0 rfl rfl 6 (by decide) (hts _ uw_X10_book_f43) (fun _ h9 => h9) rfl (by decide +kernel) rfl rfl (Nat.le_of_ble_eq_true rfl) dX10_book_61 (fun H locs hP hD hS => ?_)
    have hP : va_P (dC, dI) vwCl [(a0, .inr (10, [.ref a0_tape, .ref a0_ground, z0_spareGround, z0_rule, z0_spareRule, .ref a0_spareLines, .ref a0_lines, z0_steps, z0_now, z0_trial, z0_past, z0_images, z0_round, z0_seating, z0_fitting, z0_imagesKept, z0_refusedSteps, z0_callsNoSuch, .int x1])), (a0_tape, .inr (8, [z0_tape_bytes, .int x2, .int x3, .int x4, .int x5, .int x6, .int x7])), (a0_ground, .inr (2, [z0_ground_formX, z0_ground_formY, z0_ground_foxX, z0_ground_foxY, z0_ground_seat, z0_ground_strength, z0_ground_debts, z0_ground_near, .int v0_ground_forms, z0_ground_hares, z0_ground_foxes, z0_ground_safe])), (a0_spareLines, .inr (0, [.ref a0_spareLines_seen, .int x8])), (a0_spareLines_seen, .inl (cyI, 8, .inl f9))] H := hP
    have hD : va_D A [(a0, .inr (10, [.ref a0_tape, .ref a0_ground, z0_spareGround, z0_rule, z0_spareRule, .ref a0_spareLines, .ref a0_lines, z0_steps, z0_now, z0_trial, z0_past, z0_images, z0_round, z0_seating, z0_fitting, z0_imagesKept, z0_refusedSteps, z0_callsNoSuch, .int x1])), (a0_tape, .inr (8, [z0_tape_bytes, .int x2, .int x3, .int x4, .int x5, .int x6, .int x7])), (a0_ground, .inr (2, [z0_ground_formX, z0_ground_formY, z0_ground_foxX, z0_ground_foxY, z0_ground_seat, z0_ground_strength, z0_ground_debts, z0_ground_near, .int v0_ground_forms, z0_ground_hares, z0_ground_foxes, z0_ground_safe])), (a0_spareLines, .inr (0, [.ref a0_spareLines_seen, .int x8])), (a0_spareLines_seen, .inl (cyI, 8, .inl f9))] := hD
    refine lv_aload_n hx hb dX10_book_64 rfl (lv_at hl 1 rfl) ?_
    refine va_get (D := (dC, dI)) (ci := 10) (v := .ref a0_spareLines) (C := RX10) (T := TX10) (N := 19) hx hb hts ui_X10_book_X10 hown hK hP 0 rfl rfl 5 (by decide) (hts _ uw_X10_book_f39) (fun _ h9 => h9) rfl dX10_book_65 ?_
    refine va_get (D := (dC, dI)) (ci := 0) (v := .int x8) (C := RX0) (T := TX0) (N := 2) hx hb hts ui_X10_book_X0 hown hK hP 3 rfl rfl 1 (by decide) (hts _ uw_X10_book_f171) (fun _ h9 => h9) rfl dX10_book_68 ?_
    exact vx_ret (W.widen (k := 1) (n := 6) (Nat.le_of_ble_eq_true rfl) (Nat.le_of_ble_eq_true rfl) (W.iret (v := x8) hx hb hr (fun t ht hW => ⟨⟨x8, (x1, x2, x3, x4, x5, x6, x7, x8, f9, (.ref a0_spareLines), (.ref a0_lines)), rfl, hw, by rw [ht]; exact hP, va_K.moved hW.alike hK, hD⟩, hS.F ht⟩) hS.2.2 dX10_book_71))
  · have hw := hw.2 c11
    exact False.elim hw
theorem ub_X10_needHare_268 : ∀ w ∈ (ux_atS RX10 268 "java/util/NoSuchElementException" 13 ux_rx ["java/lang/RuntimeException", "java/lang/Exception"]).filter (fun w => !goodWord w), w ∈ xB := by decide +kernel
theorem ug_X10_needHare_268 : ∀ w ∈ Cond.classLink RX10 264 "java/util/NoSuchElementException" :: Cond.initialized "java/util/NoSuchElementException" :: ux_atS RX10 268 "java/util/NoSuchElementException" 13 ux_rx ["java/lang/RuntimeException", "java/lang/Exception"], vx_ot w = true := by decide +kernel
theorem uh_X10_needHare_268 : ∀ w ∈ (ux_atS RX10 268 "java/util/NoSuchElementException" 13 ux_rx ["java/lang/RuntimeException", "java/lang/Exception"]).filter goodWord, w ∈ wsX10_needHare := by decide +kernel
theorem ui_X10_needHare_X10 : ∀ w ∈ u_ws RX10 TX10 19, w ∈ wsX10_needHare := by decide +kernel
theorem ui_X10_needHare_X2 : ∀ w ∈ u_ws RX2 TX2 12, w ∈ wsX10_needHare := by decide +kernel
theorem uw_X10_needHare_cl264 : (.classLink RX10 264 "java/util/NoSuchElementException" : Cond) ∈ wsX10_needHare := by decide +kernel
theorem uw_X10_needHare_f141 : (.fieldLink RX10 141 "MarchHares$Down" "hares" "I" : Cond) ∈ wsX10_needHare := by decide +kernel
theorem uw_X10_needHare_f19 : (.fieldLink RX10 19 "MarchHares" "ground" "LMarchHares$Down;" : Cond) ∈ wsX10_needHare := by decide +kernel
theorem uw_X10_needHare_f261 : (.fieldLink RX10 261 "MarchHares" "callsNoSuch" "I" : Cond) ∈ wsX10_needHare := by decide +kernel
theorem uw_X10_needHare_ini264 : (.initialized "java/util/NoSuchElementException" : Cond) ∈ wsX10_needHare := by decide +kernel
def wq_X10_needHare (v0_ground_hares : Int32) (v0_callsNoSuch : Int32) (p1 : Int32) (E : String → Int32 → Prop) (Q : Int32 → Prop) : Prop := wq_X10_within   p1 0 (v0_ground_hares - 1) (fun r1 => ((¬ r1 = 0 → False) ∧ (r1 = 0 → ∀ x3 : Int32, x3 = v0_callsNoSuch + 1 → (E "java/util/NoSuchElementException" x3))))
set_option maxHeartbeats 4000000 in
set_option maxRecDepth 100000 in
theorem ck_X10_needHare (l : Launch) (dC : Nat → ClassId) (dI : Nat → Nat → Nat) (cyB cyI cyJ cyP : ClassId) (a0 a0_ground : Nat) (sz : Nat) (z0_tape : Value) (z0_spareGround : Value) (z0_rule : Value) (z0_spareRule : Value) (z0_lines : Value) (z0_spareLines : Value) (z0_steps : Value) (z0_now : Value) (z0_trial : Value) (z0_past : Value) (z0_images : Value) (z0_round : Value) (z0_seating : Value) (z0_fitting : Value) (z0_imagesKept : Value) (z0_refusedSteps : Value) (z0_callsIllegal : Value) (z0_ground_formX : Value) (z0_ground_formY : Value) (z0_ground_foxX : Value) (z0_ground_foxY : Value) (z0_ground_seat : Value) (z0_ground_strength : Value) (z0_ground_debts : Value) (z0_ground_near : Value) (z0_ground_forms : Value) (z0_ground_foxes : Value) (z0_ground_safe : Value) (v0_ground_hares : Int32) (v0_callsNoSuch : Int32) (p1 : Int32) {E : String → Int32 → Prop} {Q : Int32 → Prop} (hw : wq_X10_needHare v0_ground_hares v0_callsNoSuch p1 E Q) : vx_Met l yX10_needHare wsX10_needHare ({ frames := 6, cells := 1, slots := 6, locals := 120 }) (va_Pc [.ref a0, .int p1] (cPx l (dC, dI) (kT cyB cyI cyJ cyP) [(a0, .inr (10, [z0_tape, .ref a0_ground, z0_spareGround, z0_rule, z0_spareRule, z0_lines, z0_spareLines, z0_steps, z0_now, z0_trial, z0_past, z0_images, z0_round, z0_seating, z0_fitting, z0_imagesKept, z0_refusedSteps, .int v0_callsNoSuch, z0_callsIllegal])), (a0_ground, .inr (2, [z0_ground_formX, z0_ground_formY, z0_ground_foxX, z0_ground_foxY, z0_ground_seat, z0_ground_strength, z0_ground_debts, z0_ground_near, z0_ground_forms, .int v0_ground_hares, z0_ground_foxes, z0_ground_safe]))] sz)) (va_Qv (fun (u : Int32) => Q u) (cB (dC, dI) (kT cyB cyI cyJ cyP) (va_A [(a0, .inr (10, [z0_tape, .ref a0_ground, z0_spareGround, z0_rule, z0_spareRule, z0_lines, z0_spareLines, z0_steps, z0_now, z0_trial, z0_past, z0_images, z0_round, z0_seating, z0_fitting, z0_imagesKept, z0_refusedSteps, .int v0_callsNoSuch, z0_callsIllegal])), (a0_ground, .inr (2, [z0_ground_formX, z0_ground_formY, z0_ground_foxX, z0_ground_foxY, z0_ground_seat, z0_ground_strength, z0_ground_debts, z0_ground_near, z0_ground_forms, .int v0_ground_hares, z0_ground_foxes, z0_ground_safe]))] sz) (fun u : Int32 => ([(a0, .inr (10, [z0_tape, .ref a0_ground, z0_spareGround, z0_rule, z0_spareRule, z0_lines, z0_spareLines, z0_steps, z0_now, z0_trial, z0_past, z0_images, z0_round, z0_seating, z0_fitting, z0_imagesKept, z0_refusedSteps, .int u, z0_callsIllegal])), (a0_ground, .inr (2, [z0_ground_formX, z0_ground_formY, z0_ground_foxX, z0_ground_foxY, z0_ground_seat, z0_ground_strength, z0_ground_debts, z0_ground_near, z0_ground_forms, .int v0_ground_hares, z0_ground_foxes, z0_ground_safe]))] : va_W))) (va_A [(a0, .inr (10, [z0_tape, .ref a0_ground, z0_spareGround, z0_rule, z0_spareRule, z0_lines, z0_spareLines, z0_steps, z0_now, z0_trial, z0_past, z0_images, z0_round, z0_seating, z0_fitting, z0_imagesKept, z0_refusedSteps, .int v0_callsNoSuch, z0_callsIllegal])), (a0_ground, .inr (2, [z0_ground_formX, z0_ground_formY, z0_ground_foxX, z0_ground_foxY, z0_ground_seat, z0_ground_strength, z0_ground_debts, z0_ground_near, z0_ground_forms, .int v0_ground_hares, z0_ground_foxes, z0_ground_safe]))] sz)) (vx_X (fun _ => True) (fun (en : String) (u : Int32) (t : State) => E en u ∧ cB (dC, dI) (kT cyB cyI cyJ cyP) (va_A [(a0, .inr (10, [z0_tape, .ref a0_ground, z0_spareGround, z0_rule, z0_spareRule, z0_lines, z0_spareLines, z0_steps, z0_now, z0_trial, z0_past, z0_images, z0_round, z0_seating, z0_fitting, z0_imagesKept, z0_refusedSteps, .int v0_callsNoSuch, z0_callsIllegal])), (a0_ground, .inr (2, [z0_ground_formX, z0_ground_formY, z0_ground_foxX, z0_ground_foxY, z0_ground_seat, z0_ground_strength, z0_ground_debts, z0_ground_near, z0_ground_forms, .int v0_ground_hares, z0_ground_foxes, z0_ground_safe]))] sz) (fun u : Int32 => ([(a0, .inr (10, [z0_tape, .ref a0_ground, z0_spareGround, z0_rule, z0_spareRule, z0_lines, z0_spareLines, z0_steps, z0_now, z0_trial, z0_past, z0_images, z0_round, z0_seating, z0_fitting, z0_imagesKept, z0_refusedSteps, .int u, z0_callsIllegal])), (a0_ground, .inr (2, [z0_ground_formX, z0_ground_formY, z0_ground_foxX, z0_ground_foxY, z0_ground_seat, z0_ground_strength, z0_ground_debts, z0_ground_near, z0_ground_forms, .int v0_ground_hares, z0_ground_foxes, z0_ground_safe]))] : va_W)) u t) (va_A [(a0, .inr (10, [z0_tape, .ref a0_ground, z0_spareGround, z0_rule, z0_spareRule, z0_lines, z0_spareLines, z0_steps, z0_now, z0_trial, z0_past, z0_images, z0_round, z0_seating, z0_fitting, z0_imagesKept, z0_refusedSteps, .int v0_callsNoSuch, z0_callsIllegal])), (a0_ground, .inr (2, [z0_ground_formX, z0_ground_formY, z0_ground_foxX, z0_ground_foxY, z0_ground_seat, z0_ground_strength, z0_ground_debts, z0_ground_near, z0_ground_forms, .int v0_ground_hares, z0_ground_foxes, z0_ground_safe]))] sz)) 1 6 (va_A [(a0, .inr (10, [z0_tape, .ref a0_ground, z0_spareGround, z0_rule, z0_spareRule, z0_lines, z0_spareLines, z0_steps, z0_now, z0_trial, z0_past, z0_images, z0_round, z0_seating, z0_fitting, z0_imagesKept, z0_refusedSteps, .int v0_callsNoSuch, z0_callsIllegal])), (a0_ground, .inr (2, [z0_ground_formX, z0_ground_formY, z0_ground_foxX, z0_ground_foxY, z0_ground_seat, z0_ground_strength, z0_ground_debts, z0_ground_near, z0_ground_forms, .int v0_ground_hares, z0_ground_foxes, z0_ground_safe]))] sz) := by
  refine vx_ofW (cc := cX10_needHare) (maxL := 2) (ret := none) (by decide) rfl ?_
  intro p e s m args below meth c s₁ B hml hnt hv
  obtain ⟨rfl, hsz, hP, hK, hD0, hNw, hXl, hXu, hXn, hXt⟩ := hv
  have hx := B.exec
  have hb := B.bytes
  have hr := B.returns
  have hts := atoms_spec (ws := wsX10_needHare) B.pre
  have hown : s.vm.findClass RX10 = some m.cls := findClass_of_methodNamed B.named
  have hlocks := B.notSynchronized
  subst hsz
  have hD := hD0.self (sz := s.heap.size)
  generalize hAe : va_A [(a0, .inr (10, [z0_tape, .ref a0_ground, z0_spareGround, z0_rule, z0_spareRule, z0_lines, z0_spareLines, z0_steps, z0_now, z0_trial, z0_past, z0_images, z0_round, z0_seating, z0_fitting, z0_imagesKept, z0_refusedSteps, .int v0_callsNoSuch, z0_callsIllegal])), (a0_ground, .inr (2, [z0_ground_formX, z0_ground_formY, z0_ground_foxX, z0_ground_foxY, z0_ground_seat, z0_ground_strength, z0_ground_debts, z0_ground_near, z0_ground_forms, .int v0_ground_hares, z0_ground_foxes, z0_ground_safe]))] s.heap.size = A at hD hXu hXn ⊢
  have hA : ∀ q : Nat, s.heap.size ≤ q → A q := fun q h => by rw [← hAe]; exact Or.inr h
  have hS : va_S A s.heap s.heap [] := va_S.rf
  have hP : va_P (dC, dI) vwCl [(a0, .inr (10, [z0_tape, .ref a0_ground, z0_spareGround, z0_rule, z0_spareRule, z0_lines, z0_spareLines, z0_steps, z0_now, z0_trial, z0_past, z0_images, z0_round, z0_seating, z0_fitting, z0_imagesKept, z0_refusedSteps, .int v0_callsNoSuch, z0_callsIllegal])), (a0_ground, .inr (2, [z0_ground_formX, z0_ground_formY, z0_ground_foxX, z0_ground_foxY, z0_ground_seat, z0_ground_strength, z0_ground_debts, z0_ground_near, z0_ground_forms, .int v0_ground_hares, z0_ground_foxes, z0_ground_safe]))] s.heap := hP
  have hl := lv_entry ([.ref a0, .int p1]) (n := 2) (Nat.le_of_ble_eq_true rfl)
  rw [lg_entry_eq]
  generalize (lg_sl ([.ref a0, .int p1]) ++ List.replicate (2 - (lg_sl ([.ref a0, .int p1])).length) Slot.unset).toArray = ls at hl ⊢
  have hl : lv_has ls 2 [(0, .ref a0), (1, .int p1)] := hl
  have hY : cfY l s A := ⟨hXl, hXu, hXn, hXt⟩
  have hXs : cfX l s c A := ⟨hnt, hY⟩
  have C0 : cfx p s m _ meth c cX10_needHare none wsX10_needHare RX10 2 A (dC, dI) (kT cyB cyI cyJ cyP) ∧ cfX l s c A := ⟨⟨hx, hb, hr, hts, hown, hlocks, hml, hA, hK, hNw⟩, hXs⟩
  clear hAe
  obtain ⟨H, hH⟩ : ∃ H, H = s.heap := ⟨_, rfl⟩
  rw [← hH] at hP ⊢
  have hS : va_S A s.heap H [] := by rw [hH]; exact va_S.rf
  have hS := hS
  refine lv_iload_n hx hb dX10_needHare_0 rfl (lv_at hl 1 rfl) ?_
  refine lv_iconst (v := 0) hx hb dX10_needHare_1 (by decide) ?_
  refine lv_aload_n hx hb dX10_needHare_2 rfl (lv_at hl 0 rfl) ?_
  refine va_get (D := (dC, dI)) (ci := 10) (v := .ref a0_ground) (C := RX10) (T := TX10) (N := 19) hx hb hts ui_X10_needHare_X10 hown hK hP 0 rfl rfl 1 (by decide) (hts _ uw_X10_needHare_f19) (fun _ h9 => h9) rfl dX10_needHare_3 ?_
  refine va_get (D := (dC, dI)) (ci := 2) (v := .int v0_ground_hares) (C := RX2) (T := TX2) (N := 12) hx hb hts ui_X10_needHare_X2 hown hK hP 1 rfl rfl 9 (by decide) (hts _ uw_X10_needHare_f141) (fun _ h9 => h9) rfl dX10_needHare_6 ?_
  refine lv_iconst (v := 1) hx hb dX10_needHare_9 (by decide) ?_
  refine lv_isub hx hb dX10_needHare_10 ?_
  have hPc := hP.sub (ws' := []) [] rfl
  have hDc := hD.sub (ws' := []) [] (by decide) rfl
  have hFc := va_free (wc := []) hD hS hA [] rfl
  refine va_calli (va_runS (As := [.int p1, .int 0, .int (v0_ground_hares - 1)]) (rest := []) ⟨hx, hb, hml, hown, hts⟩ (ck_X10_within l dC dI cyB cyI cyJ cyP  H.size    p1 0 (v0_ground_hares - 1) hw) (va_cwS 3 hts gX10_needHare_X10_within rfl rfl rfl (by decide +kernel) ⟨Nat.le_of_ble_eq_true rfl, Nat.le_of_ble_eq_true rfl⟩) ⟨cPc_blind, cPc_pre hPc hK hDc hNw⟩ rfl rfl hl.1 rfl (lv_room (Nat.le_of_ble_eq_true rfl)) dX10_needHare_11 ⟨Nat.le_of_ble_eq_true rfl, Nat.le_of_ble_eq_true rfl⟩) hS (fun q _ h => hFc q h) hFc (fun r1 u t H1 locs ht hvm hw hB hz1 hk1 hS => ?_)
  obtain ⟨hP1, hK1, hD1⟩ := hB
  rw [ht] at hP1
  obtain ⟨hP, hD⟩ := va_join (wr := [(a0, .inr (10, [z0_tape, .ref a0_ground, z0_spareGround, z0_rule, z0_spareRule, z0_lines, z0_spareLines, z0_steps, z0_now, z0_trial, z0_past, z0_images, z0_round, z0_seating, z0_fitting, z0_imagesKept, z0_refusedSteps, .int v0_callsNoSuch, z0_callsIllegal])), (a0_ground, .inr (2, [z0_ground_formX, z0_ground_formY, z0_ground_foxX, z0_ground_foxY, z0_ground_seat, z0_ground_strength, z0_ground_debts, z0_ground_near, z0_ground_forms, .int v0_ground_hares, z0_ground_foxes, z0_ground_safe]))]) (w1 := []) hP hD [] [0, 1] rfl rfl (by decide) (by decide) hk1 hFc hP1 hD1
  have hP : va_P (dC, dI) vwCl [(a0, .inr (10, [z0_tape, .ref a0_ground, z0_spareGround, z0_rule, z0_spareRule, z0_lines, z0_spareLines, z0_steps, z0_now, z0_trial, z0_past, z0_images, z0_round, z0_seating, z0_fitting, z0_imagesKept, z0_refusedSteps, .int v0_callsNoSuch, z0_callsIllegal])), (a0_ground, .inr (2, [z0_ground_formX, z0_ground_formY, z0_ground_foxX, z0_ground_foxY, z0_ground_seat, z0_ground_strength, z0_ground_debts, z0_ground_near, z0_ground_forms, .int v0_ground_hares, z0_ground_foxes, z0_ground_safe]))] H1 := hP
  have hD : va_D A [(a0, .inr (10, [z0_tape, .ref a0_ground, z0_spareGround, z0_rule, z0_spareRule, z0_lines, z0_spareLines, z0_steps, z0_now, z0_trial, z0_past, z0_images, z0_round, z0_seating, z0_fitting, z0_imagesKept, z0_refusedSteps, .int v0_callsNoSuch, z0_callsIllegal])), (a0_ground, .inr (2, [z0_ground_formX, z0_ground_formY, z0_ground_foxX, z0_ground_foxY, z0_ground_seat, z0_ground_strength, z0_ground_debts, z0_ground_near, z0_ground_forms, .int v0_ground_hares, z0_ground_foxes, z0_ground_safe]))] := hD
  generalize H1 = H at hP hS ⊢
  refine lv_if_ne (tgt := 38) hx hb dX10_needHare_14 (by decide) (fun c2 => ?_) (fun c2 => ?_)
  · have hw := hw.1 c2
    exact False.elim hw
  · have hw := hw.2 c2
    refine lv_aload_n hx hb dX10_needHare_17 rfl (lv_at hl 0 rfl) ?_
    refine lv_dup hx hb dX10_needHare_18 rfl ?_
    refine va_get (D := (dC, dI)) (ci := 10) (v := .int v0_callsNoSuch) (C := RX10) (T := TX10) (N := 19) hx hb hts ui_X10_needHare_X10 hown hK hP 0 rfl rfl 17 (by decide) (hts _ uw_X10_needHare_f261) (fun _ h9 => h9) rfl dX10_needHare_19 ?_
    refine lv_iconst (v := 1) hx hb dX10_needHare_22 (by decide) ?_
    refine lv_iadd hx hb dX10_needHare_23 ?_
    refine lv_topi (fun x3 ex3 => ?_)
    have hw := hw x3 ex3
    refine va_put (D := (dC, dI)) (ci := 10) (v := .int x3) (ty := .int) (C := RX10) (T := TX10) (N := 19) hx hb hts ui_X10_needHare_X10 tyX10 tyX10_ok nmX10 hown hK hP hD hS 0 rfl rfl 17 (by decide) (hts _ uw_X10_needHare_f261) (fun _ h9 => h9) rfl (by decide +kernel) rfl rfl (Nat.le_of_ble_eq_true rfl) dX10_needHare_24 (fun H locs hP hD hS => ?_)
    have hP : va_P (dC, dI) vwCl [(a0, .inr (10, [z0_tape, .ref a0_ground, z0_spareGround, z0_rule, z0_spareRule, z0_lines, z0_spareLines, z0_steps, z0_now, z0_trial, z0_past, z0_images, z0_round, z0_seating, z0_fitting, z0_imagesKept, z0_refusedSteps, .int x3, z0_callsIllegal])), (a0_ground, .inr (2, [z0_ground_formX, z0_ground_formY, z0_ground_foxX, z0_ground_foxY, z0_ground_seat, z0_ground_strength, z0_ground_debts, z0_ground_near, z0_ground_forms, .int v0_ground_hares, z0_ground_foxes, z0_ground_safe]))] H := hP
    have hD : va_D A [(a0, .inr (10, [z0_tape, .ref a0_ground, z0_spareGround, z0_rule, z0_spareRule, z0_lines, z0_spareLines, z0_steps, z0_now, z0_trial, z0_past, z0_images, z0_round, z0_seating, z0_fitting, z0_imagesKept, z0_refusedSteps, .int x3, z0_callsIllegal])), (a0_ground, .inr (2, [z0_ground_formX, z0_ground_formY, z0_ground_foxX, z0_ground_foxY, z0_ground_seat, z0_ground_strength, z0_ground_debts, z0_ground_near, z0_ground_forms, .int v0_ground_hares, z0_ground_foxes, z0_ground_safe]))] := hD
    obtain ⟨sa9, hsa9⟩ := hY.2.2.2.2.1 _ (List.mem_of_getElem? (i := 1) rfl)
    exact ux_throwSW hx hb hY.1 (own := RX10) (cls := "java/util/NoSuchElementException") (names := ["java/lang/RuntimeException", "java/lang/Exception"]) (ik := 264) (is := 403) (ic := 268) (rx := ux_rx) (by decide +kernel) (by decide +kernel) (by decide +kernel) (by decide +kernel) hown (by decide +kernel) (by decide +kernel) (hts _ uw_X10_needHare_cl264) (hts _ uw_X10_needHare_ini264) hsa9 (vx_hat (fun w hw9 => hts w (uh_X10_needHare_268 w hw9)) ub_X10_needHare_268 (xB_use hY.2.2.2.1)) ug_X10_needHare_268 hY.2.1 hY.2.2.1 hS (by rw [hml]; exact hl.1) dX10_needHare_27 dX10_needHare_30 dX10_needHare_31 dX10_needHare_34 dX10_needHare_37 (fun x hx9 => (hXs.1 x hx9).elim) (Nat.le_of_ble_eq_true rfl) (Nat.le_of_ble_eq_true rfl) (Nat.le_of_ble_eq_true rfl) (Nat.le_of_ble_eq_true rfl) hlocks (fun t hal hsz9 hq9 => ⟨(x3), trivial, ⟨hw, hP.kept (fun k q hk9 => hq9 _ ((hP k q hk9).lt)), va_K.moved hal hK, hD⟩, xt_frame hS hsz9 hq9⟩) hS.2.2 (Nat.le_of_ble_eq_true rfl) (Nat.le_of_ble_eq_true rfl)
def wq_X10_bouts (v0_ground_hares : Int32) (v0_callsNoSuch : Int32) (p1 : Int32) (E : String → Int32 → Prop) (Q : Int32 → Int32 → Prop) : Prop := wq_X10_needHare v0_ground_hares v0_callsNoSuch p1 (fun en x1 => E en x1) (fun x1 => False)
set_option maxHeartbeats 4000000 in
set_option maxRecDepth 100000 in
theorem ck_X10_bouts (l : Launch) (dC : Nat → ClassId) (dI : Nat → Nat → Nat) (cyB cyI cyJ cyP : ClassId) (a0 a0_ground : Nat) (sz : Nat) (z0_tape : Value) (z0_spareGround : Value) (z0_rule : Value) (z0_spareRule : Value) (z0_lines : Value) (z0_spareLines : Value) (z0_steps : Value) (z0_now : Value) (z0_trial : Value) (z0_past : Value) (z0_images : Value) (z0_round : Value) (z0_seating : Value) (z0_fitting : Value) (z0_imagesKept : Value) (z0_refusedSteps : Value) (z0_callsIllegal : Value) (z0_ground_formX : Value) (z0_ground_formY : Value) (z0_ground_foxX : Value) (z0_ground_foxY : Value) (z0_ground_seat : Value) (z0_ground_strength : Value) (z0_ground_debts : Value) (z0_ground_near : Value) (z0_ground_forms : Value) (z0_ground_foxes : Value) (z0_ground_safe : Value) (v0_ground_hares : Int32) (v0_callsNoSuch : Int32) (p1 : Int32) {E : String → Int32 → Prop} {Q : Int32 → Int32 → Prop} (hw : wq_X10_bouts v0_ground_hares v0_callsNoSuch p1 E Q) : vx_Met l yX10_bouts wsX10_bouts ({ frames := 7, cells := 1, slots := 6, locals := 141 }) (va_Pc [.ref a0, .int p1] (cPx l (dC, dI) (kT cyB cyI cyJ cyP) [(a0, .inr (10, [z0_tape, .ref a0_ground, z0_spareGround, z0_rule, z0_spareRule, z0_lines, z0_spareLines, z0_steps, z0_now, z0_trial, z0_past, z0_images, z0_round, z0_seating, z0_fitting, z0_imagesKept, z0_refusedSteps, .int v0_callsNoSuch, z0_callsIllegal])), (a0_ground, .inr (2, [z0_ground_formX, z0_ground_formY, z0_ground_foxX, z0_ground_foxY, z0_ground_seat, z0_ground_strength, z0_ground_debts, z0_ground_near, z0_ground_forms, .int v0_ground_hares, z0_ground_foxes, z0_ground_safe]))] sz)) (va_Qi (fun (r : Int32) (u : Int32) => Q r u) (cB (dC, dI) (kT cyB cyI cyJ cyP) (va_A [(a0, .inr (10, [z0_tape, .ref a0_ground, z0_spareGround, z0_rule, z0_spareRule, z0_lines, z0_spareLines, z0_steps, z0_now, z0_trial, z0_past, z0_images, z0_round, z0_seating, z0_fitting, z0_imagesKept, z0_refusedSteps, .int v0_callsNoSuch, z0_callsIllegal])), (a0_ground, .inr (2, [z0_ground_formX, z0_ground_formY, z0_ground_foxX, z0_ground_foxY, z0_ground_seat, z0_ground_strength, z0_ground_debts, z0_ground_near, z0_ground_forms, .int v0_ground_hares, z0_ground_foxes, z0_ground_safe]))] sz) (fun u : Int32 => ([(a0, .inr (10, [z0_tape, .ref a0_ground, z0_spareGround, z0_rule, z0_spareRule, z0_lines, z0_spareLines, z0_steps, z0_now, z0_trial, z0_past, z0_images, z0_round, z0_seating, z0_fitting, z0_imagesKept, z0_refusedSteps, .int u, z0_callsIllegal])), (a0_ground, .inr (2, [z0_ground_formX, z0_ground_formY, z0_ground_foxX, z0_ground_foxY, z0_ground_seat, z0_ground_strength, z0_ground_debts, z0_ground_near, z0_ground_forms, .int v0_ground_hares, z0_ground_foxes, z0_ground_safe]))] : va_W))) (va_A [(a0, .inr (10, [z0_tape, .ref a0_ground, z0_spareGround, z0_rule, z0_spareRule, z0_lines, z0_spareLines, z0_steps, z0_now, z0_trial, z0_past, z0_images, z0_round, z0_seating, z0_fitting, z0_imagesKept, z0_refusedSteps, .int v0_callsNoSuch, z0_callsIllegal])), (a0_ground, .inr (2, [z0_ground_formX, z0_ground_formY, z0_ground_foxX, z0_ground_foxY, z0_ground_seat, z0_ground_strength, z0_ground_debts, z0_ground_near, z0_ground_forms, .int v0_ground_hares, z0_ground_foxes, z0_ground_safe]))] sz)) (vx_X (fun _ => True) (fun (en : String) (u : Int32) (t : State) => E en u ∧ cB (dC, dI) (kT cyB cyI cyJ cyP) (va_A [(a0, .inr (10, [z0_tape, .ref a0_ground, z0_spareGround, z0_rule, z0_spareRule, z0_lines, z0_spareLines, z0_steps, z0_now, z0_trial, z0_past, z0_images, z0_round, z0_seating, z0_fitting, z0_imagesKept, z0_refusedSteps, .int v0_callsNoSuch, z0_callsIllegal])), (a0_ground, .inr (2, [z0_ground_formX, z0_ground_formY, z0_ground_foxX, z0_ground_foxY, z0_ground_seat, z0_ground_strength, z0_ground_debts, z0_ground_near, z0_ground_forms, .int v0_ground_hares, z0_ground_foxes, z0_ground_safe]))] sz) (fun u : Int32 => ([(a0, .inr (10, [z0_tape, .ref a0_ground, z0_spareGround, z0_rule, z0_spareRule, z0_lines, z0_spareLines, z0_steps, z0_now, z0_trial, z0_past, z0_images, z0_round, z0_seating, z0_fitting, z0_imagesKept, z0_refusedSteps, .int u, z0_callsIllegal])), (a0_ground, .inr (2, [z0_ground_formX, z0_ground_formY, z0_ground_foxX, z0_ground_foxY, z0_ground_seat, z0_ground_strength, z0_ground_debts, z0_ground_near, z0_ground_forms, .int v0_ground_hares, z0_ground_foxes, z0_ground_safe]))] : va_W)) u t) (va_A [(a0, .inr (10, [z0_tape, .ref a0_ground, z0_spareGround, z0_rule, z0_spareRule, z0_lines, z0_spareLines, z0_steps, z0_now, z0_trial, z0_past, z0_images, z0_round, z0_seating, z0_fitting, z0_imagesKept, z0_refusedSteps, .int v0_callsNoSuch, z0_callsIllegal])), (a0_ground, .inr (2, [z0_ground_formX, z0_ground_formY, z0_ground_foxX, z0_ground_foxY, z0_ground_seat, z0_ground_strength, z0_ground_debts, z0_ground_near, z0_ground_forms, .int v0_ground_hares, z0_ground_foxes, z0_ground_safe]))] sz)) 1 6 (va_A [(a0, .inr (10, [z0_tape, .ref a0_ground, z0_spareGround, z0_rule, z0_spareRule, z0_lines, z0_spareLines, z0_steps, z0_now, z0_trial, z0_past, z0_images, z0_round, z0_seating, z0_fitting, z0_imagesKept, z0_refusedSteps, .int v0_callsNoSuch, z0_callsIllegal])), (a0_ground, .inr (2, [z0_ground_formX, z0_ground_formY, z0_ground_foxX, z0_ground_foxY, z0_ground_seat, z0_ground_strength, z0_ground_debts, z0_ground_near, z0_ground_forms, .int v0_ground_hares, z0_ground_foxes, z0_ground_safe]))] sz) := by
  refine vx_ofW (cc := cX10_bouts) (maxL := 5) (ret := (some .int)) (by decide) rfl ?_
  intro p e s m args below meth c s₁ B hml hnt hv
  obtain ⟨rfl, hsz, hP, hK, hD0, hNw, hXl, hXu, hXn, hXt⟩ := hv
  have hx := B.exec
  have hb := B.bytes
  have hr := B.returns
  have hts := atoms_spec (ws := wsX10_bouts) B.pre
  have hown : s.vm.findClass RX10 = some m.cls := findClass_of_methodNamed B.named
  have hlocks := B.notSynchronized
  subst hsz
  have hD := hD0.self (sz := s.heap.size)
  generalize hAe : va_A [(a0, .inr (10, [z0_tape, .ref a0_ground, z0_spareGround, z0_rule, z0_spareRule, z0_lines, z0_spareLines, z0_steps, z0_now, z0_trial, z0_past, z0_images, z0_round, z0_seating, z0_fitting, z0_imagesKept, z0_refusedSteps, .int v0_callsNoSuch, z0_callsIllegal])), (a0_ground, .inr (2, [z0_ground_formX, z0_ground_formY, z0_ground_foxX, z0_ground_foxY, z0_ground_seat, z0_ground_strength, z0_ground_debts, z0_ground_near, z0_ground_forms, .int v0_ground_hares, z0_ground_foxes, z0_ground_safe]))] s.heap.size = A at hD hXu hXn ⊢
  have hA : ∀ q : Nat, s.heap.size ≤ q → A q := fun q h => by rw [← hAe]; exact Or.inr h
  have hS : va_S A s.heap s.heap [] := va_S.rf
  have hP : va_P (dC, dI) vwCl [(a0, .inr (10, [z0_tape, .ref a0_ground, z0_spareGround, z0_rule, z0_spareRule, z0_lines, z0_spareLines, z0_steps, z0_now, z0_trial, z0_past, z0_images, z0_round, z0_seating, z0_fitting, z0_imagesKept, z0_refusedSteps, .int v0_callsNoSuch, z0_callsIllegal])), (a0_ground, .inr (2, [z0_ground_formX, z0_ground_formY, z0_ground_foxX, z0_ground_foxY, z0_ground_seat, z0_ground_strength, z0_ground_debts, z0_ground_near, z0_ground_forms, .int v0_ground_hares, z0_ground_foxes, z0_ground_safe]))] s.heap := hP
  have hl := lv_entry ([.ref a0, .int p1]) (n := 5) (Nat.le_of_ble_eq_true rfl)
  rw [lg_entry_eq]
  generalize (lg_sl ([.ref a0, .int p1]) ++ List.replicate (5 - (lg_sl ([.ref a0, .int p1])).length) Slot.unset).toArray = ls at hl ⊢
  have hl : lv_has ls 5 [(0, .ref a0), (1, .int p1)] := hl
  have hY : cfY l s A := ⟨hXl, hXu, hXn, hXt⟩
  have hXs : cfX l s c A := ⟨hnt, hY⟩
  have C0 : cfx p s m _ meth c cX10_bouts (some .int) wsX10_bouts RX10 5 A (dC, dI) (kT cyB cyI cyJ cyP) ∧ cfX l s c A := ⟨⟨hx, hb, hr, hts, hown, hlocks, hml, hA, hK, hNw⟩, hXs⟩
  clear hAe
  obtain ⟨H, hH⟩ : ∃ H, H = s.heap := ⟨_, rfl⟩
  rw [← hH] at hP ⊢
  have hS : va_S A s.heap H [] := by rw [hH]; exact va_S.rf
  have hS := hS
  refine lv_aload_n hx hb dX10_bouts_0 rfl (lv_at hl 0 rfl) ?_
  refine lv_iload_n hx hb dX10_bouts_1 rfl (lv_at hl 1 rfl) ?_
  have hPc := hP.sub (ws' := [(a0, .inr (10, [z0_tape, .ref a0_ground, z0_spareGround, z0_rule, z0_spareRule, z0_lines, z0_spareLines, z0_steps, z0_now, z0_trial, z0_past, z0_images, z0_round, z0_seating, z0_fitting, z0_imagesKept, z0_refusedSteps, .int v0_callsNoSuch, z0_callsIllegal])), (a0_ground, .inr (2, [z0_ground_formX, z0_ground_formY, z0_ground_foxX, z0_ground_foxY, z0_ground_seat, z0_ground_strength, z0_ground_debts, z0_ground_near, z0_ground_forms, .int v0_ground_hares, z0_ground_foxes, z0_ground_safe]))]) [0, 1] rfl
  have hDc := hD.sub (ws' := [(a0, .inr (10, [z0_tape, .ref a0_ground, z0_spareGround, z0_rule, z0_spareRule, z0_lines, z0_spareLines, z0_steps, z0_now, z0_trial, z0_past, z0_images, z0_round, z0_seating, z0_fitting, z0_imagesKept, z0_refusedSteps, .int v0_callsNoSuch, z0_callsIllegal])), (a0_ground, .inr (2, [z0_ground_formX, z0_ground_formY, z0_ground_foxX, z0_ground_foxY, z0_ground_seat, z0_ground_strength, z0_ground_debts, z0_ground_near, z0_ground_forms, .int v0_ground_hares, z0_ground_foxes, z0_ground_safe]))]) [0, 1] (by decide) rfl
  have hFc := va_free (wc := [(a0, .inr (10, [z0_tape, .ref a0_ground, z0_spareGround, z0_rule, z0_spareRule, z0_lines, z0_spareLines, z0_steps, z0_now, z0_trial, z0_past, z0_images, z0_round, z0_seating, z0_fitting, z0_imagesKept, z0_refusedSteps, .int v0_callsNoSuch, z0_callsIllegal])), (a0_ground, .inr (2, [z0_ground_formX, z0_ground_formY, z0_ground_foxX, z0_ground_foxY, z0_ground_seat, z0_ground_strength, z0_ground_debts, z0_ground_near, z0_ground_forms, .int v0_ground_hares, z0_ground_foxes, z0_ground_safe]))]) hD hS hA [0, 1] rfl
  refine vx_callv (vx_runV (As := [.int p1]) (rest := []) ⟨hx, hb, hml, hown, hts⟩ (ck_X10_needHare l dC dI cyB cyI cyJ cyP a0 a0_ground H.size (z0_tape) (z0_spareGround) (z0_rule) (z0_spareRule) (z0_lines) (z0_spareLines) (z0_steps) (z0_now) (z0_trial) (z0_past) (z0_images) (z0_round) (z0_seating) (z0_fitting) (z0_imagesKept) (z0_refusedSteps) (z0_callsIllegal) (z0_ground_formX) (z0_ground_formY) (z0_ground_foxX) (z0_ground_foxY) (z0_ground_seat) (z0_ground_strength) (z0_ground_debts) (z0_ground_near) (z0_ground_forms) (z0_ground_foxes) (z0_ground_safe) v0_ground_hares v0_callsNoSuch p1 hw) (cwV 1 hts gX10_bouts_X10_needHare rfl rfl rfl (by decide +kernel) ⟨Nat.le_of_ble_eq_true rfl, Nat.le_of_ble_eq_true rfl⟩) ⟨cPx_blind, va_recv hK hPc (ci := 10) (q0 := 0) rfl rfl, cPx_pre hPc hK hDc hNw hY hS hFc⟩ rfl rfl hl.1 rfl (lv_room (Nat.le_of_ble_eq_true rfl)) dX10_bouts_2 ⟨Nat.le_of_ble_eq_true rfl, Nat.le_of_ble_eq_true rfl⟩) hS (fun q _ h => hFc q h) hFc (fun q _ h => hFc q h) (fun en ce q9 u t H1 locs ht hvm hpx hB hz1 hk1 hS hc9 hv9 hcl9 => ?_) (fun u t H1 locs ht hvm hw hB hz1 hk1 hS => ?_)
  · obtain ⟨x1, rfl⟩ : ∃ z, z = u := ⟨_, rfl⟩
    obtain ⟨hw, hP1, hK1, hD1⟩ := hB
    rw [ht] at hP1
    obtain ⟨hP, hD⟩ := va_join (wr := []) (w1 := [(a0, .inr (10, [z0_tape, .ref a0_ground, z0_spareGround, z0_rule, z0_spareRule, z0_lines, z0_spareLines, z0_steps, z0_now, z0_trial, z0_past, z0_images, z0_round, z0_seating, z0_fitting, z0_imagesKept, z0_refusedSteps, .int x1, z0_callsIllegal])), (a0_ground, .inr (2, [z0_ground_formX, z0_ground_formY, z0_ground_foxX, z0_ground_foxY, z0_ground_seat, z0_ground_strength, z0_ground_debts, z0_ground_near, z0_ground_forms, .int v0_ground_hares, z0_ground_foxes, z0_ground_safe]))]) hP hD [0, 1] [] rfl rfl (by decide) (by decide) hk1 hFc hP1 hD1
    have hP : va_P (dC, dI) vwCl [(a0, .inr (10, [z0_tape, .ref a0_ground, z0_spareGround, z0_rule, z0_spareRule, z0_lines, z0_spareLines, z0_steps, z0_now, z0_trial, z0_past, z0_images, z0_round, z0_seating, z0_fitting, z0_imagesKept, z0_refusedSteps, .int x1, z0_callsIllegal])), (a0_ground, .inr (2, [z0_ground_formX, z0_ground_formY, z0_ground_foxX, z0_ground_foxY, z0_ground_seat, z0_ground_strength, z0_ground_debts, z0_ground_near, z0_ground_forms, .int v0_ground_hares, z0_ground_foxes, z0_ground_safe]))] H1 := hP
    have hD : va_D A [(a0, .inr (10, [z0_tape, .ref a0_ground, z0_spareGround, z0_rule, z0_spareRule, z0_lines, z0_spareLines, z0_steps, z0_now, z0_trial, z0_past, z0_images, z0_round, z0_seating, z0_fitting, z0_imagesKept, z0_refusedSteps, .int x1, z0_callsIllegal])), (a0_ground, .inr (2, [z0_ground_formX, z0_ground_formY, z0_ground_foxX, z0_ground_foxY, z0_ground_seat, z0_ground_strength, z0_ground_debts, z0_ground_near, z0_ground_forms, .int v0_ground_hares, z0_ground_foxes, z0_ground_safe]))] := hD
    generalize H1 = H at hP hS hc9 ⊢
    exact vx_out (fun x hx9 => (hXs.1 x hx9).elim) hlocks hc9 hv9 hcl9 (fun t2 ht2 hal2 => ⟨(x1), trivial, ⟨hw, by rw [ht2]; exact hP, va_K.moved hal2 hK, hD⟩, hS.F ht2⟩) hS.2.2 (Nat.le_of_ble_eq_true rfl) (Nat.le_of_ble_eq_true rfl)
  obtain ⟨x1, rfl⟩ : ∃ z, z = u := ⟨_, rfl⟩
  obtain ⟨hP1, hK1, hD1⟩ := hB
  rw [ht] at hP1
  obtain ⟨hP, hD⟩ := va_join (wr := []) (w1 := [(a0, .inr (10, [z0_tape, .ref a0_ground, z0_spareGround, z0_rule, z0_spareRule, z0_lines, z0_spareLines, z0_steps, z0_now, z0_trial, z0_past, z0_images, z0_round, z0_seating, z0_fitting, z0_imagesKept, z0_refusedSteps, .int x1, z0_callsIllegal])), (a0_ground, .inr (2, [z0_ground_formX, z0_ground_formY, z0_ground_foxX, z0_ground_foxY, z0_ground_seat, z0_ground_strength, z0_ground_debts, z0_ground_near, z0_ground_forms, .int v0_ground_hares, z0_ground_foxes, z0_ground_safe]))]) hP hD [0, 1] [] rfl rfl (by decide) (by decide) hk1 hFc hP1 hD1
  have hP : va_P (dC, dI) vwCl [(a0, .inr (10, [z0_tape, .ref a0_ground, z0_spareGround, z0_rule, z0_spareRule, z0_lines, z0_spareLines, z0_steps, z0_now, z0_trial, z0_past, z0_images, z0_round, z0_seating, z0_fitting, z0_imagesKept, z0_refusedSteps, .int x1, z0_callsIllegal])), (a0_ground, .inr (2, [z0_ground_formX, z0_ground_formY, z0_ground_foxX, z0_ground_foxY, z0_ground_seat, z0_ground_strength, z0_ground_debts, z0_ground_near, z0_ground_forms, .int v0_ground_hares, z0_ground_foxes, z0_ground_safe]))] H1 := hP
  have hD : va_D A [(a0, .inr (10, [z0_tape, .ref a0_ground, z0_spareGround, z0_rule, z0_spareRule, z0_lines, z0_spareLines, z0_steps, z0_now, z0_trial, z0_past, z0_images, z0_round, z0_seating, z0_fitting, z0_imagesKept, z0_refusedSteps, .int x1, z0_callsIllegal])), (a0_ground, .inr (2, [z0_ground_formX, z0_ground_formY, z0_ground_foxX, z0_ground_foxY, z0_ground_seat, z0_ground_strength, z0_ground_debts, z0_ground_near, z0_ground_forms, .int v0_ground_hares, z0_ground_foxes, z0_ground_safe]))] := hD
  generalize H1 = H at hP hS ⊢
  exact False.elim hw
theorem ub_X10_needForm_268 : ∀ w ∈ (ux_atS RX10 268 "java/util/NoSuchElementException" 13 ux_rx ["java/lang/RuntimeException", "java/lang/Exception"]).filter (fun w => !goodWord w), w ∈ xB := by decide +kernel
theorem ug_X10_needForm_268 : ∀ w ∈ Cond.classLink RX10 264 "java/util/NoSuchElementException" :: Cond.initialized "java/util/NoSuchElementException" :: ux_atS RX10 268 "java/util/NoSuchElementException" 13 ux_rx ["java/lang/RuntimeException", "java/lang/Exception"], vx_ot w = true := by decide +kernel
theorem uh_X10_needForm_268 : ∀ w ∈ (ux_atS RX10 268 "java/util/NoSuchElementException" 13 ux_rx ["java/lang/RuntimeException", "java/lang/Exception"]).filter goodWord, w ∈ wsX10_needForm := by decide +kernel
theorem ui_X10_needForm_X10 : ∀ w ∈ u_ws RX10 TX10 19, w ∈ wsX10_needForm := by decide +kernel
theorem ui_X10_needForm_X2 : ∀ w ∈ u_ws RX2 TX2 12, w ∈ wsX10_needForm := by decide +kernel
theorem uw_X10_needForm_cl264 : (.classLink RX10 264 "java/util/NoSuchElementException" : Cond) ∈ wsX10_needForm := by decide +kernel
theorem uw_X10_needForm_f149 : (.fieldLink RX10 149 "MarchHares$Down" "forms" "I" : Cond) ∈ wsX10_needForm := by decide +kernel
theorem uw_X10_needForm_f19 : (.fieldLink RX10 19 "MarchHares" "ground" "LMarchHares$Down;" : Cond) ∈ wsX10_needForm := by decide +kernel
theorem uw_X10_needForm_f261 : (.fieldLink RX10 261 "MarchHares" "callsNoSuch" "I" : Cond) ∈ wsX10_needForm := by decide +kernel
theorem uw_X10_needForm_ini264 : (.initialized "java/util/NoSuchElementException" : Cond) ∈ wsX10_needForm := by decide +kernel
def wq_X10_needForm (v0_ground_forms : Int32) (v0_callsNoSuch : Int32) (p1 : Int32) (E : String → Int32 → Prop) (Q : Int32 → Prop) : Prop := wq_X10_within   p1 0 (v0_ground_forms - 1) (fun r1 => ((¬ r1 = 0 → False) ∧ (r1 = 0 → ∀ x3 : Int32, x3 = v0_callsNoSuch + 1 → (E "java/util/NoSuchElementException" x3))))
set_option maxHeartbeats 4000000 in
set_option maxRecDepth 100000 in
theorem ck_X10_needForm (l : Launch) (dC : Nat → ClassId) (dI : Nat → Nat → Nat) (cyB cyI cyJ cyP : ClassId) (a0 a0_ground : Nat) (sz : Nat) (z0_tape : Value) (z0_spareGround : Value) (z0_rule : Value) (z0_spareRule : Value) (z0_lines : Value) (z0_spareLines : Value) (z0_steps : Value) (z0_now : Value) (z0_trial : Value) (z0_past : Value) (z0_images : Value) (z0_round : Value) (z0_seating : Value) (z0_fitting : Value) (z0_imagesKept : Value) (z0_refusedSteps : Value) (z0_callsIllegal : Value) (z0_ground_formX : Value) (z0_ground_formY : Value) (z0_ground_foxX : Value) (z0_ground_foxY : Value) (z0_ground_seat : Value) (z0_ground_strength : Value) (z0_ground_debts : Value) (z0_ground_near : Value) (z0_ground_hares : Value) (z0_ground_foxes : Value) (z0_ground_safe : Value) (v0_ground_forms : Int32) (v0_callsNoSuch : Int32) (p1 : Int32) {E : String → Int32 → Prop} {Q : Int32 → Prop} (hw : wq_X10_needForm v0_ground_forms v0_callsNoSuch p1 E Q) : vx_Met l yX10_needForm wsX10_needForm ({ frames := 6, cells := 1, slots := 6, locals := 120 }) (va_Pc [.ref a0, .int p1] (cPx l (dC, dI) (kT cyB cyI cyJ cyP) [(a0, .inr (10, [z0_tape, .ref a0_ground, z0_spareGround, z0_rule, z0_spareRule, z0_lines, z0_spareLines, z0_steps, z0_now, z0_trial, z0_past, z0_images, z0_round, z0_seating, z0_fitting, z0_imagesKept, z0_refusedSteps, .int v0_callsNoSuch, z0_callsIllegal])), (a0_ground, .inr (2, [z0_ground_formX, z0_ground_formY, z0_ground_foxX, z0_ground_foxY, z0_ground_seat, z0_ground_strength, z0_ground_debts, z0_ground_near, .int v0_ground_forms, z0_ground_hares, z0_ground_foxes, z0_ground_safe]))] sz)) (va_Qv (fun (u : Int32) => Q u) (cB (dC, dI) (kT cyB cyI cyJ cyP) (va_A [(a0, .inr (10, [z0_tape, .ref a0_ground, z0_spareGround, z0_rule, z0_spareRule, z0_lines, z0_spareLines, z0_steps, z0_now, z0_trial, z0_past, z0_images, z0_round, z0_seating, z0_fitting, z0_imagesKept, z0_refusedSteps, .int v0_callsNoSuch, z0_callsIllegal])), (a0_ground, .inr (2, [z0_ground_formX, z0_ground_formY, z0_ground_foxX, z0_ground_foxY, z0_ground_seat, z0_ground_strength, z0_ground_debts, z0_ground_near, .int v0_ground_forms, z0_ground_hares, z0_ground_foxes, z0_ground_safe]))] sz) (fun u : Int32 => ([(a0, .inr (10, [z0_tape, .ref a0_ground, z0_spareGround, z0_rule, z0_spareRule, z0_lines, z0_spareLines, z0_steps, z0_now, z0_trial, z0_past, z0_images, z0_round, z0_seating, z0_fitting, z0_imagesKept, z0_refusedSteps, .int u, z0_callsIllegal])), (a0_ground, .inr (2, [z0_ground_formX, z0_ground_formY, z0_ground_foxX, z0_ground_foxY, z0_ground_seat, z0_ground_strength, z0_ground_debts, z0_ground_near, .int v0_ground_forms, z0_ground_hares, z0_ground_foxes, z0_ground_safe]))] : va_W))) (va_A [(a0, .inr (10, [z0_tape, .ref a0_ground, z0_spareGround, z0_rule, z0_spareRule, z0_lines, z0_spareLines, z0_steps, z0_now, z0_trial, z0_past, z0_images, z0_round, z0_seating, z0_fitting, z0_imagesKept, z0_refusedSteps, .int v0_callsNoSuch, z0_callsIllegal])), (a0_ground, .inr (2, [z0_ground_formX, z0_ground_formY, z0_ground_foxX, z0_ground_foxY, z0_ground_seat, z0_ground_strength, z0_ground_debts, z0_ground_near, .int v0_ground_forms, z0_ground_hares, z0_ground_foxes, z0_ground_safe]))] sz)) (vx_X (fun _ => True) (fun (en : String) (u : Int32) (t : State) => E en u ∧ cB (dC, dI) (kT cyB cyI cyJ cyP) (va_A [(a0, .inr (10, [z0_tape, .ref a0_ground, z0_spareGround, z0_rule, z0_spareRule, z0_lines, z0_spareLines, z0_steps, z0_now, z0_trial, z0_past, z0_images, z0_round, z0_seating, z0_fitting, z0_imagesKept, z0_refusedSteps, .int v0_callsNoSuch, z0_callsIllegal])), (a0_ground, .inr (2, [z0_ground_formX, z0_ground_formY, z0_ground_foxX, z0_ground_foxY, z0_ground_seat, z0_ground_strength, z0_ground_debts, z0_ground_near, .int v0_ground_forms, z0_ground_hares, z0_ground_foxes, z0_ground_safe]))] sz) (fun u : Int32 => ([(a0, .inr (10, [z0_tape, .ref a0_ground, z0_spareGround, z0_rule, z0_spareRule, z0_lines, z0_spareLines, z0_steps, z0_now, z0_trial, z0_past, z0_images, z0_round, z0_seating, z0_fitting, z0_imagesKept, z0_refusedSteps, .int u, z0_callsIllegal])), (a0_ground, .inr (2, [z0_ground_formX, z0_ground_formY, z0_ground_foxX, z0_ground_foxY, z0_ground_seat, z0_ground_strength, z0_ground_debts, z0_ground_near, .int v0_ground_forms, z0_ground_hares, z0_ground_foxes, z0_ground_safe]))] : va_W)) u t) (va_A [(a0, .inr (10, [z0_tape, .ref a0_ground, z0_spareGround, z0_rule, z0_spareRule, z0_lines, z0_spareLines, z0_steps, z0_now, z0_trial, z0_past, z0_images, z0_round, z0_seating, z0_fitting, z0_imagesKept, z0_refusedSteps, .int v0_callsNoSuch, z0_callsIllegal])), (a0_ground, .inr (2, [z0_ground_formX, z0_ground_formY, z0_ground_foxX, z0_ground_foxY, z0_ground_seat, z0_ground_strength, z0_ground_debts, z0_ground_near, .int v0_ground_forms, z0_ground_hares, z0_ground_foxes, z0_ground_safe]))] sz)) 1 6 (va_A [(a0, .inr (10, [z0_tape, .ref a0_ground, z0_spareGround, z0_rule, z0_spareRule, z0_lines, z0_spareLines, z0_steps, z0_now, z0_trial, z0_past, z0_images, z0_round, z0_seating, z0_fitting, z0_imagesKept, z0_refusedSteps, .int v0_callsNoSuch, z0_callsIllegal])), (a0_ground, .inr (2, [z0_ground_formX, z0_ground_formY, z0_ground_foxX, z0_ground_foxY, z0_ground_seat, z0_ground_strength, z0_ground_debts, z0_ground_near, .int v0_ground_forms, z0_ground_hares, z0_ground_foxes, z0_ground_safe]))] sz) := by
  refine vx_ofW (cc := cX10_needForm) (maxL := 2) (ret := none) (by decide) rfl ?_
  intro p e s m args below meth c s₁ B hml hnt hv
  obtain ⟨rfl, hsz, hP, hK, hD0, hNw, hXl, hXu, hXn, hXt⟩ := hv
  have hx := B.exec
  have hb := B.bytes
  have hr := B.returns
  have hts := atoms_spec (ws := wsX10_needForm) B.pre
  have hown : s.vm.findClass RX10 = some m.cls := findClass_of_methodNamed B.named
  have hlocks := B.notSynchronized
  subst hsz
  have hD := hD0.self (sz := s.heap.size)
  generalize hAe : va_A [(a0, .inr (10, [z0_tape, .ref a0_ground, z0_spareGround, z0_rule, z0_spareRule, z0_lines, z0_spareLines, z0_steps, z0_now, z0_trial, z0_past, z0_images, z0_round, z0_seating, z0_fitting, z0_imagesKept, z0_refusedSteps, .int v0_callsNoSuch, z0_callsIllegal])), (a0_ground, .inr (2, [z0_ground_formX, z0_ground_formY, z0_ground_foxX, z0_ground_foxY, z0_ground_seat, z0_ground_strength, z0_ground_debts, z0_ground_near, .int v0_ground_forms, z0_ground_hares, z0_ground_foxes, z0_ground_safe]))] s.heap.size = A at hD hXu hXn ⊢
  have hA : ∀ q : Nat, s.heap.size ≤ q → A q := fun q h => by rw [← hAe]; exact Or.inr h
  have hS : va_S A s.heap s.heap [] := va_S.rf
  have hP : va_P (dC, dI) vwCl [(a0, .inr (10, [z0_tape, .ref a0_ground, z0_spareGround, z0_rule, z0_spareRule, z0_lines, z0_spareLines, z0_steps, z0_now, z0_trial, z0_past, z0_images, z0_round, z0_seating, z0_fitting, z0_imagesKept, z0_refusedSteps, .int v0_callsNoSuch, z0_callsIllegal])), (a0_ground, .inr (2, [z0_ground_formX, z0_ground_formY, z0_ground_foxX, z0_ground_foxY, z0_ground_seat, z0_ground_strength, z0_ground_debts, z0_ground_near, .int v0_ground_forms, z0_ground_hares, z0_ground_foxes, z0_ground_safe]))] s.heap := hP
  have hl := lv_entry ([.ref a0, .int p1]) (n := 2) (Nat.le_of_ble_eq_true rfl)
  rw [lg_entry_eq]
  generalize (lg_sl ([.ref a0, .int p1]) ++ List.replicate (2 - (lg_sl ([.ref a0, .int p1])).length) Slot.unset).toArray = ls at hl ⊢
  have hl : lv_has ls 2 [(0, .ref a0), (1, .int p1)] := hl
  have hY : cfY l s A := ⟨hXl, hXu, hXn, hXt⟩
  have hXs : cfX l s c A := ⟨hnt, hY⟩
  have C0 : cfx p s m _ meth c cX10_needForm none wsX10_needForm RX10 2 A (dC, dI) (kT cyB cyI cyJ cyP) ∧ cfX l s c A := ⟨⟨hx, hb, hr, hts, hown, hlocks, hml, hA, hK, hNw⟩, hXs⟩
  clear hAe
  obtain ⟨H, hH⟩ : ∃ H, H = s.heap := ⟨_, rfl⟩
  rw [← hH] at hP ⊢
  have hS : va_S A s.heap H [] := by rw [hH]; exact va_S.rf
  have hS := hS
  refine lv_iload_n hx hb dX10_needForm_0 rfl (lv_at hl 1 rfl) ?_
  refine lv_iconst (v := 0) hx hb dX10_needForm_1 (by decide) ?_
  refine lv_aload_n hx hb dX10_needForm_2 rfl (lv_at hl 0 rfl) ?_
  refine va_get (D := (dC, dI)) (ci := 10) (v := .ref a0_ground) (C := RX10) (T := TX10) (N := 19) hx hb hts ui_X10_needForm_X10 hown hK hP 0 rfl rfl 1 (by decide) (hts _ uw_X10_needForm_f19) (fun _ h9 => h9) rfl dX10_needForm_3 ?_
  refine va_get (D := (dC, dI)) (ci := 2) (v := .int v0_ground_forms) (C := RX2) (T := TX2) (N := 12) hx hb hts ui_X10_needForm_X2 hown hK hP 1 rfl rfl 8 (by decide) (hts _ uw_X10_needForm_f149) (fun _ h9 => h9) rfl dX10_needForm_6 ?_
  refine lv_iconst (v := 1) hx hb dX10_needForm_9 (by decide) ?_
  refine lv_isub hx hb dX10_needForm_10 ?_
  have hPc := hP.sub (ws' := []) [] rfl
  have hDc := hD.sub (ws' := []) [] (by decide) rfl
  have hFc := va_free (wc := []) hD hS hA [] rfl
  refine va_calli (va_runS (As := [.int p1, .int 0, .int (v0_ground_forms - 1)]) (rest := []) ⟨hx, hb, hml, hown, hts⟩ (ck_X10_within l dC dI cyB cyI cyJ cyP  H.size    p1 0 (v0_ground_forms - 1) hw) (va_cwS 3 hts gX10_needForm_X10_within rfl rfl rfl (by decide +kernel) ⟨Nat.le_of_ble_eq_true rfl, Nat.le_of_ble_eq_true rfl⟩) ⟨cPc_blind, cPc_pre hPc hK hDc hNw⟩ rfl rfl hl.1 rfl (lv_room (Nat.le_of_ble_eq_true rfl)) dX10_needForm_11 ⟨Nat.le_of_ble_eq_true rfl, Nat.le_of_ble_eq_true rfl⟩) hS (fun q _ h => hFc q h) hFc (fun r1 u t H1 locs ht hvm hw hB hz1 hk1 hS => ?_)
  obtain ⟨hP1, hK1, hD1⟩ := hB
  rw [ht] at hP1
  obtain ⟨hP, hD⟩ := va_join (wr := [(a0, .inr (10, [z0_tape, .ref a0_ground, z0_spareGround, z0_rule, z0_spareRule, z0_lines, z0_spareLines, z0_steps, z0_now, z0_trial, z0_past, z0_images, z0_round, z0_seating, z0_fitting, z0_imagesKept, z0_refusedSteps, .int v0_callsNoSuch, z0_callsIllegal])), (a0_ground, .inr (2, [z0_ground_formX, z0_ground_formY, z0_ground_foxX, z0_ground_foxY, z0_ground_seat, z0_ground_strength, z0_ground_debts, z0_ground_near, .int v0_ground_forms, z0_ground_hares, z0_ground_foxes, z0_ground_safe]))]) (w1 := []) hP hD [] [0, 1] rfl rfl (by decide) (by decide) hk1 hFc hP1 hD1
  have hP : va_P (dC, dI) vwCl [(a0, .inr (10, [z0_tape, .ref a0_ground, z0_spareGround, z0_rule, z0_spareRule, z0_lines, z0_spareLines, z0_steps, z0_now, z0_trial, z0_past, z0_images, z0_round, z0_seating, z0_fitting, z0_imagesKept, z0_refusedSteps, .int v0_callsNoSuch, z0_callsIllegal])), (a0_ground, .inr (2, [z0_ground_formX, z0_ground_formY, z0_ground_foxX, z0_ground_foxY, z0_ground_seat, z0_ground_strength, z0_ground_debts, z0_ground_near, .int v0_ground_forms, z0_ground_hares, z0_ground_foxes, z0_ground_safe]))] H1 := hP
  have hD : va_D A [(a0, .inr (10, [z0_tape, .ref a0_ground, z0_spareGround, z0_rule, z0_spareRule, z0_lines, z0_spareLines, z0_steps, z0_now, z0_trial, z0_past, z0_images, z0_round, z0_seating, z0_fitting, z0_imagesKept, z0_refusedSteps, .int v0_callsNoSuch, z0_callsIllegal])), (a0_ground, .inr (2, [z0_ground_formX, z0_ground_formY, z0_ground_foxX, z0_ground_foxY, z0_ground_seat, z0_ground_strength, z0_ground_debts, z0_ground_near, .int v0_ground_forms, z0_ground_hares, z0_ground_foxes, z0_ground_safe]))] := hD
  generalize H1 = H at hP hS ⊢
  refine lv_if_ne (tgt := 38) hx hb dX10_needForm_14 (by decide) (fun c2 => ?_) (fun c2 => ?_)
  · have hw := hw.1 c2
    exact False.elim hw
  · have hw := hw.2 c2
    refine lv_aload_n hx hb dX10_needForm_17 rfl (lv_at hl 0 rfl) ?_
    refine lv_dup hx hb dX10_needForm_18 rfl ?_
    refine va_get (D := (dC, dI)) (ci := 10) (v := .int v0_callsNoSuch) (C := RX10) (T := TX10) (N := 19) hx hb hts ui_X10_needForm_X10 hown hK hP 0 rfl rfl 17 (by decide) (hts _ uw_X10_needForm_f261) (fun _ h9 => h9) rfl dX10_needForm_19 ?_
    refine lv_iconst (v := 1) hx hb dX10_needForm_22 (by decide) ?_
    refine lv_iadd hx hb dX10_needForm_23 ?_
    refine lv_topi (fun x3 ex3 => ?_)
    have hw := hw x3 ex3
    refine va_put (D := (dC, dI)) (ci := 10) (v := .int x3) (ty := .int) (C := RX10) (T := TX10) (N := 19) hx hb hts ui_X10_needForm_X10 tyX10 tyX10_ok nmX10 hown hK hP hD hS 0 rfl rfl 17 (by decide) (hts _ uw_X10_needForm_f261) (fun _ h9 => h9) rfl (by decide +kernel) rfl rfl (Nat.le_of_ble_eq_true rfl) dX10_needForm_24 (fun H locs hP hD hS => ?_)
    have hP : va_P (dC, dI) vwCl [(a0, .inr (10, [z0_tape, .ref a0_ground, z0_spareGround, z0_rule, z0_spareRule, z0_lines, z0_spareLines, z0_steps, z0_now, z0_trial, z0_past, z0_images, z0_round, z0_seating, z0_fitting, z0_imagesKept, z0_refusedSteps, .int x3, z0_callsIllegal])), (a0_ground, .inr (2, [z0_ground_formX, z0_ground_formY, z0_ground_foxX, z0_ground_foxY, z0_ground_seat, z0_ground_strength, z0_ground_debts, z0_ground_near, .int v0_ground_forms, z0_ground_hares, z0_ground_foxes, z0_ground_safe]))] H := hP
    have hD : va_D A [(a0, .inr (10, [z0_tape, .ref a0_ground, z0_spareGround, z0_rule, z0_spareRule, z0_lines, z0_spareLines, z0_steps, z0_now, z0_trial, z0_past, z0_images, z0_round, z0_seating, z0_fitting, z0_imagesKept, z0_refusedSteps, .int x3, z0_callsIllegal])), (a0_ground, .inr (2, [z0_ground_formX, z0_ground_formY, z0_ground_foxX, z0_ground_foxY, z0_ground_seat, z0_ground_strength, z0_ground_debts, z0_ground_near, .int v0_ground_forms, z0_ground_hares, z0_ground_foxes, z0_ground_safe]))] := hD
    obtain ⟨sa9, hsa9⟩ := hY.2.2.2.2.1 _ (List.mem_of_getElem? (i := 0) rfl)
    exact ux_throwSW hx hb hY.1 (own := RX10) (cls := "java/util/NoSuchElementException") (names := ["java/lang/RuntimeException", "java/lang/Exception"]) (ik := 264) (is := 401) (ic := 268) (rx := ux_rx) (by decide +kernel) (by decide +kernel) (by decide +kernel) (by decide +kernel) hown (by decide +kernel) (by decide +kernel) (hts _ uw_X10_needForm_cl264) (hts _ uw_X10_needForm_ini264) hsa9 (vx_hat (fun w hw9 => hts w (uh_X10_needForm_268 w hw9)) ub_X10_needForm_268 (xB_use hY.2.2.2.1)) ug_X10_needForm_268 hY.2.1 hY.2.2.1 hS (by rw [hml]; exact hl.1) dX10_needForm_27 dX10_needForm_30 dX10_needForm_31 dX10_needForm_34 dX10_needForm_37 (fun x hx9 => (hXs.1 x hx9).elim) (Nat.le_of_ble_eq_true rfl) (Nat.le_of_ble_eq_true rfl) (Nat.le_of_ble_eq_true rfl) (Nat.le_of_ble_eq_true rfl) hlocks (fun t hal hsz9 hq9 => ⟨(x3), trivial, ⟨hw, hP.kept (fun k q hk9 => hq9 _ ((hP k q hk9).lt)), va_K.moved hal hK, hD⟩, xt_frame hS hsz9 hq9⟩) hS.2.2 (Nat.le_of_ble_eq_true rfl) (Nat.le_of_ble_eq_true rfl)
theorem ui_X4_setFacts_X4 : ∀ w ∈ u_ws RX4 TX4 5, w ∈ wsX4_setFacts := by decide +kernel
theorem uw_X4_setFacts_f21 : (.fieldLink RX4 21 "MarchHares$Law" "facts" "[I" : Cond) ∈ wsX4_setFacts := by decide +kernel
def wq_X4_setFacts  (f0_facts : Nat → Int32) (p1 : Int32) (p2 : Int32) (p3 : Int32) (p4 : Int32) (p5 : Int32) (Q : (Nat → Int32) → Prop) : Prop := ∀ f1 : Nat → Int32, f1 = upd f0_facts (0 : Int32).toNatClampNeg p1 → ∀ f2 : Nat → Int32, f2 = upd f1 (1 : Int32).toNatClampNeg p2 → ∀ f3 : Nat → Int32, f3 = upd f2 (2 : Int32).toNatClampNeg p3 → ∀ f4 : Nat → Int32, f4 = upd f3 (3 : Int32).toNatClampNeg p4 → ∀ f5 : Nat → Int32, f5 = upd f4 (4 : Int32).toNatClampNeg p5 → (Q f5)
set_option maxHeartbeats 4000000 in
set_option maxRecDepth 100000 in
theorem ck_X4_setFacts (l : Launch) (dC : Nat → ClassId) (dI : Nat → Nat → Nat) (cyB cyI cyJ cyP : ClassId) (a0 a0_facts : Nat) (sz : Nat) (z0_kinds : Value) (z0_values : Value) (z0_pile : Value) (z0_length : Value)  (f0_facts : Nat → Int32) (p1 : Int32) (p2 : Int32) (p3 : Int32) (p4 : Int32) (p5 : Int32) {Q : (Nat → Int32) → Prop} (hw : wq_X4_setFacts  f0_facts p1 p2 p3 p4 p5 Q) : Met l yX4_setFacts wsX4_setFacts ({ frames := 0, cells := 0, slots := 0, locals := 0 }) (va_Pc [.ref a0, .int p1, .int p2, .int p3, .int p4, .int p5] (cPc (dC, dI) (kT cyB cyI cyJ cyP) [(a0, .inr (4, [z0_kinds, z0_values, z0_pile, .ref a0_facts, z0_length])), (a0_facts, .inl (cyI, 8, .inl f0_facts))] sz)) (va_Qv (fun (u : (Nat → Int32)) => Q u) (cB (dC, dI) (kT cyB cyI cyJ cyP) (va_A [(a0, .inr (4, [z0_kinds, z0_values, z0_pile, .ref a0_facts, z0_length])), (a0_facts, .inl (cyI, 8, .inl f0_facts))] sz) (fun u : (Nat → Int32) => ([(a0, .inr (4, [z0_kinds, z0_values, z0_pile, .ref a0_facts, z0_length])), (a0_facts, .inl (cyI, 8, .inl u))] : va_W))) (va_A [(a0, .inr (4, [z0_kinds, z0_values, z0_pile, .ref a0_facts, z0_length])), (a0_facts, .inl (cyI, 8, .inl f0_facts))] sz)) 0 0 (va_A [(a0, .inr (4, [z0_kinds, z0_values, z0_pile, .ref a0_facts, z0_length])), (a0_facts, .inl (cyI, 8, .inl f0_facts))] sz) := by
  refine Met.ofW (cc := cX4_setFacts) (maxL := 6) (ret := none) (by decide) rfl ?_
  intro p e s m args below meth c s₁ B hml hv
  obtain ⟨rfl, hsz, hP, hK, hD0, hNw⟩ := hv
  have hx := B.exec
  have hb := B.bytes
  have hr := B.returns
  have hts := atoms_spec (ws := wsX4_setFacts) B.pre
  have hown : s.vm.findClass RX4 = some m.cls := findClass_of_methodNamed B.named
  have hlocks := B.notSynchronized
  subst hsz
  have hD := hD0.self (sz := s.heap.size)
  generalize hAe : va_A [(a0, .inr (4, [z0_kinds, z0_values, z0_pile, .ref a0_facts, z0_length])), (a0_facts, .inl (cyI, 8, .inl f0_facts))] s.heap.size = A at hD ⊢
  have hA : ∀ q : Nat, s.heap.size ≤ q → A q := fun q h => by rw [← hAe]; exact Or.inr h
  have hS : va_S A s.heap s.heap [] := va_S.rf
  have hP : va_P (dC, dI) vwCl [(a0, .inr (4, [z0_kinds, z0_values, z0_pile, .ref a0_facts, z0_length])), (a0_facts, .inl (cyI, 8, .inl f0_facts))] s.heap := hP
  have hl := lv_entry ([.ref a0, .int p1, .int p2, .int p3, .int p4, .int p5]) (n := 6) (Nat.le_of_ble_eq_true rfl)
  rw [lg_entry_eq]
  generalize (lg_sl ([.ref a0, .int p1, .int p2, .int p3, .int p4, .int p5]) ++ List.replicate (6 - (lg_sl ([.ref a0, .int p1, .int p2, .int p3, .int p4, .int p5])).length) Slot.unset).toArray = ls at hl ⊢
  have hl : lv_has ls 6 [(0, .ref a0), (1, .int p1), (2, .int p2), (3, .int p3), (4, .int p4), (5, .int p5)] := hl
  have C0 : cfx p s m _ meth c cX4_setFacts none wsX4_setFacts RX4 6 A (dC, dI) (kT cyB cyI cyJ cyP) := ⟨hx, hb, hr, hts, hown, hlocks, hml, hA, hK, hNw⟩
  clear hAe
  obtain ⟨H, hH⟩ : ∃ H, H = s.heap := ⟨_, rfl⟩
  rw [← hH] at hP ⊢
  have hS : va_S A s.heap H [] := by rw [hH]; exact va_S.rf
  have hS := hS
  refine lv_aload_n hx hb dX4_setFacts_0 rfl (lv_at hl 0 rfl) ?_
  refine va_get (D := (dC, dI)) (ci := 4) (v := .ref a0_facts) (C := RX4) (T := TX4) (N := 5) hx hb hts ui_X4_setFacts_X4 hown hK hP 0 rfl rfl 3 (by decide) (hts _ uw_X4_setFacts_f21) (fun _ h9 => h9) rfl dX4_setFacts_1 ?_
  refine lv_iconst (v := 0) hx hb dX4_setFacts_4 (by decide) ?_
  refine lv_iload_n hx hb dX4_setFacts_5 rfl (lv_at hl 1 rfl) ?_
  refine va_iast hx hb hK hP hD hS 1 1 rfl rfl (vin (by decide)) dX4_setFacts_6 (fun H locs hP hD hS => ?_)
  obtain ⟨f1, ef1⟩ : ∃ y : Nat → Int32, y = upd f0_facts (0 : Int32).toNatClampNeg p1 := ⟨_, rfl⟩
  have hw := hw f1 ef1
  have hP : va_P (dC, dI) vwCl [(a0, .inr (4, [z0_kinds, z0_values, z0_pile, .ref a0_facts, z0_length])), (a0_facts, .inl (cyI, 8, .inl f1))] H := by rw [ef1]; exact hP
  have hD : va_D A [(a0, .inr (4, [z0_kinds, z0_values, z0_pile, .ref a0_facts, z0_length])), (a0_facts, .inl (cyI, 8, .inl f1))] := by rw [ef1]; exact hD
  refine lv_aload_n hx hb dX4_setFacts_7 rfl (lv_at hl 0 rfl) ?_
  refine va_get (D := (dC, dI)) (ci := 4) (v := .ref a0_facts) (C := RX4) (T := TX4) (N := 5) hx hb hts ui_X4_setFacts_X4 hown hK hP 0 rfl rfl 3 (by decide) (hts _ uw_X4_setFacts_f21) (fun _ h9 => h9) rfl dX4_setFacts_8 ?_
  refine lv_iconst (v := 1) hx hb dX4_setFacts_11 (by decide) ?_
  refine lv_iload_n hx hb dX4_setFacts_12 rfl (lv_at hl 2 rfl) ?_
  refine va_iast hx hb hK hP hD hS 1 1 rfl rfl (vin (by decide)) dX4_setFacts_13 (fun H locs hP hD hS => ?_)
  obtain ⟨f2, ef2⟩ : ∃ y : Nat → Int32, y = upd f1 (1 : Int32).toNatClampNeg p2 := ⟨_, rfl⟩
  have hw := hw f2 ef2
  have hP : va_P (dC, dI) vwCl [(a0, .inr (4, [z0_kinds, z0_values, z0_pile, .ref a0_facts, z0_length])), (a0_facts, .inl (cyI, 8, .inl f2))] H := by rw [ef2]; exact hP
  have hD : va_D A [(a0, .inr (4, [z0_kinds, z0_values, z0_pile, .ref a0_facts, z0_length])), (a0_facts, .inl (cyI, 8, .inl f2))] := by rw [ef2]; exact hD
  refine lv_aload_n hx hb dX4_setFacts_14 rfl (lv_at hl 0 rfl) ?_
  refine va_get (D := (dC, dI)) (ci := 4) (v := .ref a0_facts) (C := RX4) (T := TX4) (N := 5) hx hb hts ui_X4_setFacts_X4 hown hK hP 0 rfl rfl 3 (by decide) (hts _ uw_X4_setFacts_f21) (fun _ h9 => h9) rfl dX4_setFacts_15 ?_
  refine lv_iconst (v := 2) hx hb dX4_setFacts_18 (by decide) ?_
  refine lv_iload_n hx hb dX4_setFacts_19 rfl (lv_at hl 3 rfl) ?_
  refine va_iast hx hb hK hP hD hS 1 1 rfl rfl (vin (by decide)) dX4_setFacts_20 (fun H locs hP hD hS => ?_)
  obtain ⟨f3, ef3⟩ : ∃ y : Nat → Int32, y = upd f2 (2 : Int32).toNatClampNeg p3 := ⟨_, rfl⟩
  have hw := hw f3 ef3
  have hP : va_P (dC, dI) vwCl [(a0, .inr (4, [z0_kinds, z0_values, z0_pile, .ref a0_facts, z0_length])), (a0_facts, .inl (cyI, 8, .inl f3))] H := by rw [ef3]; exact hP
  have hD : va_D A [(a0, .inr (4, [z0_kinds, z0_values, z0_pile, .ref a0_facts, z0_length])), (a0_facts, .inl (cyI, 8, .inl f3))] := by rw [ef3]; exact hD
  refine lv_aload_n hx hb dX4_setFacts_21 rfl (lv_at hl 0 rfl) ?_
  refine va_get (D := (dC, dI)) (ci := 4) (v := .ref a0_facts) (C := RX4) (T := TX4) (N := 5) hx hb hts ui_X4_setFacts_X4 hown hK hP 0 rfl rfl 3 (by decide) (hts _ uw_X4_setFacts_f21) (fun _ h9 => h9) rfl dX4_setFacts_22 ?_
  refine lv_iconst (v := 3) hx hb dX4_setFacts_25 (by decide) ?_
  refine lv_iload hx hb dX4_setFacts_26 (lv_at hl 4 rfl) ?_
  refine va_iast hx hb hK hP hD hS 1 1 rfl rfl (vin (by decide)) dX4_setFacts_28 (fun H locs hP hD hS => ?_)
  obtain ⟨f4, ef4⟩ : ∃ y : Nat → Int32, y = upd f3 (3 : Int32).toNatClampNeg p4 := ⟨_, rfl⟩
  have hw := hw f4 ef4
  have hP : va_P (dC, dI) vwCl [(a0, .inr (4, [z0_kinds, z0_values, z0_pile, .ref a0_facts, z0_length])), (a0_facts, .inl (cyI, 8, .inl f4))] H := by rw [ef4]; exact hP
  have hD : va_D A [(a0, .inr (4, [z0_kinds, z0_values, z0_pile, .ref a0_facts, z0_length])), (a0_facts, .inl (cyI, 8, .inl f4))] := by rw [ef4]; exact hD
  refine lv_aload_n hx hb dX4_setFacts_29 rfl (lv_at hl 0 rfl) ?_
  refine va_get (D := (dC, dI)) (ci := 4) (v := .ref a0_facts) (C := RX4) (T := TX4) (N := 5) hx hb hts ui_X4_setFacts_X4 hown hK hP 0 rfl rfl 3 (by decide) (hts _ uw_X4_setFacts_f21) (fun _ h9 => h9) rfl dX4_setFacts_30 ?_
  refine lv_iconst (v := 4) hx hb dX4_setFacts_33 (by decide) ?_
  refine lv_iload hx hb dX4_setFacts_34 (lv_at hl 5 rfl) ?_
  refine va_iast hx hb hK hP hD hS 1 1 rfl rfl (vin (by decide)) dX4_setFacts_36 (fun H locs hP hD hS => ?_)
  obtain ⟨f5, ef5⟩ : ∃ y : Nat → Int32, y = upd f4 (4 : Int32).toNatClampNeg p5 := ⟨_, rfl⟩
  have hw := hw f5 ef5
  have hP : va_P (dC, dI) vwCl [(a0, .inr (4, [z0_kinds, z0_values, z0_pile, .ref a0_facts, z0_length])), (a0_facts, .inl (cyI, 8, .inl f5))] H := by rw [ef5]; exact hP
  have hD : va_D A [(a0, .inr (4, [z0_kinds, z0_values, z0_pile, .ref a0_facts, z0_length])), (a0_facts, .inl (cyI, 8, .inl f5))] := by rw [ef5]; exact hD
  exact ((W.vret hx hb hr (fun t ht hW => ⟨⟨(f5), rfl, hw, by rw [ht]; exact hP, va_K.moved hW.alike hK, hD⟩, hS.F ht⟩) hS.2.2 dX4_setFacts_37))
theorem ui_X4_setTimes_X4 : ∀ w ∈ u_ws RX4 TX4 5, w ∈ wsX4_setTimes := by decide +kernel
theorem uw_X4_setTimes_f21 : (.fieldLink RX4 21 "MarchHares$Law" "facts" "[I" : Cond) ∈ wsX4_setTimes := by decide +kernel
def wq_X4_setTimes  (f0_facts : Nat → Int32) (p1 : Int32) (p2 : Int32) (p3 : Int32) (Q : (Nat → Int32) → Prop) : Prop := ∀ f1 : Nat → Int32, f1 = upd f0_facts (5 : Int32).toNatClampNeg p1 → ∀ f2 : Nat → Int32, f2 = upd f1 (6 : Int32).toNatClampNeg p2 → ∀ f3 : Nat → Int32, f3 = upd f2 (7 : Int32).toNatClampNeg p3 → (Q f3)
set_option maxHeartbeats 4000000 in
set_option maxRecDepth 100000 in
theorem ck_X4_setTimes (l : Launch) (dC : Nat → ClassId) (dI : Nat → Nat → Nat) (cyB cyI cyJ cyP : ClassId) (a0 a0_facts : Nat) (sz : Nat) (z0_kinds : Value) (z0_values : Value) (z0_pile : Value) (z0_length : Value)  (f0_facts : Nat → Int32) (p1 : Int32) (p2 : Int32) (p3 : Int32) {Q : (Nat → Int32) → Prop} (hw : wq_X4_setTimes  f0_facts p1 p2 p3 Q) : Met l yX4_setTimes wsX4_setTimes ({ frames := 0, cells := 0, slots := 0, locals := 0 }) (va_Pc [.ref a0, .int p1, .int p2, .int p3] (cPc (dC, dI) (kT cyB cyI cyJ cyP) [(a0, .inr (4, [z0_kinds, z0_values, z0_pile, .ref a0_facts, z0_length])), (a0_facts, .inl (cyI, 8, .inl f0_facts))] sz)) (va_Qv (fun (u : (Nat → Int32)) => Q u) (cB (dC, dI) (kT cyB cyI cyJ cyP) (va_A [(a0, .inr (4, [z0_kinds, z0_values, z0_pile, .ref a0_facts, z0_length])), (a0_facts, .inl (cyI, 8, .inl f0_facts))] sz) (fun u : (Nat → Int32) => ([(a0, .inr (4, [z0_kinds, z0_values, z0_pile, .ref a0_facts, z0_length])), (a0_facts, .inl (cyI, 8, .inl u))] : va_W))) (va_A [(a0, .inr (4, [z0_kinds, z0_values, z0_pile, .ref a0_facts, z0_length])), (a0_facts, .inl (cyI, 8, .inl f0_facts))] sz)) 0 0 (va_A [(a0, .inr (4, [z0_kinds, z0_values, z0_pile, .ref a0_facts, z0_length])), (a0_facts, .inl (cyI, 8, .inl f0_facts))] sz) := by
  refine Met.ofW (cc := cX4_setTimes) (maxL := 4) (ret := none) (by decide) rfl ?_
  intro p e s m args below meth c s₁ B hml hv
  obtain ⟨rfl, hsz, hP, hK, hD0, hNw⟩ := hv
  have hx := B.exec
  have hb := B.bytes
  have hr := B.returns
  have hts := atoms_spec (ws := wsX4_setTimes) B.pre
  have hown : s.vm.findClass RX4 = some m.cls := findClass_of_methodNamed B.named
  have hlocks := B.notSynchronized
  subst hsz
  have hD := hD0.self (sz := s.heap.size)
  generalize hAe : va_A [(a0, .inr (4, [z0_kinds, z0_values, z0_pile, .ref a0_facts, z0_length])), (a0_facts, .inl (cyI, 8, .inl f0_facts))] s.heap.size = A at hD ⊢
  have hA : ∀ q : Nat, s.heap.size ≤ q → A q := fun q h => by rw [← hAe]; exact Or.inr h
  have hS : va_S A s.heap s.heap [] := va_S.rf
  have hP : va_P (dC, dI) vwCl [(a0, .inr (4, [z0_kinds, z0_values, z0_pile, .ref a0_facts, z0_length])), (a0_facts, .inl (cyI, 8, .inl f0_facts))] s.heap := hP
  have hl := lv_entry ([.ref a0, .int p1, .int p2, .int p3]) (n := 4) (Nat.le_of_ble_eq_true rfl)
  rw [lg_entry_eq]
  generalize (lg_sl ([.ref a0, .int p1, .int p2, .int p3]) ++ List.replicate (4 - (lg_sl ([.ref a0, .int p1, .int p2, .int p3])).length) Slot.unset).toArray = ls at hl ⊢
  have hl : lv_has ls 4 [(0, .ref a0), (1, .int p1), (2, .int p2), (3, .int p3)] := hl
  have C0 : cfx p s m _ meth c cX4_setTimes none wsX4_setTimes RX4 4 A (dC, dI) (kT cyB cyI cyJ cyP) := ⟨hx, hb, hr, hts, hown, hlocks, hml, hA, hK, hNw⟩
  clear hAe
  obtain ⟨H, hH⟩ : ∃ H, H = s.heap := ⟨_, rfl⟩
  rw [← hH] at hP ⊢
  have hS : va_S A s.heap H [] := by rw [hH]; exact va_S.rf
  have hS := hS
  refine lv_aload_n hx hb dX4_setTimes_0 rfl (lv_at hl 0 rfl) ?_
  refine va_get (D := (dC, dI)) (ci := 4) (v := .ref a0_facts) (C := RX4) (T := TX4) (N := 5) hx hb hts ui_X4_setTimes_X4 hown hK hP 0 rfl rfl 3 (by decide) (hts _ uw_X4_setTimes_f21) (fun _ h9 => h9) rfl dX4_setTimes_1 ?_
  refine lv_iconst (v := 5) hx hb dX4_setTimes_4 (by decide) ?_
  refine lv_iload_n hx hb dX4_setTimes_5 rfl (lv_at hl 1 rfl) ?_
  refine va_iast hx hb hK hP hD hS 1 1 rfl rfl (vin (by decide)) dX4_setTimes_6 (fun H locs hP hD hS => ?_)
  obtain ⟨f1, ef1⟩ : ∃ y : Nat → Int32, y = upd f0_facts (5 : Int32).toNatClampNeg p1 := ⟨_, rfl⟩
  have hw := hw f1 ef1
  have hP : va_P (dC, dI) vwCl [(a0, .inr (4, [z0_kinds, z0_values, z0_pile, .ref a0_facts, z0_length])), (a0_facts, .inl (cyI, 8, .inl f1))] H := by rw [ef1]; exact hP
  have hD : va_D A [(a0, .inr (4, [z0_kinds, z0_values, z0_pile, .ref a0_facts, z0_length])), (a0_facts, .inl (cyI, 8, .inl f1))] := by rw [ef1]; exact hD
  refine lv_aload_n hx hb dX4_setTimes_7 rfl (lv_at hl 0 rfl) ?_
  refine va_get (D := (dC, dI)) (ci := 4) (v := .ref a0_facts) (C := RX4) (T := TX4) (N := 5) hx hb hts ui_X4_setTimes_X4 hown hK hP 0 rfl rfl 3 (by decide) (hts _ uw_X4_setTimes_f21) (fun _ h9 => h9) rfl dX4_setTimes_8 ?_
  refine lv_bipush (v := 6) hx hb dX4_setTimes_11 (by decide) ?_
  refine lv_iload_n hx hb dX4_setTimes_13 rfl (lv_at hl 2 rfl) ?_
  refine va_iast hx hb hK hP hD hS 1 1 rfl rfl (vin (by decide)) dX4_setTimes_14 (fun H locs hP hD hS => ?_)
  obtain ⟨f2, ef2⟩ : ∃ y : Nat → Int32, y = upd f1 (6 : Int32).toNatClampNeg p2 := ⟨_, rfl⟩
  have hw := hw f2 ef2
  have hP : va_P (dC, dI) vwCl [(a0, .inr (4, [z0_kinds, z0_values, z0_pile, .ref a0_facts, z0_length])), (a0_facts, .inl (cyI, 8, .inl f2))] H := by rw [ef2]; exact hP
  have hD : va_D A [(a0, .inr (4, [z0_kinds, z0_values, z0_pile, .ref a0_facts, z0_length])), (a0_facts, .inl (cyI, 8, .inl f2))] := by rw [ef2]; exact hD
  refine lv_aload_n hx hb dX4_setTimes_15 rfl (lv_at hl 0 rfl) ?_
  refine va_get (D := (dC, dI)) (ci := 4) (v := .ref a0_facts) (C := RX4) (T := TX4) (N := 5) hx hb hts ui_X4_setTimes_X4 hown hK hP 0 rfl rfl 3 (by decide) (hts _ uw_X4_setTimes_f21) (fun _ h9 => h9) rfl dX4_setTimes_16 ?_
  refine lv_bipush (v := 7) hx hb dX4_setTimes_19 (by decide) ?_
  refine lv_iload_n hx hb dX4_setTimes_21 rfl (lv_at hl 3 rfl) ?_
  refine va_iast hx hb hK hP hD hS 1 1 rfl rfl (vin (by decide)) dX4_setTimes_22 (fun H locs hP hD hS => ?_)
  obtain ⟨f3, ef3⟩ : ∃ y : Nat → Int32, y = upd f2 (7 : Int32).toNatClampNeg p3 := ⟨_, rfl⟩
  have hw := hw f3 ef3
  have hP : va_P (dC, dI) vwCl [(a0, .inr (4, [z0_kinds, z0_values, z0_pile, .ref a0_facts, z0_length])), (a0_facts, .inl (cyI, 8, .inl f3))] H := by rw [ef3]; exact hP
  have hD : va_D A [(a0, .inr (4, [z0_kinds, z0_values, z0_pile, .ref a0_facts, z0_length])), (a0_facts, .inl (cyI, 8, .inl f3))] := by rw [ef3]; exact hD
  exact ((W.vret hx hb hr (fun t ht hW => ⟨⟨(f3), rfl, hw, by rw [ht]; exact hP, va_K.moved hW.alike hK, hD⟩, hS.F ht⟩) hS.2.2 dX4_setTimes_23))
theorem tsw_2_7 {x : Int32} (h : ¬ (x.toInt < 2 ∨ 7 < x.toInt)) : x = 2 ∨ x = 3 ∨ x = 4 ∨ x = 5 ∨ x = 6 ∨ x = 7 := by
  obtain ⟨j, hj, e⟩ := nI_of (x := x) (fun h0 => h (Or.inl (Int.lt_of_lt_of_le (by simpa using (Int32.lt_iff_toInt_lt.mp h0)) (by decide : (0 : Int) ≤ 2))))
  have h2 : (j : Int) ≤ 7 ∧ 2 ≤ (j : Int) := by
    have := nI_toInt hj
    rw [e] at h
    omega
  have h3 : j = 2 ∨ j = 3 ∨ j = 4 ∨ j = 5 ∨ j = 6 ∨ j = 7 := by omega
  rw [e]
  rcases h3 with rfl | rfl | rfl | rfl | rfl | rfl <;> decide
def wq_X4_joined   (p0 : Int32) (p1 : Int32) (p2 : Int32) (Q : Int32 → Prop) : Prop := (((p0.toInt < 2 ∨ 7 < p0.toInt) → False) ∧ (p0 = 2 → (Q (p1 + p2))) ∧ (p0 = 3 → (Q (p1 - p2))) ∧ (p0 = 4 → False) ∧ (p0 = 5 → False) ∧ (p0 = 6 → False) ∧ (p0 = 7 → False))
set_option maxHeartbeats 4000000 in
set_option maxRecDepth 100000 in
theorem ck_X4_joined (l : Launch) (dC : Nat → ClassId) (dI : Nat → Nat → Nat) (cyB cyI cyJ cyP : ClassId) (sz : Nat)    (p0 : Int32) (p1 : Int32) (p2 : Int32) {Q : Int32 → Prop} (hw : wq_X4_joined   p0 p1 p2 Q) : Met l yX4_joined wsX4_joined ({ frames := 0, cells := 0, slots := 0, locals := 0 }) (va_Pc [.int p0, .int p1, .int p2] (cPc (dC, dI) (kT cyB cyI cyJ cyP) [] sz)) (va_Qi (fun (r : Int32) (_ : Unit) => Q r ) (cB (dC, dI) (kT cyB cyI cyJ cyP) (va_A [] sz) (fun u : Unit => ([] : va_W))) (va_A [] sz)) 0 0 (va_A [] sz) := by
  refine Met.ofW (cc := cX4_joined) (maxL := 3) (ret := (some .int)) (by decide) rfl ?_
  intro p e s m args below meth c s₁ B hml hv
  obtain ⟨rfl, hsz, hP, hK, hD0, hNw⟩ := hv
  have hx := B.exec
  have hb := B.bytes
  have hr := B.returns
  have hts := atoms_spec (ws := wsX4_joined) B.pre
  have hown : s.vm.findClass RX4 = some m.cls := findClass_of_methodNamed B.named
  have hlocks := B.notSynchronized
  subst hsz
  have hD := hD0.self (sz := s.heap.size)
  generalize hAe : va_A [] s.heap.size = A at hD ⊢
  have hA : ∀ q : Nat, s.heap.size ≤ q → A q := fun q h => by rw [← hAe]; exact Or.inr h
  have hS : va_S A s.heap s.heap [] := va_S.rf
  have hP : va_P (dC, dI) vwCl [] s.heap := hP
  have hl := lv_entry ([.int p0, .int p1, .int p2]) (n := 3) (Nat.le_of_ble_eq_true rfl)
  rw [lg_entry_eq]
  generalize (lg_sl ([.int p0, .int p1, .int p2]) ++ List.replicate (3 - (lg_sl ([.int p0, .int p1, .int p2])).length) Slot.unset).toArray = ls at hl ⊢
  have hl : lv_has ls 3 [(0, .int p0), (1, .int p1), (2, .int p2)] := hl
  have C0 : cfx p s m _ meth c cX4_joined (some .int) wsX4_joined RX4 3 A (dC, dI) (kT cyB cyI cyJ cyP) := ⟨hx, hb, hr, hts, hown, hlocks, hml, hA, hK, hNw⟩
  clear hAe
  obtain ⟨H, hH⟩ : ∃ H, H = s.heap := ⟨_, rfl⟩
  rw [← hH] at hP ⊢
  have hS : va_S A s.heap H [] := by rw [hH]; exact va_S.rf
  have hS := hS
  refine lv_iload_n hx hb dX4_joined_0 rfl (lv_at hl 0 rfl) ?_
  by_cases c1 : p0.toInt < 2 ∨ 7 < p0.toInt
  · have hw := hw.1 c1
    refine lv_tableOut (tgt := 87) hx hb dX4_joined_1 c1 (by decide) ?_
    exact False.elim hw
  · have hw := hw.2
    rcases tsw_2_7 c1 with c1 | c1 | c1 | c1 | c1 | c1
    · have hw := hw.1 c1
      refine lv_tableIn (tgt := 40) (off := 39) hx hb dX4_joined_1 (by rw [c1]; decide) (by rw [c1]; decide) (by rw [c1]; decide) (by decide) ?_
      refine lv_iload_n hx hb dX4_joined_40 rfl (lv_at hl 1 rfl) ?_
      refine lv_iload_n hx hb dX4_joined_41 rfl (lv_at hl 2 rfl) ?_
      refine lv_iadd hx hb dX4_joined_42 ?_
      exact ((W.iret (v := (p1 + p2)) hx hb hr (fun t ht hW => ⟨⟨(p1 + p2), (), rfl, hw, by rw [ht]; exact hP, va_K.moved hW.alike hK, hD⟩, hS.F ht⟩) hS.2.2 dX4_joined_43))
    · have hw := hw.2.1 c1
      refine lv_tableIn (tgt := 44) (off := 43) hx hb dX4_joined_1 (by rw [c1]; decide) (by rw [c1]; decide) (by rw [c1]; decide) (by decide) ?_
      refine lv_iload_n hx hb dX4_joined_44 rfl (lv_at hl 1 rfl) ?_
      refine lv_iload_n hx hb dX4_joined_45 rfl (lv_at hl 2 rfl) ?_
      refine lv_isub hx hb dX4_joined_46 ?_
      exact ((W.iret (v := (p1 - p2)) hx hb hr (fun t ht hW => ⟨⟨(p1 - p2), (), rfl, hw, by rw [ht]; exact hP, va_K.moved hW.alike hK, hD⟩, hS.F ht⟩) hS.2.2 dX4_joined_47))
    · have hw := hw.2.2.1 c1
      refine lv_tableIn (tgt := 48) (off := 47) hx hb dX4_joined_1 (by rw [c1]; decide) (by rw [c1]; decide) (by rw [c1]; decide) (by decide) ?_
      exact False.elim hw
    · have hw := hw.2.2.2.1 c1
      refine lv_tableIn (tgt := 52) (off := 51) hx hb dX4_joined_1 (by rw [c1]; decide) (by rw [c1]; decide) (by rw [c1]; decide) (by decide) ?_
      exact False.elim hw
    · have hw := hw.2.2.2.2.1 c1
      refine lv_tableIn (tgt := 64) (off := 63) hx hb dX4_joined_1 (by rw [c1]; decide) (by rw [c1]; decide) (by rw [c1]; decide) (by decide) ?_
      exact False.elim hw
    · have hw := hw.2.2.2.2.2 c1
      refine lv_tableIn (tgt := 76) (off := 75) hx hb dX4_joined_1 (by rw [c1]; decide) (by rw [c1]; decide) (by rw [c1]; decide) (by decide) ?_
      exact False.elim hw
theorem ui_X4_reach_X4 : ∀ w ∈ u_ws RX4 TX4 5, w ∈ wsX4_reach := by decide +kernel
theorem uw_X4_reach_f15 : (.fieldLink RX4 15 "MarchHares$Law" "values" "[I" : Cond) ∈ wsX4_reach := by decide +kernel
theorem uw_X4_reach_f18 : (.fieldLink RX4 18 "MarchHares$Law" "pile" "[I" : Cond) ∈ wsX4_reach := by decide +kernel
theorem uw_X4_reach_f21 : (.fieldLink RX4 21 "MarchHares$Law" "facts" "[I" : Cond) ∈ wsX4_reach := by decide +kernel
theorem uw_X4_reach_f27 : (.fieldLink RX4 27 "MarchHares$Law" "length" "I" : Cond) ∈ wsX4_reach := by decide +kernel
theorem uw_X4_reach_f9 : (.fieldLink RX4 9 "MarchHares$Law" "kinds" "[I" : Cond) ∈ wsX4_reach := by decide +kernel
theorem uw_X4_reach_inim : (.initialized "java/lang/Math" : Cond) ∈ wsX4_reach := by decide +kernel
theorem uw_X4_reach_m115 : (.methodLink RX4 115 Lib.Math.min.name : Cond) ∈ wsX4_reach := by decide +kernel
theorem uw_X4_reach_m120 : (.methodLink RX4 120 Lib.Math.max.name : Cond) ∈ wsX4_reach := by decide +kernel
theorem uw_X4_reach_mcmax : (.code Lib.Math.max.name Lib.Math.max.code 2 (some .int) : Cond) ∈ wsX4_reach := by decide +kernel
theorem uw_X4_reach_mcmin : (.code Lib.Math.min.name Lib.Math.min.code 2 (some .int) : Cond) ∈ wsX4_reach := by decide +kernel
theorem uw_X4_reach_msmax : (.static Lib.Math.max.name : Cond) ∈ wsX4_reach := by decide +kernel
theorem uw_X4_reach_msmin : (.static Lib.Math.min.name : Cond) ∈ wsX4_reach := by decide +kernel
def wb_X4_reach_98 (v0_length : Int32) (f0_kinds : Nat → Int32) (f0_values : Nat → Int32) (f0_facts : Nat → Int32) (Q : Int32 → (Nat → Int32) → Prop) (K4 : (Nat → Int32) → Int32 → Int32 → Prop) (f0_pile : Nat → Int32) (l1 : Int32) (l2 : Int32) : Prop := ∀ x21 : Int32, x21 = l2 + 1 → (K4 f0_pile l1 x21)
set_option maxHeartbeats 4000000 in
set_option maxRecDepth 100000 in
theorem kb_X4_reach_98 {p : Program} {l : Launch} {e : Env} {s : State} {m : MethodId} {args : Array Value} {below : List Frame} {meth : Method} {c : Code} {A : Nat → Prop} (dC : Nat → ClassId) (dI : Nat → Nat → Nat) (cyB cyI cyJ cyP : ClassId) (a0 a0_pile a0_kinds a0_facts a0_values : Nat)  (v0_length : Int32) (f0_kinds : Nat → Int32) (f0_values : Nat → Int32) (f0_facts : Nat → Int32) (Q : Int32 → (Nat → Int32) → Prop) (K4 : (Nat → Int32) → Int32 → Int32 → Prop) (hK4 : ∀ (H : Heap) (locs : List Loc) (ls : Array Slot) (f0_pile : Nat → Int32) (l1 : Int32) (l2 : Int32), va_P (dC, dI) vwCl [(a0, .inr (4, [.ref a0_kinds, .ref a0_values, .ref a0_pile, .ref a0_facts, .int v0_length])), (a0_pile, .inl (cyI, 150, .inl f0_pile)), (a0_kinds, .inl (cyI, 150, .inl f0_kinds)), (a0_values, .inl (cyI, 150, .inl f0_values)), (a0_facts, .inl (cyI, 8, .inl f0_facts))] H → va_D A [(a0, .inr (4, [.ref a0_kinds, .ref a0_values, .ref a0_pile, .ref a0_facts, .int v0_length])), (a0_pile, .inl (cyI, 150, .inl f0_pile)), (a0_kinds, .inl (cyI, 150, .inl f0_kinds)), (a0_values, .inl (cyI, 150, .inl f0_values)), (a0_facts, .inl (cyI, 8, .inl f0_facts))] → va_S A s.heap H locs → lv_has ls 4 [(0, .ref a0), (1, .int l1), (2, .int l2)] → K4 f0_pile l1 l2 → W p l e (headSpec wsX4_reach ({ frames := 1, cells := 0, slots := 0, locals := 32 })).room s m args below meth c H locs 0 0 (MQ below (va_Qi (fun (r : Int32) (u : (Nat → Int32)) => Q r u) (cB (dC, dI) (kT cyB cyI cyJ cyP) A (fun u : (Nat → Int32) => ([(a0, .inr (4, [.ref a0_kinds, .ref a0_values, .ref a0_pile, .ref a0_facts, .int v0_length])), (a0_pile, .inl (cyI, 150, .inl u)), (a0_kinds, .inl (cyI, 150, .inl f0_kinds)), (a0_values, .inl (cyI, 150, .inl f0_values)), (a0_facts, .inl (cyI, 8, .inl f0_facts))] : va_W))) A) args s 0 0 A) (F0 m 4 ls [])) (C0 : cfx p s m args meth c cX4_reach (some .int) wsX4_reach RX4 4 A (dC, dI) (kT cyB cyI cyJ cyP)) : ∀ (H : Heap) (locs : List Loc) (ls : Array Slot) (f0_pile : Nat → Int32) (l1 : Int32) (l2 : Int32), va_P (dC, dI) vwCl [(a0, .inr (4, [.ref a0_kinds, .ref a0_values, .ref a0_pile, .ref a0_facts, .int v0_length])), (a0_pile, .inl (cyI, 150, .inl f0_pile)), (a0_kinds, .inl (cyI, 150, .inl f0_kinds)), (a0_values, .inl (cyI, 150, .inl f0_values)), (a0_facts, .inl (cyI, 8, .inl f0_facts))] H → va_D A [(a0, .inr (4, [.ref a0_kinds, .ref a0_values, .ref a0_pile, .ref a0_facts, .int v0_length])), (a0_pile, .inl (cyI, 150, .inl f0_pile)), (a0_kinds, .inl (cyI, 150, .inl f0_kinds)), (a0_values, .inl (cyI, 150, .inl f0_values)), (a0_facts, .inl (cyI, 8, .inl f0_facts))] → va_S A s.heap H locs → lv_has ls 4 [(0, .ref a0), (1, .int l1), (2, .int l2)] → wb_X4_reach_98 v0_length f0_kinds f0_values f0_facts Q K4 f0_pile l1 l2 → W p l e (headSpec wsX4_reach ({ frames := 1, cells := 0, slots := 0, locals := 32 })).room s m args below meth c H locs 0 0 (MQ below (va_Qi (fun (r : Int32) (u : (Nat → Int32)) => Q r u) (cB (dC, dI) (kT cyB cyI cyJ cyP) A (fun u : (Nat → Int32) => ([(a0, .inr (4, [.ref a0_kinds, .ref a0_values, .ref a0_pile, .ref a0_facts, .int v0_length])), (a0_pile, .inl (cyI, 150, .inl u)), (a0_kinds, .inl (cyI, 150, .inl f0_kinds)), (a0_values, .inl (cyI, 150, .inl f0_values)), (a0_facts, .inl (cyI, 8, .inl f0_facts))] : va_W))) A) args s 0 0 A) (F0 m 98 ls []) := by
  obtain ⟨hx, hb, hr, hts, hown, hlocks, hml, hA, hK, hNw⟩ := id C0
  intro H locs ls f0_pile l1 l2 hP hD hS hl hw
  obtain ⟨x21, ex21⟩ : ∃ y : Int32, y = l2 + 1 := ⟨_, rfl⟩
  have hw := hw x21 ex21
  refine lv_iinc (v := x21) (lv' := [(2, .int x21), (0, .ref a0), (1, .int l1)]) hx hb dX4_reach_98 hl (k := 2) rfl (by rw [ex21]; rfl) (by decide) rfl (fun ls hl => ?_)
  refine lv_goto (tgt := 4) hx hb dX4_reach_101 (by decide) ?_
  exact hK4 _ _ _ f0_pile l1 x21 hP hD hS (lv_sub hl [1, 2, 0] rfl) hw
def wb_X4_reach_57 (v0_length : Int32) (f0_kinds : Nat → Int32) (f0_values : Nat → Int32) (f0_facts : Nat → Int32) (Q : Int32 → (Nat → Int32) → Prop) (K4 : (Nat → Int32) → Int32 → Int32 → Prop) (f0_pile : Nat → Int32) (l1 : Int32) (l2 : Int32) (s1 : Int32) (s2 : Int32) : Prop := vp_in s1 150 ∧ ∀ f22 : Nat → Int32, f22 = upd f0_pile s1.toNatClampNeg s2 → ∀ x23 : Int32, x23 = l1 + 1 → (wb_X4_reach_98 v0_length f0_kinds f0_values f0_facts Q K4 f22 x23 l2)
set_option maxHeartbeats 4000000 in
set_option maxRecDepth 100000 in
theorem kb_X4_reach_57 {p : Program} {l : Launch} {e : Env} {s : State} {m : MethodId} {args : Array Value} {below : List Frame} {meth : Method} {c : Code} {A : Nat → Prop} (dC : Nat → ClassId) (dI : Nat → Nat → Nat) (cyB cyI cyJ cyP : ClassId) (a0 a0_pile a0_kinds a0_facts a0_values : Nat)  (v0_length : Int32) (f0_kinds : Nat → Int32) (f0_values : Nat → Int32) (f0_facts : Nat → Int32) (Q : Int32 → (Nat → Int32) → Prop) (K4 : (Nat → Int32) → Int32 → Int32 → Prop) (hK4 : ∀ (H : Heap) (locs : List Loc) (ls : Array Slot) (f0_pile : Nat → Int32) (l1 : Int32) (l2 : Int32), va_P (dC, dI) vwCl [(a0, .inr (4, [.ref a0_kinds, .ref a0_values, .ref a0_pile, .ref a0_facts, .int v0_length])), (a0_pile, .inl (cyI, 150, .inl f0_pile)), (a0_kinds, .inl (cyI, 150, .inl f0_kinds)), (a0_values, .inl (cyI, 150, .inl f0_values)), (a0_facts, .inl (cyI, 8, .inl f0_facts))] H → va_D A [(a0, .inr (4, [.ref a0_kinds, .ref a0_values, .ref a0_pile, .ref a0_facts, .int v0_length])), (a0_pile, .inl (cyI, 150, .inl f0_pile)), (a0_kinds, .inl (cyI, 150, .inl f0_kinds)), (a0_values, .inl (cyI, 150, .inl f0_values)), (a0_facts, .inl (cyI, 8, .inl f0_facts))] → va_S A s.heap H locs → lv_has ls 4 [(0, .ref a0), (1, .int l1), (2, .int l2)] → K4 f0_pile l1 l2 → W p l e (headSpec wsX4_reach ({ frames := 1, cells := 0, slots := 0, locals := 32 })).room s m args below meth c H locs 0 0 (MQ below (va_Qi (fun (r : Int32) (u : (Nat → Int32)) => Q r u) (cB (dC, dI) (kT cyB cyI cyJ cyP) A (fun u : (Nat → Int32) => ([(a0, .inr (4, [.ref a0_kinds, .ref a0_values, .ref a0_pile, .ref a0_facts, .int v0_length])), (a0_pile, .inl (cyI, 150, .inl u)), (a0_kinds, .inl (cyI, 150, .inl f0_kinds)), (a0_values, .inl (cyI, 150, .inl f0_values)), (a0_facts, .inl (cyI, 8, .inl f0_facts))] : va_W))) A) args s 0 0 A) (F0 m 4 ls [])) (C0 : cfx p s m args meth c cX4_reach (some .int) wsX4_reach RX4 4 A (dC, dI) (kT cyB cyI cyJ cyP)) : ∀ (H : Heap) (locs : List Loc) (ls : Array Slot) (f0_pile : Nat → Int32) (l1 : Int32) (l2 : Int32) (s1 : Int32) (s2 : Int32), va_P (dC, dI) vwCl [(a0, .inr (4, [.ref a0_kinds, .ref a0_values, .ref a0_pile, .ref a0_facts, .int v0_length])), (a0_pile, .inl (cyI, 150, .inl f0_pile)), (a0_kinds, .inl (cyI, 150, .inl f0_kinds)), (a0_values, .inl (cyI, 150, .inl f0_values)), (a0_facts, .inl (cyI, 8, .inl f0_facts))] H → va_D A [(a0, .inr (4, [.ref a0_kinds, .ref a0_values, .ref a0_pile, .ref a0_facts, .int v0_length])), (a0_pile, .inl (cyI, 150, .inl f0_pile)), (a0_kinds, .inl (cyI, 150, .inl f0_kinds)), (a0_values, .inl (cyI, 150, .inl f0_values)), (a0_facts, .inl (cyI, 8, .inl f0_facts))] → va_S A s.heap H locs → lv_has ls 4 [(0, .ref a0), (1, .int l1), (2, .int l2)] → wb_X4_reach_57 v0_length f0_kinds f0_values f0_facts Q K4 f0_pile l1 l2 s1 s2 → W p l e (headSpec wsX4_reach ({ frames := 1, cells := 0, slots := 0, locals := 32 })).room s m args below meth c H locs 0 0 (MQ below (va_Qi (fun (r : Int32) (u : (Nat → Int32)) => Q r u) (cB (dC, dI) (kT cyB cyI cyJ cyP) A (fun u : (Nat → Int32) => ([(a0, .inr (4, [.ref a0_kinds, .ref a0_values, .ref a0_pile, .ref a0_facts, .int v0_length])), (a0_pile, .inl (cyI, 150, .inl u)), (a0_kinds, .inl (cyI, 150, .inl f0_kinds)), (a0_values, .inl (cyI, 150, .inl f0_values)), (a0_facts, .inl (cyI, 8, .inl f0_facts))] : va_W))) A) args s 0 0 A) (F0 m 57 ls [.int s2, .int s1, .ref a0_pile]) := by
  obtain ⟨hx, hb, hr, hts, hown, hlocks, hml, hA, hK, hNw⟩ := id C0
  intro H locs ls f0_pile l1 l2 s1 s2 hP hD hS hl hw
  obtain ⟨hi9, hw⟩ := hw
  refine va_iast hx hb hK hP hD hS 1 1 rfl rfl hi9 dX4_reach_57 (fun H locs hP hD hS => ?_)
  obtain ⟨f22, ef22⟩ : ∃ y : Nat → Int32, y = upd f0_pile s1.toNatClampNeg s2 := ⟨_, rfl⟩
  have hw := hw f22 ef22
  have hP : va_P (dC, dI) vwCl [(a0, .inr (4, [.ref a0_kinds, .ref a0_values, .ref a0_pile, .ref a0_facts, .int v0_length])), (a0_pile, .inl (cyI, 150, .inl f22)), (a0_kinds, .inl (cyI, 150, .inl f0_kinds)), (a0_values, .inl (cyI, 150, .inl f0_values)), (a0_facts, .inl (cyI, 8, .inl f0_facts))] H := by rw [ef22]; exact hP
  have hD : va_D A [(a0, .inr (4, [.ref a0_kinds, .ref a0_values, .ref a0_pile, .ref a0_facts, .int v0_length])), (a0_pile, .inl (cyI, 150, .inl f22)), (a0_kinds, .inl (cyI, 150, .inl f0_kinds)), (a0_values, .inl (cyI, 150, .inl f0_values)), (a0_facts, .inl (cyI, 8, .inl f0_facts))] := by rw [ef22]; exact hD
  obtain ⟨x23, ex23⟩ : ∃ y : Int32, y = l1 + 1 := ⟨_, rfl⟩
  have hw := hw x23 ex23
  refine lv_iinc (v := x23) (lv' := [(1, .int x23), (0, .ref a0), (2, .int l2)]) hx hb dX4_reach_58 hl (k := 1) rfl (by rw [ex23]; rfl) (by decide) rfl (fun ls hl => ?_)
  refine lv_goto (tgt := 98) hx hb dX4_reach_61 (by decide) ?_
  exact kb_X4_reach_98 dC dI cyB cyI cyJ cyP a0 a0_pile a0_kinds a0_facts a0_values  v0_length f0_kinds f0_values f0_facts Q K4 hK4 C0 _ _ _ f22 x23 l2 hP hD hS (lv_sub hl [1, 0, 2] rfl) hw
def wb_X4_reach_28 (v0_length : Int32) (f0_kinds : Nat → Int32) (f0_values : Nat → Int32) (f0_facts : Nat → Int32) (Q : Int32 → (Nat → Int32) → Prop) (K4 : (Nat → Int32) → Int32 → Int32 → Prop) (f0_pile : Nat → Int32) (l1 : Int32) (l2 : Int32) (l3 : Int32) : Prop := ((¬ l3 = 0 → vp_in l2 150 ∧ ∀ x18 : Int32, x18 = f0_values l2.toNatClampNeg → vp_in x18 8 ∧ ∀ x19 : Int32, x19 = f0_facts x18.toNatClampNeg → (wb_X4_reach_57 v0_length f0_kinds f0_values f0_facts Q K4 f0_pile l1 l2 l1 x19)) ∧ (l3 = 0 → vp_in l2 150 ∧ ∀ x20 : Int32, x20 = f0_values l2.toNatClampNeg → (wb_X4_reach_57 v0_length f0_kinds f0_values f0_facts Q K4 f0_pile l1 l2 l1 x20)))
set_option maxHeartbeats 4000000 in
set_option maxRecDepth 100000 in
theorem kb_X4_reach_28 {p : Program} {l : Launch} {e : Env} {s : State} {m : MethodId} {args : Array Value} {below : List Frame} {meth : Method} {c : Code} {A : Nat → Prop} (dC : Nat → ClassId) (dI : Nat → Nat → Nat) (cyB cyI cyJ cyP : ClassId) (a0 a0_pile a0_kinds a0_facts a0_values : Nat)  (v0_length : Int32) (f0_kinds : Nat → Int32) (f0_values : Nat → Int32) (f0_facts : Nat → Int32) (Q : Int32 → (Nat → Int32) → Prop) (K4 : (Nat → Int32) → Int32 → Int32 → Prop) (hK4 : ∀ (H : Heap) (locs : List Loc) (ls : Array Slot) (f0_pile : Nat → Int32) (l1 : Int32) (l2 : Int32), va_P (dC, dI) vwCl [(a0, .inr (4, [.ref a0_kinds, .ref a0_values, .ref a0_pile, .ref a0_facts, .int v0_length])), (a0_pile, .inl (cyI, 150, .inl f0_pile)), (a0_kinds, .inl (cyI, 150, .inl f0_kinds)), (a0_values, .inl (cyI, 150, .inl f0_values)), (a0_facts, .inl (cyI, 8, .inl f0_facts))] H → va_D A [(a0, .inr (4, [.ref a0_kinds, .ref a0_values, .ref a0_pile, .ref a0_facts, .int v0_length])), (a0_pile, .inl (cyI, 150, .inl f0_pile)), (a0_kinds, .inl (cyI, 150, .inl f0_kinds)), (a0_values, .inl (cyI, 150, .inl f0_values)), (a0_facts, .inl (cyI, 8, .inl f0_facts))] → va_S A s.heap H locs → lv_has ls 4 [(0, .ref a0), (1, .int l1), (2, .int l2)] → K4 f0_pile l1 l2 → W p l e (headSpec wsX4_reach ({ frames := 1, cells := 0, slots := 0, locals := 32 })).room s m args below meth c H locs 0 0 (MQ below (va_Qi (fun (r : Int32) (u : (Nat → Int32)) => Q r u) (cB (dC, dI) (kT cyB cyI cyJ cyP) A (fun u : (Nat → Int32) => ([(a0, .inr (4, [.ref a0_kinds, .ref a0_values, .ref a0_pile, .ref a0_facts, .int v0_length])), (a0_pile, .inl (cyI, 150, .inl u)), (a0_kinds, .inl (cyI, 150, .inl f0_kinds)), (a0_values, .inl (cyI, 150, .inl f0_values)), (a0_facts, .inl (cyI, 8, .inl f0_facts))] : va_W))) A) args s 0 0 A) (F0 m 4 ls [])) (C0 : cfx p s m args meth c cX4_reach (some .int) wsX4_reach RX4 4 A (dC, dI) (kT cyB cyI cyJ cyP)) : ∀ (H : Heap) (locs : List Loc) (ls : Array Slot) (f0_pile : Nat → Int32) (l1 : Int32) (l2 : Int32) (l3 : Int32), va_P (dC, dI) vwCl [(a0, .inr (4, [.ref a0_kinds, .ref a0_values, .ref a0_pile, .ref a0_facts, .int v0_length])), (a0_pile, .inl (cyI, 150, .inl f0_pile)), (a0_kinds, .inl (cyI, 150, .inl f0_kinds)), (a0_values, .inl (cyI, 150, .inl f0_values)), (a0_facts, .inl (cyI, 8, .inl f0_facts))] H → va_D A [(a0, .inr (4, [.ref a0_kinds, .ref a0_values, .ref a0_pile, .ref a0_facts, .int v0_length])), (a0_pile, .inl (cyI, 150, .inl f0_pile)), (a0_kinds, .inl (cyI, 150, .inl f0_kinds)), (a0_values, .inl (cyI, 150, .inl f0_values)), (a0_facts, .inl (cyI, 8, .inl f0_facts))] → va_S A s.heap H locs → lv_has ls 4 [(0, .ref a0), (1, .int l1), (2, .int l2), (3, .int l3)] → wb_X4_reach_28 v0_length f0_kinds f0_values f0_facts Q K4 f0_pile l1 l2 l3 → W p l e (headSpec wsX4_reach ({ frames := 1, cells := 0, slots := 0, locals := 32 })).room s m args below meth c H locs 0 0 (MQ below (va_Qi (fun (r : Int32) (u : (Nat → Int32)) => Q r u) (cB (dC, dI) (kT cyB cyI cyJ cyP) A (fun u : (Nat → Int32) => ([(a0, .inr (4, [.ref a0_kinds, .ref a0_values, .ref a0_pile, .ref a0_facts, .int v0_length])), (a0_pile, .inl (cyI, 150, .inl u)), (a0_kinds, .inl (cyI, 150, .inl f0_kinds)), (a0_values, .inl (cyI, 150, .inl f0_values)), (a0_facts, .inl (cyI, 8, .inl f0_facts))] : va_W))) A) args s 0 0 A) (F0 m 28 ls []) := by
  obtain ⟨hx, hb, hr, hts, hown, hlocks, hml, hA, hK, hNw⟩ := id C0
  intro H locs ls f0_pile l1 l2 l3 hP hD hS hl hw
  refine lv_aload_n hx hb dX4_reach_28 rfl (lv_at hl 0 rfl) ?_
  refine va_get (D := (dC, dI)) (ci := 4) (v := .ref a0_pile) (C := RX4) (T := TX4) (N := 5) hx hb hts ui_X4_reach_X4 hown hK hP 0 rfl rfl 2 (by decide) (hts _ uw_X4_reach_f18) (fun _ h9 => h9) rfl dX4_reach_29 ?_
  refine lv_iload_n hx hb dX4_reach_32 rfl (lv_at hl 1 rfl) ?_
  refine lv_iload_n hx hb dX4_reach_33 rfl (lv_at hl 3 rfl) ?_
  refine lv_if_ne (tgt := 46) hx hb dX4_reach_34 (by decide) (fun c17 => ?_) (fun c17 => ?_)
  · have hw := hw.1 c17
    refine lv_aload_n hx hb dX4_reach_46 rfl (lv_at hl 0 rfl) ?_
    refine va_get (D := (dC, dI)) (ci := 4) (v := .ref a0_facts) (C := RX4) (T := TX4) (N := 5) hx hb hts ui_X4_reach_X4 hown hK hP 0 rfl rfl 3 (by decide) (hts _ uw_X4_reach_f21) (fun _ h9 => h9) rfl dX4_reach_47 ?_
    refine lv_aload_n hx hb dX4_reach_50 rfl (lv_at hl 0 rfl) ?_
    refine va_get (D := (dC, dI)) (ci := 4) (v := .ref a0_values) (C := RX4) (T := TX4) (N := 5) hx hb hts ui_X4_reach_X4 hown hK hP 0 rfl rfl 1 (by decide) (hts _ uw_X4_reach_f15) (fun _ h9 => h9) rfl dX4_reach_51 ?_
    refine lv_iload_n hx hb dX4_reach_54 rfl (lv_at hl 2 rfl) ?_
    obtain ⟨hi9, hw⟩ := hw
    refine va_iald hx hb hK hP 3 1 rfl rfl hi9 dX4_reach_55 ?_
    refine lv_topi (fun x18 ex18 => ?_)
    have hw := hw x18 ex18
    obtain ⟨hi9, hw⟩ := hw
    refine va_iald hx hb hK hP 4 1 rfl rfl hi9 dX4_reach_56 ?_
    refine lv_topi (fun x19 ex19 => ?_)
    have hw := hw x19 ex19
    exact kb_X4_reach_57 dC dI cyB cyI cyJ cyP a0 a0_pile a0_kinds a0_facts a0_values  v0_length f0_kinds f0_values f0_facts Q K4 hK4 C0 _ _ _ f0_pile l1 l2 l1 x19 hP hD hS (lv_sub hl [0, 1, 2] rfl) hw
  · have hw := hw.2 c17
    refine lv_aload_n hx hb dX4_reach_37 rfl (lv_at hl 0 rfl) ?_
    refine va_get (D := (dC, dI)) (ci := 4) (v := .ref a0_values) (C := RX4) (T := TX4) (N := 5) hx hb hts ui_X4_reach_X4 hown hK hP 0 rfl rfl 1 (by decide) (hts _ uw_X4_reach_f15) (fun _ h9 => h9) rfl dX4_reach_38 ?_
    refine lv_iload_n hx hb dX4_reach_41 rfl (lv_at hl 2 rfl) ?_
    obtain ⟨hi9, hw⟩ := hw
    refine va_iald hx hb hK hP 3 1 rfl rfl hi9 dX4_reach_42 ?_
    refine lv_topi (fun x20 ex20 => ?_)
    have hw := hw x20 ex20
    refine lv_goto (tgt := 57) hx hb dX4_reach_43 (by decide) ?_
    exact kb_X4_reach_57 dC dI cyB cyI cyJ cyP a0 a0_pile a0_kinds a0_facts a0_values  v0_length f0_kinds f0_values f0_facts Q K4 hK4 C0 _ _ _ f0_pile l1 l2 l1 x20 hP hD hS (lv_sub hl [0, 1, 2] rfl) hw
def wb_X4_reach_118 (v0_length : Int32) (f0_kinds : Nat → Int32) (f0_values : Nat → Int32) (f0_facts : Nat → Int32) (Q : Int32 → (Nat → Int32) → Prop)  (f0_pile : Nat → Int32) (s0 : Int32) : Prop := ∀ x15 : Int32, x15 = (if s0 < 60 then s0 else 60) → ∀ x16 : Int32, x16 = (if 0 < x15 then x15 else 0) → (Q x16 f0_pile)
set_option maxHeartbeats 4000000 in
set_option maxRecDepth 100000 in
theorem kb_X4_reach_118 {p : Program} {l : Launch} {e : Env} {s : State} {m : MethodId} {args : Array Value} {below : List Frame} {meth : Method} {c : Code} {A : Nat → Prop} (dC : Nat → ClassId) (dI : Nat → Nat → Nat) (cyB cyI cyJ cyP : ClassId) (a0 a0_pile a0_kinds a0_facts a0_values : Nat)  (v0_length : Int32) (f0_kinds : Nat → Int32) (f0_values : Nat → Int32) (f0_facts : Nat → Int32) (Q : Int32 → (Nat → Int32) → Prop)  (C0 : cfx p s m args meth c cX4_reach (some .int) wsX4_reach RX4 4 A (dC, dI) (kT cyB cyI cyJ cyP)) : ∀ (H : Heap) (locs : List Loc) (ls : Array Slot) (f0_pile : Nat → Int32) (s0 : Int32), va_P (dC, dI) vwCl [(a0, .inr (4, [.ref a0_kinds, .ref a0_values, .ref a0_pile, .ref a0_facts, .int v0_length])), (a0_pile, .inl (cyI, 150, .inl f0_pile)), (a0_kinds, .inl (cyI, 150, .inl f0_kinds)), (a0_values, .inl (cyI, 150, .inl f0_values)), (a0_facts, .inl (cyI, 8, .inl f0_facts))] H → va_D A [(a0, .inr (4, [.ref a0_kinds, .ref a0_values, .ref a0_pile, .ref a0_facts, .int v0_length])), (a0_pile, .inl (cyI, 150, .inl f0_pile)), (a0_kinds, .inl (cyI, 150, .inl f0_kinds)), (a0_values, .inl (cyI, 150, .inl f0_values)), (a0_facts, .inl (cyI, 8, .inl f0_facts))] → va_S A s.heap H locs → lv_has ls 4 [] → wb_X4_reach_118 v0_length f0_kinds f0_values f0_facts Q  f0_pile s0 → W p l e (headSpec wsX4_reach ({ frames := 1, cells := 0, slots := 0, locals := 32 })).room s m args below meth c H locs 0 0 (MQ below (va_Qi (fun (r : Int32) (u : (Nat → Int32)) => Q r u) (cB (dC, dI) (kT cyB cyI cyJ cyP) A (fun u : (Nat → Int32) => ([(a0, .inr (4, [.ref a0_kinds, .ref a0_values, .ref a0_pile, .ref a0_facts, .int v0_length])), (a0_pile, .inl (cyI, 150, .inl u)), (a0_kinds, .inl (cyI, 150, .inl f0_kinds)), (a0_values, .inl (cyI, 150, .inl f0_values)), (a0_facts, .inl (cyI, 8, .inl f0_facts))] : va_W))) A) args s 0 0 A) (F0 m 118 ls [.int s0]) := by
  obtain ⟨hx, hb, hr, hts, hown, hlocks, hml, hA, hK, hNw⟩ := id C0
  intro H locs ls f0_pile s0 hP hD hS hl hw
  refine lv_istore_n (lv' := [(2, .int s0)]) hx hb dX4_reach_118 rfl hl (by decide) rfl (fun ls hl => ?_)
  refine lv_iconst (v := 0) hx hb dX4_reach_119 (by decide) ?_
  refine lv_bipush (v := 60) hx hb dX4_reach_120 (by decide) ?_
  refine lv_iload_n hx hb dX4_reach_122 rfl (lv_at hl 0 rfl) ?_
  refine va_mmin hx hb (by rw [hml]; exact hl.1.symm) hown (hts _ uw_X4_reach_m115) (hts _ uw_X4_reach_msmin) (hts _ uw_X4_reach_inim) (hts _ uw_X4_reach_mcmin) (Nat.le_of_ble_eq_true rfl) (Nat.le_of_ble_eq_true rfl) (Nat.le_of_ble_eq_true rfl) (Nat.le_of_ble_eq_true rfl) dX4_reach_123 ?_
  refine lv_topi (fun x15 ex15 => ?_)
  have hw := hw x15 ex15
  refine va_mmax hx hb (by rw [hml]; exact hl.1.symm) hown (hts _ uw_X4_reach_m120) (hts _ uw_X4_reach_msmax) (hts _ uw_X4_reach_inim) (hts _ uw_X4_reach_mcmax) (Nat.le_of_ble_eq_true rfl) (Nat.le_of_ble_eq_true rfl) (Nat.le_of_ble_eq_true rfl) (Nat.le_of_ble_eq_true rfl) dX4_reach_126 ?_
  refine lv_topi (fun x16 ex16 => ?_)
  have hw := hw x16 ex16
  exact ((W.iret (v := x16) hx hb hr (fun t ht hW => ⟨⟨x16, (f0_pile), rfl, hw, by rw [ht]; exact hP, va_K.moved hW.alike hK, hD⟩, hS.F ht⟩) hS.2.2 dX4_reach_129))
def wl_X4_reach_4 (v0_length : Int32) (f0_kinds : Nat → Int32) (f0_values : Nat → Int32) (f0_facts : Nat → Int32) (Q : Int32 → (Nat → Int32) → Prop)  : Nat → (Nat → Int32) → Int32 → Int32 → Prop
  | 0, _, _, _ => False
  | n + 1, f0_pile, l1, l2 => ((v0_length ≤ l2 → ((l1 ≤ 0 → False) ∧ (¬ l1 ≤ 0 → ∀ x3 : Int32, x3 = f0_pile (0 : Int32).toNatClampNeg → (wb_X4_reach_118 v0_length f0_kinds f0_values f0_facts Q  f0_pile x3)))) ∧ (¬ v0_length ≤ l2 → vp_in l2 150 ∧ ∀ x4 : Int32, x4 = f0_kinds l2.toNatClampNeg → ((x4 = 0 → (wb_X4_reach_28 v0_length f0_kinds f0_values f0_facts Q (fun f0_pile l1 l2 => wl_X4_reach_4 v0_length f0_kinds f0_values f0_facts Q  n f0_pile l1 l2) f0_pile l1 l2 x4)) ∧ (¬ x4 = 0 → ((¬ x4 = 1 → ((l1 < 2 → (wb_X4_reach_98 v0_length f0_kinds f0_values f0_facts Q (fun f0_pile l1 l2 => wl_X4_reach_4 v0_length f0_kinds f0_values f0_facts Q  n f0_pile l1 l2) f0_pile l1 l2)) ∧ (¬ l1 < 2 → ∀ x8 : Int32, x8 = l1 + (-1) → ∀ x9 : Int32, x9 = x8 - 1 → ∀ x10 : Int32, x10 = x8 - 1 → vp_in x10 150 ∧ ∀ x11 : Int32, x11 = f0_pile x10.toNatClampNeg → vp_in x8 150 ∧ ∀ x12 : Int32, x12 = f0_pile x8.toNatClampNeg → wq_X4_joined   x4 x11 x12 (fun r13 => vp_in x9 150 ∧ ∀ f14 : Nat → Int32, f14 = upd f0_pile x9.toNatClampNeg r13 → (wb_X4_reach_98 v0_length f0_kinds f0_values f0_facts Q (fun f0_pile l1 l2 => wl_X4_reach_4 v0_length f0_kinds f0_values f0_facts Q  n f0_pile l1 l2) f14 x8 l2))))) ∧ (x4 = 1 → (wb_X4_reach_28 v0_length f0_kinds f0_values f0_facts Q (fun f0_pile l1 l2 => wl_X4_reach_4 v0_length f0_kinds f0_values f0_facts Q  n f0_pile l1 l2) f0_pile l1 l2 x4)))))))
set_option maxHeartbeats 4000000 in
set_option maxRecDepth 100000 in
theorem kl_X4_reach_4 {p : Program} {l : Launch} {e : Env} {s : State} {m : MethodId} {args : Array Value} {below : List Frame} {meth : Method} {c : Code} {A : Nat → Prop} (dC : Nat → ClassId) (dI : Nat → Nat → Nat) (cyB cyI cyJ cyP : ClassId) (a0 a0_pile a0_kinds a0_facts a0_values : Nat)  (v0_length : Int32) (f0_kinds : Nat → Int32) (f0_values : Nat → Int32) (f0_facts : Nat → Int32) (Q : Int32 → (Nat → Int32) → Prop)  (C0 : cfx p s m args meth c cX4_reach (some .int) wsX4_reach RX4 4 A (dC, dI) (kT cyB cyI cyJ cyP)) : ∀ (n : Nat) (H : Heap) (locs : List Loc) (ls : Array Slot) (f0_pile : Nat → Int32) (l1 : Int32) (l2 : Int32), va_P (dC, dI) vwCl [(a0, .inr (4, [.ref a0_kinds, .ref a0_values, .ref a0_pile, .ref a0_facts, .int v0_length])), (a0_pile, .inl (cyI, 150, .inl f0_pile)), (a0_kinds, .inl (cyI, 150, .inl f0_kinds)), (a0_values, .inl (cyI, 150, .inl f0_values)), (a0_facts, .inl (cyI, 8, .inl f0_facts))] H → va_D A [(a0, .inr (4, [.ref a0_kinds, .ref a0_values, .ref a0_pile, .ref a0_facts, .int v0_length])), (a0_pile, .inl (cyI, 150, .inl f0_pile)), (a0_kinds, .inl (cyI, 150, .inl f0_kinds)), (a0_values, .inl (cyI, 150, .inl f0_values)), (a0_facts, .inl (cyI, 8, .inl f0_facts))] → va_S A s.heap H locs → lv_has ls 4 [(0, .ref a0), (1, .int l1), (2, .int l2)] → wl_X4_reach_4 v0_length f0_kinds f0_values f0_facts Q  n f0_pile l1 l2 → W p l e (headSpec wsX4_reach ({ frames := 1, cells := 0, slots := 0, locals := 32 })).room s m args below meth c H locs 0 0 (MQ below (va_Qi (fun (r : Int32) (u : (Nat → Int32)) => Q r u) (cB (dC, dI) (kT cyB cyI cyJ cyP) A (fun u : (Nat → Int32) => ([(a0, .inr (4, [.ref a0_kinds, .ref a0_values, .ref a0_pile, .ref a0_facts, .int v0_length])), (a0_pile, .inl (cyI, 150, .inl u)), (a0_kinds, .inl (cyI, 150, .inl f0_kinds)), (a0_values, .inl (cyI, 150, .inl f0_values)), (a0_facts, .inl (cyI, 8, .inl f0_facts))] : va_W))) A) args s 0 0 A) (F0 m 4 ls []) := by
  obtain ⟨hx, hb, hr, hts, hown, hlocks, hml, hA, hK, hNw⟩ := id C0
  intro n
  induction n with
  | zero => intro H locs ls f0_pile l1 l2 hP hD hS hl hw; exact False.elim hw
  | succ n ih =>
    intro H locs ls f0_pile l1 l2 hP hD hS hl hw
    refine lv_iload_n hx hb dX4_reach_4 rfl (lv_at hl 2 rfl) ?_
    refine lv_aload_n hx hb dX4_reach_5 rfl (lv_at hl 0 rfl) ?_
    refine va_get (D := (dC, dI)) (ci := 4) (v := .int v0_length) (C := RX4) (T := TX4) (N := 5) hx hb hts ui_X4_reach_X4 hown hK hP 0 rfl rfl 4 (by decide) (hts _ uw_X4_reach_f27) (fun _ h9 => h9) rfl dX4_reach_6 ?_
    refine lv_icmp_ge (tgt := 104) hx hb dX4_reach_9 (by decide) (fun c1 => ?_) (fun c1 => ?_)
    · have hw := hw.1 c1
      refine lv_iload_n hx hb dX4_reach_104 rfl (lv_at hl 1 rfl) ?_
      refine lv_if_le (tgt := 117) hx hb dX4_reach_105 (by decide) (fun c2 => ?_) (fun c2 => ?_)
      · have hw := hw.1 c2
        exact False.elim hw
      · have hw := hw.2 c2
        refine lv_aload_n hx hb dX4_reach_108 rfl (lv_at hl 0 rfl) ?_
        refine va_get (D := (dC, dI)) (ci := 4) (v := .ref a0_pile) (C := RX4) (T := TX4) (N := 5) hx hb hts ui_X4_reach_X4 hown hK hP 0 rfl rfl 2 (by decide) (hts _ uw_X4_reach_f18) (fun _ h9 => h9) rfl dX4_reach_109 ?_
        refine lv_iconst (v := 0) hx hb dX4_reach_112 (by decide) ?_
        refine va_iald hx hb hK hP 1 1 rfl rfl (vin (by decide)) dX4_reach_113 ?_
        refine lv_topi (fun x3 ex3 => ?_)
        have hw := hw x3 ex3
        refine lv_goto (tgt := 118) hx hb dX4_reach_114 (by decide) ?_
        exact kb_X4_reach_118 dC dI cyB cyI cyJ cyP a0 a0_pile a0_kinds a0_facts a0_values  v0_length f0_kinds f0_values f0_facts Q  C0 _ _ _ f0_pile x3 hP hD hS (lv_sub hl [] rfl) hw
    · have hw := hw.2 c1
      refine lv_aload_n hx hb dX4_reach_12 rfl (lv_at hl 0 rfl) ?_
      refine va_get (D := (dC, dI)) (ci := 4) (v := .ref a0_kinds) (C := RX4) (T := TX4) (N := 5) hx hb hts ui_X4_reach_X4 hown hK hP 0 rfl rfl 0 (by decide) (hts _ uw_X4_reach_f9) (fun _ h9 => h9) rfl dX4_reach_13 ?_
      refine lv_iload_n hx hb dX4_reach_16 rfl (lv_at hl 2 rfl) ?_
      obtain ⟨hi9, hw⟩ := hw
      refine va_iald hx hb hK hP 2 1 rfl rfl hi9 dX4_reach_17 ?_
      refine lv_topi (fun x4 ex4 => ?_)
      have hw := hw x4 ex4
      refine lv_istore_n (lv' := [(3, .int x4), (0, .ref a0), (1, .int l1), (2, .int l2)]) hx hb dX4_reach_18 rfl hl (by decide) rfl (fun ls hl => ?_)
      refine lv_iload_n hx hb dX4_reach_19 rfl (lv_at hl 0 rfl) ?_
      refine lv_if_eq (tgt := 28) hx hb dX4_reach_20 (by decide) (fun c5 => ?_) (fun c5 => ?_)
      · have hw := hw.1 c5
        exact kb_X4_reach_28 dC dI cyB cyI cyJ cyP a0 a0_pile a0_kinds a0_facts a0_values  v0_length f0_kinds f0_values f0_facts Q (wl_X4_reach_4 v0_length f0_kinds f0_values f0_facts Q  n) ih C0 _ _ _ f0_pile l1 l2 x4 hP hD hS (lv_sub hl [1, 2, 3, 0] rfl) hw
      · have hw := hw.2 c5
        refine lv_iload_n hx hb dX4_reach_23 rfl (lv_at hl 0 rfl) ?_
        refine lv_iconst (v := 1) hx hb dX4_reach_24 (by decide) ?_
        refine lv_icmp_ne (tgt := 64) hx hb dX4_reach_25 (by decide) (fun c6 => ?_) (fun c6 => ?_)
        · have hw := hw.1 c6
          refine lv_iload_n hx hb dX4_reach_64 rfl (lv_at hl 2 rfl) ?_
          refine lv_iconst (v := 2) hx hb dX4_reach_65 (by decide) ?_
          refine lv_icmp_lt (tgt := 98) hx hb dX4_reach_66 (by decide) (fun c7 => ?_) (fun c7 => ?_)
          · have hw := hw.1 c7
            exact kb_X4_reach_98 dC dI cyB cyI cyJ cyP a0 a0_pile a0_kinds a0_facts a0_values  v0_length f0_kinds f0_values f0_facts Q (wl_X4_reach_4 v0_length f0_kinds f0_values f0_facts Q  n) ih C0 _ _ _ f0_pile l1 l2 hP hD hS (lv_sub hl [1, 2, 3] rfl) hw
          · have hw := hw.2 c7
            obtain ⟨x8, ex8⟩ : ∃ y : Int32, y = l1 + (-1) := ⟨_, rfl⟩
            have hw := hw x8 ex8
            refine lv_iinc (v := x8) (lv' := [(1, .int x8), (3, .int x4), (0, .ref a0), (2, .int l2)]) hx hb dX4_reach_69 hl (k := 2) rfl (by rw [ex8]; rfl) (by decide) rfl (fun ls hl => ?_)
            refine lv_aload_n hx hb dX4_reach_72 rfl (lv_at hl 2 rfl) ?_
            refine va_get (D := (dC, dI)) (ci := 4) (v := .ref a0_pile) (C := RX4) (T := TX4) (N := 5) hx hb hts ui_X4_reach_X4 hown hK hP 0 rfl rfl 2 (by decide) (hts _ uw_X4_reach_f18) (fun _ h9 => h9) rfl dX4_reach_73 ?_
            refine lv_iload_n hx hb dX4_reach_76 rfl (lv_at hl 0 rfl) ?_
            refine lv_iconst (v := 1) hx hb dX4_reach_77 (by decide) ?_
            refine lv_isub hx hb dX4_reach_78 ?_
            refine lv_topi (fun x9 ex9 => ?_)
            have hw := hw x9 ex9
            refine lv_iload_n hx hb dX4_reach_79 rfl (lv_at hl 1 rfl) ?_
            refine lv_aload_n hx hb dX4_reach_80 rfl (lv_at hl 2 rfl) ?_
            refine va_get (D := (dC, dI)) (ci := 4) (v := .ref a0_pile) (C := RX4) (T := TX4) (N := 5) hx hb hts ui_X4_reach_X4 hown hK hP 0 rfl rfl 2 (by decide) (hts _ uw_X4_reach_f18) (fun _ h9 => h9) rfl dX4_reach_81 ?_
            refine lv_iload_n hx hb dX4_reach_84 rfl (lv_at hl 0 rfl) ?_
            refine lv_iconst (v := 1) hx hb dX4_reach_85 (by decide) ?_
            refine lv_isub hx hb dX4_reach_86 ?_
            refine lv_topi (fun x10 ex10 => ?_)
            have hw := hw x10 ex10
            obtain ⟨hi9, hw⟩ := hw
            refine va_iald hx hb hK hP 1 1 rfl rfl hi9 dX4_reach_87 ?_
            refine lv_topi (fun x11 ex11 => ?_)
            have hw := hw x11 ex11
            refine lv_aload_n hx hb dX4_reach_88 rfl (lv_at hl 2 rfl) ?_
            refine va_get (D := (dC, dI)) (ci := 4) (v := .ref a0_pile) (C := RX4) (T := TX4) (N := 5) hx hb hts ui_X4_reach_X4 hown hK hP 0 rfl rfl 2 (by decide) (hts _ uw_X4_reach_f18) (fun _ h9 => h9) rfl dX4_reach_89 ?_
            refine lv_iload_n hx hb dX4_reach_92 rfl (lv_at hl 0 rfl) ?_
            obtain ⟨hi9, hw⟩ := hw
            refine va_iald hx hb hK hP 1 1 rfl rfl hi9 dX4_reach_93 ?_
            refine lv_topi (fun x12 ex12 => ?_)
            have hw := hw x12 ex12
            have hPc := hP.sub (ws' := []) [] rfl
            have hDc := hD.sub (ws' := []) [] (by decide) rfl
            have hFc := va_free (wc := []) hD hS hA [] rfl
            refine va_calli (va_runS (As := [.int x4, .int x11, .int x12]) (rest := [.int x9, .ref a0_pile]) ⟨hx, hb, hml, hown, hts⟩ (ck_X4_joined l dC dI cyB cyI cyJ cyP  H.size    x4 x11 x12 hw) (va_cwS 3 hts gX4_reach_X4_joined rfl rfl rfl (by decide +kernel) ⟨Nat.le_of_ble_eq_true rfl, Nat.le_of_ble_eq_true rfl⟩) ⟨cPc_blind, cPc_pre hPc hK hDc hNw⟩ rfl rfl hl.1 rfl (lv_room (Nat.le_of_ble_eq_true rfl)) dX4_reach_94 ⟨Nat.le_of_ble_eq_true rfl, Nat.le_of_ble_eq_true rfl⟩) hS (fun q _ h => hFc q h) hFc (fun r13 u t H1 locs ht hvm hw hB hz1 hk1 hS => ?_)
            obtain ⟨hP1, hK1, hD1⟩ := hB
            rw [ht] at hP1
            obtain ⟨hP, hD⟩ := va_join (wr := [(a0, .inr (4, [.ref a0_kinds, .ref a0_values, .ref a0_pile, .ref a0_facts, .int v0_length])), (a0_pile, .inl (cyI, 150, .inl f0_pile)), (a0_kinds, .inl (cyI, 150, .inl f0_kinds)), (a0_values, .inl (cyI, 150, .inl f0_values)), (a0_facts, .inl (cyI, 8, .inl f0_facts))]) (w1 := []) hP hD [] [0, 1, 2, 3, 4] rfl rfl (by decide) (by decide) hk1 hFc hP1 hD1
            have hP : va_P (dC, dI) vwCl [(a0, .inr (4, [.ref a0_kinds, .ref a0_values, .ref a0_pile, .ref a0_facts, .int v0_length])), (a0_pile, .inl (cyI, 150, .inl f0_pile)), (a0_kinds, .inl (cyI, 150, .inl f0_kinds)), (a0_values, .inl (cyI, 150, .inl f0_values)), (a0_facts, .inl (cyI, 8, .inl f0_facts))] H1 := hP
            have hD : va_D A [(a0, .inr (4, [.ref a0_kinds, .ref a0_values, .ref a0_pile, .ref a0_facts, .int v0_length])), (a0_pile, .inl (cyI, 150, .inl f0_pile)), (a0_kinds, .inl (cyI, 150, .inl f0_kinds)), (a0_values, .inl (cyI, 150, .inl f0_values)), (a0_facts, .inl (cyI, 8, .inl f0_facts))] := hD
            generalize H1 = H at hP hS ⊢
            obtain ⟨hi9, hw⟩ := hw
            refine va_iast hx hb hK hP hD hS 1 1 rfl rfl hi9 dX4_reach_97 (fun H locs hP hD hS => ?_)
            obtain ⟨f14, ef14⟩ : ∃ y : Nat → Int32, y = upd f0_pile x9.toNatClampNeg r13 := ⟨_, rfl⟩
            have hw := hw f14 ef14
            have hP : va_P (dC, dI) vwCl [(a0, .inr (4, [.ref a0_kinds, .ref a0_values, .ref a0_pile, .ref a0_facts, .int v0_length])), (a0_pile, .inl (cyI, 150, .inl f14)), (a0_kinds, .inl (cyI, 150, .inl f0_kinds)), (a0_values, .inl (cyI, 150, .inl f0_values)), (a0_facts, .inl (cyI, 8, .inl f0_facts))] H := by rw [ef14]; exact hP
            have hD : va_D A [(a0, .inr (4, [.ref a0_kinds, .ref a0_values, .ref a0_pile, .ref a0_facts, .int v0_length])), (a0_pile, .inl (cyI, 150, .inl f14)), (a0_kinds, .inl (cyI, 150, .inl f0_kinds)), (a0_values, .inl (cyI, 150, .inl f0_values)), (a0_facts, .inl (cyI, 8, .inl f0_facts))] := by rw [ef14]; exact hD
            exact kb_X4_reach_98 dC dI cyB cyI cyJ cyP a0 a0_pile a0_kinds a0_facts a0_values  v0_length f0_kinds f0_values f0_facts Q (wl_X4_reach_4 v0_length f0_kinds f0_values f0_facts Q  n) ih C0 _ _ _ f14 x8 l2 hP hD hS (lv_sub hl [2, 0, 3] rfl) hw
        · have hw := hw.2 c6
          exact kb_X4_reach_28 dC dI cyB cyI cyJ cyP a0 a0_pile a0_kinds a0_facts a0_values  v0_length f0_kinds f0_values f0_facts Q (wl_X4_reach_4 v0_length f0_kinds f0_values f0_facts Q  n) ih C0 _ _ _ f0_pile l1 l2 x4 hP hD hS (lv_sub hl [1, 2, 3, 0] rfl) hw
def wq_X4_reach (v0_length : Int32) (f0_kinds : Nat → Int32) (f0_values : Nat → Int32) (f0_facts : Nat → Int32) (f0_pile : Nat → Int32)  (Q : Int32 → (Nat → Int32) → Prop) : Prop := (∃ k9 : Nat, wl_X4_reach_4 v0_length f0_kinds f0_values f0_facts Q  k9 f0_pile 0 0)
set_option maxHeartbeats 4000000 in
set_option maxRecDepth 100000 in
theorem ck_X4_reach (l : Launch) (dC : Nat → ClassId) (dI : Nat → Nat → Nat) (cyB cyI cyJ cyP : ClassId) (a0 a0_pile a0_kinds a0_facts a0_values : Nat) (sz : Nat)  (v0_length : Int32) (f0_kinds : Nat → Int32) (f0_values : Nat → Int32) (f0_facts : Nat → Int32) (f0_pile : Nat → Int32)  {Q : Int32 → (Nat → Int32) → Prop} (hw : wq_X4_reach v0_length f0_kinds f0_values f0_facts f0_pile  Q) : Met l yX4_reach wsX4_reach ({ frames := 1, cells := 0, slots := 0, locals := 32 }) (va_Pc [.ref a0] (cPc (dC, dI) (kT cyB cyI cyJ cyP) [(a0, .inr (4, [.ref a0_kinds, .ref a0_values, .ref a0_pile, .ref a0_facts, .int v0_length])), (a0_pile, .inl (cyI, 150, .inl f0_pile)), (a0_kinds, .inl (cyI, 150, .inl f0_kinds)), (a0_values, .inl (cyI, 150, .inl f0_values)), (a0_facts, .inl (cyI, 8, .inl f0_facts))] sz)) (va_Qi (fun (r : Int32) (u : (Nat → Int32)) => Q r u) (cB (dC, dI) (kT cyB cyI cyJ cyP) (va_A [(a0, .inr (4, [.ref a0_kinds, .ref a0_values, .ref a0_pile, .ref a0_facts, .int v0_length])), (a0_pile, .inl (cyI, 150, .inl f0_pile)), (a0_kinds, .inl (cyI, 150, .inl f0_kinds)), (a0_values, .inl (cyI, 150, .inl f0_values)), (a0_facts, .inl (cyI, 8, .inl f0_facts))] sz) (fun u : (Nat → Int32) => ([(a0, .inr (4, [.ref a0_kinds, .ref a0_values, .ref a0_pile, .ref a0_facts, .int v0_length])), (a0_pile, .inl (cyI, 150, .inl u)), (a0_kinds, .inl (cyI, 150, .inl f0_kinds)), (a0_values, .inl (cyI, 150, .inl f0_values)), (a0_facts, .inl (cyI, 8, .inl f0_facts))] : va_W))) (va_A [(a0, .inr (4, [.ref a0_kinds, .ref a0_values, .ref a0_pile, .ref a0_facts, .int v0_length])), (a0_pile, .inl (cyI, 150, .inl f0_pile)), (a0_kinds, .inl (cyI, 150, .inl f0_kinds)), (a0_values, .inl (cyI, 150, .inl f0_values)), (a0_facts, .inl (cyI, 8, .inl f0_facts))] sz)) 0 0 (va_A [(a0, .inr (4, [.ref a0_kinds, .ref a0_values, .ref a0_pile, .ref a0_facts, .int v0_length])), (a0_pile, .inl (cyI, 150, .inl f0_pile)), (a0_kinds, .inl (cyI, 150, .inl f0_kinds)), (a0_values, .inl (cyI, 150, .inl f0_values)), (a0_facts, .inl (cyI, 8, .inl f0_facts))] sz) := by
  refine Met.ofW (cc := cX4_reach) (maxL := 4) (ret := (some .int)) (by decide) rfl ?_
  intro p e s m args below meth c s₁ B hml hv
  obtain ⟨rfl, hsz, hP, hK, hD0, hNw⟩ := hv
  have hx := B.exec
  have hb := B.bytes
  have hr := B.returns
  have hts := atoms_spec (ws := wsX4_reach) B.pre
  have hown : s.vm.findClass RX4 = some m.cls := findClass_of_methodNamed B.named
  have hlocks := B.notSynchronized
  subst hsz
  have hD := hD0.self (sz := s.heap.size)
  generalize hAe : va_A [(a0, .inr (4, [.ref a0_kinds, .ref a0_values, .ref a0_pile, .ref a0_facts, .int v0_length])), (a0_pile, .inl (cyI, 150, .inl f0_pile)), (a0_kinds, .inl (cyI, 150, .inl f0_kinds)), (a0_values, .inl (cyI, 150, .inl f0_values)), (a0_facts, .inl (cyI, 8, .inl f0_facts))] s.heap.size = A at hD ⊢
  have hA : ∀ q : Nat, s.heap.size ≤ q → A q := fun q h => by rw [← hAe]; exact Or.inr h
  have hS : va_S A s.heap s.heap [] := va_S.rf
  have hP : va_P (dC, dI) vwCl [(a0, .inr (4, [.ref a0_kinds, .ref a0_values, .ref a0_pile, .ref a0_facts, .int v0_length])), (a0_pile, .inl (cyI, 150, .inl f0_pile)), (a0_kinds, .inl (cyI, 150, .inl f0_kinds)), (a0_values, .inl (cyI, 150, .inl f0_values)), (a0_facts, .inl (cyI, 8, .inl f0_facts))] s.heap := hP
  have hl := lv_entry ([.ref a0]) (n := 4) (Nat.le_of_ble_eq_true rfl)
  rw [lg_entry_eq]
  generalize (lg_sl ([.ref a0]) ++ List.replicate (4 - (lg_sl ([.ref a0])).length) Slot.unset).toArray = ls at hl ⊢
  have hl : lv_has ls 4 [(0, .ref a0)] := hl
  have C0 : cfx p s m _ meth c cX4_reach (some .int) wsX4_reach RX4 4 A (dC, dI) (kT cyB cyI cyJ cyP) := ⟨hx, hb, hr, hts, hown, hlocks, hml, hA, hK, hNw⟩
  clear hAe
  obtain ⟨H, hH⟩ : ∃ H, H = s.heap := ⟨_, rfl⟩
  rw [← hH] at hP ⊢
  have hS : va_S A s.heap H [] := by rw [hH]; exact va_S.rf
  have hS := hS
  refine lv_iconst (v := 0) hx hb dX4_reach_0 (by decide) ?_
  refine lv_istore_n (lv' := [(1, .int 0), (0, .ref a0)]) hx hb dX4_reach_1 rfl hl (by decide) rfl (fun ls hl => ?_)
  refine lv_iconst (v := 0) hx hb dX4_reach_2 (by decide) ?_
  refine lv_istore_n (lv' := [(2, .int 0), (1, .int 0), (0, .ref a0)]) hx hb dX4_reach_3 rfl hl (by decide) rfl (fun ls hl => ?_)
  obtain ⟨n9, hw⟩ := hw
  exact kl_X4_reach_4 dC dI cyB cyI cyJ cyP a0 a0_pile a0_kinds a0_facts a0_values  v0_length f0_kinds f0_values f0_facts Q  C0 n9 _ _ _ f0_pile 0 0 hP hD hS (lv_sub hl [2, 1, 0] rfl) hw
def wq_X10_can (v0_ground_hares : Int32) (v0_callsNoSuch : Int32) (p1 : Int32) (p2 : Int32) (E : String → Int32 → Prop) (Q : Int32 → Int32 → Prop) : Prop := wq_X10_needHare v0_ground_hares v0_callsNoSuch p1 (fun en x1 => E en x1) (fun x1 => False)
set_option maxHeartbeats 4000000 in
set_option maxRecDepth 100000 in
theorem ck_X10_can (l : Launch) (dC : Nat → ClassId) (dI : Nat → Nat → Nat) (cyB cyI cyJ cyP : ClassId) (a0 a0_ground : Nat) (sz : Nat) (z0_tape : Value) (z0_spareGround : Value) (z0_rule : Value) (z0_spareRule : Value) (z0_lines : Value) (z0_spareLines : Value) (z0_steps : Value) (z0_now : Value) (z0_trial : Value) (z0_past : Value) (z0_images : Value) (z0_round : Value) (z0_seating : Value) (z0_fitting : Value) (z0_imagesKept : Value) (z0_refusedSteps : Value) (z0_callsIllegal : Value) (z0_ground_formX : Value) (z0_ground_formY : Value) (z0_ground_foxX : Value) (z0_ground_foxY : Value) (z0_ground_seat : Value) (z0_ground_strength : Value) (z0_ground_debts : Value) (z0_ground_near : Value) (z0_ground_forms : Value) (z0_ground_foxes : Value) (z0_ground_safe : Value) (v0_ground_hares : Int32) (v0_callsNoSuch : Int32) (p1 : Int32) (p2 : Int32) {E : String → Int32 → Prop} {Q : Int32 → Int32 → Prop} (hw : wq_X10_can v0_ground_hares v0_callsNoSuch p1 p2 E Q) : vx_Met l yX10_can wsX10_can ({ frames := 7, cells := 1, slots := 6, locals := 141 }) (va_Pc [.ref a0, .int p1, .int p2] (cPx l (dC, dI) (kT cyB cyI cyJ cyP) [(a0, .inr (10, [z0_tape, .ref a0_ground, z0_spareGround, z0_rule, z0_spareRule, z0_lines, z0_spareLines, z0_steps, z0_now, z0_trial, z0_past, z0_images, z0_round, z0_seating, z0_fitting, z0_imagesKept, z0_refusedSteps, .int v0_callsNoSuch, z0_callsIllegal])), (a0_ground, .inr (2, [z0_ground_formX, z0_ground_formY, z0_ground_foxX, z0_ground_foxY, z0_ground_seat, z0_ground_strength, z0_ground_debts, z0_ground_near, z0_ground_forms, .int v0_ground_hares, z0_ground_foxes, z0_ground_safe]))] sz)) (va_Qi (fun (r : Int32) (u : Int32) => Q r u) (cB (dC, dI) (kT cyB cyI cyJ cyP) (va_A [(a0, .inr (10, [z0_tape, .ref a0_ground, z0_spareGround, z0_rule, z0_spareRule, z0_lines, z0_spareLines, z0_steps, z0_now, z0_trial, z0_past, z0_images, z0_round, z0_seating, z0_fitting, z0_imagesKept, z0_refusedSteps, .int v0_callsNoSuch, z0_callsIllegal])), (a0_ground, .inr (2, [z0_ground_formX, z0_ground_formY, z0_ground_foxX, z0_ground_foxY, z0_ground_seat, z0_ground_strength, z0_ground_debts, z0_ground_near, z0_ground_forms, .int v0_ground_hares, z0_ground_foxes, z0_ground_safe]))] sz) (fun u : Int32 => ([(a0, .inr (10, [z0_tape, .ref a0_ground, z0_spareGround, z0_rule, z0_spareRule, z0_lines, z0_spareLines, z0_steps, z0_now, z0_trial, z0_past, z0_images, z0_round, z0_seating, z0_fitting, z0_imagesKept, z0_refusedSteps, .int u, z0_callsIllegal])), (a0_ground, .inr (2, [z0_ground_formX, z0_ground_formY, z0_ground_foxX, z0_ground_foxY, z0_ground_seat, z0_ground_strength, z0_ground_debts, z0_ground_near, z0_ground_forms, .int v0_ground_hares, z0_ground_foxes, z0_ground_safe]))] : va_W))) (va_A [(a0, .inr (10, [z0_tape, .ref a0_ground, z0_spareGround, z0_rule, z0_spareRule, z0_lines, z0_spareLines, z0_steps, z0_now, z0_trial, z0_past, z0_images, z0_round, z0_seating, z0_fitting, z0_imagesKept, z0_refusedSteps, .int v0_callsNoSuch, z0_callsIllegal])), (a0_ground, .inr (2, [z0_ground_formX, z0_ground_formY, z0_ground_foxX, z0_ground_foxY, z0_ground_seat, z0_ground_strength, z0_ground_debts, z0_ground_near, z0_ground_forms, .int v0_ground_hares, z0_ground_foxes, z0_ground_safe]))] sz)) (vx_X (fun _ => True) (fun (en : String) (u : Int32) (t : State) => E en u ∧ cB (dC, dI) (kT cyB cyI cyJ cyP) (va_A [(a0, .inr (10, [z0_tape, .ref a0_ground, z0_spareGround, z0_rule, z0_spareRule, z0_lines, z0_spareLines, z0_steps, z0_now, z0_trial, z0_past, z0_images, z0_round, z0_seating, z0_fitting, z0_imagesKept, z0_refusedSteps, .int v0_callsNoSuch, z0_callsIllegal])), (a0_ground, .inr (2, [z0_ground_formX, z0_ground_formY, z0_ground_foxX, z0_ground_foxY, z0_ground_seat, z0_ground_strength, z0_ground_debts, z0_ground_near, z0_ground_forms, .int v0_ground_hares, z0_ground_foxes, z0_ground_safe]))] sz) (fun u : Int32 => ([(a0, .inr (10, [z0_tape, .ref a0_ground, z0_spareGround, z0_rule, z0_spareRule, z0_lines, z0_spareLines, z0_steps, z0_now, z0_trial, z0_past, z0_images, z0_round, z0_seating, z0_fitting, z0_imagesKept, z0_refusedSteps, .int u, z0_callsIllegal])), (a0_ground, .inr (2, [z0_ground_formX, z0_ground_formY, z0_ground_foxX, z0_ground_foxY, z0_ground_seat, z0_ground_strength, z0_ground_debts, z0_ground_near, z0_ground_forms, .int v0_ground_hares, z0_ground_foxes, z0_ground_safe]))] : va_W)) u t) (va_A [(a0, .inr (10, [z0_tape, .ref a0_ground, z0_spareGround, z0_rule, z0_spareRule, z0_lines, z0_spareLines, z0_steps, z0_now, z0_trial, z0_past, z0_images, z0_round, z0_seating, z0_fitting, z0_imagesKept, z0_refusedSteps, .int v0_callsNoSuch, z0_callsIllegal])), (a0_ground, .inr (2, [z0_ground_formX, z0_ground_formY, z0_ground_foxX, z0_ground_foxY, z0_ground_seat, z0_ground_strength, z0_ground_debts, z0_ground_near, z0_ground_forms, .int v0_ground_hares, z0_ground_foxes, z0_ground_safe]))] sz)) 1 6 (va_A [(a0, .inr (10, [z0_tape, .ref a0_ground, z0_spareGround, z0_rule, z0_spareRule, z0_lines, z0_spareLines, z0_steps, z0_now, z0_trial, z0_past, z0_images, z0_round, z0_seating, z0_fitting, z0_imagesKept, z0_refusedSteps, .int v0_callsNoSuch, z0_callsIllegal])), (a0_ground, .inr (2, [z0_ground_formX, z0_ground_formY, z0_ground_foxX, z0_ground_foxY, z0_ground_seat, z0_ground_strength, z0_ground_debts, z0_ground_near, z0_ground_forms, .int v0_ground_hares, z0_ground_foxes, z0_ground_safe]))] sz) := by
  refine vx_ofW (cc := cX10_can) (maxL := 3) (ret := (some .boolean)) (by decide) rfl ?_
  intro p e s m args below meth c s₁ B hml hnt hv
  obtain ⟨rfl, hsz, hP, hK, hD0, hNw, hXl, hXu, hXn, hXt⟩ := hv
  have hx := B.exec
  have hb := B.bytes
  have hr := B.returns
  have hts := atoms_spec (ws := wsX10_can) B.pre
  have hown : s.vm.findClass RX10 = some m.cls := findClass_of_methodNamed B.named
  have hlocks := B.notSynchronized
  subst hsz
  have hD := hD0.self (sz := s.heap.size)
  generalize hAe : va_A [(a0, .inr (10, [z0_tape, .ref a0_ground, z0_spareGround, z0_rule, z0_spareRule, z0_lines, z0_spareLines, z0_steps, z0_now, z0_trial, z0_past, z0_images, z0_round, z0_seating, z0_fitting, z0_imagesKept, z0_refusedSteps, .int v0_callsNoSuch, z0_callsIllegal])), (a0_ground, .inr (2, [z0_ground_formX, z0_ground_formY, z0_ground_foxX, z0_ground_foxY, z0_ground_seat, z0_ground_strength, z0_ground_debts, z0_ground_near, z0_ground_forms, .int v0_ground_hares, z0_ground_foxes, z0_ground_safe]))] s.heap.size = A at hD hXu hXn ⊢
  have hA : ∀ q : Nat, s.heap.size ≤ q → A q := fun q h => by rw [← hAe]; exact Or.inr h
  have hS : va_S A s.heap s.heap [] := va_S.rf
  have hP : va_P (dC, dI) vwCl [(a0, .inr (10, [z0_tape, .ref a0_ground, z0_spareGround, z0_rule, z0_spareRule, z0_lines, z0_spareLines, z0_steps, z0_now, z0_trial, z0_past, z0_images, z0_round, z0_seating, z0_fitting, z0_imagesKept, z0_refusedSteps, .int v0_callsNoSuch, z0_callsIllegal])), (a0_ground, .inr (2, [z0_ground_formX, z0_ground_formY, z0_ground_foxX, z0_ground_foxY, z0_ground_seat, z0_ground_strength, z0_ground_debts, z0_ground_near, z0_ground_forms, .int v0_ground_hares, z0_ground_foxes, z0_ground_safe]))] s.heap := hP
  have hl := lv_entry ([.ref a0, .int p1, .int p2]) (n := 3) (Nat.le_of_ble_eq_true rfl)
  rw [lg_entry_eq]
  generalize (lg_sl ([.ref a0, .int p1, .int p2]) ++ List.replicate (3 - (lg_sl ([.ref a0, .int p1, .int p2])).length) Slot.unset).toArray = ls at hl ⊢
  have hl : lv_has ls 3 [(0, .ref a0), (1, .int p1), (2, .int p2)] := hl
  have hY : cfY l s A := ⟨hXl, hXu, hXn, hXt⟩
  have hXs : cfX l s c A := ⟨hnt, hY⟩
  have C0 : cfx p s m _ meth c cX10_can (some .boolean) wsX10_can RX10 3 A (dC, dI) (kT cyB cyI cyJ cyP) ∧ cfX l s c A := ⟨⟨hx, hb, hr, hts, hown, hlocks, hml, hA, hK, hNw⟩, hXs⟩
  clear hAe
  obtain ⟨H, hH⟩ : ∃ H, H = s.heap := ⟨_, rfl⟩
  rw [← hH] at hP ⊢
  have hS : va_S A s.heap H [] := by rw [hH]; exact va_S.rf
  have hS := hS
  refine lv_aload_n hx hb dX10_can_0 rfl (lv_at hl 0 rfl) ?_
  refine lv_iload_n hx hb dX10_can_1 rfl (lv_at hl 1 rfl) ?_
  have hPc := hP.sub (ws' := [(a0, .inr (10, [z0_tape, .ref a0_ground, z0_spareGround, z0_rule, z0_spareRule, z0_lines, z0_spareLines, z0_steps, z0_now, z0_trial, z0_past, z0_images, z0_round, z0_seating, z0_fitting, z0_imagesKept, z0_refusedSteps, .int v0_callsNoSuch, z0_callsIllegal])), (a0_ground, .inr (2, [z0_ground_formX, z0_ground_formY, z0_ground_foxX, z0_ground_foxY, z0_ground_seat, z0_ground_strength, z0_ground_debts, z0_ground_near, z0_ground_forms, .int v0_ground_hares, z0_ground_foxes, z0_ground_safe]))]) [0, 1] rfl
  have hDc := hD.sub (ws' := [(a0, .inr (10, [z0_tape, .ref a0_ground, z0_spareGround, z0_rule, z0_spareRule, z0_lines, z0_spareLines, z0_steps, z0_now, z0_trial, z0_past, z0_images, z0_round, z0_seating, z0_fitting, z0_imagesKept, z0_refusedSteps, .int v0_callsNoSuch, z0_callsIllegal])), (a0_ground, .inr (2, [z0_ground_formX, z0_ground_formY, z0_ground_foxX, z0_ground_foxY, z0_ground_seat, z0_ground_strength, z0_ground_debts, z0_ground_near, z0_ground_forms, .int v0_ground_hares, z0_ground_foxes, z0_ground_safe]))]) [0, 1] (by decide) rfl
  have hFc := va_free (wc := [(a0, .inr (10, [z0_tape, .ref a0_ground, z0_spareGround, z0_rule, z0_spareRule, z0_lines, z0_spareLines, z0_steps, z0_now, z0_trial, z0_past, z0_images, z0_round, z0_seating, z0_fitting, z0_imagesKept, z0_refusedSteps, .int v0_callsNoSuch, z0_callsIllegal])), (a0_ground, .inr (2, [z0_ground_formX, z0_ground_formY, z0_ground_foxX, z0_ground_foxY, z0_ground_seat, z0_ground_strength, z0_ground_debts, z0_ground_near, z0_ground_forms, .int v0_ground_hares, z0_ground_foxes, z0_ground_safe]))]) hD hS hA [0, 1] rfl
  refine vx_callv (vx_runV (As := [.int p1]) (rest := []) ⟨hx, hb, hml, hown, hts⟩ (ck_X10_needHare l dC dI cyB cyI cyJ cyP a0 a0_ground H.size (z0_tape) (z0_spareGround) (z0_rule) (z0_spareRule) (z0_lines) (z0_spareLines) (z0_steps) (z0_now) (z0_trial) (z0_past) (z0_images) (z0_round) (z0_seating) (z0_fitting) (z0_imagesKept) (z0_refusedSteps) (z0_callsIllegal) (z0_ground_formX) (z0_ground_formY) (z0_ground_foxX) (z0_ground_foxY) (z0_ground_seat) (z0_ground_strength) (z0_ground_debts) (z0_ground_near) (z0_ground_forms) (z0_ground_foxes) (z0_ground_safe) v0_ground_hares v0_callsNoSuch p1 hw) (cwV 1 hts gX10_can_X10_needHare rfl rfl rfl (by decide +kernel) ⟨Nat.le_of_ble_eq_true rfl, Nat.le_of_ble_eq_true rfl⟩) ⟨cPx_blind, va_recv hK hPc (ci := 10) (q0 := 0) rfl rfl, cPx_pre hPc hK hDc hNw hY hS hFc⟩ rfl rfl hl.1 rfl (lv_room (Nat.le_of_ble_eq_true rfl)) dX10_can_2 ⟨Nat.le_of_ble_eq_true rfl, Nat.le_of_ble_eq_true rfl⟩) hS (fun q _ h => hFc q h) hFc (fun q _ h => hFc q h) (fun en ce q9 u t H1 locs ht hvm hpx hB hz1 hk1 hS hc9 hv9 hcl9 => ?_) (fun u t H1 locs ht hvm hw hB hz1 hk1 hS => ?_)
  · obtain ⟨x1, rfl⟩ : ∃ z, z = u := ⟨_, rfl⟩
    obtain ⟨hw, hP1, hK1, hD1⟩ := hB
    rw [ht] at hP1
    obtain ⟨hP, hD⟩ := va_join (wr := []) (w1 := [(a0, .inr (10, [z0_tape, .ref a0_ground, z0_spareGround, z0_rule, z0_spareRule, z0_lines, z0_spareLines, z0_steps, z0_now, z0_trial, z0_past, z0_images, z0_round, z0_seating, z0_fitting, z0_imagesKept, z0_refusedSteps, .int x1, z0_callsIllegal])), (a0_ground, .inr (2, [z0_ground_formX, z0_ground_formY, z0_ground_foxX, z0_ground_foxY, z0_ground_seat, z0_ground_strength, z0_ground_debts, z0_ground_near, z0_ground_forms, .int v0_ground_hares, z0_ground_foxes, z0_ground_safe]))]) hP hD [0, 1] [] rfl rfl (by decide) (by decide) hk1 hFc hP1 hD1
    have hP : va_P (dC, dI) vwCl [(a0, .inr (10, [z0_tape, .ref a0_ground, z0_spareGround, z0_rule, z0_spareRule, z0_lines, z0_spareLines, z0_steps, z0_now, z0_trial, z0_past, z0_images, z0_round, z0_seating, z0_fitting, z0_imagesKept, z0_refusedSteps, .int x1, z0_callsIllegal])), (a0_ground, .inr (2, [z0_ground_formX, z0_ground_formY, z0_ground_foxX, z0_ground_foxY, z0_ground_seat, z0_ground_strength, z0_ground_debts, z0_ground_near, z0_ground_forms, .int v0_ground_hares, z0_ground_foxes, z0_ground_safe]))] H1 := hP
    have hD : va_D A [(a0, .inr (10, [z0_tape, .ref a0_ground, z0_spareGround, z0_rule, z0_spareRule, z0_lines, z0_spareLines, z0_steps, z0_now, z0_trial, z0_past, z0_images, z0_round, z0_seating, z0_fitting, z0_imagesKept, z0_refusedSteps, .int x1, z0_callsIllegal])), (a0_ground, .inr (2, [z0_ground_formX, z0_ground_formY, z0_ground_foxX, z0_ground_foxY, z0_ground_seat, z0_ground_strength, z0_ground_debts, z0_ground_near, z0_ground_forms, .int v0_ground_hares, z0_ground_foxes, z0_ground_safe]))] := hD
    generalize H1 = H at hP hS hc9 ⊢
    exact vx_out (fun x hx9 => (hXs.1 x hx9).elim) hlocks hc9 hv9 hcl9 (fun t2 ht2 hal2 => ⟨(x1), trivial, ⟨hw, by rw [ht2]; exact hP, va_K.moved hal2 hK, hD⟩, hS.F ht2⟩) hS.2.2 (Nat.le_of_ble_eq_true rfl) (Nat.le_of_ble_eq_true rfl)
  obtain ⟨x1, rfl⟩ : ∃ z, z = u := ⟨_, rfl⟩
  obtain ⟨hP1, hK1, hD1⟩ := hB
  rw [ht] at hP1
  obtain ⟨hP, hD⟩ := va_join (wr := []) (w1 := [(a0, .inr (10, [z0_tape, .ref a0_ground, z0_spareGround, z0_rule, z0_spareRule, z0_lines, z0_spareLines, z0_steps, z0_now, z0_trial, z0_past, z0_images, z0_round, z0_seating, z0_fitting, z0_imagesKept, z0_refusedSteps, .int x1, z0_callsIllegal])), (a0_ground, .inr (2, [z0_ground_formX, z0_ground_formY, z0_ground_foxX, z0_ground_foxY, z0_ground_seat, z0_ground_strength, z0_ground_debts, z0_ground_near, z0_ground_forms, .int v0_ground_hares, z0_ground_foxes, z0_ground_safe]))]) hP hD [0, 1] [] rfl rfl (by decide) (by decide) hk1 hFc hP1 hD1
  have hP : va_P (dC, dI) vwCl [(a0, .inr (10, [z0_tape, .ref a0_ground, z0_spareGround, z0_rule, z0_spareRule, z0_lines, z0_spareLines, z0_steps, z0_now, z0_trial, z0_past, z0_images, z0_round, z0_seating, z0_fitting, z0_imagesKept, z0_refusedSteps, .int x1, z0_callsIllegal])), (a0_ground, .inr (2, [z0_ground_formX, z0_ground_formY, z0_ground_foxX, z0_ground_foxY, z0_ground_seat, z0_ground_strength, z0_ground_debts, z0_ground_near, z0_ground_forms, .int v0_ground_hares, z0_ground_foxes, z0_ground_safe]))] H1 := hP
  have hD : va_D A [(a0, .inr (10, [z0_tape, .ref a0_ground, z0_spareGround, z0_rule, z0_spareRule, z0_lines, z0_spareLines, z0_steps, z0_now, z0_trial, z0_past, z0_images, z0_round, z0_seating, z0_fitting, z0_imagesKept, z0_refusedSteps, .int x1, z0_callsIllegal])), (a0_ground, .inr (2, [z0_ground_formX, z0_ground_formY, z0_ground_foxX, z0_ground_foxY, z0_ground_seat, z0_ground_strength, z0_ground_debts, z0_ground_near, z0_ground_forms, .int v0_ground_hares, z0_ground_foxes, z0_ground_safe]))] := hD
  generalize H1 = H at hP hS ⊢
  exact False.elim hw
def wq_X10_clover (v0_ground_hares : Int32) (v0_callsNoSuch : Int32) (p1 : Int32) (p2 : Int32) (p3 : Int32) (E : String → Int32 → Prop) (Q : Int32 → Int32 → Prop) : Prop := wq_X10_needHare v0_ground_hares v0_callsNoSuch p1 (fun en x1 => E en x1) (fun x1 => False)
set_option maxHeartbeats 4000000 in
set_option maxRecDepth 100000 in
theorem ck_X10_clover (l : Launch) (dC : Nat → ClassId) (dI : Nat → Nat → Nat) (cyB cyI cyJ cyP : ClassId) (a0 a0_ground : Nat) (sz : Nat) (z0_tape : Value) (z0_spareGround : Value) (z0_rule : Value) (z0_spareRule : Value) (z0_lines : Value) (z0_spareLines : Value) (z0_steps : Value) (z0_now : Value) (z0_trial : Value) (z0_past : Value) (z0_images : Value) (z0_round : Value) (z0_seating : Value) (z0_fitting : Value) (z0_imagesKept : Value) (z0_refusedSteps : Value) (z0_callsIllegal : Value) (z0_ground_formX : Value) (z0_ground_formY : Value) (z0_ground_foxX : Value) (z0_ground_foxY : Value) (z0_ground_seat : Value) (z0_ground_strength : Value) (z0_ground_debts : Value) (z0_ground_near : Value) (z0_ground_forms : Value) (z0_ground_foxes : Value) (z0_ground_safe : Value) (v0_ground_hares : Int32) (v0_callsNoSuch : Int32) (p1 : Int32) (p2 : Int32) (p3 : Int32) {E : String → Int32 → Prop} {Q : Int32 → Int32 → Prop} (hw : wq_X10_clover v0_ground_hares v0_callsNoSuch p1 p2 p3 E Q) : vx_Met l yX10_clover wsX10_clover ({ frames := 7, cells := 1, slots := 6, locals := 141 }) (va_Pc [.ref a0, .int p1, .int p2, .int p3] (cPx l (dC, dI) (kT cyB cyI cyJ cyP) [(a0, .inr (10, [z0_tape, .ref a0_ground, z0_spareGround, z0_rule, z0_spareRule, z0_lines, z0_spareLines, z0_steps, z0_now, z0_trial, z0_past, z0_images, z0_round, z0_seating, z0_fitting, z0_imagesKept, z0_refusedSteps, .int v0_callsNoSuch, z0_callsIllegal])), (a0_ground, .inr (2, [z0_ground_formX, z0_ground_formY, z0_ground_foxX, z0_ground_foxY, z0_ground_seat, z0_ground_strength, z0_ground_debts, z0_ground_near, z0_ground_forms, .int v0_ground_hares, z0_ground_foxes, z0_ground_safe]))] sz)) (va_Qi (fun (r : Int32) (u : Int32) => Q r u) (cB (dC, dI) (kT cyB cyI cyJ cyP) (va_A [(a0, .inr (10, [z0_tape, .ref a0_ground, z0_spareGround, z0_rule, z0_spareRule, z0_lines, z0_spareLines, z0_steps, z0_now, z0_trial, z0_past, z0_images, z0_round, z0_seating, z0_fitting, z0_imagesKept, z0_refusedSteps, .int v0_callsNoSuch, z0_callsIllegal])), (a0_ground, .inr (2, [z0_ground_formX, z0_ground_formY, z0_ground_foxX, z0_ground_foxY, z0_ground_seat, z0_ground_strength, z0_ground_debts, z0_ground_near, z0_ground_forms, .int v0_ground_hares, z0_ground_foxes, z0_ground_safe]))] sz) (fun u : Int32 => ([(a0, .inr (10, [z0_tape, .ref a0_ground, z0_spareGround, z0_rule, z0_spareRule, z0_lines, z0_spareLines, z0_steps, z0_now, z0_trial, z0_past, z0_images, z0_round, z0_seating, z0_fitting, z0_imagesKept, z0_refusedSteps, .int u, z0_callsIllegal])), (a0_ground, .inr (2, [z0_ground_formX, z0_ground_formY, z0_ground_foxX, z0_ground_foxY, z0_ground_seat, z0_ground_strength, z0_ground_debts, z0_ground_near, z0_ground_forms, .int v0_ground_hares, z0_ground_foxes, z0_ground_safe]))] : va_W))) (va_A [(a0, .inr (10, [z0_tape, .ref a0_ground, z0_spareGround, z0_rule, z0_spareRule, z0_lines, z0_spareLines, z0_steps, z0_now, z0_trial, z0_past, z0_images, z0_round, z0_seating, z0_fitting, z0_imagesKept, z0_refusedSteps, .int v0_callsNoSuch, z0_callsIllegal])), (a0_ground, .inr (2, [z0_ground_formX, z0_ground_formY, z0_ground_foxX, z0_ground_foxY, z0_ground_seat, z0_ground_strength, z0_ground_debts, z0_ground_near, z0_ground_forms, .int v0_ground_hares, z0_ground_foxes, z0_ground_safe]))] sz)) (vx_X (fun _ => True) (fun (en : String) (u : Int32) (t : State) => E en u ∧ cB (dC, dI) (kT cyB cyI cyJ cyP) (va_A [(a0, .inr (10, [z0_tape, .ref a0_ground, z0_spareGround, z0_rule, z0_spareRule, z0_lines, z0_spareLines, z0_steps, z0_now, z0_trial, z0_past, z0_images, z0_round, z0_seating, z0_fitting, z0_imagesKept, z0_refusedSteps, .int v0_callsNoSuch, z0_callsIllegal])), (a0_ground, .inr (2, [z0_ground_formX, z0_ground_formY, z0_ground_foxX, z0_ground_foxY, z0_ground_seat, z0_ground_strength, z0_ground_debts, z0_ground_near, z0_ground_forms, .int v0_ground_hares, z0_ground_foxes, z0_ground_safe]))] sz) (fun u : Int32 => ([(a0, .inr (10, [z0_tape, .ref a0_ground, z0_spareGround, z0_rule, z0_spareRule, z0_lines, z0_spareLines, z0_steps, z0_now, z0_trial, z0_past, z0_images, z0_round, z0_seating, z0_fitting, z0_imagesKept, z0_refusedSteps, .int u, z0_callsIllegal])), (a0_ground, .inr (2, [z0_ground_formX, z0_ground_formY, z0_ground_foxX, z0_ground_foxY, z0_ground_seat, z0_ground_strength, z0_ground_debts, z0_ground_near, z0_ground_forms, .int v0_ground_hares, z0_ground_foxes, z0_ground_safe]))] : va_W)) u t) (va_A [(a0, .inr (10, [z0_tape, .ref a0_ground, z0_spareGround, z0_rule, z0_spareRule, z0_lines, z0_spareLines, z0_steps, z0_now, z0_trial, z0_past, z0_images, z0_round, z0_seating, z0_fitting, z0_imagesKept, z0_refusedSteps, .int v0_callsNoSuch, z0_callsIllegal])), (a0_ground, .inr (2, [z0_ground_formX, z0_ground_formY, z0_ground_foxX, z0_ground_foxY, z0_ground_seat, z0_ground_strength, z0_ground_debts, z0_ground_near, z0_ground_forms, .int v0_ground_hares, z0_ground_foxes, z0_ground_safe]))] sz)) 1 6 (va_A [(a0, .inr (10, [z0_tape, .ref a0_ground, z0_spareGround, z0_rule, z0_spareRule, z0_lines, z0_spareLines, z0_steps, z0_now, z0_trial, z0_past, z0_images, z0_round, z0_seating, z0_fitting, z0_imagesKept, z0_refusedSteps, .int v0_callsNoSuch, z0_callsIllegal])), (a0_ground, .inr (2, [z0_ground_formX, z0_ground_formY, z0_ground_foxX, z0_ground_foxY, z0_ground_seat, z0_ground_strength, z0_ground_debts, z0_ground_near, z0_ground_forms, .int v0_ground_hares, z0_ground_foxes, z0_ground_safe]))] sz) := by
  refine vx_ofW (cc := cX10_clover) (maxL := 4) (ret := (some .int)) (by decide) rfl ?_
  intro p e s m args below meth c s₁ B hml hnt hv
  obtain ⟨rfl, hsz, hP, hK, hD0, hNw, hXl, hXu, hXn, hXt⟩ := hv
  have hx := B.exec
  have hb := B.bytes
  have hr := B.returns
  have hts := atoms_spec (ws := wsX10_clover) B.pre
  have hown : s.vm.findClass RX10 = some m.cls := findClass_of_methodNamed B.named
  have hlocks := B.notSynchronized
  subst hsz
  have hD := hD0.self (sz := s.heap.size)
  generalize hAe : va_A [(a0, .inr (10, [z0_tape, .ref a0_ground, z0_spareGround, z0_rule, z0_spareRule, z0_lines, z0_spareLines, z0_steps, z0_now, z0_trial, z0_past, z0_images, z0_round, z0_seating, z0_fitting, z0_imagesKept, z0_refusedSteps, .int v0_callsNoSuch, z0_callsIllegal])), (a0_ground, .inr (2, [z0_ground_formX, z0_ground_formY, z0_ground_foxX, z0_ground_foxY, z0_ground_seat, z0_ground_strength, z0_ground_debts, z0_ground_near, z0_ground_forms, .int v0_ground_hares, z0_ground_foxes, z0_ground_safe]))] s.heap.size = A at hD hXu hXn ⊢
  have hA : ∀ q : Nat, s.heap.size ≤ q → A q := fun q h => by rw [← hAe]; exact Or.inr h
  have hS : va_S A s.heap s.heap [] := va_S.rf
  have hP : va_P (dC, dI) vwCl [(a0, .inr (10, [z0_tape, .ref a0_ground, z0_spareGround, z0_rule, z0_spareRule, z0_lines, z0_spareLines, z0_steps, z0_now, z0_trial, z0_past, z0_images, z0_round, z0_seating, z0_fitting, z0_imagesKept, z0_refusedSteps, .int v0_callsNoSuch, z0_callsIllegal])), (a0_ground, .inr (2, [z0_ground_formX, z0_ground_formY, z0_ground_foxX, z0_ground_foxY, z0_ground_seat, z0_ground_strength, z0_ground_debts, z0_ground_near, z0_ground_forms, .int v0_ground_hares, z0_ground_foxes, z0_ground_safe]))] s.heap := hP
  have hl := lv_entry ([.ref a0, .int p1, .int p2, .int p3]) (n := 4) (Nat.le_of_ble_eq_true rfl)
  rw [lg_entry_eq]
  generalize (lg_sl ([.ref a0, .int p1, .int p2, .int p3]) ++ List.replicate (4 - (lg_sl ([.ref a0, .int p1, .int p2, .int p3])).length) Slot.unset).toArray = ls at hl ⊢
  have hl : lv_has ls 4 [(0, .ref a0), (1, .int p1), (2, .int p2), (3, .int p3)] := hl
  have hY : cfY l s A := ⟨hXl, hXu, hXn, hXt⟩
  have hXs : cfX l s c A := ⟨hnt, hY⟩
  have C0 : cfx p s m _ meth c cX10_clover (some .int) wsX10_clover RX10 4 A (dC, dI) (kT cyB cyI cyJ cyP) ∧ cfX l s c A := ⟨⟨hx, hb, hr, hts, hown, hlocks, hml, hA, hK, hNw⟩, hXs⟩
  clear hAe
  obtain ⟨H, hH⟩ : ∃ H, H = s.heap := ⟨_, rfl⟩
  rw [← hH] at hP ⊢
  have hS : va_S A s.heap H [] := by rw [hH]; exact va_S.rf
  have hS := hS
  refine lv_aload_n hx hb dX10_clover_0 rfl (lv_at hl 0 rfl) ?_
  refine lv_iload_n hx hb dX10_clover_1 rfl (lv_at hl 1 rfl) ?_
  have hPc := hP.sub (ws' := [(a0, .inr (10, [z0_tape, .ref a0_ground, z0_spareGround, z0_rule, z0_spareRule, z0_lines, z0_spareLines, z0_steps, z0_now, z0_trial, z0_past, z0_images, z0_round, z0_seating, z0_fitting, z0_imagesKept, z0_refusedSteps, .int v0_callsNoSuch, z0_callsIllegal])), (a0_ground, .inr (2, [z0_ground_formX, z0_ground_formY, z0_ground_foxX, z0_ground_foxY, z0_ground_seat, z0_ground_strength, z0_ground_debts, z0_ground_near, z0_ground_forms, .int v0_ground_hares, z0_ground_foxes, z0_ground_safe]))]) [0, 1] rfl
  have hDc := hD.sub (ws' := [(a0, .inr (10, [z0_tape, .ref a0_ground, z0_spareGround, z0_rule, z0_spareRule, z0_lines, z0_spareLines, z0_steps, z0_now, z0_trial, z0_past, z0_images, z0_round, z0_seating, z0_fitting, z0_imagesKept, z0_refusedSteps, .int v0_callsNoSuch, z0_callsIllegal])), (a0_ground, .inr (2, [z0_ground_formX, z0_ground_formY, z0_ground_foxX, z0_ground_foxY, z0_ground_seat, z0_ground_strength, z0_ground_debts, z0_ground_near, z0_ground_forms, .int v0_ground_hares, z0_ground_foxes, z0_ground_safe]))]) [0, 1] (by decide) rfl
  have hFc := va_free (wc := [(a0, .inr (10, [z0_tape, .ref a0_ground, z0_spareGround, z0_rule, z0_spareRule, z0_lines, z0_spareLines, z0_steps, z0_now, z0_trial, z0_past, z0_images, z0_round, z0_seating, z0_fitting, z0_imagesKept, z0_refusedSteps, .int v0_callsNoSuch, z0_callsIllegal])), (a0_ground, .inr (2, [z0_ground_formX, z0_ground_formY, z0_ground_foxX, z0_ground_foxY, z0_ground_seat, z0_ground_strength, z0_ground_debts, z0_ground_near, z0_ground_forms, .int v0_ground_hares, z0_ground_foxes, z0_ground_safe]))]) hD hS hA [0, 1] rfl
  refine vx_callv (vx_runV (As := [.int p1]) (rest := []) ⟨hx, hb, hml, hown, hts⟩ (ck_X10_needHare l dC dI cyB cyI cyJ cyP a0 a0_ground H.size (z0_tape) (z0_spareGround) (z0_rule) (z0_spareRule) (z0_lines) (z0_spareLines) (z0_steps) (z0_now) (z0_trial) (z0_past) (z0_images) (z0_round) (z0_seating) (z0_fitting) (z0_imagesKept) (z0_refusedSteps) (z0_callsIllegal) (z0_ground_formX) (z0_ground_formY) (z0_ground_foxX) (z0_ground_foxY) (z0_ground_seat) (z0_ground_strength) (z0_ground_debts) (z0_ground_near) (z0_ground_forms) (z0_ground_foxes) (z0_ground_safe) v0_ground_hares v0_callsNoSuch p1 hw) (cwV 1 hts gX10_clover_X10_needHare rfl rfl rfl (by decide +kernel) ⟨Nat.le_of_ble_eq_true rfl, Nat.le_of_ble_eq_true rfl⟩) ⟨cPx_blind, va_recv hK hPc (ci := 10) (q0 := 0) rfl rfl, cPx_pre hPc hK hDc hNw hY hS hFc⟩ rfl rfl hl.1 rfl (lv_room (Nat.le_of_ble_eq_true rfl)) dX10_clover_2 ⟨Nat.le_of_ble_eq_true rfl, Nat.le_of_ble_eq_true rfl⟩) hS (fun q _ h => hFc q h) hFc (fun q _ h => hFc q h) (fun en ce q9 u t H1 locs ht hvm hpx hB hz1 hk1 hS hc9 hv9 hcl9 => ?_) (fun u t H1 locs ht hvm hw hB hz1 hk1 hS => ?_)
  · obtain ⟨x1, rfl⟩ : ∃ z, z = u := ⟨_, rfl⟩
    obtain ⟨hw, hP1, hK1, hD1⟩ := hB
    rw [ht] at hP1
    obtain ⟨hP, hD⟩ := va_join (wr := []) (w1 := [(a0, .inr (10, [z0_tape, .ref a0_ground, z0_spareGround, z0_rule, z0_spareRule, z0_lines, z0_spareLines, z0_steps, z0_now, z0_trial, z0_past, z0_images, z0_round, z0_seating, z0_fitting, z0_imagesKept, z0_refusedSteps, .int x1, z0_callsIllegal])), (a0_ground, .inr (2, [z0_ground_formX, z0_ground_formY, z0_ground_foxX, z0_ground_foxY, z0_ground_seat, z0_ground_strength, z0_ground_debts, z0_ground_near, z0_ground_forms, .int v0_ground_hares, z0_ground_foxes, z0_ground_safe]))]) hP hD [0, 1] [] rfl rfl (by decide) (by decide) hk1 hFc hP1 hD1
    have hP : va_P (dC, dI) vwCl [(a0, .inr (10, [z0_tape, .ref a0_ground, z0_spareGround, z0_rule, z0_spareRule, z0_lines, z0_spareLines, z0_steps, z0_now, z0_trial, z0_past, z0_images, z0_round, z0_seating, z0_fitting, z0_imagesKept, z0_refusedSteps, .int x1, z0_callsIllegal])), (a0_ground, .inr (2, [z0_ground_formX, z0_ground_formY, z0_ground_foxX, z0_ground_foxY, z0_ground_seat, z0_ground_strength, z0_ground_debts, z0_ground_near, z0_ground_forms, .int v0_ground_hares, z0_ground_foxes, z0_ground_safe]))] H1 := hP
    have hD : va_D A [(a0, .inr (10, [z0_tape, .ref a0_ground, z0_spareGround, z0_rule, z0_spareRule, z0_lines, z0_spareLines, z0_steps, z0_now, z0_trial, z0_past, z0_images, z0_round, z0_seating, z0_fitting, z0_imagesKept, z0_refusedSteps, .int x1, z0_callsIllegal])), (a0_ground, .inr (2, [z0_ground_formX, z0_ground_formY, z0_ground_foxX, z0_ground_foxY, z0_ground_seat, z0_ground_strength, z0_ground_debts, z0_ground_near, z0_ground_forms, .int v0_ground_hares, z0_ground_foxes, z0_ground_safe]))] := hD
    generalize H1 = H at hP hS hc9 ⊢
    exact vx_out (fun x hx9 => (hXs.1 x hx9).elim) hlocks hc9 hv9 hcl9 (fun t2 ht2 hal2 => ⟨(x1), trivial, ⟨hw, by rw [ht2]; exact hP, va_K.moved hal2 hK, hD⟩, hS.F ht2⟩) hS.2.2 (Nat.le_of_ble_eq_true rfl) (Nat.le_of_ble_eq_true rfl)
  obtain ⟨x1, rfl⟩ : ∃ z, z = u := ⟨_, rfl⟩
  obtain ⟨hP1, hK1, hD1⟩ := hB
  rw [ht] at hP1
  obtain ⟨hP, hD⟩ := va_join (wr := []) (w1 := [(a0, .inr (10, [z0_tape, .ref a0_ground, z0_spareGround, z0_rule, z0_spareRule, z0_lines, z0_spareLines, z0_steps, z0_now, z0_trial, z0_past, z0_images, z0_round, z0_seating, z0_fitting, z0_imagesKept, z0_refusedSteps, .int x1, z0_callsIllegal])), (a0_ground, .inr (2, [z0_ground_formX, z0_ground_formY, z0_ground_foxX, z0_ground_foxY, z0_ground_seat, z0_ground_strength, z0_ground_debts, z0_ground_near, z0_ground_forms, .int v0_ground_hares, z0_ground_foxes, z0_ground_safe]))]) hP hD [0, 1] [] rfl rfl (by decide) (by decide) hk1 hFc hP1 hD1
  have hP : va_P (dC, dI) vwCl [(a0, .inr (10, [z0_tape, .ref a0_ground, z0_spareGround, z0_rule, z0_spareRule, z0_lines, z0_spareLines, z0_steps, z0_now, z0_trial, z0_past, z0_images, z0_round, z0_seating, z0_fitting, z0_imagesKept, z0_refusedSteps, .int x1, z0_callsIllegal])), (a0_ground, .inr (2, [z0_ground_formX, z0_ground_formY, z0_ground_foxX, z0_ground_foxY, z0_ground_seat, z0_ground_strength, z0_ground_debts, z0_ground_near, z0_ground_forms, .int v0_ground_hares, z0_ground_foxes, z0_ground_safe]))] H1 := hP
  have hD : va_D A [(a0, .inr (10, [z0_tape, .ref a0_ground, z0_spareGround, z0_rule, z0_spareRule, z0_lines, z0_spareLines, z0_steps, z0_now, z0_trial, z0_past, z0_images, z0_round, z0_seating, z0_fitting, z0_imagesKept, z0_refusedSteps, .int x1, z0_callsIllegal])), (a0_ground, .inr (2, [z0_ground_formX, z0_ground_formY, z0_ground_foxX, z0_ground_foxY, z0_ground_seat, z0_ground_strength, z0_ground_debts, z0_ground_near, z0_ground_forms, .int v0_ground_hares, z0_ground_foxes, z0_ground_safe]))] := hD
  generalize H1 = H at hP hS ⊢
  exact False.elim hw
def wq_X10_debt (v0_ground_hares : Int32) (v0_callsNoSuch : Int32) (p1 : Int32) (p2 : Int32) (E : String → Int32 → Prop) (Q : Int32 → Int32 → Prop) : Prop := wq_X10_needHare v0_ground_hares v0_callsNoSuch p1 (fun en x1 => E en x1) (fun x1 => False)
set_option maxHeartbeats 4000000 in
set_option maxRecDepth 100000 in
theorem ck_X10_debt (l : Launch) (dC : Nat → ClassId) (dI : Nat → Nat → Nat) (cyB cyI cyJ cyP : ClassId) (a0 a0_ground : Nat) (sz : Nat) (z0_tape : Value) (z0_spareGround : Value) (z0_rule : Value) (z0_spareRule : Value) (z0_lines : Value) (z0_spareLines : Value) (z0_steps : Value) (z0_now : Value) (z0_trial : Value) (z0_past : Value) (z0_images : Value) (z0_round : Value) (z0_seating : Value) (z0_fitting : Value) (z0_imagesKept : Value) (z0_refusedSteps : Value) (z0_callsIllegal : Value) (z0_ground_formX : Value) (z0_ground_formY : Value) (z0_ground_foxX : Value) (z0_ground_foxY : Value) (z0_ground_seat : Value) (z0_ground_strength : Value) (z0_ground_debts : Value) (z0_ground_near : Value) (z0_ground_forms : Value) (z0_ground_foxes : Value) (z0_ground_safe : Value) (v0_ground_hares : Int32) (v0_callsNoSuch : Int32) (p1 : Int32) (p2 : Int32) {E : String → Int32 → Prop} {Q : Int32 → Int32 → Prop} (hw : wq_X10_debt v0_ground_hares v0_callsNoSuch p1 p2 E Q) : vx_Met l yX10_debt wsX10_debt ({ frames := 7, cells := 1, slots := 6, locals := 141 }) (va_Pc [.ref a0, .int p1, .int p2] (cPx l (dC, dI) (kT cyB cyI cyJ cyP) [(a0, .inr (10, [z0_tape, .ref a0_ground, z0_spareGround, z0_rule, z0_spareRule, z0_lines, z0_spareLines, z0_steps, z0_now, z0_trial, z0_past, z0_images, z0_round, z0_seating, z0_fitting, z0_imagesKept, z0_refusedSteps, .int v0_callsNoSuch, z0_callsIllegal])), (a0_ground, .inr (2, [z0_ground_formX, z0_ground_formY, z0_ground_foxX, z0_ground_foxY, z0_ground_seat, z0_ground_strength, z0_ground_debts, z0_ground_near, z0_ground_forms, .int v0_ground_hares, z0_ground_foxes, z0_ground_safe]))] sz)) (va_Qi (fun (r : Int32) (u : Int32) => Q r u) (cB (dC, dI) (kT cyB cyI cyJ cyP) (va_A [(a0, .inr (10, [z0_tape, .ref a0_ground, z0_spareGround, z0_rule, z0_spareRule, z0_lines, z0_spareLines, z0_steps, z0_now, z0_trial, z0_past, z0_images, z0_round, z0_seating, z0_fitting, z0_imagesKept, z0_refusedSteps, .int v0_callsNoSuch, z0_callsIllegal])), (a0_ground, .inr (2, [z0_ground_formX, z0_ground_formY, z0_ground_foxX, z0_ground_foxY, z0_ground_seat, z0_ground_strength, z0_ground_debts, z0_ground_near, z0_ground_forms, .int v0_ground_hares, z0_ground_foxes, z0_ground_safe]))] sz) (fun u : Int32 => ([(a0, .inr (10, [z0_tape, .ref a0_ground, z0_spareGround, z0_rule, z0_spareRule, z0_lines, z0_spareLines, z0_steps, z0_now, z0_trial, z0_past, z0_images, z0_round, z0_seating, z0_fitting, z0_imagesKept, z0_refusedSteps, .int u, z0_callsIllegal])), (a0_ground, .inr (2, [z0_ground_formX, z0_ground_formY, z0_ground_foxX, z0_ground_foxY, z0_ground_seat, z0_ground_strength, z0_ground_debts, z0_ground_near, z0_ground_forms, .int v0_ground_hares, z0_ground_foxes, z0_ground_safe]))] : va_W))) (va_A [(a0, .inr (10, [z0_tape, .ref a0_ground, z0_spareGround, z0_rule, z0_spareRule, z0_lines, z0_spareLines, z0_steps, z0_now, z0_trial, z0_past, z0_images, z0_round, z0_seating, z0_fitting, z0_imagesKept, z0_refusedSteps, .int v0_callsNoSuch, z0_callsIllegal])), (a0_ground, .inr (2, [z0_ground_formX, z0_ground_formY, z0_ground_foxX, z0_ground_foxY, z0_ground_seat, z0_ground_strength, z0_ground_debts, z0_ground_near, z0_ground_forms, .int v0_ground_hares, z0_ground_foxes, z0_ground_safe]))] sz)) (vx_X (fun _ => True) (fun (en : String) (u : Int32) (t : State) => E en u ∧ cB (dC, dI) (kT cyB cyI cyJ cyP) (va_A [(a0, .inr (10, [z0_tape, .ref a0_ground, z0_spareGround, z0_rule, z0_spareRule, z0_lines, z0_spareLines, z0_steps, z0_now, z0_trial, z0_past, z0_images, z0_round, z0_seating, z0_fitting, z0_imagesKept, z0_refusedSteps, .int v0_callsNoSuch, z0_callsIllegal])), (a0_ground, .inr (2, [z0_ground_formX, z0_ground_formY, z0_ground_foxX, z0_ground_foxY, z0_ground_seat, z0_ground_strength, z0_ground_debts, z0_ground_near, z0_ground_forms, .int v0_ground_hares, z0_ground_foxes, z0_ground_safe]))] sz) (fun u : Int32 => ([(a0, .inr (10, [z0_tape, .ref a0_ground, z0_spareGround, z0_rule, z0_spareRule, z0_lines, z0_spareLines, z0_steps, z0_now, z0_trial, z0_past, z0_images, z0_round, z0_seating, z0_fitting, z0_imagesKept, z0_refusedSteps, .int u, z0_callsIllegal])), (a0_ground, .inr (2, [z0_ground_formX, z0_ground_formY, z0_ground_foxX, z0_ground_foxY, z0_ground_seat, z0_ground_strength, z0_ground_debts, z0_ground_near, z0_ground_forms, .int v0_ground_hares, z0_ground_foxes, z0_ground_safe]))] : va_W)) u t) (va_A [(a0, .inr (10, [z0_tape, .ref a0_ground, z0_spareGround, z0_rule, z0_spareRule, z0_lines, z0_spareLines, z0_steps, z0_now, z0_trial, z0_past, z0_images, z0_round, z0_seating, z0_fitting, z0_imagesKept, z0_refusedSteps, .int v0_callsNoSuch, z0_callsIllegal])), (a0_ground, .inr (2, [z0_ground_formX, z0_ground_formY, z0_ground_foxX, z0_ground_foxY, z0_ground_seat, z0_ground_strength, z0_ground_debts, z0_ground_near, z0_ground_forms, .int v0_ground_hares, z0_ground_foxes, z0_ground_safe]))] sz)) 1 6 (va_A [(a0, .inr (10, [z0_tape, .ref a0_ground, z0_spareGround, z0_rule, z0_spareRule, z0_lines, z0_spareLines, z0_steps, z0_now, z0_trial, z0_past, z0_images, z0_round, z0_seating, z0_fitting, z0_imagesKept, z0_refusedSteps, .int v0_callsNoSuch, z0_callsIllegal])), (a0_ground, .inr (2, [z0_ground_formX, z0_ground_formY, z0_ground_foxX, z0_ground_foxY, z0_ground_seat, z0_ground_strength, z0_ground_debts, z0_ground_near, z0_ground_forms, .int v0_ground_hares, z0_ground_foxes, z0_ground_safe]))] sz) := by
  refine vx_ofW (cc := cX10_debt) (maxL := 3) (ret := (some .int)) (by decide) rfl ?_
  intro p e s m args below meth c s₁ B hml hnt hv
  obtain ⟨rfl, hsz, hP, hK, hD0, hNw, hXl, hXu, hXn, hXt⟩ := hv
  have hx := B.exec
  have hb := B.bytes
  have hr := B.returns
  have hts := atoms_spec (ws := wsX10_debt) B.pre
  have hown : s.vm.findClass RX10 = some m.cls := findClass_of_methodNamed B.named
  have hlocks := B.notSynchronized
  subst hsz
  have hD := hD0.self (sz := s.heap.size)
  generalize hAe : va_A [(a0, .inr (10, [z0_tape, .ref a0_ground, z0_spareGround, z0_rule, z0_spareRule, z0_lines, z0_spareLines, z0_steps, z0_now, z0_trial, z0_past, z0_images, z0_round, z0_seating, z0_fitting, z0_imagesKept, z0_refusedSteps, .int v0_callsNoSuch, z0_callsIllegal])), (a0_ground, .inr (2, [z0_ground_formX, z0_ground_formY, z0_ground_foxX, z0_ground_foxY, z0_ground_seat, z0_ground_strength, z0_ground_debts, z0_ground_near, z0_ground_forms, .int v0_ground_hares, z0_ground_foxes, z0_ground_safe]))] s.heap.size = A at hD hXu hXn ⊢
  have hA : ∀ q : Nat, s.heap.size ≤ q → A q := fun q h => by rw [← hAe]; exact Or.inr h
  have hS : va_S A s.heap s.heap [] := va_S.rf
  have hP : va_P (dC, dI) vwCl [(a0, .inr (10, [z0_tape, .ref a0_ground, z0_spareGround, z0_rule, z0_spareRule, z0_lines, z0_spareLines, z0_steps, z0_now, z0_trial, z0_past, z0_images, z0_round, z0_seating, z0_fitting, z0_imagesKept, z0_refusedSteps, .int v0_callsNoSuch, z0_callsIllegal])), (a0_ground, .inr (2, [z0_ground_formX, z0_ground_formY, z0_ground_foxX, z0_ground_foxY, z0_ground_seat, z0_ground_strength, z0_ground_debts, z0_ground_near, z0_ground_forms, .int v0_ground_hares, z0_ground_foxes, z0_ground_safe]))] s.heap := hP
  have hl := lv_entry ([.ref a0, .int p1, .int p2]) (n := 3) (Nat.le_of_ble_eq_true rfl)
  rw [lg_entry_eq]
  generalize (lg_sl ([.ref a0, .int p1, .int p2]) ++ List.replicate (3 - (lg_sl ([.ref a0, .int p1, .int p2])).length) Slot.unset).toArray = ls at hl ⊢
  have hl : lv_has ls 3 [(0, .ref a0), (1, .int p1), (2, .int p2)] := hl
  have hY : cfY l s A := ⟨hXl, hXu, hXn, hXt⟩
  have hXs : cfX l s c A := ⟨hnt, hY⟩
  have C0 : cfx p s m _ meth c cX10_debt (some .int) wsX10_debt RX10 3 A (dC, dI) (kT cyB cyI cyJ cyP) ∧ cfX l s c A := ⟨⟨hx, hb, hr, hts, hown, hlocks, hml, hA, hK, hNw⟩, hXs⟩
  clear hAe
  obtain ⟨H, hH⟩ : ∃ H, H = s.heap := ⟨_, rfl⟩
  rw [← hH] at hP ⊢
  have hS : va_S A s.heap H [] := by rw [hH]; exact va_S.rf
  have hS := hS
  refine lv_aload_n hx hb dX10_debt_0 rfl (lv_at hl 0 rfl) ?_
  refine lv_iload_n hx hb dX10_debt_1 rfl (lv_at hl 1 rfl) ?_
  have hPc := hP.sub (ws' := [(a0, .inr (10, [z0_tape, .ref a0_ground, z0_spareGround, z0_rule, z0_spareRule, z0_lines, z0_spareLines, z0_steps, z0_now, z0_trial, z0_past, z0_images, z0_round, z0_seating, z0_fitting, z0_imagesKept, z0_refusedSteps, .int v0_callsNoSuch, z0_callsIllegal])), (a0_ground, .inr (2, [z0_ground_formX, z0_ground_formY, z0_ground_foxX, z0_ground_foxY, z0_ground_seat, z0_ground_strength, z0_ground_debts, z0_ground_near, z0_ground_forms, .int v0_ground_hares, z0_ground_foxes, z0_ground_safe]))]) [0, 1] rfl
  have hDc := hD.sub (ws' := [(a0, .inr (10, [z0_tape, .ref a0_ground, z0_spareGround, z0_rule, z0_spareRule, z0_lines, z0_spareLines, z0_steps, z0_now, z0_trial, z0_past, z0_images, z0_round, z0_seating, z0_fitting, z0_imagesKept, z0_refusedSteps, .int v0_callsNoSuch, z0_callsIllegal])), (a0_ground, .inr (2, [z0_ground_formX, z0_ground_formY, z0_ground_foxX, z0_ground_foxY, z0_ground_seat, z0_ground_strength, z0_ground_debts, z0_ground_near, z0_ground_forms, .int v0_ground_hares, z0_ground_foxes, z0_ground_safe]))]) [0, 1] (by decide) rfl
  have hFc := va_free (wc := [(a0, .inr (10, [z0_tape, .ref a0_ground, z0_spareGround, z0_rule, z0_spareRule, z0_lines, z0_spareLines, z0_steps, z0_now, z0_trial, z0_past, z0_images, z0_round, z0_seating, z0_fitting, z0_imagesKept, z0_refusedSteps, .int v0_callsNoSuch, z0_callsIllegal])), (a0_ground, .inr (2, [z0_ground_formX, z0_ground_formY, z0_ground_foxX, z0_ground_foxY, z0_ground_seat, z0_ground_strength, z0_ground_debts, z0_ground_near, z0_ground_forms, .int v0_ground_hares, z0_ground_foxes, z0_ground_safe]))]) hD hS hA [0, 1] rfl
  refine vx_callv (vx_runV (As := [.int p1]) (rest := []) ⟨hx, hb, hml, hown, hts⟩ (ck_X10_needHare l dC dI cyB cyI cyJ cyP a0 a0_ground H.size (z0_tape) (z0_spareGround) (z0_rule) (z0_spareRule) (z0_lines) (z0_spareLines) (z0_steps) (z0_now) (z0_trial) (z0_past) (z0_images) (z0_round) (z0_seating) (z0_fitting) (z0_imagesKept) (z0_refusedSteps) (z0_callsIllegal) (z0_ground_formX) (z0_ground_formY) (z0_ground_foxX) (z0_ground_foxY) (z0_ground_seat) (z0_ground_strength) (z0_ground_debts) (z0_ground_near) (z0_ground_forms) (z0_ground_foxes) (z0_ground_safe) v0_ground_hares v0_callsNoSuch p1 hw) (cwV 1 hts gX10_debt_X10_needHare rfl rfl rfl (by decide +kernel) ⟨Nat.le_of_ble_eq_true rfl, Nat.le_of_ble_eq_true rfl⟩) ⟨cPx_blind, va_recv hK hPc (ci := 10) (q0 := 0) rfl rfl, cPx_pre hPc hK hDc hNw hY hS hFc⟩ rfl rfl hl.1 rfl (lv_room (Nat.le_of_ble_eq_true rfl)) dX10_debt_2 ⟨Nat.le_of_ble_eq_true rfl, Nat.le_of_ble_eq_true rfl⟩) hS (fun q _ h => hFc q h) hFc (fun q _ h => hFc q h) (fun en ce q9 u t H1 locs ht hvm hpx hB hz1 hk1 hS hc9 hv9 hcl9 => ?_) (fun u t H1 locs ht hvm hw hB hz1 hk1 hS => ?_)
  · obtain ⟨x1, rfl⟩ : ∃ z, z = u := ⟨_, rfl⟩
    obtain ⟨hw, hP1, hK1, hD1⟩ := hB
    rw [ht] at hP1
    obtain ⟨hP, hD⟩ := va_join (wr := []) (w1 := [(a0, .inr (10, [z0_tape, .ref a0_ground, z0_spareGround, z0_rule, z0_spareRule, z0_lines, z0_spareLines, z0_steps, z0_now, z0_trial, z0_past, z0_images, z0_round, z0_seating, z0_fitting, z0_imagesKept, z0_refusedSteps, .int x1, z0_callsIllegal])), (a0_ground, .inr (2, [z0_ground_formX, z0_ground_formY, z0_ground_foxX, z0_ground_foxY, z0_ground_seat, z0_ground_strength, z0_ground_debts, z0_ground_near, z0_ground_forms, .int v0_ground_hares, z0_ground_foxes, z0_ground_safe]))]) hP hD [0, 1] [] rfl rfl (by decide) (by decide) hk1 hFc hP1 hD1
    have hP : va_P (dC, dI) vwCl [(a0, .inr (10, [z0_tape, .ref a0_ground, z0_spareGround, z0_rule, z0_spareRule, z0_lines, z0_spareLines, z0_steps, z0_now, z0_trial, z0_past, z0_images, z0_round, z0_seating, z0_fitting, z0_imagesKept, z0_refusedSteps, .int x1, z0_callsIllegal])), (a0_ground, .inr (2, [z0_ground_formX, z0_ground_formY, z0_ground_foxX, z0_ground_foxY, z0_ground_seat, z0_ground_strength, z0_ground_debts, z0_ground_near, z0_ground_forms, .int v0_ground_hares, z0_ground_foxes, z0_ground_safe]))] H1 := hP
    have hD : va_D A [(a0, .inr (10, [z0_tape, .ref a0_ground, z0_spareGround, z0_rule, z0_spareRule, z0_lines, z0_spareLines, z0_steps, z0_now, z0_trial, z0_past, z0_images, z0_round, z0_seating, z0_fitting, z0_imagesKept, z0_refusedSteps, .int x1, z0_callsIllegal])), (a0_ground, .inr (2, [z0_ground_formX, z0_ground_formY, z0_ground_foxX, z0_ground_foxY, z0_ground_seat, z0_ground_strength, z0_ground_debts, z0_ground_near, z0_ground_forms, .int v0_ground_hares, z0_ground_foxes, z0_ground_safe]))] := hD
    generalize H1 = H at hP hS hc9 ⊢
    exact vx_out (fun x hx9 => (hXs.1 x hx9).elim) hlocks hc9 hv9 hcl9 (fun t2 ht2 hal2 => ⟨(x1), trivial, ⟨hw, by rw [ht2]; exact hP, va_K.moved hal2 hK, hD⟩, hS.F ht2⟩) hS.2.2 (Nat.le_of_ble_eq_true rfl) (Nat.le_of_ble_eq_true rfl)
  obtain ⟨x1, rfl⟩ : ∃ z, z = u := ⟨_, rfl⟩
  obtain ⟨hP1, hK1, hD1⟩ := hB
  rw [ht] at hP1
  obtain ⟨hP, hD⟩ := va_join (wr := []) (w1 := [(a0, .inr (10, [z0_tape, .ref a0_ground, z0_spareGround, z0_rule, z0_spareRule, z0_lines, z0_spareLines, z0_steps, z0_now, z0_trial, z0_past, z0_images, z0_round, z0_seating, z0_fitting, z0_imagesKept, z0_refusedSteps, .int x1, z0_callsIllegal])), (a0_ground, .inr (2, [z0_ground_formX, z0_ground_formY, z0_ground_foxX, z0_ground_foxY, z0_ground_seat, z0_ground_strength, z0_ground_debts, z0_ground_near, z0_ground_forms, .int v0_ground_hares, z0_ground_foxes, z0_ground_safe]))]) hP hD [0, 1] [] rfl rfl (by decide) (by decide) hk1 hFc hP1 hD1
  have hP : va_P (dC, dI) vwCl [(a0, .inr (10, [z0_tape, .ref a0_ground, z0_spareGround, z0_rule, z0_spareRule, z0_lines, z0_spareLines, z0_steps, z0_now, z0_trial, z0_past, z0_images, z0_round, z0_seating, z0_fitting, z0_imagesKept, z0_refusedSteps, .int x1, z0_callsIllegal])), (a0_ground, .inr (2, [z0_ground_formX, z0_ground_formY, z0_ground_foxX, z0_ground_foxY, z0_ground_seat, z0_ground_strength, z0_ground_debts, z0_ground_near, z0_ground_forms, .int v0_ground_hares, z0_ground_foxes, z0_ground_safe]))] H1 := hP
  have hD : va_D A [(a0, .inr (10, [z0_tape, .ref a0_ground, z0_spareGround, z0_rule, z0_spareRule, z0_lines, z0_spareLines, z0_steps, z0_now, z0_trial, z0_past, z0_images, z0_round, z0_seating, z0_fitting, z0_imagesKept, z0_refusedSteps, .int x1, z0_callsIllegal])), (a0_ground, .inr (2, [z0_ground_formX, z0_ground_formY, z0_ground_foxX, z0_ground_foxY, z0_ground_seat, z0_ground_strength, z0_ground_debts, z0_ground_near, z0_ground_forms, .int v0_ground_hares, z0_ground_foxes, z0_ground_safe]))] := hD
  generalize H1 = H at hP hS ⊢
  exact False.elim hw
theorem ui_X2_findSafe_X2 : ∀ w ∈ u_ws RX2 TX2 12, w ∈ wsX2_findSafe := by decide +kernel
theorem uw_X2_findSafe_f101 : (.fieldLink RX2 101 "MarchHares$Down" "safe" "I" : Cond) ∈ wsX2_findSafe := by decide +kernel
theorem uw_X2_findSafe_f36 : (.fieldLink RX2 36 "MarchHares$Down" "forms" "I" : Cond) ∈ wsX2_findSafe := by decide +kernel
def wl_X2_findSafe_7 (v0_forms : Int32) (Q : Int32 → Prop)  : Nat → Int32 → Int32 → Prop
  | 0, _, _ => False
  | n + 1, v0_safe, l1 => ((v0_forms ≤ l1 → (Q v0_safe)) ∧ (¬ v0_forms ≤ l1 → False))
set_option maxHeartbeats 4000000 in
set_option maxRecDepth 100000 in
theorem kl_X2_findSafe_7 {p : Program} {l : Launch} {e : Env} {s : State} {m : MethodId} {args : Array Value} {below : List Frame} {meth : Method} {c : Code} {A : Nat → Prop} (dC : Nat → ClassId) (dI : Nat → Nat → Nat) (cyB cyI cyJ cyP : ClassId) (a0 : Nat) (z0_formX : Value) (z0_formY : Value) (z0_foxX : Value) (z0_foxY : Value) (z0_seat : Value) (z0_strength : Value) (z0_debts : Value) (z0_near : Value) (z0_hares : Value) (z0_foxes : Value) (v0_forms : Int32) (Q : Int32 → Prop)  (C0 : cfx p s m args meth c cX2_findSafe none wsX2_findSafe RX2 2 A (dC, dI) (kT cyB cyI cyJ cyP)) : ∀ (n : Nat) (H : Heap) (locs : List Loc) (ls : Array Slot) (v0_safe : Int32) (l1 : Int32), va_P (dC, dI) vwCl [(a0, .inr (2, [z0_formX, z0_formY, z0_foxX, z0_foxY, z0_seat, z0_strength, z0_debts, z0_near, .int v0_forms, z0_hares, z0_foxes, .int v0_safe]))] H → va_D A [(a0, .inr (2, [z0_formX, z0_formY, z0_foxX, z0_foxY, z0_seat, z0_strength, z0_debts, z0_near, .int v0_forms, z0_hares, z0_foxes, .int v0_safe]))] → va_S A s.heap H locs → lv_has ls 2 [(0, .ref a0), (1, .int l1)] → wl_X2_findSafe_7 v0_forms Q  n v0_safe l1 → W p l e (headSpec wsX2_findSafe ({ frames := 0, cells := 0, slots := 0, locals := 0 })).room s m args below meth c H locs 0 0 (MQ below (va_Qv (fun (u : Int32) => Q u) (cB (dC, dI) (kT cyB cyI cyJ cyP) A (fun u : Int32 => ([(a0, .inr (2, [z0_formX, z0_formY, z0_foxX, z0_foxY, z0_seat, z0_strength, z0_debts, z0_near, .int v0_forms, z0_hares, z0_foxes, .int u]))] : va_W))) A) args s 0 0 A) (F0 m 7 ls []) := by
  obtain ⟨hx, hb, hr, hts, hown, hlocks, hml, hA, hK, hNw⟩ := id C0
  intro n
  induction n with
  | zero => intro H locs ls v0_safe l1 hP hD hS hl hw; exact False.elim hw
  | succ n ih =>
    intro H locs ls v0_safe l1 hP hD hS hl hw
    refine lv_iload_n hx hb dX2_findSafe_7 rfl (lv_at hl 1 rfl) ?_
    refine lv_aload_n hx hb dX2_findSafe_8 rfl (lv_at hl 0 rfl) ?_
    refine va_get (D := (dC, dI)) (ci := 2) (v := .int v0_forms) (C := RX2) (T := TX2) (N := 12) hx hb hts ui_X2_findSafe_X2 hown hK hP 0 rfl rfl 8 (by decide) (hts _ uw_X2_findSafe_f36) (fun _ h9 => h9) rfl dX2_findSafe_9 ?_
    refine lv_icmp_ge (tgt := 41) hx hb dX2_findSafe_12 (by decide) (fun c1 => ?_) (fun c1 => ?_)
    · have hw := hw.1 c1
      exact ((W.vret hx hb hr (fun t ht hW => ⟨⟨(v0_safe), rfl, hw, by rw [ht]; exact hP, va_K.moved hW.alike hK, hD⟩, hS.F ht⟩) hS.2.2 dX2_findSafe_41))
    · have hw := hw.2 c1
      exact False.elim hw
def wq_X2_findSafe (v0_forms : Int32) (v0_safe : Int32)  (Q : Int32 → Prop) : Prop := (∃ k9 : Nat, wl_X2_findSafe_7 v0_forms Q  k9 0 0)
set_option maxHeartbeats 4000000 in
set_option maxRecDepth 100000 in
theorem ck_X2_findSafe (l : Launch) (dC : Nat → ClassId) (dI : Nat → Nat → Nat) (cyB cyI cyJ cyP : ClassId) (a0 : Nat) (sz : Nat) (z0_formX : Value) (z0_formY : Value) (z0_foxX : Value) (z0_foxY : Value) (z0_seat : Value) (z0_strength : Value) (z0_debts : Value) (z0_near : Value) (z0_hares : Value) (z0_foxes : Value) (v0_forms : Int32) (v0_safe : Int32)  {Q : Int32 → Prop} (hw : wq_X2_findSafe v0_forms v0_safe  Q) : Met l yX2_findSafe wsX2_findSafe ({ frames := 0, cells := 0, slots := 0, locals := 0 }) (va_Pc [.ref a0] (cPc (dC, dI) (kT cyB cyI cyJ cyP) [(a0, .inr (2, [z0_formX, z0_formY, z0_foxX, z0_foxY, z0_seat, z0_strength, z0_debts, z0_near, .int v0_forms, z0_hares, z0_foxes, .int v0_safe]))] sz)) (va_Qv (fun (u : Int32) => Q u) (cB (dC, dI) (kT cyB cyI cyJ cyP) (va_A [(a0, .inr (2, [z0_formX, z0_formY, z0_foxX, z0_foxY, z0_seat, z0_strength, z0_debts, z0_near, .int v0_forms, z0_hares, z0_foxes, .int v0_safe]))] sz) (fun u : Int32 => ([(a0, .inr (2, [z0_formX, z0_formY, z0_foxX, z0_foxY, z0_seat, z0_strength, z0_debts, z0_near, .int v0_forms, z0_hares, z0_foxes, .int u]))] : va_W))) (va_A [(a0, .inr (2, [z0_formX, z0_formY, z0_foxX, z0_foxY, z0_seat, z0_strength, z0_debts, z0_near, .int v0_forms, z0_hares, z0_foxes, .int v0_safe]))] sz)) 0 0 (va_A [(a0, .inr (2, [z0_formX, z0_formY, z0_foxX, z0_foxY, z0_seat, z0_strength, z0_debts, z0_near, .int v0_forms, z0_hares, z0_foxes, .int v0_safe]))] sz) := by
  refine Met.ofW (cc := cX2_findSafe) (maxL := 2) (ret := none) (by decide) rfl ?_
  intro p e s m args below meth c s₁ B hml hv
  obtain ⟨rfl, hsz, hP, hK, hD0, hNw⟩ := hv
  have hx := B.exec
  have hb := B.bytes
  have hr := B.returns
  have hts := atoms_spec (ws := wsX2_findSafe) B.pre
  have hown : s.vm.findClass RX2 = some m.cls := findClass_of_methodNamed B.named
  have hlocks := B.notSynchronized
  subst hsz
  have hD := hD0.self (sz := s.heap.size)
  generalize hAe : va_A [(a0, .inr (2, [z0_formX, z0_formY, z0_foxX, z0_foxY, z0_seat, z0_strength, z0_debts, z0_near, .int v0_forms, z0_hares, z0_foxes, .int v0_safe]))] s.heap.size = A at hD ⊢
  have hA : ∀ q : Nat, s.heap.size ≤ q → A q := fun q h => by rw [← hAe]; exact Or.inr h
  have hS : va_S A s.heap s.heap [] := va_S.rf
  have hP : va_P (dC, dI) vwCl [(a0, .inr (2, [z0_formX, z0_formY, z0_foxX, z0_foxY, z0_seat, z0_strength, z0_debts, z0_near, .int v0_forms, z0_hares, z0_foxes, .int v0_safe]))] s.heap := hP
  have hl := lv_entry ([.ref a0]) (n := 2) (Nat.le_of_ble_eq_true rfl)
  rw [lg_entry_eq]
  generalize (lg_sl ([.ref a0]) ++ List.replicate (2 - (lg_sl ([.ref a0])).length) Slot.unset).toArray = ls at hl ⊢
  have hl : lv_has ls 2 [(0, .ref a0)] := hl
  have C0 : cfx p s m _ meth c cX2_findSafe none wsX2_findSafe RX2 2 A (dC, dI) (kT cyB cyI cyJ cyP) := ⟨hx, hb, hr, hts, hown, hlocks, hml, hA, hK, hNw⟩
  clear hAe
  obtain ⟨H, hH⟩ : ∃ H, H = s.heap := ⟨_, rfl⟩
  rw [← hH] at hP ⊢
  have hS : va_S A s.heap H [] := by rw [hH]; exact va_S.rf
  have hS := hS
  refine lv_aload_n hx hb dX2_findSafe_0 rfl (lv_at hl 0 rfl) ?_
  refine lv_iconst (v := 0) hx hb dX2_findSafe_1 (by decide) ?_
  refine va_put (D := (dC, dI)) (ci := 2) (v := .int 0) (ty := .int) (C := RX2) (T := TX2) (N := 12) hx hb hts ui_X2_findSafe_X2 tyX2 tyX2_ok nmX2 hown hK hP hD hS 0 rfl rfl 11 (by decide) (hts _ uw_X2_findSafe_f101) (fun _ h9 => h9) rfl (by decide +kernel) rfl rfl (Nat.le_of_ble_eq_true rfl) dX2_findSafe_2 (fun H locs hP hD hS => ?_)
  have hP : va_P (dC, dI) vwCl [(a0, .inr (2, [z0_formX, z0_formY, z0_foxX, z0_foxY, z0_seat, z0_strength, z0_debts, z0_near, .int v0_forms, z0_hares, z0_foxes, .int 0]))] H := hP
  have hD : va_D A [(a0, .inr (2, [z0_formX, z0_formY, z0_foxX, z0_foxY, z0_seat, z0_strength, z0_debts, z0_near, .int v0_forms, z0_hares, z0_foxes, .int 0]))] := hD
  refine lv_iconst (v := 0) hx hb dX2_findSafe_5 (by decide) ?_
  refine lv_istore_n (lv' := [(1, .int 0), (0, .ref a0)]) hx hb dX2_findSafe_6 rfl hl (by decide) rfl (fun ls hl => ?_)
  obtain ⟨n9, hw⟩ := hw
  exact kl_X2_findSafe_7 dC dI cyB cyI cyJ cyP a0 z0_formX z0_formY z0_foxX z0_foxY z0_seat z0_strength z0_debts z0_near z0_hares z0_foxes v0_forms Q  C0 n9 _ _ _ 0 0 hP hD hS (lv_sub hl [1, 0] rfl) hw
theorem ui_X2_readFrom_X2 : ∀ w ∈ u_ws RX2 TX2 12, w ∈ wsX2_readFrom := by decide +kernel
theorem uw_X2_readFrom_f30 : (.fieldLink RX2 30 "MarchHares$Down" "debts" "[I" : Cond) ∈ wsX2_readFrom := by decide +kernel
theorem uw_X2_readFrom_f36 : (.fieldLink RX2 36 "MarchHares$Down" "forms" "I" : Cond) ∈ wsX2_readFrom := by decide +kernel
theorem uw_X2_readFrom_f40 : (.fieldLink RX2 40 "MarchHares$Down" "hares" "I" : Cond) ∈ wsX2_readFrom := by decide +kernel
theorem uw_X2_readFrom_f43 : (.fieldLink RX2 43 "MarchHares$Down" "foxes" "I" : Cond) ∈ wsX2_readFrom := by decide +kernel
def wb_X2_readFrom_83 (v1_length : Int32) (v1_at : Int32) (v1_fault : Int32) (Q : Int32 → Int32 → Int32 → (Nat → Int32) → Int32 → Prop)  (v0_forms : Int32) (v0_hares : Int32) (v0_foxes : Int32) (f0_debts : Nat → Int32) (v0_safe : Int32) : Prop := wq_X2_findSafe v0_forms v0_safe  (fun x9 => (Q v0_forms v0_hares v0_foxes f0_debts x9))
set_option maxHeartbeats 4000000 in
set_option maxRecDepth 100000 in
theorem kb_X2_readFrom_83 {p : Program} {l : Launch} {e : Env} {s : State} {m : MethodId} {args : Array Value} {below : List Frame} {meth : Method} {c : Code} {A : Nat → Prop} (dC : Nat → ClassId) (dI : Nat → Nat → Nat) (cyB cyI cyJ cyP : ClassId) (a0 a1 a0_debts : Nat) (z0_formX : Value) (z0_formY : Value) (z0_foxX : Value) (z0_foxY : Value) (z0_seat : Value) (z0_strength : Value) (z0_near : Value) (z1_bytes : Value) (z1_token : Value) (z1_filled : Value) (z1_faultPlace : Value) (v1_length : Int32) (v1_at : Int32) (v1_fault : Int32) (Q : Int32 → Int32 → Int32 → (Nat → Int32) → Int32 → Prop)  (C0 : cfx p s m args meth c cX2_readFrom none wsX2_readFrom RX2 3 A (dC, dI) (kT cyB cyI cyJ cyP)) : ∀ (H : Heap) (locs : List Loc) (ls : Array Slot) (v0_forms : Int32) (v0_hares : Int32) (v0_foxes : Int32) (f0_debts : Nat → Int32) (v0_safe : Int32), va_P (dC, dI) vwCl [(a0, .inr (2, [z0_formX, z0_formY, z0_foxX, z0_foxY, z0_seat, z0_strength, .ref a0_debts, z0_near, .int v0_forms, .int v0_hares, .int v0_foxes, .int v0_safe])), (a0_debts, .inl (cyI, 36, .inl f0_debts)), (a1, .inr (8, [z1_bytes, .int v1_length, .int v1_at, z1_token, z1_filled, .int v1_fault, z1_faultPlace]))] H → va_D A [(a0, .inr (2, [z0_formX, z0_formY, z0_foxX, z0_foxY, z0_seat, z0_strength, .ref a0_debts, z0_near, .int v0_forms, .int v0_hares, .int v0_foxes, .int v0_safe])), (a0_debts, .inl (cyI, 36, .inl f0_debts)), (a1, .inr (8, [z1_bytes, .int v1_length, .int v1_at, z1_token, z1_filled, .int v1_fault, z1_faultPlace]))] → va_S A s.heap H locs → lv_has ls 3 [(0, .ref a0)] → wb_X2_readFrom_83 v1_length v1_at v1_fault Q  v0_forms v0_hares v0_foxes f0_debts v0_safe → W p l e (headSpec wsX2_readFrom ({ frames := 2, cells := 0, slots := 0, locals := 40 })).room s m args below meth c H locs 0 0 (MQ below (va_Qv (fun (u : Int32 × Int32 × Int32 × (Nat → Int32) × Int32) => Q u.1 u.2.1 u.2.2.1 u.2.2.2.1 u.2.2.2.2) (cB (dC, dI) (kT cyB cyI cyJ cyP) A (fun u : Int32 × Int32 × Int32 × (Nat → Int32) × Int32 => ([(a0, .inr (2, [z0_formX, z0_formY, z0_foxX, z0_foxY, z0_seat, z0_strength, .ref a0_debts, z0_near, .int u.1, .int u.2.1, .int u.2.2.1, .int u.2.2.2.2])), (a0_debts, .inl (cyI, 36, .inl u.2.2.2.1)), (a1, .inr (8, [z1_bytes, .int v1_length, .int v1_at, z1_token, z1_filled, .int v1_fault, z1_faultPlace]))] : va_W))) A) args s 0 0 A) (F0 m 83 ls []) := by
  obtain ⟨hx, hb, hr, hts, hown, hlocks, hml, hA, hK, hNw⟩ := id C0
  intro H locs ls v0_forms v0_hares v0_foxes f0_debts v0_safe hP hD hS hl hw
  refine lv_aload_n hx hb dX2_readFrom_83 rfl (lv_at hl 0 rfl) ?_
  have hPc := hP.sub (ws' := [(a0, .inr (2, [z0_formX, z0_formY, z0_foxX, z0_foxY, z0_seat, z0_strength, .ref a0_debts, z0_near, .int v0_forms, .int v0_hares, .int v0_foxes, .int v0_safe]))]) [0] rfl
  have hDc := hD.sub (ws' := [(a0, .inr (2, [z0_formX, z0_formY, z0_foxX, z0_foxY, z0_seat, z0_strength, .ref a0_debts, z0_near, .int v0_forms, .int v0_hares, .int v0_foxes, .int v0_safe]))]) [0] (by decide) rfl
  have hFc := va_free (wc := [(a0, .inr (2, [z0_formX, z0_formY, z0_foxX, z0_foxY, z0_seat, z0_strength, .ref a0_debts, z0_near, .int v0_forms, .int v0_hares, .int v0_foxes, .int v0_safe]))]) hD hS hA [0] rfl
  refine va_callv (va_runV (As := []) (rest := []) ⟨hx, hb, hml, hown, hts⟩ (ck_X2_findSafe l dC dI cyB cyI cyJ cyP a0 H.size (z0_formX) (z0_formY) (z0_foxX) (z0_foxY) (z0_seat) (z0_strength) (.ref a0_debts) (z0_near) (.int v0_hares) (.int v0_foxes) v0_forms v0_safe  hw) (cwV 0 hts gX2_readFrom_X2_findSafe rfl rfl rfl (by decide +kernel) ⟨Nat.le_of_ble_eq_true rfl, Nat.le_of_ble_eq_true rfl⟩) ⟨cPc_blind, va_recv hK hPc (ci := 2) (q0 := 0) rfl rfl, cPc_pre hPc hK hDc hNw⟩ rfl rfl hl.1 rfl (lv_room (Nat.le_of_ble_eq_true rfl)) dX2_readFrom_84 ⟨Nat.le_of_ble_eq_true rfl, Nat.le_of_ble_eq_true rfl⟩) hS (fun q _ h => hFc q h) hFc (fun u t H1 locs ht hvm hw hB hz1 hk1 hS => ?_)
  obtain ⟨x9, rfl⟩ : ∃ z, z = u := ⟨_, rfl⟩
  obtain ⟨hP1, hK1, hD1⟩ := hB
  rw [ht] at hP1
  obtain ⟨hP, hD⟩ := va_join (wr := [(a0_debts, .inl (cyI, 36, .inl f0_debts)), (a1, .inr (8, [z1_bytes, .int v1_length, .int v1_at, z1_token, z1_filled, .int v1_fault, z1_faultPlace]))]) (w1 := [(a0, .inr (2, [z0_formX, z0_formY, z0_foxX, z0_foxY, z0_seat, z0_strength, .ref a0_debts, z0_near, .int v0_forms, .int v0_hares, .int v0_foxes, .int x9]))]) hP hD [0] [1, 2] rfl rfl (by decide) (by decide) hk1 hFc hP1 hD1
  have hP : va_P (dC, dI) vwCl [(a0, .inr (2, [z0_formX, z0_formY, z0_foxX, z0_foxY, z0_seat, z0_strength, .ref a0_debts, z0_near, .int v0_forms, .int v0_hares, .int v0_foxes, .int x9])), (a0_debts, .inl (cyI, 36, .inl f0_debts)), (a1, .inr (8, [z1_bytes, .int v1_length, .int v1_at, z1_token, z1_filled, .int v1_fault, z1_faultPlace]))] H1 := hP.sub [2, 0, 1] rfl
  have hD : va_D A [(a0, .inr (2, [z0_formX, z0_formY, z0_foxX, z0_foxY, z0_seat, z0_strength, .ref a0_debts, z0_near, .int v0_forms, .int v0_hares, .int v0_foxes, .int x9])), (a0_debts, .inl (cyI, 36, .inl f0_debts)), (a1, .inr (8, [z1_bytes, .int v1_length, .int v1_at, z1_token, z1_filled, .int v1_fault, z1_faultPlace]))] := hD.sub [2, 0, 1] (by decide) rfl
  generalize H1 = H at hP hS ⊢
  exact ((W.vret hx hb hr (fun t ht hW => ⟨⟨(v0_forms, v0_hares, v0_foxes, f0_debts, x9), rfl, hw, by rw [ht]; exact hP, va_K.moved hW.alike hK, hD⟩, hS.F ht⟩) hS.2.2 dX2_readFrom_87))
def wl_X2_readFrom_41 (v1_length : Int32) (v1_at : Int32) (v1_fault : Int32) (Q : Int32 → Int32 → Int32 → (Nat → Int32) → Int32 → Prop)  : Nat → Int32 → Int32 → Int32 → (Nat → Int32) → Int32 → Int32 → Prop
  | 0, _, _, _, _, _, _ => False
  | n + 1, v0_forms, v0_hares, v0_foxes, f0_debts, v0_safe, l2 => ((60 < l2 → (wb_X2_readFrom_83 v1_length v1_at v1_fault Q  v0_forms v0_hares v0_foxes f0_debts v0_safe)) ∧ (¬ 60 < l2 → wq_X8_isFaulty v1_fault   (fun r5 => ((¬ r5 = 0 → (wb_X2_readFrom_83 v1_length v1_at v1_fault Q  v0_forms v0_hares v0_foxes f0_debts v0_safe)) ∧ (r5 = 0 → wq_X8_isEnded v1_length v1_at   (fun r7 => ((¬ r7 = 0 → (wb_X2_readFrom_83 v1_length v1_at v1_fault Q  v0_forms v0_hares v0_foxes f0_debts v0_safe)) ∧ (r7 = 0 → False))))))))
set_option maxHeartbeats 4000000 in
set_option maxRecDepth 100000 in
theorem kl_X2_readFrom_41 {p : Program} {l : Launch} {e : Env} {s : State} {m : MethodId} {args : Array Value} {below : List Frame} {meth : Method} {c : Code} {A : Nat → Prop} (dC : Nat → ClassId) (dI : Nat → Nat → Nat) (cyB cyI cyJ cyP : ClassId) (a0 a1 a0_debts : Nat) (z0_formX : Value) (z0_formY : Value) (z0_foxX : Value) (z0_foxY : Value) (z0_seat : Value) (z0_strength : Value) (z0_near : Value) (z1_bytes : Value) (z1_token : Value) (z1_filled : Value) (z1_faultPlace : Value) (v1_length : Int32) (v1_at : Int32) (v1_fault : Int32) (Q : Int32 → Int32 → Int32 → (Nat → Int32) → Int32 → Prop)  (C0 : cfx p s m args meth c cX2_readFrom none wsX2_readFrom RX2 3 A (dC, dI) (kT cyB cyI cyJ cyP)) : ∀ (n : Nat) (H : Heap) (locs : List Loc) (ls : Array Slot) (v0_forms : Int32) (v0_hares : Int32) (v0_foxes : Int32) (f0_debts : Nat → Int32) (v0_safe : Int32) (l2 : Int32), va_P (dC, dI) vwCl [(a0, .inr (2, [z0_formX, z0_formY, z0_foxX, z0_foxY, z0_seat, z0_strength, .ref a0_debts, z0_near, .int v0_forms, .int v0_hares, .int v0_foxes, .int v0_safe])), (a0_debts, .inl (cyI, 36, .inl f0_debts)), (a1, .inr (8, [z1_bytes, .int v1_length, .int v1_at, z1_token, z1_filled, .int v1_fault, z1_faultPlace]))] H → va_D A [(a0, .inr (2, [z0_formX, z0_formY, z0_foxX, z0_foxY, z0_seat, z0_strength, .ref a0_debts, z0_near, .int v0_forms, .int v0_hares, .int v0_foxes, .int v0_safe])), (a0_debts, .inl (cyI, 36, .inl f0_debts)), (a1, .inr (8, [z1_bytes, .int v1_length, .int v1_at, z1_token, z1_filled, .int v1_fault, z1_faultPlace]))] → va_S A s.heap H locs → lv_has ls 3 [(0, .ref a0), (1, .ref a1), (2, .int l2)] → wl_X2_readFrom_41 v1_length v1_at v1_fault Q  n v0_forms v0_hares v0_foxes f0_debts v0_safe l2 → W p l e (headSpec wsX2_readFrom ({ frames := 2, cells := 0, slots := 0, locals := 40 })).room s m args below meth c H locs 0 0 (MQ below (va_Qv (fun (u : Int32 × Int32 × Int32 × (Nat → Int32) × Int32) => Q u.1 u.2.1 u.2.2.1 u.2.2.2.1 u.2.2.2.2) (cB (dC, dI) (kT cyB cyI cyJ cyP) A (fun u : Int32 × Int32 × Int32 × (Nat → Int32) × Int32 => ([(a0, .inr (2, [z0_formX, z0_formY, z0_foxX, z0_foxY, z0_seat, z0_strength, .ref a0_debts, z0_near, .int u.1, .int u.2.1, .int u.2.2.1, .int u.2.2.2.2])), (a0_debts, .inl (cyI, 36, .inl u.2.2.2.1)), (a1, .inr (8, [z1_bytes, .int v1_length, .int v1_at, z1_token, z1_filled, .int v1_fault, z1_faultPlace]))] : va_W))) A) args s 0 0 A) (F0 m 41 ls []) := by
  obtain ⟨hx, hb, hr, hts, hown, hlocks, hml, hA, hK, hNw⟩ := id C0
  intro n
  induction n with
  | zero => intro H locs ls v0_forms v0_hares v0_foxes f0_debts v0_safe l2 hP hD hS hl hw; exact False.elim hw
  | succ n ih =>
    intro H locs ls v0_forms v0_hares v0_foxes f0_debts v0_safe l2 hP hD hS hl hw
    refine lv_iload_n hx hb dX2_readFrom_41 rfl (lv_at hl 2 rfl) ?_
    refine lv_bipush (v := 60) hx hb dX2_readFrom_42 (by decide) ?_
    refine lv_icmp_gt (tgt := 83) hx hb dX2_readFrom_44 (by decide) (fun c4 => ?_) (fun c4 => ?_)
    · have hw := hw.1 c4
      exact kb_X2_readFrom_83 dC dI cyB cyI cyJ cyP a0 a1 a0_debts z0_formX z0_formY z0_foxX z0_foxY z0_seat z0_strength z0_near z1_bytes z1_token z1_filled z1_faultPlace v1_length v1_at v1_fault Q  C0 _ _ _ v0_forms v0_hares v0_foxes f0_debts v0_safe hP hD hS (lv_sub hl [0] rfl) hw
    · have hw := hw.2 c4
      refine lv_aload_n hx hb dX2_readFrom_47 rfl (lv_at hl 1 rfl) ?_
      have hPc := hP.sub (ws' := [(a1, .inr (8, [z1_bytes, .int v1_length, .int v1_at, z1_token, z1_filled, .int v1_fault, z1_faultPlace]))]) [2] rfl
      have hDc := hD.sub (ws' := [(a1, .inr (8, [z1_bytes, .int v1_length, .int v1_at, z1_token, z1_filled, .int v1_fault, z1_faultPlace]))]) [2] (by decide) rfl
      have hFc := va_free (wc := [(a1, .inr (8, [z1_bytes, .int v1_length, .int v1_at, z1_token, z1_filled, .int v1_fault, z1_faultPlace]))]) hD hS hA [2] rfl
      refine va_calli (va_runV (As := []) (rest := []) ⟨hx, hb, hml, hown, hts⟩ (ck_X8_isFaulty l dC dI cyB cyI cyJ cyP a1 H.size (z1_bytes) (.int v1_length) (.int v1_at) (z1_token) (z1_filled) (z1_faultPlace) v1_fault   hw) (cwV 0 hts gX2_readFrom_X8_isFaulty rfl rfl rfl (by decide +kernel) ⟨Nat.le_of_ble_eq_true rfl, Nat.le_of_ble_eq_true rfl⟩) ⟨cPc_blind, va_recv hK hPc (ci := 8) (q0 := 0) rfl rfl, cPc_pre hPc hK hDc hNw⟩ rfl rfl hl.1 rfl (lv_room (Nat.le_of_ble_eq_true rfl)) dX2_readFrom_48 ⟨Nat.le_of_ble_eq_true rfl, Nat.le_of_ble_eq_true rfl⟩) hS (fun q _ h => hFc q h) hFc (fun r5 u t H1 locs ht hvm hw hB hz1 hk1 hS => ?_)
      obtain ⟨hP1, hK1, hD1⟩ := hB
      rw [ht] at hP1
      obtain ⟨hP, hD⟩ := va_join (wr := [(a0, .inr (2, [z0_formX, z0_formY, z0_foxX, z0_foxY, z0_seat, z0_strength, .ref a0_debts, z0_near, .int v0_forms, .int v0_hares, .int v0_foxes, .int v0_safe])), (a0_debts, .inl (cyI, 36, .inl f0_debts))]) (w1 := [(a1, .inr (8, [z1_bytes, .int v1_length, .int v1_at, z1_token, z1_filled, .int v1_fault, z1_faultPlace]))]) hP hD [2] [0, 1] rfl rfl (by decide) (by decide) hk1 hFc hP1 hD1
      have hP : va_P (dC, dI) vwCl [(a0, .inr (2, [z0_formX, z0_formY, z0_foxX, z0_foxY, z0_seat, z0_strength, .ref a0_debts, z0_near, .int v0_forms, .int v0_hares, .int v0_foxes, .int v0_safe])), (a0_debts, .inl (cyI, 36, .inl f0_debts)), (a1, .inr (8, [z1_bytes, .int v1_length, .int v1_at, z1_token, z1_filled, .int v1_fault, z1_faultPlace]))] H1 := hP
      have hD : va_D A [(a0, .inr (2, [z0_formX, z0_formY, z0_foxX, z0_foxY, z0_seat, z0_strength, .ref a0_debts, z0_near, .int v0_forms, .int v0_hares, .int v0_foxes, .int v0_safe])), (a0_debts, .inl (cyI, 36, .inl f0_debts)), (a1, .inr (8, [z1_bytes, .int v1_length, .int v1_at, z1_token, z1_filled, .int v1_fault, z1_faultPlace]))] := hD
      generalize H1 = H at hP hS ⊢
      refine lv_if_ne (tgt := 83) hx hb dX2_readFrom_51 (by decide) (fun c6 => ?_) (fun c6 => ?_)
      · have hw := hw.1 c6
        exact kb_X2_readFrom_83 dC dI cyB cyI cyJ cyP a0 a1 a0_debts z0_formX z0_formY z0_foxX z0_foxY z0_seat z0_strength z0_near z1_bytes z1_token z1_filled z1_faultPlace v1_length v1_at v1_fault Q  C0 _ _ _ v0_forms v0_hares v0_foxes f0_debts v0_safe hP hD hS (lv_sub hl [0] rfl) hw
      · have hw := hw.2 c6
        refine lv_aload_n hx hb dX2_readFrom_54 rfl (lv_at hl 1 rfl) ?_
        have hPc := hP.sub (ws' := [(a1, .inr (8, [z1_bytes, .int v1_length, .int v1_at, z1_token, z1_filled, .int v1_fault, z1_faultPlace]))]) [2] rfl
        have hDc := hD.sub (ws' := [(a1, .inr (8, [z1_bytes, .int v1_length, .int v1_at, z1_token, z1_filled, .int v1_fault, z1_faultPlace]))]) [2] (by decide) rfl
        have hFc := va_free (wc := [(a1, .inr (8, [z1_bytes, .int v1_length, .int v1_at, z1_token, z1_filled, .int v1_fault, z1_faultPlace]))]) hD hS hA [2] rfl
        refine va_calli (va_runV (As := []) (rest := []) ⟨hx, hb, hml, hown, hts⟩ (ck_X8_isEnded l dC dI cyB cyI cyJ cyP a1 H.size (z1_bytes) (z1_token) (z1_filled) (.int v1_fault) (z1_faultPlace) v1_length v1_at   hw) (cwV 0 hts gX2_readFrom_X8_isEnded rfl rfl rfl (by decide +kernel) ⟨Nat.le_of_ble_eq_true rfl, Nat.le_of_ble_eq_true rfl⟩) ⟨cPc_blind, va_recv hK hPc (ci := 8) (q0 := 0) rfl rfl, cPc_pre hPc hK hDc hNw⟩ rfl rfl hl.1 rfl (lv_room (Nat.le_of_ble_eq_true rfl)) dX2_readFrom_55 ⟨Nat.le_of_ble_eq_true rfl, Nat.le_of_ble_eq_true rfl⟩) hS (fun q _ h => hFc q h) hFc (fun r7 u t H1 locs ht hvm hw hB hz1 hk1 hS => ?_)
        obtain ⟨hP1, hK1, hD1⟩ := hB
        rw [ht] at hP1
        obtain ⟨hP, hD⟩ := va_join (wr := [(a0, .inr (2, [z0_formX, z0_formY, z0_foxX, z0_foxY, z0_seat, z0_strength, .ref a0_debts, z0_near, .int v0_forms, .int v0_hares, .int v0_foxes, .int v0_safe])), (a0_debts, .inl (cyI, 36, .inl f0_debts))]) (w1 := [(a1, .inr (8, [z1_bytes, .int v1_length, .int v1_at, z1_token, z1_filled, .int v1_fault, z1_faultPlace]))]) hP hD [2] [0, 1] rfl rfl (by decide) (by decide) hk1 hFc hP1 hD1
        have hP : va_P (dC, dI) vwCl [(a0, .inr (2, [z0_formX, z0_formY, z0_foxX, z0_foxY, z0_seat, z0_strength, .ref a0_debts, z0_near, .int v0_forms, .int v0_hares, .int v0_foxes, .int v0_safe])), (a0_debts, .inl (cyI, 36, .inl f0_debts)), (a1, .inr (8, [z1_bytes, .int v1_length, .int v1_at, z1_token, z1_filled, .int v1_fault, z1_faultPlace]))] H1 := hP
        have hD : va_D A [(a0, .inr (2, [z0_formX, z0_formY, z0_foxX, z0_foxY, z0_seat, z0_strength, .ref a0_debts, z0_near, .int v0_forms, .int v0_hares, .int v0_foxes, .int v0_safe])), (a0_debts, .inl (cyI, 36, .inl f0_debts)), (a1, .inr (8, [z1_bytes, .int v1_length, .int v1_at, z1_token, z1_filled, .int v1_fault, z1_faultPlace]))] := hD
        generalize H1 = H at hP hS ⊢
        refine lv_if_ne (tgt := 83) hx hb dX2_readFrom_58 (by decide) (fun c8 => ?_) (fun c8 => ?_)
        · have hw := hw.1 c8
          exact kb_X2_readFrom_83 dC dI cyB cyI cyJ cyP a0 a1 a0_debts z0_formX z0_formY z0_foxX z0_foxY z0_seat z0_strength z0_near z1_bytes z1_token z1_filled z1_faultPlace v1_length v1_at v1_fault Q  C0 _ _ _ v0_forms v0_hares v0_foxes f0_debts v0_safe hP hD hS (lv_sub hl [0] rfl) hw
        · have hw := hw.2 c8
          exact False.elim hw
def wl_X2_readFrom_17 (v1_length : Int32) (v1_at : Int32) (v1_fault : Int32) (Q : Int32 → Int32 → Int32 → (Nat → Int32) → Int32 → Prop)  : Nat → Int32 → Int32 → Int32 → (Nat → Int32) → Int32 → Int32 → Prop
  | 0, _, _, _, _, _, _ => False
  | n + 1, v0_forms, v0_hares, v0_foxes, f0_debts, v0_safe, l2 => ((36 ≤ l2 → (∃ k9 : Nat, wl_X2_readFrom_41 v1_length v1_at v1_fault Q  k9 v0_forms v0_hares v0_foxes f0_debts v0_safe 0)) ∧ (¬ 36 ≤ l2 → vp_in l2 36 ∧ ∀ f2 : Nat → Int32, f2 = upd f0_debts l2.toNatClampNeg 0 → ∀ x3 : Int32, x3 = l2 + 1 → (wl_X2_readFrom_17 v1_length v1_at v1_fault Q  n v0_forms v0_hares v0_foxes f2 v0_safe x3)))
set_option maxHeartbeats 4000000 in
set_option maxRecDepth 100000 in
theorem kl_X2_readFrom_17 {p : Program} {l : Launch} {e : Env} {s : State} {m : MethodId} {args : Array Value} {below : List Frame} {meth : Method} {c : Code} {A : Nat → Prop} (dC : Nat → ClassId) (dI : Nat → Nat → Nat) (cyB cyI cyJ cyP : ClassId) (a0 a1 a0_debts : Nat) (z0_formX : Value) (z0_formY : Value) (z0_foxX : Value) (z0_foxY : Value) (z0_seat : Value) (z0_strength : Value) (z0_near : Value) (z1_bytes : Value) (z1_token : Value) (z1_filled : Value) (z1_faultPlace : Value) (v1_length : Int32) (v1_at : Int32) (v1_fault : Int32) (Q : Int32 → Int32 → Int32 → (Nat → Int32) → Int32 → Prop)  (C0 : cfx p s m args meth c cX2_readFrom none wsX2_readFrom RX2 3 A (dC, dI) (kT cyB cyI cyJ cyP)) : ∀ (n : Nat) (H : Heap) (locs : List Loc) (ls : Array Slot) (v0_forms : Int32) (v0_hares : Int32) (v0_foxes : Int32) (f0_debts : Nat → Int32) (v0_safe : Int32) (l2 : Int32), va_P (dC, dI) vwCl [(a0, .inr (2, [z0_formX, z0_formY, z0_foxX, z0_foxY, z0_seat, z0_strength, .ref a0_debts, z0_near, .int v0_forms, .int v0_hares, .int v0_foxes, .int v0_safe])), (a0_debts, .inl (cyI, 36, .inl f0_debts)), (a1, .inr (8, [z1_bytes, .int v1_length, .int v1_at, z1_token, z1_filled, .int v1_fault, z1_faultPlace]))] H → va_D A [(a0, .inr (2, [z0_formX, z0_formY, z0_foxX, z0_foxY, z0_seat, z0_strength, .ref a0_debts, z0_near, .int v0_forms, .int v0_hares, .int v0_foxes, .int v0_safe])), (a0_debts, .inl (cyI, 36, .inl f0_debts)), (a1, .inr (8, [z1_bytes, .int v1_length, .int v1_at, z1_token, z1_filled, .int v1_fault, z1_faultPlace]))] → va_S A s.heap H locs → lv_has ls 3 [(0, .ref a0), (1, .ref a1), (2, .int l2)] → wl_X2_readFrom_17 v1_length v1_at v1_fault Q  n v0_forms v0_hares v0_foxes f0_debts v0_safe l2 → W p l e (headSpec wsX2_readFrom ({ frames := 2, cells := 0, slots := 0, locals := 40 })).room s m args below meth c H locs 0 0 (MQ below (va_Qv (fun (u : Int32 × Int32 × Int32 × (Nat → Int32) × Int32) => Q u.1 u.2.1 u.2.2.1 u.2.2.2.1 u.2.2.2.2) (cB (dC, dI) (kT cyB cyI cyJ cyP) A (fun u : Int32 × Int32 × Int32 × (Nat → Int32) × Int32 => ([(a0, .inr (2, [z0_formX, z0_formY, z0_foxX, z0_foxY, z0_seat, z0_strength, .ref a0_debts, z0_near, .int u.1, .int u.2.1, .int u.2.2.1, .int u.2.2.2.2])), (a0_debts, .inl (cyI, 36, .inl u.2.2.2.1)), (a1, .inr (8, [z1_bytes, .int v1_length, .int v1_at, z1_token, z1_filled, .int v1_fault, z1_faultPlace]))] : va_W))) A) args s 0 0 A) (F0 m 17 ls []) := by
  obtain ⟨hx, hb, hr, hts, hown, hlocks, hml, hA, hK, hNw⟩ := id C0
  intro n
  induction n with
  | zero => intro H locs ls v0_forms v0_hares v0_foxes f0_debts v0_safe l2 hP hD hS hl hw; exact False.elim hw
  | succ n ih =>
    intro H locs ls v0_forms v0_hares v0_foxes f0_debts v0_safe l2 hP hD hS hl hw
    refine lv_iload_n hx hb dX2_readFrom_17 rfl (lv_at hl 2 rfl) ?_
    refine lv_aload_n hx hb dX2_readFrom_18 rfl (lv_at hl 0 rfl) ?_
    refine va_get (D := (dC, dI)) (ci := 2) (v := .ref a0_debts) (C := RX2) (T := TX2) (N := 12) hx hb hts ui_X2_readFrom_X2 hown hK hP 0 rfl rfl 6 (by decide) (hts _ uw_X2_readFrom_f30) (fun _ h9 => h9) rfl dX2_readFrom_19 ?_
    refine va_alen (v := 36) hx hb hK hP 1 1 rfl rfl rfl dX2_readFrom_22 ?_
    refine lv_icmp_ge (tgt := 39) hx hb dX2_readFrom_23 (by decide) (fun c1 => ?_) (fun c1 => ?_)
    · have hw := hw.1 c1
      refine lv_iconst (v := 0) hx hb dX2_readFrom_39 (by decide) ?_
      refine lv_istore_n (lv' := [(2, .int 0), (0, .ref a0), (1, .ref a1)]) hx hb dX2_readFrom_40 rfl hl (by decide) rfl (fun ls hl => ?_)
      obtain ⟨n9, hw⟩ := hw
      exact kl_X2_readFrom_41 dC dI cyB cyI cyJ cyP a0 a1 a0_debts z0_formX z0_formY z0_foxX z0_foxY z0_seat z0_strength z0_near z1_bytes z1_token z1_filled z1_faultPlace v1_length v1_at v1_fault Q  C0 n9 _ _ _ v0_forms v0_hares v0_foxes f0_debts v0_safe 0 hP hD hS (lv_sub hl [1, 2, 0] rfl) hw
    · have hw := hw.2 c1
      refine lv_aload_n hx hb dX2_readFrom_26 rfl (lv_at hl 0 rfl) ?_
      refine va_get (D := (dC, dI)) (ci := 2) (v := .ref a0_debts) (C := RX2) (T := TX2) (N := 12) hx hb hts ui_X2_readFrom_X2 hown hK hP 0 rfl rfl 6 (by decide) (hts _ uw_X2_readFrom_f30) (fun _ h9 => h9) rfl dX2_readFrom_27 ?_
      refine lv_iload_n hx hb dX2_readFrom_30 rfl (lv_at hl 2 rfl) ?_
      refine lv_iconst (v := 0) hx hb dX2_readFrom_31 (by decide) ?_
      obtain ⟨hi9, hw⟩ := hw
      refine va_iast hx hb hK hP hD hS 1 1 rfl rfl hi9 dX2_readFrom_32 (fun H locs hP hD hS => ?_)
      obtain ⟨f2, ef2⟩ : ∃ y : Nat → Int32, y = upd f0_debts l2.toNatClampNeg 0 := ⟨_, rfl⟩
      have hw := hw f2 ef2
      have hP : va_P (dC, dI) vwCl [(a0, .inr (2, [z0_formX, z0_formY, z0_foxX, z0_foxY, z0_seat, z0_strength, .ref a0_debts, z0_near, .int v0_forms, .int v0_hares, .int v0_foxes, .int v0_safe])), (a0_debts, .inl (cyI, 36, .inl f2)), (a1, .inr (8, [z1_bytes, .int v1_length, .int v1_at, z1_token, z1_filled, .int v1_fault, z1_faultPlace]))] H := by rw [ef2]; exact hP
      have hD : va_D A [(a0, .inr (2, [z0_formX, z0_formY, z0_foxX, z0_foxY, z0_seat, z0_strength, .ref a0_debts, z0_near, .int v0_forms, .int v0_hares, .int v0_foxes, .int v0_safe])), (a0_debts, .inl (cyI, 36, .inl f2)), (a1, .inr (8, [z1_bytes, .int v1_length, .int v1_at, z1_token, z1_filled, .int v1_fault, z1_faultPlace]))] := by rw [ef2]; exact hD
      obtain ⟨x3, ex3⟩ : ∃ y : Int32, y = l2 + 1 := ⟨_, rfl⟩
      have hw := hw x3 ex3
      refine lv_iinc (v := x3) (lv' := [(2, .int x3), (0, .ref a0), (1, .ref a1)]) hx hb dX2_readFrom_33 hl (k := 2) rfl (by rw [ex3]; rfl) (by decide) rfl (fun ls hl => ?_)
      refine lv_goto (tgt := 17) hx hb dX2_readFrom_36 (by decide) ?_
      exact ih _ _ _ v0_forms v0_hares v0_foxes f2 v0_safe x3 hP hD hS (lv_sub hl [1, 2, 0] rfl) hw
def wq_X2_readFrom (v1_length : Int32) (v1_at : Int32) (v1_fault : Int32) (v0_forms : Int32) (v0_hares : Int32) (v0_foxes : Int32) (f0_debts : Nat → Int32) (v0_safe : Int32)  (Q : Int32 → Int32 → Int32 → (Nat → Int32) → Int32 → Prop) : Prop := (∃ k9 : Nat, wl_X2_readFrom_17 v1_length v1_at v1_fault Q  k9 0 0 0 f0_debts v0_safe 0)
set_option maxHeartbeats 4000000 in
set_option maxRecDepth 100000 in
theorem ck_X2_readFrom (l : Launch) (dC : Nat → ClassId) (dI : Nat → Nat → Nat) (cyB cyI cyJ cyP : ClassId) (a0 a1 a0_debts : Nat) (sz : Nat) (z0_formX : Value) (z0_formY : Value) (z0_foxX : Value) (z0_foxY : Value) (z0_seat : Value) (z0_strength : Value) (z0_near : Value) (z1_bytes : Value) (z1_token : Value) (z1_filled : Value) (z1_faultPlace : Value) (v1_length : Int32) (v1_at : Int32) (v1_fault : Int32) (v0_forms : Int32) (v0_hares : Int32) (v0_foxes : Int32) (f0_debts : Nat → Int32) (v0_safe : Int32)  {Q : Int32 → Int32 → Int32 → (Nat → Int32) → Int32 → Prop} (hw : wq_X2_readFrom v1_length v1_at v1_fault v0_forms v0_hares v0_foxes f0_debts v0_safe  Q) : Met l yX2_readFrom wsX2_readFrom ({ frames := 2, cells := 0, slots := 0, locals := 40 }) (va_Pc [.ref a0, .ref a1] (cPc (dC, dI) (kT cyB cyI cyJ cyP) [(a0, .inr (2, [z0_formX, z0_formY, z0_foxX, z0_foxY, z0_seat, z0_strength, .ref a0_debts, z0_near, .int v0_forms, .int v0_hares, .int v0_foxes, .int v0_safe])), (a0_debts, .inl (cyI, 36, .inl f0_debts)), (a1, .inr (8, [z1_bytes, .int v1_length, .int v1_at, z1_token, z1_filled, .int v1_fault, z1_faultPlace]))] sz)) (va_Qv (fun (u : Int32 × Int32 × Int32 × (Nat → Int32) × Int32) => Q u.1 u.2.1 u.2.2.1 u.2.2.2.1 u.2.2.2.2) (cB (dC, dI) (kT cyB cyI cyJ cyP) (va_A [(a0, .inr (2, [z0_formX, z0_formY, z0_foxX, z0_foxY, z0_seat, z0_strength, .ref a0_debts, z0_near, .int v0_forms, .int v0_hares, .int v0_foxes, .int v0_safe])), (a0_debts, .inl (cyI, 36, .inl f0_debts)), (a1, .inr (8, [z1_bytes, .int v1_length, .int v1_at, z1_token, z1_filled, .int v1_fault, z1_faultPlace]))] sz) (fun u : Int32 × Int32 × Int32 × (Nat → Int32) × Int32 => ([(a0, .inr (2, [z0_formX, z0_formY, z0_foxX, z0_foxY, z0_seat, z0_strength, .ref a0_debts, z0_near, .int u.1, .int u.2.1, .int u.2.2.1, .int u.2.2.2.2])), (a0_debts, .inl (cyI, 36, .inl u.2.2.2.1)), (a1, .inr (8, [z1_bytes, .int v1_length, .int v1_at, z1_token, z1_filled, .int v1_fault, z1_faultPlace]))] : va_W))) (va_A [(a0, .inr (2, [z0_formX, z0_formY, z0_foxX, z0_foxY, z0_seat, z0_strength, .ref a0_debts, z0_near, .int v0_forms, .int v0_hares, .int v0_foxes, .int v0_safe])), (a0_debts, .inl (cyI, 36, .inl f0_debts)), (a1, .inr (8, [z1_bytes, .int v1_length, .int v1_at, z1_token, z1_filled, .int v1_fault, z1_faultPlace]))] sz)) 0 0 (va_A [(a0, .inr (2, [z0_formX, z0_formY, z0_foxX, z0_foxY, z0_seat, z0_strength, .ref a0_debts, z0_near, .int v0_forms, .int v0_hares, .int v0_foxes, .int v0_safe])), (a0_debts, .inl (cyI, 36, .inl f0_debts)), (a1, .inr (8, [z1_bytes, .int v1_length, .int v1_at, z1_token, z1_filled, .int v1_fault, z1_faultPlace]))] sz) := by
  refine Met.ofW (cc := cX2_readFrom) (maxL := 3) (ret := none) (by decide) rfl ?_
  intro p e s m args below meth c s₁ B hml hv
  obtain ⟨rfl, hsz, hP, hK, hD0, hNw⟩ := hv
  have hx := B.exec
  have hb := B.bytes
  have hr := B.returns
  have hts := atoms_spec (ws := wsX2_readFrom) B.pre
  have hown : s.vm.findClass RX2 = some m.cls := findClass_of_methodNamed B.named
  have hlocks := B.notSynchronized
  subst hsz
  have hD := hD0.self (sz := s.heap.size)
  generalize hAe : va_A [(a0, .inr (2, [z0_formX, z0_formY, z0_foxX, z0_foxY, z0_seat, z0_strength, .ref a0_debts, z0_near, .int v0_forms, .int v0_hares, .int v0_foxes, .int v0_safe])), (a0_debts, .inl (cyI, 36, .inl f0_debts)), (a1, .inr (8, [z1_bytes, .int v1_length, .int v1_at, z1_token, z1_filled, .int v1_fault, z1_faultPlace]))] s.heap.size = A at hD ⊢
  have hA : ∀ q : Nat, s.heap.size ≤ q → A q := fun q h => by rw [← hAe]; exact Or.inr h
  have hS : va_S A s.heap s.heap [] := va_S.rf
  have hP : va_P (dC, dI) vwCl [(a0, .inr (2, [z0_formX, z0_formY, z0_foxX, z0_foxY, z0_seat, z0_strength, .ref a0_debts, z0_near, .int v0_forms, .int v0_hares, .int v0_foxes, .int v0_safe])), (a0_debts, .inl (cyI, 36, .inl f0_debts)), (a1, .inr (8, [z1_bytes, .int v1_length, .int v1_at, z1_token, z1_filled, .int v1_fault, z1_faultPlace]))] s.heap := hP
  have hl := lv_entry ([.ref a0, .ref a1]) (n := 3) (Nat.le_of_ble_eq_true rfl)
  rw [lg_entry_eq]
  generalize (lg_sl ([.ref a0, .ref a1]) ++ List.replicate (3 - (lg_sl ([.ref a0, .ref a1])).length) Slot.unset).toArray = ls at hl ⊢
  have hl : lv_has ls 3 [(0, .ref a0), (1, .ref a1)] := hl
  have C0 : cfx p s m _ meth c cX2_readFrom none wsX2_readFrom RX2 3 A (dC, dI) (kT cyB cyI cyJ cyP) := ⟨hx, hb, hr, hts, hown, hlocks, hml, hA, hK, hNw⟩
  clear hAe
  obtain ⟨H, hH⟩ : ∃ H, H = s.heap := ⟨_, rfl⟩
  rw [← hH] at hP ⊢
  have hS : va_S A s.heap H [] := by rw [hH]; exact va_S.rf
  have hS := hS
  refine lv_aload_n hx hb dX2_readFrom_0 rfl (lv_at hl 0 rfl) ?_
  refine lv_iconst (v := 0) hx hb dX2_readFrom_1 (by decide) ?_
  refine va_put (D := (dC, dI)) (ci := 2) (v := .int 0) (ty := .int) (C := RX2) (T := TX2) (N := 12) hx hb hts ui_X2_readFrom_X2 tyX2 tyX2_ok nmX2 hown hK hP hD hS 0 rfl rfl 8 (by decide) (hts _ uw_X2_readFrom_f36) (fun _ h9 => h9) rfl (by decide +kernel) rfl rfl (Nat.le_of_ble_eq_true rfl) dX2_readFrom_2 (fun H locs hP hD hS => ?_)
  have hP : va_P (dC, dI) vwCl [(a0, .inr (2, [z0_formX, z0_formY, z0_foxX, z0_foxY, z0_seat, z0_strength, .ref a0_debts, z0_near, .int 0, .int v0_hares, .int v0_foxes, .int v0_safe])), (a0_debts, .inl (cyI, 36, .inl f0_debts)), (a1, .inr (8, [z1_bytes, .int v1_length, .int v1_at, z1_token, z1_filled, .int v1_fault, z1_faultPlace]))] H := hP
  have hD : va_D A [(a0, .inr (2, [z0_formX, z0_formY, z0_foxX, z0_foxY, z0_seat, z0_strength, .ref a0_debts, z0_near, .int 0, .int v0_hares, .int v0_foxes, .int v0_safe])), (a0_debts, .inl (cyI, 36, .inl f0_debts)), (a1, .inr (8, [z1_bytes, .int v1_length, .int v1_at, z1_token, z1_filled, .int v1_fault, z1_faultPlace]))] := hD
  refine lv_aload_n hx hb dX2_readFrom_5 rfl (lv_at hl 0 rfl) ?_
  refine lv_iconst (v := 0) hx hb dX2_readFrom_6 (by decide) ?_
  refine va_put (D := (dC, dI)) (ci := 2) (v := .int 0) (ty := .int) (C := RX2) (T := TX2) (N := 12) hx hb hts ui_X2_readFrom_X2 tyX2 tyX2_ok nmX2 hown hK hP hD hS 0 rfl rfl 9 (by decide) (hts _ uw_X2_readFrom_f40) (fun _ h9 => h9) rfl (by decide +kernel) rfl rfl (Nat.le_of_ble_eq_true rfl) dX2_readFrom_7 (fun H locs hP hD hS => ?_)
  have hP : va_P (dC, dI) vwCl [(a0, .inr (2, [z0_formX, z0_formY, z0_foxX, z0_foxY, z0_seat, z0_strength, .ref a0_debts, z0_near, .int 0, .int 0, .int v0_foxes, .int v0_safe])), (a0_debts, .inl (cyI, 36, .inl f0_debts)), (a1, .inr (8, [z1_bytes, .int v1_length, .int v1_at, z1_token, z1_filled, .int v1_fault, z1_faultPlace]))] H := hP
  have hD : va_D A [(a0, .inr (2, [z0_formX, z0_formY, z0_foxX, z0_foxY, z0_seat, z0_strength, .ref a0_debts, z0_near, .int 0, .int 0, .int v0_foxes, .int v0_safe])), (a0_debts, .inl (cyI, 36, .inl f0_debts)), (a1, .inr (8, [z1_bytes, .int v1_length, .int v1_at, z1_token, z1_filled, .int v1_fault, z1_faultPlace]))] := hD
  refine lv_aload_n hx hb dX2_readFrom_10 rfl (lv_at hl 0 rfl) ?_
  refine lv_iconst (v := 0) hx hb dX2_readFrom_11 (by decide) ?_
  refine va_put (D := (dC, dI)) (ci := 2) (v := .int 0) (ty := .int) (C := RX2) (T := TX2) (N := 12) hx hb hts ui_X2_readFrom_X2 tyX2 tyX2_ok nmX2 hown hK hP hD hS 0 rfl rfl 10 (by decide) (hts _ uw_X2_readFrom_f43) (fun _ h9 => h9) rfl (by decide +kernel) rfl rfl (Nat.le_of_ble_eq_true rfl) dX2_readFrom_12 (fun H locs hP hD hS => ?_)
  have hP : va_P (dC, dI) vwCl [(a0, .inr (2, [z0_formX, z0_formY, z0_foxX, z0_foxY, z0_seat, z0_strength, .ref a0_debts, z0_near, .int 0, .int 0, .int 0, .int v0_safe])), (a0_debts, .inl (cyI, 36, .inl f0_debts)), (a1, .inr (8, [z1_bytes, .int v1_length, .int v1_at, z1_token, z1_filled, .int v1_fault, z1_faultPlace]))] H := hP
  have hD : va_D A [(a0, .inr (2, [z0_formX, z0_formY, z0_foxX, z0_foxY, z0_seat, z0_strength, .ref a0_debts, z0_near, .int 0, .int 0, .int 0, .int v0_safe])), (a0_debts, .inl (cyI, 36, .inl f0_debts)), (a1, .inr (8, [z1_bytes, .int v1_length, .int v1_at, z1_token, z1_filled, .int v1_fault, z1_faultPlace]))] := hD
  refine lv_iconst (v := 0) hx hb dX2_readFrom_15 (by decide) ?_
  refine lv_istore_n (lv' := [(2, .int 0), (0, .ref a0), (1, .ref a1)]) hx hb dX2_readFrom_16 rfl hl (by decide) rfl (fun ls hl => ?_)
  obtain ⟨n9, hw⟩ := hw
  exact kl_X2_readFrom_17 dC dI cyB cyI cyJ cyP a0 a1 a0_debts z0_formX z0_formY z0_foxX z0_foxY z0_seat z0_strength z0_near z1_bytes z1_token z1_filled z1_faultPlace v1_length v1_at v1_fault Q  C0 n9 _ _ _ 0 0 0 f0_debts v0_safe 0 hP hD hS (lv_sub hl [1, 2, 0] rfl) hw
theorem ui_X4_add_X4 : ∀ w ∈ u_ws RX4 TX4 5, w ∈ wsX4_add := by decide +kernel
theorem uw_X4_add_f15 : (.fieldLink RX4 15 "MarchHares$Law" "values" "[I" : Cond) ∈ wsX4_add := by decide +kernel
theorem uw_X4_add_f27 : (.fieldLink RX4 27 "MarchHares$Law" "length" "I" : Cond) ∈ wsX4_add := by decide +kernel
theorem uw_X4_add_f9 : (.fieldLink RX4 9 "MarchHares$Law" "kinds" "[I" : Cond) ∈ wsX4_add := by decide +kernel
def wq_X4_add  (f0_kinds : Nat → Int32) (f0_values : Nat → Int32) (v0_length : Int32) (p1 : Int32) (p2 : Int32) (Q : (Nat → Int32) → (Nat → Int32) → Int32 → Prop) : Prop := ((150 ≤ v0_length → (Q f0_kinds f0_values v0_length)) ∧ (¬ 150 ≤ v0_length → vp_in v0_length 150 ∧ ∀ f2 : Nat → Int32, f2 = upd f0_kinds v0_length.toNatClampNeg p1 → vp_in v0_length 150 ∧ ∀ f3 : Nat → Int32, f3 = upd f0_values v0_length.toNatClampNeg p2 → ∀ x4 : Int32, x4 = v0_length + 1 → (Q f2 f3 x4)))
set_option maxHeartbeats 4000000 in
set_option maxRecDepth 100000 in
theorem ck_X4_add (l : Launch) (dC : Nat → ClassId) (dI : Nat → Nat → Nat) (cyB cyI cyJ cyP : ClassId) (a0 a0_kinds a0_values : Nat) (sz : Nat) (z0_pile : Value) (z0_facts : Value)  (f0_kinds : Nat → Int32) (f0_values : Nat → Int32) (v0_length : Int32) (p1 : Int32) (p2 : Int32) {Q : (Nat → Int32) → (Nat → Int32) → Int32 → Prop} (hw : wq_X4_add  f0_kinds f0_values v0_length p1 p2 Q) : Met l yX4_add wsX4_add ({ frames := 0, cells := 0, slots := 0, locals := 0 }) (va_Pc [.ref a0, .int p1, .int p2] (cPc (dC, dI) (kT cyB cyI cyJ cyP) [(a0, .inr (4, [.ref a0_kinds, .ref a0_values, z0_pile, z0_facts, .int v0_length])), (a0_kinds, .inl (cyI, 150, .inl f0_kinds)), (a0_values, .inl (cyI, 150, .inl f0_values))] sz)) (va_Qv (fun (u : (Nat → Int32) × (Nat → Int32) × Int32) => Q u.1 u.2.1 u.2.2) (cB (dC, dI) (kT cyB cyI cyJ cyP) (va_A [(a0, .inr (4, [.ref a0_kinds, .ref a0_values, z0_pile, z0_facts, .int v0_length])), (a0_kinds, .inl (cyI, 150, .inl f0_kinds)), (a0_values, .inl (cyI, 150, .inl f0_values))] sz) (fun u : (Nat → Int32) × (Nat → Int32) × Int32 => ([(a0, .inr (4, [.ref a0_kinds, .ref a0_values, z0_pile, z0_facts, .int u.2.2])), (a0_kinds, .inl (cyI, 150, .inl u.1)), (a0_values, .inl (cyI, 150, .inl u.2.1))] : va_W))) (va_A [(a0, .inr (4, [.ref a0_kinds, .ref a0_values, z0_pile, z0_facts, .int v0_length])), (a0_kinds, .inl (cyI, 150, .inl f0_kinds)), (a0_values, .inl (cyI, 150, .inl f0_values))] sz)) 0 0 (va_A [(a0, .inr (4, [.ref a0_kinds, .ref a0_values, z0_pile, z0_facts, .int v0_length])), (a0_kinds, .inl (cyI, 150, .inl f0_kinds)), (a0_values, .inl (cyI, 150, .inl f0_values))] sz) := by
  refine Met.ofW (cc := cX4_add) (maxL := 3) (ret := none) (by decide) rfl ?_
  intro p e s m args below meth c s₁ B hml hv
  obtain ⟨rfl, hsz, hP, hK, hD0, hNw⟩ := hv
  have hx := B.exec
  have hb := B.bytes
  have hr := B.returns
  have hts := atoms_spec (ws := wsX4_add) B.pre
  have hown : s.vm.findClass RX4 = some m.cls := findClass_of_methodNamed B.named
  have hlocks := B.notSynchronized
  subst hsz
  have hD := hD0.self (sz := s.heap.size)
  generalize hAe : va_A [(a0, .inr (4, [.ref a0_kinds, .ref a0_values, z0_pile, z0_facts, .int v0_length])), (a0_kinds, .inl (cyI, 150, .inl f0_kinds)), (a0_values, .inl (cyI, 150, .inl f0_values))] s.heap.size = A at hD ⊢
  have hA : ∀ q : Nat, s.heap.size ≤ q → A q := fun q h => by rw [← hAe]; exact Or.inr h
  have hS : va_S A s.heap s.heap [] := va_S.rf
  have hP : va_P (dC, dI) vwCl [(a0, .inr (4, [.ref a0_kinds, .ref a0_values, z0_pile, z0_facts, .int v0_length])), (a0_kinds, .inl (cyI, 150, .inl f0_kinds)), (a0_values, .inl (cyI, 150, .inl f0_values))] s.heap := hP
  have hl := lv_entry ([.ref a0, .int p1, .int p2]) (n := 3) (Nat.le_of_ble_eq_true rfl)
  rw [lg_entry_eq]
  generalize (lg_sl ([.ref a0, .int p1, .int p2]) ++ List.replicate (3 - (lg_sl ([.ref a0, .int p1, .int p2])).length) Slot.unset).toArray = ls at hl ⊢
  have hl : lv_has ls 3 [(0, .ref a0), (1, .int p1), (2, .int p2)] := hl
  have C0 : cfx p s m _ meth c cX4_add none wsX4_add RX4 3 A (dC, dI) (kT cyB cyI cyJ cyP) := ⟨hx, hb, hr, hts, hown, hlocks, hml, hA, hK, hNw⟩
  clear hAe
  obtain ⟨H, hH⟩ : ∃ H, H = s.heap := ⟨_, rfl⟩
  rw [← hH] at hP ⊢
  have hS : va_S A s.heap H [] := by rw [hH]; exact va_S.rf
  have hS := hS
  refine lv_aload_n hx hb dX4_add_0 rfl (lv_at hl 0 rfl) ?_
  refine va_get (D := (dC, dI)) (ci := 4) (v := .int v0_length) (C := RX4) (T := TX4) (N := 5) hx hb hts ui_X4_add_X4 hown hK hP 0 rfl rfl 4 (by decide) (hts _ uw_X4_add_f27) (fun _ h9 => h9) rfl dX4_add_1 ?_
  refine lv_sipush (v := 150) hx hb dX4_add_4 (by decide) ?_
  refine lv_icmp_ge (tgt := 40) hx hb dX4_add_7 (by decide) (fun c1 => ?_) (fun c1 => ?_)
  · have hw := hw.1 c1
    exact ((W.vret hx hb hr (fun t ht hW => ⟨⟨(f0_kinds, f0_values, v0_length), rfl, hw, by rw [ht]; exact hP, va_K.moved hW.alike hK, hD⟩, hS.F ht⟩) hS.2.2 dX4_add_40))
  · have hw := hw.2 c1
    refine lv_aload_n hx hb dX4_add_10 rfl (lv_at hl 0 rfl) ?_
    refine va_get (D := (dC, dI)) (ci := 4) (v := .ref a0_kinds) (C := RX4) (T := TX4) (N := 5) hx hb hts ui_X4_add_X4 hown hK hP 0 rfl rfl 0 (by decide) (hts _ uw_X4_add_f9) (fun _ h9 => h9) rfl dX4_add_11 ?_
    refine lv_aload_n hx hb dX4_add_14 rfl (lv_at hl 0 rfl) ?_
    refine va_get (D := (dC, dI)) (ci := 4) (v := .int v0_length) (C := RX4) (T := TX4) (N := 5) hx hb hts ui_X4_add_X4 hown hK hP 0 rfl rfl 4 (by decide) (hts _ uw_X4_add_f27) (fun _ h9 => h9) rfl dX4_add_15 ?_
    refine lv_iload_n hx hb dX4_add_18 rfl (lv_at hl 1 rfl) ?_
    obtain ⟨hi9, hw⟩ := hw
    refine va_iast hx hb hK hP hD hS 1 1 rfl rfl hi9 dX4_add_19 (fun H locs hP hD hS => ?_)
    obtain ⟨f2, ef2⟩ : ∃ y : Nat → Int32, y = upd f0_kinds v0_length.toNatClampNeg p1 := ⟨_, rfl⟩
    have hw := hw f2 ef2
    have hP : va_P (dC, dI) vwCl [(a0, .inr (4, [.ref a0_kinds, .ref a0_values, z0_pile, z0_facts, .int v0_length])), (a0_kinds, .inl (cyI, 150, .inl f2)), (a0_values, .inl (cyI, 150, .inl f0_values))] H := by rw [ef2]; exact hP
    have hD : va_D A [(a0, .inr (4, [.ref a0_kinds, .ref a0_values, z0_pile, z0_facts, .int v0_length])), (a0_kinds, .inl (cyI, 150, .inl f2)), (a0_values, .inl (cyI, 150, .inl f0_values))] := by rw [ef2]; exact hD
    refine lv_aload_n hx hb dX4_add_20 rfl (lv_at hl 0 rfl) ?_
    refine va_get (D := (dC, dI)) (ci := 4) (v := .ref a0_values) (C := RX4) (T := TX4) (N := 5) hx hb hts ui_X4_add_X4 hown hK hP 0 rfl rfl 1 (by decide) (hts _ uw_X4_add_f15) (fun _ h9 => h9) rfl dX4_add_21 ?_
    refine lv_aload_n hx hb dX4_add_24 rfl (lv_at hl 0 rfl) ?_
    refine va_get (D := (dC, dI)) (ci := 4) (v := .int v0_length) (C := RX4) (T := TX4) (N := 5) hx hb hts ui_X4_add_X4 hown hK hP 0 rfl rfl 4 (by decide) (hts _ uw_X4_add_f27) (fun _ h9 => h9) rfl dX4_add_25 ?_
    refine lv_iload_n hx hb dX4_add_28 rfl (lv_at hl 2 rfl) ?_
    obtain ⟨hi9, hw⟩ := hw
    refine va_iast hx hb hK hP hD hS 2 1 rfl rfl hi9 dX4_add_29 (fun H locs hP hD hS => ?_)
    obtain ⟨f3, ef3⟩ : ∃ y : Nat → Int32, y = upd f0_values v0_length.toNatClampNeg p2 := ⟨_, rfl⟩
    have hw := hw f3 ef3
    have hP : va_P (dC, dI) vwCl [(a0, .inr (4, [.ref a0_kinds, .ref a0_values, z0_pile, z0_facts, .int v0_length])), (a0_kinds, .inl (cyI, 150, .inl f2)), (a0_values, .inl (cyI, 150, .inl f3))] H := by rw [ef3]; exact hP
    have hD : va_D A [(a0, .inr (4, [.ref a0_kinds, .ref a0_values, z0_pile, z0_facts, .int v0_length])), (a0_kinds, .inl (cyI, 150, .inl f2)), (a0_values, .inl (cyI, 150, .inl f3))] := by rw [ef3]; exact hD
    refine lv_aload_n hx hb dX4_add_30 rfl (lv_at hl 0 rfl) ?_
    refine lv_dup hx hb dX4_add_31 rfl ?_
    refine va_get (D := (dC, dI)) (ci := 4) (v := .int v0_length) (C := RX4) (T := TX4) (N := 5) hx hb hts ui_X4_add_X4 hown hK hP 0 rfl rfl 4 (by decide) (hts _ uw_X4_add_f27) (fun _ h9 => h9) rfl dX4_add_32 ?_
    refine lv_iconst (v := 1) hx hb dX4_add_35 (by decide) ?_
    refine lv_iadd hx hb dX4_add_36 ?_
    refine lv_topi (fun x4 ex4 => ?_)
    have hw := hw x4 ex4
    refine va_put (D := (dC, dI)) (ci := 4) (v := .int x4) (ty := .int) (C := RX4) (T := TX4) (N := 5) hx hb hts ui_X4_add_X4 tyX4 tyX4_ok nmX4 hown hK hP hD hS 0 rfl rfl 4 (by decide) (hts _ uw_X4_add_f27) (fun _ h9 => h9) rfl (by decide +kernel) rfl rfl (Nat.le_of_ble_eq_true rfl) dX4_add_37 (fun H locs hP hD hS => ?_)
    have hP : va_P (dC, dI) vwCl [(a0, .inr (4, [.ref a0_kinds, .ref a0_values, z0_pile, z0_facts, .int x4])), (a0_kinds, .inl (cyI, 150, .inl f2)), (a0_values, .inl (cyI, 150, .inl f3))] H := hP
    have hD : va_D A [(a0, .inr (4, [.ref a0_kinds, .ref a0_values, z0_pile, z0_facts, .int x4])), (a0_kinds, .inl (cyI, 150, .inl f2)), (a0_values, .inl (cyI, 150, .inl f3))] := hD
    exact ((W.vret hx hb hr (fun t ht hW => ⟨⟨(f2, f3, x4), rfl, hw, by rw [ht]; exact hP, va_K.moved hW.alike hK, hD⟩, hS.F ht⟩) hS.2.2 dX4_add_40))
theorem ui_X4_setPlain_X4 : ∀ w ∈ u_ws RX4 TX4 5, w ∈ wsX4_setPlain := by decide +kernel
theorem uw_X4_setPlain_f27 : (.fieldLink RX4 27 "MarchHares$Law" "length" "I" : Cond) ∈ wsX4_setPlain := by decide +kernel
def wq_X4_setPlain  (v0_length : Int32) (f0_kinds : Nat → Int32) (f0_values : Nat → Int32)  (Q : Int32 → (Nat → Int32) → (Nat → Int32) → Prop) : Prop := wq_X4_add  f0_kinds f0_values 0 0 4 (fun f1 f2 x3 => wq_X4_add  f1 f2 x3 1 0 (fun f4 f5 x6 => wq_X4_add  f4 f5 x6 2 0 (fun f7 f8 x9 => wq_X4_add  f7 f8 x9 1 1 (fun f10 f11 x12 => wq_X4_add  f10 f11 x12 3 0 (fun f13 f14 x15 => (Q x15 f13 f14))))))
set_option maxHeartbeats 4000000 in
set_option maxRecDepth 100000 in
theorem ck_X4_setPlain (l : Launch) (dC : Nat → ClassId) (dI : Nat → Nat → Nat) (cyB cyI cyJ cyP : ClassId) (a0 a0_kinds a0_values : Nat) (sz : Nat) (z0_pile : Value) (z0_facts : Value)  (v0_length : Int32) (f0_kinds : Nat → Int32) (f0_values : Nat → Int32)  {Q : Int32 → (Nat → Int32) → (Nat → Int32) → Prop} (hw : wq_X4_setPlain  v0_length f0_kinds f0_values  Q) : Met l yX4_setPlain wsX4_setPlain ({ frames := 1, cells := 0, slots := 0, locals := 22 }) (va_Pc [.ref a0] (cPc (dC, dI) (kT cyB cyI cyJ cyP) [(a0, .inr (4, [.ref a0_kinds, .ref a0_values, z0_pile, z0_facts, .int v0_length])), (a0_kinds, .inl (cyI, 150, .inl f0_kinds)), (a0_values, .inl (cyI, 150, .inl f0_values))] sz)) (va_Qv (fun (u : Int32 × (Nat → Int32) × (Nat → Int32)) => Q u.1 u.2.1 u.2.2) (cB (dC, dI) (kT cyB cyI cyJ cyP) (va_A [(a0, .inr (4, [.ref a0_kinds, .ref a0_values, z0_pile, z0_facts, .int v0_length])), (a0_kinds, .inl (cyI, 150, .inl f0_kinds)), (a0_values, .inl (cyI, 150, .inl f0_values))] sz) (fun u : Int32 × (Nat → Int32) × (Nat → Int32) => ([(a0, .inr (4, [.ref a0_kinds, .ref a0_values, z0_pile, z0_facts, .int u.1])), (a0_kinds, .inl (cyI, 150, .inl u.2.1)), (a0_values, .inl (cyI, 150, .inl u.2.2))] : va_W))) (va_A [(a0, .inr (4, [.ref a0_kinds, .ref a0_values, z0_pile, z0_facts, .int v0_length])), (a0_kinds, .inl (cyI, 150, .inl f0_kinds)), (a0_values, .inl (cyI, 150, .inl f0_values))] sz)) 0 0 (va_A [(a0, .inr (4, [.ref a0_kinds, .ref a0_values, z0_pile, z0_facts, .int v0_length])), (a0_kinds, .inl (cyI, 150, .inl f0_kinds)), (a0_values, .inl (cyI, 150, .inl f0_values))] sz) := by
  refine Met.ofW (cc := cX4_setPlain) (maxL := 1) (ret := none) (by decide) rfl ?_
  intro p e s m args below meth c s₁ B hml hv
  obtain ⟨rfl, hsz, hP, hK, hD0, hNw⟩ := hv
  have hx := B.exec
  have hb := B.bytes
  have hr := B.returns
  have hts := atoms_spec (ws := wsX4_setPlain) B.pre
  have hown : s.vm.findClass RX4 = some m.cls := findClass_of_methodNamed B.named
  have hlocks := B.notSynchronized
  subst hsz
  have hD := hD0.self (sz := s.heap.size)
  generalize hAe : va_A [(a0, .inr (4, [.ref a0_kinds, .ref a0_values, z0_pile, z0_facts, .int v0_length])), (a0_kinds, .inl (cyI, 150, .inl f0_kinds)), (a0_values, .inl (cyI, 150, .inl f0_values))] s.heap.size = A at hD ⊢
  have hA : ∀ q : Nat, s.heap.size ≤ q → A q := fun q h => by rw [← hAe]; exact Or.inr h
  have hS : va_S A s.heap s.heap [] := va_S.rf
  have hP : va_P (dC, dI) vwCl [(a0, .inr (4, [.ref a0_kinds, .ref a0_values, z0_pile, z0_facts, .int v0_length])), (a0_kinds, .inl (cyI, 150, .inl f0_kinds)), (a0_values, .inl (cyI, 150, .inl f0_values))] s.heap := hP
  have hl := lv_entry ([.ref a0]) (n := 1) (Nat.le_of_ble_eq_true rfl)
  rw [lg_entry_eq]
  generalize (lg_sl ([.ref a0]) ++ List.replicate (1 - (lg_sl ([.ref a0])).length) Slot.unset).toArray = ls at hl ⊢
  have hl : lv_has ls 1 [(0, .ref a0)] := hl
  have C0 : cfx p s m _ meth c cX4_setPlain none wsX4_setPlain RX4 1 A (dC, dI) (kT cyB cyI cyJ cyP) := ⟨hx, hb, hr, hts, hown, hlocks, hml, hA, hK, hNw⟩
  clear hAe
  obtain ⟨H, hH⟩ : ∃ H, H = s.heap := ⟨_, rfl⟩
  rw [← hH] at hP ⊢
  have hS : va_S A s.heap H [] := by rw [hH]; exact va_S.rf
  have hS := hS
  refine lv_aload_n hx hb dX4_setPlain_0 rfl (lv_at hl 0 rfl) ?_
  refine lv_iconst (v := 0) hx hb dX4_setPlain_1 (by decide) ?_
  refine va_put (D := (dC, dI)) (ci := 4) (v := .int 0) (ty := .int) (C := RX4) (T := TX4) (N := 5) hx hb hts ui_X4_setPlain_X4 tyX4 tyX4_ok nmX4 hown hK hP hD hS 0 rfl rfl 4 (by decide) (hts _ uw_X4_setPlain_f27) (fun _ h9 => h9) rfl (by decide +kernel) rfl rfl (Nat.le_of_ble_eq_true rfl) dX4_setPlain_2 (fun H locs hP hD hS => ?_)
  have hP : va_P (dC, dI) vwCl [(a0, .inr (4, [.ref a0_kinds, .ref a0_values, z0_pile, z0_facts, .int 0])), (a0_kinds, .inl (cyI, 150, .inl f0_kinds)), (a0_values, .inl (cyI, 150, .inl f0_values))] H := hP
  have hD : va_D A [(a0, .inr (4, [.ref a0_kinds, .ref a0_values, z0_pile, z0_facts, .int 0])), (a0_kinds, .inl (cyI, 150, .inl f0_kinds)), (a0_values, .inl (cyI, 150, .inl f0_values))] := hD
  refine lv_aload_n hx hb dX4_setPlain_5 rfl (lv_at hl 0 rfl) ?_
  refine lv_iconst (v := 0) hx hb dX4_setPlain_6 (by decide) ?_
  refine lv_iconst (v := 4) hx hb dX4_setPlain_7 (by decide) ?_
  have hPc := hP.sub (ws' := [(a0, .inr (4, [.ref a0_kinds, .ref a0_values, z0_pile, z0_facts, .int 0])), (a0_kinds, .inl (cyI, 150, .inl f0_kinds)), (a0_values, .inl (cyI, 150, .inl f0_values))]) [0, 1, 2] rfl
  have hDc := hD.sub (ws' := [(a0, .inr (4, [.ref a0_kinds, .ref a0_values, z0_pile, z0_facts, .int 0])), (a0_kinds, .inl (cyI, 150, .inl f0_kinds)), (a0_values, .inl (cyI, 150, .inl f0_values))]) [0, 1, 2] (by decide) rfl
  have hFc := va_free (wc := [(a0, .inr (4, [.ref a0_kinds, .ref a0_values, z0_pile, z0_facts, .int 0])), (a0_kinds, .inl (cyI, 150, .inl f0_kinds)), (a0_values, .inl (cyI, 150, .inl f0_values))]) hD hS hA [0, 1, 2] rfl
  refine va_callv (va_runV (As := [.int 0, .int 4]) (rest := []) ⟨hx, hb, hml, hown, hts⟩ (ck_X4_add l dC dI cyB cyI cyJ cyP a0 a0_kinds a0_values H.size (z0_pile) (z0_facts)  f0_kinds f0_values 0 0 4 hw) (cwV 2 hts gX4_setPlain_X4_add rfl rfl rfl (by decide +kernel) ⟨Nat.le_of_ble_eq_true rfl, Nat.le_of_ble_eq_true rfl⟩) ⟨cPc_blind, va_recv hK hPc (ci := 4) (q0 := 0) rfl rfl, cPc_pre hPc hK hDc hNw⟩ rfl rfl hl.1 rfl (lv_room (Nat.le_of_ble_eq_true rfl)) dX4_setPlain_8 ⟨Nat.le_of_ble_eq_true rfl, Nat.le_of_ble_eq_true rfl⟩) hS (fun q _ h => hFc q h) hFc (fun u t H1 locs ht hvm hw hB hz1 hk1 hS => ?_)
  obtain ⟨f1, f2, x3⟩ := u
  obtain ⟨hP1, hK1, hD1⟩ := hB
  rw [ht] at hP1
  obtain ⟨hP, hD⟩ := va_join (wr := []) (w1 := [(a0, .inr (4, [.ref a0_kinds, .ref a0_values, z0_pile, z0_facts, .int x3])), (a0_kinds, .inl (cyI, 150, .inl f1)), (a0_values, .inl (cyI, 150, .inl f2))]) hP hD [0, 1, 2] [] rfl rfl (by decide) (by decide) hk1 hFc hP1 hD1
  have hP : va_P (dC, dI) vwCl [(a0, .inr (4, [.ref a0_kinds, .ref a0_values, z0_pile, z0_facts, .int x3])), (a0_kinds, .inl (cyI, 150, .inl f1)), (a0_values, .inl (cyI, 150, .inl f2))] H1 := hP
  have hD : va_D A [(a0, .inr (4, [.ref a0_kinds, .ref a0_values, z0_pile, z0_facts, .int x3])), (a0_kinds, .inl (cyI, 150, .inl f1)), (a0_values, .inl (cyI, 150, .inl f2))] := hD
  generalize H1 = H at hP hS ⊢
  refine lv_aload_n hx hb dX4_setPlain_11 rfl (lv_at hl 0 rfl) ?_
  refine lv_iconst (v := 1) hx hb dX4_setPlain_12 (by decide) ?_
  refine lv_iconst (v := 0) hx hb dX4_setPlain_13 (by decide) ?_
  have hPc := hP.sub (ws' := [(a0, .inr (4, [.ref a0_kinds, .ref a0_values, z0_pile, z0_facts, .int x3])), (a0_kinds, .inl (cyI, 150, .inl f1)), (a0_values, .inl (cyI, 150, .inl f2))]) [0, 1, 2] rfl
  have hDc := hD.sub (ws' := [(a0, .inr (4, [.ref a0_kinds, .ref a0_values, z0_pile, z0_facts, .int x3])), (a0_kinds, .inl (cyI, 150, .inl f1)), (a0_values, .inl (cyI, 150, .inl f2))]) [0, 1, 2] (by decide) rfl
  have hFc := va_free (wc := [(a0, .inr (4, [.ref a0_kinds, .ref a0_values, z0_pile, z0_facts, .int x3])), (a0_kinds, .inl (cyI, 150, .inl f1)), (a0_values, .inl (cyI, 150, .inl f2))]) hD hS hA [0, 1, 2] rfl
  refine va_callv (va_runV (As := [.int 1, .int 0]) (rest := []) ⟨hx, hb, hml, hown, hts⟩ (ck_X4_add l dC dI cyB cyI cyJ cyP a0 a0_kinds a0_values H.size (z0_pile) (z0_facts)  f1 f2 x3 1 0 hw) (cwV 2 hts gX4_setPlain_X4_add rfl rfl rfl (by decide +kernel) ⟨Nat.le_of_ble_eq_true rfl, Nat.le_of_ble_eq_true rfl⟩) ⟨cPc_blind, va_recv hK hPc (ci := 4) (q0 := 0) rfl rfl, cPc_pre hPc hK hDc hNw⟩ rfl rfl hl.1 rfl (lv_room (Nat.le_of_ble_eq_true rfl)) dX4_setPlain_14 ⟨Nat.le_of_ble_eq_true rfl, Nat.le_of_ble_eq_true rfl⟩) hS (fun q _ h => hFc q h) hFc (fun u t H1 locs ht hvm hw hB hz1 hk1 hS => ?_)
  obtain ⟨f4, f5, x6⟩ := u
  obtain ⟨hP1, hK1, hD1⟩ := hB
  rw [ht] at hP1
  obtain ⟨hP, hD⟩ := va_join (wr := []) (w1 := [(a0, .inr (4, [.ref a0_kinds, .ref a0_values, z0_pile, z0_facts, .int x6])), (a0_kinds, .inl (cyI, 150, .inl f4)), (a0_values, .inl (cyI, 150, .inl f5))]) hP hD [0, 1, 2] [] rfl rfl (by decide) (by decide) hk1 hFc hP1 hD1
  have hP : va_P (dC, dI) vwCl [(a0, .inr (4, [.ref a0_kinds, .ref a0_values, z0_pile, z0_facts, .int x6])), (a0_kinds, .inl (cyI, 150, .inl f4)), (a0_values, .inl (cyI, 150, .inl f5))] H1 := hP
  have hD : va_D A [(a0, .inr (4, [.ref a0_kinds, .ref a0_values, z0_pile, z0_facts, .int x6])), (a0_kinds, .inl (cyI, 150, .inl f4)), (a0_values, .inl (cyI, 150, .inl f5))] := hD
  generalize H1 = H at hP hS ⊢
  refine lv_aload_n hx hb dX4_setPlain_17 rfl (lv_at hl 0 rfl) ?_
  refine lv_iconst (v := 2) hx hb dX4_setPlain_18 (by decide) ?_
  refine lv_iconst (v := 0) hx hb dX4_setPlain_19 (by decide) ?_
  have hPc := hP.sub (ws' := [(a0, .inr (4, [.ref a0_kinds, .ref a0_values, z0_pile, z0_facts, .int x6])), (a0_kinds, .inl (cyI, 150, .inl f4)), (a0_values, .inl (cyI, 150, .inl f5))]) [0, 1, 2] rfl
  have hDc := hD.sub (ws' := [(a0, .inr (4, [.ref a0_kinds, .ref a0_values, z0_pile, z0_facts, .int x6])), (a0_kinds, .inl (cyI, 150, .inl f4)), (a0_values, .inl (cyI, 150, .inl f5))]) [0, 1, 2] (by decide) rfl
  have hFc := va_free (wc := [(a0, .inr (4, [.ref a0_kinds, .ref a0_values, z0_pile, z0_facts, .int x6])), (a0_kinds, .inl (cyI, 150, .inl f4)), (a0_values, .inl (cyI, 150, .inl f5))]) hD hS hA [0, 1, 2] rfl
  refine va_callv (va_runV (As := [.int 2, .int 0]) (rest := []) ⟨hx, hb, hml, hown, hts⟩ (ck_X4_add l dC dI cyB cyI cyJ cyP a0 a0_kinds a0_values H.size (z0_pile) (z0_facts)  f4 f5 x6 2 0 hw) (cwV 2 hts gX4_setPlain_X4_add rfl rfl rfl (by decide +kernel) ⟨Nat.le_of_ble_eq_true rfl, Nat.le_of_ble_eq_true rfl⟩) ⟨cPc_blind, va_recv hK hPc (ci := 4) (q0 := 0) rfl rfl, cPc_pre hPc hK hDc hNw⟩ rfl rfl hl.1 rfl (lv_room (Nat.le_of_ble_eq_true rfl)) dX4_setPlain_20 ⟨Nat.le_of_ble_eq_true rfl, Nat.le_of_ble_eq_true rfl⟩) hS (fun q _ h => hFc q h) hFc (fun u t H1 locs ht hvm hw hB hz1 hk1 hS => ?_)
  obtain ⟨f7, f8, x9⟩ := u
  obtain ⟨hP1, hK1, hD1⟩ := hB
  rw [ht] at hP1
  obtain ⟨hP, hD⟩ := va_join (wr := []) (w1 := [(a0, .inr (4, [.ref a0_kinds, .ref a0_values, z0_pile, z0_facts, .int x9])), (a0_kinds, .inl (cyI, 150, .inl f7)), (a0_values, .inl (cyI, 150, .inl f8))]) hP hD [0, 1, 2] [] rfl rfl (by decide) (by decide) hk1 hFc hP1 hD1
  have hP : va_P (dC, dI) vwCl [(a0, .inr (4, [.ref a0_kinds, .ref a0_values, z0_pile, z0_facts, .int x9])), (a0_kinds, .inl (cyI, 150, .inl f7)), (a0_values, .inl (cyI, 150, .inl f8))] H1 := hP
  have hD : va_D A [(a0, .inr (4, [.ref a0_kinds, .ref a0_values, z0_pile, z0_facts, .int x9])), (a0_kinds, .inl (cyI, 150, .inl f7)), (a0_values, .inl (cyI, 150, .inl f8))] := hD
  generalize H1 = H at hP hS ⊢
  refine lv_aload_n hx hb dX4_setPlain_23 rfl (lv_at hl 0 rfl) ?_
  refine lv_iconst (v := 1) hx hb dX4_setPlain_24 (by decide) ?_
  refine lv_iconst (v := 1) hx hb dX4_setPlain_25 (by decide) ?_
  have hPc := hP.sub (ws' := [(a0, .inr (4, [.ref a0_kinds, .ref a0_values, z0_pile, z0_facts, .int x9])), (a0_kinds, .inl (cyI, 150, .inl f7)), (a0_values, .inl (cyI, 150, .inl f8))]) [0, 1, 2] rfl
  have hDc := hD.sub (ws' := [(a0, .inr (4, [.ref a0_kinds, .ref a0_values, z0_pile, z0_facts, .int x9])), (a0_kinds, .inl (cyI, 150, .inl f7)), (a0_values, .inl (cyI, 150, .inl f8))]) [0, 1, 2] (by decide) rfl
  have hFc := va_free (wc := [(a0, .inr (4, [.ref a0_kinds, .ref a0_values, z0_pile, z0_facts, .int x9])), (a0_kinds, .inl (cyI, 150, .inl f7)), (a0_values, .inl (cyI, 150, .inl f8))]) hD hS hA [0, 1, 2] rfl
  refine va_callv (va_runV (As := [.int 1, .int 1]) (rest := []) ⟨hx, hb, hml, hown, hts⟩ (ck_X4_add l dC dI cyB cyI cyJ cyP a0 a0_kinds a0_values H.size (z0_pile) (z0_facts)  f7 f8 x9 1 1 hw) (cwV 2 hts gX4_setPlain_X4_add rfl rfl rfl (by decide +kernel) ⟨Nat.le_of_ble_eq_true rfl, Nat.le_of_ble_eq_true rfl⟩) ⟨cPc_blind, va_recv hK hPc (ci := 4) (q0 := 0) rfl rfl, cPc_pre hPc hK hDc hNw⟩ rfl rfl hl.1 rfl (lv_room (Nat.le_of_ble_eq_true rfl)) dX4_setPlain_26 ⟨Nat.le_of_ble_eq_true rfl, Nat.le_of_ble_eq_true rfl⟩) hS (fun q _ h => hFc q h) hFc (fun u t H1 locs ht hvm hw hB hz1 hk1 hS => ?_)
  obtain ⟨f10, f11, x12⟩ := u
  obtain ⟨hP1, hK1, hD1⟩ := hB
  rw [ht] at hP1
  obtain ⟨hP, hD⟩ := va_join (wr := []) (w1 := [(a0, .inr (4, [.ref a0_kinds, .ref a0_values, z0_pile, z0_facts, .int x12])), (a0_kinds, .inl (cyI, 150, .inl f10)), (a0_values, .inl (cyI, 150, .inl f11))]) hP hD [0, 1, 2] [] rfl rfl (by decide) (by decide) hk1 hFc hP1 hD1
  have hP : va_P (dC, dI) vwCl [(a0, .inr (4, [.ref a0_kinds, .ref a0_values, z0_pile, z0_facts, .int x12])), (a0_kinds, .inl (cyI, 150, .inl f10)), (a0_values, .inl (cyI, 150, .inl f11))] H1 := hP
  have hD : va_D A [(a0, .inr (4, [.ref a0_kinds, .ref a0_values, z0_pile, z0_facts, .int x12])), (a0_kinds, .inl (cyI, 150, .inl f10)), (a0_values, .inl (cyI, 150, .inl f11))] := hD
  generalize H1 = H at hP hS ⊢
  refine lv_aload_n hx hb dX4_setPlain_29 rfl (lv_at hl 0 rfl) ?_
  refine lv_iconst (v := 3) hx hb dX4_setPlain_30 (by decide) ?_
  refine lv_iconst (v := 0) hx hb dX4_setPlain_31 (by decide) ?_
  have hPc := hP.sub (ws' := [(a0, .inr (4, [.ref a0_kinds, .ref a0_values, z0_pile, z0_facts, .int x12])), (a0_kinds, .inl (cyI, 150, .inl f10)), (a0_values, .inl (cyI, 150, .inl f11))]) [0, 1, 2] rfl
  have hDc := hD.sub (ws' := [(a0, .inr (4, [.ref a0_kinds, .ref a0_values, z0_pile, z0_facts, .int x12])), (a0_kinds, .inl (cyI, 150, .inl f10)), (a0_values, .inl (cyI, 150, .inl f11))]) [0, 1, 2] (by decide) rfl
  have hFc := va_free (wc := [(a0, .inr (4, [.ref a0_kinds, .ref a0_values, z0_pile, z0_facts, .int x12])), (a0_kinds, .inl (cyI, 150, .inl f10)), (a0_values, .inl (cyI, 150, .inl f11))]) hD hS hA [0, 1, 2] rfl
  refine va_callv (va_runV (As := [.int 3, .int 0]) (rest := []) ⟨hx, hb, hml, hown, hts⟩ (ck_X4_add l dC dI cyB cyI cyJ cyP a0 a0_kinds a0_values H.size (z0_pile) (z0_facts)  f10 f11 x12 3 0 hw) (cwV 2 hts gX4_setPlain_X4_add rfl rfl rfl (by decide +kernel) ⟨Nat.le_of_ble_eq_true rfl, Nat.le_of_ble_eq_true rfl⟩) ⟨cPc_blind, va_recv hK hPc (ci := 4) (q0 := 0) rfl rfl, cPc_pre hPc hK hDc hNw⟩ rfl rfl hl.1 rfl (lv_room (Nat.le_of_ble_eq_true rfl)) dX4_setPlain_32 ⟨Nat.le_of_ble_eq_true rfl, Nat.le_of_ble_eq_true rfl⟩) hS (fun q _ h => hFc q h) hFc (fun u t H1 locs ht hvm hw hB hz1 hk1 hS => ?_)
  obtain ⟨f13, f14, x15⟩ := u
  obtain ⟨hP1, hK1, hD1⟩ := hB
  rw [ht] at hP1
  obtain ⟨hP, hD⟩ := va_join (wr := []) (w1 := [(a0, .inr (4, [.ref a0_kinds, .ref a0_values, z0_pile, z0_facts, .int x15])), (a0_kinds, .inl (cyI, 150, .inl f13)), (a0_values, .inl (cyI, 150, .inl f14))]) hP hD [0, 1, 2] [] rfl rfl (by decide) (by decide) hk1 hFc hP1 hD1
  have hP : va_P (dC, dI) vwCl [(a0, .inr (4, [.ref a0_kinds, .ref a0_values, z0_pile, z0_facts, .int x15])), (a0_kinds, .inl (cyI, 150, .inl f13)), (a0_values, .inl (cyI, 150, .inl f14))] H1 := hP
  have hD : va_D A [(a0, .inr (4, [.ref a0_kinds, .ref a0_values, z0_pile, z0_facts, .int x15])), (a0_kinds, .inl (cyI, 150, .inl f13)), (a0_values, .inl (cyI, 150, .inl f14))] := hD
  generalize H1 = H at hP hS ⊢
  exact ((W.vret hx hb hr (fun t ht hW => ⟨⟨(x15, f13, f14), rfl, hw, by rw [ht]; exact hP, va_K.moved hW.alike hK, hD⟩, hS.F ht⟩) hS.2.2 dX4_setPlain_35))
theorem ui_X1_begin_X1 : ∀ w ∈ u_ws RX1 TX1 4, w ∈ wsX1_begin := by decide +kernel
theorem ui_X1_begin_X2 : ∀ w ∈ u_ws RX2 TX2 12, w ∈ wsX1_begin := by decide +kernel
theorem uw_X1_begin_aci : (.initialized "java/lang/System" : Cond) ∈ wsX1_begin := by decide +kernel
theorem uw_X1_begin_acn : (.native arraycopyName : Cond) ∈ wsX1_begin := by decide +kernel
theorem uw_X1_begin_acs : (.static arraycopyName : Cond) ∈ wsX1_begin := by decide +kernel
theorem uw_X1_begin_f13 : (.fieldLink RX1 13 "MarchHares$Days" "row" "[I" : Cond) ∈ wsX1_begin := by decide +kernel
theorem uw_X1_begin_f24 : (.fieldLink RX1 24 "MarchHares$Days" "down" "LMarchHares$Down;" : Cond) ∈ wsX1_begin := by decide +kernel
theorem uw_X1_begin_f28 : (.fieldLink RX1 28 "MarchHares$Days" "law" "LMarchHares$Law;" : Cond) ∈ wsX1_begin := by decide +kernel
theorem uw_X1_begin_f32 : (.fieldLink RX1 32 "MarchHares$Down" "hares" "I" : Cond) ∈ wsX1_begin := by decide +kernel
theorem uw_X1_begin_f42 : (.fieldLink RX1 42 "MarchHares$Down" "debts" "[I" : Cond) ∈ wsX1_begin := by decide +kernel
theorem uw_X1_begin_m45 : (.methodLink RX1 45 arraycopyName : Cond) ∈ wsX1_begin := by decide +kernel
def wl_X1_begin_40 (v1_hares : Int32) (f1_debts : Nat → Int32) (Q : (Nat → Int32) → Prop)  : Nat → (Nat → Int32) → Int32 → Prop
  | 0, _, _ => False
  | n + 1, f0_row, l3 => ((v1_hares ≤ l3 → ∀ f6 : Nat → Int32, f6 = va_cpy f1_debts f0_row (0 : Int32).toNatClampNeg (28 : Int32).toNatClampNeg (36 : Int32).toNatClampNeg → (Q f6)) ∧ (¬ v1_hares ≤ l3 → False))
set_option maxHeartbeats 4000000 in
set_option maxRecDepth 100000 in
theorem kl_X1_begin_40 {p : Program} {l : Launch} {e : Env} {s : State} {m : MethodId} {args : Array Value} {below : List Frame} {meth : Method} {c : Code} {A : Nat → Prop} (dC : Nat → ClassId) (dI : Nat → Nat → Nat) (cyB cyI cyJ cyP : ClassId) (a0 a1 a2 a0_row a1_debts : Nat) (z0_owedEach : Value) (r0_down : Value) (r0_law : Value) (z1_formX : Value) (z1_formY : Value) (z1_foxX : Value) (z1_foxY : Value) (z1_seat : Value) (z1_strength : Value) (z1_near : Value) (z1_forms : Value) (z1_foxes : Value) (z1_safe : Value) (v1_hares : Int32) (f1_debts : Nat → Int32) (Q : (Nat → Int32) → Prop)  (C0 : cfx p s m args meth c cX1_begin none wsX1_begin RX1 4 A (dC, dI) (kT cyB cyI cyJ cyP)) : ∀ (n : Nat) (H : Heap) (locs : List Loc) (ls : Array Slot) (f0_row : Nat → Int32) (l3 : Int32), va_P (dC, dI) vwCl [(a0, .inr (1, [.ref a0_row, z0_owedEach, .ref a1, .ref a2])), (a0_row, .inl (cyI, 64, .inl f0_row)), (a1, .inr (2, [z1_formX, z1_formY, z1_foxX, z1_foxY, z1_seat, z1_strength, .ref a1_debts, z1_near, z1_forms, .int v1_hares, z1_foxes, z1_safe])), (a1_debts, .inl (cyI, 36, .inl f1_debts))] H → va_D A [(a0, .inr (1, [.ref a0_row, z0_owedEach, .ref a1, .ref a2])), (a0_row, .inl (cyI, 64, .inl f0_row)), (a1, .inr (2, [z1_formX, z1_formY, z1_foxX, z1_foxY, z1_seat, z1_strength, .ref a1_debts, z1_near, z1_forms, .int v1_hares, z1_foxes, z1_safe])), (a1_debts, .inl (cyI, 36, .inl f1_debts))] → va_S A s.heap H locs → lv_has ls 4 [(0, .ref a0), (1, .ref a1), (3, .int l3)] → wl_X1_begin_40 v1_hares f1_debts Q  n f0_row l3 → W p l e (headSpec wsX1_begin ({ frames := 1, cells := 0, slots := 0, locals := 40 })).room s m args below meth c H locs 0 0 (MQ below (va_Qv (fun (u : (Nat → Int32)) => Q u) (cB (dC, dI) (kT cyB cyI cyJ cyP) A (fun u : (Nat → Int32) => ([(a0, .inr (1, [.ref a0_row, z0_owedEach, .ref a1, .ref a2])), (a0_row, .inl (cyI, 64, .inl u)), (a1, .inr (2, [z1_formX, z1_formY, z1_foxX, z1_foxY, z1_seat, z1_strength, .ref a1_debts, z1_near, z1_forms, .int v1_hares, z1_foxes, z1_safe])), (a1_debts, .inl (cyI, 36, .inl f1_debts))] : va_W))) A) args s 0 0 A) (F0 m 40 ls []) := by
  obtain ⟨hx, hb, hr, hts, hown, hlocks, hml, hA, hK, hNw⟩ := id C0
  intro n
  induction n with
  | zero => intro H locs ls f0_row l3 hP hD hS hl hw; exact False.elim hw
  | succ n ih =>
    intro H locs ls f0_row l3 hP hD hS hl hw
    refine lv_iload_n hx hb dX1_begin_40 rfl (lv_at hl 2 rfl) ?_
    refine lv_aload_n hx hb dX1_begin_41 rfl (lv_at hl 1 rfl) ?_
    refine va_get (D := (dC, dI)) (ci := 2) (v := .int v1_hares) (C := RX2) (T := TX2) (N := 12) hx hb hts ui_X1_begin_X2 hown hK hP 2 rfl rfl 9 (by decide) (hts _ uw_X1_begin_f32) (fun _ h9 => h9) rfl dX1_begin_42 ?_
    refine lv_icmp_ge (tgt := 83) hx hb dX1_begin_45 (by decide) (fun c5 => ?_) (fun c5 => ?_)
    · have hw := hw.1 c5
      refine lv_aload_n hx hb dX1_begin_83 rfl (lv_at hl 1 rfl) ?_
      refine va_get (D := (dC, dI)) (ci := 2) (v := .ref a1_debts) (C := RX2) (T := TX2) (N := 12) hx hb hts ui_X1_begin_X2 hown hK hP 2 rfl rfl 6 (by decide) (hts _ uw_X1_begin_f42) (fun _ h9 => h9) rfl dX1_begin_84 ?_
      refine lv_iconst (v := 0) hx hb dX1_begin_87 (by decide) ?_
      refine lv_aload_n hx hb dX1_begin_88 rfl (lv_at hl 0 rfl) ?_
      refine va_get (D := (dC, dI)) (ci := 1) (v := .ref a0_row) (C := RX1) (T := TX1) (N := 4) hx hb hts ui_X1_begin_X1 hown hK hP 0 rfl rfl 0 (by decide) (hts _ uw_X1_begin_f13) (fun _ h9 => h9) rfl dX1_begin_89 ?_
      refine lv_bipush (v := 28) hx hb dX1_begin_92 (by decide) ?_
      refine lv_bipush (v := 36) hx hb dX1_begin_94 (by decide) ?_
      refine va_copyi hx hb (by rw [hml]; exact hl.1.symm) hown (hts _ uw_X1_begin_m45) (hts _ uw_X1_begin_acn) (hts _ uw_X1_begin_acs) (hts _ uw_X1_begin_aci) hK hP hD hS 3 1 1 1 rfl rfl rfl rfl rfl (by decide) (by decide) (by decide) (by decide) (by decide) (fun _ _ => rfl) (Nat.le_of_ble_eq_true rfl) (Nat.le_of_ble_eq_true rfl) dX1_begin_96 (fun H locs hP hD hS => ?_)
      obtain ⟨f6, ef6⟩ : ∃ y : Nat → Int32, y = va_cpy f1_debts f0_row (0 : Int32).toNatClampNeg (28 : Int32).toNatClampNeg (36 : Int32).toNatClampNeg := ⟨_, rfl⟩
      have hw := hw f6 ef6
      have hP : va_P (dC, dI) vwCl [(a0, .inr (1, [.ref a0_row, z0_owedEach, .ref a1, .ref a2])), (a0_row, .inl (cyI, 64, .inl f6)), (a1, .inr (2, [z1_formX, z1_formY, z1_foxX, z1_foxY, z1_seat, z1_strength, .ref a1_debts, z1_near, z1_forms, .int v1_hares, z1_foxes, z1_safe])), (a1_debts, .inl (cyI, 36, .inl f1_debts))] H := by rw [ef6]; exact hP
      have hD : va_D A [(a0, .inr (1, [.ref a0_row, z0_owedEach, .ref a1, .ref a2])), (a0_row, .inl (cyI, 64, .inl f6)), (a1, .inr (2, [z1_formX, z1_formY, z1_foxX, z1_foxY, z1_seat, z1_strength, .ref a1_debts, z1_near, z1_forms, .int v1_hares, z1_foxes, z1_safe])), (a1_debts, .inl (cyI, 36, .inl f1_debts))] := by rw [ef6]; exact hD
      exact ((W.vret hx hb hr (fun t ht hW => ⟨⟨(f6), rfl, hw, by rw [ht]; exact hP, va_K.moved hW.alike hK, hD⟩, hS.F ht⟩) hS.2.2 dX1_begin_99))
    · have hw := hw.2 c5
      exact False.elim hw
def wl_X1_begin_12 (v1_hares : Int32) (f1_debts : Nat → Int32) (Q : (Nat → Int32) → Prop)  : Nat → (Nat → Int32) → Int32 → Prop
  | 0, _, _ => False
  | n + 1, f0_row, l3 => ((64 ≤ l3 → ∀ f2 : Nat → Int32, f2 = upd f0_row (0 : Int32).toNatClampNeg 1 → (∃ k9 : Nat, wl_X1_begin_40 v1_hares f1_debts Q  k9 f2 0)) ∧ (¬ 64 ≤ l3 → vp_in l3 64 ∧ ∀ f3 : Nat → Int32, f3 = upd f0_row l3.toNatClampNeg 0 → ∀ x4 : Int32, x4 = l3 + 1 → (wl_X1_begin_12 v1_hares f1_debts Q  n f3 x4)))
set_option maxHeartbeats 4000000 in
set_option maxRecDepth 100000 in
theorem kl_X1_begin_12 {p : Program} {l : Launch} {e : Env} {s : State} {m : MethodId} {args : Array Value} {below : List Frame} {meth : Method} {c : Code} {A : Nat → Prop} (dC : Nat → ClassId) (dI : Nat → Nat → Nat) (cyB cyI cyJ cyP : ClassId) (a0 a1 a2 a0_row a1_debts : Nat) (z0_owedEach : Value) (r0_down : Value) (r0_law : Value) (z1_formX : Value) (z1_formY : Value) (z1_foxX : Value) (z1_foxY : Value) (z1_seat : Value) (z1_strength : Value) (z1_near : Value) (z1_forms : Value) (z1_foxes : Value) (z1_safe : Value) (v1_hares : Int32) (f1_debts : Nat → Int32) (Q : (Nat → Int32) → Prop)  (C0 : cfx p s m args meth c cX1_begin none wsX1_begin RX1 4 A (dC, dI) (kT cyB cyI cyJ cyP)) : ∀ (n : Nat) (H : Heap) (locs : List Loc) (ls : Array Slot) (f0_row : Nat → Int32) (l3 : Int32), va_P (dC, dI) vwCl [(a0, .inr (1, [.ref a0_row, z0_owedEach, .ref a1, .ref a2])), (a0_row, .inl (cyI, 64, .inl f0_row)), (a1, .inr (2, [z1_formX, z1_formY, z1_foxX, z1_foxY, z1_seat, z1_strength, .ref a1_debts, z1_near, z1_forms, .int v1_hares, z1_foxes, z1_safe])), (a1_debts, .inl (cyI, 36, .inl f1_debts))] H → va_D A [(a0, .inr (1, [.ref a0_row, z0_owedEach, .ref a1, .ref a2])), (a0_row, .inl (cyI, 64, .inl f0_row)), (a1, .inr (2, [z1_formX, z1_formY, z1_foxX, z1_foxY, z1_seat, z1_strength, .ref a1_debts, z1_near, z1_forms, .int v1_hares, z1_foxes, z1_safe])), (a1_debts, .inl (cyI, 36, .inl f1_debts))] → va_S A s.heap H locs → lv_has ls 4 [(0, .ref a0), (1, .ref a1), (3, .int l3)] → wl_X1_begin_12 v1_hares f1_debts Q  n f0_row l3 → W p l e (headSpec wsX1_begin ({ frames := 1, cells := 0, slots := 0, locals := 40 })).room s m args below meth c H locs 0 0 (MQ below (va_Qv (fun (u : (Nat → Int32)) => Q u) (cB (dC, dI) (kT cyB cyI cyJ cyP) A (fun u : (Nat → Int32) => ([(a0, .inr (1, [.ref a0_row, z0_owedEach, .ref a1, .ref a2])), (a0_row, .inl (cyI, 64, .inl u)), (a1, .inr (2, [z1_formX, z1_formY, z1_foxX, z1_foxY, z1_seat, z1_strength, .ref a1_debts, z1_near, z1_forms, .int v1_hares, z1_foxes, z1_safe])), (a1_debts, .inl (cyI, 36, .inl f1_debts))] : va_W))) A) args s 0 0 A) (F0 m 12 ls []) := by
  obtain ⟨hx, hb, hr, hts, hown, hlocks, hml, hA, hK, hNw⟩ := id C0
  intro n
  induction n with
  | zero => intro H locs ls f0_row l3 hP hD hS hl hw; exact False.elim hw
  | succ n ih =>
    intro H locs ls f0_row l3 hP hD hS hl hw
    refine lv_iload_n hx hb dX1_begin_12 rfl (lv_at hl 2 rfl) ?_
    refine lv_bipush (v := 64) hx hb dX1_begin_13 (by decide) ?_
    refine lv_icmp_ge (tgt := 31) hx hb dX1_begin_15 (by decide) (fun c1 => ?_) (fun c1 => ?_)
    · have hw := hw.1 c1
      refine lv_aload_n hx hb dX1_begin_31 rfl (lv_at hl 0 rfl) ?_
      refine va_get (D := (dC, dI)) (ci := 1) (v := .ref a0_row) (C := RX1) (T := TX1) (N := 4) hx hb hts ui_X1_begin_X1 hown hK hP 0 rfl rfl 0 (by decide) (hts _ uw_X1_begin_f13) (fun _ h9 => h9) rfl dX1_begin_32 ?_
      refine lv_iconst (v := 0) hx hb dX1_begin_35 (by decide) ?_
      refine lv_iconst (v := 1) hx hb dX1_begin_36 (by decide) ?_
      refine va_iast hx hb hK hP hD hS 1 1 rfl rfl (vin (by decide)) dX1_begin_37 (fun H locs hP hD hS => ?_)
      obtain ⟨f2, ef2⟩ : ∃ y : Nat → Int32, y = upd f0_row (0 : Int32).toNatClampNeg 1 := ⟨_, rfl⟩
      have hw := hw f2 ef2
      have hP : va_P (dC, dI) vwCl [(a0, .inr (1, [.ref a0_row, z0_owedEach, .ref a1, .ref a2])), (a0_row, .inl (cyI, 64, .inl f2)), (a1, .inr (2, [z1_formX, z1_formY, z1_foxX, z1_foxY, z1_seat, z1_strength, .ref a1_debts, z1_near, z1_forms, .int v1_hares, z1_foxes, z1_safe])), (a1_debts, .inl (cyI, 36, .inl f1_debts))] H := by rw [ef2]; exact hP
      have hD : va_D A [(a0, .inr (1, [.ref a0_row, z0_owedEach, .ref a1, .ref a2])), (a0_row, .inl (cyI, 64, .inl f2)), (a1, .inr (2, [z1_formX, z1_formY, z1_foxX, z1_foxY, z1_seat, z1_strength, .ref a1_debts, z1_near, z1_forms, .int v1_hares, z1_foxes, z1_safe])), (a1_debts, .inl (cyI, 36, .inl f1_debts))] := by rw [ef2]; exact hD
      refine lv_iconst (v := 0) hx hb dX1_begin_38 (by decide) ?_
      refine lv_istore_n (lv' := [(3, .int 0), (0, .ref a0), (1, .ref a1)]) hx hb dX1_begin_39 rfl hl (by decide) rfl (fun ls hl => ?_)
      obtain ⟨n9, hw⟩ := hw
      exact kl_X1_begin_40 dC dI cyB cyI cyJ cyP a0 a1 a2 a0_row a1_debts z0_owedEach r0_down r0_law z1_formX z1_formY z1_foxX z1_foxY z1_seat z1_strength z1_near z1_forms z1_foxes z1_safe v1_hares f1_debts Q  C0 n9 _ _ _ f2 0 hP hD hS (lv_sub hl [1, 2, 0] rfl) hw
    · have hw := hw.2 c1
      refine lv_aload_n hx hb dX1_begin_18 rfl (lv_at hl 0 rfl) ?_
      refine va_get (D := (dC, dI)) (ci := 1) (v := .ref a0_row) (C := RX1) (T := TX1) (N := 4) hx hb hts ui_X1_begin_X1 hown hK hP 0 rfl rfl 0 (by decide) (hts _ uw_X1_begin_f13) (fun _ h9 => h9) rfl dX1_begin_19 ?_
      refine lv_iload_n hx hb dX1_begin_22 rfl (lv_at hl 2 rfl) ?_
      refine lv_iconst (v := 0) hx hb dX1_begin_23 (by decide) ?_
      obtain ⟨hi9, hw⟩ := hw
      refine va_iast hx hb hK hP hD hS 1 1 rfl rfl hi9 dX1_begin_24 (fun H locs hP hD hS => ?_)
      obtain ⟨f3, ef3⟩ : ∃ y : Nat → Int32, y = upd f0_row l3.toNatClampNeg 0 := ⟨_, rfl⟩
      have hw := hw f3 ef3
      have hP : va_P (dC, dI) vwCl [(a0, .inr (1, [.ref a0_row, z0_owedEach, .ref a1, .ref a2])), (a0_row, .inl (cyI, 64, .inl f3)), (a1, .inr (2, [z1_formX, z1_formY, z1_foxX, z1_foxY, z1_seat, z1_strength, .ref a1_debts, z1_near, z1_forms, .int v1_hares, z1_foxes, z1_safe])), (a1_debts, .inl (cyI, 36, .inl f1_debts))] H := by rw [ef3]; exact hP
      have hD : va_D A [(a0, .inr (1, [.ref a0_row, z0_owedEach, .ref a1, .ref a2])), (a0_row, .inl (cyI, 64, .inl f3)), (a1, .inr (2, [z1_formX, z1_formY, z1_foxX, z1_foxY, z1_seat, z1_strength, .ref a1_debts, z1_near, z1_forms, .int v1_hares, z1_foxes, z1_safe])), (a1_debts, .inl (cyI, 36, .inl f1_debts))] := by rw [ef3]; exact hD
      obtain ⟨x4, ex4⟩ : ∃ y : Int32, y = l3 + 1 := ⟨_, rfl⟩
      have hw := hw x4 ex4
      refine lv_iinc (v := x4) (lv' := [(3, .int x4), (0, .ref a0), (1, .ref a1)]) hx hb dX1_begin_25 hl (k := 2) rfl (by rw [ex4]; rfl) (by decide) rfl (fun ls hl => ?_)
      refine lv_goto (tgt := 12) hx hb dX1_begin_28 (by decide) ?_
      exact ih _ _ _ f3 x4 hP hD hS (lv_sub hl [1, 2, 0] rfl) hw
def wq_X1_begin (v1_hares : Int32) (f1_debts : Nat → Int32) (f0_row : Nat → Int32)  (Q : (Nat → Int32) → Prop) : Prop := (∃ k9 : Nat, wl_X1_begin_12 v1_hares f1_debts Q  k9 f0_row 0)
set_option maxHeartbeats 4000000 in
set_option maxRecDepth 100000 in
theorem ck_X1_begin (l : Launch) (dC : Nat → ClassId) (dI : Nat → Nat → Nat) (cyB cyI cyJ cyP : ClassId) (a0 a1 a2 a0_row a1_debts : Nat) (sz : Nat) (z0_owedEach : Value) (r0_down : Value) (r0_law : Value) (z1_formX : Value) (z1_formY : Value) (z1_foxX : Value) (z1_foxY : Value) (z1_seat : Value) (z1_strength : Value) (z1_near : Value) (z1_forms : Value) (z1_foxes : Value) (z1_safe : Value) (v1_hares : Int32) (f1_debts : Nat → Int32) (f0_row : Nat → Int32)  {Q : (Nat → Int32) → Prop} (hw : wq_X1_begin v1_hares f1_debts f0_row  Q) : Met l yX1_begin wsX1_begin ({ frames := 1, cells := 0, slots := 0, locals := 40 }) (va_Pc [.ref a0, .ref a1, .ref a2] (cPc (dC, dI) (kT cyB cyI cyJ cyP) [(a0, .inr (1, [.ref a0_row, z0_owedEach, r0_down, r0_law])), (a0_row, .inl (cyI, 64, .inl f0_row)), (a1, .inr (2, [z1_formX, z1_formY, z1_foxX, z1_foxY, z1_seat, z1_strength, .ref a1_debts, z1_near, z1_forms, .int v1_hares, z1_foxes, z1_safe])), (a1_debts, .inl (cyI, 36, .inl f1_debts))] sz)) (va_Qv (fun (u : (Nat → Int32)) => Q u) (cB (dC, dI) (kT cyB cyI cyJ cyP) (va_A [(a0, .inr (1, [.ref a0_row, z0_owedEach, r0_down, r0_law])), (a0_row, .inl (cyI, 64, .inl f0_row)), (a1, .inr (2, [z1_formX, z1_formY, z1_foxX, z1_foxY, z1_seat, z1_strength, .ref a1_debts, z1_near, z1_forms, .int v1_hares, z1_foxes, z1_safe])), (a1_debts, .inl (cyI, 36, .inl f1_debts))] sz) (fun u : (Nat → Int32) => ([(a0, .inr (1, [.ref a0_row, z0_owedEach, .ref a1, .ref a2])), (a0_row, .inl (cyI, 64, .inl u)), (a1, .inr (2, [z1_formX, z1_formY, z1_foxX, z1_foxY, z1_seat, z1_strength, .ref a1_debts, z1_near, z1_forms, .int v1_hares, z1_foxes, z1_safe])), (a1_debts, .inl (cyI, 36, .inl f1_debts))] : va_W))) (va_A [(a0, .inr (1, [.ref a0_row, z0_owedEach, r0_down, r0_law])), (a0_row, .inl (cyI, 64, .inl f0_row)), (a1, .inr (2, [z1_formX, z1_formY, z1_foxX, z1_foxY, z1_seat, z1_strength, .ref a1_debts, z1_near, z1_forms, .int v1_hares, z1_foxes, z1_safe])), (a1_debts, .inl (cyI, 36, .inl f1_debts))] sz)) 0 0 (va_A [(a0, .inr (1, [.ref a0_row, z0_owedEach, r0_down, r0_law])), (a0_row, .inl (cyI, 64, .inl f0_row)), (a1, .inr (2, [z1_formX, z1_formY, z1_foxX, z1_foxY, z1_seat, z1_strength, .ref a1_debts, z1_near, z1_forms, .int v1_hares, z1_foxes, z1_safe])), (a1_debts, .inl (cyI, 36, .inl f1_debts))] sz) := by
  refine Met.ofW (cc := cX1_begin) (maxL := 4) (ret := none) (by decide) rfl ?_
  intro p e s m args below meth c s₁ B hml hv
  obtain ⟨rfl, hsz, hP, hK, hD0, hNw⟩ := hv
  have hx := B.exec
  have hb := B.bytes
  have hr := B.returns
  have hts := atoms_spec (ws := wsX1_begin) B.pre
  have hown : s.vm.findClass RX1 = some m.cls := findClass_of_methodNamed B.named
  have hlocks := B.notSynchronized
  subst hsz
  have hD := hD0.self (sz := s.heap.size)
  generalize hAe : va_A [(a0, .inr (1, [.ref a0_row, z0_owedEach, r0_down, r0_law])), (a0_row, .inl (cyI, 64, .inl f0_row)), (a1, .inr (2, [z1_formX, z1_formY, z1_foxX, z1_foxY, z1_seat, z1_strength, .ref a1_debts, z1_near, z1_forms, .int v1_hares, z1_foxes, z1_safe])), (a1_debts, .inl (cyI, 36, .inl f1_debts))] s.heap.size = A at hD ⊢
  have hA : ∀ q : Nat, s.heap.size ≤ q → A q := fun q h => by rw [← hAe]; exact Or.inr h
  have hS : va_S A s.heap s.heap [] := va_S.rf
  have hP : va_P (dC, dI) vwCl [(a0, .inr (1, [.ref a0_row, z0_owedEach, r0_down, r0_law])), (a0_row, .inl (cyI, 64, .inl f0_row)), (a1, .inr (2, [z1_formX, z1_formY, z1_foxX, z1_foxY, z1_seat, z1_strength, .ref a1_debts, z1_near, z1_forms, .int v1_hares, z1_foxes, z1_safe])), (a1_debts, .inl (cyI, 36, .inl f1_debts))] s.heap := hP
  have hl := lv_entry ([.ref a0, .ref a1, .ref a2]) (n := 4) (Nat.le_of_ble_eq_true rfl)
  rw [lg_entry_eq]
  generalize (lg_sl ([.ref a0, .ref a1, .ref a2]) ++ List.replicate (4 - (lg_sl ([.ref a0, .ref a1, .ref a2])).length) Slot.unset).toArray = ls at hl ⊢
  have hl : lv_has ls 4 [(0, .ref a0), (1, .ref a1), (2, .ref a2)] := hl
  have C0 : cfx p s m _ meth c cX1_begin none wsX1_begin RX1 4 A (dC, dI) (kT cyB cyI cyJ cyP) := ⟨hx, hb, hr, hts, hown, hlocks, hml, hA, hK, hNw⟩
  clear hAe
  obtain ⟨H, hH⟩ : ∃ H, H = s.heap := ⟨_, rfl⟩
  rw [← hH] at hP ⊢
  have hS : va_S A s.heap H [] := by rw [hH]; exact va_S.rf
  have hS := hS
  refine lv_aload_n hx hb dX1_begin_0 rfl (lv_at hl 0 rfl) ?_
  refine lv_aload_n hx hb dX1_begin_1 rfl (lv_at hl 1 rfl) ?_
  refine va_put (D := (dC, dI)) (ci := 1) (v := .ref a1) (ty := .object "MarchHares$Down") (C := RX1) (T := TX1) (N := 4) hx hb hts ui_X1_begin_X1 tyX1 tyX1_ok nmX1 hown hK hP hD hS 0 rfl rfl 2 (by decide) (hts _ uw_X1_begin_f24) (fun _ h9 => h9) rfl (by decide +kernel) rfl rfl (Nat.le_of_ble_eq_true rfl) dX1_begin_2 (fun H locs hP hD hS => ?_)
  have hP : va_P (dC, dI) vwCl [(a0, .inr (1, [.ref a0_row, z0_owedEach, .ref a1, r0_law])), (a0_row, .inl (cyI, 64, .inl f0_row)), (a1, .inr (2, [z1_formX, z1_formY, z1_foxX, z1_foxY, z1_seat, z1_strength, .ref a1_debts, z1_near, z1_forms, .int v1_hares, z1_foxes, z1_safe])), (a1_debts, .inl (cyI, 36, .inl f1_debts))] H := hP
  have hD : va_D A [(a0, .inr (1, [.ref a0_row, z0_owedEach, .ref a1, r0_law])), (a0_row, .inl (cyI, 64, .inl f0_row)), (a1, .inr (2, [z1_formX, z1_formY, z1_foxX, z1_foxY, z1_seat, z1_strength, .ref a1_debts, z1_near, z1_forms, .int v1_hares, z1_foxes, z1_safe])), (a1_debts, .inl (cyI, 36, .inl f1_debts))] := hD
  refine lv_aload_n hx hb dX1_begin_5 rfl (lv_at hl 0 rfl) ?_
  refine lv_aload_n hx hb dX1_begin_6 rfl (lv_at hl 2 rfl) ?_
  refine va_put (D := (dC, dI)) (ci := 1) (v := .ref a2) (ty := .object "MarchHares$Law") (C := RX1) (T := TX1) (N := 4) hx hb hts ui_X1_begin_X1 tyX1 tyX1_ok nmX1 hown hK hP hD hS 0 rfl rfl 3 (by decide) (hts _ uw_X1_begin_f28) (fun _ h9 => h9) rfl (by decide +kernel) rfl rfl (Nat.le_of_ble_eq_true rfl) dX1_begin_7 (fun H locs hP hD hS => ?_)
  have hP : va_P (dC, dI) vwCl [(a0, .inr (1, [.ref a0_row, z0_owedEach, .ref a1, .ref a2])), (a0_row, .inl (cyI, 64, .inl f0_row)), (a1, .inr (2, [z1_formX, z1_formY, z1_foxX, z1_foxY, z1_seat, z1_strength, .ref a1_debts, z1_near, z1_forms, .int v1_hares, z1_foxes, z1_safe])), (a1_debts, .inl (cyI, 36, .inl f1_debts))] H := hP
  have hD : va_D A [(a0, .inr (1, [.ref a0_row, z0_owedEach, .ref a1, .ref a2])), (a0_row, .inl (cyI, 64, .inl f0_row)), (a1, .inr (2, [z1_formX, z1_formY, z1_foxX, z1_foxY, z1_seat, z1_strength, .ref a1_debts, z1_near, z1_forms, .int v1_hares, z1_foxes, z1_safe])), (a1_debts, .inl (cyI, 36, .inl f1_debts))] := hD
  refine lv_iconst (v := 0) hx hb dX1_begin_10 (by decide) ?_
  refine lv_istore_n (lv' := [(3, .int 0), (0, .ref a0), (1, .ref a1), (2, .ref a2)]) hx hb dX1_begin_11 rfl hl (by decide) rfl (fun ls hl => ?_)
  obtain ⟨n9, hw⟩ := hw
  exact kl_X1_begin_12 dC dI cyB cyI cyJ cyP a0 a1 a2 a0_row a1_debts z0_owedEach r0_down r0_law z1_formX z1_formY z1_foxX z1_foxY z1_seat z1_strength z1_near z1_forms z1_foxes z1_safe v1_hares f1_debts Q  C0 n9 _ _ _ f0_row 0 hP hD hS (lv_sub hl [1, 2, 0] rfl) hw
theorem ui_X10_down_X10 : ∀ w ∈ u_ws RX10 TX10 19, w ∈ wsX10_down := by decide +kernel
theorem ui_X10_down_X2 : ∀ w ∈ u_ws RX2 TX2 12, w ∈ wsX10_down := by decide +kernel
theorem ui_X10_down_X5 : ∀ w ∈ u_ws RX5 TX5 2, w ∈ wsX10_down := by decide +kernel
theorem uw_X10_down_f10 : (.fieldLink RX10 10 "MarchHares" "tape" "LMarchHares$Tape;" : Cond) ∈ wsX10_down := by decide +kernel
theorem uw_X10_down_f132 : (.fieldLink RX10 132 "MarchHares$Past" "kept" "I" : Cond) ∈ wsX10_down := by decide +kernel
theorem uw_X10_down_f135 : (.fieldLink RX10 135 "MarchHares" "imagesKept" "I" : Cond) ∈ wsX10_down := by decide +kernel
theorem uw_X10_down_f138 : (.fieldLink RX10 138 "MarchHares" "refusedSteps" "I" : Cond) ∈ wsX10_down := by decide +kernel
theorem uw_X10_down_f141 : (.fieldLink RX10 141 "MarchHares$Down" "hares" "I" : Cond) ∈ wsX10_down := by decide +kernel
theorem uw_X10_down_f19 : (.fieldLink RX10 19 "MarchHares" "ground" "LMarchHares$Down;" : Cond) ∈ wsX10_down := by decide +kernel
theorem uw_X10_down_f23 : (.fieldLink RX10 23 "MarchHares" "spareGround" "LMarchHares$Down;" : Cond) ∈ wsX10_down := by decide +kernel
theorem uw_X10_down_f29 : (.fieldLink RX10 29 "MarchHares" "rule" "LMarchHares$Law;" : Cond) ∈ wsX10_down := by decide +kernel
theorem uw_X10_down_f39 : (.fieldLink RX10 39 "MarchHares" "lines" "LMarchHares$Book;" : Cond) ∈ wsX10_down := by decide +kernel
theorem uw_X10_down_f58 : (.fieldLink RX10 58 "MarchHares" "now" "LMarchHares$Days;" : Cond) ∈ wsX10_down := by decide +kernel
theorem uw_X10_down_f68 : (.fieldLink RX10 68 "MarchHares" "past" "LMarchHares$Past;" : Cond) ∈ wsX10_down := by decide +kernel
def wq_X10_down (a0_ground : Nat) (a0_spareGround : Nat) (a0_rule : Nat) (v0_callsIllegal : Int32) (v0_tape_length : Int32) (v0_tape_at : Int32) (v0_tape_token : Int32) (v0_tape_filled : Int32) (v0_tape_fault : Int32) (v0_tape_faultPlace : Int32) (v0_spareGround_forms : Int32) (v0_spareGround_hares : Int32) (v0_spareGround_foxes : Int32) (f0_spareGround_debts : Nat → Int32) (v0_spareGround_safe : Int32) (r0_ground : Value) (r0_spareGround : Value) (v0_rule_length : Int32) (f0_rule_kinds : Nat → Int32) (f0_rule_values : Nat → Int32) (v0_lines_many : Int32) (f0_lines_seen : Nat → Int32) (f0_now_row : Nat → Int32) (r0_now_down : Value) (r0_now_law : Value) (v0_past_kept : Int32) (v0_imagesKept : Int32) (v0_refusedSteps : Int32) (p1 : Int32) (E : String → Int32 → Int32 → Int32 → Int32 → Int32 → Int32 → Int32 → Int32 → Int32 → Int32 → (Nat → Int32) → Int32 → Value → Value → Int32 → (Nat → Int32) → (Nat → Int32) → Int32 → (Nat → Int32) → (Nat → Int32) → Value → Value → Int32 → Int32 → Int32 → Prop) (Q : Int32 → Int32 → Int32 → Int32 → Int32 → Int32 → Int32 → Int32 → Int32 → Int32 → Int32 → (Nat → Int32) → Int32 → Value → Value → Int32 → (Nat → Int32) → (Nat → Int32) → Int32 → (Nat → Int32) → (Nat → Int32) → Value → Value → Int32 → Int32 → Int32 → Prop) : Prop := wq_X10_openText  v0_callsIllegal v0_tape_length v0_tape_at v0_tape_token v0_tape_filled v0_tape_fault v0_tape_faultPlace p1 600 (fun en x1 x2 x3 x4 x5 x6 x7 => E en x1 x2 x3 x4 x5 x6 x7 v0_spareGround_forms v0_spareGround_hares v0_spareGround_foxes f0_spareGround_debts v0_spareGround_safe (.ref a0_ground) (.ref a0_spareGround) v0_rule_length f0_rule_kinds f0_rule_values v0_lines_many f0_lines_seen f0_now_row r0_now_down r0_now_law v0_past_kept v0_imagesKept v0_refusedSteps) (fun x1 x2 x3 x4 x5 x6 x7 => wq_X2_readFrom x2 x3 x6 v0_spareGround_forms v0_spareGround_hares v0_spareGround_foxes f0_spareGround_debts v0_spareGround_safe  (fun x8 x9 x10 f11 x12 => wq_X8_isFaulty x6   (fun r13 => ((r13 = 0 → wq_X4_setPlain  v0_rule_length f0_rule_kinds f0_rule_values  (fun x15 f16 f17 => wq_X0_clear  v0_lines_many f0_lines_seen  (fun x18 f19 => wq_X1_begin x9 f11 f0_now_row  (fun f20 => (Q x9 x1 x2 x3 x4 x5 x6 x7 x8 x9 x10 f11 x12 (.ref a0_spareGround) (.ref a0_ground) x15 f16 f17 x18 f19 f20 (.ref a0_spareGround) (.ref a0_rule) 0 0 0))))) ∧ (¬ r13 = 0 → False)))))
set_option maxHeartbeats 4000000 in
set_option maxRecDepth 100000 in
theorem ck_X10_down (l : Launch) (dC : Nat → ClassId) (dI : Nat → Nat → Nat) (cyB cyI cyJ cyP : ClassId) (a0 a0_tape a0_spareGround a0_spareGround_debts a0_ground a0_rule a0_rule_kinds a0_rule_values a0_lines a0_lines_seen a0_now a0_now_row a0_past : Nat) (sz : Nat) (z0_spareRule : Value) (z0_spareLines : Value) (z0_steps : Value) (z0_trial : Value) (z0_images : Value) (z0_round : Value) (z0_seating : Value) (z0_fitting : Value) (z0_callsNoSuch : Value) (z0_tape_bytes : Value) (z0_spareGround_formX : Value) (z0_spareGround_formY : Value) (z0_spareGround_foxX : Value) (z0_spareGround_foxY : Value) (z0_spareGround_seat : Value) (z0_spareGround_strength : Value) (z0_spareGround_near : Value) (z0_rule_pile : Value) (z0_rule_facts : Value) (z0_now_owedEach : Value) (z0_past_rows : Value)  (v0_callsIllegal : Int32) (v0_tape_length : Int32) (v0_tape_at : Int32) (v0_tape_token : Int32) (v0_tape_filled : Int32) (v0_tape_fault : Int32) (v0_tape_faultPlace : Int32) (v0_spareGround_forms : Int32) (v0_spareGround_hares : Int32) (v0_spareGround_foxes : Int32) (f0_spareGround_debts : Nat → Int32) (v0_spareGround_safe : Int32) (v0_rule_length : Int32) (f0_rule_kinds : Nat → Int32) (f0_rule_values : Nat → Int32) (v0_lines_many : Int32) (f0_lines_seen : Nat → Int32) (f0_now_row : Nat → Int32) (r0_now_down : Value) (r0_now_law : Value) (v0_past_kept : Int32) (v0_imagesKept : Int32) (v0_refusedSteps : Int32) (p1 : Int32) {E : String → Int32 → Int32 → Int32 → Int32 → Int32 → Int32 → Int32 → Int32 → Int32 → Int32 → (Nat → Int32) → Int32 → Value → Value → Int32 → (Nat → Int32) → (Nat → Int32) → Int32 → (Nat → Int32) → (Nat → Int32) → Value → Value → Int32 → Int32 → Int32 → Prop} {Q : Int32 → Int32 → Int32 → Int32 → Int32 → Int32 → Int32 → Int32 → Int32 → Int32 → Int32 → (Nat → Int32) → Int32 → Value → Value → Int32 → (Nat → Int32) → (Nat → Int32) → Int32 → (Nat → Int32) → (Nat → Int32) → Value → Value → Int32 → Int32 → Int32 → Prop} (hw : wq_X10_down a0_ground a0_spareGround a0_rule v0_callsIllegal v0_tape_length v0_tape_at v0_tape_token v0_tape_filled v0_tape_fault v0_tape_faultPlace v0_spareGround_forms v0_spareGround_hares v0_spareGround_foxes f0_spareGround_debts v0_spareGround_safe (.ref a0_ground) (.ref a0_spareGround) v0_rule_length f0_rule_kinds f0_rule_values v0_lines_many f0_lines_seen f0_now_row r0_now_down r0_now_law v0_past_kept v0_imagesKept v0_refusedSteps p1 E Q) : vx_Met l yX10_down wsX10_down ({ frames := 9, cells := 1, slots := 6, locals := 186 }) (va_Pc [.ref a0, .int p1] (cPx l (dC, dI) (kT cyB cyI cyJ cyP) [(a0, .inr (10, [.ref a0_tape, .ref a0_ground, .ref a0_spareGround, .ref a0_rule, z0_spareRule, .ref a0_lines, z0_spareLines, z0_steps, .ref a0_now, z0_trial, .ref a0_past, z0_images, z0_round, z0_seating, z0_fitting, .int v0_imagesKept, .int v0_refusedSteps, z0_callsNoSuch, .int v0_callsIllegal])), (a0_tape, .inr (8, [z0_tape_bytes, .int v0_tape_length, .int v0_tape_at, .int v0_tape_token, .int v0_tape_filled, .int v0_tape_fault, .int v0_tape_faultPlace])), (a0_spareGround, .inr (2, [z0_spareGround_formX, z0_spareGround_formY, z0_spareGround_foxX, z0_spareGround_foxY, z0_spareGround_seat, z0_spareGround_strength, .ref a0_spareGround_debts, z0_spareGround_near, .int v0_spareGround_forms, .int v0_spareGround_hares, .int v0_spareGround_foxes, .int v0_spareGround_safe])), (a0_spareGround_debts, .inl (cyI, 36, .inl f0_spareGround_debts)), (a0_rule, .inr (4, [.ref a0_rule_kinds, .ref a0_rule_values, z0_rule_pile, z0_rule_facts, .int v0_rule_length])), (a0_rule_kinds, .inl (cyI, 150, .inl f0_rule_kinds)), (a0_rule_values, .inl (cyI, 150, .inl f0_rule_values)), (a0_lines, .inr (0, [.ref a0_lines_seen, .int v0_lines_many])), (a0_lines_seen, .inl (cyI, 8, .inl f0_lines_seen)), (a0_now, .inr (1, [.ref a0_now_row, z0_now_owedEach, r0_now_down, r0_now_law])), (a0_now_row, .inl (cyI, 64, .inl f0_now_row)), (a0_past, .inr (5, [z0_past_rows, .int v0_past_kept]))] sz)) (va_Qi (fun (r : Int32) (u : Int32 × Int32 × Int32 × Int32 × Int32 × Int32 × Int32 × Int32 × Int32 × Int32 × (Nat → Int32) × Int32 × Value × Value × Int32 × (Nat → Int32) × (Nat → Int32) × Int32 × (Nat → Int32) × (Nat → Int32) × Value × Value × Int32 × Int32 × Int32) => Q r u.1 u.2.1 u.2.2.1 u.2.2.2.1 u.2.2.2.2.1 u.2.2.2.2.2.1 u.2.2.2.2.2.2.1 u.2.2.2.2.2.2.2.1 u.2.2.2.2.2.2.2.2.1 u.2.2.2.2.2.2.2.2.2.1 u.2.2.2.2.2.2.2.2.2.2.1 u.2.2.2.2.2.2.2.2.2.2.2.1 u.2.2.2.2.2.2.2.2.2.2.2.2.1 u.2.2.2.2.2.2.2.2.2.2.2.2.2.1 u.2.2.2.2.2.2.2.2.2.2.2.2.2.2.1 u.2.2.2.2.2.2.2.2.2.2.2.2.2.2.2.1 u.2.2.2.2.2.2.2.2.2.2.2.2.2.2.2.2.1 u.2.2.2.2.2.2.2.2.2.2.2.2.2.2.2.2.2.1 u.2.2.2.2.2.2.2.2.2.2.2.2.2.2.2.2.2.2.1 u.2.2.2.2.2.2.2.2.2.2.2.2.2.2.2.2.2.2.2.1 u.2.2.2.2.2.2.2.2.2.2.2.2.2.2.2.2.2.2.2.2.1 u.2.2.2.2.2.2.2.2.2.2.2.2.2.2.2.2.2.2.2.2.2.1 u.2.2.2.2.2.2.2.2.2.2.2.2.2.2.2.2.2.2.2.2.2.2.1 u.2.2.2.2.2.2.2.2.2.2.2.2.2.2.2.2.2.2.2.2.2.2.2.1 u.2.2.2.2.2.2.2.2.2.2.2.2.2.2.2.2.2.2.2.2.2.2.2.2) (cB (dC, dI) (kT cyB cyI cyJ cyP) (va_A [(a0, .inr (10, [.ref a0_tape, .ref a0_ground, .ref a0_spareGround, .ref a0_rule, z0_spareRule, .ref a0_lines, z0_spareLines, z0_steps, .ref a0_now, z0_trial, .ref a0_past, z0_images, z0_round, z0_seating, z0_fitting, .int v0_imagesKept, .int v0_refusedSteps, z0_callsNoSuch, .int v0_callsIllegal])), (a0_tape, .inr (8, [z0_tape_bytes, .int v0_tape_length, .int v0_tape_at, .int v0_tape_token, .int v0_tape_filled, .int v0_tape_fault, .int v0_tape_faultPlace])), (a0_spareGround, .inr (2, [z0_spareGround_formX, z0_spareGround_formY, z0_spareGround_foxX, z0_spareGround_foxY, z0_spareGround_seat, z0_spareGround_strength, .ref a0_spareGround_debts, z0_spareGround_near, .int v0_spareGround_forms, .int v0_spareGround_hares, .int v0_spareGround_foxes, .int v0_spareGround_safe])), (a0_spareGround_debts, .inl (cyI, 36, .inl f0_spareGround_debts)), (a0_rule, .inr (4, [.ref a0_rule_kinds, .ref a0_rule_values, z0_rule_pile, z0_rule_facts, .int v0_rule_length])), (a0_rule_kinds, .inl (cyI, 150, .inl f0_rule_kinds)), (a0_rule_values, .inl (cyI, 150, .inl f0_rule_values)), (a0_lines, .inr (0, [.ref a0_lines_seen, .int v0_lines_many])), (a0_lines_seen, .inl (cyI, 8, .inl f0_lines_seen)), (a0_now, .inr (1, [.ref a0_now_row, z0_now_owedEach, r0_now_down, r0_now_law])), (a0_now_row, .inl (cyI, 64, .inl f0_now_row)), (a0_past, .inr (5, [z0_past_rows, .int v0_past_kept]))] sz) (fun u : Int32 × Int32 × Int32 × Int32 × Int32 × Int32 × Int32 × Int32 × Int32 × Int32 × (Nat → Int32) × Int32 × Value × Value × Int32 × (Nat → Int32) × (Nat → Int32) × Int32 × (Nat → Int32) × (Nat → Int32) × Value × Value × Int32 × Int32 × Int32 => ([(a0, .inr (10, [.ref a0_tape, u.2.2.2.2.2.2.2.2.2.2.2.2.1, u.2.2.2.2.2.2.2.2.2.2.2.2.2.1, .ref a0_rule, z0_spareRule, .ref a0_lines, z0_spareLines, z0_steps, .ref a0_now, z0_trial, .ref a0_past, z0_images, z0_round, z0_seating, z0_fitting, .int u.2.2.2.2.2.2.2.2.2.2.2.2.2.2.2.2.2.2.2.2.2.2.2.1, .int u.2.2.2.2.2.2.2.2.2.2.2.2.2.2.2.2.2.2.2.2.2.2.2.2, z0_callsNoSuch, .int u.1])), (a0_tape, .inr (8, [z0_tape_bytes, .int u.2.1, .int u.2.2.1, .int u.2.2.2.1, .int u.2.2.2.2.1, .int u.2.2.2.2.2.1, .int u.2.2.2.2.2.2.1])), (a0_spareGround, .inr (2, [z0_spareGround_formX, z0_spareGround_formY, z0_spareGround_foxX, z0_spareGround_foxY, z0_spareGround_seat, z0_spareGround_strength, .ref a0_spareGround_debts, z0_spareGround_near, .int u.2.2.2.2.2.2.2.1, .int u.2.2.2.2.2.2.2.2.1, .int u.2.2.2.2.2.2.2.2.2.1, .int u.2.2.2.2.2.2.2.2.2.2.2.1])), (a0_spareGround_debts, .inl (cyI, 36, .inl u.2.2.2.2.2.2.2.2.2.2.1)), (a0_rule, .inr (4, [.ref a0_rule_kinds, .ref a0_rule_values, z0_rule_pile, z0_rule_facts, .int u.2.2.2.2.2.2.2.2.2.2.2.2.2.2.1])), (a0_rule_kinds, .inl (cyI, 150, .inl u.2.2.2.2.2.2.2.2.2.2.2.2.2.2.2.1)), (a0_rule_values, .inl (cyI, 150, .inl u.2.2.2.2.2.2.2.2.2.2.2.2.2.2.2.2.1)), (a0_lines, .inr (0, [.ref a0_lines_seen, .int u.2.2.2.2.2.2.2.2.2.2.2.2.2.2.2.2.2.1])), (a0_lines_seen, .inl (cyI, 8, .inl u.2.2.2.2.2.2.2.2.2.2.2.2.2.2.2.2.2.2.1)), (a0_now, .inr (1, [.ref a0_now_row, z0_now_owedEach, u.2.2.2.2.2.2.2.2.2.2.2.2.2.2.2.2.2.2.2.2.1, u.2.2.2.2.2.2.2.2.2.2.2.2.2.2.2.2.2.2.2.2.2.1])), (a0_now_row, .inl (cyI, 64, .inl u.2.2.2.2.2.2.2.2.2.2.2.2.2.2.2.2.2.2.2.1)), (a0_past, .inr (5, [z0_past_rows, .int u.2.2.2.2.2.2.2.2.2.2.2.2.2.2.2.2.2.2.2.2.2.2.1]))] : va_W))) (va_A [(a0, .inr (10, [.ref a0_tape, .ref a0_ground, .ref a0_spareGround, .ref a0_rule, z0_spareRule, .ref a0_lines, z0_spareLines, z0_steps, .ref a0_now, z0_trial, .ref a0_past, z0_images, z0_round, z0_seating, z0_fitting, .int v0_imagesKept, .int v0_refusedSteps, z0_callsNoSuch, .int v0_callsIllegal])), (a0_tape, .inr (8, [z0_tape_bytes, .int v0_tape_length, .int v0_tape_at, .int v0_tape_token, .int v0_tape_filled, .int v0_tape_fault, .int v0_tape_faultPlace])), (a0_spareGround, .inr (2, [z0_spareGround_formX, z0_spareGround_formY, z0_spareGround_foxX, z0_spareGround_foxY, z0_spareGround_seat, z0_spareGround_strength, .ref a0_spareGround_debts, z0_spareGround_near, .int v0_spareGround_forms, .int v0_spareGround_hares, .int v0_spareGround_foxes, .int v0_spareGround_safe])), (a0_spareGround_debts, .inl (cyI, 36, .inl f0_spareGround_debts)), (a0_rule, .inr (4, [.ref a0_rule_kinds, .ref a0_rule_values, z0_rule_pile, z0_rule_facts, .int v0_rule_length])), (a0_rule_kinds, .inl (cyI, 150, .inl f0_rule_kinds)), (a0_rule_values, .inl (cyI, 150, .inl f0_rule_values)), (a0_lines, .inr (0, [.ref a0_lines_seen, .int v0_lines_many])), (a0_lines_seen, .inl (cyI, 8, .inl f0_lines_seen)), (a0_now, .inr (1, [.ref a0_now_row, z0_now_owedEach, r0_now_down, r0_now_law])), (a0_now_row, .inl (cyI, 64, .inl f0_now_row)), (a0_past, .inr (5, [z0_past_rows, .int v0_past_kept]))] sz)) (vx_X (fun _ => True) (fun (en : String) (u : Int32 × Int32 × Int32 × Int32 × Int32 × Int32 × Int32 × Int32 × Int32 × Int32 × (Nat → Int32) × Int32 × Value × Value × Int32 × (Nat → Int32) × (Nat → Int32) × Int32 × (Nat → Int32) × (Nat → Int32) × Value × Value × Int32 × Int32 × Int32) (t : State) => E en u.1 u.2.1 u.2.2.1 u.2.2.2.1 u.2.2.2.2.1 u.2.2.2.2.2.1 u.2.2.2.2.2.2.1 u.2.2.2.2.2.2.2.1 u.2.2.2.2.2.2.2.2.1 u.2.2.2.2.2.2.2.2.2.1 u.2.2.2.2.2.2.2.2.2.2.1 u.2.2.2.2.2.2.2.2.2.2.2.1 u.2.2.2.2.2.2.2.2.2.2.2.2.1 u.2.2.2.2.2.2.2.2.2.2.2.2.2.1 u.2.2.2.2.2.2.2.2.2.2.2.2.2.2.1 u.2.2.2.2.2.2.2.2.2.2.2.2.2.2.2.1 u.2.2.2.2.2.2.2.2.2.2.2.2.2.2.2.2.1 u.2.2.2.2.2.2.2.2.2.2.2.2.2.2.2.2.2.1 u.2.2.2.2.2.2.2.2.2.2.2.2.2.2.2.2.2.2.1 u.2.2.2.2.2.2.2.2.2.2.2.2.2.2.2.2.2.2.2.1 u.2.2.2.2.2.2.2.2.2.2.2.2.2.2.2.2.2.2.2.2.1 u.2.2.2.2.2.2.2.2.2.2.2.2.2.2.2.2.2.2.2.2.2.1 u.2.2.2.2.2.2.2.2.2.2.2.2.2.2.2.2.2.2.2.2.2.2.1 u.2.2.2.2.2.2.2.2.2.2.2.2.2.2.2.2.2.2.2.2.2.2.2.1 u.2.2.2.2.2.2.2.2.2.2.2.2.2.2.2.2.2.2.2.2.2.2.2.2 ∧ cB (dC, dI) (kT cyB cyI cyJ cyP) (va_A [(a0, .inr (10, [.ref a0_tape, .ref a0_ground, .ref a0_spareGround, .ref a0_rule, z0_spareRule, .ref a0_lines, z0_spareLines, z0_steps, .ref a0_now, z0_trial, .ref a0_past, z0_images, z0_round, z0_seating, z0_fitting, .int v0_imagesKept, .int v0_refusedSteps, z0_callsNoSuch, .int v0_callsIllegal])), (a0_tape, .inr (8, [z0_tape_bytes, .int v0_tape_length, .int v0_tape_at, .int v0_tape_token, .int v0_tape_filled, .int v0_tape_fault, .int v0_tape_faultPlace])), (a0_spareGround, .inr (2, [z0_spareGround_formX, z0_spareGround_formY, z0_spareGround_foxX, z0_spareGround_foxY, z0_spareGround_seat, z0_spareGround_strength, .ref a0_spareGround_debts, z0_spareGround_near, .int v0_spareGround_forms, .int v0_spareGround_hares, .int v0_spareGround_foxes, .int v0_spareGround_safe])), (a0_spareGround_debts, .inl (cyI, 36, .inl f0_spareGround_debts)), (a0_rule, .inr (4, [.ref a0_rule_kinds, .ref a0_rule_values, z0_rule_pile, z0_rule_facts, .int v0_rule_length])), (a0_rule_kinds, .inl (cyI, 150, .inl f0_rule_kinds)), (a0_rule_values, .inl (cyI, 150, .inl f0_rule_values)), (a0_lines, .inr (0, [.ref a0_lines_seen, .int v0_lines_many])), (a0_lines_seen, .inl (cyI, 8, .inl f0_lines_seen)), (a0_now, .inr (1, [.ref a0_now_row, z0_now_owedEach, r0_now_down, r0_now_law])), (a0_now_row, .inl (cyI, 64, .inl f0_now_row)), (a0_past, .inr (5, [z0_past_rows, .int v0_past_kept]))] sz) (fun u : Int32 × Int32 × Int32 × Int32 × Int32 × Int32 × Int32 × Int32 × Int32 × Int32 × (Nat → Int32) × Int32 × Value × Value × Int32 × (Nat → Int32) × (Nat → Int32) × Int32 × (Nat → Int32) × (Nat → Int32) × Value × Value × Int32 × Int32 × Int32 => ([(a0, .inr (10, [.ref a0_tape, u.2.2.2.2.2.2.2.2.2.2.2.2.1, u.2.2.2.2.2.2.2.2.2.2.2.2.2.1, .ref a0_rule, z0_spareRule, .ref a0_lines, z0_spareLines, z0_steps, .ref a0_now, z0_trial, .ref a0_past, z0_images, z0_round, z0_seating, z0_fitting, .int u.2.2.2.2.2.2.2.2.2.2.2.2.2.2.2.2.2.2.2.2.2.2.2.1, .int u.2.2.2.2.2.2.2.2.2.2.2.2.2.2.2.2.2.2.2.2.2.2.2.2, z0_callsNoSuch, .int u.1])), (a0_tape, .inr (8, [z0_tape_bytes, .int u.2.1, .int u.2.2.1, .int u.2.2.2.1, .int u.2.2.2.2.1, .int u.2.2.2.2.2.1, .int u.2.2.2.2.2.2.1])), (a0_spareGround, .inr (2, [z0_spareGround_formX, z0_spareGround_formY, z0_spareGround_foxX, z0_spareGround_foxY, z0_spareGround_seat, z0_spareGround_strength, .ref a0_spareGround_debts, z0_spareGround_near, .int u.2.2.2.2.2.2.2.1, .int u.2.2.2.2.2.2.2.2.1, .int u.2.2.2.2.2.2.2.2.2.1, .int u.2.2.2.2.2.2.2.2.2.2.2.1])), (a0_spareGround_debts, .inl (cyI, 36, .inl u.2.2.2.2.2.2.2.2.2.2.1)), (a0_rule, .inr (4, [.ref a0_rule_kinds, .ref a0_rule_values, z0_rule_pile, z0_rule_facts, .int u.2.2.2.2.2.2.2.2.2.2.2.2.2.2.1])), (a0_rule_kinds, .inl (cyI, 150, .inl u.2.2.2.2.2.2.2.2.2.2.2.2.2.2.2.1)), (a0_rule_values, .inl (cyI, 150, .inl u.2.2.2.2.2.2.2.2.2.2.2.2.2.2.2.2.1)), (a0_lines, .inr (0, [.ref a0_lines_seen, .int u.2.2.2.2.2.2.2.2.2.2.2.2.2.2.2.2.2.1])), (a0_lines_seen, .inl (cyI, 8, .inl u.2.2.2.2.2.2.2.2.2.2.2.2.2.2.2.2.2.2.1)), (a0_now, .inr (1, [.ref a0_now_row, z0_now_owedEach, u.2.2.2.2.2.2.2.2.2.2.2.2.2.2.2.2.2.2.2.2.1, u.2.2.2.2.2.2.2.2.2.2.2.2.2.2.2.2.2.2.2.2.2.1])), (a0_now_row, .inl (cyI, 64, .inl u.2.2.2.2.2.2.2.2.2.2.2.2.2.2.2.2.2.2.2.1)), (a0_past, .inr (5, [z0_past_rows, .int u.2.2.2.2.2.2.2.2.2.2.2.2.2.2.2.2.2.2.2.2.2.2.1]))] : va_W)) u t) (va_A [(a0, .inr (10, [.ref a0_tape, .ref a0_ground, .ref a0_spareGround, .ref a0_rule, z0_spareRule, .ref a0_lines, z0_spareLines, z0_steps, .ref a0_now, z0_trial, .ref a0_past, z0_images, z0_round, z0_seating, z0_fitting, .int v0_imagesKept, .int v0_refusedSteps, z0_callsNoSuch, .int v0_callsIllegal])), (a0_tape, .inr (8, [z0_tape_bytes, .int v0_tape_length, .int v0_tape_at, .int v0_tape_token, .int v0_tape_filled, .int v0_tape_fault, .int v0_tape_faultPlace])), (a0_spareGround, .inr (2, [z0_spareGround_formX, z0_spareGround_formY, z0_spareGround_foxX, z0_spareGround_foxY, z0_spareGround_seat, z0_spareGround_strength, .ref a0_spareGround_debts, z0_spareGround_near, .int v0_spareGround_forms, .int v0_spareGround_hares, .int v0_spareGround_foxes, .int v0_spareGround_safe])), (a0_spareGround_debts, .inl (cyI, 36, .inl f0_spareGround_debts)), (a0_rule, .inr (4, [.ref a0_rule_kinds, .ref a0_rule_values, z0_rule_pile, z0_rule_facts, .int v0_rule_length])), (a0_rule_kinds, .inl (cyI, 150, .inl f0_rule_kinds)), (a0_rule_values, .inl (cyI, 150, .inl f0_rule_values)), (a0_lines, .inr (0, [.ref a0_lines_seen, .int v0_lines_many])), (a0_lines_seen, .inl (cyI, 8, .inl f0_lines_seen)), (a0_now, .inr (1, [.ref a0_now_row, z0_now_owedEach, r0_now_down, r0_now_law])), (a0_now_row, .inl (cyI, 64, .inl f0_now_row)), (a0_past, .inr (5, [z0_past_rows, .int v0_past_kept]))] sz)) 1 6 (va_A [(a0, .inr (10, [.ref a0_tape, .ref a0_ground, .ref a0_spareGround, .ref a0_rule, z0_spareRule, .ref a0_lines, z0_spareLines, z0_steps, .ref a0_now, z0_trial, .ref a0_past, z0_images, z0_round, z0_seating, z0_fitting, .int v0_imagesKept, .int v0_refusedSteps, z0_callsNoSuch, .int v0_callsIllegal])), (a0_tape, .inr (8, [z0_tape_bytes, .int v0_tape_length, .int v0_tape_at, .int v0_tape_token, .int v0_tape_filled, .int v0_tape_fault, .int v0_tape_faultPlace])), (a0_spareGround, .inr (2, [z0_spareGround_formX, z0_spareGround_formY, z0_spareGround_foxX, z0_spareGround_foxY, z0_spareGround_seat, z0_spareGround_strength, .ref a0_spareGround_debts, z0_spareGround_near, .int v0_spareGround_forms, .int v0_spareGround_hares, .int v0_spareGround_foxes, .int v0_spareGround_safe])), (a0_spareGround_debts, .inl (cyI, 36, .inl f0_spareGround_debts)), (a0_rule, .inr (4, [.ref a0_rule_kinds, .ref a0_rule_values, z0_rule_pile, z0_rule_facts, .int v0_rule_length])), (a0_rule_kinds, .inl (cyI, 150, .inl f0_rule_kinds)), (a0_rule_values, .inl (cyI, 150, .inl f0_rule_values)), (a0_lines, .inr (0, [.ref a0_lines_seen, .int v0_lines_many])), (a0_lines_seen, .inl (cyI, 8, .inl f0_lines_seen)), (a0_now, .inr (1, [.ref a0_now_row, z0_now_owedEach, r0_now_down, r0_now_law])), (a0_now_row, .inl (cyI, 64, .inl f0_now_row)), (a0_past, .inr (5, [z0_past_rows, .int v0_past_kept]))] sz) := by
  refine vx_ofW (cc := cX10_down) (maxL := 3) (ret := (some .int)) (by decide) rfl ?_
  intro p e s m args below meth c s₁ B hml hnt hv
  obtain ⟨rfl, hsz, hP, hK, hD0, hNw, hXl, hXu, hXn, hXt⟩ := hv
  have hx := B.exec
  have hb := B.bytes
  have hr := B.returns
  have hts := atoms_spec (ws := wsX10_down) B.pre
  have hown : s.vm.findClass RX10 = some m.cls := findClass_of_methodNamed B.named
  have hlocks := B.notSynchronized
  subst hsz
  have hD := hD0.self (sz := s.heap.size)
  generalize hAe : va_A [(a0, .inr (10, [.ref a0_tape, .ref a0_ground, .ref a0_spareGround, .ref a0_rule, z0_spareRule, .ref a0_lines, z0_spareLines, z0_steps, .ref a0_now, z0_trial, .ref a0_past, z0_images, z0_round, z0_seating, z0_fitting, .int v0_imagesKept, .int v0_refusedSteps, z0_callsNoSuch, .int v0_callsIllegal])), (a0_tape, .inr (8, [z0_tape_bytes, .int v0_tape_length, .int v0_tape_at, .int v0_tape_token, .int v0_tape_filled, .int v0_tape_fault, .int v0_tape_faultPlace])), (a0_spareGround, .inr (2, [z0_spareGround_formX, z0_spareGround_formY, z0_spareGround_foxX, z0_spareGround_foxY, z0_spareGround_seat, z0_spareGround_strength, .ref a0_spareGround_debts, z0_spareGround_near, .int v0_spareGround_forms, .int v0_spareGround_hares, .int v0_spareGround_foxes, .int v0_spareGround_safe])), (a0_spareGround_debts, .inl (cyI, 36, .inl f0_spareGround_debts)), (a0_rule, .inr (4, [.ref a0_rule_kinds, .ref a0_rule_values, z0_rule_pile, z0_rule_facts, .int v0_rule_length])), (a0_rule_kinds, .inl (cyI, 150, .inl f0_rule_kinds)), (a0_rule_values, .inl (cyI, 150, .inl f0_rule_values)), (a0_lines, .inr (0, [.ref a0_lines_seen, .int v0_lines_many])), (a0_lines_seen, .inl (cyI, 8, .inl f0_lines_seen)), (a0_now, .inr (1, [.ref a0_now_row, z0_now_owedEach, r0_now_down, r0_now_law])), (a0_now_row, .inl (cyI, 64, .inl f0_now_row)), (a0_past, .inr (5, [z0_past_rows, .int v0_past_kept]))] s.heap.size = A at hD hXu hXn ⊢
  have hA : ∀ q : Nat, s.heap.size ≤ q → A q := fun q h => by rw [← hAe]; exact Or.inr h
  have hS : va_S A s.heap s.heap [] := va_S.rf
  have hP : va_P (dC, dI) vwCl [(a0, .inr (10, [.ref a0_tape, .ref a0_ground, .ref a0_spareGround, .ref a0_rule, z0_spareRule, .ref a0_lines, z0_spareLines, z0_steps, .ref a0_now, z0_trial, .ref a0_past, z0_images, z0_round, z0_seating, z0_fitting, .int v0_imagesKept, .int v0_refusedSteps, z0_callsNoSuch, .int v0_callsIllegal])), (a0_tape, .inr (8, [z0_tape_bytes, .int v0_tape_length, .int v0_tape_at, .int v0_tape_token, .int v0_tape_filled, .int v0_tape_fault, .int v0_tape_faultPlace])), (a0_spareGround, .inr (2, [z0_spareGround_formX, z0_spareGround_formY, z0_spareGround_foxX, z0_spareGround_foxY, z0_spareGround_seat, z0_spareGround_strength, .ref a0_spareGround_debts, z0_spareGround_near, .int v0_spareGround_forms, .int v0_spareGround_hares, .int v0_spareGround_foxes, .int v0_spareGround_safe])), (a0_spareGround_debts, .inl (cyI, 36, .inl f0_spareGround_debts)), (a0_rule, .inr (4, [.ref a0_rule_kinds, .ref a0_rule_values, z0_rule_pile, z0_rule_facts, .int v0_rule_length])), (a0_rule_kinds, .inl (cyI, 150, .inl f0_rule_kinds)), (a0_rule_values, .inl (cyI, 150, .inl f0_rule_values)), (a0_lines, .inr (0, [.ref a0_lines_seen, .int v0_lines_many])), (a0_lines_seen, .inl (cyI, 8, .inl f0_lines_seen)), (a0_now, .inr (1, [.ref a0_now_row, z0_now_owedEach, r0_now_down, r0_now_law])), (a0_now_row, .inl (cyI, 64, .inl f0_now_row)), (a0_past, .inr (5, [z0_past_rows, .int v0_past_kept]))] s.heap := hP
  have hl := lv_entry ([.ref a0, .int p1]) (n := 3) (Nat.le_of_ble_eq_true rfl)
  rw [lg_entry_eq]
  generalize (lg_sl ([.ref a0, .int p1]) ++ List.replicate (3 - (lg_sl ([.ref a0, .int p1])).length) Slot.unset).toArray = ls at hl ⊢
  have hl : lv_has ls 3 [(0, .ref a0), (1, .int p1)] := hl
  have hY : cfY l s A := ⟨hXl, hXu, hXn, hXt⟩
  have hXs : cfX l s c A := ⟨hnt, hY⟩
  have C0 : cfx p s m _ meth c cX10_down (some .int) wsX10_down RX10 3 A (dC, dI) (kT cyB cyI cyJ cyP) ∧ cfX l s c A := ⟨⟨hx, hb, hr, hts, hown, hlocks, hml, hA, hK, hNw⟩, hXs⟩
  clear hAe
  obtain ⟨H, hH⟩ : ∃ H, H = s.heap := ⟨_, rfl⟩
  rw [← hH] at hP ⊢
  have hS : va_S A s.heap H [] := by rw [hH]; exact va_S.rf
  have hS := hS
  refine lv_aload_n hx hb dX10_down_0 rfl (lv_at hl 0 rfl) ?_
  refine lv_iload_n hx hb dX10_down_1 rfl (lv_at hl 1 rfl) ?_
  refine lv_sipush (v := 600) hx hb dX10_down_2 (by decide) ?_
  have hPc := hP.sub (ws' := [(a0, .inr (10, [.ref a0_tape, .ref a0_ground, .ref a0_spareGround, .ref a0_rule, z0_spareRule, .ref a0_lines, z0_spareLines, z0_steps, .ref a0_now, z0_trial, .ref a0_past, z0_images, z0_round, z0_seating, z0_fitting, .int v0_imagesKept, .int v0_refusedSteps, z0_callsNoSuch, .int v0_callsIllegal])), (a0_tape, .inr (8, [z0_tape_bytes, .int v0_tape_length, .int v0_tape_at, .int v0_tape_token, .int v0_tape_filled, .int v0_tape_fault, .int v0_tape_faultPlace]))]) [0, 1] rfl
  have hDc := hD.sub (ws' := [(a0, .inr (10, [.ref a0_tape, .ref a0_ground, .ref a0_spareGround, .ref a0_rule, z0_spareRule, .ref a0_lines, z0_spareLines, z0_steps, .ref a0_now, z0_trial, .ref a0_past, z0_images, z0_round, z0_seating, z0_fitting, .int v0_imagesKept, .int v0_refusedSteps, z0_callsNoSuch, .int v0_callsIllegal])), (a0_tape, .inr (8, [z0_tape_bytes, .int v0_tape_length, .int v0_tape_at, .int v0_tape_token, .int v0_tape_filled, .int v0_tape_fault, .int v0_tape_faultPlace]))]) [0, 1] (by decide) rfl
  have hFc := va_free (wc := [(a0, .inr (10, [.ref a0_tape, .ref a0_ground, .ref a0_spareGround, .ref a0_rule, z0_spareRule, .ref a0_lines, z0_spareLines, z0_steps, .ref a0_now, z0_trial, .ref a0_past, z0_images, z0_round, z0_seating, z0_fitting, .int v0_imagesKept, .int v0_refusedSteps, z0_callsNoSuch, .int v0_callsIllegal])), (a0_tape, .inr (8, [z0_tape_bytes, .int v0_tape_length, .int v0_tape_at, .int v0_tape_token, .int v0_tape_filled, .int v0_tape_fault, .int v0_tape_faultPlace]))]) hD hS hA [0, 1] rfl
  refine vx_callv (vx_runV (As := [.int p1, .int 600]) (rest := []) ⟨hx, hb, hml, hown, hts⟩ (ck_X10_openText l dC dI cyB cyI cyJ cyP a0 a0_tape H.size (.ref a0_ground) (.ref a0_spareGround) (.ref a0_rule) (z0_spareRule) (.ref a0_lines) (z0_spareLines) (z0_steps) (.ref a0_now) (z0_trial) (.ref a0_past) (z0_images) (z0_round) (z0_seating) (z0_fitting) (.int v0_imagesKept) (.int v0_refusedSteps) (z0_callsNoSuch) (z0_tape_bytes)  v0_callsIllegal v0_tape_length v0_tape_at v0_tape_token v0_tape_filled v0_tape_fault v0_tape_faultPlace p1 600 hw) (cwV 2 hts gX10_down_X10_openText rfl rfl rfl (by decide +kernel) ⟨Nat.le_of_ble_eq_true rfl, Nat.le_of_ble_eq_true rfl⟩) ⟨cPx_blind, va_recv hK hPc (ci := 10) (q0 := 0) rfl rfl, cPx_pre hPc hK hDc hNw hY hS hFc⟩ rfl rfl hl.1 rfl (lv_room (Nat.le_of_ble_eq_true rfl)) dX10_down_5 ⟨Nat.le_of_ble_eq_true rfl, Nat.le_of_ble_eq_true rfl⟩) hS (fun q _ h => hFc q h) hFc (fun q _ h => hFc q h) (fun en ce q9 u t H1 locs ht hvm hpx hB hz1 hk1 hS hc9 hv9 hcl9 => ?_) (fun u t H1 locs ht hvm hw hB hz1 hk1 hS => ?_)
  · obtain ⟨x1, x2, x3, x4, x5, x6, x7⟩ := u
    obtain ⟨hw, hP1, hK1, hD1⟩ := hB
    rw [ht] at hP1
    obtain ⟨hP, hD⟩ := va_join (wr := [(a0_spareGround, .inr (2, [z0_spareGround_formX, z0_spareGround_formY, z0_spareGround_foxX, z0_spareGround_foxY, z0_spareGround_seat, z0_spareGround_strength, .ref a0_spareGround_debts, z0_spareGround_near, .int v0_spareGround_forms, .int v0_spareGround_hares, .int v0_spareGround_foxes, .int v0_spareGround_safe])), (a0_spareGround_debts, .inl (cyI, 36, .inl f0_spareGround_debts)), (a0_rule, .inr (4, [.ref a0_rule_kinds, .ref a0_rule_values, z0_rule_pile, z0_rule_facts, .int v0_rule_length])), (a0_rule_kinds, .inl (cyI, 150, .inl f0_rule_kinds)), (a0_rule_values, .inl (cyI, 150, .inl f0_rule_values)), (a0_lines, .inr (0, [.ref a0_lines_seen, .int v0_lines_many])), (a0_lines_seen, .inl (cyI, 8, .inl f0_lines_seen)), (a0_now, .inr (1, [.ref a0_now_row, z0_now_owedEach, r0_now_down, r0_now_law])), (a0_now_row, .inl (cyI, 64, .inl f0_now_row)), (a0_past, .inr (5, [z0_past_rows, .int v0_past_kept]))]) (w1 := [(a0, .inr (10, [.ref a0_tape, .ref a0_ground, .ref a0_spareGround, .ref a0_rule, z0_spareRule, .ref a0_lines, z0_spareLines, z0_steps, .ref a0_now, z0_trial, .ref a0_past, z0_images, z0_round, z0_seating, z0_fitting, .int v0_imagesKept, .int v0_refusedSteps, z0_callsNoSuch, .int x1])), (a0_tape, .inr (8, [z0_tape_bytes, .int x2, .int x3, .int x4, .int x5, .int x6, .int x7]))]) hP hD [0, 1] [2, 3, 4, 5, 6, 7, 8, 9, 10, 11] rfl rfl (by decide) (by decide) hk1 hFc hP1 hD1
    have hP : va_P (dC, dI) vwCl [(a0, .inr (10, [.ref a0_tape, .ref a0_ground, .ref a0_spareGround, .ref a0_rule, z0_spareRule, .ref a0_lines, z0_spareLines, z0_steps, .ref a0_now, z0_trial, .ref a0_past, z0_images, z0_round, z0_seating, z0_fitting, .int v0_imagesKept, .int v0_refusedSteps, z0_callsNoSuch, .int x1])), (a0_tape, .inr (8, [z0_tape_bytes, .int x2, .int x3, .int x4, .int x5, .int x6, .int x7])), (a0_spareGround, .inr (2, [z0_spareGround_formX, z0_spareGround_formY, z0_spareGround_foxX, z0_spareGround_foxY, z0_spareGround_seat, z0_spareGround_strength, .ref a0_spareGround_debts, z0_spareGround_near, .int v0_spareGround_forms, .int v0_spareGround_hares, .int v0_spareGround_foxes, .int v0_spareGround_safe])), (a0_spareGround_debts, .inl (cyI, 36, .inl f0_spareGround_debts)), (a0_rule, .inr (4, [.ref a0_rule_kinds, .ref a0_rule_values, z0_rule_pile, z0_rule_facts, .int v0_rule_length])), (a0_rule_kinds, .inl (cyI, 150, .inl f0_rule_kinds)), (a0_rule_values, .inl (cyI, 150, .inl f0_rule_values)), (a0_lines, .inr (0, [.ref a0_lines_seen, .int v0_lines_many])), (a0_lines_seen, .inl (cyI, 8, .inl f0_lines_seen)), (a0_now, .inr (1, [.ref a0_now_row, z0_now_owedEach, r0_now_down, r0_now_law])), (a0_now_row, .inl (cyI, 64, .inl f0_now_row)), (a0_past, .inr (5, [z0_past_rows, .int v0_past_kept]))] H1 := hP.sub [10, 11, 0, 1, 2, 3, 4, 5, 6, 7, 8, 9] rfl
    have hD : va_D A [(a0, .inr (10, [.ref a0_tape, .ref a0_ground, .ref a0_spareGround, .ref a0_rule, z0_spareRule, .ref a0_lines, z0_spareLines, z0_steps, .ref a0_now, z0_trial, .ref a0_past, z0_images, z0_round, z0_seating, z0_fitting, .int v0_imagesKept, .int v0_refusedSteps, z0_callsNoSuch, .int x1])), (a0_tape, .inr (8, [z0_tape_bytes, .int x2, .int x3, .int x4, .int x5, .int x6, .int x7])), (a0_spareGround, .inr (2, [z0_spareGround_formX, z0_spareGround_formY, z0_spareGround_foxX, z0_spareGround_foxY, z0_spareGround_seat, z0_spareGround_strength, .ref a0_spareGround_debts, z0_spareGround_near, .int v0_spareGround_forms, .int v0_spareGround_hares, .int v0_spareGround_foxes, .int v0_spareGround_safe])), (a0_spareGround_debts, .inl (cyI, 36, .inl f0_spareGround_debts)), (a0_rule, .inr (4, [.ref a0_rule_kinds, .ref a0_rule_values, z0_rule_pile, z0_rule_facts, .int v0_rule_length])), (a0_rule_kinds, .inl (cyI, 150, .inl f0_rule_kinds)), (a0_rule_values, .inl (cyI, 150, .inl f0_rule_values)), (a0_lines, .inr (0, [.ref a0_lines_seen, .int v0_lines_many])), (a0_lines_seen, .inl (cyI, 8, .inl f0_lines_seen)), (a0_now, .inr (1, [.ref a0_now_row, z0_now_owedEach, r0_now_down, r0_now_law])), (a0_now_row, .inl (cyI, 64, .inl f0_now_row)), (a0_past, .inr (5, [z0_past_rows, .int v0_past_kept]))] := hD.sub [10, 11, 0, 1, 2, 3, 4, 5, 6, 7, 8, 9] (by decide) rfl
    generalize H1 = H at hP hS hc9 ⊢
    exact vx_out (fun x hx9 => (hXs.1 x hx9).elim) hlocks hc9 hv9 hcl9 (fun t2 ht2 hal2 => ⟨(x1, x2, x3, x4, x5, x6, x7, v0_spareGround_forms, v0_spareGround_hares, v0_spareGround_foxes, f0_spareGround_debts, v0_spareGround_safe, (.ref a0_ground), (.ref a0_spareGround), v0_rule_length, f0_rule_kinds, f0_rule_values, v0_lines_many, f0_lines_seen, f0_now_row, r0_now_down, r0_now_law, v0_past_kept, v0_imagesKept, v0_refusedSteps), trivial, ⟨hw, by rw [ht2]; exact hP, va_K.moved hal2 hK, hD⟩, hS.F ht2⟩) hS.2.2 (Nat.le_of_ble_eq_true rfl) (Nat.le_of_ble_eq_true rfl)
  obtain ⟨x1, x2, x3, x4, x5, x6, x7⟩ := u
  obtain ⟨hP1, hK1, hD1⟩ := hB
  rw [ht] at hP1
  obtain ⟨hP, hD⟩ := va_join (wr := [(a0_spareGround, .inr (2, [z0_spareGround_formX, z0_spareGround_formY, z0_spareGround_foxX, z0_spareGround_foxY, z0_spareGround_seat, z0_spareGround_strength, .ref a0_spareGround_debts, z0_spareGround_near, .int v0_spareGround_forms, .int v0_spareGround_hares, .int v0_spareGround_foxes, .int v0_spareGround_safe])), (a0_spareGround_debts, .inl (cyI, 36, .inl f0_spareGround_debts)), (a0_rule, .inr (4, [.ref a0_rule_kinds, .ref a0_rule_values, z0_rule_pile, z0_rule_facts, .int v0_rule_length])), (a0_rule_kinds, .inl (cyI, 150, .inl f0_rule_kinds)), (a0_rule_values, .inl (cyI, 150, .inl f0_rule_values)), (a0_lines, .inr (0, [.ref a0_lines_seen, .int v0_lines_many])), (a0_lines_seen, .inl (cyI, 8, .inl f0_lines_seen)), (a0_now, .inr (1, [.ref a0_now_row, z0_now_owedEach, r0_now_down, r0_now_law])), (a0_now_row, .inl (cyI, 64, .inl f0_now_row)), (a0_past, .inr (5, [z0_past_rows, .int v0_past_kept]))]) (w1 := [(a0, .inr (10, [.ref a0_tape, .ref a0_ground, .ref a0_spareGround, .ref a0_rule, z0_spareRule, .ref a0_lines, z0_spareLines, z0_steps, .ref a0_now, z0_trial, .ref a0_past, z0_images, z0_round, z0_seating, z0_fitting, .int v0_imagesKept, .int v0_refusedSteps, z0_callsNoSuch, .int x1])), (a0_tape, .inr (8, [z0_tape_bytes, .int x2, .int x3, .int x4, .int x5, .int x6, .int x7]))]) hP hD [0, 1] [2, 3, 4, 5, 6, 7, 8, 9, 10, 11] rfl rfl (by decide) (by decide) hk1 hFc hP1 hD1
  have hP : va_P (dC, dI) vwCl [(a0, .inr (10, [.ref a0_tape, .ref a0_ground, .ref a0_spareGround, .ref a0_rule, z0_spareRule, .ref a0_lines, z0_spareLines, z0_steps, .ref a0_now, z0_trial, .ref a0_past, z0_images, z0_round, z0_seating, z0_fitting, .int v0_imagesKept, .int v0_refusedSteps, z0_callsNoSuch, .int x1])), (a0_tape, .inr (8, [z0_tape_bytes, .int x2, .int x3, .int x4, .int x5, .int x6, .int x7])), (a0_spareGround, .inr (2, [z0_spareGround_formX, z0_spareGround_formY, z0_spareGround_foxX, z0_spareGround_foxY, z0_spareGround_seat, z0_spareGround_strength, .ref a0_spareGround_debts, z0_spareGround_near, .int v0_spareGround_forms, .int v0_spareGround_hares, .int v0_spareGround_foxes, .int v0_spareGround_safe])), (a0_spareGround_debts, .inl (cyI, 36, .inl f0_spareGround_debts)), (a0_rule, .inr (4, [.ref a0_rule_kinds, .ref a0_rule_values, z0_rule_pile, z0_rule_facts, .int v0_rule_length])), (a0_rule_kinds, .inl (cyI, 150, .inl f0_rule_kinds)), (a0_rule_values, .inl (cyI, 150, .inl f0_rule_values)), (a0_lines, .inr (0, [.ref a0_lines_seen, .int v0_lines_many])), (a0_lines_seen, .inl (cyI, 8, .inl f0_lines_seen)), (a0_now, .inr (1, [.ref a0_now_row, z0_now_owedEach, r0_now_down, r0_now_law])), (a0_now_row, .inl (cyI, 64, .inl f0_now_row)), (a0_past, .inr (5, [z0_past_rows, .int v0_past_kept]))] H1 := hP.sub [10, 11, 0, 1, 2, 3, 4, 5, 6, 7, 8, 9] rfl
  have hD : va_D A [(a0, .inr (10, [.ref a0_tape, .ref a0_ground, .ref a0_spareGround, .ref a0_rule, z0_spareRule, .ref a0_lines, z0_spareLines, z0_steps, .ref a0_now, z0_trial, .ref a0_past, z0_images, z0_round, z0_seating, z0_fitting, .int v0_imagesKept, .int v0_refusedSteps, z0_callsNoSuch, .int x1])), (a0_tape, .inr (8, [z0_tape_bytes, .int x2, .int x3, .int x4, .int x5, .int x6, .int x7])), (a0_spareGround, .inr (2, [z0_spareGround_formX, z0_spareGround_formY, z0_spareGround_foxX, z0_spareGround_foxY, z0_spareGround_seat, z0_spareGround_strength, .ref a0_spareGround_debts, z0_spareGround_near, .int v0_spareGround_forms, .int v0_spareGround_hares, .int v0_spareGround_foxes, .int v0_spareGround_safe])), (a0_spareGround_debts, .inl (cyI, 36, .inl f0_spareGround_debts)), (a0_rule, .inr (4, [.ref a0_rule_kinds, .ref a0_rule_values, z0_rule_pile, z0_rule_facts, .int v0_rule_length])), (a0_rule_kinds, .inl (cyI, 150, .inl f0_rule_kinds)), (a0_rule_values, .inl (cyI, 150, .inl f0_rule_values)), (a0_lines, .inr (0, [.ref a0_lines_seen, .int v0_lines_many])), (a0_lines_seen, .inl (cyI, 8, .inl f0_lines_seen)), (a0_now, .inr (1, [.ref a0_now_row, z0_now_owedEach, r0_now_down, r0_now_law])), (a0_now_row, .inl (cyI, 64, .inl f0_now_row)), (a0_past, .inr (5, [z0_past_rows, .int v0_past_kept]))] := hD.sub [10, 11, 0, 1, 2, 3, 4, 5, 6, 7, 8, 9] (by decide) rfl
  generalize H1 = H at hP hS ⊢
  refine lv_aload_n hx hb dX10_down_8 rfl (lv_at hl 0 rfl) ?_
  refine va_get (D := (dC, dI)) (ci := 10) (v := .ref a0_spareGround) (C := RX10) (T := TX10) (N := 19) hx hb hts ui_X10_down_X10 hown hK hP 0 rfl rfl 2 (by decide) (hts _ uw_X10_down_f23) (fun _ h9 => h9) rfl dX10_down_9 ?_
  refine lv_aload_n hx hb dX10_down_12 rfl (lv_at hl 0 rfl) ?_
  refine va_get (D := (dC, dI)) (ci := 10) (v := .ref a0_tape) (C := RX10) (T := TX10) (N := 19) hx hb hts ui_X10_down_X10 hown hK hP 0 rfl rfl 0 (by decide) (hts _ uw_X10_down_f10) (fun _ h9 => h9) rfl dX10_down_13 ?_
  have hPc := hP.sub (ws' := [(a0_spareGround, .inr (2, [z0_spareGround_formX, z0_spareGround_formY, z0_spareGround_foxX, z0_spareGround_foxY, z0_spareGround_seat, z0_spareGround_strength, .ref a0_spareGround_debts, z0_spareGround_near, .int v0_spareGround_forms, .int v0_spareGround_hares, .int v0_spareGround_foxes, .int v0_spareGround_safe])), (a0_spareGround_debts, .inl (cyI, 36, .inl f0_spareGround_debts)), (a0_tape, .inr (8, [z0_tape_bytes, .int x2, .int x3, .int x4, .int x5, .int x6, .int x7]))]) [2, 3, 1] rfl
  have hDc := hD.sub (ws' := [(a0_spareGround, .inr (2, [z0_spareGround_formX, z0_spareGround_formY, z0_spareGround_foxX, z0_spareGround_foxY, z0_spareGround_seat, z0_spareGround_strength, .ref a0_spareGround_debts, z0_spareGround_near, .int v0_spareGround_forms, .int v0_spareGround_hares, .int v0_spareGround_foxes, .int v0_spareGround_safe])), (a0_spareGround_debts, .inl (cyI, 36, .inl f0_spareGround_debts)), (a0_tape, .inr (8, [z0_tape_bytes, .int x2, .int x3, .int x4, .int x5, .int x6, .int x7]))]) [2, 3, 1] (by decide) rfl
  have hFc := va_free (wc := [(a0_spareGround, .inr (2, [z0_spareGround_formX, z0_spareGround_formY, z0_spareGround_foxX, z0_spareGround_foxY, z0_spareGround_seat, z0_spareGround_strength, .ref a0_spareGround_debts, z0_spareGround_near, .int v0_spareGround_forms, .int v0_spareGround_hares, .int v0_spareGround_foxes, .int v0_spareGround_safe])), (a0_spareGround_debts, .inl (cyI, 36, .inl f0_spareGround_debts)), (a0_tape, .inr (8, [z0_tape_bytes, .int x2, .int x3, .int x4, .int x5, .int x6, .int x7]))]) hD hS hA [2, 3, 1] rfl
  refine va_callv (va_runV (As := [.ref a0_tape]) (rest := []) ⟨hx, hb, hml, hown, hts⟩ (ck_X2_readFrom l dC dI cyB cyI cyJ cyP a0_spareGround a0_tape a0_spareGround_debts H.size (z0_spareGround_formX) (z0_spareGround_formY) (z0_spareGround_foxX) (z0_spareGround_foxY) (z0_spareGround_seat) (z0_spareGround_strength) (z0_spareGround_near) (z0_tape_bytes) (.int x4) (.int x5) (.int x7) x2 x3 x6 v0_spareGround_forms v0_spareGround_hares v0_spareGround_foxes f0_spareGround_debts v0_spareGround_safe  hw) (cwV 1 hts gX10_down_X2_readFrom rfl rfl rfl (by decide +kernel) ⟨Nat.le_of_ble_eq_true rfl, Nat.le_of_ble_eq_true rfl⟩) ⟨cPc_blind, va_recv hK hPc (ci := 2) (q0 := 0) rfl rfl, cPc_pre hPc hK hDc hNw⟩ rfl rfl hl.1 rfl (lv_room (Nat.le_of_ble_eq_true rfl)) dX10_down_16 ⟨Nat.le_of_ble_eq_true rfl, Nat.le_of_ble_eq_true rfl⟩) hS (fun q _ h => hFc q h) hFc (fun u t H1 locs ht hvm hw hB hz1 hk1 hS => ?_)
  obtain ⟨x8, x9, x10, f11, x12⟩ := u
  obtain ⟨hP1, hK1, hD1⟩ := hB
  rw [ht] at hP1
  obtain ⟨hP, hD⟩ := va_join (wr := [(a0, .inr (10, [.ref a0_tape, .ref a0_ground, .ref a0_spareGround, .ref a0_rule, z0_spareRule, .ref a0_lines, z0_spareLines, z0_steps, .ref a0_now, z0_trial, .ref a0_past, z0_images, z0_round, z0_seating, z0_fitting, .int v0_imagesKept, .int v0_refusedSteps, z0_callsNoSuch, .int x1])), (a0_rule, .inr (4, [.ref a0_rule_kinds, .ref a0_rule_values, z0_rule_pile, z0_rule_facts, .int v0_rule_length])), (a0_rule_kinds, .inl (cyI, 150, .inl f0_rule_kinds)), (a0_rule_values, .inl (cyI, 150, .inl f0_rule_values)), (a0_lines, .inr (0, [.ref a0_lines_seen, .int v0_lines_many])), (a0_lines_seen, .inl (cyI, 8, .inl f0_lines_seen)), (a0_now, .inr (1, [.ref a0_now_row, z0_now_owedEach, r0_now_down, r0_now_law])), (a0_now_row, .inl (cyI, 64, .inl f0_now_row)), (a0_past, .inr (5, [z0_past_rows, .int v0_past_kept]))]) (w1 := [(a0_spareGround, .inr (2, [z0_spareGround_formX, z0_spareGround_formY, z0_spareGround_foxX, z0_spareGround_foxY, z0_spareGround_seat, z0_spareGround_strength, .ref a0_spareGround_debts, z0_spareGround_near, .int x8, .int x9, .int x10, .int x12])), (a0_spareGround_debts, .inl (cyI, 36, .inl f11)), (a0_tape, .inr (8, [z0_tape_bytes, .int x2, .int x3, .int x4, .int x5, .int x6, .int x7]))]) hP hD [2, 3, 1] [0, 4, 5, 6, 7, 8, 9, 10, 11] rfl rfl (by decide) (by decide) hk1 hFc hP1 hD1
  have hP : va_P (dC, dI) vwCl [(a0, .inr (10, [.ref a0_tape, .ref a0_ground, .ref a0_spareGround, .ref a0_rule, z0_spareRule, .ref a0_lines, z0_spareLines, z0_steps, .ref a0_now, z0_trial, .ref a0_past, z0_images, z0_round, z0_seating, z0_fitting, .int v0_imagesKept, .int v0_refusedSteps, z0_callsNoSuch, .int x1])), (a0_tape, .inr (8, [z0_tape_bytes, .int x2, .int x3, .int x4, .int x5, .int x6, .int x7])), (a0_spareGround, .inr (2, [z0_spareGround_formX, z0_spareGround_formY, z0_spareGround_foxX, z0_spareGround_foxY, z0_spareGround_seat, z0_spareGround_strength, .ref a0_spareGround_debts, z0_spareGround_near, .int x8, .int x9, .int x10, .int x12])), (a0_spareGround_debts, .inl (cyI, 36, .inl f11)), (a0_rule, .inr (4, [.ref a0_rule_kinds, .ref a0_rule_values, z0_rule_pile, z0_rule_facts, .int v0_rule_length])), (a0_rule_kinds, .inl (cyI, 150, .inl f0_rule_kinds)), (a0_rule_values, .inl (cyI, 150, .inl f0_rule_values)), (a0_lines, .inr (0, [.ref a0_lines_seen, .int v0_lines_many])), (a0_lines_seen, .inl (cyI, 8, .inl f0_lines_seen)), (a0_now, .inr (1, [.ref a0_now_row, z0_now_owedEach, r0_now_down, r0_now_law])), (a0_now_row, .inl (cyI, 64, .inl f0_now_row)), (a0_past, .inr (5, [z0_past_rows, .int v0_past_kept]))] H1 := hP.sub [0, 11, 9, 10, 1, 2, 3, 4, 5, 6, 7, 8] rfl
  have hD : va_D A [(a0, .inr (10, [.ref a0_tape, .ref a0_ground, .ref a0_spareGround, .ref a0_rule, z0_spareRule, .ref a0_lines, z0_spareLines, z0_steps, .ref a0_now, z0_trial, .ref a0_past, z0_images, z0_round, z0_seating, z0_fitting, .int v0_imagesKept, .int v0_refusedSteps, z0_callsNoSuch, .int x1])), (a0_tape, .inr (8, [z0_tape_bytes, .int x2, .int x3, .int x4, .int x5, .int x6, .int x7])), (a0_spareGround, .inr (2, [z0_spareGround_formX, z0_spareGround_formY, z0_spareGround_foxX, z0_spareGround_foxY, z0_spareGround_seat, z0_spareGround_strength, .ref a0_spareGround_debts, z0_spareGround_near, .int x8, .int x9, .int x10, .int x12])), (a0_spareGround_debts, .inl (cyI, 36, .inl f11)), (a0_rule, .inr (4, [.ref a0_rule_kinds, .ref a0_rule_values, z0_rule_pile, z0_rule_facts, .int v0_rule_length])), (a0_rule_kinds, .inl (cyI, 150, .inl f0_rule_kinds)), (a0_rule_values, .inl (cyI, 150, .inl f0_rule_values)), (a0_lines, .inr (0, [.ref a0_lines_seen, .int v0_lines_many])), (a0_lines_seen, .inl (cyI, 8, .inl f0_lines_seen)), (a0_now, .inr (1, [.ref a0_now_row, z0_now_owedEach, r0_now_down, r0_now_law])), (a0_now_row, .inl (cyI, 64, .inl f0_now_row)), (a0_past, .inr (5, [z0_past_rows, .int v0_past_kept]))] := hD.sub [0, 11, 9, 10, 1, 2, 3, 4, 5, 6, 7, 8] (by decide) rfl
  generalize H1 = H at hP hS ⊢
  refine lv_aload_n hx hb dX10_down_19 rfl (lv_at hl 0 rfl) ?_
  refine va_get (D := (dC, dI)) (ci := 10) (v := .ref a0_tape) (C := RX10) (T := TX10) (N := 19) hx hb hts ui_X10_down_X10 hown hK hP 0 rfl rfl 0 (by decide) (hts _ uw_X10_down_f10) (fun _ h9 => h9) rfl dX10_down_20 ?_
  have hPc := hP.sub (ws' := [(a0_tape, .inr (8, [z0_tape_bytes, .int x2, .int x3, .int x4, .int x5, .int x6, .int x7]))]) [1] rfl
  have hDc := hD.sub (ws' := [(a0_tape, .inr (8, [z0_tape_bytes, .int x2, .int x3, .int x4, .int x5, .int x6, .int x7]))]) [1] (by decide) rfl
  have hFc := va_free (wc := [(a0_tape, .inr (8, [z0_tape_bytes, .int x2, .int x3, .int x4, .int x5, .int x6, .int x7]))]) hD hS hA [1] rfl
  refine va_calli (va_runV (As := []) (rest := []) ⟨hx, hb, hml, hown, hts⟩ (ck_X8_isFaulty l dC dI cyB cyI cyJ cyP a0_tape H.size (z0_tape_bytes) (.int x2) (.int x3) (.int x4) (.int x5) (.int x7) x6   hw) (cwV 0 hts gX10_down_X8_isFaulty rfl rfl rfl (by decide +kernel) ⟨Nat.le_of_ble_eq_true rfl, Nat.le_of_ble_eq_true rfl⟩) ⟨cPc_blind, va_recv hK hPc (ci := 8) (q0 := 0) rfl rfl, cPc_pre hPc hK hDc hNw⟩ rfl rfl hl.1 rfl (lv_room (Nat.le_of_ble_eq_true rfl)) dX10_down_23 ⟨Nat.le_of_ble_eq_true rfl, Nat.le_of_ble_eq_true rfl⟩) hS (fun q _ h => hFc q h) hFc (fun r13 u t H1 locs ht hvm hw hB hz1 hk1 hS => ?_)
  obtain ⟨hP1, hK1, hD1⟩ := hB
  rw [ht] at hP1
  obtain ⟨hP, hD⟩ := va_join (wr := [(a0, .inr (10, [.ref a0_tape, .ref a0_ground, .ref a0_spareGround, .ref a0_rule, z0_spareRule, .ref a0_lines, z0_spareLines, z0_steps, .ref a0_now, z0_trial, .ref a0_past, z0_images, z0_round, z0_seating, z0_fitting, .int v0_imagesKept, .int v0_refusedSteps, z0_callsNoSuch, .int x1])), (a0_spareGround, .inr (2, [z0_spareGround_formX, z0_spareGround_formY, z0_spareGround_foxX, z0_spareGround_foxY, z0_spareGround_seat, z0_spareGround_strength, .ref a0_spareGround_debts, z0_spareGround_near, .int x8, .int x9, .int x10, .int x12])), (a0_spareGround_debts, .inl (cyI, 36, .inl f11)), (a0_rule, .inr (4, [.ref a0_rule_kinds, .ref a0_rule_values, z0_rule_pile, z0_rule_facts, .int v0_rule_length])), (a0_rule_kinds, .inl (cyI, 150, .inl f0_rule_kinds)), (a0_rule_values, .inl (cyI, 150, .inl f0_rule_values)), (a0_lines, .inr (0, [.ref a0_lines_seen, .int v0_lines_many])), (a0_lines_seen, .inl (cyI, 8, .inl f0_lines_seen)), (a0_now, .inr (1, [.ref a0_now_row, z0_now_owedEach, r0_now_down, r0_now_law])), (a0_now_row, .inl (cyI, 64, .inl f0_now_row)), (a0_past, .inr (5, [z0_past_rows, .int v0_past_kept]))]) (w1 := [(a0_tape, .inr (8, [z0_tape_bytes, .int x2, .int x3, .int x4, .int x5, .int x6, .int x7]))]) hP hD [1] [0, 2, 3, 4, 5, 6, 7, 8, 9, 10, 11] rfl rfl (by decide) (by decide) hk1 hFc hP1 hD1
  have hP : va_P (dC, dI) vwCl [(a0, .inr (10, [.ref a0_tape, .ref a0_ground, .ref a0_spareGround, .ref a0_rule, z0_spareRule, .ref a0_lines, z0_spareLines, z0_steps, .ref a0_now, z0_trial, .ref a0_past, z0_images, z0_round, z0_seating, z0_fitting, .int v0_imagesKept, .int v0_refusedSteps, z0_callsNoSuch, .int x1])), (a0_tape, .inr (8, [z0_tape_bytes, .int x2, .int x3, .int x4, .int x5, .int x6, .int x7])), (a0_spareGround, .inr (2, [z0_spareGround_formX, z0_spareGround_formY, z0_spareGround_foxX, z0_spareGround_foxY, z0_spareGround_seat, z0_spareGround_strength, .ref a0_spareGround_debts, z0_spareGround_near, .int x8, .int x9, .int x10, .int x12])), (a0_spareGround_debts, .inl (cyI, 36, .inl f11)), (a0_rule, .inr (4, [.ref a0_rule_kinds, .ref a0_rule_values, z0_rule_pile, z0_rule_facts, .int v0_rule_length])), (a0_rule_kinds, .inl (cyI, 150, .inl f0_rule_kinds)), (a0_rule_values, .inl (cyI, 150, .inl f0_rule_values)), (a0_lines, .inr (0, [.ref a0_lines_seen, .int v0_lines_many])), (a0_lines_seen, .inl (cyI, 8, .inl f0_lines_seen)), (a0_now, .inr (1, [.ref a0_now_row, z0_now_owedEach, r0_now_down, r0_now_law])), (a0_now_row, .inl (cyI, 64, .inl f0_now_row)), (a0_past, .inr (5, [z0_past_rows, .int v0_past_kept]))] H1 := hP.sub [0, 11, 1, 2, 3, 4, 5, 6, 7, 8, 9, 10] rfl
  have hD : va_D A [(a0, .inr (10, [.ref a0_tape, .ref a0_ground, .ref a0_spareGround, .ref a0_rule, z0_spareRule, .ref a0_lines, z0_spareLines, z0_steps, .ref a0_now, z0_trial, .ref a0_past, z0_images, z0_round, z0_seating, z0_fitting, .int v0_imagesKept, .int v0_refusedSteps, z0_callsNoSuch, .int x1])), (a0_tape, .inr (8, [z0_tape_bytes, .int x2, .int x3, .int x4, .int x5, .int x6, .int x7])), (a0_spareGround, .inr (2, [z0_spareGround_formX, z0_spareGround_formY, z0_spareGround_foxX, z0_spareGround_foxY, z0_spareGround_seat, z0_spareGround_strength, .ref a0_spareGround_debts, z0_spareGround_near, .int x8, .int x9, .int x10, .int x12])), (a0_spareGround_debts, .inl (cyI, 36, .inl f11)), (a0_rule, .inr (4, [.ref a0_rule_kinds, .ref a0_rule_values, z0_rule_pile, z0_rule_facts, .int v0_rule_length])), (a0_rule_kinds, .inl (cyI, 150, .inl f0_rule_kinds)), (a0_rule_values, .inl (cyI, 150, .inl f0_rule_values)), (a0_lines, .inr (0, [.ref a0_lines_seen, .int v0_lines_many])), (a0_lines_seen, .inl (cyI, 8, .inl f0_lines_seen)), (a0_now, .inr (1, [.ref a0_now_row, z0_now_owedEach, r0_now_down, r0_now_law])), (a0_now_row, .inl (cyI, 64, .inl f0_now_row)), (a0_past, .inr (5, [z0_past_rows, .int v0_past_kept]))] := hD.sub [0, 11, 1, 2, 3, 4, 5, 6, 7, 8, 9, 10] (by decide) rfl
  generalize H1 = H at hP hS ⊢
  refine lv_if_eq (tgt := 40) hx hb dX10_down_26 (by decide) (fun c14 => ?_) (fun c14 => ?_)
  · have hw := hw.1 c14
    refine lv_aload_n hx hb dX10_down_40 rfl (lv_at hl 0 rfl) ?_
    refine va_get (D := (dC, dI)) (ci := 10) (v := .ref a0_ground) (C := RX10) (T := TX10) (N := 19) hx hb hts ui_X10_down_X10 hown hK hP 0 rfl rfl 1 (by decide) (hts _ uw_X10_down_f19) (fun _ h9 => h9) rfl dX10_down_41 ?_
    refine lv_astore_n (lv' := [(2, .ref a0_ground), (0, .ref a0), (1, .int p1)]) hx hb dX10_down_44 rfl hl (by decide) rfl (fun ls hl => ?_)
    refine lv_aload_n hx hb dX10_down_45 rfl (lv_at hl 1 rfl) ?_
    refine lv_aload_n hx hb dX10_down_46 rfl (lv_at hl 1 rfl) ?_
    refine va_get (D := (dC, dI)) (ci := 10) (v := .ref a0_spareGround) (C := RX10) (T := TX10) (N := 19) hx hb hts ui_X10_down_X10 hown hK hP 0 rfl rfl 2 (by decide) (hts _ uw_X10_down_f23) (fun _ h9 => h9) rfl dX10_down_47 ?_
    refine va_put (D := (dC, dI)) (ci := 10) (v := .ref a0_spareGround) (ty := .object "MarchHares$Down") (C := RX10) (T := TX10) (N := 19) hx hb hts ui_X10_down_X10 tyX10 tyX10_ok nmX10 hown hK hP hD hS 0 rfl rfl 1 (by decide) (hts _ uw_X10_down_f19) (fun _ h9 => h9) rfl (by decide +kernel) rfl rfl (Nat.le_of_ble_eq_true rfl) dX10_down_50 (fun H locs hP hD hS => ?_)
    have hP : va_P (dC, dI) vwCl [(a0, .inr (10, [.ref a0_tape, .ref a0_spareGround, .ref a0_spareGround, .ref a0_rule, z0_spareRule, .ref a0_lines, z0_spareLines, z0_steps, .ref a0_now, z0_trial, .ref a0_past, z0_images, z0_round, z0_seating, z0_fitting, .int v0_imagesKept, .int v0_refusedSteps, z0_callsNoSuch, .int x1])), (a0_tape, .inr (8, [z0_tape_bytes, .int x2, .int x3, .int x4, .int x5, .int x6, .int x7])), (a0_spareGround, .inr (2, [z0_spareGround_formX, z0_spareGround_formY, z0_spareGround_foxX, z0_spareGround_foxY, z0_spareGround_seat, z0_spareGround_strength, .ref a0_spareGround_debts, z0_spareGround_near, .int x8, .int x9, .int x10, .int x12])), (a0_spareGround_debts, .inl (cyI, 36, .inl f11)), (a0_rule, .inr (4, [.ref a0_rule_kinds, .ref a0_rule_values, z0_rule_pile, z0_rule_facts, .int v0_rule_length])), (a0_rule_kinds, .inl (cyI, 150, .inl f0_rule_kinds)), (a0_rule_values, .inl (cyI, 150, .inl f0_rule_values)), (a0_lines, .inr (0, [.ref a0_lines_seen, .int v0_lines_many])), (a0_lines_seen, .inl (cyI, 8, .inl f0_lines_seen)), (a0_now, .inr (1, [.ref a0_now_row, z0_now_owedEach, r0_now_down, r0_now_law])), (a0_now_row, .inl (cyI, 64, .inl f0_now_row)), (a0_past, .inr (5, [z0_past_rows, .int v0_past_kept]))] H := hP
    have hD : va_D A [(a0, .inr (10, [.ref a0_tape, .ref a0_spareGround, .ref a0_spareGround, .ref a0_rule, z0_spareRule, .ref a0_lines, z0_spareLines, z0_steps, .ref a0_now, z0_trial, .ref a0_past, z0_images, z0_round, z0_seating, z0_fitting, .int v0_imagesKept, .int v0_refusedSteps, z0_callsNoSuch, .int x1])), (a0_tape, .inr (8, [z0_tape_bytes, .int x2, .int x3, .int x4, .int x5, .int x6, .int x7])), (a0_spareGround, .inr (2, [z0_spareGround_formX, z0_spareGround_formY, z0_spareGround_foxX, z0_spareGround_foxY, z0_spareGround_seat, z0_spareGround_strength, .ref a0_spareGround_debts, z0_spareGround_near, .int x8, .int x9, .int x10, .int x12])), (a0_spareGround_debts, .inl (cyI, 36, .inl f11)), (a0_rule, .inr (4, [.ref a0_rule_kinds, .ref a0_rule_values, z0_rule_pile, z0_rule_facts, .int v0_rule_length])), (a0_rule_kinds, .inl (cyI, 150, .inl f0_rule_kinds)), (a0_rule_values, .inl (cyI, 150, .inl f0_rule_values)), (a0_lines, .inr (0, [.ref a0_lines_seen, .int v0_lines_many])), (a0_lines_seen, .inl (cyI, 8, .inl f0_lines_seen)), (a0_now, .inr (1, [.ref a0_now_row, z0_now_owedEach, r0_now_down, r0_now_law])), (a0_now_row, .inl (cyI, 64, .inl f0_now_row)), (a0_past, .inr (5, [z0_past_rows, .int v0_past_kept]))] := hD
    refine lv_aload_n hx hb dX10_down_53 rfl (lv_at hl 1 rfl) ?_
    refine lv_aload_n hx hb dX10_down_54 rfl (lv_at hl 0 rfl) ?_
    refine va_put (D := (dC, dI)) (ci := 10) (v := .ref a0_ground) (ty := .object "MarchHares$Down") (C := RX10) (T := TX10) (N := 19) hx hb hts ui_X10_down_X10 tyX10 tyX10_ok nmX10 hown hK hP hD hS 0 rfl rfl 2 (by decide) (hts _ uw_X10_down_f23) (fun _ h9 => h9) rfl (by decide +kernel) rfl rfl (Nat.le_of_ble_eq_true rfl) dX10_down_55 (fun H locs hP hD hS => ?_)
    have hP : va_P (dC, dI) vwCl [(a0, .inr (10, [.ref a0_tape, .ref a0_spareGround, .ref a0_ground, .ref a0_rule, z0_spareRule, .ref a0_lines, z0_spareLines, z0_steps, .ref a0_now, z0_trial, .ref a0_past, z0_images, z0_round, z0_seating, z0_fitting, .int v0_imagesKept, .int v0_refusedSteps, z0_callsNoSuch, .int x1])), (a0_tape, .inr (8, [z0_tape_bytes, .int x2, .int x3, .int x4, .int x5, .int x6, .int x7])), (a0_spareGround, .inr (2, [z0_spareGround_formX, z0_spareGround_formY, z0_spareGround_foxX, z0_spareGround_foxY, z0_spareGround_seat, z0_spareGround_strength, .ref a0_spareGround_debts, z0_spareGround_near, .int x8, .int x9, .int x10, .int x12])), (a0_spareGround_debts, .inl (cyI, 36, .inl f11)), (a0_rule, .inr (4, [.ref a0_rule_kinds, .ref a0_rule_values, z0_rule_pile, z0_rule_facts, .int v0_rule_length])), (a0_rule_kinds, .inl (cyI, 150, .inl f0_rule_kinds)), (a0_rule_values, .inl (cyI, 150, .inl f0_rule_values)), (a0_lines, .inr (0, [.ref a0_lines_seen, .int v0_lines_many])), (a0_lines_seen, .inl (cyI, 8, .inl f0_lines_seen)), (a0_now, .inr (1, [.ref a0_now_row, z0_now_owedEach, r0_now_down, r0_now_law])), (a0_now_row, .inl (cyI, 64, .inl f0_now_row)), (a0_past, .inr (5, [z0_past_rows, .int v0_past_kept]))] H := hP
    have hD : va_D A [(a0, .inr (10, [.ref a0_tape, .ref a0_spareGround, .ref a0_ground, .ref a0_rule, z0_spareRule, .ref a0_lines, z0_spareLines, z0_steps, .ref a0_now, z0_trial, .ref a0_past, z0_images, z0_round, z0_seating, z0_fitting, .int v0_imagesKept, .int v0_refusedSteps, z0_callsNoSuch, .int x1])), (a0_tape, .inr (8, [z0_tape_bytes, .int x2, .int x3, .int x4, .int x5, .int x6, .int x7])), (a0_spareGround, .inr (2, [z0_spareGround_formX, z0_spareGround_formY, z0_spareGround_foxX, z0_spareGround_foxY, z0_spareGround_seat, z0_spareGround_strength, .ref a0_spareGround_debts, z0_spareGround_near, .int x8, .int x9, .int x10, .int x12])), (a0_spareGround_debts, .inl (cyI, 36, .inl f11)), (a0_rule, .inr (4, [.ref a0_rule_kinds, .ref a0_rule_values, z0_rule_pile, z0_rule_facts, .int v0_rule_length])), (a0_rule_kinds, .inl (cyI, 150, .inl f0_rule_kinds)), (a0_rule_values, .inl (cyI, 150, .inl f0_rule_values)), (a0_lines, .inr (0, [.ref a0_lines_seen, .int v0_lines_many])), (a0_lines_seen, .inl (cyI, 8, .inl f0_lines_seen)), (a0_now, .inr (1, [.ref a0_now_row, z0_now_owedEach, r0_now_down, r0_now_law])), (a0_now_row, .inl (cyI, 64, .inl f0_now_row)), (a0_past, .inr (5, [z0_past_rows, .int v0_past_kept]))] := hD
    refine lv_aload_n hx hb dX10_down_58 rfl (lv_at hl 1 rfl) ?_
    refine va_get (D := (dC, dI)) (ci := 10) (v := .ref a0_rule) (C := RX10) (T := TX10) (N := 19) hx hb hts ui_X10_down_X10 hown hK hP 0 rfl rfl 3 (by decide) (hts _ uw_X10_down_f29) (fun _ h9 => h9) rfl dX10_down_59 ?_
    have hPc := hP.sub (ws' := [(a0_rule, .inr (4, [.ref a0_rule_kinds, .ref a0_rule_values, z0_rule_pile, z0_rule_facts, .int v0_rule_length])), (a0_rule_kinds, .inl (cyI, 150, .inl f0_rule_kinds)), (a0_rule_values, .inl (cyI, 150, .inl f0_rule_values))]) [4, 5, 6] rfl
    have hDc := hD.sub (ws' := [(a0_rule, .inr (4, [.ref a0_rule_kinds, .ref a0_rule_values, z0_rule_pile, z0_rule_facts, .int v0_rule_length])), (a0_rule_kinds, .inl (cyI, 150, .inl f0_rule_kinds)), (a0_rule_values, .inl (cyI, 150, .inl f0_rule_values))]) [4, 5, 6] (by decide) rfl
    have hFc := va_free (wc := [(a0_rule, .inr (4, [.ref a0_rule_kinds, .ref a0_rule_values, z0_rule_pile, z0_rule_facts, .int v0_rule_length])), (a0_rule_kinds, .inl (cyI, 150, .inl f0_rule_kinds)), (a0_rule_values, .inl (cyI, 150, .inl f0_rule_values))]) hD hS hA [4, 5, 6] rfl
    refine va_callv (va_runV (As := []) (rest := []) ⟨hx, hb, hml, hown, hts⟩ (ck_X4_setPlain l dC dI cyB cyI cyJ cyP a0_rule a0_rule_kinds a0_rule_values H.size (z0_rule_pile) (z0_rule_facts)  v0_rule_length f0_rule_kinds f0_rule_values  hw) (cwV 0 hts gX10_down_X4_setPlain rfl rfl rfl (by decide +kernel) ⟨Nat.le_of_ble_eq_true rfl, Nat.le_of_ble_eq_true rfl⟩) ⟨cPc_blind, va_recv hK hPc (ci := 4) (q0 := 0) rfl rfl, cPc_pre hPc hK hDc hNw⟩ rfl rfl hl.1 rfl (lv_room (Nat.le_of_ble_eq_true rfl)) dX10_down_62 ⟨Nat.le_of_ble_eq_true rfl, Nat.le_of_ble_eq_true rfl⟩) hS (fun q _ h => hFc q h) hFc (fun u t H1 locs ht hvm hw hB hz1 hk1 hS => ?_)
    obtain ⟨x15, f16, f17⟩ := u
    obtain ⟨hP1, hK1, hD1⟩ := hB
    rw [ht] at hP1
    obtain ⟨hP, hD⟩ := va_join (wr := [(a0, .inr (10, [.ref a0_tape, .ref a0_spareGround, .ref a0_ground, .ref a0_rule, z0_spareRule, .ref a0_lines, z0_spareLines, z0_steps, .ref a0_now, z0_trial, .ref a0_past, z0_images, z0_round, z0_seating, z0_fitting, .int v0_imagesKept, .int v0_refusedSteps, z0_callsNoSuch, .int x1])), (a0_tape, .inr (8, [z0_tape_bytes, .int x2, .int x3, .int x4, .int x5, .int x6, .int x7])), (a0_spareGround, .inr (2, [z0_spareGround_formX, z0_spareGround_formY, z0_spareGround_foxX, z0_spareGround_foxY, z0_spareGround_seat, z0_spareGround_strength, .ref a0_spareGround_debts, z0_spareGround_near, .int x8, .int x9, .int x10, .int x12])), (a0_spareGround_debts, .inl (cyI, 36, .inl f11)), (a0_lines, .inr (0, [.ref a0_lines_seen, .int v0_lines_many])), (a0_lines_seen, .inl (cyI, 8, .inl f0_lines_seen)), (a0_now, .inr (1, [.ref a0_now_row, z0_now_owedEach, r0_now_down, r0_now_law])), (a0_now_row, .inl (cyI, 64, .inl f0_now_row)), (a0_past, .inr (5, [z0_past_rows, .int v0_past_kept]))]) (w1 := [(a0_rule, .inr (4, [.ref a0_rule_kinds, .ref a0_rule_values, z0_rule_pile, z0_rule_facts, .int x15])), (a0_rule_kinds, .inl (cyI, 150, .inl f16)), (a0_rule_values, .inl (cyI, 150, .inl f17))]) hP hD [4, 5, 6] [0, 1, 2, 3, 7, 8, 9, 10, 11] rfl rfl (by decide) (by decide) hk1 hFc hP1 hD1
    have hP : va_P (dC, dI) vwCl [(a0, .inr (10, [.ref a0_tape, .ref a0_spareGround, .ref a0_ground, .ref a0_rule, z0_spareRule, .ref a0_lines, z0_spareLines, z0_steps, .ref a0_now, z0_trial, .ref a0_past, z0_images, z0_round, z0_seating, z0_fitting, .int v0_imagesKept, .int v0_refusedSteps, z0_callsNoSuch, .int x1])), (a0_tape, .inr (8, [z0_tape_bytes, .int x2, .int x3, .int x4, .int x5, .int x6, .int x7])), (a0_spareGround, .inr (2, [z0_spareGround_formX, z0_spareGround_formY, z0_spareGround_foxX, z0_spareGround_foxY, z0_spareGround_seat, z0_spareGround_strength, .ref a0_spareGround_debts, z0_spareGround_near, .int x8, .int x9, .int x10, .int x12])), (a0_spareGround_debts, .inl (cyI, 36, .inl f11)), (a0_rule, .inr (4, [.ref a0_rule_kinds, .ref a0_rule_values, z0_rule_pile, z0_rule_facts, .int x15])), (a0_rule_kinds, .inl (cyI, 150, .inl f16)), (a0_rule_values, .inl (cyI, 150, .inl f17)), (a0_lines, .inr (0, [.ref a0_lines_seen, .int v0_lines_many])), (a0_lines_seen, .inl (cyI, 8, .inl f0_lines_seen)), (a0_now, .inr (1, [.ref a0_now_row, z0_now_owedEach, r0_now_down, r0_now_law])), (a0_now_row, .inl (cyI, 64, .inl f0_now_row)), (a0_past, .inr (5, [z0_past_rows, .int v0_past_kept]))] H1 := hP.sub [0, 1, 2, 3, 9, 10, 11, 4, 5, 6, 7, 8] rfl
    have hD : va_D A [(a0, .inr (10, [.ref a0_tape, .ref a0_spareGround, .ref a0_ground, .ref a0_rule, z0_spareRule, .ref a0_lines, z0_spareLines, z0_steps, .ref a0_now, z0_trial, .ref a0_past, z0_images, z0_round, z0_seating, z0_fitting, .int v0_imagesKept, .int v0_refusedSteps, z0_callsNoSuch, .int x1])), (a0_tape, .inr (8, [z0_tape_bytes, .int x2, .int x3, .int x4, .int x5, .int x6, .int x7])), (a0_spareGround, .inr (2, [z0_spareGround_formX, z0_spareGround_formY, z0_spareGround_foxX, z0_spareGround_foxY, z0_spareGround_seat, z0_spareGround_strength, .ref a0_spareGround_debts, z0_spareGround_near, .int x8, .int x9, .int x10, .int x12])), (a0_spareGround_debts, .inl (cyI, 36, .inl f11)), (a0_rule, .inr (4, [.ref a0_rule_kinds, .ref a0_rule_values, z0_rule_pile, z0_rule_facts, .int x15])), (a0_rule_kinds, .inl (cyI, 150, .inl f16)), (a0_rule_values, .inl (cyI, 150, .inl f17)), (a0_lines, .inr (0, [.ref a0_lines_seen, .int v0_lines_many])), (a0_lines_seen, .inl (cyI, 8, .inl f0_lines_seen)), (a0_now, .inr (1, [.ref a0_now_row, z0_now_owedEach, r0_now_down, r0_now_law])), (a0_now_row, .inl (cyI, 64, .inl f0_now_row)), (a0_past, .inr (5, [z0_past_rows, .int v0_past_kept]))] := hD.sub [0, 1, 2, 3, 9, 10, 11, 4, 5, 6, 7, 8] (by decide) rfl
    generalize H1 = H at hP hS ⊢
    refine lv_aload_n hx hb dX10_down_65 rfl (lv_at hl 1 rfl) ?_
    refine va_get (D := (dC, dI)) (ci := 10) (v := .ref a0_lines) (C := RX10) (T := TX10) (N := 19) hx hb hts ui_X10_down_X10 hown hK hP 0 rfl rfl 5 (by decide) (hts _ uw_X10_down_f39) (fun _ h9 => h9) rfl dX10_down_66 ?_
    have hPc := hP.sub (ws' := [(a0_lines, .inr (0, [.ref a0_lines_seen, .int v0_lines_many])), (a0_lines_seen, .inl (cyI, 8, .inl f0_lines_seen))]) [7, 8] rfl
    have hDc := hD.sub (ws' := [(a0_lines, .inr (0, [.ref a0_lines_seen, .int v0_lines_many])), (a0_lines_seen, .inl (cyI, 8, .inl f0_lines_seen))]) [7, 8] (by decide) rfl
    have hFc := va_free (wc := [(a0_lines, .inr (0, [.ref a0_lines_seen, .int v0_lines_many])), (a0_lines_seen, .inl (cyI, 8, .inl f0_lines_seen))]) hD hS hA [7, 8] rfl
    refine va_callv (va_runV (As := []) (rest := []) ⟨hx, hb, hml, hown, hts⟩ (ck_X0_clear l dC dI cyB cyI cyJ cyP a0_lines a0_lines_seen H.size   v0_lines_many f0_lines_seen  hw) (cwV 0 hts gX10_down_X0_clear rfl rfl rfl (by decide +kernel) ⟨Nat.le_of_ble_eq_true rfl, Nat.le_of_ble_eq_true rfl⟩) ⟨cPc_blind, va_recv hK hPc (ci := 0) (q0 := 0) rfl rfl, cPc_pre hPc hK hDc hNw⟩ rfl rfl hl.1 rfl (lv_room (Nat.le_of_ble_eq_true rfl)) dX10_down_69 ⟨Nat.le_of_ble_eq_true rfl, Nat.le_of_ble_eq_true rfl⟩) hS (fun q _ h => hFc q h) hFc (fun u t H1 locs ht hvm hw hB hz1 hk1 hS => ?_)
    obtain ⟨x18, f19⟩ := u
    obtain ⟨hP1, hK1, hD1⟩ := hB
    rw [ht] at hP1
    obtain ⟨hP, hD⟩ := va_join (wr := [(a0, .inr (10, [.ref a0_tape, .ref a0_spareGround, .ref a0_ground, .ref a0_rule, z0_spareRule, .ref a0_lines, z0_spareLines, z0_steps, .ref a0_now, z0_trial, .ref a0_past, z0_images, z0_round, z0_seating, z0_fitting, .int v0_imagesKept, .int v0_refusedSteps, z0_callsNoSuch, .int x1])), (a0_tape, .inr (8, [z0_tape_bytes, .int x2, .int x3, .int x4, .int x5, .int x6, .int x7])), (a0_spareGround, .inr (2, [z0_spareGround_formX, z0_spareGround_formY, z0_spareGround_foxX, z0_spareGround_foxY, z0_spareGround_seat, z0_spareGround_strength, .ref a0_spareGround_debts, z0_spareGround_near, .int x8, .int x9, .int x10, .int x12])), (a0_spareGround_debts, .inl (cyI, 36, .inl f11)), (a0_rule, .inr (4, [.ref a0_rule_kinds, .ref a0_rule_values, z0_rule_pile, z0_rule_facts, .int x15])), (a0_rule_kinds, .inl (cyI, 150, .inl f16)), (a0_rule_values, .inl (cyI, 150, .inl f17)), (a0_now, .inr (1, [.ref a0_now_row, z0_now_owedEach, r0_now_down, r0_now_law])), (a0_now_row, .inl (cyI, 64, .inl f0_now_row)), (a0_past, .inr (5, [z0_past_rows, .int v0_past_kept]))]) (w1 := [(a0_lines, .inr (0, [.ref a0_lines_seen, .int x18])), (a0_lines_seen, .inl (cyI, 8, .inl f19))]) hP hD [7, 8] [0, 1, 2, 3, 4, 5, 6, 9, 10, 11] rfl rfl (by decide) (by decide) hk1 hFc hP1 hD1
    have hP : va_P (dC, dI) vwCl [(a0, .inr (10, [.ref a0_tape, .ref a0_spareGround, .ref a0_ground, .ref a0_rule, z0_spareRule, .ref a0_lines, z0_spareLines, z0_steps, .ref a0_now, z0_trial, .ref a0_past, z0_images, z0_round, z0_seating, z0_fitting, .int v0_imagesKept, .int v0_refusedSteps, z0_callsNoSuch, .int x1])), (a0_tape, .inr (8, [z0_tape_bytes, .int x2, .int x3, .int x4, .int x5, .int x6, .int x7])), (a0_spareGround, .inr (2, [z0_spareGround_formX, z0_spareGround_formY, z0_spareGround_foxX, z0_spareGround_foxY, z0_spareGround_seat, z0_spareGround_strength, .ref a0_spareGround_debts, z0_spareGround_near, .int x8, .int x9, .int x10, .int x12])), (a0_spareGround_debts, .inl (cyI, 36, .inl f11)), (a0_rule, .inr (4, [.ref a0_rule_kinds, .ref a0_rule_values, z0_rule_pile, z0_rule_facts, .int x15])), (a0_rule_kinds, .inl (cyI, 150, .inl f16)), (a0_rule_values, .inl (cyI, 150, .inl f17)), (a0_lines, .inr (0, [.ref a0_lines_seen, .int x18])), (a0_lines_seen, .inl (cyI, 8, .inl f19)), (a0_now, .inr (1, [.ref a0_now_row, z0_now_owedEach, r0_now_down, r0_now_law])), (a0_now_row, .inl (cyI, 64, .inl f0_now_row)), (a0_past, .inr (5, [z0_past_rows, .int v0_past_kept]))] H1 := hP.sub [0, 1, 2, 3, 4, 5, 6, 10, 11, 7, 8, 9] rfl
    have hD : va_D A [(a0, .inr (10, [.ref a0_tape, .ref a0_spareGround, .ref a0_ground, .ref a0_rule, z0_spareRule, .ref a0_lines, z0_spareLines, z0_steps, .ref a0_now, z0_trial, .ref a0_past, z0_images, z0_round, z0_seating, z0_fitting, .int v0_imagesKept, .int v0_refusedSteps, z0_callsNoSuch, .int x1])), (a0_tape, .inr (8, [z0_tape_bytes, .int x2, .int x3, .int x4, .int x5, .int x6, .int x7])), (a0_spareGround, .inr (2, [z0_spareGround_formX, z0_spareGround_formY, z0_spareGround_foxX, z0_spareGround_foxY, z0_spareGround_seat, z0_spareGround_strength, .ref a0_spareGround_debts, z0_spareGround_near, .int x8, .int x9, .int x10, .int x12])), (a0_spareGround_debts, .inl (cyI, 36, .inl f11)), (a0_rule, .inr (4, [.ref a0_rule_kinds, .ref a0_rule_values, z0_rule_pile, z0_rule_facts, .int x15])), (a0_rule_kinds, .inl (cyI, 150, .inl f16)), (a0_rule_values, .inl (cyI, 150, .inl f17)), (a0_lines, .inr (0, [.ref a0_lines_seen, .int x18])), (a0_lines_seen, .inl (cyI, 8, .inl f19)), (a0_now, .inr (1, [.ref a0_now_row, z0_now_owedEach, r0_now_down, r0_now_law])), (a0_now_row, .inl (cyI, 64, .inl f0_now_row)), (a0_past, .inr (5, [z0_past_rows, .int v0_past_kept]))] := hD.sub [0, 1, 2, 3, 4, 5, 6, 10, 11, 7, 8, 9] (by decide) rfl
    generalize H1 = H at hP hS ⊢
    refine lv_aload_n hx hb dX10_down_72 rfl (lv_at hl 1 rfl) ?_
    refine va_get (D := (dC, dI)) (ci := 10) (v := .ref a0_now) (C := RX10) (T := TX10) (N := 19) hx hb hts ui_X10_down_X10 hown hK hP 0 rfl rfl 8 (by decide) (hts _ uw_X10_down_f58) (fun _ h9 => h9) rfl dX10_down_73 ?_
    refine lv_aload_n hx hb dX10_down_76 rfl (lv_at hl 1 rfl) ?_
    refine va_get (D := (dC, dI)) (ci := 10) (v := .ref a0_spareGround) (C := RX10) (T := TX10) (N := 19) hx hb hts ui_X10_down_X10 hown hK hP 0 rfl rfl 1 (by decide) (hts _ uw_X10_down_f19) (fun _ h9 => h9) rfl dX10_down_77 ?_
    refine lv_aload_n hx hb dX10_down_80 rfl (lv_at hl 1 rfl) ?_
    refine va_get (D := (dC, dI)) (ci := 10) (v := .ref a0_rule) (C := RX10) (T := TX10) (N := 19) hx hb hts ui_X10_down_X10 hown hK hP 0 rfl rfl 3 (by decide) (hts _ uw_X10_down_f29) (fun _ h9 => h9) rfl dX10_down_81 ?_
    have hPc := hP.sub (ws' := [(a0_now, .inr (1, [.ref a0_now_row, z0_now_owedEach, r0_now_down, r0_now_law])), (a0_now_row, .inl (cyI, 64, .inl f0_now_row)), (a0_spareGround, .inr (2, [z0_spareGround_formX, z0_spareGround_formY, z0_spareGround_foxX, z0_spareGround_foxY, z0_spareGround_seat, z0_spareGround_strength, .ref a0_spareGround_debts, z0_spareGround_near, .int x8, .int x9, .int x10, .int x12])), (a0_spareGround_debts, .inl (cyI, 36, .inl f11))]) [9, 10, 2, 3] rfl
    have hDc := hD.sub (ws' := [(a0_now, .inr (1, [.ref a0_now_row, z0_now_owedEach, r0_now_down, r0_now_law])), (a0_now_row, .inl (cyI, 64, .inl f0_now_row)), (a0_spareGround, .inr (2, [z0_spareGround_formX, z0_spareGround_formY, z0_spareGround_foxX, z0_spareGround_foxY, z0_spareGround_seat, z0_spareGround_strength, .ref a0_spareGround_debts, z0_spareGround_near, .int x8, .int x9, .int x10, .int x12])), (a0_spareGround_debts, .inl (cyI, 36, .inl f11))]) [9, 10, 2, 3] (by decide) rfl
    have hFc := va_free (wc := [(a0_now, .inr (1, [.ref a0_now_row, z0_now_owedEach, r0_now_down, r0_now_law])), (a0_now_row, .inl (cyI, 64, .inl f0_now_row)), (a0_spareGround, .inr (2, [z0_spareGround_formX, z0_spareGround_formY, z0_spareGround_foxX, z0_spareGround_foxY, z0_spareGround_seat, z0_spareGround_strength, .ref a0_spareGround_debts, z0_spareGround_near, .int x8, .int x9, .int x10, .int x12])), (a0_spareGround_debts, .inl (cyI, 36, .inl f11))]) hD hS hA [9, 10, 2, 3] rfl
    refine va_callv (va_runV (As := [.ref a0_spareGround, .ref a0_rule]) (rest := []) ⟨hx, hb, hml, hown, hts⟩ (ck_X1_begin l dC dI cyB cyI cyJ cyP a0_now a0_spareGround a0_rule a0_now_row a0_spareGround_debts H.size (z0_now_owedEach) (r0_now_down) (r0_now_law) (z0_spareGround_formX) (z0_spareGround_formY) (z0_spareGround_foxX) (z0_spareGround_foxY) (z0_spareGround_seat) (z0_spareGround_strength) (z0_spareGround_near) (.int x8) (.int x10) (.int x12) x9 f11 f0_now_row  hw) (cwV 2 hts gX10_down_X1_begin rfl rfl rfl (by decide +kernel) ⟨Nat.le_of_ble_eq_true rfl, Nat.le_of_ble_eq_true rfl⟩) ⟨cPc_blind, va_recv hK hPc (ci := 1) (q0 := 0) rfl rfl, cPc_pre hPc hK hDc hNw⟩ rfl rfl hl.1 rfl (lv_room (Nat.le_of_ble_eq_true rfl)) dX10_down_84 ⟨Nat.le_of_ble_eq_true rfl, Nat.le_of_ble_eq_true rfl⟩) hS (fun q _ h => hFc q h) hFc (fun u t H1 locs ht hvm hw hB hz1 hk1 hS => ?_)
    obtain ⟨f20, rfl⟩ : ∃ z, z = u := ⟨_, rfl⟩
    obtain ⟨hP1, hK1, hD1⟩ := hB
    rw [ht] at hP1
    obtain ⟨hP, hD⟩ := va_join (wr := [(a0, .inr (10, [.ref a0_tape, .ref a0_spareGround, .ref a0_ground, .ref a0_rule, z0_spareRule, .ref a0_lines, z0_spareLines, z0_steps, .ref a0_now, z0_trial, .ref a0_past, z0_images, z0_round, z0_seating, z0_fitting, .int v0_imagesKept, .int v0_refusedSteps, z0_callsNoSuch, .int x1])), (a0_tape, .inr (8, [z0_tape_bytes, .int x2, .int x3, .int x4, .int x5, .int x6, .int x7])), (a0_rule, .inr (4, [.ref a0_rule_kinds, .ref a0_rule_values, z0_rule_pile, z0_rule_facts, .int x15])), (a0_rule_kinds, .inl (cyI, 150, .inl f16)), (a0_rule_values, .inl (cyI, 150, .inl f17)), (a0_lines, .inr (0, [.ref a0_lines_seen, .int x18])), (a0_lines_seen, .inl (cyI, 8, .inl f19)), (a0_past, .inr (5, [z0_past_rows, .int v0_past_kept]))]) (w1 := [(a0_now, .inr (1, [.ref a0_now_row, z0_now_owedEach, .ref a0_spareGround, .ref a0_rule])), (a0_now_row, .inl (cyI, 64, .inl f20)), (a0_spareGround, .inr (2, [z0_spareGround_formX, z0_spareGround_formY, z0_spareGround_foxX, z0_spareGround_foxY, z0_spareGround_seat, z0_spareGround_strength, .ref a0_spareGround_debts, z0_spareGround_near, .int x8, .int x9, .int x10, .int x12])), (a0_spareGround_debts, .inl (cyI, 36, .inl f11))]) hP hD [9, 10, 2, 3] [0, 1, 4, 5, 6, 7, 8, 11] rfl rfl (by decide) (by decide) hk1 hFc hP1 hD1
    have hP : va_P (dC, dI) vwCl [(a0, .inr (10, [.ref a0_tape, .ref a0_spareGround, .ref a0_ground, .ref a0_rule, z0_spareRule, .ref a0_lines, z0_spareLines, z0_steps, .ref a0_now, z0_trial, .ref a0_past, z0_images, z0_round, z0_seating, z0_fitting, .int v0_imagesKept, .int v0_refusedSteps, z0_callsNoSuch, .int x1])), (a0_tape, .inr (8, [z0_tape_bytes, .int x2, .int x3, .int x4, .int x5, .int x6, .int x7])), (a0_spareGround, .inr (2, [z0_spareGround_formX, z0_spareGround_formY, z0_spareGround_foxX, z0_spareGround_foxY, z0_spareGround_seat, z0_spareGround_strength, .ref a0_spareGround_debts, z0_spareGround_near, .int x8, .int x9, .int x10, .int x12])), (a0_spareGround_debts, .inl (cyI, 36, .inl f11)), (a0_rule, .inr (4, [.ref a0_rule_kinds, .ref a0_rule_values, z0_rule_pile, z0_rule_facts, .int x15])), (a0_rule_kinds, .inl (cyI, 150, .inl f16)), (a0_rule_values, .inl (cyI, 150, .inl f17)), (a0_lines, .inr (0, [.ref a0_lines_seen, .int x18])), (a0_lines_seen, .inl (cyI, 8, .inl f19)), (a0_now, .inr (1, [.ref a0_now_row, z0_now_owedEach, .ref a0_spareGround, .ref a0_rule])), (a0_now_row, .inl (cyI, 64, .inl f20)), (a0_past, .inr (5, [z0_past_rows, .int v0_past_kept]))] H1 := hP.sub [0, 1, 10, 11, 2, 3, 4, 5, 6, 8, 9, 7] rfl
    have hD : va_D A [(a0, .inr (10, [.ref a0_tape, .ref a0_spareGround, .ref a0_ground, .ref a0_rule, z0_spareRule, .ref a0_lines, z0_spareLines, z0_steps, .ref a0_now, z0_trial, .ref a0_past, z0_images, z0_round, z0_seating, z0_fitting, .int v0_imagesKept, .int v0_refusedSteps, z0_callsNoSuch, .int x1])), (a0_tape, .inr (8, [z0_tape_bytes, .int x2, .int x3, .int x4, .int x5, .int x6, .int x7])), (a0_spareGround, .inr (2, [z0_spareGround_formX, z0_spareGround_formY, z0_spareGround_foxX, z0_spareGround_foxY, z0_spareGround_seat, z0_spareGround_strength, .ref a0_spareGround_debts, z0_spareGround_near, .int x8, .int x9, .int x10, .int x12])), (a0_spareGround_debts, .inl (cyI, 36, .inl f11)), (a0_rule, .inr (4, [.ref a0_rule_kinds, .ref a0_rule_values, z0_rule_pile, z0_rule_facts, .int x15])), (a0_rule_kinds, .inl (cyI, 150, .inl f16)), (a0_rule_values, .inl (cyI, 150, .inl f17)), (a0_lines, .inr (0, [.ref a0_lines_seen, .int x18])), (a0_lines_seen, .inl (cyI, 8, .inl f19)), (a0_now, .inr (1, [.ref a0_now_row, z0_now_owedEach, .ref a0_spareGround, .ref a0_rule])), (a0_now_row, .inl (cyI, 64, .inl f20)), (a0_past, .inr (5, [z0_past_rows, .int v0_past_kept]))] := hD.sub [0, 1, 10, 11, 2, 3, 4, 5, 6, 8, 9, 7] (by decide) rfl
    generalize H1 = H at hP hS ⊢
    refine lv_aload_n hx hb dX10_down_87 rfl (lv_at hl 1 rfl) ?_
    refine va_get (D := (dC, dI)) (ci := 10) (v := .ref a0_past) (C := RX10) (T := TX10) (N := 19) hx hb hts ui_X10_down_X10 hown hK hP 0 rfl rfl 10 (by decide) (hts _ uw_X10_down_f68) (fun _ h9 => h9) rfl dX10_down_88 ?_
    refine lv_iconst (v := 0) hx hb dX10_down_91 (by decide) ?_
    refine va_put (D := (dC, dI)) (ci := 5) (v := .int 0) (ty := .int) (C := RX5) (T := TX5) (N := 2) hx hb hts ui_X10_down_X5 tyX5 tyX5_ok nmX5 hown hK hP hD hS 11 rfl rfl 1 (by decide) (hts _ uw_X10_down_f132) (fun _ h9 => h9) rfl (by decide +kernel) rfl rfl (Nat.le_of_ble_eq_true rfl) dX10_down_92 (fun H locs hP hD hS => ?_)
    have hP : va_P (dC, dI) vwCl [(a0, .inr (10, [.ref a0_tape, .ref a0_spareGround, .ref a0_ground, .ref a0_rule, z0_spareRule, .ref a0_lines, z0_spareLines, z0_steps, .ref a0_now, z0_trial, .ref a0_past, z0_images, z0_round, z0_seating, z0_fitting, .int v0_imagesKept, .int v0_refusedSteps, z0_callsNoSuch, .int x1])), (a0_tape, .inr (8, [z0_tape_bytes, .int x2, .int x3, .int x4, .int x5, .int x6, .int x7])), (a0_spareGround, .inr (2, [z0_spareGround_formX, z0_spareGround_formY, z0_spareGround_foxX, z0_spareGround_foxY, z0_spareGround_seat, z0_spareGround_strength, .ref a0_spareGround_debts, z0_spareGround_near, .int x8, .int x9, .int x10, .int x12])), (a0_spareGround_debts, .inl (cyI, 36, .inl f11)), (a0_rule, .inr (4, [.ref a0_rule_kinds, .ref a0_rule_values, z0_rule_pile, z0_rule_facts, .int x15])), (a0_rule_kinds, .inl (cyI, 150, .inl f16)), (a0_rule_values, .inl (cyI, 150, .inl f17)), (a0_lines, .inr (0, [.ref a0_lines_seen, .int x18])), (a0_lines_seen, .inl (cyI, 8, .inl f19)), (a0_now, .inr (1, [.ref a0_now_row, z0_now_owedEach, .ref a0_spareGround, .ref a0_rule])), (a0_now_row, .inl (cyI, 64, .inl f20)), (a0_past, .inr (5, [z0_past_rows, .int 0]))] H := hP
    have hD : va_D A [(a0, .inr (10, [.ref a0_tape, .ref a0_spareGround, .ref a0_ground, .ref a0_rule, z0_spareRule, .ref a0_lines, z0_spareLines, z0_steps, .ref a0_now, z0_trial, .ref a0_past, z0_images, z0_round, z0_seating, z0_fitting, .int v0_imagesKept, .int v0_refusedSteps, z0_callsNoSuch, .int x1])), (a0_tape, .inr (8, [z0_tape_bytes, .int x2, .int x3, .int x4, .int x5, .int x6, .int x7])), (a0_spareGround, .inr (2, [z0_spareGround_formX, z0_spareGround_formY, z0_spareGround_foxX, z0_spareGround_foxY, z0_spareGround_seat, z0_spareGround_strength, .ref a0_spareGround_debts, z0_spareGround_near, .int x8, .int x9, .int x10, .int x12])), (a0_spareGround_debts, .inl (cyI, 36, .inl f11)), (a0_rule, .inr (4, [.ref a0_rule_kinds, .ref a0_rule_values, z0_rule_pile, z0_rule_facts, .int x15])), (a0_rule_kinds, .inl (cyI, 150, .inl f16)), (a0_rule_values, .inl (cyI, 150, .inl f17)), (a0_lines, .inr (0, [.ref a0_lines_seen, .int x18])), (a0_lines_seen, .inl (cyI, 8, .inl f19)), (a0_now, .inr (1, [.ref a0_now_row, z0_now_owedEach, .ref a0_spareGround, .ref a0_rule])), (a0_now_row, .inl (cyI, 64, .inl f20)), (a0_past, .inr (5, [z0_past_rows, .int 0]))] := hD
    refine lv_aload_n hx hb dX10_down_95 rfl (lv_at hl 1 rfl) ?_
    refine lv_iconst (v := 0) hx hb dX10_down_96 (by decide) ?_
    refine va_put (D := (dC, dI)) (ci := 10) (v := .int 0) (ty := .int) (C := RX10) (T := TX10) (N := 19) hx hb hts ui_X10_down_X10 tyX10 tyX10_ok nmX10 hown hK hP hD hS 0 rfl rfl 15 (by decide) (hts _ uw_X10_down_f135) (fun _ h9 => h9) rfl (by decide +kernel) rfl rfl (Nat.le_of_ble_eq_true rfl) dX10_down_97 (fun H locs hP hD hS => ?_)
    have hP : va_P (dC, dI) vwCl [(a0, .inr (10, [.ref a0_tape, .ref a0_spareGround, .ref a0_ground, .ref a0_rule, z0_spareRule, .ref a0_lines, z0_spareLines, z0_steps, .ref a0_now, z0_trial, .ref a0_past, z0_images, z0_round, z0_seating, z0_fitting, .int 0, .int v0_refusedSteps, z0_callsNoSuch, .int x1])), (a0_tape, .inr (8, [z0_tape_bytes, .int x2, .int x3, .int x4, .int x5, .int x6, .int x7])), (a0_spareGround, .inr (2, [z0_spareGround_formX, z0_spareGround_formY, z0_spareGround_foxX, z0_spareGround_foxY, z0_spareGround_seat, z0_spareGround_strength, .ref a0_spareGround_debts, z0_spareGround_near, .int x8, .int x9, .int x10, .int x12])), (a0_spareGround_debts, .inl (cyI, 36, .inl f11)), (a0_rule, .inr (4, [.ref a0_rule_kinds, .ref a0_rule_values, z0_rule_pile, z0_rule_facts, .int x15])), (a0_rule_kinds, .inl (cyI, 150, .inl f16)), (a0_rule_values, .inl (cyI, 150, .inl f17)), (a0_lines, .inr (0, [.ref a0_lines_seen, .int x18])), (a0_lines_seen, .inl (cyI, 8, .inl f19)), (a0_now, .inr (1, [.ref a0_now_row, z0_now_owedEach, .ref a0_spareGround, .ref a0_rule])), (a0_now_row, .inl (cyI, 64, .inl f20)), (a0_past, .inr (5, [z0_past_rows, .int 0]))] H := hP
    have hD : va_D A [(a0, .inr (10, [.ref a0_tape, .ref a0_spareGround, .ref a0_ground, .ref a0_rule, z0_spareRule, .ref a0_lines, z0_spareLines, z0_steps, .ref a0_now, z0_trial, .ref a0_past, z0_images, z0_round, z0_seating, z0_fitting, .int 0, .int v0_refusedSteps, z0_callsNoSuch, .int x1])), (a0_tape, .inr (8, [z0_tape_bytes, .int x2, .int x3, .int x4, .int x5, .int x6, .int x7])), (a0_spareGround, .inr (2, [z0_spareGround_formX, z0_spareGround_formY, z0_spareGround_foxX, z0_spareGround_foxY, z0_spareGround_seat, z0_spareGround_strength, .ref a0_spareGround_debts, z0_spareGround_near, .int x8, .int x9, .int x10, .int x12])), (a0_spareGround_debts, .inl (cyI, 36, .inl f11)), (a0_rule, .inr (4, [.ref a0_rule_kinds, .ref a0_rule_values, z0_rule_pile, z0_rule_facts, .int x15])), (a0_rule_kinds, .inl (cyI, 150, .inl f16)), (a0_rule_values, .inl (cyI, 150, .inl f17)), (a0_lines, .inr (0, [.ref a0_lines_seen, .int x18])), (a0_lines_seen, .inl (cyI, 8, .inl f19)), (a0_now, .inr (1, [.ref a0_now_row, z0_now_owedEach, .ref a0_spareGround, .ref a0_rule])), (a0_now_row, .inl (cyI, 64, .inl f20)), (a0_past, .inr (5, [z0_past_rows, .int 0]))] := hD
    refine lv_aload_n hx hb dX10_down_100 rfl (lv_at hl 1 rfl) ?_
    refine lv_iconst (v := 0) hx hb dX10_down_101 (by decide) ?_
    refine va_put (D := (dC, dI)) (ci := 10) (v := .int 0) (ty := .int) (C := RX10) (T := TX10) (N := 19) hx hb hts ui_X10_down_X10 tyX10 tyX10_ok nmX10 hown hK hP hD hS 0 rfl rfl 16 (by decide) (hts _ uw_X10_down_f138) (fun _ h9 => h9) rfl (by decide +kernel) rfl rfl (Nat.le_of_ble_eq_true rfl) dX10_down_102 (fun H locs hP hD hS => ?_)
    have hP : va_P (dC, dI) vwCl [(a0, .inr (10, [.ref a0_tape, .ref a0_spareGround, .ref a0_ground, .ref a0_rule, z0_spareRule, .ref a0_lines, z0_spareLines, z0_steps, .ref a0_now, z0_trial, .ref a0_past, z0_images, z0_round, z0_seating, z0_fitting, .int 0, .int 0, z0_callsNoSuch, .int x1])), (a0_tape, .inr (8, [z0_tape_bytes, .int x2, .int x3, .int x4, .int x5, .int x6, .int x7])), (a0_spareGround, .inr (2, [z0_spareGround_formX, z0_spareGround_formY, z0_spareGround_foxX, z0_spareGround_foxY, z0_spareGround_seat, z0_spareGround_strength, .ref a0_spareGround_debts, z0_spareGround_near, .int x8, .int x9, .int x10, .int x12])), (a0_spareGround_debts, .inl (cyI, 36, .inl f11)), (a0_rule, .inr (4, [.ref a0_rule_kinds, .ref a0_rule_values, z0_rule_pile, z0_rule_facts, .int x15])), (a0_rule_kinds, .inl (cyI, 150, .inl f16)), (a0_rule_values, .inl (cyI, 150, .inl f17)), (a0_lines, .inr (0, [.ref a0_lines_seen, .int x18])), (a0_lines_seen, .inl (cyI, 8, .inl f19)), (a0_now, .inr (1, [.ref a0_now_row, z0_now_owedEach, .ref a0_spareGround, .ref a0_rule])), (a0_now_row, .inl (cyI, 64, .inl f20)), (a0_past, .inr (5, [z0_past_rows, .int 0]))] H := hP
    have hD : va_D A [(a0, .inr (10, [.ref a0_tape, .ref a0_spareGround, .ref a0_ground, .ref a0_rule, z0_spareRule, .ref a0_lines, z0_spareLines, z0_steps, .ref a0_now, z0_trial, .ref a0_past, z0_images, z0_round, z0_seating, z0_fitting, .int 0, .int 0, z0_callsNoSuch, .int x1])), (a0_tape, .inr (8, [z0_tape_bytes, .int x2, .int x3, .int x4, .int x5, .int x6, .int x7])), (a0_spareGround, .inr (2, [z0_spareGround_formX, z0_spareGround_formY, z0_spareGround_foxX, z0_spareGround_foxY, z0_spareGround_seat, z0_spareGround_strength, .ref a0_spareGround_debts, z0_spareGround_near, .int x8, .int x9, .int x10, .int x12])), (a0_spareGround_debts, .inl (cyI, 36, .inl f11)), (a0_rule, .inr (4, [.ref a0_rule_kinds, .ref a0_rule_values, z0_rule_pile, z0_rule_facts, .int x15])), (a0_rule_kinds, .inl (cyI, 150, .inl f16)), (a0_rule_values, .inl (cyI, 150, .inl f17)), (a0_lines, .inr (0, [.ref a0_lines_seen, .int x18])), (a0_lines_seen, .inl (cyI, 8, .inl f19)), (a0_now, .inr (1, [.ref a0_now_row, z0_now_owedEach, .ref a0_spareGround, .ref a0_rule])), (a0_now_row, .inl (cyI, 64, .inl f20)), (a0_past, .inr (5, [z0_past_rows, .int 0]))] := hD
    refine lv_aload_n hx hb dX10_down_105 rfl (lv_at hl 1 rfl) ?_
    refine va_get (D := (dC, dI)) (ci := 10) (v := .ref a0_spareGround) (C := RX10) (T := TX10) (N := 19) hx hb hts ui_X10_down_X10 hown hK hP 0 rfl rfl 1 (by decide) (hts _ uw_X10_down_f19) (fun _ h9 => h9) rfl dX10_down_106 ?_
    refine va_get (D := (dC, dI)) (ci := 2) (v := .int x9) (C := RX2) (T := TX2) (N := 12) hx hb hts ui_X10_down_X2 hown hK hP 2 rfl rfl 9 (by decide) (hts _ uw_X10_down_f141) (fun _ h9 => h9) rfl dX10_down_109 ?_
    exact vx_ret (W.widen (k := 1) (n := 6) (Nat.le_of_ble_eq_true rfl) (Nat.le_of_ble_eq_true rfl) (W.iret (v := x9) hx hb hr (fun t ht hW => ⟨⟨x9, (x1, x2, x3, x4, x5, x6, x7, x8, x9, x10, f11, x12, (.ref a0_spareGround), (.ref a0_ground), x15, f16, f17, x18, f19, f20, (.ref a0_spareGround), (.ref a0_rule), 0, 0, 0), rfl, hw, by rw [ht]; exact hP, va_K.moved hW.alike hK, hD⟩, hS.F ht⟩) hS.2.2 dX10_down_112))
  · have hw := hw.2 c14
    exact False.elim hw
def wq_X10_far (v0_ground_forms : Int32) (v0_callsNoSuch : Int32) (p1 : Int32) (p2 : Int32) (E : String → Int32 → Prop) (Q : Int32 → Int32 → Prop) : Prop := wq_X10_needForm v0_ground_forms v0_callsNoSuch p1 (fun en x1 => E en x1) (fun x1 => False)
set_option maxHeartbeats 4000000 in
set_option maxRecDepth 100000 in
theorem ck_X10_far (l : Launch) (dC : Nat → ClassId) (dI : Nat → Nat → Nat) (cyB cyI cyJ cyP : ClassId) (a0 a0_ground : Nat) (sz : Nat) (z0_tape : Value) (z0_spareGround : Value) (z0_rule : Value) (z0_spareRule : Value) (z0_lines : Value) (z0_spareLines : Value) (z0_steps : Value) (z0_now : Value) (z0_trial : Value) (z0_past : Value) (z0_images : Value) (z0_round : Value) (z0_seating : Value) (z0_fitting : Value) (z0_imagesKept : Value) (z0_refusedSteps : Value) (z0_callsIllegal : Value) (z0_ground_formX : Value) (z0_ground_formY : Value) (z0_ground_foxX : Value) (z0_ground_foxY : Value) (z0_ground_seat : Value) (z0_ground_strength : Value) (z0_ground_debts : Value) (z0_ground_near : Value) (z0_ground_hares : Value) (z0_ground_foxes : Value) (z0_ground_safe : Value) (v0_ground_forms : Int32) (v0_callsNoSuch : Int32) (p1 : Int32) (p2 : Int32) {E : String → Int32 → Prop} {Q : Int32 → Int32 → Prop} (hw : wq_X10_far v0_ground_forms v0_callsNoSuch p1 p2 E Q) : vx_Met l yX10_far wsX10_far ({ frames := 7, cells := 1, slots := 6, locals := 141 }) (va_Pc [.ref a0, .int p1, .int p2] (cPx l (dC, dI) (kT cyB cyI cyJ cyP) [(a0, .inr (10, [z0_tape, .ref a0_ground, z0_spareGround, z0_rule, z0_spareRule, z0_lines, z0_spareLines, z0_steps, z0_now, z0_trial, z0_past, z0_images, z0_round, z0_seating, z0_fitting, z0_imagesKept, z0_refusedSteps, .int v0_callsNoSuch, z0_callsIllegal])), (a0_ground, .inr (2, [z0_ground_formX, z0_ground_formY, z0_ground_foxX, z0_ground_foxY, z0_ground_seat, z0_ground_strength, z0_ground_debts, z0_ground_near, .int v0_ground_forms, z0_ground_hares, z0_ground_foxes, z0_ground_safe]))] sz)) (va_Qi (fun (r : Int32) (u : Int32) => Q r u) (cB (dC, dI) (kT cyB cyI cyJ cyP) (va_A [(a0, .inr (10, [z0_tape, .ref a0_ground, z0_spareGround, z0_rule, z0_spareRule, z0_lines, z0_spareLines, z0_steps, z0_now, z0_trial, z0_past, z0_images, z0_round, z0_seating, z0_fitting, z0_imagesKept, z0_refusedSteps, .int v0_callsNoSuch, z0_callsIllegal])), (a0_ground, .inr (2, [z0_ground_formX, z0_ground_formY, z0_ground_foxX, z0_ground_foxY, z0_ground_seat, z0_ground_strength, z0_ground_debts, z0_ground_near, .int v0_ground_forms, z0_ground_hares, z0_ground_foxes, z0_ground_safe]))] sz) (fun u : Int32 => ([(a0, .inr (10, [z0_tape, .ref a0_ground, z0_spareGround, z0_rule, z0_spareRule, z0_lines, z0_spareLines, z0_steps, z0_now, z0_trial, z0_past, z0_images, z0_round, z0_seating, z0_fitting, z0_imagesKept, z0_refusedSteps, .int u, z0_callsIllegal])), (a0_ground, .inr (2, [z0_ground_formX, z0_ground_formY, z0_ground_foxX, z0_ground_foxY, z0_ground_seat, z0_ground_strength, z0_ground_debts, z0_ground_near, .int v0_ground_forms, z0_ground_hares, z0_ground_foxes, z0_ground_safe]))] : va_W))) (va_A [(a0, .inr (10, [z0_tape, .ref a0_ground, z0_spareGround, z0_rule, z0_spareRule, z0_lines, z0_spareLines, z0_steps, z0_now, z0_trial, z0_past, z0_images, z0_round, z0_seating, z0_fitting, z0_imagesKept, z0_refusedSteps, .int v0_callsNoSuch, z0_callsIllegal])), (a0_ground, .inr (2, [z0_ground_formX, z0_ground_formY, z0_ground_foxX, z0_ground_foxY, z0_ground_seat, z0_ground_strength, z0_ground_debts, z0_ground_near, .int v0_ground_forms, z0_ground_hares, z0_ground_foxes, z0_ground_safe]))] sz)) (vx_X (fun _ => True) (fun (en : String) (u : Int32) (t : State) => E en u ∧ cB (dC, dI) (kT cyB cyI cyJ cyP) (va_A [(a0, .inr (10, [z0_tape, .ref a0_ground, z0_spareGround, z0_rule, z0_spareRule, z0_lines, z0_spareLines, z0_steps, z0_now, z0_trial, z0_past, z0_images, z0_round, z0_seating, z0_fitting, z0_imagesKept, z0_refusedSteps, .int v0_callsNoSuch, z0_callsIllegal])), (a0_ground, .inr (2, [z0_ground_formX, z0_ground_formY, z0_ground_foxX, z0_ground_foxY, z0_ground_seat, z0_ground_strength, z0_ground_debts, z0_ground_near, .int v0_ground_forms, z0_ground_hares, z0_ground_foxes, z0_ground_safe]))] sz) (fun u : Int32 => ([(a0, .inr (10, [z0_tape, .ref a0_ground, z0_spareGround, z0_rule, z0_spareRule, z0_lines, z0_spareLines, z0_steps, z0_now, z0_trial, z0_past, z0_images, z0_round, z0_seating, z0_fitting, z0_imagesKept, z0_refusedSteps, .int u, z0_callsIllegal])), (a0_ground, .inr (2, [z0_ground_formX, z0_ground_formY, z0_ground_foxX, z0_ground_foxY, z0_ground_seat, z0_ground_strength, z0_ground_debts, z0_ground_near, .int v0_ground_forms, z0_ground_hares, z0_ground_foxes, z0_ground_safe]))] : va_W)) u t) (va_A [(a0, .inr (10, [z0_tape, .ref a0_ground, z0_spareGround, z0_rule, z0_spareRule, z0_lines, z0_spareLines, z0_steps, z0_now, z0_trial, z0_past, z0_images, z0_round, z0_seating, z0_fitting, z0_imagesKept, z0_refusedSteps, .int v0_callsNoSuch, z0_callsIllegal])), (a0_ground, .inr (2, [z0_ground_formX, z0_ground_formY, z0_ground_foxX, z0_ground_foxY, z0_ground_seat, z0_ground_strength, z0_ground_debts, z0_ground_near, .int v0_ground_forms, z0_ground_hares, z0_ground_foxes, z0_ground_safe]))] sz)) 1 6 (va_A [(a0, .inr (10, [z0_tape, .ref a0_ground, z0_spareGround, z0_rule, z0_spareRule, z0_lines, z0_spareLines, z0_steps, z0_now, z0_trial, z0_past, z0_images, z0_round, z0_seating, z0_fitting, z0_imagesKept, z0_refusedSteps, .int v0_callsNoSuch, z0_callsIllegal])), (a0_ground, .inr (2, [z0_ground_formX, z0_ground_formY, z0_ground_foxX, z0_ground_foxY, z0_ground_seat, z0_ground_strength, z0_ground_debts, z0_ground_near, .int v0_ground_forms, z0_ground_hares, z0_ground_foxes, z0_ground_safe]))] sz) := by
  refine vx_ofW (cc := cX10_far) (maxL := 3) (ret := (some .int)) (by decide) rfl ?_
  intro p e s m args below meth c s₁ B hml hnt hv
  obtain ⟨rfl, hsz, hP, hK, hD0, hNw, hXl, hXu, hXn, hXt⟩ := hv
  have hx := B.exec
  have hb := B.bytes
  have hr := B.returns
  have hts := atoms_spec (ws := wsX10_far) B.pre
  have hown : s.vm.findClass RX10 = some m.cls := findClass_of_methodNamed B.named
  have hlocks := B.notSynchronized
  subst hsz
  have hD := hD0.self (sz := s.heap.size)
  generalize hAe : va_A [(a0, .inr (10, [z0_tape, .ref a0_ground, z0_spareGround, z0_rule, z0_spareRule, z0_lines, z0_spareLines, z0_steps, z0_now, z0_trial, z0_past, z0_images, z0_round, z0_seating, z0_fitting, z0_imagesKept, z0_refusedSteps, .int v0_callsNoSuch, z0_callsIllegal])), (a0_ground, .inr (2, [z0_ground_formX, z0_ground_formY, z0_ground_foxX, z0_ground_foxY, z0_ground_seat, z0_ground_strength, z0_ground_debts, z0_ground_near, .int v0_ground_forms, z0_ground_hares, z0_ground_foxes, z0_ground_safe]))] s.heap.size = A at hD hXu hXn ⊢
  have hA : ∀ q : Nat, s.heap.size ≤ q → A q := fun q h => by rw [← hAe]; exact Or.inr h
  have hS : va_S A s.heap s.heap [] := va_S.rf
  have hP : va_P (dC, dI) vwCl [(a0, .inr (10, [z0_tape, .ref a0_ground, z0_spareGround, z0_rule, z0_spareRule, z0_lines, z0_spareLines, z0_steps, z0_now, z0_trial, z0_past, z0_images, z0_round, z0_seating, z0_fitting, z0_imagesKept, z0_refusedSteps, .int v0_callsNoSuch, z0_callsIllegal])), (a0_ground, .inr (2, [z0_ground_formX, z0_ground_formY, z0_ground_foxX, z0_ground_foxY, z0_ground_seat, z0_ground_strength, z0_ground_debts, z0_ground_near, .int v0_ground_forms, z0_ground_hares, z0_ground_foxes, z0_ground_safe]))] s.heap := hP
  have hl := lv_entry ([.ref a0, .int p1, .int p2]) (n := 3) (Nat.le_of_ble_eq_true rfl)
  rw [lg_entry_eq]
  generalize (lg_sl ([.ref a0, .int p1, .int p2]) ++ List.replicate (3 - (lg_sl ([.ref a0, .int p1, .int p2])).length) Slot.unset).toArray = ls at hl ⊢
  have hl : lv_has ls 3 [(0, .ref a0), (1, .int p1), (2, .int p2)] := hl
  have hY : cfY l s A := ⟨hXl, hXu, hXn, hXt⟩
  have hXs : cfX l s c A := ⟨hnt, hY⟩
  have C0 : cfx p s m _ meth c cX10_far (some .int) wsX10_far RX10 3 A (dC, dI) (kT cyB cyI cyJ cyP) ∧ cfX l s c A := ⟨⟨hx, hb, hr, hts, hown, hlocks, hml, hA, hK, hNw⟩, hXs⟩
  clear hAe
  obtain ⟨H, hH⟩ : ∃ H, H = s.heap := ⟨_, rfl⟩
  rw [← hH] at hP ⊢
  have hS : va_S A s.heap H [] := by rw [hH]; exact va_S.rf
  have hS := hS
  refine lv_aload_n hx hb dX10_far_0 rfl (lv_at hl 0 rfl) ?_
  refine lv_iload_n hx hb dX10_far_1 rfl (lv_at hl 1 rfl) ?_
  have hPc := hP.sub (ws' := [(a0, .inr (10, [z0_tape, .ref a0_ground, z0_spareGround, z0_rule, z0_spareRule, z0_lines, z0_spareLines, z0_steps, z0_now, z0_trial, z0_past, z0_images, z0_round, z0_seating, z0_fitting, z0_imagesKept, z0_refusedSteps, .int v0_callsNoSuch, z0_callsIllegal])), (a0_ground, .inr (2, [z0_ground_formX, z0_ground_formY, z0_ground_foxX, z0_ground_foxY, z0_ground_seat, z0_ground_strength, z0_ground_debts, z0_ground_near, .int v0_ground_forms, z0_ground_hares, z0_ground_foxes, z0_ground_safe]))]) [0, 1] rfl
  have hDc := hD.sub (ws' := [(a0, .inr (10, [z0_tape, .ref a0_ground, z0_spareGround, z0_rule, z0_spareRule, z0_lines, z0_spareLines, z0_steps, z0_now, z0_trial, z0_past, z0_images, z0_round, z0_seating, z0_fitting, z0_imagesKept, z0_refusedSteps, .int v0_callsNoSuch, z0_callsIllegal])), (a0_ground, .inr (2, [z0_ground_formX, z0_ground_formY, z0_ground_foxX, z0_ground_foxY, z0_ground_seat, z0_ground_strength, z0_ground_debts, z0_ground_near, .int v0_ground_forms, z0_ground_hares, z0_ground_foxes, z0_ground_safe]))]) [0, 1] (by decide) rfl
  have hFc := va_free (wc := [(a0, .inr (10, [z0_tape, .ref a0_ground, z0_spareGround, z0_rule, z0_spareRule, z0_lines, z0_spareLines, z0_steps, z0_now, z0_trial, z0_past, z0_images, z0_round, z0_seating, z0_fitting, z0_imagesKept, z0_refusedSteps, .int v0_callsNoSuch, z0_callsIllegal])), (a0_ground, .inr (2, [z0_ground_formX, z0_ground_formY, z0_ground_foxX, z0_ground_foxY, z0_ground_seat, z0_ground_strength, z0_ground_debts, z0_ground_near, .int v0_ground_forms, z0_ground_hares, z0_ground_foxes, z0_ground_safe]))]) hD hS hA [0, 1] rfl
  refine vx_callv (vx_runV (As := [.int p1]) (rest := []) ⟨hx, hb, hml, hown, hts⟩ (ck_X10_needForm l dC dI cyB cyI cyJ cyP a0 a0_ground H.size (z0_tape) (z0_spareGround) (z0_rule) (z0_spareRule) (z0_lines) (z0_spareLines) (z0_steps) (z0_now) (z0_trial) (z0_past) (z0_images) (z0_round) (z0_seating) (z0_fitting) (z0_imagesKept) (z0_refusedSteps) (z0_callsIllegal) (z0_ground_formX) (z0_ground_formY) (z0_ground_foxX) (z0_ground_foxY) (z0_ground_seat) (z0_ground_strength) (z0_ground_debts) (z0_ground_near) (z0_ground_hares) (z0_ground_foxes) (z0_ground_safe) v0_ground_forms v0_callsNoSuch p1 hw) (cwV 1 hts gX10_far_X10_needForm rfl rfl rfl (by decide +kernel) ⟨Nat.le_of_ble_eq_true rfl, Nat.le_of_ble_eq_true rfl⟩) ⟨cPx_blind, va_recv hK hPc (ci := 10) (q0 := 0) rfl rfl, cPx_pre hPc hK hDc hNw hY hS hFc⟩ rfl rfl hl.1 rfl (lv_room (Nat.le_of_ble_eq_true rfl)) dX10_far_2 ⟨Nat.le_of_ble_eq_true rfl, Nat.le_of_ble_eq_true rfl⟩) hS (fun q _ h => hFc q h) hFc (fun q _ h => hFc q h) (fun en ce q9 u t H1 locs ht hvm hpx hB hz1 hk1 hS hc9 hv9 hcl9 => ?_) (fun u t H1 locs ht hvm hw hB hz1 hk1 hS => ?_)
  · obtain ⟨x1, rfl⟩ : ∃ z, z = u := ⟨_, rfl⟩
    obtain ⟨hw, hP1, hK1, hD1⟩ := hB
    rw [ht] at hP1
    obtain ⟨hP, hD⟩ := va_join (wr := []) (w1 := [(a0, .inr (10, [z0_tape, .ref a0_ground, z0_spareGround, z0_rule, z0_spareRule, z0_lines, z0_spareLines, z0_steps, z0_now, z0_trial, z0_past, z0_images, z0_round, z0_seating, z0_fitting, z0_imagesKept, z0_refusedSteps, .int x1, z0_callsIllegal])), (a0_ground, .inr (2, [z0_ground_formX, z0_ground_formY, z0_ground_foxX, z0_ground_foxY, z0_ground_seat, z0_ground_strength, z0_ground_debts, z0_ground_near, .int v0_ground_forms, z0_ground_hares, z0_ground_foxes, z0_ground_safe]))]) hP hD [0, 1] [] rfl rfl (by decide) (by decide) hk1 hFc hP1 hD1
    have hP : va_P (dC, dI) vwCl [(a0, .inr (10, [z0_tape, .ref a0_ground, z0_spareGround, z0_rule, z0_spareRule, z0_lines, z0_spareLines, z0_steps, z0_now, z0_trial, z0_past, z0_images, z0_round, z0_seating, z0_fitting, z0_imagesKept, z0_refusedSteps, .int x1, z0_callsIllegal])), (a0_ground, .inr (2, [z0_ground_formX, z0_ground_formY, z0_ground_foxX, z0_ground_foxY, z0_ground_seat, z0_ground_strength, z0_ground_debts, z0_ground_near, .int v0_ground_forms, z0_ground_hares, z0_ground_foxes, z0_ground_safe]))] H1 := hP
    have hD : va_D A [(a0, .inr (10, [z0_tape, .ref a0_ground, z0_spareGround, z0_rule, z0_spareRule, z0_lines, z0_spareLines, z0_steps, z0_now, z0_trial, z0_past, z0_images, z0_round, z0_seating, z0_fitting, z0_imagesKept, z0_refusedSteps, .int x1, z0_callsIllegal])), (a0_ground, .inr (2, [z0_ground_formX, z0_ground_formY, z0_ground_foxX, z0_ground_foxY, z0_ground_seat, z0_ground_strength, z0_ground_debts, z0_ground_near, .int v0_ground_forms, z0_ground_hares, z0_ground_foxes, z0_ground_safe]))] := hD
    generalize H1 = H at hP hS hc9 ⊢
    exact vx_out (fun x hx9 => (hXs.1 x hx9).elim) hlocks hc9 hv9 hcl9 (fun t2 ht2 hal2 => ⟨(x1), trivial, ⟨hw, by rw [ht2]; exact hP, va_K.moved hal2 hK, hD⟩, hS.F ht2⟩) hS.2.2 (Nat.le_of_ble_eq_true rfl) (Nat.le_of_ble_eq_true rfl)
  obtain ⟨x1, rfl⟩ : ∃ z, z = u := ⟨_, rfl⟩
  obtain ⟨hP1, hK1, hD1⟩ := hB
  rw [ht] at hP1
  obtain ⟨hP, hD⟩ := va_join (wr := []) (w1 := [(a0, .inr (10, [z0_tape, .ref a0_ground, z0_spareGround, z0_rule, z0_spareRule, z0_lines, z0_spareLines, z0_steps, z0_now, z0_trial, z0_past, z0_images, z0_round, z0_seating, z0_fitting, z0_imagesKept, z0_refusedSteps, .int x1, z0_callsIllegal])), (a0_ground, .inr (2, [z0_ground_formX, z0_ground_formY, z0_ground_foxX, z0_ground_foxY, z0_ground_seat, z0_ground_strength, z0_ground_debts, z0_ground_near, .int v0_ground_forms, z0_ground_hares, z0_ground_foxes, z0_ground_safe]))]) hP hD [0, 1] [] rfl rfl (by decide) (by decide) hk1 hFc hP1 hD1
  have hP : va_P (dC, dI) vwCl [(a0, .inr (10, [z0_tape, .ref a0_ground, z0_spareGround, z0_rule, z0_spareRule, z0_lines, z0_spareLines, z0_steps, z0_now, z0_trial, z0_past, z0_images, z0_round, z0_seating, z0_fitting, z0_imagesKept, z0_refusedSteps, .int x1, z0_callsIllegal])), (a0_ground, .inr (2, [z0_ground_formX, z0_ground_formY, z0_ground_foxX, z0_ground_foxY, z0_ground_seat, z0_ground_strength, z0_ground_debts, z0_ground_near, .int v0_ground_forms, z0_ground_hares, z0_ground_foxes, z0_ground_safe]))] H1 := hP
  have hD : va_D A [(a0, .inr (10, [z0_tape, .ref a0_ground, z0_spareGround, z0_rule, z0_spareRule, z0_lines, z0_spareLines, z0_steps, z0_now, z0_trial, z0_past, z0_images, z0_round, z0_seating, z0_fitting, z0_imagesKept, z0_refusedSteps, .int x1, z0_callsIllegal])), (a0_ground, .inr (2, [z0_ground_formX, z0_ground_formY, z0_ground_foxX, z0_ground_foxY, z0_ground_seat, z0_ground_strength, z0_ground_debts, z0_ground_near, .int v0_ground_forms, z0_ground_hares, z0_ground_foxes, z0_ground_safe]))] := hD
  generalize H1 = H at hP hS ⊢
  exact False.elim hw
def wl_X10_choices_5  (Q : Int64 → Prop)  : Nat → Int32 → Int32 → Int64 → Int32 → Prop
  | 0, _, _, _, _ => False
  | n + 1, l0, l1, l2, l4 => ((l1 < l4 → (Q l2)) ∧ (¬ l1 < l4 → ¬ l4.toInt64 = 0 ∧ ∀ x2 : Int64, x2 = (l2 * (((l0 - l4) + 1).toInt64)) / l4.toInt64 → ∀ x3 : Int32, x3 = l4 + 1 → (wl_X10_choices_5  Q  n l0 l1 x2 x3)))
set_option maxHeartbeats 4000000 in
set_option maxRecDepth 100000 in
theorem kl_X10_choices_5 {p : Program} {l : Launch} {e : Env} {s : State} {m : MethodId} {args : Array Value} {below : List Frame} {meth : Method} {c : Code} {A : Nat → Prop} (dC : Nat → ClassId) (dI : Nat → Nat → Nat) (cyB cyI cyJ cyP : ClassId)   (Q : Int64 → Prop)  (C0 : cfx p s m args meth c cX10_choices (some .long) wsX10_choices RX10 5 A (dC, dI) (kT cyB cyI cyJ cyP)) : ∀ (n : Nat) (H : Heap) (locs : List Loc) (ls : Array Slot) (l0 : Int32) (l1 : Int32) (l2 : Int64) (l4 : Int32), va_P (dC, dI) vwCl [] H → va_D A [] → va_S A s.heap H locs → lv_has ls 5 [(0, .int l0), (1, .int l1), (2, .long l2), (4, .int l4)] → wl_X10_choices_5  Q  n l0 l1 l2 l4 → W p l e (headSpec wsX10_choices ({ frames := 0, cells := 0, slots := 0, locals := 0 })).room s m args below meth c H locs 0 0 (MQ below (va_Ql (fun (r : Int64) (_ : Unit) => Q r ) (cB (dC, dI) (kT cyB cyI cyJ cyP) A (fun u : Unit => ([] : va_W))) A) args s 0 0 A) (F0 m 5 ls []) := by
  obtain ⟨hx, hb, hr, hts, hown, hlocks, hml, hA, hK, hNw⟩ := id C0
  intro n
  induction n with
  | zero => intro H locs ls l0 l1 l2 l4 hP hD hS hl hw; exact False.elim hw
  | succ n ih =>
    intro H locs ls l0 l1 l2 l4 hP hD hS hl hw
    refine lv_iload hx hb dX10_choices_5 (lv_at hl 3 rfl) ?_
    refine lv_iload_n hx hb dX10_choices_7 rfl (lv_at hl 1 rfl) ?_
    refine lv_icmp_gt (tgt := 31) hx hb dX10_choices_8 (by decide) (fun c1 => ?_) (fun c1 => ?_)
    · have hw := hw.1 c1
      refine lv_lload_n hx hb dX10_choices_31 rfl (lv_at hl 2 rfl) ?_
      exact ((W.lret (v := l2) hx hb hr (fun t ht hW => ⟨⟨l2, (), rfl, hw, by rw [ht]; exact hP, va_K.moved hW.alike hK, hD⟩, hS.F ht⟩) hS.2.2 dX10_choices_32))
    · have hw := hw.2 c1
      refine lv_lload_n hx hb dX10_choices_11 rfl (lv_at hl 2 rfl) ?_
      refine lv_iload_n hx hb dX10_choices_12 rfl (lv_at hl 0 rfl) ?_
      refine lv_iload hx hb dX10_choices_13 (lv_at hl 3 rfl) ?_
      refine lv_isub hx hb dX10_choices_15 ?_
      refine lv_iconst (v := 1) hx hb dX10_choices_16 (by decide) ?_
      refine lv_iadd hx hb dX10_choices_17 ?_
      refine lv_i2l (v := ((l0 - l4) + 1).toInt64) hx hb dX10_choices_18 rfl ?_
      refine lv_lmul hx hb dX10_choices_19 ?_
      refine lv_iload hx hb dX10_choices_20 (lv_at hl 3 rfl) ?_
      refine lv_i2l (v := l4.toInt64) hx hb dX10_choices_22 rfl ?_
      obtain ⟨hz9, hw⟩ := hw
      refine lv_ldiv hx hb dX10_choices_23 hz9 ?_
      refine lv_topl (fun x2 ex2 => ?_)
      have hw := hw x2 ex2
      refine lv_lstore_n (lv' := [(2, .long x2), (0, .int l0), (1, .int l1), (4, .int l4)]) hx hb dX10_choices_24 rfl hl (by decide) rfl (fun ls hl => ?_)
      obtain ⟨x3, ex3⟩ : ∃ y : Int32, y = l4 + 1 := ⟨_, rfl⟩
      have hw := hw x3 ex3
      refine lv_iinc (v := x3) (lv' := [(4, .int x3), (2, .long x2), (0, .int l0), (1, .int l1)]) hx hb dX10_choices_25 hl (k := 3) rfl (by rw [ex3]; rfl) (by decide) rfl (fun ls hl => ?_)
      refine lv_goto (tgt := 5) hx hb dX10_choices_28 (by decide) ?_
      exact ih _ _ _ l0 l1 x2 x3 hP hD hS (lv_sub hl [2, 3, 1, 0] rfl) hw
def wq_X10_choices   (p0 : Int32) (p1 : Int32) (Q : Int64 → Prop) : Prop := (∃ k9 : Nat, wl_X10_choices_5  Q  k9 p0 p1 1 1)
set_option maxHeartbeats 4000000 in
set_option maxRecDepth 100000 in
theorem ck_X10_choices (l : Launch) (dC : Nat → ClassId) (dI : Nat → Nat → Nat) (cyB cyI cyJ cyP : ClassId) (sz : Nat)    (p0 : Int32) (p1 : Int32) {Q : Int64 → Prop} (hw : wq_X10_choices   p0 p1 Q) : Met l yX10_choices wsX10_choices ({ frames := 0, cells := 0, slots := 0, locals := 0 }) (va_Pc [.int p0, .int p1] (cPc (dC, dI) (kT cyB cyI cyJ cyP) [] sz)) (va_Ql (fun (r : Int64) (_ : Unit) => Q r ) (cB (dC, dI) (kT cyB cyI cyJ cyP) (va_A [] sz) (fun u : Unit => ([] : va_W))) (va_A [] sz)) 0 0 (va_A [] sz) := by
  refine Met.ofW (cc := cX10_choices) (maxL := 5) (ret := (some .long)) (by decide) rfl ?_
  intro p e s m args below meth c s₁ B hml hv
  obtain ⟨rfl, hsz, hP, hK, hD0, hNw⟩ := hv
  have hx := B.exec
  have hb := B.bytes
  have hr := B.returns
  have hts := atoms_spec (ws := wsX10_choices) B.pre
  have hown : s.vm.findClass RX10 = some m.cls := findClass_of_methodNamed B.named
  have hlocks := B.notSynchronized
  subst hsz
  have hD := hD0.self (sz := s.heap.size)
  generalize hAe : va_A [] s.heap.size = A at hD ⊢
  have hA : ∀ q : Nat, s.heap.size ≤ q → A q := fun q h => by rw [← hAe]; exact Or.inr h
  have hS : va_S A s.heap s.heap [] := va_S.rf
  have hP : va_P (dC, dI) vwCl [] s.heap := hP
  have hl := lv_entry ([.int p0, .int p1]) (n := 5) (Nat.le_of_ble_eq_true rfl)
  rw [lg_entry_eq]
  generalize (lg_sl ([.int p0, .int p1]) ++ List.replicate (5 - (lg_sl ([.int p0, .int p1])).length) Slot.unset).toArray = ls at hl ⊢
  have hl : lv_has ls 5 [(0, .int p0), (1, .int p1)] := hl
  have C0 : cfx p s m _ meth c cX10_choices (some .long) wsX10_choices RX10 5 A (dC, dI) (kT cyB cyI cyJ cyP) := ⟨hx, hb, hr, hts, hown, hlocks, hml, hA, hK, hNw⟩
  clear hAe
  obtain ⟨H, hH⟩ : ∃ H, H = s.heap := ⟨_, rfl⟩
  rw [← hH] at hP ⊢
  have hS : va_S A s.heap H [] := by rw [hH]; exact va_S.rf
  have hS := hS
  refine lv_lconst (v := 1) hx hb dX10_choices_0 (by decide) ?_
  refine lv_lstore_n (lv' := [(2, .long 1), (0, .int p0), (1, .int p1)]) hx hb dX10_choices_1 rfl hl (by decide) rfl (fun ls hl => ?_)
  refine lv_iconst (v := 1) hx hb dX10_choices_2 (by decide) ?_
  refine lv_istore (lv' := [(4, .int 1), (2, .long 1), (0, .int p0), (1, .int p1)]) hx hb dX10_choices_3 hl (by decide) rfl (fun ls hl => ?_)
  obtain ⟨n9, hw⟩ := hw
  exact kl_X10_choices_5 dC dI cyB cyI cyJ cyP    Q  C0 n9 _ _ _ p0 p1 1 1 hP hD hS (lv_sub hl [2, 3, 1, 0] rfl) hw
def wl_X10_power_5  (Q : Int64 → Prop)  : Nat → Int32 → Int32 → Int64 → Int32 → Prop
  | 0, _, _, _, _ => False
  | n + 1, l0, l1, l2, l4 => ((l1 ≤ l4 → (Q l2)) ∧ (¬ l1 ≤ l4 → ∀ x2 : Int64, x2 = l2 * l0.toInt64 → ∀ x3 : Int32, x3 = l4 + 1 → (wl_X10_power_5  Q  n l0 l1 x2 x3)))
set_option maxHeartbeats 4000000 in
set_option maxRecDepth 100000 in
theorem kl_X10_power_5 {p : Program} {l : Launch} {e : Env} {s : State} {m : MethodId} {args : Array Value} {below : List Frame} {meth : Method} {c : Code} {A : Nat → Prop} (dC : Nat → ClassId) (dI : Nat → Nat → Nat) (cyB cyI cyJ cyP : ClassId)   (Q : Int64 → Prop)  (C0 : cfx p s m args meth c cX10_power (some .long) wsX10_power RX10 5 A (dC, dI) (kT cyB cyI cyJ cyP)) : ∀ (n : Nat) (H : Heap) (locs : List Loc) (ls : Array Slot) (l0 : Int32) (l1 : Int32) (l2 : Int64) (l4 : Int32), va_P (dC, dI) vwCl [] H → va_D A [] → va_S A s.heap H locs → lv_has ls 5 [(0, .int l0), (1, .int l1), (2, .long l2), (4, .int l4)] → wl_X10_power_5  Q  n l0 l1 l2 l4 → W p l e (headSpec wsX10_power ({ frames := 0, cells := 0, slots := 0, locals := 0 })).room s m args below meth c H locs 0 0 (MQ below (va_Ql (fun (r : Int64) (_ : Unit) => Q r ) (cB (dC, dI) (kT cyB cyI cyJ cyP) A (fun u : Unit => ([] : va_W))) A) args s 0 0 A) (F0 m 5 ls []) := by
  obtain ⟨hx, hb, hr, hts, hown, hlocks, hml, hA, hK, hNw⟩ := id C0
  intro n
  induction n with
  | zero => intro H locs ls l0 l1 l2 l4 hP hD hS hl hw; exact False.elim hw
  | succ n ih =>
    intro H locs ls l0 l1 l2 l4 hP hD hS hl hw
    refine lv_iload hx hb dX10_power_5 (lv_at hl 3 rfl) ?_
    refine lv_iload_n hx hb dX10_power_7 rfl (lv_at hl 1 rfl) ?_
    refine lv_icmp_ge (tgt := 22) hx hb dX10_power_8 (by decide) (fun c1 => ?_) (fun c1 => ?_)
    · have hw := hw.1 c1
      refine lv_lload_n hx hb dX10_power_22 rfl (lv_at hl 2 rfl) ?_
      exact ((W.lret (v := l2) hx hb hr (fun t ht hW => ⟨⟨l2, (), rfl, hw, by rw [ht]; exact hP, va_K.moved hW.alike hK, hD⟩, hS.F ht⟩) hS.2.2 dX10_power_23))
    · have hw := hw.2 c1
      refine lv_lload_n hx hb dX10_power_11 rfl (lv_at hl 2 rfl) ?_
      refine lv_iload_n hx hb dX10_power_12 rfl (lv_at hl 0 rfl) ?_
      refine lv_i2l (v := l0.toInt64) hx hb dX10_power_13 rfl ?_
      refine lv_lmul hx hb dX10_power_14 ?_
      refine lv_topl (fun x2 ex2 => ?_)
      have hw := hw x2 ex2
      refine lv_lstore_n (lv' := [(2, .long x2), (0, .int l0), (1, .int l1), (4, .int l4)]) hx hb dX10_power_15 rfl hl (by decide) rfl (fun ls hl => ?_)
      obtain ⟨x3, ex3⟩ : ∃ y : Int32, y = l4 + 1 := ⟨_, rfl⟩
      have hw := hw x3 ex3
      refine lv_iinc (v := x3) (lv' := [(4, .int x3), (2, .long x2), (0, .int l0), (1, .int l1)]) hx hb dX10_power_16 hl (k := 3) rfl (by rw [ex3]; rfl) (by decide) rfl (fun ls hl => ?_)
      refine lv_goto (tgt := 5) hx hb dX10_power_19 (by decide) ?_
      exact ih _ _ _ l0 l1 x2 x3 hP hD hS (lv_sub hl [2, 3, 1, 0] rfl) hw
def wq_X10_power   (p0 : Int32) (p1 : Int32) (Q : Int64 → Prop) : Prop := (∃ k9 : Nat, wl_X10_power_5  Q  k9 p0 p1 1 0)
set_option maxHeartbeats 4000000 in
set_option maxRecDepth 100000 in
theorem ck_X10_power (l : Launch) (dC : Nat → ClassId) (dI : Nat → Nat → Nat) (cyB cyI cyJ cyP : ClassId) (sz : Nat)    (p0 : Int32) (p1 : Int32) {Q : Int64 → Prop} (hw : wq_X10_power   p0 p1 Q) : Met l yX10_power wsX10_power ({ frames := 0, cells := 0, slots := 0, locals := 0 }) (va_Pc [.int p0, .int p1] (cPc (dC, dI) (kT cyB cyI cyJ cyP) [] sz)) (va_Ql (fun (r : Int64) (_ : Unit) => Q r ) (cB (dC, dI) (kT cyB cyI cyJ cyP) (va_A [] sz) (fun u : Unit => ([] : va_W))) (va_A [] sz)) 0 0 (va_A [] sz) := by
  refine Met.ofW (cc := cX10_power) (maxL := 5) (ret := (some .long)) (by decide) rfl ?_
  intro p e s m args below meth c s₁ B hml hv
  obtain ⟨rfl, hsz, hP, hK, hD0, hNw⟩ := hv
  have hx := B.exec
  have hb := B.bytes
  have hr := B.returns
  have hts := atoms_spec (ws := wsX10_power) B.pre
  have hown : s.vm.findClass RX10 = some m.cls := findClass_of_methodNamed B.named
  have hlocks := B.notSynchronized
  subst hsz
  have hD := hD0.self (sz := s.heap.size)
  generalize hAe : va_A [] s.heap.size = A at hD ⊢
  have hA : ∀ q : Nat, s.heap.size ≤ q → A q := fun q h => by rw [← hAe]; exact Or.inr h
  have hS : va_S A s.heap s.heap [] := va_S.rf
  have hP : va_P (dC, dI) vwCl [] s.heap := hP
  have hl := lv_entry ([.int p0, .int p1]) (n := 5) (Nat.le_of_ble_eq_true rfl)
  rw [lg_entry_eq]
  generalize (lg_sl ([.int p0, .int p1]) ++ List.replicate (5 - (lg_sl ([.int p0, .int p1])).length) Slot.unset).toArray = ls at hl ⊢
  have hl : lv_has ls 5 [(0, .int p0), (1, .int p1)] := hl
  have C0 : cfx p s m _ meth c cX10_power (some .long) wsX10_power RX10 5 A (dC, dI) (kT cyB cyI cyJ cyP) := ⟨hx, hb, hr, hts, hown, hlocks, hml, hA, hK, hNw⟩
  clear hAe
  obtain ⟨H, hH⟩ : ∃ H, H = s.heap := ⟨_, rfl⟩
  rw [← hH] at hP ⊢
  have hS : va_S A s.heap H [] := by rw [hH]; exact va_S.rf
  have hS := hS
  refine lv_lconst (v := 1) hx hb dX10_power_0 (by decide) ?_
  refine lv_lstore_n (lv' := [(2, .long 1), (0, .int p0), (1, .int p1)]) hx hb dX10_power_1 rfl hl (by decide) rfl (fun ls hl => ?_)
  refine lv_iconst (v := 0) hx hb dX10_power_2 (by decide) ?_
  refine lv_istore (lv' := [(4, .int 0), (2, .long 1), (0, .int p0), (1, .int p1)]) hx hb dX10_power_3 hl (by decide) rfl (fun ls hl => ?_)
  obtain ⟨n9, hw⟩ := hw
  exact kl_X10_power_5 dC dI cyB cyI cyJ cyP    Q  C0 n9 _ _ _ p0 p1 1 0 hP hD hS (lv_sub hl [2, 3, 1, 0] rfl) hw
def wb_X10_few_139  (E : String → Int32 → Prop) (Q : Int64 → Int32 → Prop)  (v0_callsIllegal : Int32) (l4 : Int32) (l5 : Int64) (l7 : Int64) : Prop := ((¬ l4 = 0 → (Q l7 v0_callsIllegal)) ∧ (l4 = 0 → (Q l5 v0_callsIllegal)))
set_option maxHeartbeats 4000000 in
set_option maxRecDepth 100000 in
theorem kb_X10_few_139 {p : Program} {l : Launch} {e : Env} {s : State} {m : MethodId} {args : Array Value} {below : List Frame} {meth : Method} {c : Code} {A : Nat → Prop} (dC : Nat → ClassId) (dI : Nat → Nat → Nat) (cyB cyI cyJ cyP : ClassId) (a0 : Nat) (z0_tape : Value) (z0_ground : Value) (z0_spareGround : Value) (z0_rule : Value) (z0_spareRule : Value) (z0_lines : Value) (z0_spareLines : Value) (z0_steps : Value) (z0_now : Value) (z0_trial : Value) (z0_past : Value) (z0_images : Value) (z0_round : Value) (z0_seating : Value) (z0_fitting : Value) (z0_imagesKept : Value) (z0_refusedSteps : Value) (z0_callsNoSuch : Value)  (E : String → Int32 → Prop) (Q : Int64 → Int32 → Prop)  (C0 : cfx p s m args meth c cX10_few (some .long) wsX10_few RX10 10 A (dC, dI) (kT cyB cyI cyJ cyP) ∧ cfX l s c A) : ∀ (H : Heap) (locs : List Loc) (ls : Array Slot) (v0_callsIllegal : Int32) (l4 : Int32) (l5 : Int64) (l7 : Int64), va_P (dC, dI) vwCl [(a0, .inr (10, [z0_tape, z0_ground, z0_spareGround, z0_rule, z0_spareRule, z0_lines, z0_spareLines, z0_steps, z0_now, z0_trial, z0_past, z0_images, z0_round, z0_seating, z0_fitting, z0_imagesKept, z0_refusedSteps, z0_callsNoSuch, .int v0_callsIllegal]))] H → va_D A [(a0, .inr (10, [z0_tape, z0_ground, z0_spareGround, z0_rule, z0_spareRule, z0_lines, z0_spareLines, z0_steps, z0_now, z0_trial, z0_past, z0_images, z0_round, z0_seating, z0_fitting, z0_imagesKept, z0_refusedSteps, z0_callsNoSuch, .int v0_callsIllegal]))] → va_S A s.heap H locs → lv_has ls 10 [(4, .int l4), (5, .long l5), (7, .long l7)] → wb_X10_few_139  E Q  v0_callsIllegal l4 l5 l7 → W p l e (headSpec wsX10_few ({ frames := 8, cells := 4, slots := 24, locals := 164 })).room s m args below meth c H locs 4 24 (vx_MQ below (va_Ql (fun (r : Int64) (u : Int32) => Q r u) (cB (dC, dI) (kT cyB cyI cyJ cyP) A (fun u : Int32 => ([(a0, .inr (10, [z0_tape, z0_ground, z0_spareGround, z0_rule, z0_spareRule, z0_lines, z0_spareLines, z0_steps, z0_now, z0_trial, z0_past, z0_images, z0_round, z0_seating, z0_fitting, z0_imagesKept, z0_refusedSteps, z0_callsNoSuch, .int u]))] : va_W))) A) (vx_X (fun _ => True) (fun (en : String) (u : Int32) (t : State) => E en u ∧ cB (dC, dI) (kT cyB cyI cyJ cyP) A (fun u : Int32 => ([(a0, .inr (10, [z0_tape, z0_ground, z0_spareGround, z0_rule, z0_spareRule, z0_lines, z0_spareLines, z0_steps, z0_now, z0_trial, z0_past, z0_images, z0_round, z0_seating, z0_fitting, z0_imagesKept, z0_refusedSteps, z0_callsNoSuch, .int u]))] : va_W)) u t) A) args s 4 24 A) (F0 m 139 ls []) := by
  obtain ⟨⟨hx, hb, hr, hts, hown, hlocks, hml, hA, hK, hNw⟩, hXs⟩ := id C0
  have hY := hXs.2
  intro H locs ls v0_callsIllegal l4 l5 l7 hP hD hS hl hw
  refine lv_iload hx hb dX10_few_139 (lv_at hl 0 rfl) ?_
  refine lv_if_ne (tgt := 149) hx hb dX10_few_141 (by decide) (fun c19 => ?_) (fun c19 => ?_)
  · have hw := hw.1 c19
    refine lv_lload hx hb dX10_few_149 (lv_at hl 2 rfl) ?_
    exact vx_ret (W.widen (k := 4) (n := 24) (Nat.le_of_ble_eq_true rfl) (Nat.le_of_ble_eq_true rfl) (W.lret (v := l7) hx hb hr (fun t ht hW => ⟨⟨l7, (v0_callsIllegal), rfl, hw, by rw [ht]; exact hP, va_K.moved hW.alike hK, hD⟩, hS.F ht⟩) hS.2.2 dX10_few_151))
  · have hw := hw.2 c19
    refine lv_lload hx hb dX10_few_144 (lv_at hl 1 rfl) ?_
    refine lv_goto (tgt := 151) hx hb dX10_few_146 (by decide) ?_
    exact vx_ret (W.widen (k := 4) (n := 24) (Nat.le_of_ble_eq_true rfl) (Nat.le_of_ble_eq_true rfl) (W.lret (v := l5) hx hb hr (fun t ht hW => ⟨⟨l5, (v0_callsIllegal), rfl, hw, by rw [ht]; exact hP, va_K.moved hW.alike hK, hD⟩, hS.F ht⟩) hS.2.2 dX10_few_151))
def wl_X10_few_96  (E : String → Int32 → Prop) (Q : Int64 → Int32 → Prop)  : Nat → Int32 → Int32 → Int64 → Int64 → Int32 → Prop
  | 0, _, _, _, _, _ => False
  | n + 1, v0_callsIllegal, l4, l5, l7, l9 => ((48 ≤ l9 → (wb_X10_few_139  E Q  v0_callsIllegal l4 l5 l7)) ∧ (¬ 48 ≤ l9 → ((¬ (lg_cmp (l5 &&& 1) 0) = 0 → (wb_X10_few_139  E Q  v0_callsIllegal l4 l5 l7)) ∧ ((lg_cmp (l5 &&& 1) 0) = 0 → ((¬ (lg_cmp (l7 &&& 1) 0) = 0 → (wb_X10_few_139  E Q  v0_callsIllegal l4 l5 l7)) ∧ ((lg_cmp (l7 &&& 1) 0) = 0 → ∀ x16 : Int64, x16 = l5 >>> ((1 : Int32).toInt64 &&& 63) → ∀ x17 : Int64, x17 = l7 >>> ((1 : Int32).toInt64 &&& 63) → ∀ x18 : Int32, x18 = l9 + 1 → (wl_X10_few_96  E Q  n v0_callsIllegal l4 x16 x17 x18)))))))
set_option maxHeartbeats 4000000 in
set_option maxRecDepth 100000 in
theorem kl_X10_few_96 {p : Program} {l : Launch} {e : Env} {s : State} {m : MethodId} {args : Array Value} {below : List Frame} {meth : Method} {c : Code} {A : Nat → Prop} (dC : Nat → ClassId) (dI : Nat → Nat → Nat) (cyB cyI cyJ cyP : ClassId) (a0 : Nat) (z0_tape : Value) (z0_ground : Value) (z0_spareGround : Value) (z0_rule : Value) (z0_spareRule : Value) (z0_lines : Value) (z0_spareLines : Value) (z0_steps : Value) (z0_now : Value) (z0_trial : Value) (z0_past : Value) (z0_images : Value) (z0_round : Value) (z0_seating : Value) (z0_fitting : Value) (z0_imagesKept : Value) (z0_refusedSteps : Value) (z0_callsNoSuch : Value)  (E : String → Int32 → Prop) (Q : Int64 → Int32 → Prop)  (C0 : cfx p s m args meth c cX10_few (some .long) wsX10_few RX10 10 A (dC, dI) (kT cyB cyI cyJ cyP) ∧ cfX l s c A) : ∀ (n : Nat) (H : Heap) (locs : List Loc) (ls : Array Slot) (v0_callsIllegal : Int32) (l4 : Int32) (l5 : Int64) (l7 : Int64) (l9 : Int32), va_P (dC, dI) vwCl [(a0, .inr (10, [z0_tape, z0_ground, z0_spareGround, z0_rule, z0_spareRule, z0_lines, z0_spareLines, z0_steps, z0_now, z0_trial, z0_past, z0_images, z0_round, z0_seating, z0_fitting, z0_imagesKept, z0_refusedSteps, z0_callsNoSuch, .int v0_callsIllegal]))] H → va_D A [(a0, .inr (10, [z0_tape, z0_ground, z0_spareGround, z0_rule, z0_spareRule, z0_lines, z0_spareLines, z0_steps, z0_now, z0_trial, z0_past, z0_images, z0_round, z0_seating, z0_fitting, z0_imagesKept, z0_refusedSteps, z0_callsNoSuch, .int v0_callsIllegal]))] → va_S A s.heap H locs → lv_has ls 10 [(4, .int l4), (5, .long l5), (7, .long l7), (9, .int l9)] → wl_X10_few_96  E Q  n v0_callsIllegal l4 l5 l7 l9 → W p l e (headSpec wsX10_few ({ frames := 8, cells := 4, slots := 24, locals := 164 })).room s m args below meth c H locs 4 24 (vx_MQ below (va_Ql (fun (r : Int64) (u : Int32) => Q r u) (cB (dC, dI) (kT cyB cyI cyJ cyP) A (fun u : Int32 => ([(a0, .inr (10, [z0_tape, z0_ground, z0_spareGround, z0_rule, z0_spareRule, z0_lines, z0_spareLines, z0_steps, z0_now, z0_trial, z0_past, z0_images, z0_round, z0_seating, z0_fitting, z0_imagesKept, z0_refusedSteps, z0_callsNoSuch, .int u]))] : va_W))) A) (vx_X (fun _ => True) (fun (en : String) (u : Int32) (t : State) => E en u ∧ cB (dC, dI) (kT cyB cyI cyJ cyP) A (fun u : Int32 => ([(a0, .inr (10, [z0_tape, z0_ground, z0_spareGround, z0_rule, z0_spareRule, z0_lines, z0_spareLines, z0_steps, z0_now, z0_trial, z0_past, z0_images, z0_round, z0_seating, z0_fitting, z0_imagesKept, z0_refusedSteps, z0_callsNoSuch, .int u]))] : va_W)) u t) A) args s 4 24 A) (F0 m 96 ls []) := by
  obtain ⟨⟨hx, hb, hr, hts, hown, hlocks, hml, hA, hK, hNw⟩, hXs⟩ := id C0
  have hY := hXs.2
  intro n
  induction n with
  | zero => intro H locs ls v0_callsIllegal l4 l5 l7 l9 hP hD hS hl hw; exact False.elim hw
  | succ n ih =>
    intro H locs ls v0_callsIllegal l4 l5 l7 l9 hP hD hS hl hw
    refine lv_iload hx hb dX10_few_96 (lv_at hl 3 rfl) ?_
    refine lv_bipush (v := 48) hx hb dX10_few_98 (by decide) ?_
    refine lv_icmp_ge (tgt := 139) hx hb dX10_few_100 (by decide) (fun c13 => ?_) (fun c13 => ?_)
    · have hw := hw.1 c13
      exact kb_X10_few_139 dC dI cyB cyI cyJ cyP a0 z0_tape z0_ground z0_spareGround z0_rule z0_spareRule z0_lines z0_spareLines z0_steps z0_now z0_trial z0_past z0_images z0_round z0_seating z0_fitting z0_imagesKept z0_refusedSteps z0_callsNoSuch  E Q  C0 _ _ _ v0_callsIllegal l4 l5 l7 hP hD hS (lv_sub hl [0, 1, 2] rfl) hw
    · have hw := hw.2 c13
      refine lv_lload hx hb dX10_few_103 (lv_at hl 1 rfl) ?_
      refine lv_lconst (v := 1) hx hb dX10_few_105 (by decide) ?_
      refine lv_land hx hb dX10_few_106 ?_
      refine lv_lconst (v := 0) hx hb dX10_few_107 (by decide) ?_
      refine W.lcmp hx hb dX10_few_108 ?_
      refine lv_if_ne (tgt := 139) hx hb dX10_few_109 (by decide) (fun c14 => ?_) (fun c14 => ?_)
      · have hw := hw.1 c14
        exact kb_X10_few_139 dC dI cyB cyI cyJ cyP a0 z0_tape z0_ground z0_spareGround z0_rule z0_spareRule z0_lines z0_spareLines z0_steps z0_now z0_trial z0_past z0_images z0_round z0_seating z0_fitting z0_imagesKept z0_refusedSteps z0_callsNoSuch  E Q  C0 _ _ _ v0_callsIllegal l4 l5 l7 hP hD hS (lv_sub hl [0, 1, 2] rfl) hw
      · have hw := hw.2 c14
        refine lv_lload hx hb dX10_few_112 (lv_at hl 2 rfl) ?_
        refine lv_lconst (v := 1) hx hb dX10_few_114 (by decide) ?_
        refine lv_land hx hb dX10_few_115 ?_
        refine lv_lconst (v := 0) hx hb dX10_few_116 (by decide) ?_
        refine W.lcmp hx hb dX10_few_117 ?_
        refine lv_if_ne (tgt := 139) hx hb dX10_few_118 (by decide) (fun c15 => ?_) (fun c15 => ?_)
        · have hw := hw.1 c15
          exact kb_X10_few_139 dC dI cyB cyI cyJ cyP a0 z0_tape z0_ground z0_spareGround z0_rule z0_spareRule z0_lines z0_spareLines z0_steps z0_now z0_trial z0_past z0_images z0_round z0_seating z0_fitting z0_imagesKept z0_refusedSteps z0_callsNoSuch  E Q  C0 _ _ _ v0_callsIllegal l4 l5 l7 hP hD hS (lv_sub hl [0, 1, 2] rfl) hw
        · have hw := hw.2 c15
          refine lv_lload hx hb dX10_few_121 (lv_at hl 1 rfl) ?_
          refine lv_iconst (v := 1) hx hb dX10_few_123 (by decide) ?_
          refine lv_lshr (v := l5 >>> ((1 : Int32).toInt64 &&& 63)) hx hb dX10_few_124 rfl ?_
          refine lv_topl (fun x16 ex16 => ?_)
          have hw := hw x16 ex16
          refine lv_lstore (lv' := [(5, .long x16), (4, .int l4), (7, .long l7), (9, .int l9)]) hx hb dX10_few_125 hl (by decide) rfl (fun ls hl => ?_)
          refine lv_lload hx hb dX10_few_127 (lv_at hl 2 rfl) ?_
          refine lv_iconst (v := 1) hx hb dX10_few_129 (by decide) ?_
          refine lv_lshr (v := l7 >>> ((1 : Int32).toInt64 &&& 63)) hx hb dX10_few_130 rfl ?_
          refine lv_topl (fun x17 ex17 => ?_)
          have hw := hw x17 ex17
          refine lv_lstore (lv' := [(7, .long x17), (5, .long x16), (4, .int l4), (9, .int l9)]) hx hb dX10_few_131 hl (by decide) rfl (fun ls hl => ?_)
          obtain ⟨x18, ex18⟩ : ∃ y : Int32, y = l9 + 1 := ⟨_, rfl⟩
          have hw := hw x18 ex18
          refine lv_iinc (v := x18) (lv' := [(9, .int x18), (7, .long x17), (5, .long x16), (4, .int l4)]) hx hb dX10_few_133 hl (k := 3) rfl (by rw [ex18]; rfl) (by decide) rfl (fun ls hl => ?_)
          refine lv_goto (tgt := 96) hx hb dX10_few_136 (by decide) ?_
          exact ih _ _ _ v0_callsIllegal l4 x16 x17 x18 hP hD hS (lv_sub hl [3, 2, 1, 0] rfl) hw
def wb_X10_few_86  (E : String → Int32 → Prop) (Q : Int64 → Int32 → Prop)  (v0_callsIllegal : Int32) (l1 : Int32) (l4 : Int32) (l5 : Int64) : Prop := ∀ x12 : Int64, x12 = (1 : Int64) <<< ((4 * l1).toInt64 &&& 63) → (∃ k9 : Nat, wl_X10_few_96  E Q  k9 v0_callsIllegal l4 l5 x12 0)
set_option maxHeartbeats 4000000 in
set_option maxRecDepth 100000 in
theorem kb_X10_few_86 {p : Program} {l : Launch} {e : Env} {s : State} {m : MethodId} {args : Array Value} {below : List Frame} {meth : Method} {c : Code} {A : Nat → Prop} (dC : Nat → ClassId) (dI : Nat → Nat → Nat) (cyB cyI cyJ cyP : ClassId) (a0 : Nat) (z0_tape : Value) (z0_ground : Value) (z0_spareGround : Value) (z0_rule : Value) (z0_spareRule : Value) (z0_lines : Value) (z0_spareLines : Value) (z0_steps : Value) (z0_now : Value) (z0_trial : Value) (z0_past : Value) (z0_images : Value) (z0_round : Value) (z0_seating : Value) (z0_fitting : Value) (z0_imagesKept : Value) (z0_refusedSteps : Value) (z0_callsNoSuch : Value)  (E : String → Int32 → Prop) (Q : Int64 → Int32 → Prop)  (C0 : cfx p s m args meth c cX10_few (some .long) wsX10_few RX10 10 A (dC, dI) (kT cyB cyI cyJ cyP) ∧ cfX l s c A) : ∀ (H : Heap) (locs : List Loc) (ls : Array Slot) (v0_callsIllegal : Int32) (l1 : Int32) (l4 : Int32) (l5 : Int64), va_P (dC, dI) vwCl [(a0, .inr (10, [z0_tape, z0_ground, z0_spareGround, z0_rule, z0_spareRule, z0_lines, z0_spareLines, z0_steps, z0_now, z0_trial, z0_past, z0_images, z0_round, z0_seating, z0_fitting, z0_imagesKept, z0_refusedSteps, z0_callsNoSuch, .int v0_callsIllegal]))] H → va_D A [(a0, .inr (10, [z0_tape, z0_ground, z0_spareGround, z0_rule, z0_spareRule, z0_lines, z0_spareLines, z0_steps, z0_now, z0_trial, z0_past, z0_images, z0_round, z0_seating, z0_fitting, z0_imagesKept, z0_refusedSteps, z0_callsNoSuch, .int v0_callsIllegal]))] → va_S A s.heap H locs → lv_has ls 10 [(1, .int l1), (4, .int l4), (5, .long l5)] → wb_X10_few_86  E Q  v0_callsIllegal l1 l4 l5 → W p l e (headSpec wsX10_few ({ frames := 8, cells := 4, slots := 24, locals := 164 })).room s m args below meth c H locs 4 24 (vx_MQ below (va_Ql (fun (r : Int64) (u : Int32) => Q r u) (cB (dC, dI) (kT cyB cyI cyJ cyP) A (fun u : Int32 => ([(a0, .inr (10, [z0_tape, z0_ground, z0_spareGround, z0_rule, z0_spareRule, z0_lines, z0_spareLines, z0_steps, z0_now, z0_trial, z0_past, z0_images, z0_round, z0_seating, z0_fitting, z0_imagesKept, z0_refusedSteps, z0_callsNoSuch, .int u]))] : va_W))) A) (vx_X (fun _ => True) (fun (en : String) (u : Int32) (t : State) => E en u ∧ cB (dC, dI) (kT cyB cyI cyJ cyP) A (fun u : Int32 => ([(a0, .inr (10, [z0_tape, z0_ground, z0_spareGround, z0_rule, z0_spareRule, z0_lines, z0_spareLines, z0_steps, z0_now, z0_trial, z0_past, z0_images, z0_round, z0_seating, z0_fitting, z0_imagesKept, z0_refusedSteps, z0_callsNoSuch, .int u]))] : va_W)) u t) A) args s 4 24 A) (F0 m 86 ls []) := by
  obtain ⟨⟨hx, hb, hr, hts, hown, hlocks, hml, hA, hK, hNw⟩, hXs⟩ := id C0
  have hY := hXs.2
  intro H locs ls v0_callsIllegal l1 l4 l5 hP hD hS hl hw
  refine lv_lconst (v := 1) hx hb dX10_few_86 (by decide) ?_
  refine lv_iconst (v := 4) hx hb dX10_few_87 (by decide) ?_
  refine lv_iload_n hx hb dX10_few_88 rfl (lv_at hl 0 rfl) ?_
  refine lv_imul hx hb dX10_few_89 ?_
  refine lv_lshl (v := (1 : Int64) <<< ((4 * l1).toInt64 &&& 63)) hx hb dX10_few_90 rfl ?_
  refine lv_topl (fun x12 ex12 => ?_)
  have hw := hw x12 ex12
  refine lv_lstore (lv' := [(7, .long x12), (1, .int l1), (4, .int l4), (5, .long l5)]) hx hb dX10_few_91 hl (by decide) rfl (fun ls hl => ?_)
  refine lv_iconst (v := 0) hx hb dX10_few_93 (by decide) ?_
  refine lv_istore (lv' := [(9, .int 0), (7, .long x12), (1, .int l1), (4, .int l4), (5, .long l5)]) hx hb dX10_few_94 hl (by decide) rfl (fun ls hl => ?_)
  obtain ⟨n9, hw⟩ := hw
  exact kl_X10_few_96 dC dI cyB cyI cyJ cyP a0 z0_tape z0_ground z0_spareGround z0_rule z0_spareRule z0_lines z0_spareLines z0_steps z0_now z0_trial z0_past z0_images z0_round z0_seating z0_fitting z0_imagesKept z0_refusedSteps z0_callsNoSuch  E Q  C0 n9 _ _ _ v0_callsIllegal l4 l5 x12 0 hP hD hS (lv_sub hl [3, 4, 1, 0] rfl) hw
def wl_X10_few_38  (E : String → Int32 → Prop) (Q : Int64 → Int32 → Prop)  : Nat → Int32 → Int32 → Int32 → Int32 → Int32 → Int64 → Int32 → Prop
  | 0, _, _, _, _, _, _, _ => False
  | n + 1, v0_callsIllegal, l1, l2, l3, l4, l5, l7 => ((l2 < l7 → (wb_X10_few_86  E Q  v0_callsIllegal l1 l4 l5)) ∧ (¬ l2 < l7 → ((l1 < l7 → (wb_X10_few_86  E Q  v0_callsIllegal l1 l4 l5)) ∧ (¬ l1 < l7 → wq_X10_choices   l1 l7 (fun r7 => wq_X10_power   l3 l7 (fun r8 => wq_X10_power   (16 - l3) (l1 - l7) (fun r9 => ∀ x10 : Int64, x10 = l5 + ((r7 * r8) * r9) → ∀ x11 : Int32, x11 = l7 + 1 → (wl_X10_few_38  E Q  n v0_callsIllegal l1 l2 l3 l4 x10 x11))))))))
set_option maxHeartbeats 4000000 in
set_option maxRecDepth 100000 in
theorem kl_X10_few_38 {p : Program} {l : Launch} {e : Env} {s : State} {m : MethodId} {args : Array Value} {below : List Frame} {meth : Method} {c : Code} {A : Nat → Prop} (dC : Nat → ClassId) (dI : Nat → Nat → Nat) (cyB cyI cyJ cyP : ClassId) (a0 : Nat) (z0_tape : Value) (z0_ground : Value) (z0_spareGround : Value) (z0_rule : Value) (z0_spareRule : Value) (z0_lines : Value) (z0_spareLines : Value) (z0_steps : Value) (z0_now : Value) (z0_trial : Value) (z0_past : Value) (z0_images : Value) (z0_round : Value) (z0_seating : Value) (z0_fitting : Value) (z0_imagesKept : Value) (z0_refusedSteps : Value) (z0_callsNoSuch : Value)  (E : String → Int32 → Prop) (Q : Int64 → Int32 → Prop)  (C0 : cfx p s m args meth c cX10_few (some .long) wsX10_few RX10 10 A (dC, dI) (kT cyB cyI cyJ cyP) ∧ cfX l s c A) : ∀ (n : Nat) (H : Heap) (locs : List Loc) (ls : Array Slot) (v0_callsIllegal : Int32) (l1 : Int32) (l2 : Int32) (l3 : Int32) (l4 : Int32) (l5 : Int64) (l7 : Int32), va_P (dC, dI) vwCl [(a0, .inr (10, [z0_tape, z0_ground, z0_spareGround, z0_rule, z0_spareRule, z0_lines, z0_spareLines, z0_steps, z0_now, z0_trial, z0_past, z0_images, z0_round, z0_seating, z0_fitting, z0_imagesKept, z0_refusedSteps, z0_callsNoSuch, .int v0_callsIllegal]))] H → va_D A [(a0, .inr (10, [z0_tape, z0_ground, z0_spareGround, z0_rule, z0_spareRule, z0_lines, z0_spareLines, z0_steps, z0_now, z0_trial, z0_past, z0_images, z0_round, z0_seating, z0_fitting, z0_imagesKept, z0_refusedSteps, z0_callsNoSuch, .int v0_callsIllegal]))] → va_S A s.heap H locs → lv_has ls 10 [(1, .int l1), (2, .int l2), (3, .int l3), (4, .int l4), (5, .long l5), (7, .int l7)] → wl_X10_few_38  E Q  n v0_callsIllegal l1 l2 l3 l4 l5 l7 → W p l e (headSpec wsX10_few ({ frames := 8, cells := 4, slots := 24, locals := 164 })).room s m args below meth c H locs 4 24 (vx_MQ below (va_Ql (fun (r : Int64) (u : Int32) => Q r u) (cB (dC, dI) (kT cyB cyI cyJ cyP) A (fun u : Int32 => ([(a0, .inr (10, [z0_tape, z0_ground, z0_spareGround, z0_rule, z0_spareRule, z0_lines, z0_spareLines, z0_steps, z0_now, z0_trial, z0_past, z0_images, z0_round, z0_seating, z0_fitting, z0_imagesKept, z0_refusedSteps, z0_callsNoSuch, .int u]))] : va_W))) A) (vx_X (fun _ => True) (fun (en : String) (u : Int32) (t : State) => E en u ∧ cB (dC, dI) (kT cyB cyI cyJ cyP) A (fun u : Int32 => ([(a0, .inr (10, [z0_tape, z0_ground, z0_spareGround, z0_rule, z0_spareRule, z0_lines, z0_spareLines, z0_steps, z0_now, z0_trial, z0_past, z0_images, z0_round, z0_seating, z0_fitting, z0_imagesKept, z0_refusedSteps, z0_callsNoSuch, .int u]))] : va_W)) u t) A) args s 4 24 A) (F0 m 38 ls []) := by
  obtain ⟨⟨hx, hb, hr, hts, hown, hlocks, hml, hA, hK, hNw⟩, hXs⟩ := id C0
  have hY := hXs.2
  intro n
  induction n with
  | zero => intro H locs ls v0_callsIllegal l1 l2 l3 l4 l5 l7 hP hD hS hl hw; exact False.elim hw
  | succ n ih =>
    intro H locs ls v0_callsIllegal l1 l2 l3 l4 l5 l7 hP hD hS hl hw
    refine lv_iload hx hb dX10_few_38 (lv_at hl 5 rfl) ?_
    refine lv_iload_n hx hb dX10_few_40 rfl (lv_at hl 1 rfl) ?_
    refine lv_icmp_gt (tgt := 86) hx hb dX10_few_41 (by decide) (fun c5 => ?_) (fun c5 => ?_)
    · have hw := hw.1 c5
      exact kb_X10_few_86 dC dI cyB cyI cyJ cyP a0 z0_tape z0_ground z0_spareGround z0_rule z0_spareRule z0_lines z0_spareLines z0_steps z0_now z0_trial z0_past z0_images z0_round z0_seating z0_fitting z0_imagesKept z0_refusedSteps z0_callsNoSuch  E Q  C0 _ _ _ v0_callsIllegal l1 l4 l5 hP hD hS (lv_sub hl [0, 3, 4] rfl) hw
    · have hw := hw.2 c5
      refine lv_iload hx hb dX10_few_44 (lv_at hl 5 rfl) ?_
      refine lv_iload_n hx hb dX10_few_46 rfl (lv_at hl 0 rfl) ?_
      refine lv_icmp_gt (tgt := 86) hx hb dX10_few_47 (by decide) (fun c6 => ?_) (fun c6 => ?_)
      · have hw := hw.1 c6
        exact kb_X10_few_86 dC dI cyB cyI cyJ cyP a0 z0_tape z0_ground z0_spareGround z0_rule z0_spareRule z0_lines z0_spareLines z0_steps z0_now z0_trial z0_past z0_images z0_round z0_seating z0_fitting z0_imagesKept z0_refusedSteps z0_callsNoSuch  E Q  C0 _ _ _ v0_callsIllegal l1 l4 l5 hP hD hS (lv_sub hl [0, 3, 4] rfl) hw
      · have hw := hw.2 c6
        refine lv_lload hx hb dX10_few_50 (lv_at hl 4 rfl) ?_
        refine lv_iload_n hx hb dX10_few_52 rfl (lv_at hl 0 rfl) ?_
        refine lv_iload hx hb dX10_few_53 (lv_at hl 5 rfl) ?_
        have hPc := hP.sub (ws' := []) [] rfl
        have hDc := hD.sub (ws' := []) [] (by decide) rfl
        have hFc := va_free (wc := []) hD hS hA [] rfl
        refine va_calll (va_runS (As := [.int l1, .int l7]) (rest := [.long l5]) ⟨hx, hb, hml, hown, hts⟩ (ck_X10_choices l dC dI cyB cyI cyJ cyP  H.size    l1 l7 hw) (va_cwS 2 hts gX10_few_X10_choices rfl rfl rfl (by decide +kernel) ⟨Nat.le_of_ble_eq_true rfl, Nat.le_of_ble_eq_true rfl⟩) ⟨cPc_blind, cPc_pre hPc hK hDc hNw⟩ rfl rfl hl.1 rfl (lv_room (Nat.le_of_ble_eq_true rfl)) dX10_few_55 ⟨Nat.le_of_ble_eq_true rfl, Nat.le_of_ble_eq_true rfl⟩) hS (fun q _ h => hFc q h) hFc (fun r7 u t H1 locs ht hvm hw hB hz1 hk1 hS => ?_)
        obtain ⟨hP1, hK1, hD1⟩ := hB
        rw [ht] at hP1
        obtain ⟨hP, hD⟩ := va_join (wr := [(a0, .inr (10, [z0_tape, z0_ground, z0_spareGround, z0_rule, z0_spareRule, z0_lines, z0_spareLines, z0_steps, z0_now, z0_trial, z0_past, z0_images, z0_round, z0_seating, z0_fitting, z0_imagesKept, z0_refusedSteps, z0_callsNoSuch, .int v0_callsIllegal]))]) (w1 := []) hP hD [] [0] rfl rfl (by decide) (by decide) hk1 hFc hP1 hD1
        have hP : va_P (dC, dI) vwCl [(a0, .inr (10, [z0_tape, z0_ground, z0_spareGround, z0_rule, z0_spareRule, z0_lines, z0_spareLines, z0_steps, z0_now, z0_trial, z0_past, z0_images, z0_round, z0_seating, z0_fitting, z0_imagesKept, z0_refusedSteps, z0_callsNoSuch, .int v0_callsIllegal]))] H1 := hP
        have hD : va_D A [(a0, .inr (10, [z0_tape, z0_ground, z0_spareGround, z0_rule, z0_spareRule, z0_lines, z0_spareLines, z0_steps, z0_now, z0_trial, z0_past, z0_images, z0_round, z0_seating, z0_fitting, z0_imagesKept, z0_refusedSteps, z0_callsNoSuch, .int v0_callsIllegal]))] := hD
        generalize H1 = H at hP hS ⊢
        refine lv_iload_n hx hb dX10_few_58 rfl (lv_at hl 2 rfl) ?_
        refine lv_iload hx hb dX10_few_59 (lv_at hl 5 rfl) ?_
        have hPc := hP.sub (ws' := []) [] rfl
        have hDc := hD.sub (ws' := []) [] (by decide) rfl
        have hFc := va_free (wc := []) hD hS hA [] rfl
        refine va_calll (va_runS (As := [.int l3, .int l7]) (rest := [.long r7, .long l5]) ⟨hx, hb, hml, hown, hts⟩ (ck_X10_power l dC dI cyB cyI cyJ cyP  H.size    l3 l7 hw) (va_cwS 2 hts gX10_few_X10_power rfl rfl rfl (by decide +kernel) ⟨Nat.le_of_ble_eq_true rfl, Nat.le_of_ble_eq_true rfl⟩) ⟨cPc_blind, cPc_pre hPc hK hDc hNw⟩ rfl rfl hl.1 rfl (lv_room (Nat.le_of_ble_eq_true rfl)) dX10_few_61 ⟨Nat.le_of_ble_eq_true rfl, Nat.le_of_ble_eq_true rfl⟩) hS (fun q _ h => hFc q h) hFc (fun r8 u t H1 locs ht hvm hw hB hz1 hk1 hS => ?_)
        obtain ⟨hP1, hK1, hD1⟩ := hB
        rw [ht] at hP1
        obtain ⟨hP, hD⟩ := va_join (wr := [(a0, .inr (10, [z0_tape, z0_ground, z0_spareGround, z0_rule, z0_spareRule, z0_lines, z0_spareLines, z0_steps, z0_now, z0_trial, z0_past, z0_images, z0_round, z0_seating, z0_fitting, z0_imagesKept, z0_refusedSteps, z0_callsNoSuch, .int v0_callsIllegal]))]) (w1 := []) hP hD [] [0] rfl rfl (by decide) (by decide) hk1 hFc hP1 hD1
        have hP : va_P (dC, dI) vwCl [(a0, .inr (10, [z0_tape, z0_ground, z0_spareGround, z0_rule, z0_spareRule, z0_lines, z0_spareLines, z0_steps, z0_now, z0_trial, z0_past, z0_images, z0_round, z0_seating, z0_fitting, z0_imagesKept, z0_refusedSteps, z0_callsNoSuch, .int v0_callsIllegal]))] H1 := hP
        have hD : va_D A [(a0, .inr (10, [z0_tape, z0_ground, z0_spareGround, z0_rule, z0_spareRule, z0_lines, z0_spareLines, z0_steps, z0_now, z0_trial, z0_past, z0_images, z0_round, z0_seating, z0_fitting, z0_imagesKept, z0_refusedSteps, z0_callsNoSuch, .int v0_callsIllegal]))] := hD
        generalize H1 = H at hP hS ⊢
        refine lv_lmul hx hb dX10_few_64 ?_
        refine lv_bipush (v := 16) hx hb dX10_few_65 (by decide) ?_
        refine lv_iload_n hx hb dX10_few_67 rfl (lv_at hl 2 rfl) ?_
        refine lv_isub hx hb dX10_few_68 ?_
        refine lv_iload_n hx hb dX10_few_69 rfl (lv_at hl 0 rfl) ?_
        refine lv_iload hx hb dX10_few_70 (lv_at hl 5 rfl) ?_
        refine lv_isub hx hb dX10_few_72 ?_
        have hPc := hP.sub (ws' := []) [] rfl
        have hDc := hD.sub (ws' := []) [] (by decide) rfl
        have hFc := va_free (wc := []) hD hS hA [] rfl
        refine va_calll (va_runS (As := [.int (16 - l3), .int (l1 - l7)]) (rest := [.long (r7 * r8), .long l5]) ⟨hx, hb, hml, hown, hts⟩ (ck_X10_power l dC dI cyB cyI cyJ cyP  H.size    (16 - l3) (l1 - l7) hw) (va_cwS 2 hts gX10_few_X10_power rfl rfl rfl (by decide +kernel) ⟨Nat.le_of_ble_eq_true rfl, Nat.le_of_ble_eq_true rfl⟩) ⟨cPc_blind, cPc_pre hPc hK hDc hNw⟩ rfl rfl hl.1 rfl (lv_room (Nat.le_of_ble_eq_true rfl)) dX10_few_73 ⟨Nat.le_of_ble_eq_true rfl, Nat.le_of_ble_eq_true rfl⟩) hS (fun q _ h => hFc q h) hFc (fun r9 u t H1 locs ht hvm hw hB hz1 hk1 hS => ?_)
        obtain ⟨hP1, hK1, hD1⟩ := hB
        rw [ht] at hP1
        obtain ⟨hP, hD⟩ := va_join (wr := [(a0, .inr (10, [z0_tape, z0_ground, z0_spareGround, z0_rule, z0_spareRule, z0_lines, z0_spareLines, z0_steps, z0_now, z0_trial, z0_past, z0_images, z0_round, z0_seating, z0_fitting, z0_imagesKept, z0_refusedSteps, z0_callsNoSuch, .int v0_callsIllegal]))]) (w1 := []) hP hD [] [0] rfl rfl (by decide) (by decide) hk1 hFc hP1 hD1
        have hP : va_P (dC, dI) vwCl [(a0, .inr (10, [z0_tape, z0_ground, z0_spareGround, z0_rule, z0_spareRule, z0_lines, z0_spareLines, z0_steps, z0_now, z0_trial, z0_past, z0_images, z0_round, z0_seating, z0_fitting, z0_imagesKept, z0_refusedSteps, z0_callsNoSuch, .int v0_callsIllegal]))] H1 := hP
        have hD : va_D A [(a0, .inr (10, [z0_tape, z0_ground, z0_spareGround, z0_rule, z0_spareRule, z0_lines, z0_spareLines, z0_steps, z0_now, z0_trial, z0_past, z0_images, z0_round, z0_seating, z0_fitting, z0_imagesKept, z0_refusedSteps, z0_callsNoSuch, .int v0_callsIllegal]))] := hD
        generalize H1 = H at hP hS ⊢
        refine lv_lmul hx hb dX10_few_76 ?_
        refine lv_ladd hx hb dX10_few_77 ?_
        refine lv_topl (fun x10 ex10 => ?_)
        have hw := hw x10 ex10
        refine lv_lstore (lv' := [(5, .long x10), (1, .int l1), (2, .int l2), (3, .int l3), (4, .int l4), (7, .int l7)]) hx hb dX10_few_78 hl (by decide) rfl (fun ls hl => ?_)
        obtain ⟨x11, ex11⟩ : ∃ y : Int32, y = l7 + 1 := ⟨_, rfl⟩
        have hw := hw x11 ex11
        refine lv_iinc (v := x11) (lv' := [(7, .int x11), (5, .long x10), (1, .int l1), (2, .int l2), (3, .int l3), (4, .int l4)]) hx hb dX10_few_80 hl (k := 5) rfl (by rw [ex11]; rfl) (by decide) rfl (fun ls hl => ?_)
        refine lv_goto (tgt := 38) hx hb dX10_few_83 (by decide) ?_
        exact ih _ _ _ v0_callsIllegal l1 l2 l3 l4 x10 x11 hP hD hS (lv_sub hl [2, 3, 4, 5, 1, 0] rfl) hw
def wq_X10_few  (v0_callsIllegal : Int32) (p1 : Int32) (p2 : Int32) (p3 : Int32) (p4 : Int32) (E : String → Int32 → Prop) (Q : Int64 → Int32 → Prop) : Prop := wq_X10_needWithin  v0_callsIllegal p1 0 12 (fun en x1 => E en x1) (fun x1 => wq_X10_needWithin  x1 p2 0 12 (fun en x2 => E en x2) (fun x2 => wq_X10_needWithin  x2 p3 0 16 (fun en x3 => E en x3) (fun x3 => wq_X10_needWithin  x3 p4 0 1 (fun en x4 => E en x4) (fun x4 => (∃ k9 : Nat, wl_X10_few_38  E Q  k9 x4 p1 p2 p3 p4 0 0)))))
set_option maxHeartbeats 4000000 in
set_option maxRecDepth 100000 in
theorem ck_X10_few (l : Launch) (dC : Nat → ClassId) (dI : Nat → Nat → Nat) (cyB cyI cyJ cyP : ClassId) (a0 : Nat) (sz : Nat) (z0_tape : Value) (z0_ground : Value) (z0_spareGround : Value) (z0_rule : Value) (z0_spareRule : Value) (z0_lines : Value) (z0_spareLines : Value) (z0_steps : Value) (z0_now : Value) (z0_trial : Value) (z0_past : Value) (z0_images : Value) (z0_round : Value) (z0_seating : Value) (z0_fitting : Value) (z0_imagesKept : Value) (z0_refusedSteps : Value) (z0_callsNoSuch : Value)  (v0_callsIllegal : Int32) (p1 : Int32) (p2 : Int32) (p3 : Int32) (p4 : Int32) {E : String → Int32 → Prop} {Q : Int64 → Int32 → Prop} (hw : wq_X10_few  v0_callsIllegal p1 p2 p3 p4 E Q) : vx_Met l yX10_few wsX10_few ({ frames := 8, cells := 4, slots := 24, locals := 164 }) (va_Pc [.ref a0, .int p1, .int p2, .int p3, .int p4] (cPx l (dC, dI) (kT cyB cyI cyJ cyP) [(a0, .inr (10, [z0_tape, z0_ground, z0_spareGround, z0_rule, z0_spareRule, z0_lines, z0_spareLines, z0_steps, z0_now, z0_trial, z0_past, z0_images, z0_round, z0_seating, z0_fitting, z0_imagesKept, z0_refusedSteps, z0_callsNoSuch, .int v0_callsIllegal]))] sz)) (va_Ql (fun (r : Int64) (u : Int32) => Q r u) (cB (dC, dI) (kT cyB cyI cyJ cyP) (va_A [(a0, .inr (10, [z0_tape, z0_ground, z0_spareGround, z0_rule, z0_spareRule, z0_lines, z0_spareLines, z0_steps, z0_now, z0_trial, z0_past, z0_images, z0_round, z0_seating, z0_fitting, z0_imagesKept, z0_refusedSteps, z0_callsNoSuch, .int v0_callsIllegal]))] sz) (fun u : Int32 => ([(a0, .inr (10, [z0_tape, z0_ground, z0_spareGround, z0_rule, z0_spareRule, z0_lines, z0_spareLines, z0_steps, z0_now, z0_trial, z0_past, z0_images, z0_round, z0_seating, z0_fitting, z0_imagesKept, z0_refusedSteps, z0_callsNoSuch, .int u]))] : va_W))) (va_A [(a0, .inr (10, [z0_tape, z0_ground, z0_spareGround, z0_rule, z0_spareRule, z0_lines, z0_spareLines, z0_steps, z0_now, z0_trial, z0_past, z0_images, z0_round, z0_seating, z0_fitting, z0_imagesKept, z0_refusedSteps, z0_callsNoSuch, .int v0_callsIllegal]))] sz)) (vx_X (fun _ => True) (fun (en : String) (u : Int32) (t : State) => E en u ∧ cB (dC, dI) (kT cyB cyI cyJ cyP) (va_A [(a0, .inr (10, [z0_tape, z0_ground, z0_spareGround, z0_rule, z0_spareRule, z0_lines, z0_spareLines, z0_steps, z0_now, z0_trial, z0_past, z0_images, z0_round, z0_seating, z0_fitting, z0_imagesKept, z0_refusedSteps, z0_callsNoSuch, .int v0_callsIllegal]))] sz) (fun u : Int32 => ([(a0, .inr (10, [z0_tape, z0_ground, z0_spareGround, z0_rule, z0_spareRule, z0_lines, z0_spareLines, z0_steps, z0_now, z0_trial, z0_past, z0_images, z0_round, z0_seating, z0_fitting, z0_imagesKept, z0_refusedSteps, z0_callsNoSuch, .int u]))] : va_W)) u t) (va_A [(a0, .inr (10, [z0_tape, z0_ground, z0_spareGround, z0_rule, z0_spareRule, z0_lines, z0_spareLines, z0_steps, z0_now, z0_trial, z0_past, z0_images, z0_round, z0_seating, z0_fitting, z0_imagesKept, z0_refusedSteps, z0_callsNoSuch, .int v0_callsIllegal]))] sz)) 4 24 (va_A [(a0, .inr (10, [z0_tape, z0_ground, z0_spareGround, z0_rule, z0_spareRule, z0_lines, z0_spareLines, z0_steps, z0_now, z0_trial, z0_past, z0_images, z0_round, z0_seating, z0_fitting, z0_imagesKept, z0_refusedSteps, z0_callsNoSuch, .int v0_callsIllegal]))] sz) := by
  refine vx_ofW (cc := cX10_few) (maxL := 10) (ret := (some .long)) (by decide) rfl ?_
  intro p e s m args below meth c s₁ B hml hnt hv
  obtain ⟨rfl, hsz, hP, hK, hD0, hNw, hXl, hXu, hXn, hXt⟩ := hv
  have hx := B.exec
  have hb := B.bytes
  have hr := B.returns
  have hts := atoms_spec (ws := wsX10_few) B.pre
  have hown : s.vm.findClass RX10 = some m.cls := findClass_of_methodNamed B.named
  have hlocks := B.notSynchronized
  subst hsz
  have hD := hD0.self (sz := s.heap.size)
  generalize hAe : va_A [(a0, .inr (10, [z0_tape, z0_ground, z0_spareGround, z0_rule, z0_spareRule, z0_lines, z0_spareLines, z0_steps, z0_now, z0_trial, z0_past, z0_images, z0_round, z0_seating, z0_fitting, z0_imagesKept, z0_refusedSteps, z0_callsNoSuch, .int v0_callsIllegal]))] s.heap.size = A at hD hXu hXn ⊢
  have hA : ∀ q : Nat, s.heap.size ≤ q → A q := fun q h => by rw [← hAe]; exact Or.inr h
  have hS : va_S A s.heap s.heap [] := va_S.rf
  have hP : va_P (dC, dI) vwCl [(a0, .inr (10, [z0_tape, z0_ground, z0_spareGround, z0_rule, z0_spareRule, z0_lines, z0_spareLines, z0_steps, z0_now, z0_trial, z0_past, z0_images, z0_round, z0_seating, z0_fitting, z0_imagesKept, z0_refusedSteps, z0_callsNoSuch, .int v0_callsIllegal]))] s.heap := hP
  have hl := lv_entry ([.ref a0, .int p1, .int p2, .int p3, .int p4]) (n := 10) (Nat.le_of_ble_eq_true rfl)
  rw [lg_entry_eq]
  generalize (lg_sl ([.ref a0, .int p1, .int p2, .int p3, .int p4]) ++ List.replicate (10 - (lg_sl ([.ref a0, .int p1, .int p2, .int p3, .int p4])).length) Slot.unset).toArray = ls at hl ⊢
  have hl : lv_has ls 10 [(0, .ref a0), (1, .int p1), (2, .int p2), (3, .int p3), (4, .int p4)] := hl
  have hY : cfY l s A := ⟨hXl, hXu, hXn, hXt⟩
  have hXs : cfX l s c A := ⟨hnt, hY⟩
  have C0 : cfx p s m _ meth c cX10_few (some .long) wsX10_few RX10 10 A (dC, dI) (kT cyB cyI cyJ cyP) ∧ cfX l s c A := ⟨⟨hx, hb, hr, hts, hown, hlocks, hml, hA, hK, hNw⟩, hXs⟩
  clear hAe
  obtain ⟨H, hH⟩ : ∃ H, H = s.heap := ⟨_, rfl⟩
  rw [← hH] at hP ⊢
  have hS : va_S A s.heap H [] := by rw [hH]; exact va_S.rf
  have hS := hS
  refine lv_aload_n hx hb dX10_few_0 rfl (lv_at hl 0 rfl) ?_
  refine lv_iload_n hx hb dX10_few_1 rfl (lv_at hl 1 rfl) ?_
  refine lv_iconst (v := 0) hx hb dX10_few_2 (by decide) ?_
  refine lv_bipush (v := 12) hx hb dX10_few_3 (by decide) ?_
  have hPc := hP.sub (ws' := [(a0, .inr (10, [z0_tape, z0_ground, z0_spareGround, z0_rule, z0_spareRule, z0_lines, z0_spareLines, z0_steps, z0_now, z0_trial, z0_past, z0_images, z0_round, z0_seating, z0_fitting, z0_imagesKept, z0_refusedSteps, z0_callsNoSuch, .int v0_callsIllegal]))]) [0] rfl
  have hDc := hD.sub (ws' := [(a0, .inr (10, [z0_tape, z0_ground, z0_spareGround, z0_rule, z0_spareRule, z0_lines, z0_spareLines, z0_steps, z0_now, z0_trial, z0_past, z0_images, z0_round, z0_seating, z0_fitting, z0_imagesKept, z0_refusedSteps, z0_callsNoSuch, .int v0_callsIllegal]))]) [0] (by decide) rfl
  have hFc := va_free (wc := [(a0, .inr (10, [z0_tape, z0_ground, z0_spareGround, z0_rule, z0_spareRule, z0_lines, z0_spareLines, z0_steps, z0_now, z0_trial, z0_past, z0_images, z0_round, z0_seating, z0_fitting, z0_imagesKept, z0_refusedSteps, z0_callsNoSuch, .int v0_callsIllegal]))]) hD hS hA [0] rfl
  refine vx_callv (vx_runV (As := [.int p1, .int 0, .int 12]) (rest := []) ⟨hx, hb, hml, hown, hts⟩ (ck_X10_needWithin l dC dI cyB cyI cyJ cyP a0 H.size (z0_tape) (z0_ground) (z0_spareGround) (z0_rule) (z0_spareRule) (z0_lines) (z0_spareLines) (z0_steps) (z0_now) (z0_trial) (z0_past) (z0_images) (z0_round) (z0_seating) (z0_fitting) (z0_imagesKept) (z0_refusedSteps) (z0_callsNoSuch)  v0_callsIllegal p1 0 12 hw) (cwV 3 hts gX10_few_X10_needWithin rfl rfl rfl (by decide +kernel) ⟨Nat.le_of_ble_eq_true rfl, Nat.le_of_ble_eq_true rfl⟩) ⟨cPx_blind, va_recv hK hPc (ci := 10) (q0 := 0) rfl rfl, cPx_pre hPc hK hDc hNw hY hS hFc⟩ rfl rfl hl.1 rfl (lv_room (Nat.le_of_ble_eq_true rfl)) dX10_few_5 ⟨Nat.le_of_ble_eq_true rfl, Nat.le_of_ble_eq_true rfl⟩) hS (fun q _ h => hFc q h) hFc (fun q _ h => hFc q h) (fun en ce q9 u t H1 locs ht hvm hpx hB hz1 hk1 hS hc9 hv9 hcl9 => ?_) (fun u t H1 locs ht hvm hw hB hz1 hk1 hS => ?_)
  · obtain ⟨x1, rfl⟩ : ∃ z, z = u := ⟨_, rfl⟩
    obtain ⟨hw, hP1, hK1, hD1⟩ := hB
    rw [ht] at hP1
    obtain ⟨hP, hD⟩ := va_join (wr := []) (w1 := [(a0, .inr (10, [z0_tape, z0_ground, z0_spareGround, z0_rule, z0_spareRule, z0_lines, z0_spareLines, z0_steps, z0_now, z0_trial, z0_past, z0_images, z0_round, z0_seating, z0_fitting, z0_imagesKept, z0_refusedSteps, z0_callsNoSuch, .int x1]))]) hP hD [0] [] rfl rfl (by decide) (by decide) hk1 hFc hP1 hD1
    have hP : va_P (dC, dI) vwCl [(a0, .inr (10, [z0_tape, z0_ground, z0_spareGround, z0_rule, z0_spareRule, z0_lines, z0_spareLines, z0_steps, z0_now, z0_trial, z0_past, z0_images, z0_round, z0_seating, z0_fitting, z0_imagesKept, z0_refusedSteps, z0_callsNoSuch, .int x1]))] H1 := hP
    have hD : va_D A [(a0, .inr (10, [z0_tape, z0_ground, z0_spareGround, z0_rule, z0_spareRule, z0_lines, z0_spareLines, z0_steps, z0_now, z0_trial, z0_past, z0_images, z0_round, z0_seating, z0_fitting, z0_imagesKept, z0_refusedSteps, z0_callsNoSuch, .int x1]))] := hD
    generalize H1 = H at hP hS hc9 ⊢
    exact vx_out (fun x hx9 => (hXs.1 x hx9).elim) hlocks hc9 hv9 hcl9 (fun t2 ht2 hal2 => ⟨(x1), trivial, ⟨hw, by rw [ht2]; exact hP, va_K.moved hal2 hK, hD⟩, hS.F ht2⟩) hS.2.2 (Nat.le_of_ble_eq_true rfl) (Nat.le_of_ble_eq_true rfl)
  obtain ⟨x1, rfl⟩ : ∃ z, z = u := ⟨_, rfl⟩
  obtain ⟨hP1, hK1, hD1⟩ := hB
  rw [ht] at hP1
  obtain ⟨hP, hD⟩ := va_join (wr := []) (w1 := [(a0, .inr (10, [z0_tape, z0_ground, z0_spareGround, z0_rule, z0_spareRule, z0_lines, z0_spareLines, z0_steps, z0_now, z0_trial, z0_past, z0_images, z0_round, z0_seating, z0_fitting, z0_imagesKept, z0_refusedSteps, z0_callsNoSuch, .int x1]))]) hP hD [0] [] rfl rfl (by decide) (by decide) hk1 hFc hP1 hD1
  have hP : va_P (dC, dI) vwCl [(a0, .inr (10, [z0_tape, z0_ground, z0_spareGround, z0_rule, z0_spareRule, z0_lines, z0_spareLines, z0_steps, z0_now, z0_trial, z0_past, z0_images, z0_round, z0_seating, z0_fitting, z0_imagesKept, z0_refusedSteps, z0_callsNoSuch, .int x1]))] H1 := hP
  have hD : va_D A [(a0, .inr (10, [z0_tape, z0_ground, z0_spareGround, z0_rule, z0_spareRule, z0_lines, z0_spareLines, z0_steps, z0_now, z0_trial, z0_past, z0_images, z0_round, z0_seating, z0_fitting, z0_imagesKept, z0_refusedSteps, z0_callsNoSuch, .int x1]))] := hD
  generalize H1 = H at hP hS ⊢
  refine lv_aload_n hx hb dX10_few_8 rfl (lv_at hl 0 rfl) ?_
  refine lv_iload_n hx hb dX10_few_9 rfl (lv_at hl 2 rfl) ?_
  refine lv_iconst (v := 0) hx hb dX10_few_10 (by decide) ?_
  refine lv_bipush (v := 12) hx hb dX10_few_11 (by decide) ?_
  have hPc := hP.sub (ws' := [(a0, .inr (10, [z0_tape, z0_ground, z0_spareGround, z0_rule, z0_spareRule, z0_lines, z0_spareLines, z0_steps, z0_now, z0_trial, z0_past, z0_images, z0_round, z0_seating, z0_fitting, z0_imagesKept, z0_refusedSteps, z0_callsNoSuch, .int x1]))]) [0] rfl
  have hDc := hD.sub (ws' := [(a0, .inr (10, [z0_tape, z0_ground, z0_spareGround, z0_rule, z0_spareRule, z0_lines, z0_spareLines, z0_steps, z0_now, z0_trial, z0_past, z0_images, z0_round, z0_seating, z0_fitting, z0_imagesKept, z0_refusedSteps, z0_callsNoSuch, .int x1]))]) [0] (by decide) rfl
  have hFc := va_free (wc := [(a0, .inr (10, [z0_tape, z0_ground, z0_spareGround, z0_rule, z0_spareRule, z0_lines, z0_spareLines, z0_steps, z0_now, z0_trial, z0_past, z0_images, z0_round, z0_seating, z0_fitting, z0_imagesKept, z0_refusedSteps, z0_callsNoSuch, .int x1]))]) hD hS hA [0] rfl
  refine vx_callv (vx_runV (As := [.int p2, .int 0, .int 12]) (rest := []) ⟨hx, hb, hml, hown, hts⟩ (ck_X10_needWithin l dC dI cyB cyI cyJ cyP a0 H.size (z0_tape) (z0_ground) (z0_spareGround) (z0_rule) (z0_spareRule) (z0_lines) (z0_spareLines) (z0_steps) (z0_now) (z0_trial) (z0_past) (z0_images) (z0_round) (z0_seating) (z0_fitting) (z0_imagesKept) (z0_refusedSteps) (z0_callsNoSuch)  x1 p2 0 12 hw) (cwV 3 hts gX10_few_X10_needWithin rfl rfl rfl (by decide +kernel) ⟨Nat.le_of_ble_eq_true rfl, Nat.le_of_ble_eq_true rfl⟩) ⟨cPx_blind, va_recv hK hPc (ci := 10) (q0 := 0) rfl rfl, cPx_pre hPc hK hDc hNw hY hS hFc⟩ rfl rfl hl.1 rfl (lv_room (Nat.le_of_ble_eq_true rfl)) dX10_few_13 ⟨Nat.le_of_ble_eq_true rfl, Nat.le_of_ble_eq_true rfl⟩) hS (fun q _ h => hFc q h) hFc (fun q _ h => hFc q h) (fun en ce q9 u t H1 locs ht hvm hpx hB hz1 hk1 hS hc9 hv9 hcl9 => ?_) (fun u t H1 locs ht hvm hw hB hz1 hk1 hS => ?_)
  · obtain ⟨x2, rfl⟩ : ∃ z, z = u := ⟨_, rfl⟩
    obtain ⟨hw, hP1, hK1, hD1⟩ := hB
    rw [ht] at hP1
    obtain ⟨hP, hD⟩ := va_join (wr := []) (w1 := [(a0, .inr (10, [z0_tape, z0_ground, z0_spareGround, z0_rule, z0_spareRule, z0_lines, z0_spareLines, z0_steps, z0_now, z0_trial, z0_past, z0_images, z0_round, z0_seating, z0_fitting, z0_imagesKept, z0_refusedSteps, z0_callsNoSuch, .int x2]))]) hP hD [0] [] rfl rfl (by decide) (by decide) hk1 hFc hP1 hD1
    have hP : va_P (dC, dI) vwCl [(a0, .inr (10, [z0_tape, z0_ground, z0_spareGround, z0_rule, z0_spareRule, z0_lines, z0_spareLines, z0_steps, z0_now, z0_trial, z0_past, z0_images, z0_round, z0_seating, z0_fitting, z0_imagesKept, z0_refusedSteps, z0_callsNoSuch, .int x2]))] H1 := hP
    have hD : va_D A [(a0, .inr (10, [z0_tape, z0_ground, z0_spareGround, z0_rule, z0_spareRule, z0_lines, z0_spareLines, z0_steps, z0_now, z0_trial, z0_past, z0_images, z0_round, z0_seating, z0_fitting, z0_imagesKept, z0_refusedSteps, z0_callsNoSuch, .int x2]))] := hD
    generalize H1 = H at hP hS hc9 ⊢
    exact vx_out (fun x hx9 => (hXs.1 x hx9).elim) hlocks hc9 hv9 hcl9 (fun t2 ht2 hal2 => ⟨(x2), trivial, ⟨hw, by rw [ht2]; exact hP, va_K.moved hal2 hK, hD⟩, hS.F ht2⟩) hS.2.2 (Nat.le_of_ble_eq_true rfl) (Nat.le_of_ble_eq_true rfl)
  obtain ⟨x2, rfl⟩ : ∃ z, z = u := ⟨_, rfl⟩
  obtain ⟨hP1, hK1, hD1⟩ := hB
  rw [ht] at hP1
  obtain ⟨hP, hD⟩ := va_join (wr := []) (w1 := [(a0, .inr (10, [z0_tape, z0_ground, z0_spareGround, z0_rule, z0_spareRule, z0_lines, z0_spareLines, z0_steps, z0_now, z0_trial, z0_past, z0_images, z0_round, z0_seating, z0_fitting, z0_imagesKept, z0_refusedSteps, z0_callsNoSuch, .int x2]))]) hP hD [0] [] rfl rfl (by decide) (by decide) hk1 hFc hP1 hD1
  have hP : va_P (dC, dI) vwCl [(a0, .inr (10, [z0_tape, z0_ground, z0_spareGround, z0_rule, z0_spareRule, z0_lines, z0_spareLines, z0_steps, z0_now, z0_trial, z0_past, z0_images, z0_round, z0_seating, z0_fitting, z0_imagesKept, z0_refusedSteps, z0_callsNoSuch, .int x2]))] H1 := hP
  have hD : va_D A [(a0, .inr (10, [z0_tape, z0_ground, z0_spareGround, z0_rule, z0_spareRule, z0_lines, z0_spareLines, z0_steps, z0_now, z0_trial, z0_past, z0_images, z0_round, z0_seating, z0_fitting, z0_imagesKept, z0_refusedSteps, z0_callsNoSuch, .int x2]))] := hD
  generalize H1 = H at hP hS ⊢
  refine lv_aload_n hx hb dX10_few_16 rfl (lv_at hl 0 rfl) ?_
  refine lv_iload_n hx hb dX10_few_17 rfl (lv_at hl 3 rfl) ?_
  refine lv_iconst (v := 0) hx hb dX10_few_18 (by decide) ?_
  refine lv_bipush (v := 16) hx hb dX10_few_19 (by decide) ?_
  have hPc := hP.sub (ws' := [(a0, .inr (10, [z0_tape, z0_ground, z0_spareGround, z0_rule, z0_spareRule, z0_lines, z0_spareLines, z0_steps, z0_now, z0_trial, z0_past, z0_images, z0_round, z0_seating, z0_fitting, z0_imagesKept, z0_refusedSteps, z0_callsNoSuch, .int x2]))]) [0] rfl
  have hDc := hD.sub (ws' := [(a0, .inr (10, [z0_tape, z0_ground, z0_spareGround, z0_rule, z0_spareRule, z0_lines, z0_spareLines, z0_steps, z0_now, z0_trial, z0_past, z0_images, z0_round, z0_seating, z0_fitting, z0_imagesKept, z0_refusedSteps, z0_callsNoSuch, .int x2]))]) [0] (by decide) rfl
  have hFc := va_free (wc := [(a0, .inr (10, [z0_tape, z0_ground, z0_spareGround, z0_rule, z0_spareRule, z0_lines, z0_spareLines, z0_steps, z0_now, z0_trial, z0_past, z0_images, z0_round, z0_seating, z0_fitting, z0_imagesKept, z0_refusedSteps, z0_callsNoSuch, .int x2]))]) hD hS hA [0] rfl
  refine vx_callv (vx_runV (As := [.int p3, .int 0, .int 16]) (rest := []) ⟨hx, hb, hml, hown, hts⟩ (ck_X10_needWithin l dC dI cyB cyI cyJ cyP a0 H.size (z0_tape) (z0_ground) (z0_spareGround) (z0_rule) (z0_spareRule) (z0_lines) (z0_spareLines) (z0_steps) (z0_now) (z0_trial) (z0_past) (z0_images) (z0_round) (z0_seating) (z0_fitting) (z0_imagesKept) (z0_refusedSteps) (z0_callsNoSuch)  x2 p3 0 16 hw) (cwV 3 hts gX10_few_X10_needWithin rfl rfl rfl (by decide +kernel) ⟨Nat.le_of_ble_eq_true rfl, Nat.le_of_ble_eq_true rfl⟩) ⟨cPx_blind, va_recv hK hPc (ci := 10) (q0 := 0) rfl rfl, cPx_pre hPc hK hDc hNw hY hS hFc⟩ rfl rfl hl.1 rfl (lv_room (Nat.le_of_ble_eq_true rfl)) dX10_few_21 ⟨Nat.le_of_ble_eq_true rfl, Nat.le_of_ble_eq_true rfl⟩) hS (fun q _ h => hFc q h) hFc (fun q _ h => hFc q h) (fun en ce q9 u t H1 locs ht hvm hpx hB hz1 hk1 hS hc9 hv9 hcl9 => ?_) (fun u t H1 locs ht hvm hw hB hz1 hk1 hS => ?_)
  · obtain ⟨x3, rfl⟩ : ∃ z, z = u := ⟨_, rfl⟩
    obtain ⟨hw, hP1, hK1, hD1⟩ := hB
    rw [ht] at hP1
    obtain ⟨hP, hD⟩ := va_join (wr := []) (w1 := [(a0, .inr (10, [z0_tape, z0_ground, z0_spareGround, z0_rule, z0_spareRule, z0_lines, z0_spareLines, z0_steps, z0_now, z0_trial, z0_past, z0_images, z0_round, z0_seating, z0_fitting, z0_imagesKept, z0_refusedSteps, z0_callsNoSuch, .int x3]))]) hP hD [0] [] rfl rfl (by decide) (by decide) hk1 hFc hP1 hD1
    have hP : va_P (dC, dI) vwCl [(a0, .inr (10, [z0_tape, z0_ground, z0_spareGround, z0_rule, z0_spareRule, z0_lines, z0_spareLines, z0_steps, z0_now, z0_trial, z0_past, z0_images, z0_round, z0_seating, z0_fitting, z0_imagesKept, z0_refusedSteps, z0_callsNoSuch, .int x3]))] H1 := hP
    have hD : va_D A [(a0, .inr (10, [z0_tape, z0_ground, z0_spareGround, z0_rule, z0_spareRule, z0_lines, z0_spareLines, z0_steps, z0_now, z0_trial, z0_past, z0_images, z0_round, z0_seating, z0_fitting, z0_imagesKept, z0_refusedSteps, z0_callsNoSuch, .int x3]))] := hD
    generalize H1 = H at hP hS hc9 ⊢
    exact vx_out (fun x hx9 => (hXs.1 x hx9).elim) hlocks hc9 hv9 hcl9 (fun t2 ht2 hal2 => ⟨(x3), trivial, ⟨hw, by rw [ht2]; exact hP, va_K.moved hal2 hK, hD⟩, hS.F ht2⟩) hS.2.2 (Nat.le_of_ble_eq_true rfl) (Nat.le_of_ble_eq_true rfl)
  obtain ⟨x3, rfl⟩ : ∃ z, z = u := ⟨_, rfl⟩
  obtain ⟨hP1, hK1, hD1⟩ := hB
  rw [ht] at hP1
  obtain ⟨hP, hD⟩ := va_join (wr := []) (w1 := [(a0, .inr (10, [z0_tape, z0_ground, z0_spareGround, z0_rule, z0_spareRule, z0_lines, z0_spareLines, z0_steps, z0_now, z0_trial, z0_past, z0_images, z0_round, z0_seating, z0_fitting, z0_imagesKept, z0_refusedSteps, z0_callsNoSuch, .int x3]))]) hP hD [0] [] rfl rfl (by decide) (by decide) hk1 hFc hP1 hD1
  have hP : va_P (dC, dI) vwCl [(a0, .inr (10, [z0_tape, z0_ground, z0_spareGround, z0_rule, z0_spareRule, z0_lines, z0_spareLines, z0_steps, z0_now, z0_trial, z0_past, z0_images, z0_round, z0_seating, z0_fitting, z0_imagesKept, z0_refusedSteps, z0_callsNoSuch, .int x3]))] H1 := hP
  have hD : va_D A [(a0, .inr (10, [z0_tape, z0_ground, z0_spareGround, z0_rule, z0_spareRule, z0_lines, z0_spareLines, z0_steps, z0_now, z0_trial, z0_past, z0_images, z0_round, z0_seating, z0_fitting, z0_imagesKept, z0_refusedSteps, z0_callsNoSuch, .int x3]))] := hD
  generalize H1 = H at hP hS ⊢
  refine lv_aload_n hx hb dX10_few_24 rfl (lv_at hl 0 rfl) ?_
  refine lv_iload hx hb dX10_few_25 (lv_at hl 4 rfl) ?_
  refine lv_iconst (v := 0) hx hb dX10_few_27 (by decide) ?_
  refine lv_iconst (v := 1) hx hb dX10_few_28 (by decide) ?_
  have hPc := hP.sub (ws' := [(a0, .inr (10, [z0_tape, z0_ground, z0_spareGround, z0_rule, z0_spareRule, z0_lines, z0_spareLines, z0_steps, z0_now, z0_trial, z0_past, z0_images, z0_round, z0_seating, z0_fitting, z0_imagesKept, z0_refusedSteps, z0_callsNoSuch, .int x3]))]) [0] rfl
  have hDc := hD.sub (ws' := [(a0, .inr (10, [z0_tape, z0_ground, z0_spareGround, z0_rule, z0_spareRule, z0_lines, z0_spareLines, z0_steps, z0_now, z0_trial, z0_past, z0_images, z0_round, z0_seating, z0_fitting, z0_imagesKept, z0_refusedSteps, z0_callsNoSuch, .int x3]))]) [0] (by decide) rfl
  have hFc := va_free (wc := [(a0, .inr (10, [z0_tape, z0_ground, z0_spareGround, z0_rule, z0_spareRule, z0_lines, z0_spareLines, z0_steps, z0_now, z0_trial, z0_past, z0_images, z0_round, z0_seating, z0_fitting, z0_imagesKept, z0_refusedSteps, z0_callsNoSuch, .int x3]))]) hD hS hA [0] rfl
  refine vx_callv (vx_runV (As := [.int p4, .int 0, .int 1]) (rest := []) ⟨hx, hb, hml, hown, hts⟩ (ck_X10_needWithin l dC dI cyB cyI cyJ cyP a0 H.size (z0_tape) (z0_ground) (z0_spareGround) (z0_rule) (z0_spareRule) (z0_lines) (z0_spareLines) (z0_steps) (z0_now) (z0_trial) (z0_past) (z0_images) (z0_round) (z0_seating) (z0_fitting) (z0_imagesKept) (z0_refusedSteps) (z0_callsNoSuch)  x3 p4 0 1 hw) (cwV 3 hts gX10_few_X10_needWithin rfl rfl rfl (by decide +kernel) ⟨Nat.le_of_ble_eq_true rfl, Nat.le_of_ble_eq_true rfl⟩) ⟨cPx_blind, va_recv hK hPc (ci := 10) (q0 := 0) rfl rfl, cPx_pre hPc hK hDc hNw hY hS hFc⟩ rfl rfl hl.1 rfl (lv_room (Nat.le_of_ble_eq_true rfl)) dX10_few_29 ⟨Nat.le_of_ble_eq_true rfl, Nat.le_of_ble_eq_true rfl⟩) hS (fun q _ h => hFc q h) hFc (fun q _ h => hFc q h) (fun en ce q9 u t H1 locs ht hvm hpx hB hz1 hk1 hS hc9 hv9 hcl9 => ?_) (fun u t H1 locs ht hvm hw hB hz1 hk1 hS => ?_)
  · obtain ⟨x4, rfl⟩ : ∃ z, z = u := ⟨_, rfl⟩
    obtain ⟨hw, hP1, hK1, hD1⟩ := hB
    rw [ht] at hP1
    obtain ⟨hP, hD⟩ := va_join (wr := []) (w1 := [(a0, .inr (10, [z0_tape, z0_ground, z0_spareGround, z0_rule, z0_spareRule, z0_lines, z0_spareLines, z0_steps, z0_now, z0_trial, z0_past, z0_images, z0_round, z0_seating, z0_fitting, z0_imagesKept, z0_refusedSteps, z0_callsNoSuch, .int x4]))]) hP hD [0] [] rfl rfl (by decide) (by decide) hk1 hFc hP1 hD1
    have hP : va_P (dC, dI) vwCl [(a0, .inr (10, [z0_tape, z0_ground, z0_spareGround, z0_rule, z0_spareRule, z0_lines, z0_spareLines, z0_steps, z0_now, z0_trial, z0_past, z0_images, z0_round, z0_seating, z0_fitting, z0_imagesKept, z0_refusedSteps, z0_callsNoSuch, .int x4]))] H1 := hP
    have hD : va_D A [(a0, .inr (10, [z0_tape, z0_ground, z0_spareGround, z0_rule, z0_spareRule, z0_lines, z0_spareLines, z0_steps, z0_now, z0_trial, z0_past, z0_images, z0_round, z0_seating, z0_fitting, z0_imagesKept, z0_refusedSteps, z0_callsNoSuch, .int x4]))] := hD
    generalize H1 = H at hP hS hc9 ⊢
    exact vx_out (fun x hx9 => (hXs.1 x hx9).elim) hlocks hc9 hv9 hcl9 (fun t2 ht2 hal2 => ⟨(x4), trivial, ⟨hw, by rw [ht2]; exact hP, va_K.moved hal2 hK, hD⟩, hS.F ht2⟩) hS.2.2 (Nat.le_of_ble_eq_true rfl) (Nat.le_of_ble_eq_true rfl)
  obtain ⟨x4, rfl⟩ : ∃ z, z = u := ⟨_, rfl⟩
  obtain ⟨hP1, hK1, hD1⟩ := hB
  rw [ht] at hP1
  obtain ⟨hP, hD⟩ := va_join (wr := []) (w1 := [(a0, .inr (10, [z0_tape, z0_ground, z0_spareGround, z0_rule, z0_spareRule, z0_lines, z0_spareLines, z0_steps, z0_now, z0_trial, z0_past, z0_images, z0_round, z0_seating, z0_fitting, z0_imagesKept, z0_refusedSteps, z0_callsNoSuch, .int x4]))]) hP hD [0] [] rfl rfl (by decide) (by decide) hk1 hFc hP1 hD1
  have hP : va_P (dC, dI) vwCl [(a0, .inr (10, [z0_tape, z0_ground, z0_spareGround, z0_rule, z0_spareRule, z0_lines, z0_spareLines, z0_steps, z0_now, z0_trial, z0_past, z0_images, z0_round, z0_seating, z0_fitting, z0_imagesKept, z0_refusedSteps, z0_callsNoSuch, .int x4]))] H1 := hP
  have hD : va_D A [(a0, .inr (10, [z0_tape, z0_ground, z0_spareGround, z0_rule, z0_spareRule, z0_lines, z0_spareLines, z0_steps, z0_now, z0_trial, z0_past, z0_images, z0_round, z0_seating, z0_fitting, z0_imagesKept, z0_refusedSteps, z0_callsNoSuch, .int x4]))] := hD
  generalize H1 = H at hP hS ⊢
  refine lv_lconst (v := 0) hx hb dX10_few_32 (by decide) ?_
  refine lv_lstore (lv' := [(5, .long 0), (0, .ref a0), (1, .int p1), (2, .int p2), (3, .int p3), (4, .int p4)]) hx hb dX10_few_33 hl (by decide) rfl (fun ls hl => ?_)
  refine lv_iconst (v := 0) hx hb dX10_few_35 (by decide) ?_
  refine lv_istore (lv' := [(7, .int 0), (5, .long 0), (0, .ref a0), (1, .int p1), (2, .int p2), (3, .int p3), (4, .int p4)]) hx hb dX10_few_36 hl (by decide) rfl (fun ls hl => ?_)
  obtain ⟨n9, hw⟩ := hw
  exact kl_X10_few_38 dC dI cyB cyI cyJ cyP a0 z0_tape z0_ground z0_spareGround z0_rule z0_spareRule z0_lines z0_spareLines z0_steps z0_now z0_trial z0_past z0_images z0_round z0_seating z0_fitting z0_imagesKept z0_refusedSteps z0_callsNoSuch  E Q  C0 n9 _ _ _ x4 p1 p2 p3 p4 0 0 hP hD hS (lv_sub hl [3, 4, 5, 6, 1, 0] rfl) hw
theorem ui_X3_settle_X1 : ∀ w ∈ u_ws RX1 TX1 4, w ∈ wsX3_settle := by decide +kernel
theorem ui_X3_settle_X2 : ∀ w ∈ u_ws RX2 TX2 12, w ∈ wsX3_settle := by decide +kernel
theorem ui_X3_settle_X3 : ∀ w ∈ u_ws RX3 TX3 11, w ∈ wsX3_settle := by decide +kernel
theorem uw_X3_settle_f24 : (.fieldLink RX3 24 "MarchHares$Days" "down" "LMarchHares$Down;" : Cond) ∈ wsX3_settle := by decide +kernel
theorem uw_X3_settle_f30 : (.fieldLink RX3 30 "MarchHares$Down" "hares" "I" : Cond) ∈ wsX3_settle := by decide +kernel
theorem uw_X3_settle_f36 : (.fieldLink RX3 36 "MarchHares$Fitting" "hares" "I" : Cond) ∈ wsX3_settle := by decide +kernel
theorem uw_X3_settle_f37 : (.fieldLink RX3 37 "MarchHares$Down" "forms" "I" : Cond) ∈ wsX3_settle := by decide +kernel
theorem uw_X3_settle_f40 : (.fieldLink RX3 40 "MarchHares$Fitting" "forms" "I" : Cond) ∈ wsX3_settle := by decide +kernel
theorem uw_X3_settle_f41 : (.fieldLink RX3 41 "MarchHares$Fitting" "book" "LMarchHares$Book;" : Cond) ∈ wsX3_settle := by decide +kernel
theorem uw_X3_settle_f45 : (.fieldLink RX3 45 "MarchHares$Fitting" "many" "I" : Cond) ∈ wsX3_settle := by decide +kernel
theorem uw_X3_settle_f48 : (.fieldLink RX3 48 "MarchHares$Fitting" "first" "I" : Cond) ∈ wsX3_settle := by decide +kernel
def wl_X3_settle_69 (v1_down_forms : Int32) (v1_down_hares : Int32) (Q : Int32 → Int32 → Int32 → Int32 → Prop)  : Nat → Int32 → Int32 → Int32 → Int32 → Int32 → Prop
  | 0, _, _, _, _, _ => False
  | n + 1, v0_hares, v0_forms, v0_many, v0_first, l3 => ((v0_hares ≤ l3 → (Q v0_hares v0_forms v0_many v0_first)) ∧ (¬ v0_hares ≤ l3 → False))
set_option maxHeartbeats 4000000 in
set_option maxRecDepth 100000 in
theorem kl_X3_settle_69 {p : Program} {l : Launch} {e : Env} {s : State} {m : MethodId} {args : Array Value} {below : List Frame} {meth : Method} {c : Code} {A : Nat → Prop} (dC : Nat → ClassId) (dI : Nat → Nat → Nat) (cyB cyI cyJ cyP : ClassId) (a0 a1 a2 a1_down : Nat) (z0_seated : Value) (z0_sits : Value) (z0_fittingForms : Value) (z0_tally : Value) (r0_book : Value) (z0_lookForm : Value) (z0_lookWorst : Value) (z1_row : Value) (z1_owedEach : Value) (z1_law : Value) (z1_down_formX : Value) (z1_down_formY : Value) (z1_down_foxX : Value) (z1_down_foxY : Value) (z1_down_seat : Value) (z1_down_strength : Value) (z1_down_debts : Value) (z1_down_near : Value) (z1_down_foxes : Value) (z1_down_safe : Value) (v1_down_forms : Int32) (v1_down_hares : Int32) (Q : Int32 → Int32 → Int32 → Int32 → Prop)  (C0 : cfx p s m args meth c cX3_settle none wsX3_settle RX3 4 A (dC, dI) (kT cyB cyI cyJ cyP)) : ∀ (n : Nat) (H : Heap) (locs : List Loc) (ls : Array Slot) (v0_hares : Int32) (v0_forms : Int32) (v0_many : Int32) (v0_first : Int32) (l3 : Int32), va_P (dC, dI) vwCl [(a0, .inr (3, [z0_seated, z0_sits, z0_fittingForms, z0_tally, .int v0_hares, .int v0_forms, .ref a2, .int v0_many, .int v0_first, z0_lookForm, z0_lookWorst])), (a1, .inr (1, [z1_row, z1_owedEach, .ref a1_down, z1_law])), (a1_down, .inr (2, [z1_down_formX, z1_down_formY, z1_down_foxX, z1_down_foxY, z1_down_seat, z1_down_strength, z1_down_debts, z1_down_near, .int v1_down_forms, .int v1_down_hares, z1_down_foxes, z1_down_safe]))] H → va_D A [(a0, .inr (3, [z0_seated, z0_sits, z0_fittingForms, z0_tally, .int v0_hares, .int v0_forms, .ref a2, .int v0_many, .int v0_first, z0_lookForm, z0_lookWorst])), (a1, .inr (1, [z1_row, z1_owedEach, .ref a1_down, z1_law])), (a1_down, .inr (2, [z1_down_formX, z1_down_formY, z1_down_foxX, z1_down_foxY, z1_down_seat, z1_down_strength, z1_down_debts, z1_down_near, .int v1_down_forms, .int v1_down_hares, z1_down_foxes, z1_down_safe]))] → va_S A s.heap H locs → lv_has ls 4 [(0, .ref a0), (1, .ref a1), (3, .int l3)] → wl_X3_settle_69 v1_down_forms v1_down_hares Q  n v0_hares v0_forms v0_many v0_first l3 → W p l e (headSpec wsX3_settle ({ frames := 0, cells := 0, slots := 0, locals := 0 })).room s m args below meth c H locs 0 0 (MQ below (va_Qv (fun (u : Int32 × Int32 × Int32 × Int32) => Q u.1 u.2.1 u.2.2.1 u.2.2.2) (cB (dC, dI) (kT cyB cyI cyJ cyP) A (fun u : Int32 × Int32 × Int32 × Int32 => ([(a0, .inr (3, [z0_seated, z0_sits, z0_fittingForms, z0_tally, .int u.1, .int u.2.1, .ref a2, .int u.2.2.1, .int u.2.2.2, z0_lookForm, z0_lookWorst])), (a1, .inr (1, [z1_row, z1_owedEach, .ref a1_down, z1_law])), (a1_down, .inr (2, [z1_down_formX, z1_down_formY, z1_down_foxX, z1_down_foxY, z1_down_seat, z1_down_strength, z1_down_debts, z1_down_near, .int v1_down_forms, .int v1_down_hares, z1_down_foxes, z1_down_safe]))] : va_W))) A) args s 0 0 A) (F0 m 69 ls []) := by
  obtain ⟨hx, hb, hr, hts, hown, hlocks, hml, hA, hK, hNw⟩ := id C0
  intro n
  induction n with
  | zero => intro H locs ls v0_hares v0_forms v0_many v0_first l3 hP hD hS hl hw; exact False.elim hw
  | succ n ih =>
    intro H locs ls v0_hares v0_forms v0_many v0_first l3 hP hD hS hl hw
    refine lv_iload_n hx hb dX3_settle_69 rfl (lv_at hl 2 rfl) ?_
    refine lv_aload_n hx hb dX3_settle_70 rfl (lv_at hl 0 rfl) ?_
    refine va_get (D := (dC, dI)) (ci := 3) (v := .int v0_hares) (C := RX3) (T := TX3) (N := 11) hx hb hts ui_X3_settle_X3 hown hK hP 0 rfl rfl 4 (by decide) (hts _ uw_X3_settle_f36) (fun _ h9 => h9) rfl dX3_settle_71 ?_
    refine lv_icmp_ge (tgt := 117) hx hb dX3_settle_74 (by decide) (fun c2 => ?_) (fun c2 => ?_)
    · have hw := hw.1 c2
      exact ((W.vret hx hb hr (fun t ht hW => ⟨⟨(v0_hares, v0_forms, v0_many, v0_first), rfl, hw, by rw [ht]; exact hP, va_K.moved hW.alike hK, hD⟩, hS.F ht⟩) hS.2.2 dX3_settle_117))
    · have hw := hw.2 c2
      exact False.elim hw
def wl_X3_settle_39 (v1_down_forms : Int32) (v1_down_hares : Int32) (Q : Int32 → Int32 → Int32 → Int32 → Prop)  : Nat → Int32 → Int32 → Int32 → Int32 → Int32 → Prop
  | 0, _, _, _, _, _ => False
  | n + 1, v0_hares, v0_forms, v0_many, v0_first, l3 => ((v0_forms ≤ l3 → (∃ k9 : Nat, wl_X3_settle_69 v1_down_forms v1_down_hares Q  k9 v0_hares v0_forms v0_many v0_first 0)) ∧ (¬ v0_forms ≤ l3 → False))
set_option maxHeartbeats 4000000 in
set_option maxRecDepth 100000 in
theorem kl_X3_settle_39 {p : Program} {l : Launch} {e : Env} {s : State} {m : MethodId} {args : Array Value} {below : List Frame} {meth : Method} {c : Code} {A : Nat → Prop} (dC : Nat → ClassId) (dI : Nat → Nat → Nat) (cyB cyI cyJ cyP : ClassId) (a0 a1 a2 a1_down : Nat) (z0_seated : Value) (z0_sits : Value) (z0_fittingForms : Value) (z0_tally : Value) (r0_book : Value) (z0_lookForm : Value) (z0_lookWorst : Value) (z1_row : Value) (z1_owedEach : Value) (z1_law : Value) (z1_down_formX : Value) (z1_down_formY : Value) (z1_down_foxX : Value) (z1_down_foxY : Value) (z1_down_seat : Value) (z1_down_strength : Value) (z1_down_debts : Value) (z1_down_near : Value) (z1_down_foxes : Value) (z1_down_safe : Value) (v1_down_forms : Int32) (v1_down_hares : Int32) (Q : Int32 → Int32 → Int32 → Int32 → Prop)  (C0 : cfx p s m args meth c cX3_settle none wsX3_settle RX3 4 A (dC, dI) (kT cyB cyI cyJ cyP)) : ∀ (n : Nat) (H : Heap) (locs : List Loc) (ls : Array Slot) (v0_hares : Int32) (v0_forms : Int32) (v0_many : Int32) (v0_first : Int32) (l3 : Int32), va_P (dC, dI) vwCl [(a0, .inr (3, [z0_seated, z0_sits, z0_fittingForms, z0_tally, .int v0_hares, .int v0_forms, .ref a2, .int v0_many, .int v0_first, z0_lookForm, z0_lookWorst])), (a1, .inr (1, [z1_row, z1_owedEach, .ref a1_down, z1_law])), (a1_down, .inr (2, [z1_down_formX, z1_down_formY, z1_down_foxX, z1_down_foxY, z1_down_seat, z1_down_strength, z1_down_debts, z1_down_near, .int v1_down_forms, .int v1_down_hares, z1_down_foxes, z1_down_safe]))] H → va_D A [(a0, .inr (3, [z0_seated, z0_sits, z0_fittingForms, z0_tally, .int v0_hares, .int v0_forms, .ref a2, .int v0_many, .int v0_first, z0_lookForm, z0_lookWorst])), (a1, .inr (1, [z1_row, z1_owedEach, .ref a1_down, z1_law])), (a1_down, .inr (2, [z1_down_formX, z1_down_formY, z1_down_foxX, z1_down_foxY, z1_down_seat, z1_down_strength, z1_down_debts, z1_down_near, .int v1_down_forms, .int v1_down_hares, z1_down_foxes, z1_down_safe]))] → va_S A s.heap H locs → lv_has ls 4 [(0, .ref a0), (1, .ref a1), (3, .int l3)] → wl_X3_settle_39 v1_down_forms v1_down_hares Q  n v0_hares v0_forms v0_many v0_first l3 → W p l e (headSpec wsX3_settle ({ frames := 0, cells := 0, slots := 0, locals := 0 })).room s m args below meth c H locs 0 0 (MQ below (va_Qv (fun (u : Int32 × Int32 × Int32 × Int32) => Q u.1 u.2.1 u.2.2.1 u.2.2.2) (cB (dC, dI) (kT cyB cyI cyJ cyP) A (fun u : Int32 × Int32 × Int32 × Int32 => ([(a0, .inr (3, [z0_seated, z0_sits, z0_fittingForms, z0_tally, .int u.1, .int u.2.1, .ref a2, .int u.2.2.1, .int u.2.2.2, z0_lookForm, z0_lookWorst])), (a1, .inr (1, [z1_row, z1_owedEach, .ref a1_down, z1_law])), (a1_down, .inr (2, [z1_down_formX, z1_down_formY, z1_down_foxX, z1_down_foxY, z1_down_seat, z1_down_strength, z1_down_debts, z1_down_near, .int v1_down_forms, .int v1_down_hares, z1_down_foxes, z1_down_safe]))] : va_W))) A) args s 0 0 A) (F0 m 39 ls []) := by
  obtain ⟨hx, hb, hr, hts, hown, hlocks, hml, hA, hK, hNw⟩ := id C0
  intro n
  induction n with
  | zero => intro H locs ls v0_hares v0_forms v0_many v0_first l3 hP hD hS hl hw; exact False.elim hw
  | succ n ih =>
    intro H locs ls v0_hares v0_forms v0_many v0_first l3 hP hD hS hl hw
    refine lv_iload_n hx hb dX3_settle_39 rfl (lv_at hl 2 rfl) ?_
    refine lv_aload_n hx hb dX3_settle_40 rfl (lv_at hl 0 rfl) ?_
    refine va_get (D := (dC, dI)) (ci := 3) (v := .int v0_forms) (C := RX3) (T := TX3) (N := 11) hx hb hts ui_X3_settle_X3 hown hK hP 0 rfl rfl 5 (by decide) (hts _ uw_X3_settle_f40) (fun _ h9 => h9) rfl dX3_settle_41 ?_
    refine lv_icmp_ge (tgt := 67) hx hb dX3_settle_44 (by decide) (fun c1 => ?_) (fun c1 => ?_)
    · have hw := hw.1 c1
      refine lv_iconst (v := 0) hx hb dX3_settle_67 (by decide) ?_
      refine lv_istore_n (lv' := [(3, .int 0), (0, .ref a0), (1, .ref a1)]) hx hb dX3_settle_68 rfl hl (by decide) rfl (fun ls hl => ?_)
      obtain ⟨n9, hw⟩ := hw
      exact kl_X3_settle_69 dC dI cyB cyI cyJ cyP a0 a1 a2 a1_down z0_seated z0_sits z0_fittingForms z0_tally r0_book z0_lookForm z0_lookWorst z1_row z1_owedEach z1_law z1_down_formX z1_down_formY z1_down_foxX z1_down_foxY z1_down_seat z1_down_strength z1_down_debts z1_down_near z1_down_foxes z1_down_safe v1_down_forms v1_down_hares Q  C0 n9 _ _ _ v0_hares v0_forms v0_many v0_first 0 hP hD hS (lv_sub hl [1, 2, 0] rfl) hw
    · have hw := hw.2 c1
      exact False.elim hw
def wq_X3_settle (v1_down_forms : Int32) (v1_down_hares : Int32) (v0_hares : Int32) (v0_forms : Int32) (v0_many : Int32) (v0_first : Int32)  (Q : Int32 → Int32 → Int32 → Int32 → Prop) : Prop := (∃ k9 : Nat, wl_X3_settle_39 v1_down_forms v1_down_hares Q  k9 v1_down_hares v1_down_forms 0 (-1) 0)
set_option maxHeartbeats 4000000 in
set_option maxRecDepth 100000 in
theorem ck_X3_settle (l : Launch) (dC : Nat → ClassId) (dI : Nat → Nat → Nat) (cyB cyI cyJ cyP : ClassId) (a0 a1 a2 a1_down : Nat) (sz : Nat) (z0_seated : Value) (z0_sits : Value) (z0_fittingForms : Value) (z0_tally : Value) (r0_book : Value) (z0_lookForm : Value) (z0_lookWorst : Value) (z1_row : Value) (z1_owedEach : Value) (z1_law : Value) (z1_down_formX : Value) (z1_down_formY : Value) (z1_down_foxX : Value) (z1_down_foxY : Value) (z1_down_seat : Value) (z1_down_strength : Value) (z1_down_debts : Value) (z1_down_near : Value) (z1_down_foxes : Value) (z1_down_safe : Value) (v1_down_forms : Int32) (v1_down_hares : Int32) (v0_hares : Int32) (v0_forms : Int32) (v0_many : Int32) (v0_first : Int32)  {Q : Int32 → Int32 → Int32 → Int32 → Prop} (hw : wq_X3_settle v1_down_forms v1_down_hares v0_hares v0_forms v0_many v0_first  Q) : Met l yX3_settle wsX3_settle ({ frames := 0, cells := 0, slots := 0, locals := 0 }) (va_Pc [.ref a0, .ref a1, .ref a2] (cPc (dC, dI) (kT cyB cyI cyJ cyP) [(a0, .inr (3, [z0_seated, z0_sits, z0_fittingForms, z0_tally, .int v0_hares, .int v0_forms, r0_book, .int v0_many, .int v0_first, z0_lookForm, z0_lookWorst])), (a1, .inr (1, [z1_row, z1_owedEach, .ref a1_down, z1_law])), (a1_down, .inr (2, [z1_down_formX, z1_down_formY, z1_down_foxX, z1_down_foxY, z1_down_seat, z1_down_strength, z1_down_debts, z1_down_near, .int v1_down_forms, .int v1_down_hares, z1_down_foxes, z1_down_safe]))] sz)) (va_Qv (fun (u : Int32 × Int32 × Int32 × Int32) => Q u.1 u.2.1 u.2.2.1 u.2.2.2) (cB (dC, dI) (kT cyB cyI cyJ cyP) (va_A [(a0, .inr (3, [z0_seated, z0_sits, z0_fittingForms, z0_tally, .int v0_hares, .int v0_forms, r0_book, .int v0_many, .int v0_first, z0_lookForm, z0_lookWorst])), (a1, .inr (1, [z1_row, z1_owedEach, .ref a1_down, z1_law])), (a1_down, .inr (2, [z1_down_formX, z1_down_formY, z1_down_foxX, z1_down_foxY, z1_down_seat, z1_down_strength, z1_down_debts, z1_down_near, .int v1_down_forms, .int v1_down_hares, z1_down_foxes, z1_down_safe]))] sz) (fun u : Int32 × Int32 × Int32 × Int32 => ([(a0, .inr (3, [z0_seated, z0_sits, z0_fittingForms, z0_tally, .int u.1, .int u.2.1, .ref a2, .int u.2.2.1, .int u.2.2.2, z0_lookForm, z0_lookWorst])), (a1, .inr (1, [z1_row, z1_owedEach, .ref a1_down, z1_law])), (a1_down, .inr (2, [z1_down_formX, z1_down_formY, z1_down_foxX, z1_down_foxY, z1_down_seat, z1_down_strength, z1_down_debts, z1_down_near, .int v1_down_forms, .int v1_down_hares, z1_down_foxes, z1_down_safe]))] : va_W))) (va_A [(a0, .inr (3, [z0_seated, z0_sits, z0_fittingForms, z0_tally, .int v0_hares, .int v0_forms, r0_book, .int v0_many, .int v0_first, z0_lookForm, z0_lookWorst])), (a1, .inr (1, [z1_row, z1_owedEach, .ref a1_down, z1_law])), (a1_down, .inr (2, [z1_down_formX, z1_down_formY, z1_down_foxX, z1_down_foxY, z1_down_seat, z1_down_strength, z1_down_debts, z1_down_near, .int v1_down_forms, .int v1_down_hares, z1_down_foxes, z1_down_safe]))] sz)) 0 0 (va_A [(a0, .inr (3, [z0_seated, z0_sits, z0_fittingForms, z0_tally, .int v0_hares, .int v0_forms, r0_book, .int v0_many, .int v0_first, z0_lookForm, z0_lookWorst])), (a1, .inr (1, [z1_row, z1_owedEach, .ref a1_down, z1_law])), (a1_down, .inr (2, [z1_down_formX, z1_down_formY, z1_down_foxX, z1_down_foxY, z1_down_seat, z1_down_strength, z1_down_debts, z1_down_near, .int v1_down_forms, .int v1_down_hares, z1_down_foxes, z1_down_safe]))] sz) := by
  refine Met.ofW (cc := cX3_settle) (maxL := 4) (ret := none) (by decide) rfl ?_
  intro p e s m args below meth c s₁ B hml hv
  obtain ⟨rfl, hsz, hP, hK, hD0, hNw⟩ := hv
  have hx := B.exec
  have hb := B.bytes
  have hr := B.returns
  have hts := atoms_spec (ws := wsX3_settle) B.pre
  have hown : s.vm.findClass RX3 = some m.cls := findClass_of_methodNamed B.named
  have hlocks := B.notSynchronized
  subst hsz
  have hD := hD0.self (sz := s.heap.size)
  generalize hAe : va_A [(a0, .inr (3, [z0_seated, z0_sits, z0_fittingForms, z0_tally, .int v0_hares, .int v0_forms, r0_book, .int v0_many, .int v0_first, z0_lookForm, z0_lookWorst])), (a1, .inr (1, [z1_row, z1_owedEach, .ref a1_down, z1_law])), (a1_down, .inr (2, [z1_down_formX, z1_down_formY, z1_down_foxX, z1_down_foxY, z1_down_seat, z1_down_strength, z1_down_debts, z1_down_near, .int v1_down_forms, .int v1_down_hares, z1_down_foxes, z1_down_safe]))] s.heap.size = A at hD ⊢
  have hA : ∀ q : Nat, s.heap.size ≤ q → A q := fun q h => by rw [← hAe]; exact Or.inr h
  have hS : va_S A s.heap s.heap [] := va_S.rf
  have hP : va_P (dC, dI) vwCl [(a0, .inr (3, [z0_seated, z0_sits, z0_fittingForms, z0_tally, .int v0_hares, .int v0_forms, r0_book, .int v0_many, .int v0_first, z0_lookForm, z0_lookWorst])), (a1, .inr (1, [z1_row, z1_owedEach, .ref a1_down, z1_law])), (a1_down, .inr (2, [z1_down_formX, z1_down_formY, z1_down_foxX, z1_down_foxY, z1_down_seat, z1_down_strength, z1_down_debts, z1_down_near, .int v1_down_forms, .int v1_down_hares, z1_down_foxes, z1_down_safe]))] s.heap := hP
  have hl := lv_entry ([.ref a0, .ref a1, .ref a2]) (n := 4) (Nat.le_of_ble_eq_true rfl)
  rw [lg_entry_eq]
  generalize (lg_sl ([.ref a0, .ref a1, .ref a2]) ++ List.replicate (4 - (lg_sl ([.ref a0, .ref a1, .ref a2])).length) Slot.unset).toArray = ls at hl ⊢
  have hl : lv_has ls 4 [(0, .ref a0), (1, .ref a1), (2, .ref a2)] := hl
  have C0 : cfx p s m _ meth c cX3_settle none wsX3_settle RX3 4 A (dC, dI) (kT cyB cyI cyJ cyP) := ⟨hx, hb, hr, hts, hown, hlocks, hml, hA, hK, hNw⟩
  clear hAe
  obtain ⟨H, hH⟩ : ∃ H, H = s.heap := ⟨_, rfl⟩
  rw [← hH] at hP ⊢
  have hS : va_S A s.heap H [] := by rw [hH]; exact va_S.rf
  have hS := hS
  refine lv_aload_n hx hb dX3_settle_0 rfl (lv_at hl 0 rfl) ?_
  refine lv_aload_n hx hb dX3_settle_1 rfl (lv_at hl 1 rfl) ?_
  refine va_get (D := (dC, dI)) (ci := 1) (v := .ref a1_down) (C := RX1) (T := TX1) (N := 4) hx hb hts ui_X3_settle_X1 hown hK hP 1 rfl rfl 2 (by decide) (hts _ uw_X3_settle_f24) (fun _ h9 => h9) rfl dX3_settle_2 ?_
  refine va_get (D := (dC, dI)) (ci := 2) (v := .int v1_down_hares) (C := RX2) (T := TX2) (N := 12) hx hb hts ui_X3_settle_X2 hown hK hP 2 rfl rfl 9 (by decide) (hts _ uw_X3_settle_f30) (fun _ h9 => h9) rfl dX3_settle_5 ?_
  refine va_put (D := (dC, dI)) (ci := 3) (v := .int v1_down_hares) (ty := .int) (C := RX3) (T := TX3) (N := 11) hx hb hts ui_X3_settle_X3 tyX3 tyX3_ok nmX3 hown hK hP hD hS 0 rfl rfl 4 (by decide) (hts _ uw_X3_settle_f36) (fun _ h9 => h9) rfl (by decide +kernel) rfl rfl (Nat.le_of_ble_eq_true rfl) dX3_settle_8 (fun H locs hP hD hS => ?_)
  have hP : va_P (dC, dI) vwCl [(a0, .inr (3, [z0_seated, z0_sits, z0_fittingForms, z0_tally, .int v1_down_hares, .int v0_forms, r0_book, .int v0_many, .int v0_first, z0_lookForm, z0_lookWorst])), (a1, .inr (1, [z1_row, z1_owedEach, .ref a1_down, z1_law])), (a1_down, .inr (2, [z1_down_formX, z1_down_formY, z1_down_foxX, z1_down_foxY, z1_down_seat, z1_down_strength, z1_down_debts, z1_down_near, .int v1_down_forms, .int v1_down_hares, z1_down_foxes, z1_down_safe]))] H := hP
  have hD : va_D A [(a0, .inr (3, [z0_seated, z0_sits, z0_fittingForms, z0_tally, .int v1_down_hares, .int v0_forms, r0_book, .int v0_many, .int v0_first, z0_lookForm, z0_lookWorst])), (a1, .inr (1, [z1_row, z1_owedEach, .ref a1_down, z1_law])), (a1_down, .inr (2, [z1_down_formX, z1_down_formY, z1_down_foxX, z1_down_foxY, z1_down_seat, z1_down_strength, z1_down_debts, z1_down_near, .int v1_down_forms, .int v1_down_hares, z1_down_foxes, z1_down_safe]))] := hD
  refine lv_aload_n hx hb dX3_settle_11 rfl (lv_at hl 0 rfl) ?_
  refine lv_aload_n hx hb dX3_settle_12 rfl (lv_at hl 1 rfl) ?_
  refine va_get (D := (dC, dI)) (ci := 1) (v := .ref a1_down) (C := RX1) (T := TX1) (N := 4) hx hb hts ui_X3_settle_X1 hown hK hP 1 rfl rfl 2 (by decide) (hts _ uw_X3_settle_f24) (fun _ h9 => h9) rfl dX3_settle_13 ?_
  refine va_get (D := (dC, dI)) (ci := 2) (v := .int v1_down_forms) (C := RX2) (T := TX2) (N := 12) hx hb hts ui_X3_settle_X2 hown hK hP 2 rfl rfl 8 (by decide) (hts _ uw_X3_settle_f37) (fun _ h9 => h9) rfl dX3_settle_16 ?_
  refine va_put (D := (dC, dI)) (ci := 3) (v := .int v1_down_forms) (ty := .int) (C := RX3) (T := TX3) (N := 11) hx hb hts ui_X3_settle_X3 tyX3 tyX3_ok nmX3 hown hK hP hD hS 0 rfl rfl 5 (by decide) (hts _ uw_X3_settle_f40) (fun _ h9 => h9) rfl (by decide +kernel) rfl rfl (Nat.le_of_ble_eq_true rfl) dX3_settle_19 (fun H locs hP hD hS => ?_)
  have hP : va_P (dC, dI) vwCl [(a0, .inr (3, [z0_seated, z0_sits, z0_fittingForms, z0_tally, .int v1_down_hares, .int v1_down_forms, r0_book, .int v0_many, .int v0_first, z0_lookForm, z0_lookWorst])), (a1, .inr (1, [z1_row, z1_owedEach, .ref a1_down, z1_law])), (a1_down, .inr (2, [z1_down_formX, z1_down_formY, z1_down_foxX, z1_down_foxY, z1_down_seat, z1_down_strength, z1_down_debts, z1_down_near, .int v1_down_forms, .int v1_down_hares, z1_down_foxes, z1_down_safe]))] H := hP
  have hD : va_D A [(a0, .inr (3, [z0_seated, z0_sits, z0_fittingForms, z0_tally, .int v1_down_hares, .int v1_down_forms, r0_book, .int v0_many, .int v0_first, z0_lookForm, z0_lookWorst])), (a1, .inr (1, [z1_row, z1_owedEach, .ref a1_down, z1_law])), (a1_down, .inr (2, [z1_down_formX, z1_down_formY, z1_down_foxX, z1_down_foxY, z1_down_seat, z1_down_strength, z1_down_debts, z1_down_near, .int v1_down_forms, .int v1_down_hares, z1_down_foxes, z1_down_safe]))] := hD
  refine lv_aload_n hx hb dX3_settle_22 rfl (lv_at hl 0 rfl) ?_
  refine lv_aload_n hx hb dX3_settle_23 rfl (lv_at hl 2 rfl) ?_
  refine va_put (D := (dC, dI)) (ci := 3) (v := .ref a2) (ty := .object "MarchHares$Book") (C := RX3) (T := TX3) (N := 11) hx hb hts ui_X3_settle_X3 tyX3 tyX3_ok nmX3 hown hK hP hD hS 0 rfl rfl 6 (by decide) (hts _ uw_X3_settle_f41) (fun _ h9 => h9) rfl (by decide +kernel) rfl rfl (Nat.le_of_ble_eq_true rfl) dX3_settle_24 (fun H locs hP hD hS => ?_)
  have hP : va_P (dC, dI) vwCl [(a0, .inr (3, [z0_seated, z0_sits, z0_fittingForms, z0_tally, .int v1_down_hares, .int v1_down_forms, .ref a2, .int v0_many, .int v0_first, z0_lookForm, z0_lookWorst])), (a1, .inr (1, [z1_row, z1_owedEach, .ref a1_down, z1_law])), (a1_down, .inr (2, [z1_down_formX, z1_down_formY, z1_down_foxX, z1_down_foxY, z1_down_seat, z1_down_strength, z1_down_debts, z1_down_near, .int v1_down_forms, .int v1_down_hares, z1_down_foxes, z1_down_safe]))] H := hP
  have hD : va_D A [(a0, .inr (3, [z0_seated, z0_sits, z0_fittingForms, z0_tally, .int v1_down_hares, .int v1_down_forms, .ref a2, .int v0_many, .int v0_first, z0_lookForm, z0_lookWorst])), (a1, .inr (1, [z1_row, z1_owedEach, .ref a1_down, z1_law])), (a1_down, .inr (2, [z1_down_formX, z1_down_formY, z1_down_foxX, z1_down_foxY, z1_down_seat, z1_down_strength, z1_down_debts, z1_down_near, .int v1_down_forms, .int v1_down_hares, z1_down_foxes, z1_down_safe]))] := hD
  refine lv_aload_n hx hb dX3_settle_27 rfl (lv_at hl 0 rfl) ?_
  refine lv_iconst (v := 0) hx hb dX3_settle_28 (by decide) ?_
  refine va_put (D := (dC, dI)) (ci := 3) (v := .int 0) (ty := .int) (C := RX3) (T := TX3) (N := 11) hx hb hts ui_X3_settle_X3 tyX3 tyX3_ok nmX3 hown hK hP hD hS 0 rfl rfl 7 (by decide) (hts _ uw_X3_settle_f45) (fun _ h9 => h9) rfl (by decide +kernel) rfl rfl (Nat.le_of_ble_eq_true rfl) dX3_settle_29 (fun H locs hP hD hS => ?_)
  have hP : va_P (dC, dI) vwCl [(a0, .inr (3, [z0_seated, z0_sits, z0_fittingForms, z0_tally, .int v1_down_hares, .int v1_down_forms, .ref a2, .int 0, .int v0_first, z0_lookForm, z0_lookWorst])), (a1, .inr (1, [z1_row, z1_owedEach, .ref a1_down, z1_law])), (a1_down, .inr (2, [z1_down_formX, z1_down_formY, z1_down_foxX, z1_down_foxY, z1_down_seat, z1_down_strength, z1_down_debts, z1_down_near, .int v1_down_forms, .int v1_down_hares, z1_down_foxes, z1_down_safe]))] H := hP
  have hD : va_D A [(a0, .inr (3, [z0_seated, z0_sits, z0_fittingForms, z0_tally, .int v1_down_hares, .int v1_down_forms, .ref a2, .int 0, .int v0_first, z0_lookForm, z0_lookWorst])), (a1, .inr (1, [z1_row, z1_owedEach, .ref a1_down, z1_law])), (a1_down, .inr (2, [z1_down_formX, z1_down_formY, z1_down_foxX, z1_down_foxY, z1_down_seat, z1_down_strength, z1_down_debts, z1_down_near, .int v1_down_forms, .int v1_down_hares, z1_down_foxes, z1_down_safe]))] := hD
  refine lv_aload_n hx hb dX3_settle_32 rfl (lv_at hl 0 rfl) ?_
  refine lv_iconst (v := (-1)) hx hb dX3_settle_33 (by decide) ?_
  refine va_put (D := (dC, dI)) (ci := 3) (v := .int (-1)) (ty := .int) (C := RX3) (T := TX3) (N := 11) hx hb hts ui_X3_settle_X3 tyX3 tyX3_ok nmX3 hown hK hP hD hS 0 rfl rfl 8 (by decide) (hts _ uw_X3_settle_f48) (fun _ h9 => h9) rfl (by decide +kernel) rfl rfl (Nat.le_of_ble_eq_true rfl) dX3_settle_34 (fun H locs hP hD hS => ?_)
  have hP : va_P (dC, dI) vwCl [(a0, .inr (3, [z0_seated, z0_sits, z0_fittingForms, z0_tally, .int v1_down_hares, .int v1_down_forms, .ref a2, .int 0, .int (-1), z0_lookForm, z0_lookWorst])), (a1, .inr (1, [z1_row, z1_owedEach, .ref a1_down, z1_law])), (a1_down, .inr (2, [z1_down_formX, z1_down_formY, z1_down_foxX, z1_down_foxY, z1_down_seat, z1_down_strength, z1_down_debts, z1_down_near, .int v1_down_forms, .int v1_down_hares, z1_down_foxes, z1_down_safe]))] H := hP
  have hD : va_D A [(a0, .inr (3, [z0_seated, z0_sits, z0_fittingForms, z0_tally, .int v1_down_hares, .int v1_down_forms, .ref a2, .int 0, .int (-1), z0_lookForm, z0_lookWorst])), (a1, .inr (1, [z1_row, z1_owedEach, .ref a1_down, z1_law])), (a1_down, .inr (2, [z1_down_formX, z1_down_formY, z1_down_foxX, z1_down_foxY, z1_down_seat, z1_down_strength, z1_down_debts, z1_down_near, .int v1_down_forms, .int v1_down_hares, z1_down_foxes, z1_down_safe]))] := hD
  refine lv_iconst (v := 0) hx hb dX3_settle_37 (by decide) ?_
  refine lv_istore_n (lv' := [(3, .int 0), (0, .ref a0), (1, .ref a1), (2, .ref a2)]) hx hb dX3_settle_38 rfl hl (by decide) rfl (fun ls hl => ?_)
  obtain ⟨n9, hw⟩ := hw
  exact kl_X3_settle_39 dC dI cyB cyI cyJ cyP a0 a1 a2 a1_down z0_seated z0_sits z0_fittingForms z0_tally r0_book z0_lookForm z0_lookWorst z1_row z1_owedEach z1_law z1_down_formX z1_down_formY z1_down_foxX z1_down_foxY z1_down_seat z1_down_strength z1_down_debts z1_down_near z1_down_foxes z1_down_safe v1_down_forms v1_down_hares Q  C0 n9 _ _ _ v1_down_hares v1_down_forms 0 (-1) 0 hP hD hS (lv_sub hl [1, 2, 0] rfl) hw
theorem ui_X10_fits_X10 : ∀ w ∈ u_ws RX10 TX10 19, w ∈ wsX10_fits := by decide +kernel
theorem ui_X10_fits_X3 : ∀ w ∈ u_ws RX3 TX3 11, w ∈ wsX10_fits := by decide +kernel
theorem uw_X10_fits_f342 : (.fieldLink RX10 342 "MarchHares$Fitting" "many" "I" : Cond) ∈ wsX10_fits := by decide +kernel
theorem uw_X10_fits_f343 : (.fieldLink RX10 343 "MarchHares$Fitting" "first" "I" : Cond) ∈ wsX10_fits := by decide +kernel
theorem uw_X10_fits_f39 : (.fieldLink RX10 39 "MarchHares" "lines" "LMarchHares$Book;" : Cond) ∈ wsX10_fits := by decide +kernel
theorem uw_X10_fits_f58 : (.fieldLink RX10 58 "MarchHares" "now" "LMarchHares$Days;" : Cond) ∈ wsX10_fits := by decide +kernel
theorem uw_X10_fits_f93 : (.fieldLink RX10 93 "MarchHares" "fitting" "LMarchHares$Fitting;" : Cond) ∈ wsX10_fits := by decide +kernel
def wq_X10_fits (a0_lines : Nat) (v0_ground_forms : Int32) (v0_ground_hares : Int32) (v0_callsIllegal : Int32) (v0_fitting_hares : Int32) (v0_fitting_forms : Int32) (v0_fitting_many : Int32) (v0_fitting_first : Int32) (r0_fitting_book : Value) (p1 : Int32) (E : String → Int32 → Int32 → Int32 → Int32 → Int32 → Value → Prop) (Q : Int32 → Int32 → Int32 → Int32 → Int32 → Int32 → Value → Prop) : Prop := wq_X10_needWithin  v0_callsIllegal p1 0 1 (fun en x1 => E en x1 v0_fitting_hares v0_fitting_forms v0_fitting_many v0_fitting_first r0_fitting_book) (fun x1 => wq_X3_settle v0_ground_forms v0_ground_hares v0_fitting_hares v0_fitting_forms v0_fitting_many v0_fitting_first  (fun x2 x3 x4 x5 => ((¬ p1 = 0 → (Q x5 x1 x2 x3 x4 x5 (.ref a0_lines))) ∧ (p1 = 0 → (Q x4 x1 x2 x3 x4 x5 (.ref a0_lines))))))
set_option maxHeartbeats 4000000 in
set_option maxRecDepth 100000 in
theorem ck_X10_fits (l : Launch) (dC : Nat → ClassId) (dI : Nat → Nat → Nat) (cyB cyI cyJ cyP : ClassId) (a0 a0_fitting a0_now a0_lines a0_ground : Nat) (sz : Nat) (z0_tape : Value) (z0_ground : Value) (z0_spareGround : Value) (z0_rule : Value) (z0_spareRule : Value) (z0_spareLines : Value) (z0_steps : Value) (z0_trial : Value) (z0_past : Value) (z0_images : Value) (z0_round : Value) (z0_seating : Value) (z0_imagesKept : Value) (z0_refusedSteps : Value) (z0_callsNoSuch : Value) (z0_fitting_seated : Value) (z0_fitting_sits : Value) (z0_fitting_fittingForms : Value) (z0_fitting_tally : Value) (z0_fitting_lookForm : Value) (z0_fitting_lookWorst : Value) (z0_now_row : Value) (z0_now_owedEach : Value) (z0_now_law : Value) (z0_ground_formX : Value) (z0_ground_formY : Value) (z0_ground_foxX : Value) (z0_ground_foxY : Value) (z0_ground_seat : Value) (z0_ground_strength : Value) (z0_ground_debts : Value) (z0_ground_near : Value) (z0_ground_foxes : Value) (z0_ground_safe : Value) (v0_ground_forms : Int32) (v0_ground_hares : Int32) (v0_callsIllegal : Int32) (v0_fitting_hares : Int32) (v0_fitting_forms : Int32) (v0_fitting_many : Int32) (v0_fitting_first : Int32) (r0_fitting_book : Value) (p1 : Int32) {E : String → Int32 → Int32 → Int32 → Int32 → Int32 → Value → Prop} {Q : Int32 → Int32 → Int32 → Int32 → Int32 → Int32 → Value → Prop} (hw : wq_X10_fits a0_lines v0_ground_forms v0_ground_hares v0_callsIllegal v0_fitting_hares v0_fitting_forms v0_fitting_many v0_fitting_first r0_fitting_book p1 E Q) : vx_Met l yX10_fits wsX10_fits ({ frames := 8, cells := 1, slots := 6, locals := 164 }) (va_Pc [.ref a0, .int p1] (cPx l (dC, dI) (kT cyB cyI cyJ cyP) [(a0, .inr (10, [z0_tape, z0_ground, z0_spareGround, z0_rule, z0_spareRule, .ref a0_lines, z0_spareLines, z0_steps, .ref a0_now, z0_trial, z0_past, z0_images, z0_round, z0_seating, .ref a0_fitting, z0_imagesKept, z0_refusedSteps, z0_callsNoSuch, .int v0_callsIllegal])), (a0_fitting, .inr (3, [z0_fitting_seated, z0_fitting_sits, z0_fitting_fittingForms, z0_fitting_tally, .int v0_fitting_hares, .int v0_fitting_forms, r0_fitting_book, .int v0_fitting_many, .int v0_fitting_first, z0_fitting_lookForm, z0_fitting_lookWorst])), (a0_now, .inr (1, [z0_now_row, z0_now_owedEach, .ref a0_ground, z0_now_law])), (a0_ground, .inr (2, [z0_ground_formX, z0_ground_formY, z0_ground_foxX, z0_ground_foxY, z0_ground_seat, z0_ground_strength, z0_ground_debts, z0_ground_near, .int v0_ground_forms, .int v0_ground_hares, z0_ground_foxes, z0_ground_safe]))] sz)) (va_Qi (fun (r : Int32) (u : Int32 × Int32 × Int32 × Int32 × Int32 × Value) => Q r u.1 u.2.1 u.2.2.1 u.2.2.2.1 u.2.2.2.2.1 u.2.2.2.2.2) (cB (dC, dI) (kT cyB cyI cyJ cyP) (va_A [(a0, .inr (10, [z0_tape, z0_ground, z0_spareGround, z0_rule, z0_spareRule, .ref a0_lines, z0_spareLines, z0_steps, .ref a0_now, z0_trial, z0_past, z0_images, z0_round, z0_seating, .ref a0_fitting, z0_imagesKept, z0_refusedSteps, z0_callsNoSuch, .int v0_callsIllegal])), (a0_fitting, .inr (3, [z0_fitting_seated, z0_fitting_sits, z0_fitting_fittingForms, z0_fitting_tally, .int v0_fitting_hares, .int v0_fitting_forms, r0_fitting_book, .int v0_fitting_many, .int v0_fitting_first, z0_fitting_lookForm, z0_fitting_lookWorst])), (a0_now, .inr (1, [z0_now_row, z0_now_owedEach, .ref a0_ground, z0_now_law])), (a0_ground, .inr (2, [z0_ground_formX, z0_ground_formY, z0_ground_foxX, z0_ground_foxY, z0_ground_seat, z0_ground_strength, z0_ground_debts, z0_ground_near, .int v0_ground_forms, .int v0_ground_hares, z0_ground_foxes, z0_ground_safe]))] sz) (fun u : Int32 × Int32 × Int32 × Int32 × Int32 × Value => ([(a0, .inr (10, [z0_tape, z0_ground, z0_spareGround, z0_rule, z0_spareRule, .ref a0_lines, z0_spareLines, z0_steps, .ref a0_now, z0_trial, z0_past, z0_images, z0_round, z0_seating, .ref a0_fitting, z0_imagesKept, z0_refusedSteps, z0_callsNoSuch, .int u.1])), (a0_fitting, .inr (3, [z0_fitting_seated, z0_fitting_sits, z0_fitting_fittingForms, z0_fitting_tally, .int u.2.1, .int u.2.2.1, u.2.2.2.2.2, .int u.2.2.2.1, .int u.2.2.2.2.1, z0_fitting_lookForm, z0_fitting_lookWorst])), (a0_now, .inr (1, [z0_now_row, z0_now_owedEach, .ref a0_ground, z0_now_law])), (a0_ground, .inr (2, [z0_ground_formX, z0_ground_formY, z0_ground_foxX, z0_ground_foxY, z0_ground_seat, z0_ground_strength, z0_ground_debts, z0_ground_near, .int v0_ground_forms, .int v0_ground_hares, z0_ground_foxes, z0_ground_safe]))] : va_W))) (va_A [(a0, .inr (10, [z0_tape, z0_ground, z0_spareGround, z0_rule, z0_spareRule, .ref a0_lines, z0_spareLines, z0_steps, .ref a0_now, z0_trial, z0_past, z0_images, z0_round, z0_seating, .ref a0_fitting, z0_imagesKept, z0_refusedSteps, z0_callsNoSuch, .int v0_callsIllegal])), (a0_fitting, .inr (3, [z0_fitting_seated, z0_fitting_sits, z0_fitting_fittingForms, z0_fitting_tally, .int v0_fitting_hares, .int v0_fitting_forms, r0_fitting_book, .int v0_fitting_many, .int v0_fitting_first, z0_fitting_lookForm, z0_fitting_lookWorst])), (a0_now, .inr (1, [z0_now_row, z0_now_owedEach, .ref a0_ground, z0_now_law])), (a0_ground, .inr (2, [z0_ground_formX, z0_ground_formY, z0_ground_foxX, z0_ground_foxY, z0_ground_seat, z0_ground_strength, z0_ground_debts, z0_ground_near, .int v0_ground_forms, .int v0_ground_hares, z0_ground_foxes, z0_ground_safe]))] sz)) (vx_X (fun _ => True) (fun (en : String) (u : Int32 × Int32 × Int32 × Int32 × Int32 × Value) (t : State) => E en u.1 u.2.1 u.2.2.1 u.2.2.2.1 u.2.2.2.2.1 u.2.2.2.2.2 ∧ cB (dC, dI) (kT cyB cyI cyJ cyP) (va_A [(a0, .inr (10, [z0_tape, z0_ground, z0_spareGround, z0_rule, z0_spareRule, .ref a0_lines, z0_spareLines, z0_steps, .ref a0_now, z0_trial, z0_past, z0_images, z0_round, z0_seating, .ref a0_fitting, z0_imagesKept, z0_refusedSteps, z0_callsNoSuch, .int v0_callsIllegal])), (a0_fitting, .inr (3, [z0_fitting_seated, z0_fitting_sits, z0_fitting_fittingForms, z0_fitting_tally, .int v0_fitting_hares, .int v0_fitting_forms, r0_fitting_book, .int v0_fitting_many, .int v0_fitting_first, z0_fitting_lookForm, z0_fitting_lookWorst])), (a0_now, .inr (1, [z0_now_row, z0_now_owedEach, .ref a0_ground, z0_now_law])), (a0_ground, .inr (2, [z0_ground_formX, z0_ground_formY, z0_ground_foxX, z0_ground_foxY, z0_ground_seat, z0_ground_strength, z0_ground_debts, z0_ground_near, .int v0_ground_forms, .int v0_ground_hares, z0_ground_foxes, z0_ground_safe]))] sz) (fun u : Int32 × Int32 × Int32 × Int32 × Int32 × Value => ([(a0, .inr (10, [z0_tape, z0_ground, z0_spareGround, z0_rule, z0_spareRule, .ref a0_lines, z0_spareLines, z0_steps, .ref a0_now, z0_trial, z0_past, z0_images, z0_round, z0_seating, .ref a0_fitting, z0_imagesKept, z0_refusedSteps, z0_callsNoSuch, .int u.1])), (a0_fitting, .inr (3, [z0_fitting_seated, z0_fitting_sits, z0_fitting_fittingForms, z0_fitting_tally, .int u.2.1, .int u.2.2.1, u.2.2.2.2.2, .int u.2.2.2.1, .int u.2.2.2.2.1, z0_fitting_lookForm, z0_fitting_lookWorst])), (a0_now, .inr (1, [z0_now_row, z0_now_owedEach, .ref a0_ground, z0_now_law])), (a0_ground, .inr (2, [z0_ground_formX, z0_ground_formY, z0_ground_foxX, z0_ground_foxY, z0_ground_seat, z0_ground_strength, z0_ground_debts, z0_ground_near, .int v0_ground_forms, .int v0_ground_hares, z0_ground_foxes, z0_ground_safe]))] : va_W)) u t) (va_A [(a0, .inr (10, [z0_tape, z0_ground, z0_spareGround, z0_rule, z0_spareRule, .ref a0_lines, z0_spareLines, z0_steps, .ref a0_now, z0_trial, z0_past, z0_images, z0_round, z0_seating, .ref a0_fitting, z0_imagesKept, z0_refusedSteps, z0_callsNoSuch, .int v0_callsIllegal])), (a0_fitting, .inr (3, [z0_fitting_seated, z0_fitting_sits, z0_fitting_fittingForms, z0_fitting_tally, .int v0_fitting_hares, .int v0_fitting_forms, r0_fitting_book, .int v0_fitting_many, .int v0_fitting_first, z0_fitting_lookForm, z0_fitting_lookWorst])), (a0_now, .inr (1, [z0_now_row, z0_now_owedEach, .ref a0_ground, z0_now_law])), (a0_ground, .inr (2, [z0_ground_formX, z0_ground_formY, z0_ground_foxX, z0_ground_foxY, z0_ground_seat, z0_ground_strength, z0_ground_debts, z0_ground_near, .int v0_ground_forms, .int v0_ground_hares, z0_ground_foxes, z0_ground_safe]))] sz)) 1 6 (va_A [(a0, .inr (10, [z0_tape, z0_ground, z0_spareGround, z0_rule, z0_spareRule, .ref a0_lines, z0_spareLines, z0_steps, .ref a0_now, z0_trial, z0_past, z0_images, z0_round, z0_seating, .ref a0_fitting, z0_imagesKept, z0_refusedSteps, z0_callsNoSuch, .int v0_callsIllegal])), (a0_fitting, .inr (3, [z0_fitting_seated, z0_fitting_sits, z0_fitting_fittingForms, z0_fitting_tally, .int v0_fitting_hares, .int v0_fitting_forms, r0_fitting_book, .int v0_fitting_many, .int v0_fitting_first, z0_fitting_lookForm, z0_fitting_lookWorst])), (a0_now, .inr (1, [z0_now_row, z0_now_owedEach, .ref a0_ground, z0_now_law])), (a0_ground, .inr (2, [z0_ground_formX, z0_ground_formY, z0_ground_foxX, z0_ground_foxY, z0_ground_seat, z0_ground_strength, z0_ground_debts, z0_ground_near, .int v0_ground_forms, .int v0_ground_hares, z0_ground_foxes, z0_ground_safe]))] sz) := by
  refine vx_ofW (cc := cX10_fits) (maxL := 2) (ret := (some .int)) (by decide) rfl ?_
  intro p e s m args below meth c s₁ B hml hnt hv
  obtain ⟨rfl, hsz, hP, hK, hD0, hNw, hXl, hXu, hXn, hXt⟩ := hv
  have hx := B.exec
  have hb := B.bytes
  have hr := B.returns
  have hts := atoms_spec (ws := wsX10_fits) B.pre
  have hown : s.vm.findClass RX10 = some m.cls := findClass_of_methodNamed B.named
  have hlocks := B.notSynchronized
  subst hsz
  have hD := hD0.self (sz := s.heap.size)
  generalize hAe : va_A [(a0, .inr (10, [z0_tape, z0_ground, z0_spareGround, z0_rule, z0_spareRule, .ref a0_lines, z0_spareLines, z0_steps, .ref a0_now, z0_trial, z0_past, z0_images, z0_round, z0_seating, .ref a0_fitting, z0_imagesKept, z0_refusedSteps, z0_callsNoSuch, .int v0_callsIllegal])), (a0_fitting, .inr (3, [z0_fitting_seated, z0_fitting_sits, z0_fitting_fittingForms, z0_fitting_tally, .int v0_fitting_hares, .int v0_fitting_forms, r0_fitting_book, .int v0_fitting_many, .int v0_fitting_first, z0_fitting_lookForm, z0_fitting_lookWorst])), (a0_now, .inr (1, [z0_now_row, z0_now_owedEach, .ref a0_ground, z0_now_law])), (a0_ground, .inr (2, [z0_ground_formX, z0_ground_formY, z0_ground_foxX, z0_ground_foxY, z0_ground_seat, z0_ground_strength, z0_ground_debts, z0_ground_near, .int v0_ground_forms, .int v0_ground_hares, z0_ground_foxes, z0_ground_safe]))] s.heap.size = A at hD hXu hXn ⊢
  have hA : ∀ q : Nat, s.heap.size ≤ q → A q := fun q h => by rw [← hAe]; exact Or.inr h
  have hS : va_S A s.heap s.heap [] := va_S.rf
  have hP : va_P (dC, dI) vwCl [(a0, .inr (10, [z0_tape, z0_ground, z0_spareGround, z0_rule, z0_spareRule, .ref a0_lines, z0_spareLines, z0_steps, .ref a0_now, z0_trial, z0_past, z0_images, z0_round, z0_seating, .ref a0_fitting, z0_imagesKept, z0_refusedSteps, z0_callsNoSuch, .int v0_callsIllegal])), (a0_fitting, .inr (3, [z0_fitting_seated, z0_fitting_sits, z0_fitting_fittingForms, z0_fitting_tally, .int v0_fitting_hares, .int v0_fitting_forms, r0_fitting_book, .int v0_fitting_many, .int v0_fitting_first, z0_fitting_lookForm, z0_fitting_lookWorst])), (a0_now, .inr (1, [z0_now_row, z0_now_owedEach, .ref a0_ground, z0_now_law])), (a0_ground, .inr (2, [z0_ground_formX, z0_ground_formY, z0_ground_foxX, z0_ground_foxY, z0_ground_seat, z0_ground_strength, z0_ground_debts, z0_ground_near, .int v0_ground_forms, .int v0_ground_hares, z0_ground_foxes, z0_ground_safe]))] s.heap := hP
  have hl := lv_entry ([.ref a0, .int p1]) (n := 2) (Nat.le_of_ble_eq_true rfl)
  rw [lg_entry_eq]
  generalize (lg_sl ([.ref a0, .int p1]) ++ List.replicate (2 - (lg_sl ([.ref a0, .int p1])).length) Slot.unset).toArray = ls at hl ⊢
  have hl : lv_has ls 2 [(0, .ref a0), (1, .int p1)] := hl
  have hY : cfY l s A := ⟨hXl, hXu, hXn, hXt⟩
  have hXs : cfX l s c A := ⟨hnt, hY⟩
  have C0 : cfx p s m _ meth c cX10_fits (some .int) wsX10_fits RX10 2 A (dC, dI) (kT cyB cyI cyJ cyP) ∧ cfX l s c A := ⟨⟨hx, hb, hr, hts, hown, hlocks, hml, hA, hK, hNw⟩, hXs⟩
  clear hAe
  obtain ⟨H, hH⟩ : ∃ H, H = s.heap := ⟨_, rfl⟩
  rw [← hH] at hP ⊢
  have hS : va_S A s.heap H [] := by rw [hH]; exact va_S.rf
  have hS := hS
  refine lv_aload_n hx hb dX10_fits_0 rfl (lv_at hl 0 rfl) ?_
  refine lv_iload_n hx hb dX10_fits_1 rfl (lv_at hl 1 rfl) ?_
  refine lv_iconst (v := 0) hx hb dX10_fits_2 (by decide) ?_
  refine lv_iconst (v := 1) hx hb dX10_fits_3 (by decide) ?_
  have hPc := hP.sub (ws' := [(a0, .inr (10, [z0_tape, z0_ground, z0_spareGround, z0_rule, z0_spareRule, .ref a0_lines, z0_spareLines, z0_steps, .ref a0_now, z0_trial, z0_past, z0_images, z0_round, z0_seating, .ref a0_fitting, z0_imagesKept, z0_refusedSteps, z0_callsNoSuch, .int v0_callsIllegal]))]) [0] rfl
  have hDc := hD.sub (ws' := [(a0, .inr (10, [z0_tape, z0_ground, z0_spareGround, z0_rule, z0_spareRule, .ref a0_lines, z0_spareLines, z0_steps, .ref a0_now, z0_trial, z0_past, z0_images, z0_round, z0_seating, .ref a0_fitting, z0_imagesKept, z0_refusedSteps, z0_callsNoSuch, .int v0_callsIllegal]))]) [0] (by decide) rfl
  have hFc := va_free (wc := [(a0, .inr (10, [z0_tape, z0_ground, z0_spareGround, z0_rule, z0_spareRule, .ref a0_lines, z0_spareLines, z0_steps, .ref a0_now, z0_trial, z0_past, z0_images, z0_round, z0_seating, .ref a0_fitting, z0_imagesKept, z0_refusedSteps, z0_callsNoSuch, .int v0_callsIllegal]))]) hD hS hA [0] rfl
  refine vx_callv (vx_runV (As := [.int p1, .int 0, .int 1]) (rest := []) ⟨hx, hb, hml, hown, hts⟩ (ck_X10_needWithin l dC dI cyB cyI cyJ cyP a0 H.size (z0_tape) (z0_ground) (z0_spareGround) (z0_rule) (z0_spareRule) (.ref a0_lines) (z0_spareLines) (z0_steps) (.ref a0_now) (z0_trial) (z0_past) (z0_images) (z0_round) (z0_seating) (.ref a0_fitting) (z0_imagesKept) (z0_refusedSteps) (z0_callsNoSuch)  v0_callsIllegal p1 0 1 hw) (cwV 3 hts gX10_fits_X10_needWithin rfl rfl rfl (by decide +kernel) ⟨Nat.le_of_ble_eq_true rfl, Nat.le_of_ble_eq_true rfl⟩) ⟨cPx_blind, va_recv hK hPc (ci := 10) (q0 := 0) rfl rfl, cPx_pre hPc hK hDc hNw hY hS hFc⟩ rfl rfl hl.1 rfl (lv_room (Nat.le_of_ble_eq_true rfl)) dX10_fits_4 ⟨Nat.le_of_ble_eq_true rfl, Nat.le_of_ble_eq_true rfl⟩) hS (fun q _ h => hFc q h) hFc (fun q _ h => hFc q h) (fun en ce q9 u t H1 locs ht hvm hpx hB hz1 hk1 hS hc9 hv9 hcl9 => ?_) (fun u t H1 locs ht hvm hw hB hz1 hk1 hS => ?_)
  · obtain ⟨x1, rfl⟩ : ∃ z, z = u := ⟨_, rfl⟩
    obtain ⟨hw, hP1, hK1, hD1⟩ := hB
    rw [ht] at hP1
    obtain ⟨hP, hD⟩ := va_join (wr := [(a0_fitting, .inr (3, [z0_fitting_seated, z0_fitting_sits, z0_fitting_fittingForms, z0_fitting_tally, .int v0_fitting_hares, .int v0_fitting_forms, r0_fitting_book, .int v0_fitting_many, .int v0_fitting_first, z0_fitting_lookForm, z0_fitting_lookWorst])), (a0_now, .inr (1, [z0_now_row, z0_now_owedEach, .ref a0_ground, z0_now_law])), (a0_ground, .inr (2, [z0_ground_formX, z0_ground_formY, z0_ground_foxX, z0_ground_foxY, z0_ground_seat, z0_ground_strength, z0_ground_debts, z0_ground_near, .int v0_ground_forms, .int v0_ground_hares, z0_ground_foxes, z0_ground_safe]))]) (w1 := [(a0, .inr (10, [z0_tape, z0_ground, z0_spareGround, z0_rule, z0_spareRule, .ref a0_lines, z0_spareLines, z0_steps, .ref a0_now, z0_trial, z0_past, z0_images, z0_round, z0_seating, .ref a0_fitting, z0_imagesKept, z0_refusedSteps, z0_callsNoSuch, .int x1]))]) hP hD [0] [1, 2, 3] rfl rfl (by decide) (by decide) hk1 hFc hP1 hD1
    have hP : va_P (dC, dI) vwCl [(a0, .inr (10, [z0_tape, z0_ground, z0_spareGround, z0_rule, z0_spareRule, .ref a0_lines, z0_spareLines, z0_steps, .ref a0_now, z0_trial, z0_past, z0_images, z0_round, z0_seating, .ref a0_fitting, z0_imagesKept, z0_refusedSteps, z0_callsNoSuch, .int x1])), (a0_fitting, .inr (3, [z0_fitting_seated, z0_fitting_sits, z0_fitting_fittingForms, z0_fitting_tally, .int v0_fitting_hares, .int v0_fitting_forms, r0_fitting_book, .int v0_fitting_many, .int v0_fitting_first, z0_fitting_lookForm, z0_fitting_lookWorst])), (a0_now, .inr (1, [z0_now_row, z0_now_owedEach, .ref a0_ground, z0_now_law])), (a0_ground, .inr (2, [z0_ground_formX, z0_ground_formY, z0_ground_foxX, z0_ground_foxY, z0_ground_seat, z0_ground_strength, z0_ground_debts, z0_ground_near, .int v0_ground_forms, .int v0_ground_hares, z0_ground_foxes, z0_ground_safe]))] H1 := hP.sub [3, 0, 1, 2] rfl
    have hD : va_D A [(a0, .inr (10, [z0_tape, z0_ground, z0_spareGround, z0_rule, z0_spareRule, .ref a0_lines, z0_spareLines, z0_steps, .ref a0_now, z0_trial, z0_past, z0_images, z0_round, z0_seating, .ref a0_fitting, z0_imagesKept, z0_refusedSteps, z0_callsNoSuch, .int x1])), (a0_fitting, .inr (3, [z0_fitting_seated, z0_fitting_sits, z0_fitting_fittingForms, z0_fitting_tally, .int v0_fitting_hares, .int v0_fitting_forms, r0_fitting_book, .int v0_fitting_many, .int v0_fitting_first, z0_fitting_lookForm, z0_fitting_lookWorst])), (a0_now, .inr (1, [z0_now_row, z0_now_owedEach, .ref a0_ground, z0_now_law])), (a0_ground, .inr (2, [z0_ground_formX, z0_ground_formY, z0_ground_foxX, z0_ground_foxY, z0_ground_seat, z0_ground_strength, z0_ground_debts, z0_ground_near, .int v0_ground_forms, .int v0_ground_hares, z0_ground_foxes, z0_ground_safe]))] := hD.sub [3, 0, 1, 2] (by decide) rfl
    generalize H1 = H at hP hS hc9 ⊢
    exact vx_out (fun x hx9 => (hXs.1 x hx9).elim) hlocks hc9 hv9 hcl9 (fun t2 ht2 hal2 => ⟨(x1, v0_fitting_hares, v0_fitting_forms, v0_fitting_many, v0_fitting_first, r0_fitting_book), trivial, ⟨hw, by rw [ht2]; exact hP, va_K.moved hal2 hK, hD⟩, hS.F ht2⟩) hS.2.2 (Nat.le_of_ble_eq_true rfl) (Nat.le_of_ble_eq_true rfl)
  obtain ⟨x1, rfl⟩ : ∃ z, z = u := ⟨_, rfl⟩
  obtain ⟨hP1, hK1, hD1⟩ := hB
  rw [ht] at hP1
  obtain ⟨hP, hD⟩ := va_join (wr := [(a0_fitting, .inr (3, [z0_fitting_seated, z0_fitting_sits, z0_fitting_fittingForms, z0_fitting_tally, .int v0_fitting_hares, .int v0_fitting_forms, r0_fitting_book, .int v0_fitting_many, .int v0_fitting_first, z0_fitting_lookForm, z0_fitting_lookWorst])), (a0_now, .inr (1, [z0_now_row, z0_now_owedEach, .ref a0_ground, z0_now_law])), (a0_ground, .inr (2, [z0_ground_formX, z0_ground_formY, z0_ground_foxX, z0_ground_foxY, z0_ground_seat, z0_ground_strength, z0_ground_debts, z0_ground_near, .int v0_ground_forms, .int v0_ground_hares, z0_ground_foxes, z0_ground_safe]))]) (w1 := [(a0, .inr (10, [z0_tape, z0_ground, z0_spareGround, z0_rule, z0_spareRule, .ref a0_lines, z0_spareLines, z0_steps, .ref a0_now, z0_trial, z0_past, z0_images, z0_round, z0_seating, .ref a0_fitting, z0_imagesKept, z0_refusedSteps, z0_callsNoSuch, .int x1]))]) hP hD [0] [1, 2, 3] rfl rfl (by decide) (by decide) hk1 hFc hP1 hD1
  have hP : va_P (dC, dI) vwCl [(a0, .inr (10, [z0_tape, z0_ground, z0_spareGround, z0_rule, z0_spareRule, .ref a0_lines, z0_spareLines, z0_steps, .ref a0_now, z0_trial, z0_past, z0_images, z0_round, z0_seating, .ref a0_fitting, z0_imagesKept, z0_refusedSteps, z0_callsNoSuch, .int x1])), (a0_fitting, .inr (3, [z0_fitting_seated, z0_fitting_sits, z0_fitting_fittingForms, z0_fitting_tally, .int v0_fitting_hares, .int v0_fitting_forms, r0_fitting_book, .int v0_fitting_many, .int v0_fitting_first, z0_fitting_lookForm, z0_fitting_lookWorst])), (a0_now, .inr (1, [z0_now_row, z0_now_owedEach, .ref a0_ground, z0_now_law])), (a0_ground, .inr (2, [z0_ground_formX, z0_ground_formY, z0_ground_foxX, z0_ground_foxY, z0_ground_seat, z0_ground_strength, z0_ground_debts, z0_ground_near, .int v0_ground_forms, .int v0_ground_hares, z0_ground_foxes, z0_ground_safe]))] H1 := hP.sub [3, 0, 1, 2] rfl
  have hD : va_D A [(a0, .inr (10, [z0_tape, z0_ground, z0_spareGround, z0_rule, z0_spareRule, .ref a0_lines, z0_spareLines, z0_steps, .ref a0_now, z0_trial, z0_past, z0_images, z0_round, z0_seating, .ref a0_fitting, z0_imagesKept, z0_refusedSteps, z0_callsNoSuch, .int x1])), (a0_fitting, .inr (3, [z0_fitting_seated, z0_fitting_sits, z0_fitting_fittingForms, z0_fitting_tally, .int v0_fitting_hares, .int v0_fitting_forms, r0_fitting_book, .int v0_fitting_many, .int v0_fitting_first, z0_fitting_lookForm, z0_fitting_lookWorst])), (a0_now, .inr (1, [z0_now_row, z0_now_owedEach, .ref a0_ground, z0_now_law])), (a0_ground, .inr (2, [z0_ground_formX, z0_ground_formY, z0_ground_foxX, z0_ground_foxY, z0_ground_seat, z0_ground_strength, z0_ground_debts, z0_ground_near, .int v0_ground_forms, .int v0_ground_hares, z0_ground_foxes, z0_ground_safe]))] := hD.sub [3, 0, 1, 2] (by decide) rfl
  generalize H1 = H at hP hS ⊢
  refine lv_aload_n hx hb dX10_fits_7 rfl (lv_at hl 0 rfl) ?_
  refine va_get (D := (dC, dI)) (ci := 10) (v := .ref a0_fitting) (C := RX10) (T := TX10) (N := 19) hx hb hts ui_X10_fits_X10 hown hK hP 0 rfl rfl 14 (by decide) (hts _ uw_X10_fits_f93) (fun _ h9 => h9) rfl dX10_fits_8 ?_
  refine lv_aload_n hx hb dX10_fits_11 rfl (lv_at hl 0 rfl) ?_
  refine va_get (D := (dC, dI)) (ci := 10) (v := .ref a0_now) (C := RX10) (T := TX10) (N := 19) hx hb hts ui_X10_fits_X10 hown hK hP 0 rfl rfl 8 (by decide) (hts _ uw_X10_fits_f58) (fun _ h9 => h9) rfl dX10_fits_12 ?_
  refine lv_aload_n hx hb dX10_fits_15 rfl (lv_at hl 0 rfl) ?_
  refine va_get (D := (dC, dI)) (ci := 10) (v := .ref a0_lines) (C := RX10) (T := TX10) (N := 19) hx hb hts ui_X10_fits_X10 hown hK hP 0 rfl rfl 5 (by decide) (hts _ uw_X10_fits_f39) (fun _ h9 => h9) rfl dX10_fits_16 ?_
  have hPc := hP.sub (ws' := [(a0_fitting, .inr (3, [z0_fitting_seated, z0_fitting_sits, z0_fitting_fittingForms, z0_fitting_tally, .int v0_fitting_hares, .int v0_fitting_forms, r0_fitting_book, .int v0_fitting_many, .int v0_fitting_first, z0_fitting_lookForm, z0_fitting_lookWorst])), (a0_now, .inr (1, [z0_now_row, z0_now_owedEach, .ref a0_ground, z0_now_law])), (a0_ground, .inr (2, [z0_ground_formX, z0_ground_formY, z0_ground_foxX, z0_ground_foxY, z0_ground_seat, z0_ground_strength, z0_ground_debts, z0_ground_near, .int v0_ground_forms, .int v0_ground_hares, z0_ground_foxes, z0_ground_safe]))]) [1, 2, 3] rfl
  have hDc := hD.sub (ws' := [(a0_fitting, .inr (3, [z0_fitting_seated, z0_fitting_sits, z0_fitting_fittingForms, z0_fitting_tally, .int v0_fitting_hares, .int v0_fitting_forms, r0_fitting_book, .int v0_fitting_many, .int v0_fitting_first, z0_fitting_lookForm, z0_fitting_lookWorst])), (a0_now, .inr (1, [z0_now_row, z0_now_owedEach, .ref a0_ground, z0_now_law])), (a0_ground, .inr (2, [z0_ground_formX, z0_ground_formY, z0_ground_foxX, z0_ground_foxY, z0_ground_seat, z0_ground_strength, z0_ground_debts, z0_ground_near, .int v0_ground_forms, .int v0_ground_hares, z0_ground_foxes, z0_ground_safe]))]) [1, 2, 3] (by decide) rfl
  have hFc := va_free (wc := [(a0_fitting, .inr (3, [z0_fitting_seated, z0_fitting_sits, z0_fitting_fittingForms, z0_fitting_tally, .int v0_fitting_hares, .int v0_fitting_forms, r0_fitting_book, .int v0_fitting_many, .int v0_fitting_first, z0_fitting_lookForm, z0_fitting_lookWorst])), (a0_now, .inr (1, [z0_now_row, z0_now_owedEach, .ref a0_ground, z0_now_law])), (a0_ground, .inr (2, [z0_ground_formX, z0_ground_formY, z0_ground_foxX, z0_ground_foxY, z0_ground_seat, z0_ground_strength, z0_ground_debts, z0_ground_near, .int v0_ground_forms, .int v0_ground_hares, z0_ground_foxes, z0_ground_safe]))]) hD hS hA [1, 2, 3] rfl
  refine va_callv (va_runV (As := [.ref a0_now, .ref a0_lines]) (rest := []) ⟨hx, hb, hml, hown, hts⟩ (ck_X3_settle l dC dI cyB cyI cyJ cyP a0_fitting a0_now a0_lines a0_ground H.size (z0_fitting_seated) (z0_fitting_sits) (z0_fitting_fittingForms) (z0_fitting_tally) (r0_fitting_book) (z0_fitting_lookForm) (z0_fitting_lookWorst) (z0_now_row) (z0_now_owedEach) (z0_now_law) (z0_ground_formX) (z0_ground_formY) (z0_ground_foxX) (z0_ground_foxY) (z0_ground_seat) (z0_ground_strength) (z0_ground_debts) (z0_ground_near) (z0_ground_foxes) (z0_ground_safe) v0_ground_forms v0_ground_hares v0_fitting_hares v0_fitting_forms v0_fitting_many v0_fitting_first  hw) (cwV 2 hts gX10_fits_X3_settle rfl rfl rfl (by decide +kernel) ⟨Nat.le_of_ble_eq_true rfl, Nat.le_of_ble_eq_true rfl⟩) ⟨cPc_blind, va_recv hK hPc (ci := 3) (q0 := 0) rfl rfl, cPc_pre hPc hK hDc hNw⟩ rfl rfl hl.1 rfl (lv_room (Nat.le_of_ble_eq_true rfl)) dX10_fits_19 ⟨Nat.le_of_ble_eq_true rfl, Nat.le_of_ble_eq_true rfl⟩) hS (fun q _ h => hFc q h) hFc (fun u t H1 locs ht hvm hw hB hz1 hk1 hS => ?_)
  obtain ⟨x2, x3, x4, x5⟩ := u
  obtain ⟨hP1, hK1, hD1⟩ := hB
  rw [ht] at hP1
  obtain ⟨hP, hD⟩ := va_join (wr := [(a0, .inr (10, [z0_tape, z0_ground, z0_spareGround, z0_rule, z0_spareRule, .ref a0_lines, z0_spareLines, z0_steps, .ref a0_now, z0_trial, z0_past, z0_images, z0_round, z0_seating, .ref a0_fitting, z0_imagesKept, z0_refusedSteps, z0_callsNoSuch, .int x1]))]) (w1 := [(a0_fitting, .inr (3, [z0_fitting_seated, z0_fitting_sits, z0_fitting_fittingForms, z0_fitting_tally, .int x2, .int x3, .ref a0_lines, .int x4, .int x5, z0_fitting_lookForm, z0_fitting_lookWorst])), (a0_now, .inr (1, [z0_now_row, z0_now_owedEach, .ref a0_ground, z0_now_law])), (a0_ground, .inr (2, [z0_ground_formX, z0_ground_formY, z0_ground_foxX, z0_ground_foxY, z0_ground_seat, z0_ground_strength, z0_ground_debts, z0_ground_near, .int v0_ground_forms, .int v0_ground_hares, z0_ground_foxes, z0_ground_safe]))]) hP hD [1, 2, 3] [0] rfl rfl (by decide) (by decide) hk1 hFc hP1 hD1
  have hP : va_P (dC, dI) vwCl [(a0, .inr (10, [z0_tape, z0_ground, z0_spareGround, z0_rule, z0_spareRule, .ref a0_lines, z0_spareLines, z0_steps, .ref a0_now, z0_trial, z0_past, z0_images, z0_round, z0_seating, .ref a0_fitting, z0_imagesKept, z0_refusedSteps, z0_callsNoSuch, .int x1])), (a0_fitting, .inr (3, [z0_fitting_seated, z0_fitting_sits, z0_fitting_fittingForms, z0_fitting_tally, .int x2, .int x3, .ref a0_lines, .int x4, .int x5, z0_fitting_lookForm, z0_fitting_lookWorst])), (a0_now, .inr (1, [z0_now_row, z0_now_owedEach, .ref a0_ground, z0_now_law])), (a0_ground, .inr (2, [z0_ground_formX, z0_ground_formY, z0_ground_foxX, z0_ground_foxY, z0_ground_seat, z0_ground_strength, z0_ground_debts, z0_ground_near, .int v0_ground_forms, .int v0_ground_hares, z0_ground_foxes, z0_ground_safe]))] H1 := hP
  have hD : va_D A [(a0, .inr (10, [z0_tape, z0_ground, z0_spareGround, z0_rule, z0_spareRule, .ref a0_lines, z0_spareLines, z0_steps, .ref a0_now, z0_trial, z0_past, z0_images, z0_round, z0_seating, .ref a0_fitting, z0_imagesKept, z0_refusedSteps, z0_callsNoSuch, .int x1])), (a0_fitting, .inr (3, [z0_fitting_seated, z0_fitting_sits, z0_fitting_fittingForms, z0_fitting_tally, .int x2, .int x3, .ref a0_lines, .int x4, .int x5, z0_fitting_lookForm, z0_fitting_lookWorst])), (a0_now, .inr (1, [z0_now_row, z0_now_owedEach, .ref a0_ground, z0_now_law])), (a0_ground, .inr (2, [z0_ground_formX, z0_ground_formY, z0_ground_foxX, z0_ground_foxY, z0_ground_seat, z0_ground_strength, z0_ground_debts, z0_ground_near, .int v0_ground_forms, .int v0_ground_hares, z0_ground_foxes, z0_ground_safe]))] := hD
  generalize H1 = H at hP hS ⊢
  refine lv_iload_n hx hb dX10_fits_22 rfl (lv_at hl 1 rfl) ?_
  refine lv_if_ne (tgt := 36) hx hb dX10_fits_23 (by decide) (fun c6 => ?_) (fun c6 => ?_)
  · have hw := hw.1 c6
    refine lv_aload_n hx hb dX10_fits_36 rfl (lv_at hl 0 rfl) ?_
    refine va_get (D := (dC, dI)) (ci := 10) (v := .ref a0_fitting) (C := RX10) (T := TX10) (N := 19) hx hb hts ui_X10_fits_X10 hown hK hP 0 rfl rfl 14 (by decide) (hts _ uw_X10_fits_f93) (fun _ h9 => h9) rfl dX10_fits_37 ?_
    refine va_get (D := (dC, dI)) (ci := 3) (v := .int x5) (C := RX3) (T := TX3) (N := 11) hx hb hts ui_X10_fits_X3 hown hK hP 1 rfl rfl 8 (by decide) (hts _ uw_X10_fits_f343) (fun _ h9 => h9) rfl dX10_fits_40 ?_
    exact vx_ret (W.widen (k := 1) (n := 6) (Nat.le_of_ble_eq_true rfl) (Nat.le_of_ble_eq_true rfl) (W.iret (v := x5) hx hb hr (fun t ht hW => ⟨⟨x5, (x1, x2, x3, x4, x5, (.ref a0_lines)), rfl, hw, by rw [ht]; exact hP, va_K.moved hW.alike hK, hD⟩, hS.F ht⟩) hS.2.2 dX10_fits_43))
  · have hw := hw.2 c6
    refine lv_aload_n hx hb dX10_fits_26 rfl (lv_at hl 0 rfl) ?_
    refine va_get (D := (dC, dI)) (ci := 10) (v := .ref a0_fitting) (C := RX10) (T := TX10) (N := 19) hx hb hts ui_X10_fits_X10 hown hK hP 0 rfl rfl 14 (by decide) (hts _ uw_X10_fits_f93) (fun _ h9 => h9) rfl dX10_fits_27 ?_
    refine va_get (D := (dC, dI)) (ci := 3) (v := .int x4) (C := RX3) (T := TX3) (N := 11) hx hb hts ui_X10_fits_X3 hown hK hP 1 rfl rfl 7 (by decide) (hts _ uw_X10_fits_f342) (fun _ h9 => h9) rfl dX10_fits_30 ?_
    refine lv_goto (tgt := 43) hx hb dX10_fits_33 (by decide) ?_
    exact vx_ret (W.widen (k := 1) (n := 6) (Nat.le_of_ble_eq_true rfl) (Nat.le_of_ble_eq_true rfl) (W.iret (v := x4) hx hb hr (fun t ht hW => ⟨⟨x4, (x1, x2, x3, x4, x5, (.ref a0_lines)), rfl, hw, by rw [ht]; exact hP, va_K.moved hW.alike hK, hD⟩, hS.F ht⟩) hS.2.2 dX10_fits_43))
def wq_X10_form (v0_ground_forms : Int32) (v0_callsNoSuch : Int32) (p1 : Int32) (p2 : Int32) (E : String → Int32 → Prop) (Q : Int32 → Int32 → Prop) : Prop := wq_X10_needForm v0_ground_forms v0_callsNoSuch p1 (fun en x1 => E en x1) (fun x1 => False)
set_option maxHeartbeats 4000000 in
set_option maxRecDepth 100000 in
theorem ck_X10_form (l : Launch) (dC : Nat → ClassId) (dI : Nat → Nat → Nat) (cyB cyI cyJ cyP : ClassId) (a0 a0_ground : Nat) (sz : Nat) (z0_tape : Value) (z0_spareGround : Value) (z0_rule : Value) (z0_spareRule : Value) (z0_lines : Value) (z0_spareLines : Value) (z0_steps : Value) (z0_now : Value) (z0_trial : Value) (z0_past : Value) (z0_images : Value) (z0_round : Value) (z0_seating : Value) (z0_fitting : Value) (z0_imagesKept : Value) (z0_refusedSteps : Value) (z0_callsIllegal : Value) (z0_ground_formX : Value) (z0_ground_formY : Value) (z0_ground_foxX : Value) (z0_ground_foxY : Value) (z0_ground_seat : Value) (z0_ground_strength : Value) (z0_ground_debts : Value) (z0_ground_near : Value) (z0_ground_hares : Value) (z0_ground_foxes : Value) (z0_ground_safe : Value) (v0_ground_forms : Int32) (v0_callsNoSuch : Int32) (p1 : Int32) (p2 : Int32) {E : String → Int32 → Prop} {Q : Int32 → Int32 → Prop} (hw : wq_X10_form v0_ground_forms v0_callsNoSuch p1 p2 E Q) : vx_Met l yX10_form wsX10_form ({ frames := 7, cells := 1, slots := 6, locals := 141 }) (va_Pc [.ref a0, .int p1, .int p2] (cPx l (dC, dI) (kT cyB cyI cyJ cyP) [(a0, .inr (10, [z0_tape, .ref a0_ground, z0_spareGround, z0_rule, z0_spareRule, z0_lines, z0_spareLines, z0_steps, z0_now, z0_trial, z0_past, z0_images, z0_round, z0_seating, z0_fitting, z0_imagesKept, z0_refusedSteps, .int v0_callsNoSuch, z0_callsIllegal])), (a0_ground, .inr (2, [z0_ground_formX, z0_ground_formY, z0_ground_foxX, z0_ground_foxY, z0_ground_seat, z0_ground_strength, z0_ground_debts, z0_ground_near, .int v0_ground_forms, z0_ground_hares, z0_ground_foxes, z0_ground_safe]))] sz)) (va_Qi (fun (r : Int32) (u : Int32) => Q r u) (cB (dC, dI) (kT cyB cyI cyJ cyP) (va_A [(a0, .inr (10, [z0_tape, .ref a0_ground, z0_spareGround, z0_rule, z0_spareRule, z0_lines, z0_spareLines, z0_steps, z0_now, z0_trial, z0_past, z0_images, z0_round, z0_seating, z0_fitting, z0_imagesKept, z0_refusedSteps, .int v0_callsNoSuch, z0_callsIllegal])), (a0_ground, .inr (2, [z0_ground_formX, z0_ground_formY, z0_ground_foxX, z0_ground_foxY, z0_ground_seat, z0_ground_strength, z0_ground_debts, z0_ground_near, .int v0_ground_forms, z0_ground_hares, z0_ground_foxes, z0_ground_safe]))] sz) (fun u : Int32 => ([(a0, .inr (10, [z0_tape, .ref a0_ground, z0_spareGround, z0_rule, z0_spareRule, z0_lines, z0_spareLines, z0_steps, z0_now, z0_trial, z0_past, z0_images, z0_round, z0_seating, z0_fitting, z0_imagesKept, z0_refusedSteps, .int u, z0_callsIllegal])), (a0_ground, .inr (2, [z0_ground_formX, z0_ground_formY, z0_ground_foxX, z0_ground_foxY, z0_ground_seat, z0_ground_strength, z0_ground_debts, z0_ground_near, .int v0_ground_forms, z0_ground_hares, z0_ground_foxes, z0_ground_safe]))] : va_W))) (va_A [(a0, .inr (10, [z0_tape, .ref a0_ground, z0_spareGround, z0_rule, z0_spareRule, z0_lines, z0_spareLines, z0_steps, z0_now, z0_trial, z0_past, z0_images, z0_round, z0_seating, z0_fitting, z0_imagesKept, z0_refusedSteps, .int v0_callsNoSuch, z0_callsIllegal])), (a0_ground, .inr (2, [z0_ground_formX, z0_ground_formY, z0_ground_foxX, z0_ground_foxY, z0_ground_seat, z0_ground_strength, z0_ground_debts, z0_ground_near, .int v0_ground_forms, z0_ground_hares, z0_ground_foxes, z0_ground_safe]))] sz)) (vx_X (fun _ => True) (fun (en : String) (u : Int32) (t : State) => E en u ∧ cB (dC, dI) (kT cyB cyI cyJ cyP) (va_A [(a0, .inr (10, [z0_tape, .ref a0_ground, z0_spareGround, z0_rule, z0_spareRule, z0_lines, z0_spareLines, z0_steps, z0_now, z0_trial, z0_past, z0_images, z0_round, z0_seating, z0_fitting, z0_imagesKept, z0_refusedSteps, .int v0_callsNoSuch, z0_callsIllegal])), (a0_ground, .inr (2, [z0_ground_formX, z0_ground_formY, z0_ground_foxX, z0_ground_foxY, z0_ground_seat, z0_ground_strength, z0_ground_debts, z0_ground_near, .int v0_ground_forms, z0_ground_hares, z0_ground_foxes, z0_ground_safe]))] sz) (fun u : Int32 => ([(a0, .inr (10, [z0_tape, .ref a0_ground, z0_spareGround, z0_rule, z0_spareRule, z0_lines, z0_spareLines, z0_steps, z0_now, z0_trial, z0_past, z0_images, z0_round, z0_seating, z0_fitting, z0_imagesKept, z0_refusedSteps, .int u, z0_callsIllegal])), (a0_ground, .inr (2, [z0_ground_formX, z0_ground_formY, z0_ground_foxX, z0_ground_foxY, z0_ground_seat, z0_ground_strength, z0_ground_debts, z0_ground_near, .int v0_ground_forms, z0_ground_hares, z0_ground_foxes, z0_ground_safe]))] : va_W)) u t) (va_A [(a0, .inr (10, [z0_tape, .ref a0_ground, z0_spareGround, z0_rule, z0_spareRule, z0_lines, z0_spareLines, z0_steps, z0_now, z0_trial, z0_past, z0_images, z0_round, z0_seating, z0_fitting, z0_imagesKept, z0_refusedSteps, .int v0_callsNoSuch, z0_callsIllegal])), (a0_ground, .inr (2, [z0_ground_formX, z0_ground_formY, z0_ground_foxX, z0_ground_foxY, z0_ground_seat, z0_ground_strength, z0_ground_debts, z0_ground_near, .int v0_ground_forms, z0_ground_hares, z0_ground_foxes, z0_ground_safe]))] sz)) 1 6 (va_A [(a0, .inr (10, [z0_tape, .ref a0_ground, z0_spareGround, z0_rule, z0_spareRule, z0_lines, z0_spareLines, z0_steps, z0_now, z0_trial, z0_past, z0_images, z0_round, z0_seating, z0_fitting, z0_imagesKept, z0_refusedSteps, .int v0_callsNoSuch, z0_callsIllegal])), (a0_ground, .inr (2, [z0_ground_formX, z0_ground_formY, z0_ground_foxX, z0_ground_foxY, z0_ground_seat, z0_ground_strength, z0_ground_debts, z0_ground_near, .int v0_ground_forms, z0_ground_hares, z0_ground_foxes, z0_ground_safe]))] sz) := by
  refine vx_ofW (cc := cX10_form) (maxL := 3) (ret := (some .int)) (by decide) rfl ?_
  intro p e s m args below meth c s₁ B hml hnt hv
  obtain ⟨rfl, hsz, hP, hK, hD0, hNw, hXl, hXu, hXn, hXt⟩ := hv
  have hx := B.exec
  have hb := B.bytes
  have hr := B.returns
  have hts := atoms_spec (ws := wsX10_form) B.pre
  have hown : s.vm.findClass RX10 = some m.cls := findClass_of_methodNamed B.named
  have hlocks := B.notSynchronized
  subst hsz
  have hD := hD0.self (sz := s.heap.size)
  generalize hAe : va_A [(a0, .inr (10, [z0_tape, .ref a0_ground, z0_spareGround, z0_rule, z0_spareRule, z0_lines, z0_spareLines, z0_steps, z0_now, z0_trial, z0_past, z0_images, z0_round, z0_seating, z0_fitting, z0_imagesKept, z0_refusedSteps, .int v0_callsNoSuch, z0_callsIllegal])), (a0_ground, .inr (2, [z0_ground_formX, z0_ground_formY, z0_ground_foxX, z0_ground_foxY, z0_ground_seat, z0_ground_strength, z0_ground_debts, z0_ground_near, .int v0_ground_forms, z0_ground_hares, z0_ground_foxes, z0_ground_safe]))] s.heap.size = A at hD hXu hXn ⊢
  have hA : ∀ q : Nat, s.heap.size ≤ q → A q := fun q h => by rw [← hAe]; exact Or.inr h
  have hS : va_S A s.heap s.heap [] := va_S.rf
  have hP : va_P (dC, dI) vwCl [(a0, .inr (10, [z0_tape, .ref a0_ground, z0_spareGround, z0_rule, z0_spareRule, z0_lines, z0_spareLines, z0_steps, z0_now, z0_trial, z0_past, z0_images, z0_round, z0_seating, z0_fitting, z0_imagesKept, z0_refusedSteps, .int v0_callsNoSuch, z0_callsIllegal])), (a0_ground, .inr (2, [z0_ground_formX, z0_ground_formY, z0_ground_foxX, z0_ground_foxY, z0_ground_seat, z0_ground_strength, z0_ground_debts, z0_ground_near, .int v0_ground_forms, z0_ground_hares, z0_ground_foxes, z0_ground_safe]))] s.heap := hP
  have hl := lv_entry ([.ref a0, .int p1, .int p2]) (n := 3) (Nat.le_of_ble_eq_true rfl)
  rw [lg_entry_eq]
  generalize (lg_sl ([.ref a0, .int p1, .int p2]) ++ List.replicate (3 - (lg_sl ([.ref a0, .int p1, .int p2])).length) Slot.unset).toArray = ls at hl ⊢
  have hl : lv_has ls 3 [(0, .ref a0), (1, .int p1), (2, .int p2)] := hl
  have hY : cfY l s A := ⟨hXl, hXu, hXn, hXt⟩
  have hXs : cfX l s c A := ⟨hnt, hY⟩
  have C0 : cfx p s m _ meth c cX10_form (some .int) wsX10_form RX10 3 A (dC, dI) (kT cyB cyI cyJ cyP) ∧ cfX l s c A := ⟨⟨hx, hb, hr, hts, hown, hlocks, hml, hA, hK, hNw⟩, hXs⟩
  clear hAe
  obtain ⟨H, hH⟩ : ∃ H, H = s.heap := ⟨_, rfl⟩
  rw [← hH] at hP ⊢
  have hS : va_S A s.heap H [] := by rw [hH]; exact va_S.rf
  have hS := hS
  refine lv_aload_n hx hb dX10_form_0 rfl (lv_at hl 0 rfl) ?_
  refine lv_iload_n hx hb dX10_form_1 rfl (lv_at hl 1 rfl) ?_
  have hPc := hP.sub (ws' := [(a0, .inr (10, [z0_tape, .ref a0_ground, z0_spareGround, z0_rule, z0_spareRule, z0_lines, z0_spareLines, z0_steps, z0_now, z0_trial, z0_past, z0_images, z0_round, z0_seating, z0_fitting, z0_imagesKept, z0_refusedSteps, .int v0_callsNoSuch, z0_callsIllegal])), (a0_ground, .inr (2, [z0_ground_formX, z0_ground_formY, z0_ground_foxX, z0_ground_foxY, z0_ground_seat, z0_ground_strength, z0_ground_debts, z0_ground_near, .int v0_ground_forms, z0_ground_hares, z0_ground_foxes, z0_ground_safe]))]) [0, 1] rfl
  have hDc := hD.sub (ws' := [(a0, .inr (10, [z0_tape, .ref a0_ground, z0_spareGround, z0_rule, z0_spareRule, z0_lines, z0_spareLines, z0_steps, z0_now, z0_trial, z0_past, z0_images, z0_round, z0_seating, z0_fitting, z0_imagesKept, z0_refusedSteps, .int v0_callsNoSuch, z0_callsIllegal])), (a0_ground, .inr (2, [z0_ground_formX, z0_ground_formY, z0_ground_foxX, z0_ground_foxY, z0_ground_seat, z0_ground_strength, z0_ground_debts, z0_ground_near, .int v0_ground_forms, z0_ground_hares, z0_ground_foxes, z0_ground_safe]))]) [0, 1] (by decide) rfl
  have hFc := va_free (wc := [(a0, .inr (10, [z0_tape, .ref a0_ground, z0_spareGround, z0_rule, z0_spareRule, z0_lines, z0_spareLines, z0_steps, z0_now, z0_trial, z0_past, z0_images, z0_round, z0_seating, z0_fitting, z0_imagesKept, z0_refusedSteps, .int v0_callsNoSuch, z0_callsIllegal])), (a0_ground, .inr (2, [z0_ground_formX, z0_ground_formY, z0_ground_foxX, z0_ground_foxY, z0_ground_seat, z0_ground_strength, z0_ground_debts, z0_ground_near, .int v0_ground_forms, z0_ground_hares, z0_ground_foxes, z0_ground_safe]))]) hD hS hA [0, 1] rfl
  refine vx_callv (vx_runV (As := [.int p1]) (rest := []) ⟨hx, hb, hml, hown, hts⟩ (ck_X10_needForm l dC dI cyB cyI cyJ cyP a0 a0_ground H.size (z0_tape) (z0_spareGround) (z0_rule) (z0_spareRule) (z0_lines) (z0_spareLines) (z0_steps) (z0_now) (z0_trial) (z0_past) (z0_images) (z0_round) (z0_seating) (z0_fitting) (z0_imagesKept) (z0_refusedSteps) (z0_callsIllegal) (z0_ground_formX) (z0_ground_formY) (z0_ground_foxX) (z0_ground_foxY) (z0_ground_seat) (z0_ground_strength) (z0_ground_debts) (z0_ground_near) (z0_ground_hares) (z0_ground_foxes) (z0_ground_safe) v0_ground_forms v0_callsNoSuch p1 hw) (cwV 1 hts gX10_form_X10_needForm rfl rfl rfl (by decide +kernel) ⟨Nat.le_of_ble_eq_true rfl, Nat.le_of_ble_eq_true rfl⟩) ⟨cPx_blind, va_recv hK hPc (ci := 10) (q0 := 0) rfl rfl, cPx_pre hPc hK hDc hNw hY hS hFc⟩ rfl rfl hl.1 rfl (lv_room (Nat.le_of_ble_eq_true rfl)) dX10_form_2 ⟨Nat.le_of_ble_eq_true rfl, Nat.le_of_ble_eq_true rfl⟩) hS (fun q _ h => hFc q h) hFc (fun q _ h => hFc q h) (fun en ce q9 u t H1 locs ht hvm hpx hB hz1 hk1 hS hc9 hv9 hcl9 => ?_) (fun u t H1 locs ht hvm hw hB hz1 hk1 hS => ?_)
  · obtain ⟨x1, rfl⟩ : ∃ z, z = u := ⟨_, rfl⟩
    obtain ⟨hw, hP1, hK1, hD1⟩ := hB
    rw [ht] at hP1
    obtain ⟨hP, hD⟩ := va_join (wr := []) (w1 := [(a0, .inr (10, [z0_tape, .ref a0_ground, z0_spareGround, z0_rule, z0_spareRule, z0_lines, z0_spareLines, z0_steps, z0_now, z0_trial, z0_past, z0_images, z0_round, z0_seating, z0_fitting, z0_imagesKept, z0_refusedSteps, .int x1, z0_callsIllegal])), (a0_ground, .inr (2, [z0_ground_formX, z0_ground_formY, z0_ground_foxX, z0_ground_foxY, z0_ground_seat, z0_ground_strength, z0_ground_debts, z0_ground_near, .int v0_ground_forms, z0_ground_hares, z0_ground_foxes, z0_ground_safe]))]) hP hD [0, 1] [] rfl rfl (by decide) (by decide) hk1 hFc hP1 hD1
    have hP : va_P (dC, dI) vwCl [(a0, .inr (10, [z0_tape, .ref a0_ground, z0_spareGround, z0_rule, z0_spareRule, z0_lines, z0_spareLines, z0_steps, z0_now, z0_trial, z0_past, z0_images, z0_round, z0_seating, z0_fitting, z0_imagesKept, z0_refusedSteps, .int x1, z0_callsIllegal])), (a0_ground, .inr (2, [z0_ground_formX, z0_ground_formY, z0_ground_foxX, z0_ground_foxY, z0_ground_seat, z0_ground_strength, z0_ground_debts, z0_ground_near, .int v0_ground_forms, z0_ground_hares, z0_ground_foxes, z0_ground_safe]))] H1 := hP
    have hD : va_D A [(a0, .inr (10, [z0_tape, .ref a0_ground, z0_spareGround, z0_rule, z0_spareRule, z0_lines, z0_spareLines, z0_steps, z0_now, z0_trial, z0_past, z0_images, z0_round, z0_seating, z0_fitting, z0_imagesKept, z0_refusedSteps, .int x1, z0_callsIllegal])), (a0_ground, .inr (2, [z0_ground_formX, z0_ground_formY, z0_ground_foxX, z0_ground_foxY, z0_ground_seat, z0_ground_strength, z0_ground_debts, z0_ground_near, .int v0_ground_forms, z0_ground_hares, z0_ground_foxes, z0_ground_safe]))] := hD
    generalize H1 = H at hP hS hc9 ⊢
    exact vx_out (fun x hx9 => (hXs.1 x hx9).elim) hlocks hc9 hv9 hcl9 (fun t2 ht2 hal2 => ⟨(x1), trivial, ⟨hw, by rw [ht2]; exact hP, va_K.moved hal2 hK, hD⟩, hS.F ht2⟩) hS.2.2 (Nat.le_of_ble_eq_true rfl) (Nat.le_of_ble_eq_true rfl)
  obtain ⟨x1, rfl⟩ : ∃ z, z = u := ⟨_, rfl⟩
  obtain ⟨hP1, hK1, hD1⟩ := hB
  rw [ht] at hP1
  obtain ⟨hP, hD⟩ := va_join (wr := []) (w1 := [(a0, .inr (10, [z0_tape, .ref a0_ground, z0_spareGround, z0_rule, z0_spareRule, z0_lines, z0_spareLines, z0_steps, z0_now, z0_trial, z0_past, z0_images, z0_round, z0_seating, z0_fitting, z0_imagesKept, z0_refusedSteps, .int x1, z0_callsIllegal])), (a0_ground, .inr (2, [z0_ground_formX, z0_ground_formY, z0_ground_foxX, z0_ground_foxY, z0_ground_seat, z0_ground_strength, z0_ground_debts, z0_ground_near, .int v0_ground_forms, z0_ground_hares, z0_ground_foxes, z0_ground_safe]))]) hP hD [0, 1] [] rfl rfl (by decide) (by decide) hk1 hFc hP1 hD1
  have hP : va_P (dC, dI) vwCl [(a0, .inr (10, [z0_tape, .ref a0_ground, z0_spareGround, z0_rule, z0_spareRule, z0_lines, z0_spareLines, z0_steps, z0_now, z0_trial, z0_past, z0_images, z0_round, z0_seating, z0_fitting, z0_imagesKept, z0_refusedSteps, .int x1, z0_callsIllegal])), (a0_ground, .inr (2, [z0_ground_formX, z0_ground_formY, z0_ground_foxX, z0_ground_foxY, z0_ground_seat, z0_ground_strength, z0_ground_debts, z0_ground_near, .int v0_ground_forms, z0_ground_hares, z0_ground_foxes, z0_ground_safe]))] H1 := hP
  have hD : va_D A [(a0, .inr (10, [z0_tape, .ref a0_ground, z0_spareGround, z0_rule, z0_spareRule, z0_lines, z0_spareLines, z0_steps, z0_now, z0_trial, z0_past, z0_images, z0_round, z0_seating, z0_fitting, z0_imagesKept, z0_refusedSteps, .int x1, z0_callsIllegal])), (a0_ground, .inr (2, [z0_ground_formX, z0_ground_formY, z0_ground_foxX, z0_ground_foxY, z0_ground_seat, z0_ground_strength, z0_ground_debts, z0_ground_near, .int v0_ground_forms, z0_ground_hares, z0_ground_foxes, z0_ground_safe]))] := hD
  generalize H1 = H at hP hS ⊢
  exact False.elim hw
theorem ub_X10_fox_268 : ∀ w ∈ (ux_atS RX10 268 "java/util/NoSuchElementException" 13 ux_rx ["java/lang/RuntimeException", "java/lang/Exception"]).filter (fun w => !goodWord w), w ∈ xB := by decide +kernel
theorem ug_X10_fox_268 : ∀ w ∈ Cond.classLink RX10 264 "java/util/NoSuchElementException" :: Cond.initialized "java/util/NoSuchElementException" :: ux_atS RX10 268 "java/util/NoSuchElementException" 13 ux_rx ["java/lang/RuntimeException", "java/lang/Exception"], vx_ot w = true := by decide +kernel
theorem uh_X10_fox_268 : ∀ w ∈ (ux_atS RX10 268 "java/util/NoSuchElementException" 13 ux_rx ["java/lang/RuntimeException", "java/lang/Exception"]).filter goodWord, w ∈ wsX10_fox := by decide +kernel
theorem ui_X10_fox_X10 : ∀ w ∈ u_ws RX10 TX10 19, w ∈ wsX10_fox := by decide +kernel
theorem ui_X10_fox_X2 : ∀ w ∈ u_ws RX2 TX2 12, w ∈ wsX10_fox := by decide +kernel
theorem uw_X10_fox_cl264 : (.classLink RX10 264 "java/util/NoSuchElementException" : Cond) ∈ wsX10_fox := by decide +kernel
theorem uw_X10_fox_f184 : (.fieldLink RX10 184 "MarchHares$Down" "foxes" "I" : Cond) ∈ wsX10_fox := by decide +kernel
theorem uw_X10_fox_f19 : (.fieldLink RX10 19 "MarchHares" "ground" "LMarchHares$Down;" : Cond) ∈ wsX10_fox := by decide +kernel
theorem uw_X10_fox_f261 : (.fieldLink RX10 261 "MarchHares" "callsNoSuch" "I" : Cond) ∈ wsX10_fox := by decide +kernel
theorem uw_X10_fox_ini264 : (.initialized "java/util/NoSuchElementException" : Cond) ∈ wsX10_fox := by decide +kernel
def wq_X10_fox (v0_ground_foxes : Int32) (v0_callsNoSuch : Int32) (p1 : Int32) (p2 : Int32) (E : String → Int32 → Prop) (Q : Int32 → Int32 → Prop) : Prop := wq_X10_within   p1 0 (v0_ground_foxes - 1) (fun r1 => ((¬ r1 = 0 → False) ∧ (r1 = 0 → ∀ x3 : Int32, x3 = v0_callsNoSuch + 1 → (E "java/util/NoSuchElementException" x3))))
set_option maxHeartbeats 4000000 in
set_option maxRecDepth 100000 in
theorem ck_X10_fox (l : Launch) (dC : Nat → ClassId) (dI : Nat → Nat → Nat) (cyB cyI cyJ cyP : ClassId) (a0 a0_ground : Nat) (sz : Nat) (z0_tape : Value) (z0_spareGround : Value) (z0_rule : Value) (z0_spareRule : Value) (z0_lines : Value) (z0_spareLines : Value) (z0_steps : Value) (z0_now : Value) (z0_trial : Value) (z0_past : Value) (z0_images : Value) (z0_round : Value) (z0_seating : Value) (z0_fitting : Value) (z0_imagesKept : Value) (z0_refusedSteps : Value) (z0_callsIllegal : Value) (z0_ground_formX : Value) (z0_ground_formY : Value) (z0_ground_foxX : Value) (z0_ground_foxY : Value) (z0_ground_seat : Value) (z0_ground_strength : Value) (z0_ground_debts : Value) (z0_ground_near : Value) (z0_ground_forms : Value) (z0_ground_hares : Value) (z0_ground_safe : Value) (v0_ground_foxes : Int32) (v0_callsNoSuch : Int32) (p1 : Int32) (p2 : Int32) {E : String → Int32 → Prop} {Q : Int32 → Int32 → Prop} (hw : wq_X10_fox v0_ground_foxes v0_callsNoSuch p1 p2 E Q) : vx_Met l yX10_fox wsX10_fox ({ frames := 6, cells := 1, slots := 6, locals := 120 }) (va_Pc [.ref a0, .int p1, .int p2] (cPx l (dC, dI) (kT cyB cyI cyJ cyP) [(a0, .inr (10, [z0_tape, .ref a0_ground, z0_spareGround, z0_rule, z0_spareRule, z0_lines, z0_spareLines, z0_steps, z0_now, z0_trial, z0_past, z0_images, z0_round, z0_seating, z0_fitting, z0_imagesKept, z0_refusedSteps, .int v0_callsNoSuch, z0_callsIllegal])), (a0_ground, .inr (2, [z0_ground_formX, z0_ground_formY, z0_ground_foxX, z0_ground_foxY, z0_ground_seat, z0_ground_strength, z0_ground_debts, z0_ground_near, z0_ground_forms, z0_ground_hares, .int v0_ground_foxes, z0_ground_safe]))] sz)) (va_Qi (fun (r : Int32) (u : Int32) => Q r u) (cB (dC, dI) (kT cyB cyI cyJ cyP) (va_A [(a0, .inr (10, [z0_tape, .ref a0_ground, z0_spareGround, z0_rule, z0_spareRule, z0_lines, z0_spareLines, z0_steps, z0_now, z0_trial, z0_past, z0_images, z0_round, z0_seating, z0_fitting, z0_imagesKept, z0_refusedSteps, .int v0_callsNoSuch, z0_callsIllegal])), (a0_ground, .inr (2, [z0_ground_formX, z0_ground_formY, z0_ground_foxX, z0_ground_foxY, z0_ground_seat, z0_ground_strength, z0_ground_debts, z0_ground_near, z0_ground_forms, z0_ground_hares, .int v0_ground_foxes, z0_ground_safe]))] sz) (fun u : Int32 => ([(a0, .inr (10, [z0_tape, .ref a0_ground, z0_spareGround, z0_rule, z0_spareRule, z0_lines, z0_spareLines, z0_steps, z0_now, z0_trial, z0_past, z0_images, z0_round, z0_seating, z0_fitting, z0_imagesKept, z0_refusedSteps, .int u, z0_callsIllegal])), (a0_ground, .inr (2, [z0_ground_formX, z0_ground_formY, z0_ground_foxX, z0_ground_foxY, z0_ground_seat, z0_ground_strength, z0_ground_debts, z0_ground_near, z0_ground_forms, z0_ground_hares, .int v0_ground_foxes, z0_ground_safe]))] : va_W))) (va_A [(a0, .inr (10, [z0_tape, .ref a0_ground, z0_spareGround, z0_rule, z0_spareRule, z0_lines, z0_spareLines, z0_steps, z0_now, z0_trial, z0_past, z0_images, z0_round, z0_seating, z0_fitting, z0_imagesKept, z0_refusedSteps, .int v0_callsNoSuch, z0_callsIllegal])), (a0_ground, .inr (2, [z0_ground_formX, z0_ground_formY, z0_ground_foxX, z0_ground_foxY, z0_ground_seat, z0_ground_strength, z0_ground_debts, z0_ground_near, z0_ground_forms, z0_ground_hares, .int v0_ground_foxes, z0_ground_safe]))] sz)) (vx_X (fun _ => True) (fun (en : String) (u : Int32) (t : State) => E en u ∧ cB (dC, dI) (kT cyB cyI cyJ cyP) (va_A [(a0, .inr (10, [z0_tape, .ref a0_ground, z0_spareGround, z0_rule, z0_spareRule, z0_lines, z0_spareLines, z0_steps, z0_now, z0_trial, z0_past, z0_images, z0_round, z0_seating, z0_fitting, z0_imagesKept, z0_refusedSteps, .int v0_callsNoSuch, z0_callsIllegal])), (a0_ground, .inr (2, [z0_ground_formX, z0_ground_formY, z0_ground_foxX, z0_ground_foxY, z0_ground_seat, z0_ground_strength, z0_ground_debts, z0_ground_near, z0_ground_forms, z0_ground_hares, .int v0_ground_foxes, z0_ground_safe]))] sz) (fun u : Int32 => ([(a0, .inr (10, [z0_tape, .ref a0_ground, z0_spareGround, z0_rule, z0_spareRule, z0_lines, z0_spareLines, z0_steps, z0_now, z0_trial, z0_past, z0_images, z0_round, z0_seating, z0_fitting, z0_imagesKept, z0_refusedSteps, .int u, z0_callsIllegal])), (a0_ground, .inr (2, [z0_ground_formX, z0_ground_formY, z0_ground_foxX, z0_ground_foxY, z0_ground_seat, z0_ground_strength, z0_ground_debts, z0_ground_near, z0_ground_forms, z0_ground_hares, .int v0_ground_foxes, z0_ground_safe]))] : va_W)) u t) (va_A [(a0, .inr (10, [z0_tape, .ref a0_ground, z0_spareGround, z0_rule, z0_spareRule, z0_lines, z0_spareLines, z0_steps, z0_now, z0_trial, z0_past, z0_images, z0_round, z0_seating, z0_fitting, z0_imagesKept, z0_refusedSteps, .int v0_callsNoSuch, z0_callsIllegal])), (a0_ground, .inr (2, [z0_ground_formX, z0_ground_formY, z0_ground_foxX, z0_ground_foxY, z0_ground_seat, z0_ground_strength, z0_ground_debts, z0_ground_near, z0_ground_forms, z0_ground_hares, .int v0_ground_foxes, z0_ground_safe]))] sz)) 1 6 (va_A [(a0, .inr (10, [z0_tape, .ref a0_ground, z0_spareGround, z0_rule, z0_spareRule, z0_lines, z0_spareLines, z0_steps, z0_now, z0_trial, z0_past, z0_images, z0_round, z0_seating, z0_fitting, z0_imagesKept, z0_refusedSteps, .int v0_callsNoSuch, z0_callsIllegal])), (a0_ground, .inr (2, [z0_ground_formX, z0_ground_formY, z0_ground_foxX, z0_ground_foxY, z0_ground_seat, z0_ground_strength, z0_ground_debts, z0_ground_near, z0_ground_forms, z0_ground_hares, .int v0_ground_foxes, z0_ground_safe]))] sz) := by
  refine vx_ofW (cc := cX10_fox) (maxL := 3) (ret := (some .int)) (by decide) rfl ?_
  intro p e s m args below meth c s₁ B hml hnt hv
  obtain ⟨rfl, hsz, hP, hK, hD0, hNw, hXl, hXu, hXn, hXt⟩ := hv
  have hx := B.exec
  have hb := B.bytes
  have hr := B.returns
  have hts := atoms_spec (ws := wsX10_fox) B.pre
  have hown : s.vm.findClass RX10 = some m.cls := findClass_of_methodNamed B.named
  have hlocks := B.notSynchronized
  subst hsz
  have hD := hD0.self (sz := s.heap.size)
  generalize hAe : va_A [(a0, .inr (10, [z0_tape, .ref a0_ground, z0_spareGround, z0_rule, z0_spareRule, z0_lines, z0_spareLines, z0_steps, z0_now, z0_trial, z0_past, z0_images, z0_round, z0_seating, z0_fitting, z0_imagesKept, z0_refusedSteps, .int v0_callsNoSuch, z0_callsIllegal])), (a0_ground, .inr (2, [z0_ground_formX, z0_ground_formY, z0_ground_foxX, z0_ground_foxY, z0_ground_seat, z0_ground_strength, z0_ground_debts, z0_ground_near, z0_ground_forms, z0_ground_hares, .int v0_ground_foxes, z0_ground_safe]))] s.heap.size = A at hD hXu hXn ⊢
  have hA : ∀ q : Nat, s.heap.size ≤ q → A q := fun q h => by rw [← hAe]; exact Or.inr h
  have hS : va_S A s.heap s.heap [] := va_S.rf
  have hP : va_P (dC, dI) vwCl [(a0, .inr (10, [z0_tape, .ref a0_ground, z0_spareGround, z0_rule, z0_spareRule, z0_lines, z0_spareLines, z0_steps, z0_now, z0_trial, z0_past, z0_images, z0_round, z0_seating, z0_fitting, z0_imagesKept, z0_refusedSteps, .int v0_callsNoSuch, z0_callsIllegal])), (a0_ground, .inr (2, [z0_ground_formX, z0_ground_formY, z0_ground_foxX, z0_ground_foxY, z0_ground_seat, z0_ground_strength, z0_ground_debts, z0_ground_near, z0_ground_forms, z0_ground_hares, .int v0_ground_foxes, z0_ground_safe]))] s.heap := hP
  have hl := lv_entry ([.ref a0, .int p1, .int p2]) (n := 3) (Nat.le_of_ble_eq_true rfl)
  rw [lg_entry_eq]
  generalize (lg_sl ([.ref a0, .int p1, .int p2]) ++ List.replicate (3 - (lg_sl ([.ref a0, .int p1, .int p2])).length) Slot.unset).toArray = ls at hl ⊢
  have hl : lv_has ls 3 [(0, .ref a0), (1, .int p1), (2, .int p2)] := hl
  have hY : cfY l s A := ⟨hXl, hXu, hXn, hXt⟩
  have hXs : cfX l s c A := ⟨hnt, hY⟩
  have C0 : cfx p s m _ meth c cX10_fox (some .int) wsX10_fox RX10 3 A (dC, dI) (kT cyB cyI cyJ cyP) ∧ cfX l s c A := ⟨⟨hx, hb, hr, hts, hown, hlocks, hml, hA, hK, hNw⟩, hXs⟩
  clear hAe
  obtain ⟨H, hH⟩ : ∃ H, H = s.heap := ⟨_, rfl⟩
  rw [← hH] at hP ⊢
  have hS : va_S A s.heap H [] := by rw [hH]; exact va_S.rf
  have hS := hS
  refine lv_iload_n hx hb dX10_fox_0 rfl (lv_at hl 1 rfl) ?_
  refine lv_iconst (v := 0) hx hb dX10_fox_1 (by decide) ?_
  refine lv_aload_n hx hb dX10_fox_2 rfl (lv_at hl 0 rfl) ?_
  refine va_get (D := (dC, dI)) (ci := 10) (v := .ref a0_ground) (C := RX10) (T := TX10) (N := 19) hx hb hts ui_X10_fox_X10 hown hK hP 0 rfl rfl 1 (by decide) (hts _ uw_X10_fox_f19) (fun _ h9 => h9) rfl dX10_fox_3 ?_
  refine va_get (D := (dC, dI)) (ci := 2) (v := .int v0_ground_foxes) (C := RX2) (T := TX2) (N := 12) hx hb hts ui_X10_fox_X2 hown hK hP 1 rfl rfl 10 (by decide) (hts _ uw_X10_fox_f184) (fun _ h9 => h9) rfl dX10_fox_6 ?_
  refine lv_iconst (v := 1) hx hb dX10_fox_9 (by decide) ?_
  refine lv_isub hx hb dX10_fox_10 ?_
  have hPc := hP.sub (ws' := []) [] rfl
  have hDc := hD.sub (ws' := []) [] (by decide) rfl
  have hFc := va_free (wc := []) hD hS hA [] rfl
  refine va_calli (va_runS (As := [.int p1, .int 0, .int (v0_ground_foxes - 1)]) (rest := []) ⟨hx, hb, hml, hown, hts⟩ (ck_X10_within l dC dI cyB cyI cyJ cyP  H.size    p1 0 (v0_ground_foxes - 1) hw) (va_cwS 3 hts gX10_fox_X10_within rfl rfl rfl (by decide +kernel) ⟨Nat.le_of_ble_eq_true rfl, Nat.le_of_ble_eq_true rfl⟩) ⟨cPc_blind, cPc_pre hPc hK hDc hNw⟩ rfl rfl hl.1 rfl (lv_room (Nat.le_of_ble_eq_true rfl)) dX10_fox_11 ⟨Nat.le_of_ble_eq_true rfl, Nat.le_of_ble_eq_true rfl⟩) hS (fun q _ h => hFc q h) hFc (fun r1 u t H1 locs ht hvm hw hB hz1 hk1 hS => ?_)
  obtain ⟨hP1, hK1, hD1⟩ := hB
  rw [ht] at hP1
  obtain ⟨hP, hD⟩ := va_join (wr := [(a0, .inr (10, [z0_tape, .ref a0_ground, z0_spareGround, z0_rule, z0_spareRule, z0_lines, z0_spareLines, z0_steps, z0_now, z0_trial, z0_past, z0_images, z0_round, z0_seating, z0_fitting, z0_imagesKept, z0_refusedSteps, .int v0_callsNoSuch, z0_callsIllegal])), (a0_ground, .inr (2, [z0_ground_formX, z0_ground_formY, z0_ground_foxX, z0_ground_foxY, z0_ground_seat, z0_ground_strength, z0_ground_debts, z0_ground_near, z0_ground_forms, z0_ground_hares, .int v0_ground_foxes, z0_ground_safe]))]) (w1 := []) hP hD [] [0, 1] rfl rfl (by decide) (by decide) hk1 hFc hP1 hD1
  have hP : va_P (dC, dI) vwCl [(a0, .inr (10, [z0_tape, .ref a0_ground, z0_spareGround, z0_rule, z0_spareRule, z0_lines, z0_spareLines, z0_steps, z0_now, z0_trial, z0_past, z0_images, z0_round, z0_seating, z0_fitting, z0_imagesKept, z0_refusedSteps, .int v0_callsNoSuch, z0_callsIllegal])), (a0_ground, .inr (2, [z0_ground_formX, z0_ground_formY, z0_ground_foxX, z0_ground_foxY, z0_ground_seat, z0_ground_strength, z0_ground_debts, z0_ground_near, z0_ground_forms, z0_ground_hares, .int v0_ground_foxes, z0_ground_safe]))] H1 := hP
  have hD : va_D A [(a0, .inr (10, [z0_tape, .ref a0_ground, z0_spareGround, z0_rule, z0_spareRule, z0_lines, z0_spareLines, z0_steps, z0_now, z0_trial, z0_past, z0_images, z0_round, z0_seating, z0_fitting, z0_imagesKept, z0_refusedSteps, .int v0_callsNoSuch, z0_callsIllegal])), (a0_ground, .inr (2, [z0_ground_formX, z0_ground_formY, z0_ground_foxX, z0_ground_foxY, z0_ground_seat, z0_ground_strength, z0_ground_debts, z0_ground_near, z0_ground_forms, z0_ground_hares, .int v0_ground_foxes, z0_ground_safe]))] := hD
  generalize H1 = H at hP hS ⊢
  refine lv_if_ne (tgt := 38) hx hb dX10_fox_14 (by decide) (fun c2 => ?_) (fun c2 => ?_)
  · have hw := hw.1 c2
    exact False.elim hw
  · have hw := hw.2 c2
    refine lv_aload_n hx hb dX10_fox_17 rfl (lv_at hl 0 rfl) ?_
    refine lv_dup hx hb dX10_fox_18 rfl ?_
    refine va_get (D := (dC, dI)) (ci := 10) (v := .int v0_callsNoSuch) (C := RX10) (T := TX10) (N := 19) hx hb hts ui_X10_fox_X10 hown hK hP 0 rfl rfl 17 (by decide) (hts _ uw_X10_fox_f261) (fun _ h9 => h9) rfl dX10_fox_19 ?_
    refine lv_iconst (v := 1) hx hb dX10_fox_22 (by decide) ?_
    refine lv_iadd hx hb dX10_fox_23 ?_
    refine lv_topi (fun x3 ex3 => ?_)
    have hw := hw x3 ex3
    refine va_put (D := (dC, dI)) (ci := 10) (v := .int x3) (ty := .int) (C := RX10) (T := TX10) (N := 19) hx hb hts ui_X10_fox_X10 tyX10 tyX10_ok nmX10 hown hK hP hD hS 0 rfl rfl 17 (by decide) (hts _ uw_X10_fox_f261) (fun _ h9 => h9) rfl (by decide +kernel) rfl rfl (Nat.le_of_ble_eq_true rfl) dX10_fox_24 (fun H locs hP hD hS => ?_)
    have hP : va_P (dC, dI) vwCl [(a0, .inr (10, [z0_tape, .ref a0_ground, z0_spareGround, z0_rule, z0_spareRule, z0_lines, z0_spareLines, z0_steps, z0_now, z0_trial, z0_past, z0_images, z0_round, z0_seating, z0_fitting, z0_imagesKept, z0_refusedSteps, .int x3, z0_callsIllegal])), (a0_ground, .inr (2, [z0_ground_formX, z0_ground_formY, z0_ground_foxX, z0_ground_foxY, z0_ground_seat, z0_ground_strength, z0_ground_debts, z0_ground_near, z0_ground_forms, z0_ground_hares, .int v0_ground_foxes, z0_ground_safe]))] H := hP
    have hD : va_D A [(a0, .inr (10, [z0_tape, .ref a0_ground, z0_spareGround, z0_rule, z0_spareRule, z0_lines, z0_spareLines, z0_steps, z0_now, z0_trial, z0_past, z0_images, z0_round, z0_seating, z0_fitting, z0_imagesKept, z0_refusedSteps, .int x3, z0_callsIllegal])), (a0_ground, .inr (2, [z0_ground_formX, z0_ground_formY, z0_ground_foxX, z0_ground_foxY, z0_ground_seat, z0_ground_strength, z0_ground_debts, z0_ground_near, z0_ground_forms, z0_ground_hares, .int v0_ground_foxes, z0_ground_safe]))] := hD
    obtain ⟨sa9, hsa9⟩ := hY.2.2.2.2.1 _ (List.mem_of_getElem? (i := 2) rfl)
    exact ux_throwSW hx hb hY.1 (own := RX10) (cls := "java/util/NoSuchElementException") (names := ["java/lang/RuntimeException", "java/lang/Exception"]) (ik := 264) (is := 266) (ic := 268) (rx := ux_rx) (by decide +kernel) (by decide +kernel) (by decide +kernel) (by decide +kernel) hown (by decide +kernel) (by decide +kernel) (hts _ uw_X10_fox_cl264) (hts _ uw_X10_fox_ini264) hsa9 (vx_hat (fun w hw9 => hts w (uh_X10_fox_268 w hw9)) ub_X10_fox_268 (xB_use hY.2.2.2.1)) ug_X10_fox_268 hY.2.1 hY.2.2.1 hS (by rw [hml]; exact hl.1) dX10_fox_27 dX10_fox_30 dX10_fox_31 dX10_fox_34 dX10_fox_37 (fun x hx9 => (hXs.1 x hx9).elim) (Nat.le_of_ble_eq_true rfl) (Nat.le_of_ble_eq_true rfl) (Nat.le_of_ble_eq_true rfl) (Nat.le_of_ble_eq_true rfl) hlocks (fun t hal hsz9 hq9 => ⟨(x3), trivial, ⟨hw, hP.kept (fun k q hk9 => hq9 _ ((hP k q hk9).lt)), va_K.moved hal hK, hD⟩, xt_frame hS hsz9 hq9⟩) hS.2.2 (Nat.le_of_ble_eq_true rfl) (Nat.le_of_ble_eq_true rfl)
def wq_X10_hare (v0_ground_hares : Int32) (v0_callsNoSuch : Int32) (p1 : Int32) (p2 : Int32) (E : String → Int32 → Prop) (Q : Int32 → Int32 → Prop) : Prop := wq_X10_needHare v0_ground_hares v0_callsNoSuch p1 (fun en x1 => E en x1) (fun x1 => False)
set_option maxHeartbeats 4000000 in
set_option maxRecDepth 100000 in
theorem ck_X10_hare (l : Launch) (dC : Nat → ClassId) (dI : Nat → Nat → Nat) (cyB cyI cyJ cyP : ClassId) (a0 a0_ground : Nat) (sz : Nat) (z0_tape : Value) (z0_spareGround : Value) (z0_rule : Value) (z0_spareRule : Value) (z0_lines : Value) (z0_spareLines : Value) (z0_steps : Value) (z0_now : Value) (z0_trial : Value) (z0_past : Value) (z0_images : Value) (z0_round : Value) (z0_seating : Value) (z0_fitting : Value) (z0_imagesKept : Value) (z0_refusedSteps : Value) (z0_callsIllegal : Value) (z0_ground_formX : Value) (z0_ground_formY : Value) (z0_ground_foxX : Value) (z0_ground_foxY : Value) (z0_ground_seat : Value) (z0_ground_strength : Value) (z0_ground_debts : Value) (z0_ground_near : Value) (z0_ground_forms : Value) (z0_ground_foxes : Value) (z0_ground_safe : Value) (v0_ground_hares : Int32) (v0_callsNoSuch : Int32) (p1 : Int32) (p2 : Int32) {E : String → Int32 → Prop} {Q : Int32 → Int32 → Prop} (hw : wq_X10_hare v0_ground_hares v0_callsNoSuch p1 p2 E Q) : vx_Met l yX10_hare wsX10_hare ({ frames := 7, cells := 1, slots := 6, locals := 141 }) (va_Pc [.ref a0, .int p1, .int p2] (cPx l (dC, dI) (kT cyB cyI cyJ cyP) [(a0, .inr (10, [z0_tape, .ref a0_ground, z0_spareGround, z0_rule, z0_spareRule, z0_lines, z0_spareLines, z0_steps, z0_now, z0_trial, z0_past, z0_images, z0_round, z0_seating, z0_fitting, z0_imagesKept, z0_refusedSteps, .int v0_callsNoSuch, z0_callsIllegal])), (a0_ground, .inr (2, [z0_ground_formX, z0_ground_formY, z0_ground_foxX, z0_ground_foxY, z0_ground_seat, z0_ground_strength, z0_ground_debts, z0_ground_near, z0_ground_forms, .int v0_ground_hares, z0_ground_foxes, z0_ground_safe]))] sz)) (va_Qi (fun (r : Int32) (u : Int32) => Q r u) (cB (dC, dI) (kT cyB cyI cyJ cyP) (va_A [(a0, .inr (10, [z0_tape, .ref a0_ground, z0_spareGround, z0_rule, z0_spareRule, z0_lines, z0_spareLines, z0_steps, z0_now, z0_trial, z0_past, z0_images, z0_round, z0_seating, z0_fitting, z0_imagesKept, z0_refusedSteps, .int v0_callsNoSuch, z0_callsIllegal])), (a0_ground, .inr (2, [z0_ground_formX, z0_ground_formY, z0_ground_foxX, z0_ground_foxY, z0_ground_seat, z0_ground_strength, z0_ground_debts, z0_ground_near, z0_ground_forms, .int v0_ground_hares, z0_ground_foxes, z0_ground_safe]))] sz) (fun u : Int32 => ([(a0, .inr (10, [z0_tape, .ref a0_ground, z0_spareGround, z0_rule, z0_spareRule, z0_lines, z0_spareLines, z0_steps, z0_now, z0_trial, z0_past, z0_images, z0_round, z0_seating, z0_fitting, z0_imagesKept, z0_refusedSteps, .int u, z0_callsIllegal])), (a0_ground, .inr (2, [z0_ground_formX, z0_ground_formY, z0_ground_foxX, z0_ground_foxY, z0_ground_seat, z0_ground_strength, z0_ground_debts, z0_ground_near, z0_ground_forms, .int v0_ground_hares, z0_ground_foxes, z0_ground_safe]))] : va_W))) (va_A [(a0, .inr (10, [z0_tape, .ref a0_ground, z0_spareGround, z0_rule, z0_spareRule, z0_lines, z0_spareLines, z0_steps, z0_now, z0_trial, z0_past, z0_images, z0_round, z0_seating, z0_fitting, z0_imagesKept, z0_refusedSteps, .int v0_callsNoSuch, z0_callsIllegal])), (a0_ground, .inr (2, [z0_ground_formX, z0_ground_formY, z0_ground_foxX, z0_ground_foxY, z0_ground_seat, z0_ground_strength, z0_ground_debts, z0_ground_near, z0_ground_forms, .int v0_ground_hares, z0_ground_foxes, z0_ground_safe]))] sz)) (vx_X (fun _ => True) (fun (en : String) (u : Int32) (t : State) => E en u ∧ cB (dC, dI) (kT cyB cyI cyJ cyP) (va_A [(a0, .inr (10, [z0_tape, .ref a0_ground, z0_spareGround, z0_rule, z0_spareRule, z0_lines, z0_spareLines, z0_steps, z0_now, z0_trial, z0_past, z0_images, z0_round, z0_seating, z0_fitting, z0_imagesKept, z0_refusedSteps, .int v0_callsNoSuch, z0_callsIllegal])), (a0_ground, .inr (2, [z0_ground_formX, z0_ground_formY, z0_ground_foxX, z0_ground_foxY, z0_ground_seat, z0_ground_strength, z0_ground_debts, z0_ground_near, z0_ground_forms, .int v0_ground_hares, z0_ground_foxes, z0_ground_safe]))] sz) (fun u : Int32 => ([(a0, .inr (10, [z0_tape, .ref a0_ground, z0_spareGround, z0_rule, z0_spareRule, z0_lines, z0_spareLines, z0_steps, z0_now, z0_trial, z0_past, z0_images, z0_round, z0_seating, z0_fitting, z0_imagesKept, z0_refusedSteps, .int u, z0_callsIllegal])), (a0_ground, .inr (2, [z0_ground_formX, z0_ground_formY, z0_ground_foxX, z0_ground_foxY, z0_ground_seat, z0_ground_strength, z0_ground_debts, z0_ground_near, z0_ground_forms, .int v0_ground_hares, z0_ground_foxes, z0_ground_safe]))] : va_W)) u t) (va_A [(a0, .inr (10, [z0_tape, .ref a0_ground, z0_spareGround, z0_rule, z0_spareRule, z0_lines, z0_spareLines, z0_steps, z0_now, z0_trial, z0_past, z0_images, z0_round, z0_seating, z0_fitting, z0_imagesKept, z0_refusedSteps, .int v0_callsNoSuch, z0_callsIllegal])), (a0_ground, .inr (2, [z0_ground_formX, z0_ground_formY, z0_ground_foxX, z0_ground_foxY, z0_ground_seat, z0_ground_strength, z0_ground_debts, z0_ground_near, z0_ground_forms, .int v0_ground_hares, z0_ground_foxes, z0_ground_safe]))] sz)) 1 6 (va_A [(a0, .inr (10, [z0_tape, .ref a0_ground, z0_spareGround, z0_rule, z0_spareRule, z0_lines, z0_spareLines, z0_steps, z0_now, z0_trial, z0_past, z0_images, z0_round, z0_seating, z0_fitting, z0_imagesKept, z0_refusedSteps, .int v0_callsNoSuch, z0_callsIllegal])), (a0_ground, .inr (2, [z0_ground_formX, z0_ground_formY, z0_ground_foxX, z0_ground_foxY, z0_ground_seat, z0_ground_strength, z0_ground_debts, z0_ground_near, z0_ground_forms, .int v0_ground_hares, z0_ground_foxes, z0_ground_safe]))] sz) := by
  refine vx_ofW (cc := cX10_hare) (maxL := 3) (ret := (some .int)) (by decide) rfl ?_
  intro p e s m args below meth c s₁ B hml hnt hv
  obtain ⟨rfl, hsz, hP, hK, hD0, hNw, hXl, hXu, hXn, hXt⟩ := hv
  have hx := B.exec
  have hb := B.bytes
  have hr := B.returns
  have hts := atoms_spec (ws := wsX10_hare) B.pre
  have hown : s.vm.findClass RX10 = some m.cls := findClass_of_methodNamed B.named
  have hlocks := B.notSynchronized
  subst hsz
  have hD := hD0.self (sz := s.heap.size)
  generalize hAe : va_A [(a0, .inr (10, [z0_tape, .ref a0_ground, z0_spareGround, z0_rule, z0_spareRule, z0_lines, z0_spareLines, z0_steps, z0_now, z0_trial, z0_past, z0_images, z0_round, z0_seating, z0_fitting, z0_imagesKept, z0_refusedSteps, .int v0_callsNoSuch, z0_callsIllegal])), (a0_ground, .inr (2, [z0_ground_formX, z0_ground_formY, z0_ground_foxX, z0_ground_foxY, z0_ground_seat, z0_ground_strength, z0_ground_debts, z0_ground_near, z0_ground_forms, .int v0_ground_hares, z0_ground_foxes, z0_ground_safe]))] s.heap.size = A at hD hXu hXn ⊢
  have hA : ∀ q : Nat, s.heap.size ≤ q → A q := fun q h => by rw [← hAe]; exact Or.inr h
  have hS : va_S A s.heap s.heap [] := va_S.rf
  have hP : va_P (dC, dI) vwCl [(a0, .inr (10, [z0_tape, .ref a0_ground, z0_spareGround, z0_rule, z0_spareRule, z0_lines, z0_spareLines, z0_steps, z0_now, z0_trial, z0_past, z0_images, z0_round, z0_seating, z0_fitting, z0_imagesKept, z0_refusedSteps, .int v0_callsNoSuch, z0_callsIllegal])), (a0_ground, .inr (2, [z0_ground_formX, z0_ground_formY, z0_ground_foxX, z0_ground_foxY, z0_ground_seat, z0_ground_strength, z0_ground_debts, z0_ground_near, z0_ground_forms, .int v0_ground_hares, z0_ground_foxes, z0_ground_safe]))] s.heap := hP
  have hl := lv_entry ([.ref a0, .int p1, .int p2]) (n := 3) (Nat.le_of_ble_eq_true rfl)
  rw [lg_entry_eq]
  generalize (lg_sl ([.ref a0, .int p1, .int p2]) ++ List.replicate (3 - (lg_sl ([.ref a0, .int p1, .int p2])).length) Slot.unset).toArray = ls at hl ⊢
  have hl : lv_has ls 3 [(0, .ref a0), (1, .int p1), (2, .int p2)] := hl
  have hY : cfY l s A := ⟨hXl, hXu, hXn, hXt⟩
  have hXs : cfX l s c A := ⟨hnt, hY⟩
  have C0 : cfx p s m _ meth c cX10_hare (some .int) wsX10_hare RX10 3 A (dC, dI) (kT cyB cyI cyJ cyP) ∧ cfX l s c A := ⟨⟨hx, hb, hr, hts, hown, hlocks, hml, hA, hK, hNw⟩, hXs⟩
  clear hAe
  obtain ⟨H, hH⟩ : ∃ H, H = s.heap := ⟨_, rfl⟩
  rw [← hH] at hP ⊢
  have hS : va_S A s.heap H [] := by rw [hH]; exact va_S.rf
  have hS := hS
  refine lv_aload_n hx hb dX10_hare_0 rfl (lv_at hl 0 rfl) ?_
  refine lv_iload_n hx hb dX10_hare_1 rfl (lv_at hl 1 rfl) ?_
  have hPc := hP.sub (ws' := [(a0, .inr (10, [z0_tape, .ref a0_ground, z0_spareGround, z0_rule, z0_spareRule, z0_lines, z0_spareLines, z0_steps, z0_now, z0_trial, z0_past, z0_images, z0_round, z0_seating, z0_fitting, z0_imagesKept, z0_refusedSteps, .int v0_callsNoSuch, z0_callsIllegal])), (a0_ground, .inr (2, [z0_ground_formX, z0_ground_formY, z0_ground_foxX, z0_ground_foxY, z0_ground_seat, z0_ground_strength, z0_ground_debts, z0_ground_near, z0_ground_forms, .int v0_ground_hares, z0_ground_foxes, z0_ground_safe]))]) [0, 1] rfl
  have hDc := hD.sub (ws' := [(a0, .inr (10, [z0_tape, .ref a0_ground, z0_spareGround, z0_rule, z0_spareRule, z0_lines, z0_spareLines, z0_steps, z0_now, z0_trial, z0_past, z0_images, z0_round, z0_seating, z0_fitting, z0_imagesKept, z0_refusedSteps, .int v0_callsNoSuch, z0_callsIllegal])), (a0_ground, .inr (2, [z0_ground_formX, z0_ground_formY, z0_ground_foxX, z0_ground_foxY, z0_ground_seat, z0_ground_strength, z0_ground_debts, z0_ground_near, z0_ground_forms, .int v0_ground_hares, z0_ground_foxes, z0_ground_safe]))]) [0, 1] (by decide) rfl
  have hFc := va_free (wc := [(a0, .inr (10, [z0_tape, .ref a0_ground, z0_spareGround, z0_rule, z0_spareRule, z0_lines, z0_spareLines, z0_steps, z0_now, z0_trial, z0_past, z0_images, z0_round, z0_seating, z0_fitting, z0_imagesKept, z0_refusedSteps, .int v0_callsNoSuch, z0_callsIllegal])), (a0_ground, .inr (2, [z0_ground_formX, z0_ground_formY, z0_ground_foxX, z0_ground_foxY, z0_ground_seat, z0_ground_strength, z0_ground_debts, z0_ground_near, z0_ground_forms, .int v0_ground_hares, z0_ground_foxes, z0_ground_safe]))]) hD hS hA [0, 1] rfl
  refine vx_callv (vx_runV (As := [.int p1]) (rest := []) ⟨hx, hb, hml, hown, hts⟩ (ck_X10_needHare l dC dI cyB cyI cyJ cyP a0 a0_ground H.size (z0_tape) (z0_spareGround) (z0_rule) (z0_spareRule) (z0_lines) (z0_spareLines) (z0_steps) (z0_now) (z0_trial) (z0_past) (z0_images) (z0_round) (z0_seating) (z0_fitting) (z0_imagesKept) (z0_refusedSteps) (z0_callsIllegal) (z0_ground_formX) (z0_ground_formY) (z0_ground_foxX) (z0_ground_foxY) (z0_ground_seat) (z0_ground_strength) (z0_ground_debts) (z0_ground_near) (z0_ground_forms) (z0_ground_foxes) (z0_ground_safe) v0_ground_hares v0_callsNoSuch p1 hw) (cwV 1 hts gX10_hare_X10_needHare rfl rfl rfl (by decide +kernel) ⟨Nat.le_of_ble_eq_true rfl, Nat.le_of_ble_eq_true rfl⟩) ⟨cPx_blind, va_recv hK hPc (ci := 10) (q0 := 0) rfl rfl, cPx_pre hPc hK hDc hNw hY hS hFc⟩ rfl rfl hl.1 rfl (lv_room (Nat.le_of_ble_eq_true rfl)) dX10_hare_2 ⟨Nat.le_of_ble_eq_true rfl, Nat.le_of_ble_eq_true rfl⟩) hS (fun q _ h => hFc q h) hFc (fun q _ h => hFc q h) (fun en ce q9 u t H1 locs ht hvm hpx hB hz1 hk1 hS hc9 hv9 hcl9 => ?_) (fun u t H1 locs ht hvm hw hB hz1 hk1 hS => ?_)
  · obtain ⟨x1, rfl⟩ : ∃ z, z = u := ⟨_, rfl⟩
    obtain ⟨hw, hP1, hK1, hD1⟩ := hB
    rw [ht] at hP1
    obtain ⟨hP, hD⟩ := va_join (wr := []) (w1 := [(a0, .inr (10, [z0_tape, .ref a0_ground, z0_spareGround, z0_rule, z0_spareRule, z0_lines, z0_spareLines, z0_steps, z0_now, z0_trial, z0_past, z0_images, z0_round, z0_seating, z0_fitting, z0_imagesKept, z0_refusedSteps, .int x1, z0_callsIllegal])), (a0_ground, .inr (2, [z0_ground_formX, z0_ground_formY, z0_ground_foxX, z0_ground_foxY, z0_ground_seat, z0_ground_strength, z0_ground_debts, z0_ground_near, z0_ground_forms, .int v0_ground_hares, z0_ground_foxes, z0_ground_safe]))]) hP hD [0, 1] [] rfl rfl (by decide) (by decide) hk1 hFc hP1 hD1
    have hP : va_P (dC, dI) vwCl [(a0, .inr (10, [z0_tape, .ref a0_ground, z0_spareGround, z0_rule, z0_spareRule, z0_lines, z0_spareLines, z0_steps, z0_now, z0_trial, z0_past, z0_images, z0_round, z0_seating, z0_fitting, z0_imagesKept, z0_refusedSteps, .int x1, z0_callsIllegal])), (a0_ground, .inr (2, [z0_ground_formX, z0_ground_formY, z0_ground_foxX, z0_ground_foxY, z0_ground_seat, z0_ground_strength, z0_ground_debts, z0_ground_near, z0_ground_forms, .int v0_ground_hares, z0_ground_foxes, z0_ground_safe]))] H1 := hP
    have hD : va_D A [(a0, .inr (10, [z0_tape, .ref a0_ground, z0_spareGround, z0_rule, z0_spareRule, z0_lines, z0_spareLines, z0_steps, z0_now, z0_trial, z0_past, z0_images, z0_round, z0_seating, z0_fitting, z0_imagesKept, z0_refusedSteps, .int x1, z0_callsIllegal])), (a0_ground, .inr (2, [z0_ground_formX, z0_ground_formY, z0_ground_foxX, z0_ground_foxY, z0_ground_seat, z0_ground_strength, z0_ground_debts, z0_ground_near, z0_ground_forms, .int v0_ground_hares, z0_ground_foxes, z0_ground_safe]))] := hD
    generalize H1 = H at hP hS hc9 ⊢
    exact vx_out (fun x hx9 => (hXs.1 x hx9).elim) hlocks hc9 hv9 hcl9 (fun t2 ht2 hal2 => ⟨(x1), trivial, ⟨hw, by rw [ht2]; exact hP, va_K.moved hal2 hK, hD⟩, hS.F ht2⟩) hS.2.2 (Nat.le_of_ble_eq_true rfl) (Nat.le_of_ble_eq_true rfl)
  obtain ⟨x1, rfl⟩ : ∃ z, z = u := ⟨_, rfl⟩
  obtain ⟨hP1, hK1, hD1⟩ := hB
  rw [ht] at hP1
  obtain ⟨hP, hD⟩ := va_join (wr := []) (w1 := [(a0, .inr (10, [z0_tape, .ref a0_ground, z0_spareGround, z0_rule, z0_spareRule, z0_lines, z0_spareLines, z0_steps, z0_now, z0_trial, z0_past, z0_images, z0_round, z0_seating, z0_fitting, z0_imagesKept, z0_refusedSteps, .int x1, z0_callsIllegal])), (a0_ground, .inr (2, [z0_ground_formX, z0_ground_formY, z0_ground_foxX, z0_ground_foxY, z0_ground_seat, z0_ground_strength, z0_ground_debts, z0_ground_near, z0_ground_forms, .int v0_ground_hares, z0_ground_foxes, z0_ground_safe]))]) hP hD [0, 1] [] rfl rfl (by decide) (by decide) hk1 hFc hP1 hD1
  have hP : va_P (dC, dI) vwCl [(a0, .inr (10, [z0_tape, .ref a0_ground, z0_spareGround, z0_rule, z0_spareRule, z0_lines, z0_spareLines, z0_steps, z0_now, z0_trial, z0_past, z0_images, z0_round, z0_seating, z0_fitting, z0_imagesKept, z0_refusedSteps, .int x1, z0_callsIllegal])), (a0_ground, .inr (2, [z0_ground_formX, z0_ground_formY, z0_ground_foxX, z0_ground_foxY, z0_ground_seat, z0_ground_strength, z0_ground_debts, z0_ground_near, z0_ground_forms, .int v0_ground_hares, z0_ground_foxes, z0_ground_safe]))] H1 := hP
  have hD : va_D A [(a0, .inr (10, [z0_tape, .ref a0_ground, z0_spareGround, z0_rule, z0_spareRule, z0_lines, z0_spareLines, z0_steps, z0_now, z0_trial, z0_past, z0_images, z0_round, z0_seating, z0_fitting, z0_imagesKept, z0_refusedSteps, .int x1, z0_callsIllegal])), (a0_ground, .inr (2, [z0_ground_formX, z0_ground_formY, z0_ground_foxX, z0_ground_foxY, z0_ground_seat, z0_ground_strength, z0_ground_debts, z0_ground_near, z0_ground_forms, .int v0_ground_hares, z0_ground_foxes, z0_ground_safe]))] := hD
  generalize H1 = H at hP hS ⊢
  exact False.elim hw
def wq_X10_hops (v0_ground_hares : Int32) (v0_callsNoSuch : Int32) (p1 : Int32) (p2 : Int32) (E : String → Int32 → Prop) (Q : Int32 → Int32 → Prop) : Prop := wq_X10_needHare v0_ground_hares v0_callsNoSuch p1 (fun en x1 => E en x1) (fun x1 => False)
set_option maxHeartbeats 4000000 in
set_option maxRecDepth 100000 in
theorem ck_X10_hops (l : Launch) (dC : Nat → ClassId) (dI : Nat → Nat → Nat) (cyB cyI cyJ cyP : ClassId) (a0 a0_ground : Nat) (sz : Nat) (z0_tape : Value) (z0_spareGround : Value) (z0_rule : Value) (z0_spareRule : Value) (z0_lines : Value) (z0_spareLines : Value) (z0_steps : Value) (z0_now : Value) (z0_trial : Value) (z0_past : Value) (z0_images : Value) (z0_round : Value) (z0_seating : Value) (z0_fitting : Value) (z0_imagesKept : Value) (z0_refusedSteps : Value) (z0_callsIllegal : Value) (z0_ground_formX : Value) (z0_ground_formY : Value) (z0_ground_foxX : Value) (z0_ground_foxY : Value) (z0_ground_seat : Value) (z0_ground_strength : Value) (z0_ground_debts : Value) (z0_ground_near : Value) (z0_ground_forms : Value) (z0_ground_foxes : Value) (z0_ground_safe : Value) (v0_ground_hares : Int32) (v0_callsNoSuch : Int32) (p1 : Int32) (p2 : Int32) {E : String → Int32 → Prop} {Q : Int32 → Int32 → Prop} (hw : wq_X10_hops v0_ground_hares v0_callsNoSuch p1 p2 E Q) : vx_Met l yX10_hops wsX10_hops ({ frames := 7, cells := 1, slots := 6, locals := 141 }) (va_Pc [.ref a0, .int p1, .int p2] (cPx l (dC, dI) (kT cyB cyI cyJ cyP) [(a0, .inr (10, [z0_tape, .ref a0_ground, z0_spareGround, z0_rule, z0_spareRule, z0_lines, z0_spareLines, z0_steps, z0_now, z0_trial, z0_past, z0_images, z0_round, z0_seating, z0_fitting, z0_imagesKept, z0_refusedSteps, .int v0_callsNoSuch, z0_callsIllegal])), (a0_ground, .inr (2, [z0_ground_formX, z0_ground_formY, z0_ground_foxX, z0_ground_foxY, z0_ground_seat, z0_ground_strength, z0_ground_debts, z0_ground_near, z0_ground_forms, .int v0_ground_hares, z0_ground_foxes, z0_ground_safe]))] sz)) (va_Qi (fun (r : Int32) (u : Int32) => Q r u) (cB (dC, dI) (kT cyB cyI cyJ cyP) (va_A [(a0, .inr (10, [z0_tape, .ref a0_ground, z0_spareGround, z0_rule, z0_spareRule, z0_lines, z0_spareLines, z0_steps, z0_now, z0_trial, z0_past, z0_images, z0_round, z0_seating, z0_fitting, z0_imagesKept, z0_refusedSteps, .int v0_callsNoSuch, z0_callsIllegal])), (a0_ground, .inr (2, [z0_ground_formX, z0_ground_formY, z0_ground_foxX, z0_ground_foxY, z0_ground_seat, z0_ground_strength, z0_ground_debts, z0_ground_near, z0_ground_forms, .int v0_ground_hares, z0_ground_foxes, z0_ground_safe]))] sz) (fun u : Int32 => ([(a0, .inr (10, [z0_tape, .ref a0_ground, z0_spareGround, z0_rule, z0_spareRule, z0_lines, z0_spareLines, z0_steps, z0_now, z0_trial, z0_past, z0_images, z0_round, z0_seating, z0_fitting, z0_imagesKept, z0_refusedSteps, .int u, z0_callsIllegal])), (a0_ground, .inr (2, [z0_ground_formX, z0_ground_formY, z0_ground_foxX, z0_ground_foxY, z0_ground_seat, z0_ground_strength, z0_ground_debts, z0_ground_near, z0_ground_forms, .int v0_ground_hares, z0_ground_foxes, z0_ground_safe]))] : va_W))) (va_A [(a0, .inr (10, [z0_tape, .ref a0_ground, z0_spareGround, z0_rule, z0_spareRule, z0_lines, z0_spareLines, z0_steps, z0_now, z0_trial, z0_past, z0_images, z0_round, z0_seating, z0_fitting, z0_imagesKept, z0_refusedSteps, .int v0_callsNoSuch, z0_callsIllegal])), (a0_ground, .inr (2, [z0_ground_formX, z0_ground_formY, z0_ground_foxX, z0_ground_foxY, z0_ground_seat, z0_ground_strength, z0_ground_debts, z0_ground_near, z0_ground_forms, .int v0_ground_hares, z0_ground_foxes, z0_ground_safe]))] sz)) (vx_X (fun _ => True) (fun (en : String) (u : Int32) (t : State) => E en u ∧ cB (dC, dI) (kT cyB cyI cyJ cyP) (va_A [(a0, .inr (10, [z0_tape, .ref a0_ground, z0_spareGround, z0_rule, z0_spareRule, z0_lines, z0_spareLines, z0_steps, z0_now, z0_trial, z0_past, z0_images, z0_round, z0_seating, z0_fitting, z0_imagesKept, z0_refusedSteps, .int v0_callsNoSuch, z0_callsIllegal])), (a0_ground, .inr (2, [z0_ground_formX, z0_ground_formY, z0_ground_foxX, z0_ground_foxY, z0_ground_seat, z0_ground_strength, z0_ground_debts, z0_ground_near, z0_ground_forms, .int v0_ground_hares, z0_ground_foxes, z0_ground_safe]))] sz) (fun u : Int32 => ([(a0, .inr (10, [z0_tape, .ref a0_ground, z0_spareGround, z0_rule, z0_spareRule, z0_lines, z0_spareLines, z0_steps, z0_now, z0_trial, z0_past, z0_images, z0_round, z0_seating, z0_fitting, z0_imagesKept, z0_refusedSteps, .int u, z0_callsIllegal])), (a0_ground, .inr (2, [z0_ground_formX, z0_ground_formY, z0_ground_foxX, z0_ground_foxY, z0_ground_seat, z0_ground_strength, z0_ground_debts, z0_ground_near, z0_ground_forms, .int v0_ground_hares, z0_ground_foxes, z0_ground_safe]))] : va_W)) u t) (va_A [(a0, .inr (10, [z0_tape, .ref a0_ground, z0_spareGround, z0_rule, z0_spareRule, z0_lines, z0_spareLines, z0_steps, z0_now, z0_trial, z0_past, z0_images, z0_round, z0_seating, z0_fitting, z0_imagesKept, z0_refusedSteps, .int v0_callsNoSuch, z0_callsIllegal])), (a0_ground, .inr (2, [z0_ground_formX, z0_ground_formY, z0_ground_foxX, z0_ground_foxY, z0_ground_seat, z0_ground_strength, z0_ground_debts, z0_ground_near, z0_ground_forms, .int v0_ground_hares, z0_ground_foxes, z0_ground_safe]))] sz)) 1 6 (va_A [(a0, .inr (10, [z0_tape, .ref a0_ground, z0_spareGround, z0_rule, z0_spareRule, z0_lines, z0_spareLines, z0_steps, z0_now, z0_trial, z0_past, z0_images, z0_round, z0_seating, z0_fitting, z0_imagesKept, z0_refusedSteps, .int v0_callsNoSuch, z0_callsIllegal])), (a0_ground, .inr (2, [z0_ground_formX, z0_ground_formY, z0_ground_foxX, z0_ground_foxY, z0_ground_seat, z0_ground_strength, z0_ground_debts, z0_ground_near, z0_ground_forms, .int v0_ground_hares, z0_ground_foxes, z0_ground_safe]))] sz) := by
  refine vx_ofW (cc := cX10_hops) (maxL := 3) (ret := (some .int)) (by decide) rfl ?_
  intro p e s m args below meth c s₁ B hml hnt hv
  obtain ⟨rfl, hsz, hP, hK, hD0, hNw, hXl, hXu, hXn, hXt⟩ := hv
  have hx := B.exec
  have hb := B.bytes
  have hr := B.returns
  have hts := atoms_spec (ws := wsX10_hops) B.pre
  have hown : s.vm.findClass RX10 = some m.cls := findClass_of_methodNamed B.named
  have hlocks := B.notSynchronized
  subst hsz
  have hD := hD0.self (sz := s.heap.size)
  generalize hAe : va_A [(a0, .inr (10, [z0_tape, .ref a0_ground, z0_spareGround, z0_rule, z0_spareRule, z0_lines, z0_spareLines, z0_steps, z0_now, z0_trial, z0_past, z0_images, z0_round, z0_seating, z0_fitting, z0_imagesKept, z0_refusedSteps, .int v0_callsNoSuch, z0_callsIllegal])), (a0_ground, .inr (2, [z0_ground_formX, z0_ground_formY, z0_ground_foxX, z0_ground_foxY, z0_ground_seat, z0_ground_strength, z0_ground_debts, z0_ground_near, z0_ground_forms, .int v0_ground_hares, z0_ground_foxes, z0_ground_safe]))] s.heap.size = A at hD hXu hXn ⊢
  have hA : ∀ q : Nat, s.heap.size ≤ q → A q := fun q h => by rw [← hAe]; exact Or.inr h
  have hS : va_S A s.heap s.heap [] := va_S.rf
  have hP : va_P (dC, dI) vwCl [(a0, .inr (10, [z0_tape, .ref a0_ground, z0_spareGround, z0_rule, z0_spareRule, z0_lines, z0_spareLines, z0_steps, z0_now, z0_trial, z0_past, z0_images, z0_round, z0_seating, z0_fitting, z0_imagesKept, z0_refusedSteps, .int v0_callsNoSuch, z0_callsIllegal])), (a0_ground, .inr (2, [z0_ground_formX, z0_ground_formY, z0_ground_foxX, z0_ground_foxY, z0_ground_seat, z0_ground_strength, z0_ground_debts, z0_ground_near, z0_ground_forms, .int v0_ground_hares, z0_ground_foxes, z0_ground_safe]))] s.heap := hP
  have hl := lv_entry ([.ref a0, .int p1, .int p2]) (n := 3) (Nat.le_of_ble_eq_true rfl)
  rw [lg_entry_eq]
  generalize (lg_sl ([.ref a0, .int p1, .int p2]) ++ List.replicate (3 - (lg_sl ([.ref a0, .int p1, .int p2])).length) Slot.unset).toArray = ls at hl ⊢
  have hl : lv_has ls 3 [(0, .ref a0), (1, .int p1), (2, .int p2)] := hl
  have hY : cfY l s A := ⟨hXl, hXu, hXn, hXt⟩
  have hXs : cfX l s c A := ⟨hnt, hY⟩
  have C0 : cfx p s m _ meth c cX10_hops (some .int) wsX10_hops RX10 3 A (dC, dI) (kT cyB cyI cyJ cyP) ∧ cfX l s c A := ⟨⟨hx, hb, hr, hts, hown, hlocks, hml, hA, hK, hNw⟩, hXs⟩
  clear hAe
  obtain ⟨H, hH⟩ : ∃ H, H = s.heap := ⟨_, rfl⟩
  rw [← hH] at hP ⊢
  have hS : va_S A s.heap H [] := by rw [hH]; exact va_S.rf
  have hS := hS
  refine lv_aload_n hx hb dX10_hops_0 rfl (lv_at hl 0 rfl) ?_
  refine lv_iload_n hx hb dX10_hops_1 rfl (lv_at hl 1 rfl) ?_
  have hPc := hP.sub (ws' := [(a0, .inr (10, [z0_tape, .ref a0_ground, z0_spareGround, z0_rule, z0_spareRule, z0_lines, z0_spareLines, z0_steps, z0_now, z0_trial, z0_past, z0_images, z0_round, z0_seating, z0_fitting, z0_imagesKept, z0_refusedSteps, .int v0_callsNoSuch, z0_callsIllegal])), (a0_ground, .inr (2, [z0_ground_formX, z0_ground_formY, z0_ground_foxX, z0_ground_foxY, z0_ground_seat, z0_ground_strength, z0_ground_debts, z0_ground_near, z0_ground_forms, .int v0_ground_hares, z0_ground_foxes, z0_ground_safe]))]) [0, 1] rfl
  have hDc := hD.sub (ws' := [(a0, .inr (10, [z0_tape, .ref a0_ground, z0_spareGround, z0_rule, z0_spareRule, z0_lines, z0_spareLines, z0_steps, z0_now, z0_trial, z0_past, z0_images, z0_round, z0_seating, z0_fitting, z0_imagesKept, z0_refusedSteps, .int v0_callsNoSuch, z0_callsIllegal])), (a0_ground, .inr (2, [z0_ground_formX, z0_ground_formY, z0_ground_foxX, z0_ground_foxY, z0_ground_seat, z0_ground_strength, z0_ground_debts, z0_ground_near, z0_ground_forms, .int v0_ground_hares, z0_ground_foxes, z0_ground_safe]))]) [0, 1] (by decide) rfl
  have hFc := va_free (wc := [(a0, .inr (10, [z0_tape, .ref a0_ground, z0_spareGround, z0_rule, z0_spareRule, z0_lines, z0_spareLines, z0_steps, z0_now, z0_trial, z0_past, z0_images, z0_round, z0_seating, z0_fitting, z0_imagesKept, z0_refusedSteps, .int v0_callsNoSuch, z0_callsIllegal])), (a0_ground, .inr (2, [z0_ground_formX, z0_ground_formY, z0_ground_foxX, z0_ground_foxY, z0_ground_seat, z0_ground_strength, z0_ground_debts, z0_ground_near, z0_ground_forms, .int v0_ground_hares, z0_ground_foxes, z0_ground_safe]))]) hD hS hA [0, 1] rfl
  refine vx_callv (vx_runV (As := [.int p1]) (rest := []) ⟨hx, hb, hml, hown, hts⟩ (ck_X10_needHare l dC dI cyB cyI cyJ cyP a0 a0_ground H.size (z0_tape) (z0_spareGround) (z0_rule) (z0_spareRule) (z0_lines) (z0_spareLines) (z0_steps) (z0_now) (z0_trial) (z0_past) (z0_images) (z0_round) (z0_seating) (z0_fitting) (z0_imagesKept) (z0_refusedSteps) (z0_callsIllegal) (z0_ground_formX) (z0_ground_formY) (z0_ground_foxX) (z0_ground_foxY) (z0_ground_seat) (z0_ground_strength) (z0_ground_debts) (z0_ground_near) (z0_ground_forms) (z0_ground_foxes) (z0_ground_safe) v0_ground_hares v0_callsNoSuch p1 hw) (cwV 1 hts gX10_hops_X10_needHare rfl rfl rfl (by decide +kernel) ⟨Nat.le_of_ble_eq_true rfl, Nat.le_of_ble_eq_true rfl⟩) ⟨cPx_blind, va_recv hK hPc (ci := 10) (q0 := 0) rfl rfl, cPx_pre hPc hK hDc hNw hY hS hFc⟩ rfl rfl hl.1 rfl (lv_room (Nat.le_of_ble_eq_true rfl)) dX10_hops_2 ⟨Nat.le_of_ble_eq_true rfl, Nat.le_of_ble_eq_true rfl⟩) hS (fun q _ h => hFc q h) hFc (fun q _ h => hFc q h) (fun en ce q9 u t H1 locs ht hvm hpx hB hz1 hk1 hS hc9 hv9 hcl9 => ?_) (fun u t H1 locs ht hvm hw hB hz1 hk1 hS => ?_)
  · obtain ⟨x1, rfl⟩ : ∃ z, z = u := ⟨_, rfl⟩
    obtain ⟨hw, hP1, hK1, hD1⟩ := hB
    rw [ht] at hP1
    obtain ⟨hP, hD⟩ := va_join (wr := []) (w1 := [(a0, .inr (10, [z0_tape, .ref a0_ground, z0_spareGround, z0_rule, z0_spareRule, z0_lines, z0_spareLines, z0_steps, z0_now, z0_trial, z0_past, z0_images, z0_round, z0_seating, z0_fitting, z0_imagesKept, z0_refusedSteps, .int x1, z0_callsIllegal])), (a0_ground, .inr (2, [z0_ground_formX, z0_ground_formY, z0_ground_foxX, z0_ground_foxY, z0_ground_seat, z0_ground_strength, z0_ground_debts, z0_ground_near, z0_ground_forms, .int v0_ground_hares, z0_ground_foxes, z0_ground_safe]))]) hP hD [0, 1] [] rfl rfl (by decide) (by decide) hk1 hFc hP1 hD1
    have hP : va_P (dC, dI) vwCl [(a0, .inr (10, [z0_tape, .ref a0_ground, z0_spareGround, z0_rule, z0_spareRule, z0_lines, z0_spareLines, z0_steps, z0_now, z0_trial, z0_past, z0_images, z0_round, z0_seating, z0_fitting, z0_imagesKept, z0_refusedSteps, .int x1, z0_callsIllegal])), (a0_ground, .inr (2, [z0_ground_formX, z0_ground_formY, z0_ground_foxX, z0_ground_foxY, z0_ground_seat, z0_ground_strength, z0_ground_debts, z0_ground_near, z0_ground_forms, .int v0_ground_hares, z0_ground_foxes, z0_ground_safe]))] H1 := hP
    have hD : va_D A [(a0, .inr (10, [z0_tape, .ref a0_ground, z0_spareGround, z0_rule, z0_spareRule, z0_lines, z0_spareLines, z0_steps, z0_now, z0_trial, z0_past, z0_images, z0_round, z0_seating, z0_fitting, z0_imagesKept, z0_refusedSteps, .int x1, z0_callsIllegal])), (a0_ground, .inr (2, [z0_ground_formX, z0_ground_formY, z0_ground_foxX, z0_ground_foxY, z0_ground_seat, z0_ground_strength, z0_ground_debts, z0_ground_near, z0_ground_forms, .int v0_ground_hares, z0_ground_foxes, z0_ground_safe]))] := hD
    generalize H1 = H at hP hS hc9 ⊢
    exact vx_out (fun x hx9 => (hXs.1 x hx9).elim) hlocks hc9 hv9 hcl9 (fun t2 ht2 hal2 => ⟨(x1), trivial, ⟨hw, by rw [ht2]; exact hP, va_K.moved hal2 hK, hD⟩, hS.F ht2⟩) hS.2.2 (Nat.le_of_ble_eq_true rfl) (Nat.le_of_ble_eq_true rfl)
  obtain ⟨x1, rfl⟩ : ∃ z, z = u := ⟨_, rfl⟩
  obtain ⟨hP1, hK1, hD1⟩ := hB
  rw [ht] at hP1
  obtain ⟨hP, hD⟩ := va_join (wr := []) (w1 := [(a0, .inr (10, [z0_tape, .ref a0_ground, z0_spareGround, z0_rule, z0_spareRule, z0_lines, z0_spareLines, z0_steps, z0_now, z0_trial, z0_past, z0_images, z0_round, z0_seating, z0_fitting, z0_imagesKept, z0_refusedSteps, .int x1, z0_callsIllegal])), (a0_ground, .inr (2, [z0_ground_formX, z0_ground_formY, z0_ground_foxX, z0_ground_foxY, z0_ground_seat, z0_ground_strength, z0_ground_debts, z0_ground_near, z0_ground_forms, .int v0_ground_hares, z0_ground_foxes, z0_ground_safe]))]) hP hD [0, 1] [] rfl rfl (by decide) (by decide) hk1 hFc hP1 hD1
  have hP : va_P (dC, dI) vwCl [(a0, .inr (10, [z0_tape, .ref a0_ground, z0_spareGround, z0_rule, z0_spareRule, z0_lines, z0_spareLines, z0_steps, z0_now, z0_trial, z0_past, z0_images, z0_round, z0_seating, z0_fitting, z0_imagesKept, z0_refusedSteps, .int x1, z0_callsIllegal])), (a0_ground, .inr (2, [z0_ground_formX, z0_ground_formY, z0_ground_foxX, z0_ground_foxY, z0_ground_seat, z0_ground_strength, z0_ground_debts, z0_ground_near, z0_ground_forms, .int v0_ground_hares, z0_ground_foxes, z0_ground_safe]))] H1 := hP
  have hD : va_D A [(a0, .inr (10, [z0_tape, .ref a0_ground, z0_spareGround, z0_rule, z0_spareRule, z0_lines, z0_spareLines, z0_steps, z0_now, z0_trial, z0_past, z0_images, z0_round, z0_seating, z0_fitting, z0_imagesKept, z0_refusedSteps, .int x1, z0_callsIllegal])), (a0_ground, .inr (2, [z0_ground_formX, z0_ground_formY, z0_ground_foxX, z0_ground_foxY, z0_ground_seat, z0_ground_strength, z0_ground_debts, z0_ground_near, z0_ground_forms, .int v0_ground_hares, z0_ground_foxes, z0_ground_safe]))] := hD
  generalize H1 = H at hP hS ⊢
  exact False.elim hw
theorem ui_X8_seesDigit_X8 : ∀ w ∈ u_ws RX8 TX8 7, w ∈ wsX8_seesDigit := by decide +kernel
theorem uw_X8_seesDigit_f31 : (.fieldLink RX8 31 "MarchHares$Tape" "at" "I" : Cond) ∈ wsX8_seesDigit := by decide +kernel
def wq_X8_seesDigit (v0_length : Int32) (v0_at : Int32)   (Q : Int32 → Prop) : Prop := wq_X8_skipBlanks v0_length v0_at   (wq_X8_digitAt v0_length  v0_at (fun r1 => ((r1 < 0 → (Q 0)) ∧ (¬ r1 < 0 → False))))
set_option maxHeartbeats 4000000 in
set_option maxRecDepth 100000 in
theorem ck_X8_seesDigit (l : Launch) (dC : Nat → ClassId) (dI : Nat → Nat → Nat) (cyB cyI cyJ cyP : ClassId) (a0 : Nat) (sz : Nat) (z0_bytes : Value) (z0_token : Value) (z0_filled : Value) (z0_fault : Value) (z0_faultPlace : Value) (v0_length : Int32) (v0_at : Int32)   {Q : Int32 → Prop} (hw : wq_X8_seesDigit v0_length v0_at   Q) : Met l yX8_seesDigit wsX8_seesDigit ({ frames := 1, cells := 0, slots := 0, locals := 21 }) (va_Pc [.ref a0] (cPc (dC, dI) (kT cyB cyI cyJ cyP) [(a0, .inr (8, [z0_bytes, .int v0_length, .int v0_at, z0_token, z0_filled, z0_fault, z0_faultPlace]))] sz)) (va_Qi (fun (r : Int32) (_ : Unit) => Q r ) (cB (dC, dI) (kT cyB cyI cyJ cyP) (va_A [(a0, .inr (8, [z0_bytes, .int v0_length, .int v0_at, z0_token, z0_filled, z0_fault, z0_faultPlace]))] sz) (fun u : Unit => ([(a0, .inr (8, [z0_bytes, .int v0_length, .int v0_at, z0_token, z0_filled, z0_fault, z0_faultPlace]))] : va_W))) (va_A [(a0, .inr (8, [z0_bytes, .int v0_length, .int v0_at, z0_token, z0_filled, z0_fault, z0_faultPlace]))] sz)) 0 0 (va_A [(a0, .inr (8, [z0_bytes, .int v0_length, .int v0_at, z0_token, z0_filled, z0_fault, z0_faultPlace]))] sz) := by
  refine Met.ofW (cc := cX8_seesDigit) (maxL := 1) (ret := (some .boolean)) (by decide) rfl ?_
  intro p e s m args below meth c s₁ B hml hv
  obtain ⟨rfl, hsz, hP, hK, hD0, hNw⟩ := hv
  have hx := B.exec
  have hb := B.bytes
  have hr := B.returns
  have hts := atoms_spec (ws := wsX8_seesDigit) B.pre
  have hown : s.vm.findClass RX8 = some m.cls := findClass_of_methodNamed B.named
  have hlocks := B.notSynchronized
  subst hsz
  have hD := hD0.self (sz := s.heap.size)
  generalize hAe : va_A [(a0, .inr (8, [z0_bytes, .int v0_length, .int v0_at, z0_token, z0_filled, z0_fault, z0_faultPlace]))] s.heap.size = A at hD ⊢
  have hA : ∀ q : Nat, s.heap.size ≤ q → A q := fun q h => by rw [← hAe]; exact Or.inr h
  have hS : va_S A s.heap s.heap [] := va_S.rf
  have hP : va_P (dC, dI) vwCl [(a0, .inr (8, [z0_bytes, .int v0_length, .int v0_at, z0_token, z0_filled, z0_fault, z0_faultPlace]))] s.heap := hP
  have hl := lv_entry ([.ref a0]) (n := 1) (Nat.le_of_ble_eq_true rfl)
  rw [lg_entry_eq]
  generalize (lg_sl ([.ref a0]) ++ List.replicate (1 - (lg_sl ([.ref a0])).length) Slot.unset).toArray = ls at hl ⊢
  have hl : lv_has ls 1 [(0, .ref a0)] := hl
  have C0 : cfx p s m _ meth c cX8_seesDigit (some .boolean) wsX8_seesDigit RX8 1 A (dC, dI) (kT cyB cyI cyJ cyP) := ⟨hx, hb, hr, hts, hown, hlocks, hml, hA, hK, hNw⟩
  clear hAe
  obtain ⟨H, hH⟩ : ∃ H, H = s.heap := ⟨_, rfl⟩
  rw [← hH] at hP ⊢
  have hS : va_S A s.heap H [] := by rw [hH]; exact va_S.rf
  have hS := hS
  refine lv_aload_n hx hb dX8_seesDigit_0 rfl (lv_at hl 0 rfl) ?_
  have hPc := hP.sub (ws' := [(a0, .inr (8, [z0_bytes, .int v0_length, .int v0_at, z0_token, z0_filled, z0_fault, z0_faultPlace]))]) [0] rfl
  have hDc := hD.sub (ws' := [(a0, .inr (8, [z0_bytes, .int v0_length, .int v0_at, z0_token, z0_filled, z0_fault, z0_faultPlace]))]) [0] (by decide) rfl
  have hFc := va_free (wc := [(a0, .inr (8, [z0_bytes, .int v0_length, .int v0_at, z0_token, z0_filled, z0_fault, z0_faultPlace]))]) hD hS hA [0] rfl
  refine va_callv (va_runV (As := []) (rest := []) ⟨hx, hb, hml, hown, hts⟩ (ck_X8_skipBlanks l dC dI cyB cyI cyJ cyP a0 H.size (z0_bytes) (z0_token) (z0_filled) (z0_fault) (z0_faultPlace) v0_length v0_at   hw) (cwV 0 hts gX8_seesDigit_X8_skipBlanks rfl rfl rfl (by decide +kernel) ⟨Nat.le_of_ble_eq_true rfl, Nat.le_of_ble_eq_true rfl⟩) ⟨cPc_blind, va_recv hK hPc (ci := 8) (q0 := 0) rfl rfl, cPc_pre hPc hK hDc hNw⟩ rfl rfl hl.1 rfl (lv_room (Nat.le_of_ble_eq_true rfl)) dX8_seesDigit_1 ⟨Nat.le_of_ble_eq_true rfl, Nat.le_of_ble_eq_true rfl⟩) hS (fun q _ h => hFc q h) hFc (fun u t H1 locs ht hvm hw hB hz1 hk1 hS => ?_)
  obtain ⟨hP1, hK1, hD1⟩ := hB
  rw [ht] at hP1
  obtain ⟨hP, hD⟩ := va_join (wr := []) (w1 := [(a0, .inr (8, [z0_bytes, .int v0_length, .int v0_at, z0_token, z0_filled, z0_fault, z0_faultPlace]))]) hP hD [0] [] rfl rfl (by decide) (by decide) hk1 hFc hP1 hD1
  have hP : va_P (dC, dI) vwCl [(a0, .inr (8, [z0_bytes, .int v0_length, .int v0_at, z0_token, z0_filled, z0_fault, z0_faultPlace]))] H1 := hP
  have hD : va_D A [(a0, .inr (8, [z0_bytes, .int v0_length, .int v0_at, z0_token, z0_filled, z0_fault, z0_faultPlace]))] := hD
  generalize H1 = H at hP hS ⊢
  refine lv_aload_n hx hb dX8_seesDigit_4 rfl (lv_at hl 0 rfl) ?_
  refine lv_aload_n hx hb dX8_seesDigit_5 rfl (lv_at hl 0 rfl) ?_
  refine va_get (D := (dC, dI)) (ci := 8) (v := .int v0_at) (C := RX8) (T := TX8) (N := 7) hx hb hts ui_X8_seesDigit_X8 hown hK hP 0 rfl rfl 2 (by decide) (hts _ uw_X8_seesDigit_f31) (fun _ h9 => h9) rfl dX8_seesDigit_6 ?_
  have hPc := hP.sub (ws' := [(a0, .inr (8, [z0_bytes, .int v0_length, .int v0_at, z0_token, z0_filled, z0_fault, z0_faultPlace]))]) [0] rfl
  have hDc := hD.sub (ws' := [(a0, .inr (8, [z0_bytes, .int v0_length, .int v0_at, z0_token, z0_filled, z0_fault, z0_faultPlace]))]) [0] (by decide) rfl
  have hFc := va_free (wc := [(a0, .inr (8, [z0_bytes, .int v0_length, .int v0_at, z0_token, z0_filled, z0_fault, z0_faultPlace]))]) hD hS hA [0] rfl
  refine va_calli (va_runV (As := [.int v0_at]) (rest := []) ⟨hx, hb, hml, hown, hts⟩ (ck_X8_digitAt l dC dI cyB cyI cyJ cyP a0 H.size (z0_bytes) (.int v0_at) (z0_token) (z0_filled) (z0_fault) (z0_faultPlace) v0_length  v0_at hw) (cwV 1 hts gX8_seesDigit_X8_digitAt rfl rfl rfl (by decide +kernel) ⟨Nat.le_of_ble_eq_true rfl, Nat.le_of_ble_eq_true rfl⟩) ⟨cPc_blind, va_recv hK hPc (ci := 8) (q0 := 0) rfl rfl, cPc_pre hPc hK hDc hNw⟩ rfl rfl hl.1 rfl (lv_room (Nat.le_of_ble_eq_true rfl)) dX8_seesDigit_9 ⟨Nat.le_of_ble_eq_true rfl, Nat.le_of_ble_eq_true rfl⟩) hS (fun q _ h => hFc q h) hFc (fun r1 u t H1 locs ht hvm hw hB hz1 hk1 hS => ?_)
  obtain ⟨hP1, hK1, hD1⟩ := hB
  rw [ht] at hP1
  obtain ⟨hP, hD⟩ := va_join (wr := []) (w1 := [(a0, .inr (8, [z0_bytes, .int v0_length, .int v0_at, z0_token, z0_filled, z0_fault, z0_faultPlace]))]) hP hD [0] [] rfl rfl (by decide) (by decide) hk1 hFc hP1 hD1
  have hP : va_P (dC, dI) vwCl [(a0, .inr (8, [z0_bytes, .int v0_length, .int v0_at, z0_token, z0_filled, z0_fault, z0_faultPlace]))] H1 := hP
  have hD : va_D A [(a0, .inr (8, [z0_bytes, .int v0_length, .int v0_at, z0_token, z0_filled, z0_fault, z0_faultPlace]))] := hD
  generalize H1 = H at hP hS ⊢
  refine lv_if_lt (tgt := 19) hx hb dX8_seesDigit_12 (by decide) (fun c2 => ?_) (fun c2 => ?_)
  · have hw := hw.1 c2
    refine lv_iconst (v := 0) hx hb dX8_seesDigit_19 (by decide) ?_
    exact ((W.zret (v := 0) hx hb hr rfl (fun t ht hW => ⟨⟨0, (), rfl, hw, by rw [ht]; exact hP, va_K.moved hW.alike hK, hD⟩, hS.F ht⟩) hS.2.2 dX8_seesDigit_20))
  · have hw := hw.2 c2
    exact False.elim hw
def wq_X8_needsEnd (v0_length : Int32) (v0_at : Int32)   (Q : Prop) : Prop := wq_X8_isEnded v0_length v0_at   (fun r1 => ((¬ r1 = 0 → Q) ∧ (r1 = 0 → False)))
set_option maxHeartbeats 4000000 in
set_option maxRecDepth 100000 in
theorem ck_X8_needsEnd (l : Launch) (dC : Nat → ClassId) (dI : Nat → Nat → Nat) (cyB cyI cyJ cyP : ClassId) (a0 : Nat) (sz : Nat) (z0_bytes : Value) (z0_token : Value) (z0_filled : Value) (z0_fault : Value) (z0_faultPlace : Value) (v0_length : Int32) (v0_at : Int32)   {Q : Prop} (hw : wq_X8_needsEnd v0_length v0_at   Q) : Met l yX8_needsEnd wsX8_needsEnd ({ frames := 2, cells := 0, slots := 0, locals := 40 }) (va_Pc [.ref a0] (cPc (dC, dI) (kT cyB cyI cyJ cyP) [(a0, .inr (8, [z0_bytes, .int v0_length, .int v0_at, z0_token, z0_filled, z0_fault, z0_faultPlace]))] sz)) (va_Qv (fun (_ : Unit) => Q ) (cB (dC, dI) (kT cyB cyI cyJ cyP) (va_A [(a0, .inr (8, [z0_bytes, .int v0_length, .int v0_at, z0_token, z0_filled, z0_fault, z0_faultPlace]))] sz) (fun u : Unit => ([(a0, .inr (8, [z0_bytes, .int v0_length, .int v0_at, z0_token, z0_filled, z0_fault, z0_faultPlace]))] : va_W))) (va_A [(a0, .inr (8, [z0_bytes, .int v0_length, .int v0_at, z0_token, z0_filled, z0_fault, z0_faultPlace]))] sz)) 0 0 (va_A [(a0, .inr (8, [z0_bytes, .int v0_length, .int v0_at, z0_token, z0_filled, z0_fault, z0_faultPlace]))] sz) := by
  refine Met.ofW (cc := cX8_needsEnd) (maxL := 1) (ret := none) (by decide) rfl ?_
  intro p e s m args below meth c s₁ B hml hv
  obtain ⟨rfl, hsz, hP, hK, hD0, hNw⟩ := hv
  have hx := B.exec
  have hb := B.bytes
  have hr := B.returns
  have hts := atoms_spec (ws := wsX8_needsEnd) B.pre
  have hown : s.vm.findClass RX8 = some m.cls := findClass_of_methodNamed B.named
  have hlocks := B.notSynchronized
  subst hsz
  have hD := hD0.self (sz := s.heap.size)
  generalize hAe : va_A [(a0, .inr (8, [z0_bytes, .int v0_length, .int v0_at, z0_token, z0_filled, z0_fault, z0_faultPlace]))] s.heap.size = A at hD ⊢
  have hA : ∀ q : Nat, s.heap.size ≤ q → A q := fun q h => by rw [← hAe]; exact Or.inr h
  have hS : va_S A s.heap s.heap [] := va_S.rf
  have hP : va_P (dC, dI) vwCl [(a0, .inr (8, [z0_bytes, .int v0_length, .int v0_at, z0_token, z0_filled, z0_fault, z0_faultPlace]))] s.heap := hP
  have hl := lv_entry ([.ref a0]) (n := 1) (Nat.le_of_ble_eq_true rfl)
  rw [lg_entry_eq]
  generalize (lg_sl ([.ref a0]) ++ List.replicate (1 - (lg_sl ([.ref a0])).length) Slot.unset).toArray = ls at hl ⊢
  have hl : lv_has ls 1 [(0, .ref a0)] := hl
  have C0 : cfx p s m _ meth c cX8_needsEnd none wsX8_needsEnd RX8 1 A (dC, dI) (kT cyB cyI cyJ cyP) := ⟨hx, hb, hr, hts, hown, hlocks, hml, hA, hK, hNw⟩
  clear hAe
  obtain ⟨H, hH⟩ : ∃ H, H = s.heap := ⟨_, rfl⟩
  rw [← hH] at hP ⊢
  have hS : va_S A s.heap H [] := by rw [hH]; exact va_S.rf
  have hS := hS
  refine lv_aload_n hx hb dX8_needsEnd_0 rfl (lv_at hl 0 rfl) ?_
  have hPc := hP.sub (ws' := [(a0, .inr (8, [z0_bytes, .int v0_length, .int v0_at, z0_token, z0_filled, z0_fault, z0_faultPlace]))]) [0] rfl
  have hDc := hD.sub (ws' := [(a0, .inr (8, [z0_bytes, .int v0_length, .int v0_at, z0_token, z0_filled, z0_fault, z0_faultPlace]))]) [0] (by decide) rfl
  have hFc := va_free (wc := [(a0, .inr (8, [z0_bytes, .int v0_length, .int v0_at, z0_token, z0_filled, z0_fault, z0_faultPlace]))]) hD hS hA [0] rfl
  refine va_calli (va_runV (As := []) (rest := []) ⟨hx, hb, hml, hown, hts⟩ (ck_X8_isEnded l dC dI cyB cyI cyJ cyP a0 H.size (z0_bytes) (z0_token) (z0_filled) (z0_fault) (z0_faultPlace) v0_length v0_at   hw) (cwV 0 hts gX8_needsEnd_X8_isEnded rfl rfl rfl (by decide +kernel) ⟨Nat.le_of_ble_eq_true rfl, Nat.le_of_ble_eq_true rfl⟩) ⟨cPc_blind, va_recv hK hPc (ci := 8) (q0 := 0) rfl rfl, cPc_pre hPc hK hDc hNw⟩ rfl rfl hl.1 rfl (lv_room (Nat.le_of_ble_eq_true rfl)) dX8_needsEnd_1 ⟨Nat.le_of_ble_eq_true rfl, Nat.le_of_ble_eq_true rfl⟩) hS (fun q _ h => hFc q h) hFc (fun r1 u t H1 locs ht hvm hw hB hz1 hk1 hS => ?_)
  obtain ⟨hP1, hK1, hD1⟩ := hB
  rw [ht] at hP1
  obtain ⟨hP, hD⟩ := va_join (wr := []) (w1 := [(a0, .inr (8, [z0_bytes, .int v0_length, .int v0_at, z0_token, z0_filled, z0_fault, z0_faultPlace]))]) hP hD [0] [] rfl rfl (by decide) (by decide) hk1 hFc hP1 hD1
  have hP : va_P (dC, dI) vwCl [(a0, .inr (8, [z0_bytes, .int v0_length, .int v0_at, z0_token, z0_filled, z0_fault, z0_faultPlace]))] H1 := hP
  have hD : va_D A [(a0, .inr (8, [z0_bytes, .int v0_length, .int v0_at, z0_token, z0_filled, z0_fault, z0_faultPlace]))] := hD
  generalize H1 = H at hP hS ⊢
  refine lv_if_ne (tgt := 11) hx hb dX8_needsEnd_4 (by decide) (fun c2 => ?_) (fun c2 => ?_)
  · have hw := hw.1 c2
    exact ((W.vret hx hb hr (fun t ht hW => ⟨⟨(), rfl, hw, by rw [ht]; exact hP, va_K.moved hW.alike hK, hD⟩, hS.F ht⟩) hS.2.2 dX8_needsEnd_11))
  · have hw := hw.2 c2
    exact False.elim hw
theorem ui_X3_lookAhead_X3 : ∀ w ∈ u_ws RX3 TX3 11, w ∈ wsX3_lookAhead := by decide +kernel
theorem uw_X3_lookAhead_f40 : (.fieldLink RX3 40 "MarchHares$Fitting" "forms" "I" : Cond) ∈ wsX3_lookAhead := by decide +kernel
theorem uw_X3_lookAhead_f82 : (.fieldLink RX3 82 "MarchHares$Fitting" "lookForm" "I" : Cond) ∈ wsX3_lookAhead := by decide +kernel
theorem uw_X3_lookAhead_f85 : (.fieldLink RX3 85 "MarchHares$Fitting" "lookWorst" "I" : Cond) ∈ wsX3_lookAhead := by decide +kernel
def wl_X3_lookAhead_12 (v0_forms : Int32) (Q : Int32 → Int32 → Prop)  : Nat → Int32 → Int32 → Int32 → Prop
  | 0, _, _, _ => False
  | n + 1, v0_lookForm, v0_lookWorst, l1 => ((v0_forms ≤ l1 → (Q v0_lookForm v0_lookWorst)) ∧ (¬ v0_forms ≤ l1 → False))
set_option maxHeartbeats 4000000 in
set_option maxRecDepth 100000 in
theorem kl_X3_lookAhead_12 {p : Program} {l : Launch} {e : Env} {s : State} {m : MethodId} {args : Array Value} {below : List Frame} {meth : Method} {c : Code} {A : Nat → Prop} (dC : Nat → ClassId) (dI : Nat → Nat → Nat) (cyB cyI cyJ cyP : ClassId) (a0 : Nat) (z0_seated : Value) (z0_sits : Value) (z0_fittingForms : Value) (z0_tally : Value) (z0_hares : Value) (z0_book : Value) (z0_many : Value) (z0_first : Value) (v0_forms : Int32) (Q : Int32 → Int32 → Prop)  (C0 : cfx p s m args meth c cX3_lookAhead none wsX3_lookAhead RX3 3 A (dC, dI) (kT cyB cyI cyJ cyP)) : ∀ (n : Nat) (H : Heap) (locs : List Loc) (ls : Array Slot) (v0_lookForm : Int32) (v0_lookWorst : Int32) (l1 : Int32), va_P (dC, dI) vwCl [(a0, .inr (3, [z0_seated, z0_sits, z0_fittingForms, z0_tally, z0_hares, .int v0_forms, z0_book, z0_many, z0_first, .int v0_lookForm, .int v0_lookWorst]))] H → va_D A [(a0, .inr (3, [z0_seated, z0_sits, z0_fittingForms, z0_tally, z0_hares, .int v0_forms, z0_book, z0_many, z0_first, .int v0_lookForm, .int v0_lookWorst]))] → va_S A s.heap H locs → lv_has ls 3 [(0, .ref a0), (1, .int l1)] → wl_X3_lookAhead_12 v0_forms Q  n v0_lookForm v0_lookWorst l1 → W p l e (headSpec wsX3_lookAhead ({ frames := 0, cells := 0, slots := 0, locals := 0 })).room s m args below meth c H locs 0 0 (MQ below (va_Qv (fun (u : Int32 × Int32) => Q u.1 u.2) (cB (dC, dI) (kT cyB cyI cyJ cyP) A (fun u : Int32 × Int32 => ([(a0, .inr (3, [z0_seated, z0_sits, z0_fittingForms, z0_tally, z0_hares, .int v0_forms, z0_book, z0_many, z0_first, .int u.1, .int u.2]))] : va_W))) A) args s 0 0 A) (F0 m 12 ls []) := by
  obtain ⟨hx, hb, hr, hts, hown, hlocks, hml, hA, hK, hNw⟩ := id C0
  intro n
  induction n with
  | zero => intro H locs ls v0_lookForm v0_lookWorst l1 hP hD hS hl hw; exact False.elim hw
  | succ n ih =>
    intro H locs ls v0_lookForm v0_lookWorst l1 hP hD hS hl hw
    refine lv_iload_n hx hb dX3_lookAhead_12 rfl (lv_at hl 1 rfl) ?_
    refine lv_aload_n hx hb dX3_lookAhead_13 rfl (lv_at hl 0 rfl) ?_
    refine va_get (D := (dC, dI)) (ci := 3) (v := .int v0_forms) (C := RX3) (T := TX3) (N := 11) hx hb hts ui_X3_lookAhead_X3 hown hK hP 0 rfl rfl 5 (by decide) (hts _ uw_X3_lookAhead_f40) (fun _ h9 => h9) rfl dX3_lookAhead_14 ?_
    refine lv_icmp_ge (tgt := 76) hx hb dX3_lookAhead_17 (by decide) (fun c1 => ?_) (fun c1 => ?_)
    · have hw := hw.1 c1
      exact ((W.vret hx hb hr (fun t ht hW => ⟨⟨(v0_lookForm, v0_lookWorst), rfl, hw, by rw [ht]; exact hP, va_K.moved hW.alike hK, hD⟩, hS.F ht⟩) hS.2.2 dX3_lookAhead_76))
    · have hw := hw.2 c1
      exact False.elim hw
def wq_X3_lookAhead (v0_forms : Int32) (v0_lookForm : Int32) (v0_lookWorst : Int32)  (Q : Int32 → Int32 → Prop) : Prop := (∃ k9 : Nat, wl_X3_lookAhead_12 v0_forms Q  k9 (-1) (-1) 0)
set_option maxHeartbeats 4000000 in
set_option maxRecDepth 100000 in
theorem ck_X3_lookAhead (l : Launch) (dC : Nat → ClassId) (dI : Nat → Nat → Nat) (cyB cyI cyJ cyP : ClassId) (a0 : Nat) (sz : Nat) (z0_seated : Value) (z0_sits : Value) (z0_fittingForms : Value) (z0_tally : Value) (z0_hares : Value) (z0_book : Value) (z0_many : Value) (z0_first : Value) (v0_forms : Int32) (v0_lookForm : Int32) (v0_lookWorst : Int32)  {Q : Int32 → Int32 → Prop} (hw : wq_X3_lookAhead v0_forms v0_lookForm v0_lookWorst  Q) : Met l yX3_lookAhead wsX3_lookAhead ({ frames := 0, cells := 0, slots := 0, locals := 0 }) (va_Pc [.ref a0] (cPc (dC, dI) (kT cyB cyI cyJ cyP) [(a0, .inr (3, [z0_seated, z0_sits, z0_fittingForms, z0_tally, z0_hares, .int v0_forms, z0_book, z0_many, z0_first, .int v0_lookForm, .int v0_lookWorst]))] sz)) (va_Qv (fun (u : Int32 × Int32) => Q u.1 u.2) (cB (dC, dI) (kT cyB cyI cyJ cyP) (va_A [(a0, .inr (3, [z0_seated, z0_sits, z0_fittingForms, z0_tally, z0_hares, .int v0_forms, z0_book, z0_many, z0_first, .int v0_lookForm, .int v0_lookWorst]))] sz) (fun u : Int32 × Int32 => ([(a0, .inr (3, [z0_seated, z0_sits, z0_fittingForms, z0_tally, z0_hares, .int v0_forms, z0_book, z0_many, z0_first, .int u.1, .int u.2]))] : va_W))) (va_A [(a0, .inr (3, [z0_seated, z0_sits, z0_fittingForms, z0_tally, z0_hares, .int v0_forms, z0_book, z0_many, z0_first, .int v0_lookForm, .int v0_lookWorst]))] sz)) 0 0 (va_A [(a0, .inr (3, [z0_seated, z0_sits, z0_fittingForms, z0_tally, z0_hares, .int v0_forms, z0_book, z0_many, z0_first, .int v0_lookForm, .int v0_lookWorst]))] sz) := by
  refine Met.ofW (cc := cX3_lookAhead) (maxL := 3) (ret := none) (by decide) rfl ?_
  intro p e s m args below meth c s₁ B hml hv
  obtain ⟨rfl, hsz, hP, hK, hD0, hNw⟩ := hv
  have hx := B.exec
  have hb := B.bytes
  have hr := B.returns
  have hts := atoms_spec (ws := wsX3_lookAhead) B.pre
  have hown : s.vm.findClass RX3 = some m.cls := findClass_of_methodNamed B.named
  have hlocks := B.notSynchronized
  subst hsz
  have hD := hD0.self (sz := s.heap.size)
  generalize hAe : va_A [(a0, .inr (3, [z0_seated, z0_sits, z0_fittingForms, z0_tally, z0_hares, .int v0_forms, z0_book, z0_many, z0_first, .int v0_lookForm, .int v0_lookWorst]))] s.heap.size = A at hD ⊢
  have hA : ∀ q : Nat, s.heap.size ≤ q → A q := fun q h => by rw [← hAe]; exact Or.inr h
  have hS : va_S A s.heap s.heap [] := va_S.rf
  have hP : va_P (dC, dI) vwCl [(a0, .inr (3, [z0_seated, z0_sits, z0_fittingForms, z0_tally, z0_hares, .int v0_forms, z0_book, z0_many, z0_first, .int v0_lookForm, .int v0_lookWorst]))] s.heap := hP
  have hl := lv_entry ([.ref a0]) (n := 3) (Nat.le_of_ble_eq_true rfl)
  rw [lg_entry_eq]
  generalize (lg_sl ([.ref a0]) ++ List.replicate (3 - (lg_sl ([.ref a0])).length) Slot.unset).toArray = ls at hl ⊢
  have hl : lv_has ls 3 [(0, .ref a0)] := hl
  have C0 : cfx p s m _ meth c cX3_lookAhead none wsX3_lookAhead RX3 3 A (dC, dI) (kT cyB cyI cyJ cyP) := ⟨hx, hb, hr, hts, hown, hlocks, hml, hA, hK, hNw⟩
  clear hAe
  obtain ⟨H, hH⟩ : ∃ H, H = s.heap := ⟨_, rfl⟩
  rw [← hH] at hP ⊢
  have hS : va_S A s.heap H [] := by rw [hH]; exact va_S.rf
  have hS := hS
  refine lv_aload_n hx hb dX3_lookAhead_0 rfl (lv_at hl 0 rfl) ?_
  refine lv_iconst (v := (-1)) hx hb dX3_lookAhead_1 (by decide) ?_
  refine va_put (D := (dC, dI)) (ci := 3) (v := .int (-1)) (ty := .int) (C := RX3) (T := TX3) (N := 11) hx hb hts ui_X3_lookAhead_X3 tyX3 tyX3_ok nmX3 hown hK hP hD hS 0 rfl rfl 9 (by decide) (hts _ uw_X3_lookAhead_f82) (fun _ h9 => h9) rfl (by decide +kernel) rfl rfl (Nat.le_of_ble_eq_true rfl) dX3_lookAhead_2 (fun H locs hP hD hS => ?_)
  have hP : va_P (dC, dI) vwCl [(a0, .inr (3, [z0_seated, z0_sits, z0_fittingForms, z0_tally, z0_hares, .int v0_forms, z0_book, z0_many, z0_first, .int (-1), .int v0_lookWorst]))] H := hP
  have hD : va_D A [(a0, .inr (3, [z0_seated, z0_sits, z0_fittingForms, z0_tally, z0_hares, .int v0_forms, z0_book, z0_many, z0_first, .int (-1), .int v0_lookWorst]))] := hD
  refine lv_aload_n hx hb dX3_lookAhead_5 rfl (lv_at hl 0 rfl) ?_
  refine lv_iconst (v := (-1)) hx hb dX3_lookAhead_6 (by decide) ?_
  refine va_put (D := (dC, dI)) (ci := 3) (v := .int (-1)) (ty := .int) (C := RX3) (T := TX3) (N := 11) hx hb hts ui_X3_lookAhead_X3 tyX3 tyX3_ok nmX3 hown hK hP hD hS 0 rfl rfl 10 (by decide) (hts _ uw_X3_lookAhead_f85) (fun _ h9 => h9) rfl (by decide +kernel) rfl rfl (Nat.le_of_ble_eq_true rfl) dX3_lookAhead_7 (fun H locs hP hD hS => ?_)
  have hP : va_P (dC, dI) vwCl [(a0, .inr (3, [z0_seated, z0_sits, z0_fittingForms, z0_tally, z0_hares, .int v0_forms, z0_book, z0_many, z0_first, .int (-1), .int (-1)]))] H := hP
  have hD : va_D A [(a0, .inr (3, [z0_seated, z0_sits, z0_fittingForms, z0_tally, z0_hares, .int v0_forms, z0_book, z0_many, z0_first, .int (-1), .int (-1)]))] := hD
  refine lv_iconst (v := 0) hx hb dX3_lookAhead_10 (by decide) ?_
  refine lv_istore_n (lv' := [(1, .int 0), (0, .ref a0)]) hx hb dX3_lookAhead_11 rfl hl (by decide) rfl (fun ls hl => ?_)
  obtain ⟨n9, hw⟩ := hw
  exact kl_X3_lookAhead_12 dC dI cyB cyI cyJ cyP a0 z0_seated z0_sits z0_fittingForms z0_tally z0_hares z0_book z0_many z0_first v0_forms Q  C0 n9 _ _ _ (-1) (-1) 0 hP hD hS (lv_sub hl [1, 0] rfl) hw
theorem ui_X10_look_X10 : ∀ w ∈ u_ws RX10 TX10 19, w ∈ wsX10_look := by decide +kernel
theorem ui_X10_look_X3 : ∀ w ∈ u_ws RX3 TX3 11, w ∈ wsX10_look := by decide +kernel
theorem uw_X10_look_f349 : (.fieldLink RX10 349 "MarchHares$Fitting" "lookForm" "I" : Cond) ∈ wsX10_look := by decide +kernel
theorem uw_X10_look_f352 : (.fieldLink RX10 352 "MarchHares$Fitting" "lookWorst" "I" : Cond) ∈ wsX10_look := by decide +kernel
theorem uw_X10_look_f39 : (.fieldLink RX10 39 "MarchHares" "lines" "LMarchHares$Book;" : Cond) ∈ wsX10_look := by decide +kernel
theorem uw_X10_look_f58 : (.fieldLink RX10 58 "MarchHares" "now" "LMarchHares$Days;" : Cond) ∈ wsX10_look := by decide +kernel
theorem uw_X10_look_f93 : (.fieldLink RX10 93 "MarchHares" "fitting" "LMarchHares$Fitting;" : Cond) ∈ wsX10_look := by decide +kernel
def wq_X10_look (a0_lines : Nat) (v0_ground_forms : Int32) (v0_ground_hares : Int32) (v0_callsIllegal : Int32) (v0_fitting_hares : Int32) (v0_fitting_forms : Int32) (v0_fitting_many : Int32) (v0_fitting_first : Int32) (r0_fitting_book : Value) (v0_fitting_lookForm : Int32) (v0_fitting_lookWorst : Int32) (p1 : Int32) (E : String → Int32 → Int32 → Int32 → Int32 → Int32 → Value → Int32 → Int32 → Prop) (Q : Int32 → Int32 → Int32 → Int32 → Int32 → Int32 → Value → Int32 → Int32 → Prop) : Prop := wq_X10_needWithin  v0_callsIllegal p1 0 1 (fun en x1 => E en x1 v0_fitting_hares v0_fitting_forms v0_fitting_many v0_fitting_first r0_fitting_book v0_fitting_lookForm v0_fitting_lookWorst) (fun x1 => wq_X3_settle v0_ground_forms v0_ground_hares v0_fitting_hares v0_fitting_forms v0_fitting_many v0_fitting_first  (fun x2 x3 x4 x5 => wq_X3_lookAhead x3 v0_fitting_lookForm v0_fitting_lookWorst  (fun x6 x7 => ((¬ p1 = 0 → (Q x7 x1 x2 x3 x4 x5 (.ref a0_lines) x6 x7)) ∧ (p1 = 0 → (Q x6 x1 x2 x3 x4 x5 (.ref a0_lines) x6 x7))))))
set_option maxHeartbeats 4000000 in
set_option maxRecDepth 100000 in
theorem ck_X10_look (l : Launch) (dC : Nat → ClassId) (dI : Nat → Nat → Nat) (cyB cyI cyJ cyP : ClassId) (a0 a0_fitting a0_now a0_lines a0_ground : Nat) (sz : Nat) (z0_tape : Value) (z0_ground : Value) (z0_spareGround : Value) (z0_rule : Value) (z0_spareRule : Value) (z0_spareLines : Value) (z0_steps : Value) (z0_trial : Value) (z0_past : Value) (z0_images : Value) (z0_round : Value) (z0_seating : Value) (z0_imagesKept : Value) (z0_refusedSteps : Value) (z0_callsNoSuch : Value) (z0_fitting_seated : Value) (z0_fitting_sits : Value) (z0_fitting_fittingForms : Value) (z0_fitting_tally : Value) (z0_now_row : Value) (z0_now_owedEach : Value) (z0_now_law : Value) (z0_ground_formX : Value) (z0_ground_formY : Value) (z0_ground_foxX : Value) (z0_ground_foxY : Value) (z0_ground_seat : Value) (z0_ground_strength : Value) (z0_ground_debts : Value) (z0_ground_near : Value) (z0_ground_foxes : Value) (z0_ground_safe : Value) (v0_ground_forms : Int32) (v0_ground_hares : Int32) (v0_callsIllegal : Int32) (v0_fitting_hares : Int32) (v0_fitting_forms : Int32) (v0_fitting_many : Int32) (v0_fitting_first : Int32) (r0_fitting_book : Value) (v0_fitting_lookForm : Int32) (v0_fitting_lookWorst : Int32) (p1 : Int32) {E : String → Int32 → Int32 → Int32 → Int32 → Int32 → Value → Int32 → Int32 → Prop} {Q : Int32 → Int32 → Int32 → Int32 → Int32 → Int32 → Value → Int32 → Int32 → Prop} (hw : wq_X10_look a0_lines v0_ground_forms v0_ground_hares v0_callsIllegal v0_fitting_hares v0_fitting_forms v0_fitting_many v0_fitting_first r0_fitting_book v0_fitting_lookForm v0_fitting_lookWorst p1 E Q) : vx_Met l yX10_look wsX10_look ({ frames := 8, cells := 1, slots := 6, locals := 164 }) (va_Pc [.ref a0, .int p1] (cPx l (dC, dI) (kT cyB cyI cyJ cyP) [(a0, .inr (10, [z0_tape, z0_ground, z0_spareGround, z0_rule, z0_spareRule, .ref a0_lines, z0_spareLines, z0_steps, .ref a0_now, z0_trial, z0_past, z0_images, z0_round, z0_seating, .ref a0_fitting, z0_imagesKept, z0_refusedSteps, z0_callsNoSuch, .int v0_callsIllegal])), (a0_fitting, .inr (3, [z0_fitting_seated, z0_fitting_sits, z0_fitting_fittingForms, z0_fitting_tally, .int v0_fitting_hares, .int v0_fitting_forms, r0_fitting_book, .int v0_fitting_many, .int v0_fitting_first, .int v0_fitting_lookForm, .int v0_fitting_lookWorst])), (a0_now, .inr (1, [z0_now_row, z0_now_owedEach, .ref a0_ground, z0_now_law])), (a0_ground, .inr (2, [z0_ground_formX, z0_ground_formY, z0_ground_foxX, z0_ground_foxY, z0_ground_seat, z0_ground_strength, z0_ground_debts, z0_ground_near, .int v0_ground_forms, .int v0_ground_hares, z0_ground_foxes, z0_ground_safe]))] sz)) (va_Qi (fun (r : Int32) (u : Int32 × Int32 × Int32 × Int32 × Int32 × Value × Int32 × Int32) => Q r u.1 u.2.1 u.2.2.1 u.2.2.2.1 u.2.2.2.2.1 u.2.2.2.2.2.1 u.2.2.2.2.2.2.1 u.2.2.2.2.2.2.2) (cB (dC, dI) (kT cyB cyI cyJ cyP) (va_A [(a0, .inr (10, [z0_tape, z0_ground, z0_spareGround, z0_rule, z0_spareRule, .ref a0_lines, z0_spareLines, z0_steps, .ref a0_now, z0_trial, z0_past, z0_images, z0_round, z0_seating, .ref a0_fitting, z0_imagesKept, z0_refusedSteps, z0_callsNoSuch, .int v0_callsIllegal])), (a0_fitting, .inr (3, [z0_fitting_seated, z0_fitting_sits, z0_fitting_fittingForms, z0_fitting_tally, .int v0_fitting_hares, .int v0_fitting_forms, r0_fitting_book, .int v0_fitting_many, .int v0_fitting_first, .int v0_fitting_lookForm, .int v0_fitting_lookWorst])), (a0_now, .inr (1, [z0_now_row, z0_now_owedEach, .ref a0_ground, z0_now_law])), (a0_ground, .inr (2, [z0_ground_formX, z0_ground_formY, z0_ground_foxX, z0_ground_foxY, z0_ground_seat, z0_ground_strength, z0_ground_debts, z0_ground_near, .int v0_ground_forms, .int v0_ground_hares, z0_ground_foxes, z0_ground_safe]))] sz) (fun u : Int32 × Int32 × Int32 × Int32 × Int32 × Value × Int32 × Int32 => ([(a0, .inr (10, [z0_tape, z0_ground, z0_spareGround, z0_rule, z0_spareRule, .ref a0_lines, z0_spareLines, z0_steps, .ref a0_now, z0_trial, z0_past, z0_images, z0_round, z0_seating, .ref a0_fitting, z0_imagesKept, z0_refusedSteps, z0_callsNoSuch, .int u.1])), (a0_fitting, .inr (3, [z0_fitting_seated, z0_fitting_sits, z0_fitting_fittingForms, z0_fitting_tally, .int u.2.1, .int u.2.2.1, u.2.2.2.2.2.1, .int u.2.2.2.1, .int u.2.2.2.2.1, .int u.2.2.2.2.2.2.1, .int u.2.2.2.2.2.2.2])), (a0_now, .inr (1, [z0_now_row, z0_now_owedEach, .ref a0_ground, z0_now_law])), (a0_ground, .inr (2, [z0_ground_formX, z0_ground_formY, z0_ground_foxX, z0_ground_foxY, z0_ground_seat, z0_ground_strength, z0_ground_debts, z0_ground_near, .int v0_ground_forms, .int v0_ground_hares, z0_ground_foxes, z0_ground_safe]))] : va_W))) (va_A [(a0, .inr (10, [z0_tape, z0_ground, z0_spareGround, z0_rule, z0_spareRule, .ref a0_lines, z0_spareLines, z0_steps, .ref a0_now, z0_trial, z0_past, z0_images, z0_round, z0_seating, .ref a0_fitting, z0_imagesKept, z0_refusedSteps, z0_callsNoSuch, .int v0_callsIllegal])), (a0_fitting, .inr (3, [z0_fitting_seated, z0_fitting_sits, z0_fitting_fittingForms, z0_fitting_tally, .int v0_fitting_hares, .int v0_fitting_forms, r0_fitting_book, .int v0_fitting_many, .int v0_fitting_first, .int v0_fitting_lookForm, .int v0_fitting_lookWorst])), (a0_now, .inr (1, [z0_now_row, z0_now_owedEach, .ref a0_ground, z0_now_law])), (a0_ground, .inr (2, [z0_ground_formX, z0_ground_formY, z0_ground_foxX, z0_ground_foxY, z0_ground_seat, z0_ground_strength, z0_ground_debts, z0_ground_near, .int v0_ground_forms, .int v0_ground_hares, z0_ground_foxes, z0_ground_safe]))] sz)) (vx_X (fun _ => True) (fun (en : String) (u : Int32 × Int32 × Int32 × Int32 × Int32 × Value × Int32 × Int32) (t : State) => E en u.1 u.2.1 u.2.2.1 u.2.2.2.1 u.2.2.2.2.1 u.2.2.2.2.2.1 u.2.2.2.2.2.2.1 u.2.2.2.2.2.2.2 ∧ cB (dC, dI) (kT cyB cyI cyJ cyP) (va_A [(a0, .inr (10, [z0_tape, z0_ground, z0_spareGround, z0_rule, z0_spareRule, .ref a0_lines, z0_spareLines, z0_steps, .ref a0_now, z0_trial, z0_past, z0_images, z0_round, z0_seating, .ref a0_fitting, z0_imagesKept, z0_refusedSteps, z0_callsNoSuch, .int v0_callsIllegal])), (a0_fitting, .inr (3, [z0_fitting_seated, z0_fitting_sits, z0_fitting_fittingForms, z0_fitting_tally, .int v0_fitting_hares, .int v0_fitting_forms, r0_fitting_book, .int v0_fitting_many, .int v0_fitting_first, .int v0_fitting_lookForm, .int v0_fitting_lookWorst])), (a0_now, .inr (1, [z0_now_row, z0_now_owedEach, .ref a0_ground, z0_now_law])), (a0_ground, .inr (2, [z0_ground_formX, z0_ground_formY, z0_ground_foxX, z0_ground_foxY, z0_ground_seat, z0_ground_strength, z0_ground_debts, z0_ground_near, .int v0_ground_forms, .int v0_ground_hares, z0_ground_foxes, z0_ground_safe]))] sz) (fun u : Int32 × Int32 × Int32 × Int32 × Int32 × Value × Int32 × Int32 => ([(a0, .inr (10, [z0_tape, z0_ground, z0_spareGround, z0_rule, z0_spareRule, .ref a0_lines, z0_spareLines, z0_steps, .ref a0_now, z0_trial, z0_past, z0_images, z0_round, z0_seating, .ref a0_fitting, z0_imagesKept, z0_refusedSteps, z0_callsNoSuch, .int u.1])), (a0_fitting, .inr (3, [z0_fitting_seated, z0_fitting_sits, z0_fitting_fittingForms, z0_fitting_tally, .int u.2.1, .int u.2.2.1, u.2.2.2.2.2.1, .int u.2.2.2.1, .int u.2.2.2.2.1, .int u.2.2.2.2.2.2.1, .int u.2.2.2.2.2.2.2])), (a0_now, .inr (1, [z0_now_row, z0_now_owedEach, .ref a0_ground, z0_now_law])), (a0_ground, .inr (2, [z0_ground_formX, z0_ground_formY, z0_ground_foxX, z0_ground_foxY, z0_ground_seat, z0_ground_strength, z0_ground_debts, z0_ground_near, .int v0_ground_forms, .int v0_ground_hares, z0_ground_foxes, z0_ground_safe]))] : va_W)) u t) (va_A [(a0, .inr (10, [z0_tape, z0_ground, z0_spareGround, z0_rule, z0_spareRule, .ref a0_lines, z0_spareLines, z0_steps, .ref a0_now, z0_trial, z0_past, z0_images, z0_round, z0_seating, .ref a0_fitting, z0_imagesKept, z0_refusedSteps, z0_callsNoSuch, .int v0_callsIllegal])), (a0_fitting, .inr (3, [z0_fitting_seated, z0_fitting_sits, z0_fitting_fittingForms, z0_fitting_tally, .int v0_fitting_hares, .int v0_fitting_forms, r0_fitting_book, .int v0_fitting_many, .int v0_fitting_first, .int v0_fitting_lookForm, .int v0_fitting_lookWorst])), (a0_now, .inr (1, [z0_now_row, z0_now_owedEach, .ref a0_ground, z0_now_law])), (a0_ground, .inr (2, [z0_ground_formX, z0_ground_formY, z0_ground_foxX, z0_ground_foxY, z0_ground_seat, z0_ground_strength, z0_ground_debts, z0_ground_near, .int v0_ground_forms, .int v0_ground_hares, z0_ground_foxes, z0_ground_safe]))] sz)) 1 6 (va_A [(a0, .inr (10, [z0_tape, z0_ground, z0_spareGround, z0_rule, z0_spareRule, .ref a0_lines, z0_spareLines, z0_steps, .ref a0_now, z0_trial, z0_past, z0_images, z0_round, z0_seating, .ref a0_fitting, z0_imagesKept, z0_refusedSteps, z0_callsNoSuch, .int v0_callsIllegal])), (a0_fitting, .inr (3, [z0_fitting_seated, z0_fitting_sits, z0_fitting_fittingForms, z0_fitting_tally, .int v0_fitting_hares, .int v0_fitting_forms, r0_fitting_book, .int v0_fitting_many, .int v0_fitting_first, .int v0_fitting_lookForm, .int v0_fitting_lookWorst])), (a0_now, .inr (1, [z0_now_row, z0_now_owedEach, .ref a0_ground, z0_now_law])), (a0_ground, .inr (2, [z0_ground_formX, z0_ground_formY, z0_ground_foxX, z0_ground_foxY, z0_ground_seat, z0_ground_strength, z0_ground_debts, z0_ground_near, .int v0_ground_forms, .int v0_ground_hares, z0_ground_foxes, z0_ground_safe]))] sz) := by
  refine vx_ofW (cc := cX10_look) (maxL := 2) (ret := (some .int)) (by decide) rfl ?_
  intro p e s m args below meth c s₁ B hml hnt hv
  obtain ⟨rfl, hsz, hP, hK, hD0, hNw, hXl, hXu, hXn, hXt⟩ := hv
  have hx := B.exec
  have hb := B.bytes
  have hr := B.returns
  have hts := atoms_spec (ws := wsX10_look) B.pre
  have hown : s.vm.findClass RX10 = some m.cls := findClass_of_methodNamed B.named
  have hlocks := B.notSynchronized
  subst hsz
  have hD := hD0.self (sz := s.heap.size)
  generalize hAe : va_A [(a0, .inr (10, [z0_tape, z0_ground, z0_spareGround, z0_rule, z0_spareRule, .ref a0_lines, z0_spareLines, z0_steps, .ref a0_now, z0_trial, z0_past, z0_images, z0_round, z0_seating, .ref a0_fitting, z0_imagesKept, z0_refusedSteps, z0_callsNoSuch, .int v0_callsIllegal])), (a0_fitting, .inr (3, [z0_fitting_seated, z0_fitting_sits, z0_fitting_fittingForms, z0_fitting_tally, .int v0_fitting_hares, .int v0_fitting_forms, r0_fitting_book, .int v0_fitting_many, .int v0_fitting_first, .int v0_fitting_lookForm, .int v0_fitting_lookWorst])), (a0_now, .inr (1, [z0_now_row, z0_now_owedEach, .ref a0_ground, z0_now_law])), (a0_ground, .inr (2, [z0_ground_formX, z0_ground_formY, z0_ground_foxX, z0_ground_foxY, z0_ground_seat, z0_ground_strength, z0_ground_debts, z0_ground_near, .int v0_ground_forms, .int v0_ground_hares, z0_ground_foxes, z0_ground_safe]))] s.heap.size = A at hD hXu hXn ⊢
  have hA : ∀ q : Nat, s.heap.size ≤ q → A q := fun q h => by rw [← hAe]; exact Or.inr h
  have hS : va_S A s.heap s.heap [] := va_S.rf
  have hP : va_P (dC, dI) vwCl [(a0, .inr (10, [z0_tape, z0_ground, z0_spareGround, z0_rule, z0_spareRule, .ref a0_lines, z0_spareLines, z0_steps, .ref a0_now, z0_trial, z0_past, z0_images, z0_round, z0_seating, .ref a0_fitting, z0_imagesKept, z0_refusedSteps, z0_callsNoSuch, .int v0_callsIllegal])), (a0_fitting, .inr (3, [z0_fitting_seated, z0_fitting_sits, z0_fitting_fittingForms, z0_fitting_tally, .int v0_fitting_hares, .int v0_fitting_forms, r0_fitting_book, .int v0_fitting_many, .int v0_fitting_first, .int v0_fitting_lookForm, .int v0_fitting_lookWorst])), (a0_now, .inr (1, [z0_now_row, z0_now_owedEach, .ref a0_ground, z0_now_law])), (a0_ground, .inr (2, [z0_ground_formX, z0_ground_formY, z0_ground_foxX, z0_ground_foxY, z0_ground_seat, z0_ground_strength, z0_ground_debts, z0_ground_near, .int v0_ground_forms, .int v0_ground_hares, z0_ground_foxes, z0_ground_safe]))] s.heap := hP
  have hl := lv_entry ([.ref a0, .int p1]) (n := 2) (Nat.le_of_ble_eq_true rfl)
  rw [lg_entry_eq]
  generalize (lg_sl ([.ref a0, .int p1]) ++ List.replicate (2 - (lg_sl ([.ref a0, .int p1])).length) Slot.unset).toArray = ls at hl ⊢
  have hl : lv_has ls 2 [(0, .ref a0), (1, .int p1)] := hl
  have hY : cfY l s A := ⟨hXl, hXu, hXn, hXt⟩
  have hXs : cfX l s c A := ⟨hnt, hY⟩
  have C0 : cfx p s m _ meth c cX10_look (some .int) wsX10_look RX10 2 A (dC, dI) (kT cyB cyI cyJ cyP) ∧ cfX l s c A := ⟨⟨hx, hb, hr, hts, hown, hlocks, hml, hA, hK, hNw⟩, hXs⟩
  clear hAe
  obtain ⟨H, hH⟩ : ∃ H, H = s.heap := ⟨_, rfl⟩
  rw [← hH] at hP ⊢
  have hS : va_S A s.heap H [] := by rw [hH]; exact va_S.rf
  have hS := hS
  refine lv_aload_n hx hb dX10_look_0 rfl (lv_at hl 0 rfl) ?_
  refine lv_iload_n hx hb dX10_look_1 rfl (lv_at hl 1 rfl) ?_
  refine lv_iconst (v := 0) hx hb dX10_look_2 (by decide) ?_
  refine lv_iconst (v := 1) hx hb dX10_look_3 (by decide) ?_
  have hPc := hP.sub (ws' := [(a0, .inr (10, [z0_tape, z0_ground, z0_spareGround, z0_rule, z0_spareRule, .ref a0_lines, z0_spareLines, z0_steps, .ref a0_now, z0_trial, z0_past, z0_images, z0_round, z0_seating, .ref a0_fitting, z0_imagesKept, z0_refusedSteps, z0_callsNoSuch, .int v0_callsIllegal]))]) [0] rfl
  have hDc := hD.sub (ws' := [(a0, .inr (10, [z0_tape, z0_ground, z0_spareGround, z0_rule, z0_spareRule, .ref a0_lines, z0_spareLines, z0_steps, .ref a0_now, z0_trial, z0_past, z0_images, z0_round, z0_seating, .ref a0_fitting, z0_imagesKept, z0_refusedSteps, z0_callsNoSuch, .int v0_callsIllegal]))]) [0] (by decide) rfl
  have hFc := va_free (wc := [(a0, .inr (10, [z0_tape, z0_ground, z0_spareGround, z0_rule, z0_spareRule, .ref a0_lines, z0_spareLines, z0_steps, .ref a0_now, z0_trial, z0_past, z0_images, z0_round, z0_seating, .ref a0_fitting, z0_imagesKept, z0_refusedSteps, z0_callsNoSuch, .int v0_callsIllegal]))]) hD hS hA [0] rfl
  refine vx_callv (vx_runV (As := [.int p1, .int 0, .int 1]) (rest := []) ⟨hx, hb, hml, hown, hts⟩ (ck_X10_needWithin l dC dI cyB cyI cyJ cyP a0 H.size (z0_tape) (z0_ground) (z0_spareGround) (z0_rule) (z0_spareRule) (.ref a0_lines) (z0_spareLines) (z0_steps) (.ref a0_now) (z0_trial) (z0_past) (z0_images) (z0_round) (z0_seating) (.ref a0_fitting) (z0_imagesKept) (z0_refusedSteps) (z0_callsNoSuch)  v0_callsIllegal p1 0 1 hw) (cwV 3 hts gX10_look_X10_needWithin rfl rfl rfl (by decide +kernel) ⟨Nat.le_of_ble_eq_true rfl, Nat.le_of_ble_eq_true rfl⟩) ⟨cPx_blind, va_recv hK hPc (ci := 10) (q0 := 0) rfl rfl, cPx_pre hPc hK hDc hNw hY hS hFc⟩ rfl rfl hl.1 rfl (lv_room (Nat.le_of_ble_eq_true rfl)) dX10_look_4 ⟨Nat.le_of_ble_eq_true rfl, Nat.le_of_ble_eq_true rfl⟩) hS (fun q _ h => hFc q h) hFc (fun q _ h => hFc q h) (fun en ce q9 u t H1 locs ht hvm hpx hB hz1 hk1 hS hc9 hv9 hcl9 => ?_) (fun u t H1 locs ht hvm hw hB hz1 hk1 hS => ?_)
  · obtain ⟨x1, rfl⟩ : ∃ z, z = u := ⟨_, rfl⟩
    obtain ⟨hw, hP1, hK1, hD1⟩ := hB
    rw [ht] at hP1
    obtain ⟨hP, hD⟩ := va_join (wr := [(a0_fitting, .inr (3, [z0_fitting_seated, z0_fitting_sits, z0_fitting_fittingForms, z0_fitting_tally, .int v0_fitting_hares, .int v0_fitting_forms, r0_fitting_book, .int v0_fitting_many, .int v0_fitting_first, .int v0_fitting_lookForm, .int v0_fitting_lookWorst])), (a0_now, .inr (1, [z0_now_row, z0_now_owedEach, .ref a0_ground, z0_now_law])), (a0_ground, .inr (2, [z0_ground_formX, z0_ground_formY, z0_ground_foxX, z0_ground_foxY, z0_ground_seat, z0_ground_strength, z0_ground_debts, z0_ground_near, .int v0_ground_forms, .int v0_ground_hares, z0_ground_foxes, z0_ground_safe]))]) (w1 := [(a0, .inr (10, [z0_tape, z0_ground, z0_spareGround, z0_rule, z0_spareRule, .ref a0_lines, z0_spareLines, z0_steps, .ref a0_now, z0_trial, z0_past, z0_images, z0_round, z0_seating, .ref a0_fitting, z0_imagesKept, z0_refusedSteps, z0_callsNoSuch, .int x1]))]) hP hD [0] [1, 2, 3] rfl rfl (by decide) (by decide) hk1 hFc hP1 hD1
    have hP : va_P (dC, dI) vwCl [(a0, .inr (10, [z0_tape, z0_ground, z0_spareGround, z0_rule, z0_spareRule, .ref a0_lines, z0_spareLines, z0_steps, .ref a0_now, z0_trial, z0_past, z0_images, z0_round, z0_seating, .ref a0_fitting, z0_imagesKept, z0_refusedSteps, z0_callsNoSuch, .int x1])), (a0_fitting, .inr (3, [z0_fitting_seated, z0_fitting_sits, z0_fitting_fittingForms, z0_fitting_tally, .int v0_fitting_hares, .int v0_fitting_forms, r0_fitting_book, .int v0_fitting_many, .int v0_fitting_first, .int v0_fitting_lookForm, .int v0_fitting_lookWorst])), (a0_now, .inr (1, [z0_now_row, z0_now_owedEach, .ref a0_ground, z0_now_law])), (a0_ground, .inr (2, [z0_ground_formX, z0_ground_formY, z0_ground_foxX, z0_ground_foxY, z0_ground_seat, z0_ground_strength, z0_ground_debts, z0_ground_near, .int v0_ground_forms, .int v0_ground_hares, z0_ground_foxes, z0_ground_safe]))] H1 := hP.sub [3, 0, 1, 2] rfl
    have hD : va_D A [(a0, .inr (10, [z0_tape, z0_ground, z0_spareGround, z0_rule, z0_spareRule, .ref a0_lines, z0_spareLines, z0_steps, .ref a0_now, z0_trial, z0_past, z0_images, z0_round, z0_seating, .ref a0_fitting, z0_imagesKept, z0_refusedSteps, z0_callsNoSuch, .int x1])), (a0_fitting, .inr (3, [z0_fitting_seated, z0_fitting_sits, z0_fitting_fittingForms, z0_fitting_tally, .int v0_fitting_hares, .int v0_fitting_forms, r0_fitting_book, .int v0_fitting_many, .int v0_fitting_first, .int v0_fitting_lookForm, .int v0_fitting_lookWorst])), (a0_now, .inr (1, [z0_now_row, z0_now_owedEach, .ref a0_ground, z0_now_law])), (a0_ground, .inr (2, [z0_ground_formX, z0_ground_formY, z0_ground_foxX, z0_ground_foxY, z0_ground_seat, z0_ground_strength, z0_ground_debts, z0_ground_near, .int v0_ground_forms, .int v0_ground_hares, z0_ground_foxes, z0_ground_safe]))] := hD.sub [3, 0, 1, 2] (by decide) rfl
    generalize H1 = H at hP hS hc9 ⊢
    exact vx_out (fun x hx9 => (hXs.1 x hx9).elim) hlocks hc9 hv9 hcl9 (fun t2 ht2 hal2 => ⟨(x1, v0_fitting_hares, v0_fitting_forms, v0_fitting_many, v0_fitting_first, r0_fitting_book, v0_fitting_lookForm, v0_fitting_lookWorst), trivial, ⟨hw, by rw [ht2]; exact hP, va_K.moved hal2 hK, hD⟩, hS.F ht2⟩) hS.2.2 (Nat.le_of_ble_eq_true rfl) (Nat.le_of_ble_eq_true rfl)
  obtain ⟨x1, rfl⟩ : ∃ z, z = u := ⟨_, rfl⟩
  obtain ⟨hP1, hK1, hD1⟩ := hB
  rw [ht] at hP1
  obtain ⟨hP, hD⟩ := va_join (wr := [(a0_fitting, .inr (3, [z0_fitting_seated, z0_fitting_sits, z0_fitting_fittingForms, z0_fitting_tally, .int v0_fitting_hares, .int v0_fitting_forms, r0_fitting_book, .int v0_fitting_many, .int v0_fitting_first, .int v0_fitting_lookForm, .int v0_fitting_lookWorst])), (a0_now, .inr (1, [z0_now_row, z0_now_owedEach, .ref a0_ground, z0_now_law])), (a0_ground, .inr (2, [z0_ground_formX, z0_ground_formY, z0_ground_foxX, z0_ground_foxY, z0_ground_seat, z0_ground_strength, z0_ground_debts, z0_ground_near, .int v0_ground_forms, .int v0_ground_hares, z0_ground_foxes, z0_ground_safe]))]) (w1 := [(a0, .inr (10, [z0_tape, z0_ground, z0_spareGround, z0_rule, z0_spareRule, .ref a0_lines, z0_spareLines, z0_steps, .ref a0_now, z0_trial, z0_past, z0_images, z0_round, z0_seating, .ref a0_fitting, z0_imagesKept, z0_refusedSteps, z0_callsNoSuch, .int x1]))]) hP hD [0] [1, 2, 3] rfl rfl (by decide) (by decide) hk1 hFc hP1 hD1
  have hP : va_P (dC, dI) vwCl [(a0, .inr (10, [z0_tape, z0_ground, z0_spareGround, z0_rule, z0_spareRule, .ref a0_lines, z0_spareLines, z0_steps, .ref a0_now, z0_trial, z0_past, z0_images, z0_round, z0_seating, .ref a0_fitting, z0_imagesKept, z0_refusedSteps, z0_callsNoSuch, .int x1])), (a0_fitting, .inr (3, [z0_fitting_seated, z0_fitting_sits, z0_fitting_fittingForms, z0_fitting_tally, .int v0_fitting_hares, .int v0_fitting_forms, r0_fitting_book, .int v0_fitting_many, .int v0_fitting_first, .int v0_fitting_lookForm, .int v0_fitting_lookWorst])), (a0_now, .inr (1, [z0_now_row, z0_now_owedEach, .ref a0_ground, z0_now_law])), (a0_ground, .inr (2, [z0_ground_formX, z0_ground_formY, z0_ground_foxX, z0_ground_foxY, z0_ground_seat, z0_ground_strength, z0_ground_debts, z0_ground_near, .int v0_ground_forms, .int v0_ground_hares, z0_ground_foxes, z0_ground_safe]))] H1 := hP.sub [3, 0, 1, 2] rfl
  have hD : va_D A [(a0, .inr (10, [z0_tape, z0_ground, z0_spareGround, z0_rule, z0_spareRule, .ref a0_lines, z0_spareLines, z0_steps, .ref a0_now, z0_trial, z0_past, z0_images, z0_round, z0_seating, .ref a0_fitting, z0_imagesKept, z0_refusedSteps, z0_callsNoSuch, .int x1])), (a0_fitting, .inr (3, [z0_fitting_seated, z0_fitting_sits, z0_fitting_fittingForms, z0_fitting_tally, .int v0_fitting_hares, .int v0_fitting_forms, r0_fitting_book, .int v0_fitting_many, .int v0_fitting_first, .int v0_fitting_lookForm, .int v0_fitting_lookWorst])), (a0_now, .inr (1, [z0_now_row, z0_now_owedEach, .ref a0_ground, z0_now_law])), (a0_ground, .inr (2, [z0_ground_formX, z0_ground_formY, z0_ground_foxX, z0_ground_foxY, z0_ground_seat, z0_ground_strength, z0_ground_debts, z0_ground_near, .int v0_ground_forms, .int v0_ground_hares, z0_ground_foxes, z0_ground_safe]))] := hD.sub [3, 0, 1, 2] (by decide) rfl
  generalize H1 = H at hP hS ⊢
  refine lv_aload_n hx hb dX10_look_7 rfl (lv_at hl 0 rfl) ?_
  refine va_get (D := (dC, dI)) (ci := 10) (v := .ref a0_fitting) (C := RX10) (T := TX10) (N := 19) hx hb hts ui_X10_look_X10 hown hK hP 0 rfl rfl 14 (by decide) (hts _ uw_X10_look_f93) (fun _ h9 => h9) rfl dX10_look_8 ?_
  refine lv_aload_n hx hb dX10_look_11 rfl (lv_at hl 0 rfl) ?_
  refine va_get (D := (dC, dI)) (ci := 10) (v := .ref a0_now) (C := RX10) (T := TX10) (N := 19) hx hb hts ui_X10_look_X10 hown hK hP 0 rfl rfl 8 (by decide) (hts _ uw_X10_look_f58) (fun _ h9 => h9) rfl dX10_look_12 ?_
  refine lv_aload_n hx hb dX10_look_15 rfl (lv_at hl 0 rfl) ?_
  refine va_get (D := (dC, dI)) (ci := 10) (v := .ref a0_lines) (C := RX10) (T := TX10) (N := 19) hx hb hts ui_X10_look_X10 hown hK hP 0 rfl rfl 5 (by decide) (hts _ uw_X10_look_f39) (fun _ h9 => h9) rfl dX10_look_16 ?_
  have hPc := hP.sub (ws' := [(a0_fitting, .inr (3, [z0_fitting_seated, z0_fitting_sits, z0_fitting_fittingForms, z0_fitting_tally, .int v0_fitting_hares, .int v0_fitting_forms, r0_fitting_book, .int v0_fitting_many, .int v0_fitting_first, .int v0_fitting_lookForm, .int v0_fitting_lookWorst])), (a0_now, .inr (1, [z0_now_row, z0_now_owedEach, .ref a0_ground, z0_now_law])), (a0_ground, .inr (2, [z0_ground_formX, z0_ground_formY, z0_ground_foxX, z0_ground_foxY, z0_ground_seat, z0_ground_strength, z0_ground_debts, z0_ground_near, .int v0_ground_forms, .int v0_ground_hares, z0_ground_foxes, z0_ground_safe]))]) [1, 2, 3] rfl
  have hDc := hD.sub (ws' := [(a0_fitting, .inr (3, [z0_fitting_seated, z0_fitting_sits, z0_fitting_fittingForms, z0_fitting_tally, .int v0_fitting_hares, .int v0_fitting_forms, r0_fitting_book, .int v0_fitting_many, .int v0_fitting_first, .int v0_fitting_lookForm, .int v0_fitting_lookWorst])), (a0_now, .inr (1, [z0_now_row, z0_now_owedEach, .ref a0_ground, z0_now_law])), (a0_ground, .inr (2, [z0_ground_formX, z0_ground_formY, z0_ground_foxX, z0_ground_foxY, z0_ground_seat, z0_ground_strength, z0_ground_debts, z0_ground_near, .int v0_ground_forms, .int v0_ground_hares, z0_ground_foxes, z0_ground_safe]))]) [1, 2, 3] (by decide) rfl
  have hFc := va_free (wc := [(a0_fitting, .inr (3, [z0_fitting_seated, z0_fitting_sits, z0_fitting_fittingForms, z0_fitting_tally, .int v0_fitting_hares, .int v0_fitting_forms, r0_fitting_book, .int v0_fitting_many, .int v0_fitting_first, .int v0_fitting_lookForm, .int v0_fitting_lookWorst])), (a0_now, .inr (1, [z0_now_row, z0_now_owedEach, .ref a0_ground, z0_now_law])), (a0_ground, .inr (2, [z0_ground_formX, z0_ground_formY, z0_ground_foxX, z0_ground_foxY, z0_ground_seat, z0_ground_strength, z0_ground_debts, z0_ground_near, .int v0_ground_forms, .int v0_ground_hares, z0_ground_foxes, z0_ground_safe]))]) hD hS hA [1, 2, 3] rfl
  refine va_callv (va_runV (As := [.ref a0_now, .ref a0_lines]) (rest := []) ⟨hx, hb, hml, hown, hts⟩ (ck_X3_settle l dC dI cyB cyI cyJ cyP a0_fitting a0_now a0_lines a0_ground H.size (z0_fitting_seated) (z0_fitting_sits) (z0_fitting_fittingForms) (z0_fitting_tally) (r0_fitting_book) (.int v0_fitting_lookForm) (.int v0_fitting_lookWorst) (z0_now_row) (z0_now_owedEach) (z0_now_law) (z0_ground_formX) (z0_ground_formY) (z0_ground_foxX) (z0_ground_foxY) (z0_ground_seat) (z0_ground_strength) (z0_ground_debts) (z0_ground_near) (z0_ground_foxes) (z0_ground_safe) v0_ground_forms v0_ground_hares v0_fitting_hares v0_fitting_forms v0_fitting_many v0_fitting_first  hw) (cwV 2 hts gX10_look_X3_settle rfl rfl rfl (by decide +kernel) ⟨Nat.le_of_ble_eq_true rfl, Nat.le_of_ble_eq_true rfl⟩) ⟨cPc_blind, va_recv hK hPc (ci := 3) (q0 := 0) rfl rfl, cPc_pre hPc hK hDc hNw⟩ rfl rfl hl.1 rfl (lv_room (Nat.le_of_ble_eq_true rfl)) dX10_look_19 ⟨Nat.le_of_ble_eq_true rfl, Nat.le_of_ble_eq_true rfl⟩) hS (fun q _ h => hFc q h) hFc (fun u t H1 locs ht hvm hw hB hz1 hk1 hS => ?_)
  obtain ⟨x2, x3, x4, x5⟩ := u
  obtain ⟨hP1, hK1, hD1⟩ := hB
  rw [ht] at hP1
  obtain ⟨hP, hD⟩ := va_join (wr := [(a0, .inr (10, [z0_tape, z0_ground, z0_spareGround, z0_rule, z0_spareRule, .ref a0_lines, z0_spareLines, z0_steps, .ref a0_now, z0_trial, z0_past, z0_images, z0_round, z0_seating, .ref a0_fitting, z0_imagesKept, z0_refusedSteps, z0_callsNoSuch, .int x1]))]) (w1 := [(a0_fitting, .inr (3, [z0_fitting_seated, z0_fitting_sits, z0_fitting_fittingForms, z0_fitting_tally, .int x2, .int x3, .ref a0_lines, .int x4, .int x5, .int v0_fitting_lookForm, .int v0_fitting_lookWorst])), (a0_now, .inr (1, [z0_now_row, z0_now_owedEach, .ref a0_ground, z0_now_law])), (a0_ground, .inr (2, [z0_ground_formX, z0_ground_formY, z0_ground_foxX, z0_ground_foxY, z0_ground_seat, z0_ground_strength, z0_ground_debts, z0_ground_near, .int v0_ground_forms, .int v0_ground_hares, z0_ground_foxes, z0_ground_safe]))]) hP hD [1, 2, 3] [0] rfl rfl (by decide) (by decide) hk1 hFc hP1 hD1
  have hP : va_P (dC, dI) vwCl [(a0, .inr (10, [z0_tape, z0_ground, z0_spareGround, z0_rule, z0_spareRule, .ref a0_lines, z0_spareLines, z0_steps, .ref a0_now, z0_trial, z0_past, z0_images, z0_round, z0_seating, .ref a0_fitting, z0_imagesKept, z0_refusedSteps, z0_callsNoSuch, .int x1])), (a0_fitting, .inr (3, [z0_fitting_seated, z0_fitting_sits, z0_fitting_fittingForms, z0_fitting_tally, .int x2, .int x3, .ref a0_lines, .int x4, .int x5, .int v0_fitting_lookForm, .int v0_fitting_lookWorst])), (a0_now, .inr (1, [z0_now_row, z0_now_owedEach, .ref a0_ground, z0_now_law])), (a0_ground, .inr (2, [z0_ground_formX, z0_ground_formY, z0_ground_foxX, z0_ground_foxY, z0_ground_seat, z0_ground_strength, z0_ground_debts, z0_ground_near, .int v0_ground_forms, .int v0_ground_hares, z0_ground_foxes, z0_ground_safe]))] H1 := hP
  have hD : va_D A [(a0, .inr (10, [z0_tape, z0_ground, z0_spareGround, z0_rule, z0_spareRule, .ref a0_lines, z0_spareLines, z0_steps, .ref a0_now, z0_trial, z0_past, z0_images, z0_round, z0_seating, .ref a0_fitting, z0_imagesKept, z0_refusedSteps, z0_callsNoSuch, .int x1])), (a0_fitting, .inr (3, [z0_fitting_seated, z0_fitting_sits, z0_fitting_fittingForms, z0_fitting_tally, .int x2, .int x3, .ref a0_lines, .int x4, .int x5, .int v0_fitting_lookForm, .int v0_fitting_lookWorst])), (a0_now, .inr (1, [z0_now_row, z0_now_owedEach, .ref a0_ground, z0_now_law])), (a0_ground, .inr (2, [z0_ground_formX, z0_ground_formY, z0_ground_foxX, z0_ground_foxY, z0_ground_seat, z0_ground_strength, z0_ground_debts, z0_ground_near, .int v0_ground_forms, .int v0_ground_hares, z0_ground_foxes, z0_ground_safe]))] := hD
  generalize H1 = H at hP hS ⊢
  refine lv_aload_n hx hb dX10_look_22 rfl (lv_at hl 0 rfl) ?_
  refine va_get (D := (dC, dI)) (ci := 10) (v := .ref a0_fitting) (C := RX10) (T := TX10) (N := 19) hx hb hts ui_X10_look_X10 hown hK hP 0 rfl rfl 14 (by decide) (hts _ uw_X10_look_f93) (fun _ h9 => h9) rfl dX10_look_23 ?_
  have hPc := hP.sub (ws' := [(a0_fitting, .inr (3, [z0_fitting_seated, z0_fitting_sits, z0_fitting_fittingForms, z0_fitting_tally, .int x2, .int x3, .ref a0_lines, .int x4, .int x5, .int v0_fitting_lookForm, .int v0_fitting_lookWorst]))]) [1] rfl
  have hDc := hD.sub (ws' := [(a0_fitting, .inr (3, [z0_fitting_seated, z0_fitting_sits, z0_fitting_fittingForms, z0_fitting_tally, .int x2, .int x3, .ref a0_lines, .int x4, .int x5, .int v0_fitting_lookForm, .int v0_fitting_lookWorst]))]) [1] (by decide) rfl
  have hFc := va_free (wc := [(a0_fitting, .inr (3, [z0_fitting_seated, z0_fitting_sits, z0_fitting_fittingForms, z0_fitting_tally, .int x2, .int x3, .ref a0_lines, .int x4, .int x5, .int v0_fitting_lookForm, .int v0_fitting_lookWorst]))]) hD hS hA [1] rfl
  refine va_callv (va_runV (As := []) (rest := []) ⟨hx, hb, hml, hown, hts⟩ (ck_X3_lookAhead l dC dI cyB cyI cyJ cyP a0_fitting H.size (z0_fitting_seated) (z0_fitting_sits) (z0_fitting_fittingForms) (z0_fitting_tally) (.int x2) (.ref a0_lines) (.int x4) (.int x5) x3 v0_fitting_lookForm v0_fitting_lookWorst  hw) (cwV 0 hts gX10_look_X3_lookAhead rfl rfl rfl (by decide +kernel) ⟨Nat.le_of_ble_eq_true rfl, Nat.le_of_ble_eq_true rfl⟩) ⟨cPc_blind, va_recv hK hPc (ci := 3) (q0 := 0) rfl rfl, cPc_pre hPc hK hDc hNw⟩ rfl rfl hl.1 rfl (lv_room (Nat.le_of_ble_eq_true rfl)) dX10_look_26 ⟨Nat.le_of_ble_eq_true rfl, Nat.le_of_ble_eq_true rfl⟩) hS (fun q _ h => hFc q h) hFc (fun u t H1 locs ht hvm hw hB hz1 hk1 hS => ?_)
  obtain ⟨x6, x7⟩ := u
  obtain ⟨hP1, hK1, hD1⟩ := hB
  rw [ht] at hP1
  obtain ⟨hP, hD⟩ := va_join (wr := [(a0, .inr (10, [z0_tape, z0_ground, z0_spareGround, z0_rule, z0_spareRule, .ref a0_lines, z0_spareLines, z0_steps, .ref a0_now, z0_trial, z0_past, z0_images, z0_round, z0_seating, .ref a0_fitting, z0_imagesKept, z0_refusedSteps, z0_callsNoSuch, .int x1])), (a0_now, .inr (1, [z0_now_row, z0_now_owedEach, .ref a0_ground, z0_now_law])), (a0_ground, .inr (2, [z0_ground_formX, z0_ground_formY, z0_ground_foxX, z0_ground_foxY, z0_ground_seat, z0_ground_strength, z0_ground_debts, z0_ground_near, .int v0_ground_forms, .int v0_ground_hares, z0_ground_foxes, z0_ground_safe]))]) (w1 := [(a0_fitting, .inr (3, [z0_fitting_seated, z0_fitting_sits, z0_fitting_fittingForms, z0_fitting_tally, .int x2, .int x3, .ref a0_lines, .int x4, .int x5, .int x6, .int x7]))]) hP hD [1] [0, 2, 3] rfl rfl (by decide) (by decide) hk1 hFc hP1 hD1
  have hP : va_P (dC, dI) vwCl [(a0, .inr (10, [z0_tape, z0_ground, z0_spareGround, z0_rule, z0_spareRule, .ref a0_lines, z0_spareLines, z0_steps, .ref a0_now, z0_trial, z0_past, z0_images, z0_round, z0_seating, .ref a0_fitting, z0_imagesKept, z0_refusedSteps, z0_callsNoSuch, .int x1])), (a0_fitting, .inr (3, [z0_fitting_seated, z0_fitting_sits, z0_fitting_fittingForms, z0_fitting_tally, .int x2, .int x3, .ref a0_lines, .int x4, .int x5, .int x6, .int x7])), (a0_now, .inr (1, [z0_now_row, z0_now_owedEach, .ref a0_ground, z0_now_law])), (a0_ground, .inr (2, [z0_ground_formX, z0_ground_formY, z0_ground_foxX, z0_ground_foxY, z0_ground_seat, z0_ground_strength, z0_ground_debts, z0_ground_near, .int v0_ground_forms, .int v0_ground_hares, z0_ground_foxes, z0_ground_safe]))] H1 := hP.sub [0, 3, 1, 2] rfl
  have hD : va_D A [(a0, .inr (10, [z0_tape, z0_ground, z0_spareGround, z0_rule, z0_spareRule, .ref a0_lines, z0_spareLines, z0_steps, .ref a0_now, z0_trial, z0_past, z0_images, z0_round, z0_seating, .ref a0_fitting, z0_imagesKept, z0_refusedSteps, z0_callsNoSuch, .int x1])), (a0_fitting, .inr (3, [z0_fitting_seated, z0_fitting_sits, z0_fitting_fittingForms, z0_fitting_tally, .int x2, .int x3, .ref a0_lines, .int x4, .int x5, .int x6, .int x7])), (a0_now, .inr (1, [z0_now_row, z0_now_owedEach, .ref a0_ground, z0_now_law])), (a0_ground, .inr (2, [z0_ground_formX, z0_ground_formY, z0_ground_foxX, z0_ground_foxY, z0_ground_seat, z0_ground_strength, z0_ground_debts, z0_ground_near, .int v0_ground_forms, .int v0_ground_hares, z0_ground_foxes, z0_ground_safe]))] := hD.sub [0, 3, 1, 2] (by decide) rfl
  generalize H1 = H at hP hS ⊢
  refine lv_iload_n hx hb dX10_look_29 rfl (lv_at hl 1 rfl) ?_
  refine lv_if_ne (tgt := 43) hx hb dX10_look_30 (by decide) (fun c8 => ?_) (fun c8 => ?_)
  · have hw := hw.1 c8
    refine lv_aload_n hx hb dX10_look_43 rfl (lv_at hl 0 rfl) ?_
    refine va_get (D := (dC, dI)) (ci := 10) (v := .ref a0_fitting) (C := RX10) (T := TX10) (N := 19) hx hb hts ui_X10_look_X10 hown hK hP 0 rfl rfl 14 (by decide) (hts _ uw_X10_look_f93) (fun _ h9 => h9) rfl dX10_look_44 ?_
    refine va_get (D := (dC, dI)) (ci := 3) (v := .int x7) (C := RX3) (T := TX3) (N := 11) hx hb hts ui_X10_look_X3 hown hK hP 1 rfl rfl 10 (by decide) (hts _ uw_X10_look_f352) (fun _ h9 => h9) rfl dX10_look_47 ?_
    exact vx_ret (W.widen (k := 1) (n := 6) (Nat.le_of_ble_eq_true rfl) (Nat.le_of_ble_eq_true rfl) (W.iret (v := x7) hx hb hr (fun t ht hW => ⟨⟨x7, (x1, x2, x3, x4, x5, (.ref a0_lines), x6, x7), rfl, hw, by rw [ht]; exact hP, va_K.moved hW.alike hK, hD⟩, hS.F ht⟩) hS.2.2 dX10_look_50))
  · have hw := hw.2 c8
    refine lv_aload_n hx hb dX10_look_33 rfl (lv_at hl 0 rfl) ?_
    refine va_get (D := (dC, dI)) (ci := 10) (v := .ref a0_fitting) (C := RX10) (T := TX10) (N := 19) hx hb hts ui_X10_look_X10 hown hK hP 0 rfl rfl 14 (by decide) (hts _ uw_X10_look_f93) (fun _ h9 => h9) rfl dX10_look_34 ?_
    refine va_get (D := (dC, dI)) (ci := 3) (v := .int x6) (C := RX3) (T := TX3) (N := 11) hx hb hts ui_X10_look_X3 hown hK hP 1 rfl rfl 9 (by decide) (hts _ uw_X10_look_f349) (fun _ h9 => h9) rfl dX10_look_37 ?_
    refine lv_goto (tgt := 50) hx hb dX10_look_40 (by decide) ?_
    exact vx_ret (W.widen (k := 1) (n := 6) (Nat.le_of_ble_eq_true rfl) (Nat.le_of_ble_eq_true rfl) (W.iret (v := x6) hx hb hr (fun t ht hW => ⟨⟨x6, (x1, x2, x3, x4, x5, (.ref a0_lines), x6, x7), rfl, hw, by rw [ht]; exact hP, va_K.moved hW.alike hK, hD⟩, hS.F ht⟩) hS.2.2 dX10_look_50))
theorem ui_X1_drawDays_X1 : ∀ w ∈ u_ws RX1 TX1 4, w ∈ wsX1_drawDays := by decide +kernel
theorem ui_X1_drawDays_X2 : ∀ w ∈ u_ws RX2 TX2 12, w ∈ wsX1_drawDays := by decide +kernel
theorem uw_X1_drawDays_f24 : (.fieldLink RX1 24 "MarchHares$Days" "down" "LMarchHares$Down;" : Cond) ∈ wsX1_drawDays := by decide +kernel
theorem uw_X1_drawDays_f32 : (.fieldLink RX1 32 "MarchHares$Down" "hares" "I" : Cond) ∈ wsX1_drawDays := by decide +kernel
def wb_X1_drawDays_104 (v0_down_hares : Int32) (Q : Int32 → (Nat → Int32) → Prop) (K8 : (Nat → Int32) → Int32 → Int32 → Int32 → Int32 → Prop) (f0_row : Nat → Int32) (l2 : Int32) (l3 : Int32) (l4 : Int32) (l5 : Int32) : Prop := wq_X1_passDay v0_down_hares f0_row  (fun f3 => ∀ x4 : Int32, x4 = l5 + 1 → (K8 f3 l2 l3 l4 x4))
set_option maxHeartbeats 4000000 in
set_option maxRecDepth 100000 in
theorem kb_X1_drawDays_104 {p : Program} {l : Launch} {e : Env} {s : State} {m : MethodId} {args : Array Value} {below : List Frame} {meth : Method} {c : Code} {A : Nat → Prop} (dC : Nat → ClassId) (dI : Nat → Nat → Nat) (cyB cyI cyJ cyP : ClassId) (a0 a0_down a0_row : Nat) (z0_owedEach : Value) (z0_law : Value) (z0_down_formX : Value) (z0_down_formY : Value) (z0_down_foxX : Value) (z0_down_foxY : Value) (z0_down_seat : Value) (z0_down_strength : Value) (z0_down_debts : Value) (z0_down_near : Value) (z0_down_forms : Value) (z0_down_foxes : Value) (z0_down_safe : Value) (v0_down_hares : Int32) (Q : Int32 → (Nat → Int32) → Prop) (K8 : (Nat → Int32) → Int32 → Int32 → Int32 → Int32 → Prop) (hK8 : ∀ (H : Heap) (locs : List Loc) (ls : Array Slot) (f0_row : Nat → Int32) (l2 : Int32) (l3 : Int32) (l4 : Int32) (l5 : Int32), va_P (dC, dI) vwCl [(a0, .inr (1, [.ref a0_row, z0_owedEach, .ref a0_down, z0_law])), (a0_down, .inr (2, [z0_down_formX, z0_down_formY, z0_down_foxX, z0_down_foxY, z0_down_seat, z0_down_strength, z0_down_debts, z0_down_near, z0_down_forms, .int v0_down_hares, z0_down_foxes, z0_down_safe])), (a0_row, .inl (cyI, 64, .inl f0_row))] H → va_D A [(a0, .inr (1, [.ref a0_row, z0_owedEach, .ref a0_down, z0_law])), (a0_down, .inr (2, [z0_down_formX, z0_down_formY, z0_down_foxX, z0_down_foxY, z0_down_seat, z0_down_strength, z0_down_debts, z0_down_near, z0_down_forms, .int v0_down_hares, z0_down_foxes, z0_down_safe])), (a0_row, .inl (cyI, 64, .inl f0_row))] → va_S A s.heap H locs → lv_has ls 7 [(0, .ref a0), (2, .int l2), (3, .int l3), (4, .int l4), (5, .int l5)] → K8 f0_row l2 l3 l4 l5 → W p l e (headSpec wsX1_drawDays ({ frames := 3, cells := 0, slots := 0, locals := 65 })).room s m args below meth c H locs 0 0 (MQ below (va_Qi (fun (r : Int32) (u : (Nat → Int32)) => Q r u) (cB (dC, dI) (kT cyB cyI cyJ cyP) A (fun u : (Nat → Int32) => ([(a0, .inr (1, [.ref a0_row, z0_owedEach, .ref a0_down, z0_law])), (a0_down, .inr (2, [z0_down_formX, z0_down_formY, z0_down_foxX, z0_down_foxY, z0_down_seat, z0_down_strength, z0_down_debts, z0_down_near, z0_down_forms, .int v0_down_hares, z0_down_foxes, z0_down_safe])), (a0_row, .inl (cyI, 64, .inl u))] : va_W))) A) args s 0 0 A) (F0 m 8 ls [])) (C0 : cfx p s m args meth c cX1_drawDays (some .int) wsX1_drawDays RX1 7 A (dC, dI) (kT cyB cyI cyJ cyP)) : ∀ (H : Heap) (locs : List Loc) (ls : Array Slot) (f0_row : Nat → Int32) (l2 : Int32) (l3 : Int32) (l4 : Int32) (l5 : Int32), va_P (dC, dI) vwCl [(a0, .inr (1, [.ref a0_row, z0_owedEach, .ref a0_down, z0_law])), (a0_down, .inr (2, [z0_down_formX, z0_down_formY, z0_down_foxX, z0_down_foxY, z0_down_seat, z0_down_strength, z0_down_debts, z0_down_near, z0_down_forms, .int v0_down_hares, z0_down_foxes, z0_down_safe])), (a0_row, .inl (cyI, 64, .inl f0_row))] H → va_D A [(a0, .inr (1, [.ref a0_row, z0_owedEach, .ref a0_down, z0_law])), (a0_down, .inr (2, [z0_down_formX, z0_down_formY, z0_down_foxX, z0_down_foxY, z0_down_seat, z0_down_strength, z0_down_debts, z0_down_near, z0_down_forms, .int v0_down_hares, z0_down_foxes, z0_down_safe])), (a0_row, .inl (cyI, 64, .inl f0_row))] → va_S A s.heap H locs → lv_has ls 7 [(0, .ref a0), (2, .int l2), (3, .int l3), (4, .int l4), (5, .int l5)] → wb_X1_drawDays_104 v0_down_hares Q K8 f0_row l2 l3 l4 l5 → W p l e (headSpec wsX1_drawDays ({ frames := 3, cells := 0, slots := 0, locals := 65 })).room s m args below meth c H locs 0 0 (MQ below (va_Qi (fun (r : Int32) (u : (Nat → Int32)) => Q r u) (cB (dC, dI) (kT cyB cyI cyJ cyP) A (fun u : (Nat → Int32) => ([(a0, .inr (1, [.ref a0_row, z0_owedEach, .ref a0_down, z0_law])), (a0_down, .inr (2, [z0_down_formX, z0_down_formY, z0_down_foxX, z0_down_foxY, z0_down_seat, z0_down_strength, z0_down_debts, z0_down_near, z0_down_forms, .int v0_down_hares, z0_down_foxes, z0_down_safe])), (a0_row, .inl (cyI, 64, .inl u))] : va_W))) A) args s 0 0 A) (F0 m 104 ls []) := by
  obtain ⟨hx, hb, hr, hts, hown, hlocks, hml, hA, hK, hNw⟩ := id C0
  intro H locs ls f0_row l2 l3 l4 l5 hP hD hS hl hw
  refine lv_aload_n hx hb dX1_drawDays_104 rfl (lv_at hl 0 rfl) ?_
  have hPc := hP.sub (ws' := [(a0, .inr (1, [.ref a0_row, z0_owedEach, .ref a0_down, z0_law])), (a0_down, .inr (2, [z0_down_formX, z0_down_formY, z0_down_foxX, z0_down_foxY, z0_down_seat, z0_down_strength, z0_down_debts, z0_down_near, z0_down_forms, .int v0_down_hares, z0_down_foxes, z0_down_safe])), (a0_row, .inl (cyI, 64, .inl f0_row))]) [0, 1, 2] rfl
  have hDc := hD.sub (ws' := [(a0, .inr (1, [.ref a0_row, z0_owedEach, .ref a0_down, z0_law])), (a0_down, .inr (2, [z0_down_formX, z0_down_formY, z0_down_foxX, z0_down_foxY, z0_down_seat, z0_down_strength, z0_down_debts, z0_down_near, z0_down_forms, .int v0_down_hares, z0_down_foxes, z0_down_safe])), (a0_row, .inl (cyI, 64, .inl f0_row))]) [0, 1, 2] (by decide) rfl
  have hFc := va_free (wc := [(a0, .inr (1, [.ref a0_row, z0_owedEach, .ref a0_down, z0_law])), (a0_down, .inr (2, [z0_down_formX, z0_down_formY, z0_down_foxX, z0_down_foxY, z0_down_seat, z0_down_strength, z0_down_debts, z0_down_near, z0_down_forms, .int v0_down_hares, z0_down_foxes, z0_down_safe])), (a0_row, .inl (cyI, 64, .inl f0_row))]) hD hS hA [0, 1, 2] rfl
  refine va_callv (va_runV (As := []) (rest := []) ⟨hx, hb, hml, hown, hts⟩ (ck_X1_passDay l dC dI cyB cyI cyJ cyP a0 a0_down a0_row H.size (z0_owedEach) (z0_law) (z0_down_formX) (z0_down_formY) (z0_down_foxX) (z0_down_foxY) (z0_down_seat) (z0_down_strength) (z0_down_debts) (z0_down_near) (z0_down_forms) (z0_down_foxes) (z0_down_safe) v0_down_hares f0_row  hw) (cwV 0 hts gX1_drawDays_X1_passDay rfl rfl rfl (by decide +kernel) ⟨Nat.le_of_ble_eq_true rfl, Nat.le_of_ble_eq_true rfl⟩) ⟨cPc_blind, va_recv hK hPc (ci := 1) (q0 := 0) rfl rfl, cPc_pre hPc hK hDc hNw⟩ rfl rfl hl.1 rfl (lv_room (Nat.le_of_ble_eq_true rfl)) dX1_drawDays_105 ⟨Nat.le_of_ble_eq_true rfl, Nat.le_of_ble_eq_true rfl⟩) hS (fun q _ h => hFc q h) hFc (fun u t H1 locs ht hvm hw hB hz1 hk1 hS => ?_)
  obtain ⟨f3, rfl⟩ : ∃ z, z = u := ⟨_, rfl⟩
  obtain ⟨hP1, hK1, hD1⟩ := hB
  rw [ht] at hP1
  obtain ⟨hP, hD⟩ := va_join (wr := []) (w1 := [(a0, .inr (1, [.ref a0_row, z0_owedEach, .ref a0_down, z0_law])), (a0_down, .inr (2, [z0_down_formX, z0_down_formY, z0_down_foxX, z0_down_foxY, z0_down_seat, z0_down_strength, z0_down_debts, z0_down_near, z0_down_forms, .int v0_down_hares, z0_down_foxes, z0_down_safe])), (a0_row, .inl (cyI, 64, .inl f3))]) hP hD [0, 1, 2] [] rfl rfl (by decide) (by decide) hk1 hFc hP1 hD1
  have hP : va_P (dC, dI) vwCl [(a0, .inr (1, [.ref a0_row, z0_owedEach, .ref a0_down, z0_law])), (a0_down, .inr (2, [z0_down_formX, z0_down_formY, z0_down_foxX, z0_down_foxY, z0_down_seat, z0_down_strength, z0_down_debts, z0_down_near, z0_down_forms, .int v0_down_hares, z0_down_foxes, z0_down_safe])), (a0_row, .inl (cyI, 64, .inl f3))] H1 := hP
  have hD : va_D A [(a0, .inr (1, [.ref a0_row, z0_owedEach, .ref a0_down, z0_law])), (a0_down, .inr (2, [z0_down_formX, z0_down_formY, z0_down_foxX, z0_down_foxY, z0_down_seat, z0_down_strength, z0_down_debts, z0_down_near, z0_down_forms, .int v0_down_hares, z0_down_foxes, z0_down_safe])), (a0_row, .inl (cyI, 64, .inl f3))] := hD
  generalize H1 = H at hP hS ⊢
  obtain ⟨x4, ex4⟩ : ∃ y : Int32, y = l5 + 1 := ⟨_, rfl⟩
  have hw := hw x4 ex4
  refine lv_iinc (v := x4) (lv' := [(5, .int x4), (0, .ref a0), (2, .int l2), (3, .int l3), (4, .int l4)]) hx hb dX1_drawDays_108 hl (k := 4) rfl (by rw [ex4]; rfl) (by decide) rfl (fun ls hl => ?_)
  refine lv_goto (tgt := 8) hx hb dX1_drawDays_111 (by decide) ?_
  exact hK8 _ _ _ f3 l2 l3 l4 x4 hP hD hS (lv_sub hl [1, 2, 3, 4, 0] rfl) hw
def wl_X1_drawDays_8 (v0_down_hares : Int32) (Q : Int32 → (Nat → Int32) → Prop)  : Nat → (Nat → Int32) → Int32 → Int32 → Int32 → Int32 → Prop
  | 0, _, _, _, _, _ => False
  | n + 1, f0_row, l2, l3, l4, l5 => ((l2 ≤ l5 → (Q l4 f0_row)) ∧ (¬ l2 ≤ l5 → ((v0_down_hares ≤ 0 → (wb_X1_drawDays_104 v0_down_hares Q (fun f0_row l2 l3 l4 l5 => wl_X1_drawDays_8 v0_down_hares Q  n f0_row l2 l3 l4 l5) f0_row l2 l3 l4 l5)) ∧ (¬ v0_down_hares ≤ 0 → False))))
set_option maxHeartbeats 4000000 in
set_option maxRecDepth 100000 in
theorem kl_X1_drawDays_8 {p : Program} {l : Launch} {e : Env} {s : State} {m : MethodId} {args : Array Value} {below : List Frame} {meth : Method} {c : Code} {A : Nat → Prop} (dC : Nat → ClassId) (dI : Nat → Nat → Nat) (cyB cyI cyJ cyP : ClassId) (a0 a0_down a0_row : Nat) (z0_owedEach : Value) (z0_law : Value) (z0_down_formX : Value) (z0_down_formY : Value) (z0_down_foxX : Value) (z0_down_foxY : Value) (z0_down_seat : Value) (z0_down_strength : Value) (z0_down_debts : Value) (z0_down_near : Value) (z0_down_forms : Value) (z0_down_foxes : Value) (z0_down_safe : Value) (v0_down_hares : Int32) (Q : Int32 → (Nat → Int32) → Prop)  (C0 : cfx p s m args meth c cX1_drawDays (some .int) wsX1_drawDays RX1 7 A (dC, dI) (kT cyB cyI cyJ cyP)) : ∀ (n : Nat) (H : Heap) (locs : List Loc) (ls : Array Slot) (f0_row : Nat → Int32) (l2 : Int32) (l3 : Int32) (l4 : Int32) (l5 : Int32), va_P (dC, dI) vwCl [(a0, .inr (1, [.ref a0_row, z0_owedEach, .ref a0_down, z0_law])), (a0_down, .inr (2, [z0_down_formX, z0_down_formY, z0_down_foxX, z0_down_foxY, z0_down_seat, z0_down_strength, z0_down_debts, z0_down_near, z0_down_forms, .int v0_down_hares, z0_down_foxes, z0_down_safe])), (a0_row, .inl (cyI, 64, .inl f0_row))] H → va_D A [(a0, .inr (1, [.ref a0_row, z0_owedEach, .ref a0_down, z0_law])), (a0_down, .inr (2, [z0_down_formX, z0_down_formY, z0_down_foxX, z0_down_foxY, z0_down_seat, z0_down_strength, z0_down_debts, z0_down_near, z0_down_forms, .int v0_down_hares, z0_down_foxes, z0_down_safe])), (a0_row, .inl (cyI, 64, .inl f0_row))] → va_S A s.heap H locs → lv_has ls 7 [(0, .ref a0), (2, .int l2), (3, .int l3), (4, .int l4), (5, .int l5)] → wl_X1_drawDays_8 v0_down_hares Q  n f0_row l2 l3 l4 l5 → W p l e (headSpec wsX1_drawDays ({ frames := 3, cells := 0, slots := 0, locals := 65 })).room s m args below meth c H locs 0 0 (MQ below (va_Qi (fun (r : Int32) (u : (Nat → Int32)) => Q r u) (cB (dC, dI) (kT cyB cyI cyJ cyP) A (fun u : (Nat → Int32) => ([(a0, .inr (1, [.ref a0_row, z0_owedEach, .ref a0_down, z0_law])), (a0_down, .inr (2, [z0_down_formX, z0_down_formY, z0_down_foxX, z0_down_foxY, z0_down_seat, z0_down_strength, z0_down_debts, z0_down_near, z0_down_forms, .int v0_down_hares, z0_down_foxes, z0_down_safe])), (a0_row, .inl (cyI, 64, .inl u))] : va_W))) A) args s 0 0 A) (F0 m 8 ls []) := by
  obtain ⟨hx, hb, hr, hts, hown, hlocks, hml, hA, hK, hNw⟩ := id C0
  intro n
  induction n with
  | zero => intro H locs ls f0_row l2 l3 l4 l5 hP hD hS hl hw; exact False.elim hw
  | succ n ih =>
    intro H locs ls f0_row l2 l3 l4 l5 hP hD hS hl hw
    refine lv_iload hx hb dX1_drawDays_8 (lv_at hl 4 rfl) ?_
    refine lv_iload_n hx hb dX1_drawDays_10 rfl (lv_at hl 1 rfl) ?_
    refine lv_icmp_ge (tgt := 114) hx hb dX1_drawDays_11 (by decide) (fun c1 => ?_) (fun c1 => ?_)
    · have hw := hw.1 c1
      refine lv_iload hx hb dX1_drawDays_114 (lv_at hl 3 rfl) ?_
      exact ((W.iret (v := l4) hx hb hr (fun t ht hW => ⟨⟨l4, (f0_row), rfl, hw, by rw [ht]; exact hP, va_K.moved hW.alike hK, hD⟩, hS.F ht⟩) hS.2.2 dX1_drawDays_116))
    · have hw := hw.2 c1
      refine lv_aload_n hx hb dX1_drawDays_14 rfl (lv_at hl 0 rfl) ?_
      refine va_get (D := (dC, dI)) (ci := 1) (v := .ref a0_down) (C := RX1) (T := TX1) (N := 4) hx hb hts ui_X1_drawDays_X1 hown hK hP 0 rfl rfl 2 (by decide) (hts _ uw_X1_drawDays_f24) (fun _ h9 => h9) rfl dX1_drawDays_15 ?_
      refine va_get (D := (dC, dI)) (ci := 2) (v := .int v0_down_hares) (C := RX2) (T := TX2) (N := 12) hx hb hts ui_X1_drawDays_X2 hown hK hP 1 rfl rfl 9 (by decide) (hts _ uw_X1_drawDays_f32) (fun _ h9 => h9) rfl dX1_drawDays_18 ?_
      refine lv_if_le (tgt := 104) hx hb dX1_drawDays_21 (by decide) (fun c2 => ?_) (fun c2 => ?_)
      · have hw := hw.1 c2
        exact kb_X1_drawDays_104 dC dI cyB cyI cyJ cyP a0 a0_down a0_row z0_owedEach z0_law z0_down_formX z0_down_formY z0_down_foxX z0_down_foxY z0_down_seat z0_down_strength z0_down_debts z0_down_near z0_down_forms z0_down_foxes z0_down_safe v0_down_hares Q (wl_X1_drawDays_8 v0_down_hares Q  n) ih C0 _ _ _ f0_row l2 l3 l4 l5 hP hD hS (lv_sub hl [0, 1, 2, 3, 4] rfl) hw
      · have hw := hw.2 c2
        exact False.elim hw
def wq_X1_drawDays (v0_down_hares : Int32) (f0_row : Nat → Int32) (p1 : Int32) (p2 : Int32) (Q : Int32 → (Nat → Int32) → Prop) : Prop := (∃ k9 : Nat, wl_X1_drawDays_8 v0_down_hares Q  k9 f0_row p2 p1 0 0)
set_option maxHeartbeats 4000000 in
set_option maxRecDepth 100000 in
theorem ck_X1_drawDays (l : Launch) (dC : Nat → ClassId) (dI : Nat → Nat → Nat) (cyB cyI cyJ cyP : ClassId) (a0 a0_down a0_row : Nat) (sz : Nat) (z0_owedEach : Value) (z0_law : Value) (z0_down_formX : Value) (z0_down_formY : Value) (z0_down_foxX : Value) (z0_down_foxY : Value) (z0_down_seat : Value) (z0_down_strength : Value) (z0_down_debts : Value) (z0_down_near : Value) (z0_down_forms : Value) (z0_down_foxes : Value) (z0_down_safe : Value) (v0_down_hares : Int32) (f0_row : Nat → Int32) (p1 : Int32) (p2 : Int32) {Q : Int32 → (Nat → Int32) → Prop} (hw : wq_X1_drawDays v0_down_hares f0_row p1 p2 Q) : Met l yX1_drawDays wsX1_drawDays ({ frames := 3, cells := 0, slots := 0, locals := 65 }) (va_Pc [.ref a0, .int p1, .int p2] (cPc (dC, dI) (kT cyB cyI cyJ cyP) [(a0, .inr (1, [.ref a0_row, z0_owedEach, .ref a0_down, z0_law])), (a0_down, .inr (2, [z0_down_formX, z0_down_formY, z0_down_foxX, z0_down_foxY, z0_down_seat, z0_down_strength, z0_down_debts, z0_down_near, z0_down_forms, .int v0_down_hares, z0_down_foxes, z0_down_safe])), (a0_row, .inl (cyI, 64, .inl f0_row))] sz)) (va_Qi (fun (r : Int32) (u : (Nat → Int32)) => Q r u) (cB (dC, dI) (kT cyB cyI cyJ cyP) (va_A [(a0, .inr (1, [.ref a0_row, z0_owedEach, .ref a0_down, z0_law])), (a0_down, .inr (2, [z0_down_formX, z0_down_formY, z0_down_foxX, z0_down_foxY, z0_down_seat, z0_down_strength, z0_down_debts, z0_down_near, z0_down_forms, .int v0_down_hares, z0_down_foxes, z0_down_safe])), (a0_row, .inl (cyI, 64, .inl f0_row))] sz) (fun u : (Nat → Int32) => ([(a0, .inr (1, [.ref a0_row, z0_owedEach, .ref a0_down, z0_law])), (a0_down, .inr (2, [z0_down_formX, z0_down_formY, z0_down_foxX, z0_down_foxY, z0_down_seat, z0_down_strength, z0_down_debts, z0_down_near, z0_down_forms, .int v0_down_hares, z0_down_foxes, z0_down_safe])), (a0_row, .inl (cyI, 64, .inl u))] : va_W))) (va_A [(a0, .inr (1, [.ref a0_row, z0_owedEach, .ref a0_down, z0_law])), (a0_down, .inr (2, [z0_down_formX, z0_down_formY, z0_down_foxX, z0_down_foxY, z0_down_seat, z0_down_strength, z0_down_debts, z0_down_near, z0_down_forms, .int v0_down_hares, z0_down_foxes, z0_down_safe])), (a0_row, .inl (cyI, 64, .inl f0_row))] sz)) 0 0 (va_A [(a0, .inr (1, [.ref a0_row, z0_owedEach, .ref a0_down, z0_law])), (a0_down, .inr (2, [z0_down_formX, z0_down_formY, z0_down_foxX, z0_down_foxY, z0_down_seat, z0_down_strength, z0_down_debts, z0_down_near, z0_down_forms, .int v0_down_hares, z0_down_foxes, z0_down_safe])), (a0_row, .inl (cyI, 64, .inl f0_row))] sz) := by
  refine Met.ofW (cc := cX1_drawDays) (maxL := 7) (ret := (some .int)) (by decide) rfl ?_
  intro p e s m args below meth c s₁ B hml hv
  obtain ⟨rfl, hsz, hP, hK, hD0, hNw⟩ := hv
  have hx := B.exec
  have hb := B.bytes
  have hr := B.returns
  have hts := atoms_spec (ws := wsX1_drawDays) B.pre
  have hown : s.vm.findClass RX1 = some m.cls := findClass_of_methodNamed B.named
  have hlocks := B.notSynchronized
  subst hsz
  have hD := hD0.self (sz := s.heap.size)
  generalize hAe : va_A [(a0, .inr (1, [.ref a0_row, z0_owedEach, .ref a0_down, z0_law])), (a0_down, .inr (2, [z0_down_formX, z0_down_formY, z0_down_foxX, z0_down_foxY, z0_down_seat, z0_down_strength, z0_down_debts, z0_down_near, z0_down_forms, .int v0_down_hares, z0_down_foxes, z0_down_safe])), (a0_row, .inl (cyI, 64, .inl f0_row))] s.heap.size = A at hD ⊢
  have hA : ∀ q : Nat, s.heap.size ≤ q → A q := fun q h => by rw [← hAe]; exact Or.inr h
  have hS : va_S A s.heap s.heap [] := va_S.rf
  have hP : va_P (dC, dI) vwCl [(a0, .inr (1, [.ref a0_row, z0_owedEach, .ref a0_down, z0_law])), (a0_down, .inr (2, [z0_down_formX, z0_down_formY, z0_down_foxX, z0_down_foxY, z0_down_seat, z0_down_strength, z0_down_debts, z0_down_near, z0_down_forms, .int v0_down_hares, z0_down_foxes, z0_down_safe])), (a0_row, .inl (cyI, 64, .inl f0_row))] s.heap := hP
  have hl := lv_entry ([.ref a0, .int p1, .int p2]) (n := 7) (Nat.le_of_ble_eq_true rfl)
  rw [lg_entry_eq]
  generalize (lg_sl ([.ref a0, .int p1, .int p2]) ++ List.replicate (7 - (lg_sl ([.ref a0, .int p1, .int p2])).length) Slot.unset).toArray = ls at hl ⊢
  have hl : lv_has ls 7 [(0, .ref a0), (1, .int p1), (2, .int p2)] := hl
  have C0 : cfx p s m _ meth c cX1_drawDays (some .int) wsX1_drawDays RX1 7 A (dC, dI) (kT cyB cyI cyJ cyP) := ⟨hx, hb, hr, hts, hown, hlocks, hml, hA, hK, hNw⟩
  clear hAe
  obtain ⟨H, hH⟩ : ∃ H, H = s.heap := ⟨_, rfl⟩
  rw [← hH] at hP ⊢
  have hS : va_S A s.heap H [] := by rw [hH]; exact va_S.rf
  have hS := hS
  refine lv_iload_n hx hb dX1_drawDays_0 rfl (lv_at hl 1 rfl) ?_
  refine lv_istore_n (lv' := [(3, .int p1), (0, .ref a0), (1, .int p1), (2, .int p2)]) hx hb dX1_drawDays_1 rfl hl (by decide) rfl (fun ls hl => ?_)
  refine lv_iconst (v := 0) hx hb dX1_drawDays_2 (by decide) ?_
  refine lv_istore (lv' := [(4, .int 0), (3, .int p1), (0, .ref a0), (1, .int p1), (2, .int p2)]) hx hb dX1_drawDays_3 hl (by decide) rfl (fun ls hl => ?_)
  refine lv_iconst (v := 0) hx hb dX1_drawDays_5 (by decide) ?_
  refine lv_istore (lv' := [(5, .int 0), (4, .int 0), (3, .int p1), (0, .ref a0), (1, .int p1), (2, .int p2)]) hx hb dX1_drawDays_6 hl (by decide) rfl (fun ls hl => ?_)
  obtain ⟨n9, hw⟩ := hw
  exact kl_X1_drawDays_8 dC dI cyB cyI cyJ cyP a0 a0_down a0_row z0_owedEach z0_law z0_down_formX z0_down_formY z0_down_foxX z0_down_foxY z0_down_seat z0_down_strength z0_down_debts z0_down_near z0_down_forms z0_down_foxes z0_down_safe v0_down_hares Q  C0 n9 _ _ _ f0_row p2 p1 0 0 hP hD hS (lv_sub hl [3, 5, 2, 1, 0] rfl) hw
theorem ui_X1_strongTogether_X1 : ∀ w ∈ u_ws RX1 TX1 4, w ∈ wsX1_strongTogether := by decide +kernel
theorem ui_X1_strongTogether_X2 : ∀ w ∈ u_ws RX2 TX2 12, w ∈ wsX1_strongTogether := by decide +kernel
theorem uw_X1_strongTogether_f24 : (.fieldLink RX1 24 "MarchHares$Days" "down" "LMarchHares$Down;" : Cond) ∈ wsX1_strongTogether := by decide +kernel
theorem uw_X1_strongTogether_f32 : (.fieldLink RX1 32 "MarchHares$Down" "hares" "I" : Cond) ∈ wsX1_strongTogether := by decide +kernel
def wl_X1_strongTogether_4 (v0_down_hares : Int32) (Q : Int32 → Prop)  : Nat → Int32 → Int32 → Prop
  | 0, _, _ => False
  | n + 1, l1, l2 => ((v0_down_hares ≤ l2 → (Q l1)) ∧ (¬ v0_down_hares ≤ l2 → False))
set_option maxHeartbeats 4000000 in
set_option maxRecDepth 100000 in
theorem kl_X1_strongTogether_4 {p : Program} {l : Launch} {e : Env} {s : State} {m : MethodId} {args : Array Value} {below : List Frame} {meth : Method} {c : Code} {A : Nat → Prop} (dC : Nat → ClassId) (dI : Nat → Nat → Nat) (cyB cyI cyJ cyP : ClassId) (a0 a0_down : Nat) (z0_row : Value) (z0_owedEach : Value) (z0_law : Value) (z0_down_formX : Value) (z0_down_formY : Value) (z0_down_foxX : Value) (z0_down_foxY : Value) (z0_down_seat : Value) (z0_down_strength : Value) (z0_down_debts : Value) (z0_down_near : Value) (z0_down_forms : Value) (z0_down_foxes : Value) (z0_down_safe : Value) (v0_down_hares : Int32) (Q : Int32 → Prop)  (C0 : cfx p s m args meth c cX1_strongTogether (some .int) wsX1_strongTogether RX1 3 A (dC, dI) (kT cyB cyI cyJ cyP)) : ∀ (n : Nat) (H : Heap) (locs : List Loc) (ls : Array Slot) (l1 : Int32) (l2 : Int32), va_P (dC, dI) vwCl [(a0, .inr (1, [z0_row, z0_owedEach, .ref a0_down, z0_law])), (a0_down, .inr (2, [z0_down_formX, z0_down_formY, z0_down_foxX, z0_down_foxY, z0_down_seat, z0_down_strength, z0_down_debts, z0_down_near, z0_down_forms, .int v0_down_hares, z0_down_foxes, z0_down_safe]))] H → va_D A [(a0, .inr (1, [z0_row, z0_owedEach, .ref a0_down, z0_law])), (a0_down, .inr (2, [z0_down_formX, z0_down_formY, z0_down_foxX, z0_down_foxY, z0_down_seat, z0_down_strength, z0_down_debts, z0_down_near, z0_down_forms, .int v0_down_hares, z0_down_foxes, z0_down_safe]))] → va_S A s.heap H locs → lv_has ls 3 [(0, .ref a0), (1, .int l1), (2, .int l2)] → wl_X1_strongTogether_4 v0_down_hares Q  n l1 l2 → W p l e (headSpec wsX1_strongTogether ({ frames := 0, cells := 0, slots := 0, locals := 0 })).room s m args below meth c H locs 0 0 (MQ below (va_Qi (fun (r : Int32) (_ : Unit) => Q r ) (cB (dC, dI) (kT cyB cyI cyJ cyP) A (fun u : Unit => ([(a0, .inr (1, [z0_row, z0_owedEach, .ref a0_down, z0_law])), (a0_down, .inr (2, [z0_down_formX, z0_down_formY, z0_down_foxX, z0_down_foxY, z0_down_seat, z0_down_strength, z0_down_debts, z0_down_near, z0_down_forms, .int v0_down_hares, z0_down_foxes, z0_down_safe]))] : va_W))) A) args s 0 0 A) (F0 m 4 ls []) := by
  obtain ⟨hx, hb, hr, hts, hown, hlocks, hml, hA, hK, hNw⟩ := id C0
  intro n
  induction n with
  | zero => intro H locs ls l1 l2 hP hD hS hl hw; exact False.elim hw
  | succ n ih =>
    intro H locs ls l1 l2 hP hD hS hl hw
    refine lv_iload_n hx hb dX1_strongTogether_4 rfl (lv_at hl 2 rfl) ?_
    refine lv_aload_n hx hb dX1_strongTogether_5 rfl (lv_at hl 0 rfl) ?_
    refine va_get (D := (dC, dI)) (ci := 1) (v := .ref a0_down) (C := RX1) (T := TX1) (N := 4) hx hb hts ui_X1_strongTogether_X1 hown hK hP 0 rfl rfl 2 (by decide) (hts _ uw_X1_strongTogether_f24) (fun _ h9 => h9) rfl dX1_strongTogether_6 ?_
    refine va_get (D := (dC, dI)) (ci := 2) (v := .int v0_down_hares) (C := RX2) (T := TX2) (N := 12) hx hb hts ui_X1_strongTogether_X2 hown hK hP 1 rfl rfl 9 (by decide) (hts _ uw_X1_strongTogether_f32) (fun _ h9 => h9) rfl dX1_strongTogether_9 ?_
    refine lv_icmp_ge (tgt := 41) hx hb dX1_strongTogether_12 (by decide) (fun c1 => ?_) (fun c1 => ?_)
    · have hw := hw.1 c1
      refine lv_iload_n hx hb dX1_strongTogether_41 rfl (lv_at hl 1 rfl) ?_
      exact ((W.iret (v := l1) hx hb hr (fun t ht hW => ⟨⟨l1, (), rfl, hw, by rw [ht]; exact hP, va_K.moved hW.alike hK, hD⟩, hS.F ht⟩) hS.2.2 dX1_strongTogether_42))
    · have hw := hw.2 c1
      exact False.elim hw
def wq_X1_strongTogether (v0_down_hares : Int32)   (Q : Int32 → Prop) : Prop := (∃ k9 : Nat, wl_X1_strongTogether_4 v0_down_hares Q  k9 0 0)
set_option maxHeartbeats 4000000 in
set_option maxRecDepth 100000 in
theorem ck_X1_strongTogether (l : Launch) (dC : Nat → ClassId) (dI : Nat → Nat → Nat) (cyB cyI cyJ cyP : ClassId) (a0 a0_down : Nat) (sz : Nat) (z0_row : Value) (z0_owedEach : Value) (z0_law : Value) (z0_down_formX : Value) (z0_down_formY : Value) (z0_down_foxX : Value) (z0_down_foxY : Value) (z0_down_seat : Value) (z0_down_strength : Value) (z0_down_debts : Value) (z0_down_near : Value) (z0_down_forms : Value) (z0_down_foxes : Value) (z0_down_safe : Value) (v0_down_hares : Int32)   {Q : Int32 → Prop} (hw : wq_X1_strongTogether v0_down_hares   Q) : Met l yX1_strongTogether wsX1_strongTogether ({ frames := 0, cells := 0, slots := 0, locals := 0 }) (va_Pc [.ref a0] (cPc (dC, dI) (kT cyB cyI cyJ cyP) [(a0, .inr (1, [z0_row, z0_owedEach, .ref a0_down, z0_law])), (a0_down, .inr (2, [z0_down_formX, z0_down_formY, z0_down_foxX, z0_down_foxY, z0_down_seat, z0_down_strength, z0_down_debts, z0_down_near, z0_down_forms, .int v0_down_hares, z0_down_foxes, z0_down_safe]))] sz)) (va_Qi (fun (r : Int32) (_ : Unit) => Q r ) (cB (dC, dI) (kT cyB cyI cyJ cyP) (va_A [(a0, .inr (1, [z0_row, z0_owedEach, .ref a0_down, z0_law])), (a0_down, .inr (2, [z0_down_formX, z0_down_formY, z0_down_foxX, z0_down_foxY, z0_down_seat, z0_down_strength, z0_down_debts, z0_down_near, z0_down_forms, .int v0_down_hares, z0_down_foxes, z0_down_safe]))] sz) (fun u : Unit => ([(a0, .inr (1, [z0_row, z0_owedEach, .ref a0_down, z0_law])), (a0_down, .inr (2, [z0_down_formX, z0_down_formY, z0_down_foxX, z0_down_foxY, z0_down_seat, z0_down_strength, z0_down_debts, z0_down_near, z0_down_forms, .int v0_down_hares, z0_down_foxes, z0_down_safe]))] : va_W))) (va_A [(a0, .inr (1, [z0_row, z0_owedEach, .ref a0_down, z0_law])), (a0_down, .inr (2, [z0_down_formX, z0_down_formY, z0_down_foxX, z0_down_foxY, z0_down_seat, z0_down_strength, z0_down_debts, z0_down_near, z0_down_forms, .int v0_down_hares, z0_down_foxes, z0_down_safe]))] sz)) 0 0 (va_A [(a0, .inr (1, [z0_row, z0_owedEach, .ref a0_down, z0_law])), (a0_down, .inr (2, [z0_down_formX, z0_down_formY, z0_down_foxX, z0_down_foxY, z0_down_seat, z0_down_strength, z0_down_debts, z0_down_near, z0_down_forms, .int v0_down_hares, z0_down_foxes, z0_down_safe]))] sz) := by
  refine Met.ofW (cc := cX1_strongTogether) (maxL := 3) (ret := (some .int)) (by decide) rfl ?_
  intro p e s m args below meth c s₁ B hml hv
  obtain ⟨rfl, hsz, hP, hK, hD0, hNw⟩ := hv
  have hx := B.exec
  have hb := B.bytes
  have hr := B.returns
  have hts := atoms_spec (ws := wsX1_strongTogether) B.pre
  have hown : s.vm.findClass RX1 = some m.cls := findClass_of_methodNamed B.named
  have hlocks := B.notSynchronized
  subst hsz
  have hD := hD0.self (sz := s.heap.size)
  generalize hAe : va_A [(a0, .inr (1, [z0_row, z0_owedEach, .ref a0_down, z0_law])), (a0_down, .inr (2, [z0_down_formX, z0_down_formY, z0_down_foxX, z0_down_foxY, z0_down_seat, z0_down_strength, z0_down_debts, z0_down_near, z0_down_forms, .int v0_down_hares, z0_down_foxes, z0_down_safe]))] s.heap.size = A at hD ⊢
  have hA : ∀ q : Nat, s.heap.size ≤ q → A q := fun q h => by rw [← hAe]; exact Or.inr h
  have hS : va_S A s.heap s.heap [] := va_S.rf
  have hP : va_P (dC, dI) vwCl [(a0, .inr (1, [z0_row, z0_owedEach, .ref a0_down, z0_law])), (a0_down, .inr (2, [z0_down_formX, z0_down_formY, z0_down_foxX, z0_down_foxY, z0_down_seat, z0_down_strength, z0_down_debts, z0_down_near, z0_down_forms, .int v0_down_hares, z0_down_foxes, z0_down_safe]))] s.heap := hP
  have hl := lv_entry ([.ref a0]) (n := 3) (Nat.le_of_ble_eq_true rfl)
  rw [lg_entry_eq]
  generalize (lg_sl ([.ref a0]) ++ List.replicate (3 - (lg_sl ([.ref a0])).length) Slot.unset).toArray = ls at hl ⊢
  have hl : lv_has ls 3 [(0, .ref a0)] := hl
  have C0 : cfx p s m _ meth c cX1_strongTogether (some .int) wsX1_strongTogether RX1 3 A (dC, dI) (kT cyB cyI cyJ cyP) := ⟨hx, hb, hr, hts, hown, hlocks, hml, hA, hK, hNw⟩
  clear hAe
  obtain ⟨H, hH⟩ : ∃ H, H = s.heap := ⟨_, rfl⟩
  rw [← hH] at hP ⊢
  have hS : va_S A s.heap H [] := by rw [hH]; exact va_S.rf
  have hS := hS
  refine lv_iconst (v := 0) hx hb dX1_strongTogether_0 (by decide) ?_
  refine lv_istore_n (lv' := [(1, .int 0), (0, .ref a0)]) hx hb dX1_strongTogether_1 rfl hl (by decide) rfl (fun ls hl => ?_)
  refine lv_iconst (v := 0) hx hb dX1_strongTogether_2 (by decide) ?_
  refine lv_istore_n (lv' := [(2, .int 0), (1, .int 0), (0, .ref a0)]) hx hb dX1_strongTogether_3 rfl hl (by decide) rfl (fun ls hl => ?_)
  obtain ⟨n9, hw⟩ := hw
  exact kl_X1_strongTogether_4 dC dI cyB cyI cyJ cyP a0 a0_down z0_row z0_owedEach z0_law z0_down_formX z0_down_formY z0_down_foxX z0_down_foxY z0_down_seat z0_down_strength z0_down_debts z0_down_near z0_down_forms z0_down_foxes z0_down_safe v0_down_hares Q  C0 n9 _ _ _ 0 0 hP hD hS (lv_sub hl [2, 1, 0] rfl) hw
theorem ui_X10_march_X10 : ∀ w ∈ u_ws RX10 TX10 19, w ∈ wsX10_march := by decide +kernel
theorem uw_X10_march_f58 : (.fieldLink RX10 58 "MarchHares" "now" "LMarchHares$Days;" : Cond) ∈ wsX10_march := by decide +kernel
theorem uw_X10_march_f62 : (.fieldLink RX10 62 "MarchHares" "trial" "LMarchHares$Days;" : Cond) ∈ wsX10_march := by decide +kernel
def wq_X10_march (a0_ground : Nat) (a0_rule : Nat) (f0_now_row : Nat → Int32) (v0_ground_hares : Int32) (v0_callsIllegal : Int32) (f0_trial_row : Nat → Int32) (r0_trial_down : Value) (r0_trial_law : Value) (p1 : Int32) (p2 : Int32) (p3 : Int32) (E : String → Int32 → (Nat → Int32) → Value → Value → Prop) (Q : Int32 → Int32 → (Nat → Int32) → Value → Value → Prop) : Prop := wq_X10_needWithin  v0_callsIllegal p2 1 96 (fun en x1 => E en x1 f0_trial_row r0_trial_down r0_trial_law) (fun x1 => wq_X10_needWithin  x1 p3 0 3 (fun en x2 => E en x2 f0_trial_row r0_trial_down r0_trial_law) (fun x2 => wq_X1_copyFrom f0_now_row f0_trial_row  (fun f3 => wq_X1_drawDays v0_ground_hares f3 p1 p2 (fun r5 f4 => (((p3.toInt < 0 ∨ 2 < p3.toInt) → wq_X1_day f4   (fun r7 => (Q r7 x2 f4 (.ref a0_ground) (.ref a0_rule)))) ∧ (p3 = 0 → (Q r5 x2 f4 (.ref a0_ground) (.ref a0_rule))) ∧ (p3 = 1 → wq_X1_caughtOnes f4   (fun r8 => (Q r8 x2 f4 (.ref a0_ground) (.ref a0_rule)))) ∧ (p3 = 2 → wq_X1_strongTogether v0_ground_hares   (fun r9 => (Q r9 x2 f4 (.ref a0_ground) (.ref a0_rule)))))))))
set_option maxHeartbeats 4000000 in
set_option maxRecDepth 100000 in
theorem ck_X10_march (l : Launch) (dC : Nat → ClassId) (dI : Nat → Nat → Nat) (cyB cyI cyJ cyP : ClassId) (a0 a0_trial a0_now a0_now_row a0_trial_row a0_ground a0_rule : Nat) (sz : Nat) (z0_tape : Value) (z0_ground : Value) (z0_spareGround : Value) (z0_rule : Value) (z0_spareRule : Value) (z0_lines : Value) (z0_spareLines : Value) (z0_steps : Value) (z0_past : Value) (z0_images : Value) (z0_round : Value) (z0_seating : Value) (z0_fitting : Value) (z0_imagesKept : Value) (z0_refusedSteps : Value) (z0_callsNoSuch : Value) (z0_trial_owedEach : Value) (z0_now_owedEach : Value) (z0_ground_formX : Value) (z0_ground_formY : Value) (z0_ground_foxX : Value) (z0_ground_foxY : Value) (z0_ground_seat : Value) (z0_ground_strength : Value) (z0_ground_debts : Value) (z0_ground_near : Value) (z0_ground_forms : Value) (z0_ground_foxes : Value) (z0_ground_safe : Value) (f0_now_row : Nat → Int32) (v0_ground_hares : Int32) (v0_callsIllegal : Int32) (f0_trial_row : Nat → Int32) (r0_trial_down : Value) (r0_trial_law : Value) (p1 : Int32) (p2 : Int32) (p3 : Int32) {E : String → Int32 → (Nat → Int32) → Value → Value → Prop} {Q : Int32 → Int32 → (Nat → Int32) → Value → Value → Prop} (hw : wq_X10_march a0_ground a0_rule f0_now_row v0_ground_hares v0_callsIllegal f0_trial_row r0_trial_down r0_trial_law p1 p2 p3 E Q) : vx_Met l yX10_march wsX10_march ({ frames := 8, cells := 2, slots := 12, locals := 164 }) (va_Pc [.ref a0, .int p1, .int p2, .int p3] (cPx l (dC, dI) (kT cyB cyI cyJ cyP) [(a0, .inr (10, [z0_tape, z0_ground, z0_spareGround, z0_rule, z0_spareRule, z0_lines, z0_spareLines, z0_steps, .ref a0_now, .ref a0_trial, z0_past, z0_images, z0_round, z0_seating, z0_fitting, z0_imagesKept, z0_refusedSteps, z0_callsNoSuch, .int v0_callsIllegal])), (a0_trial, .inr (1, [.ref a0_trial_row, z0_trial_owedEach, r0_trial_down, r0_trial_law])), (a0_now, .inr (1, [.ref a0_now_row, z0_now_owedEach, .ref a0_ground, .ref a0_rule])), (a0_now_row, .inl (cyI, 64, .inl f0_now_row)), (a0_trial_row, .inl (cyI, 64, .inl f0_trial_row)), (a0_ground, .inr (2, [z0_ground_formX, z0_ground_formY, z0_ground_foxX, z0_ground_foxY, z0_ground_seat, z0_ground_strength, z0_ground_debts, z0_ground_near, z0_ground_forms, .int v0_ground_hares, z0_ground_foxes, z0_ground_safe]))] sz)) (va_Qi (fun (r : Int32) (u : Int32 × (Nat → Int32) × Value × Value) => Q r u.1 u.2.1 u.2.2.1 u.2.2.2) (cB (dC, dI) (kT cyB cyI cyJ cyP) (va_A [(a0, .inr (10, [z0_tape, z0_ground, z0_spareGround, z0_rule, z0_spareRule, z0_lines, z0_spareLines, z0_steps, .ref a0_now, .ref a0_trial, z0_past, z0_images, z0_round, z0_seating, z0_fitting, z0_imagesKept, z0_refusedSteps, z0_callsNoSuch, .int v0_callsIllegal])), (a0_trial, .inr (1, [.ref a0_trial_row, z0_trial_owedEach, r0_trial_down, r0_trial_law])), (a0_now, .inr (1, [.ref a0_now_row, z0_now_owedEach, .ref a0_ground, .ref a0_rule])), (a0_now_row, .inl (cyI, 64, .inl f0_now_row)), (a0_trial_row, .inl (cyI, 64, .inl f0_trial_row)), (a0_ground, .inr (2, [z0_ground_formX, z0_ground_formY, z0_ground_foxX, z0_ground_foxY, z0_ground_seat, z0_ground_strength, z0_ground_debts, z0_ground_near, z0_ground_forms, .int v0_ground_hares, z0_ground_foxes, z0_ground_safe]))] sz) (fun u : Int32 × (Nat → Int32) × Value × Value => ([(a0, .inr (10, [z0_tape, z0_ground, z0_spareGround, z0_rule, z0_spareRule, z0_lines, z0_spareLines, z0_steps, .ref a0_now, .ref a0_trial, z0_past, z0_images, z0_round, z0_seating, z0_fitting, z0_imagesKept, z0_refusedSteps, z0_callsNoSuch, .int u.1])), (a0_trial, .inr (1, [.ref a0_trial_row, z0_trial_owedEach, u.2.2.1, u.2.2.2])), (a0_now, .inr (1, [.ref a0_now_row, z0_now_owedEach, .ref a0_ground, .ref a0_rule])), (a0_now_row, .inl (cyI, 64, .inl f0_now_row)), (a0_trial_row, .inl (cyI, 64, .inl u.2.1)), (a0_ground, .inr (2, [z0_ground_formX, z0_ground_formY, z0_ground_foxX, z0_ground_foxY, z0_ground_seat, z0_ground_strength, z0_ground_debts, z0_ground_near, z0_ground_forms, .int v0_ground_hares, z0_ground_foxes, z0_ground_safe]))] : va_W))) (va_A [(a0, .inr (10, [z0_tape, z0_ground, z0_spareGround, z0_rule, z0_spareRule, z0_lines, z0_spareLines, z0_steps, .ref a0_now, .ref a0_trial, z0_past, z0_images, z0_round, z0_seating, z0_fitting, z0_imagesKept, z0_refusedSteps, z0_callsNoSuch, .int v0_callsIllegal])), (a0_trial, .inr (1, [.ref a0_trial_row, z0_trial_owedEach, r0_trial_down, r0_trial_law])), (a0_now, .inr (1, [.ref a0_now_row, z0_now_owedEach, .ref a0_ground, .ref a0_rule])), (a0_now_row, .inl (cyI, 64, .inl f0_now_row)), (a0_trial_row, .inl (cyI, 64, .inl f0_trial_row)), (a0_ground, .inr (2, [z0_ground_formX, z0_ground_formY, z0_ground_foxX, z0_ground_foxY, z0_ground_seat, z0_ground_strength, z0_ground_debts, z0_ground_near, z0_ground_forms, .int v0_ground_hares, z0_ground_foxes, z0_ground_safe]))] sz)) (vx_X (fun _ => True) (fun (en : String) (u : Int32 × (Nat → Int32) × Value × Value) (t : State) => E en u.1 u.2.1 u.2.2.1 u.2.2.2 ∧ cB (dC, dI) (kT cyB cyI cyJ cyP) (va_A [(a0, .inr (10, [z0_tape, z0_ground, z0_spareGround, z0_rule, z0_spareRule, z0_lines, z0_spareLines, z0_steps, .ref a0_now, .ref a0_trial, z0_past, z0_images, z0_round, z0_seating, z0_fitting, z0_imagesKept, z0_refusedSteps, z0_callsNoSuch, .int v0_callsIllegal])), (a0_trial, .inr (1, [.ref a0_trial_row, z0_trial_owedEach, r0_trial_down, r0_trial_law])), (a0_now, .inr (1, [.ref a0_now_row, z0_now_owedEach, .ref a0_ground, .ref a0_rule])), (a0_now_row, .inl (cyI, 64, .inl f0_now_row)), (a0_trial_row, .inl (cyI, 64, .inl f0_trial_row)), (a0_ground, .inr (2, [z0_ground_formX, z0_ground_formY, z0_ground_foxX, z0_ground_foxY, z0_ground_seat, z0_ground_strength, z0_ground_debts, z0_ground_near, z0_ground_forms, .int v0_ground_hares, z0_ground_foxes, z0_ground_safe]))] sz) (fun u : Int32 × (Nat → Int32) × Value × Value => ([(a0, .inr (10, [z0_tape, z0_ground, z0_spareGround, z0_rule, z0_spareRule, z0_lines, z0_spareLines, z0_steps, .ref a0_now, .ref a0_trial, z0_past, z0_images, z0_round, z0_seating, z0_fitting, z0_imagesKept, z0_refusedSteps, z0_callsNoSuch, .int u.1])), (a0_trial, .inr (1, [.ref a0_trial_row, z0_trial_owedEach, u.2.2.1, u.2.2.2])), (a0_now, .inr (1, [.ref a0_now_row, z0_now_owedEach, .ref a0_ground, .ref a0_rule])), (a0_now_row, .inl (cyI, 64, .inl f0_now_row)), (a0_trial_row, .inl (cyI, 64, .inl u.2.1)), (a0_ground, .inr (2, [z0_ground_formX, z0_ground_formY, z0_ground_foxX, z0_ground_foxY, z0_ground_seat, z0_ground_strength, z0_ground_debts, z0_ground_near, z0_ground_forms, .int v0_ground_hares, z0_ground_foxes, z0_ground_safe]))] : va_W)) u t) (va_A [(a0, .inr (10, [z0_tape, z0_ground, z0_spareGround, z0_rule, z0_spareRule, z0_lines, z0_spareLines, z0_steps, .ref a0_now, .ref a0_trial, z0_past, z0_images, z0_round, z0_seating, z0_fitting, z0_imagesKept, z0_refusedSteps, z0_callsNoSuch, .int v0_callsIllegal])), (a0_trial, .inr (1, [.ref a0_trial_row, z0_trial_owedEach, r0_trial_down, r0_trial_law])), (a0_now, .inr (1, [.ref a0_now_row, z0_now_owedEach, .ref a0_ground, .ref a0_rule])), (a0_now_row, .inl (cyI, 64, .inl f0_now_row)), (a0_trial_row, .inl (cyI, 64, .inl f0_trial_row)), (a0_ground, .inr (2, [z0_ground_formX, z0_ground_formY, z0_ground_foxX, z0_ground_foxY, z0_ground_seat, z0_ground_strength, z0_ground_debts, z0_ground_near, z0_ground_forms, .int v0_ground_hares, z0_ground_foxes, z0_ground_safe]))] sz)) 2 12 (va_A [(a0, .inr (10, [z0_tape, z0_ground, z0_spareGround, z0_rule, z0_spareRule, z0_lines, z0_spareLines, z0_steps, .ref a0_now, .ref a0_trial, z0_past, z0_images, z0_round, z0_seating, z0_fitting, z0_imagesKept, z0_refusedSteps, z0_callsNoSuch, .int v0_callsIllegal])), (a0_trial, .inr (1, [.ref a0_trial_row, z0_trial_owedEach, r0_trial_down, r0_trial_law])), (a0_now, .inr (1, [.ref a0_now_row, z0_now_owedEach, .ref a0_ground, .ref a0_rule])), (a0_now_row, .inl (cyI, 64, .inl f0_now_row)), (a0_trial_row, .inl (cyI, 64, .inl f0_trial_row)), (a0_ground, .inr (2, [z0_ground_formX, z0_ground_formY, z0_ground_foxX, z0_ground_foxY, z0_ground_seat, z0_ground_strength, z0_ground_debts, z0_ground_near, z0_ground_forms, .int v0_ground_hares, z0_ground_foxes, z0_ground_safe]))] sz) := by
  refine vx_ofW (cc := cX10_march) (maxL := 5) (ret := (some .int)) (by decide) rfl ?_
  intro p e s m args below meth c s₁ B hml hnt hv
  obtain ⟨rfl, hsz, hP, hK, hD0, hNw, hXl, hXu, hXn, hXt⟩ := hv
  have hx := B.exec
  have hb := B.bytes
  have hr := B.returns
  have hts := atoms_spec (ws := wsX10_march) B.pre
  have hown : s.vm.findClass RX10 = some m.cls := findClass_of_methodNamed B.named
  have hlocks := B.notSynchronized
  subst hsz
  have hD := hD0.self (sz := s.heap.size)
  generalize hAe : va_A [(a0, .inr (10, [z0_tape, z0_ground, z0_spareGround, z0_rule, z0_spareRule, z0_lines, z0_spareLines, z0_steps, .ref a0_now, .ref a0_trial, z0_past, z0_images, z0_round, z0_seating, z0_fitting, z0_imagesKept, z0_refusedSteps, z0_callsNoSuch, .int v0_callsIllegal])), (a0_trial, .inr (1, [.ref a0_trial_row, z0_trial_owedEach, r0_trial_down, r0_trial_law])), (a0_now, .inr (1, [.ref a0_now_row, z0_now_owedEach, .ref a0_ground, .ref a0_rule])), (a0_now_row, .inl (cyI, 64, .inl f0_now_row)), (a0_trial_row, .inl (cyI, 64, .inl f0_trial_row)), (a0_ground, .inr (2, [z0_ground_formX, z0_ground_formY, z0_ground_foxX, z0_ground_foxY, z0_ground_seat, z0_ground_strength, z0_ground_debts, z0_ground_near, z0_ground_forms, .int v0_ground_hares, z0_ground_foxes, z0_ground_safe]))] s.heap.size = A at hD hXu hXn ⊢
  have hA : ∀ q : Nat, s.heap.size ≤ q → A q := fun q h => by rw [← hAe]; exact Or.inr h
  have hS : va_S A s.heap s.heap [] := va_S.rf
  have hP : va_P (dC, dI) vwCl [(a0, .inr (10, [z0_tape, z0_ground, z0_spareGround, z0_rule, z0_spareRule, z0_lines, z0_spareLines, z0_steps, .ref a0_now, .ref a0_trial, z0_past, z0_images, z0_round, z0_seating, z0_fitting, z0_imagesKept, z0_refusedSteps, z0_callsNoSuch, .int v0_callsIllegal])), (a0_trial, .inr (1, [.ref a0_trial_row, z0_trial_owedEach, r0_trial_down, r0_trial_law])), (a0_now, .inr (1, [.ref a0_now_row, z0_now_owedEach, .ref a0_ground, .ref a0_rule])), (a0_now_row, .inl (cyI, 64, .inl f0_now_row)), (a0_trial_row, .inl (cyI, 64, .inl f0_trial_row)), (a0_ground, .inr (2, [z0_ground_formX, z0_ground_formY, z0_ground_foxX, z0_ground_foxY, z0_ground_seat, z0_ground_strength, z0_ground_debts, z0_ground_near, z0_ground_forms, .int v0_ground_hares, z0_ground_foxes, z0_ground_safe]))] s.heap := hP
  have hl := lv_entry ([.ref a0, .int p1, .int p2, .int p3]) (n := 5) (Nat.le_of_ble_eq_true rfl)
  rw [lg_entry_eq]
  generalize (lg_sl ([.ref a0, .int p1, .int p2, .int p3]) ++ List.replicate (5 - (lg_sl ([.ref a0, .int p1, .int p2, .int p3])).length) Slot.unset).toArray = ls at hl ⊢
  have hl : lv_has ls 5 [(0, .ref a0), (1, .int p1), (2, .int p2), (3, .int p3)] := hl
  have hY : cfY l s A := ⟨hXl, hXu, hXn, hXt⟩
  have hXs : cfX l s c A := ⟨hnt, hY⟩
  have C0 : cfx p s m _ meth c cX10_march (some .int) wsX10_march RX10 5 A (dC, dI) (kT cyB cyI cyJ cyP) ∧ cfX l s c A := ⟨⟨hx, hb, hr, hts, hown, hlocks, hml, hA, hK, hNw⟩, hXs⟩
  clear hAe
  obtain ⟨H, hH⟩ : ∃ H, H = s.heap := ⟨_, rfl⟩
  rw [← hH] at hP ⊢
  have hS : va_S A s.heap H [] := by rw [hH]; exact va_S.rf
  have hS := hS
  refine lv_aload_n hx hb dX10_march_0 rfl (lv_at hl 0 rfl) ?_
  refine lv_iload_n hx hb dX10_march_1 rfl (lv_at hl 2 rfl) ?_
  refine lv_iconst (v := 1) hx hb dX10_march_2 (by decide) ?_
  refine lv_bipush (v := 96) hx hb dX10_march_3 (by decide) ?_
  have hPc := hP.sub (ws' := [(a0, .inr (10, [z0_tape, z0_ground, z0_spareGround, z0_rule, z0_spareRule, z0_lines, z0_spareLines, z0_steps, .ref a0_now, .ref a0_trial, z0_past, z0_images, z0_round, z0_seating, z0_fitting, z0_imagesKept, z0_refusedSteps, z0_callsNoSuch, .int v0_callsIllegal]))]) [0] rfl
  have hDc := hD.sub (ws' := [(a0, .inr (10, [z0_tape, z0_ground, z0_spareGround, z0_rule, z0_spareRule, z0_lines, z0_spareLines, z0_steps, .ref a0_now, .ref a0_trial, z0_past, z0_images, z0_round, z0_seating, z0_fitting, z0_imagesKept, z0_refusedSteps, z0_callsNoSuch, .int v0_callsIllegal]))]) [0] (by decide) rfl
  have hFc := va_free (wc := [(a0, .inr (10, [z0_tape, z0_ground, z0_spareGround, z0_rule, z0_spareRule, z0_lines, z0_spareLines, z0_steps, .ref a0_now, .ref a0_trial, z0_past, z0_images, z0_round, z0_seating, z0_fitting, z0_imagesKept, z0_refusedSteps, z0_callsNoSuch, .int v0_callsIllegal]))]) hD hS hA [0] rfl
  refine vx_callv (vx_runV (As := [.int p2, .int 1, .int 96]) (rest := []) ⟨hx, hb, hml, hown, hts⟩ (ck_X10_needWithin l dC dI cyB cyI cyJ cyP a0 H.size (z0_tape) (z0_ground) (z0_spareGround) (z0_rule) (z0_spareRule) (z0_lines) (z0_spareLines) (z0_steps) (.ref a0_now) (.ref a0_trial) (z0_past) (z0_images) (z0_round) (z0_seating) (z0_fitting) (z0_imagesKept) (z0_refusedSteps) (z0_callsNoSuch)  v0_callsIllegal p2 1 96 hw) (cwV 3 hts gX10_march_X10_needWithin rfl rfl rfl (by decide +kernel) ⟨Nat.le_of_ble_eq_true rfl, Nat.le_of_ble_eq_true rfl⟩) ⟨cPx_blind, va_recv hK hPc (ci := 10) (q0 := 0) rfl rfl, cPx_pre hPc hK hDc hNw hY hS hFc⟩ rfl rfl hl.1 rfl (lv_room (Nat.le_of_ble_eq_true rfl)) dX10_march_5 ⟨Nat.le_of_ble_eq_true rfl, Nat.le_of_ble_eq_true rfl⟩) hS (fun q _ h => hFc q h) hFc (fun q _ h => hFc q h) (fun en ce q9 u t H1 locs ht hvm hpx hB hz1 hk1 hS hc9 hv9 hcl9 => ?_) (fun u t H1 locs ht hvm hw hB hz1 hk1 hS => ?_)
  · obtain ⟨x1, rfl⟩ : ∃ z, z = u := ⟨_, rfl⟩
    obtain ⟨hw, hP1, hK1, hD1⟩ := hB
    rw [ht] at hP1
    obtain ⟨hP, hD⟩ := va_join (wr := [(a0_trial, .inr (1, [.ref a0_trial_row, z0_trial_owedEach, r0_trial_down, r0_trial_law])), (a0_now, .inr (1, [.ref a0_now_row, z0_now_owedEach, .ref a0_ground, .ref a0_rule])), (a0_now_row, .inl (cyI, 64, .inl f0_now_row)), (a0_trial_row, .inl (cyI, 64, .inl f0_trial_row)), (a0_ground, .inr (2, [z0_ground_formX, z0_ground_formY, z0_ground_foxX, z0_ground_foxY, z0_ground_seat, z0_ground_strength, z0_ground_debts, z0_ground_near, z0_ground_forms, .int v0_ground_hares, z0_ground_foxes, z0_ground_safe]))]) (w1 := [(a0, .inr (10, [z0_tape, z0_ground, z0_spareGround, z0_rule, z0_spareRule, z0_lines, z0_spareLines, z0_steps, .ref a0_now, .ref a0_trial, z0_past, z0_images, z0_round, z0_seating, z0_fitting, z0_imagesKept, z0_refusedSteps, z0_callsNoSuch, .int x1]))]) hP hD [0] [1, 2, 3, 4, 5] rfl rfl (by decide) (by decide) hk1 hFc hP1 hD1
    have hP : va_P (dC, dI) vwCl [(a0, .inr (10, [z0_tape, z0_ground, z0_spareGround, z0_rule, z0_spareRule, z0_lines, z0_spareLines, z0_steps, .ref a0_now, .ref a0_trial, z0_past, z0_images, z0_round, z0_seating, z0_fitting, z0_imagesKept, z0_refusedSteps, z0_callsNoSuch, .int x1])), (a0_trial, .inr (1, [.ref a0_trial_row, z0_trial_owedEach, r0_trial_down, r0_trial_law])), (a0_now, .inr (1, [.ref a0_now_row, z0_now_owedEach, .ref a0_ground, .ref a0_rule])), (a0_now_row, .inl (cyI, 64, .inl f0_now_row)), (a0_trial_row, .inl (cyI, 64, .inl f0_trial_row)), (a0_ground, .inr (2, [z0_ground_formX, z0_ground_formY, z0_ground_foxX, z0_ground_foxY, z0_ground_seat, z0_ground_strength, z0_ground_debts, z0_ground_near, z0_ground_forms, .int v0_ground_hares, z0_ground_foxes, z0_ground_safe]))] H1 := hP.sub [5, 0, 1, 2, 3, 4] rfl
    have hD : va_D A [(a0, .inr (10, [z0_tape, z0_ground, z0_spareGround, z0_rule, z0_spareRule, z0_lines, z0_spareLines, z0_steps, .ref a0_now, .ref a0_trial, z0_past, z0_images, z0_round, z0_seating, z0_fitting, z0_imagesKept, z0_refusedSteps, z0_callsNoSuch, .int x1])), (a0_trial, .inr (1, [.ref a0_trial_row, z0_trial_owedEach, r0_trial_down, r0_trial_law])), (a0_now, .inr (1, [.ref a0_now_row, z0_now_owedEach, .ref a0_ground, .ref a0_rule])), (a0_now_row, .inl (cyI, 64, .inl f0_now_row)), (a0_trial_row, .inl (cyI, 64, .inl f0_trial_row)), (a0_ground, .inr (2, [z0_ground_formX, z0_ground_formY, z0_ground_foxX, z0_ground_foxY, z0_ground_seat, z0_ground_strength, z0_ground_debts, z0_ground_near, z0_ground_forms, .int v0_ground_hares, z0_ground_foxes, z0_ground_safe]))] := hD.sub [5, 0, 1, 2, 3, 4] (by decide) rfl
    generalize H1 = H at hP hS hc9 ⊢
    exact vx_out (fun x hx9 => (hXs.1 x hx9).elim) hlocks hc9 hv9 hcl9 (fun t2 ht2 hal2 => ⟨(x1, f0_trial_row, r0_trial_down, r0_trial_law), trivial, ⟨hw, by rw [ht2]; exact hP, va_K.moved hal2 hK, hD⟩, hS.F ht2⟩) hS.2.2 (Nat.le_of_ble_eq_true rfl) (Nat.le_of_ble_eq_true rfl)
  obtain ⟨x1, rfl⟩ : ∃ z, z = u := ⟨_, rfl⟩
  obtain ⟨hP1, hK1, hD1⟩ := hB
  rw [ht] at hP1
  obtain ⟨hP, hD⟩ := va_join (wr := [(a0_trial, .inr (1, [.ref a0_trial_row, z0_trial_owedEach, r0_trial_down, r0_trial_law])), (a0_now, .inr (1, [.ref a0_now_row, z0_now_owedEach, .ref a0_ground, .ref a0_rule])), (a0_now_row, .inl (cyI, 64, .inl f0_now_row)), (a0_trial_row, .inl (cyI, 64, .inl f0_trial_row)), (a0_ground, .inr (2, [z0_ground_formX, z0_ground_formY, z0_ground_foxX, z0_ground_foxY, z0_ground_seat, z0_ground_strength, z0_ground_debts, z0_ground_near, z0_ground_forms, .int v0_ground_hares, z0_ground_foxes, z0_ground_safe]))]) (w1 := [(a0, .inr (10, [z0_tape, z0_ground, z0_spareGround, z0_rule, z0_spareRule, z0_lines, z0_spareLines, z0_steps, .ref a0_now, .ref a0_trial, z0_past, z0_images, z0_round, z0_seating, z0_fitting, z0_imagesKept, z0_refusedSteps, z0_callsNoSuch, .int x1]))]) hP hD [0] [1, 2, 3, 4, 5] rfl rfl (by decide) (by decide) hk1 hFc hP1 hD1
  have hP : va_P (dC, dI) vwCl [(a0, .inr (10, [z0_tape, z0_ground, z0_spareGround, z0_rule, z0_spareRule, z0_lines, z0_spareLines, z0_steps, .ref a0_now, .ref a0_trial, z0_past, z0_images, z0_round, z0_seating, z0_fitting, z0_imagesKept, z0_refusedSteps, z0_callsNoSuch, .int x1])), (a0_trial, .inr (1, [.ref a0_trial_row, z0_trial_owedEach, r0_trial_down, r0_trial_law])), (a0_now, .inr (1, [.ref a0_now_row, z0_now_owedEach, .ref a0_ground, .ref a0_rule])), (a0_now_row, .inl (cyI, 64, .inl f0_now_row)), (a0_trial_row, .inl (cyI, 64, .inl f0_trial_row)), (a0_ground, .inr (2, [z0_ground_formX, z0_ground_formY, z0_ground_foxX, z0_ground_foxY, z0_ground_seat, z0_ground_strength, z0_ground_debts, z0_ground_near, z0_ground_forms, .int v0_ground_hares, z0_ground_foxes, z0_ground_safe]))] H1 := hP.sub [5, 0, 1, 2, 3, 4] rfl
  have hD : va_D A [(a0, .inr (10, [z0_tape, z0_ground, z0_spareGround, z0_rule, z0_spareRule, z0_lines, z0_spareLines, z0_steps, .ref a0_now, .ref a0_trial, z0_past, z0_images, z0_round, z0_seating, z0_fitting, z0_imagesKept, z0_refusedSteps, z0_callsNoSuch, .int x1])), (a0_trial, .inr (1, [.ref a0_trial_row, z0_trial_owedEach, r0_trial_down, r0_trial_law])), (a0_now, .inr (1, [.ref a0_now_row, z0_now_owedEach, .ref a0_ground, .ref a0_rule])), (a0_now_row, .inl (cyI, 64, .inl f0_now_row)), (a0_trial_row, .inl (cyI, 64, .inl f0_trial_row)), (a0_ground, .inr (2, [z0_ground_formX, z0_ground_formY, z0_ground_foxX, z0_ground_foxY, z0_ground_seat, z0_ground_strength, z0_ground_debts, z0_ground_near, z0_ground_forms, .int v0_ground_hares, z0_ground_foxes, z0_ground_safe]))] := hD.sub [5, 0, 1, 2, 3, 4] (by decide) rfl
  generalize H1 = H at hP hS ⊢
  refine lv_aload_n hx hb dX10_march_8 rfl (lv_at hl 0 rfl) ?_
  refine lv_iload_n hx hb dX10_march_9 rfl (lv_at hl 3 rfl) ?_
  refine lv_iconst (v := 0) hx hb dX10_march_10 (by decide) ?_
  refine lv_iconst (v := 3) hx hb dX10_march_11 (by decide) ?_
  have hPc := hP.sub (ws' := [(a0, .inr (10, [z0_tape, z0_ground, z0_spareGround, z0_rule, z0_spareRule, z0_lines, z0_spareLines, z0_steps, .ref a0_now, .ref a0_trial, z0_past, z0_images, z0_round, z0_seating, z0_fitting, z0_imagesKept, z0_refusedSteps, z0_callsNoSuch, .int x1]))]) [0] rfl
  have hDc := hD.sub (ws' := [(a0, .inr (10, [z0_tape, z0_ground, z0_spareGround, z0_rule, z0_spareRule, z0_lines, z0_spareLines, z0_steps, .ref a0_now, .ref a0_trial, z0_past, z0_images, z0_round, z0_seating, z0_fitting, z0_imagesKept, z0_refusedSteps, z0_callsNoSuch, .int x1]))]) [0] (by decide) rfl
  have hFc := va_free (wc := [(a0, .inr (10, [z0_tape, z0_ground, z0_spareGround, z0_rule, z0_spareRule, z0_lines, z0_spareLines, z0_steps, .ref a0_now, .ref a0_trial, z0_past, z0_images, z0_round, z0_seating, z0_fitting, z0_imagesKept, z0_refusedSteps, z0_callsNoSuch, .int x1]))]) hD hS hA [0] rfl
  refine vx_callv (vx_runV (As := [.int p3, .int 0, .int 3]) (rest := []) ⟨hx, hb, hml, hown, hts⟩ (ck_X10_needWithin l dC dI cyB cyI cyJ cyP a0 H.size (z0_tape) (z0_ground) (z0_spareGround) (z0_rule) (z0_spareRule) (z0_lines) (z0_spareLines) (z0_steps) (.ref a0_now) (.ref a0_trial) (z0_past) (z0_images) (z0_round) (z0_seating) (z0_fitting) (z0_imagesKept) (z0_refusedSteps) (z0_callsNoSuch)  x1 p3 0 3 hw) (cwV 3 hts gX10_march_X10_needWithin rfl rfl rfl (by decide +kernel) ⟨Nat.le_of_ble_eq_true rfl, Nat.le_of_ble_eq_true rfl⟩) ⟨cPx_blind, va_recv hK hPc (ci := 10) (q0 := 0) rfl rfl, cPx_pre hPc hK hDc hNw hY hS hFc⟩ rfl rfl hl.1 rfl (lv_room (Nat.le_of_ble_eq_true rfl)) dX10_march_12 ⟨Nat.le_of_ble_eq_true rfl, Nat.le_of_ble_eq_true rfl⟩) hS (fun q _ h => hFc q h) hFc (fun q _ h => hFc q h) (fun en ce q9 u t H1 locs ht hvm hpx hB hz1 hk1 hS hc9 hv9 hcl9 => ?_) (fun u t H1 locs ht hvm hw hB hz1 hk1 hS => ?_)
  · obtain ⟨x2, rfl⟩ : ∃ z, z = u := ⟨_, rfl⟩
    obtain ⟨hw, hP1, hK1, hD1⟩ := hB
    rw [ht] at hP1
    obtain ⟨hP, hD⟩ := va_join (wr := [(a0_trial, .inr (1, [.ref a0_trial_row, z0_trial_owedEach, r0_trial_down, r0_trial_law])), (a0_now, .inr (1, [.ref a0_now_row, z0_now_owedEach, .ref a0_ground, .ref a0_rule])), (a0_now_row, .inl (cyI, 64, .inl f0_now_row)), (a0_trial_row, .inl (cyI, 64, .inl f0_trial_row)), (a0_ground, .inr (2, [z0_ground_formX, z0_ground_formY, z0_ground_foxX, z0_ground_foxY, z0_ground_seat, z0_ground_strength, z0_ground_debts, z0_ground_near, z0_ground_forms, .int v0_ground_hares, z0_ground_foxes, z0_ground_safe]))]) (w1 := [(a0, .inr (10, [z0_tape, z0_ground, z0_spareGround, z0_rule, z0_spareRule, z0_lines, z0_spareLines, z0_steps, .ref a0_now, .ref a0_trial, z0_past, z0_images, z0_round, z0_seating, z0_fitting, z0_imagesKept, z0_refusedSteps, z0_callsNoSuch, .int x2]))]) hP hD [0] [1, 2, 3, 4, 5] rfl rfl (by decide) (by decide) hk1 hFc hP1 hD1
    have hP : va_P (dC, dI) vwCl [(a0, .inr (10, [z0_tape, z0_ground, z0_spareGround, z0_rule, z0_spareRule, z0_lines, z0_spareLines, z0_steps, .ref a0_now, .ref a0_trial, z0_past, z0_images, z0_round, z0_seating, z0_fitting, z0_imagesKept, z0_refusedSteps, z0_callsNoSuch, .int x2])), (a0_trial, .inr (1, [.ref a0_trial_row, z0_trial_owedEach, r0_trial_down, r0_trial_law])), (a0_now, .inr (1, [.ref a0_now_row, z0_now_owedEach, .ref a0_ground, .ref a0_rule])), (a0_now_row, .inl (cyI, 64, .inl f0_now_row)), (a0_trial_row, .inl (cyI, 64, .inl f0_trial_row)), (a0_ground, .inr (2, [z0_ground_formX, z0_ground_formY, z0_ground_foxX, z0_ground_foxY, z0_ground_seat, z0_ground_strength, z0_ground_debts, z0_ground_near, z0_ground_forms, .int v0_ground_hares, z0_ground_foxes, z0_ground_safe]))] H1 := hP.sub [5, 0, 1, 2, 3, 4] rfl
    have hD : va_D A [(a0, .inr (10, [z0_tape, z0_ground, z0_spareGround, z0_rule, z0_spareRule, z0_lines, z0_spareLines, z0_steps, .ref a0_now, .ref a0_trial, z0_past, z0_images, z0_round, z0_seating, z0_fitting, z0_imagesKept, z0_refusedSteps, z0_callsNoSuch, .int x2])), (a0_trial, .inr (1, [.ref a0_trial_row, z0_trial_owedEach, r0_trial_down, r0_trial_law])), (a0_now, .inr (1, [.ref a0_now_row, z0_now_owedEach, .ref a0_ground, .ref a0_rule])), (a0_now_row, .inl (cyI, 64, .inl f0_now_row)), (a0_trial_row, .inl (cyI, 64, .inl f0_trial_row)), (a0_ground, .inr (2, [z0_ground_formX, z0_ground_formY, z0_ground_foxX, z0_ground_foxY, z0_ground_seat, z0_ground_strength, z0_ground_debts, z0_ground_near, z0_ground_forms, .int v0_ground_hares, z0_ground_foxes, z0_ground_safe]))] := hD.sub [5, 0, 1, 2, 3, 4] (by decide) rfl
    generalize H1 = H at hP hS hc9 ⊢
    exact vx_out (fun x hx9 => (hXs.1 x hx9).elim) hlocks hc9 hv9 hcl9 (fun t2 ht2 hal2 => ⟨(x2, f0_trial_row, r0_trial_down, r0_trial_law), trivial, ⟨hw, by rw [ht2]; exact hP, va_K.moved hal2 hK, hD⟩, hS.F ht2⟩) hS.2.2 (Nat.le_of_ble_eq_true rfl) (Nat.le_of_ble_eq_true rfl)
  obtain ⟨x2, rfl⟩ : ∃ z, z = u := ⟨_, rfl⟩
  obtain ⟨hP1, hK1, hD1⟩ := hB
  rw [ht] at hP1
  obtain ⟨hP, hD⟩ := va_join (wr := [(a0_trial, .inr (1, [.ref a0_trial_row, z0_trial_owedEach, r0_trial_down, r0_trial_law])), (a0_now, .inr (1, [.ref a0_now_row, z0_now_owedEach, .ref a0_ground, .ref a0_rule])), (a0_now_row, .inl (cyI, 64, .inl f0_now_row)), (a0_trial_row, .inl (cyI, 64, .inl f0_trial_row)), (a0_ground, .inr (2, [z0_ground_formX, z0_ground_formY, z0_ground_foxX, z0_ground_foxY, z0_ground_seat, z0_ground_strength, z0_ground_debts, z0_ground_near, z0_ground_forms, .int v0_ground_hares, z0_ground_foxes, z0_ground_safe]))]) (w1 := [(a0, .inr (10, [z0_tape, z0_ground, z0_spareGround, z0_rule, z0_spareRule, z0_lines, z0_spareLines, z0_steps, .ref a0_now, .ref a0_trial, z0_past, z0_images, z0_round, z0_seating, z0_fitting, z0_imagesKept, z0_refusedSteps, z0_callsNoSuch, .int x2]))]) hP hD [0] [1, 2, 3, 4, 5] rfl rfl (by decide) (by decide) hk1 hFc hP1 hD1
  have hP : va_P (dC, dI) vwCl [(a0, .inr (10, [z0_tape, z0_ground, z0_spareGround, z0_rule, z0_spareRule, z0_lines, z0_spareLines, z0_steps, .ref a0_now, .ref a0_trial, z0_past, z0_images, z0_round, z0_seating, z0_fitting, z0_imagesKept, z0_refusedSteps, z0_callsNoSuch, .int x2])), (a0_trial, .inr (1, [.ref a0_trial_row, z0_trial_owedEach, r0_trial_down, r0_trial_law])), (a0_now, .inr (1, [.ref a0_now_row, z0_now_owedEach, .ref a0_ground, .ref a0_rule])), (a0_now_row, .inl (cyI, 64, .inl f0_now_row)), (a0_trial_row, .inl (cyI, 64, .inl f0_trial_row)), (a0_ground, .inr (2, [z0_ground_formX, z0_ground_formY, z0_ground_foxX, z0_ground_foxY, z0_ground_seat, z0_ground_strength, z0_ground_debts, z0_ground_near, z0_ground_forms, .int v0_ground_hares, z0_ground_foxes, z0_ground_safe]))] H1 := hP.sub [5, 0, 1, 2, 3, 4] rfl
  have hD : va_D A [(a0, .inr (10, [z0_tape, z0_ground, z0_spareGround, z0_rule, z0_spareRule, z0_lines, z0_spareLines, z0_steps, .ref a0_now, .ref a0_trial, z0_past, z0_images, z0_round, z0_seating, z0_fitting, z0_imagesKept, z0_refusedSteps, z0_callsNoSuch, .int x2])), (a0_trial, .inr (1, [.ref a0_trial_row, z0_trial_owedEach, r0_trial_down, r0_trial_law])), (a0_now, .inr (1, [.ref a0_now_row, z0_now_owedEach, .ref a0_ground, .ref a0_rule])), (a0_now_row, .inl (cyI, 64, .inl f0_now_row)), (a0_trial_row, .inl (cyI, 64, .inl f0_trial_row)), (a0_ground, .inr (2, [z0_ground_formX, z0_ground_formY, z0_ground_foxX, z0_ground_foxY, z0_ground_seat, z0_ground_strength, z0_ground_debts, z0_ground_near, z0_ground_forms, .int v0_ground_hares, z0_ground_foxes, z0_ground_safe]))] := hD.sub [5, 0, 1, 2, 3, 4] (by decide) rfl
  generalize H1 = H at hP hS ⊢
  refine lv_aload_n hx hb dX10_march_15 rfl (lv_at hl 0 rfl) ?_
  refine va_get (D := (dC, dI)) (ci := 10) (v := .ref a0_trial) (C := RX10) (T := TX10) (N := 19) hx hb hts ui_X10_march_X10 hown hK hP 0 rfl rfl 9 (by decide) (hts _ uw_X10_march_f62) (fun _ h9 => h9) rfl dX10_march_16 ?_
  refine lv_aload_n hx hb dX10_march_19 rfl (lv_at hl 0 rfl) ?_
  refine va_get (D := (dC, dI)) (ci := 10) (v := .ref a0_now) (C := RX10) (T := TX10) (N := 19) hx hb hts ui_X10_march_X10 hown hK hP 0 rfl rfl 8 (by decide) (hts _ uw_X10_march_f58) (fun _ h9 => h9) rfl dX10_march_20 ?_
  have hPc := hP.sub (ws' := [(a0_trial, .inr (1, [.ref a0_trial_row, z0_trial_owedEach, r0_trial_down, r0_trial_law])), (a0_now, .inr (1, [.ref a0_now_row, z0_now_owedEach, .ref a0_ground, .ref a0_rule])), (a0_now_row, .inl (cyI, 64, .inl f0_now_row)), (a0_trial_row, .inl (cyI, 64, .inl f0_trial_row))]) [1, 2, 3, 4] rfl
  have hDc := hD.sub (ws' := [(a0_trial, .inr (1, [.ref a0_trial_row, z0_trial_owedEach, r0_trial_down, r0_trial_law])), (a0_now, .inr (1, [.ref a0_now_row, z0_now_owedEach, .ref a0_ground, .ref a0_rule])), (a0_now_row, .inl (cyI, 64, .inl f0_now_row)), (a0_trial_row, .inl (cyI, 64, .inl f0_trial_row))]) [1, 2, 3, 4] (by decide) rfl
  have hFc := va_free (wc := [(a0_trial, .inr (1, [.ref a0_trial_row, z0_trial_owedEach, r0_trial_down, r0_trial_law])), (a0_now, .inr (1, [.ref a0_now_row, z0_now_owedEach, .ref a0_ground, .ref a0_rule])), (a0_now_row, .inl (cyI, 64, .inl f0_now_row)), (a0_trial_row, .inl (cyI, 64, .inl f0_trial_row))]) hD hS hA [1, 2, 3, 4] rfl
  refine va_callv (va_runV (As := [.ref a0_now]) (rest := []) ⟨hx, hb, hml, hown, hts⟩ (ck_X1_copyFrom l dC dI cyB cyI cyJ cyP a0_trial a0_now a0_ground a0_rule a0_now_row a0_trial_row H.size (z0_trial_owedEach) (r0_trial_down) (r0_trial_law) (z0_now_owedEach) f0_now_row f0_trial_row  hw) (cwV 1 hts gX10_march_X1_copyFrom rfl rfl rfl (by decide +kernel) ⟨Nat.le_of_ble_eq_true rfl, Nat.le_of_ble_eq_true rfl⟩) ⟨cPc_blind, va_recv hK hPc (ci := 1) (q0 := 0) rfl rfl, cPc_pre hPc hK hDc hNw⟩ rfl rfl hl.1 rfl (lv_room (Nat.le_of_ble_eq_true rfl)) dX10_march_23 ⟨Nat.le_of_ble_eq_true rfl, Nat.le_of_ble_eq_true rfl⟩) hS (fun q _ h => hFc q h) hFc (fun u t H1 locs ht hvm hw hB hz1 hk1 hS => ?_)
  obtain ⟨f3, rfl⟩ : ∃ z, z = u := ⟨_, rfl⟩
  obtain ⟨hP1, hK1, hD1⟩ := hB
  rw [ht] at hP1
  obtain ⟨hP, hD⟩ := va_join (wr := [(a0, .inr (10, [z0_tape, z0_ground, z0_spareGround, z0_rule, z0_spareRule, z0_lines, z0_spareLines, z0_steps, .ref a0_now, .ref a0_trial, z0_past, z0_images, z0_round, z0_seating, z0_fitting, z0_imagesKept, z0_refusedSteps, z0_callsNoSuch, .int x2])), (a0_ground, .inr (2, [z0_ground_formX, z0_ground_formY, z0_ground_foxX, z0_ground_foxY, z0_ground_seat, z0_ground_strength, z0_ground_debts, z0_ground_near, z0_ground_forms, .int v0_ground_hares, z0_ground_foxes, z0_ground_safe]))]) (w1 := [(a0_trial, .inr (1, [.ref a0_trial_row, z0_trial_owedEach, .ref a0_ground, .ref a0_rule])), (a0_now, .inr (1, [.ref a0_now_row, z0_now_owedEach, .ref a0_ground, .ref a0_rule])), (a0_now_row, .inl (cyI, 64, .inl f0_now_row)), (a0_trial_row, .inl (cyI, 64, .inl f3))]) hP hD [1, 2, 3, 4] [0, 5] rfl rfl (by decide) (by decide) hk1 hFc hP1 hD1
  have hP : va_P (dC, dI) vwCl [(a0, .inr (10, [z0_tape, z0_ground, z0_spareGround, z0_rule, z0_spareRule, z0_lines, z0_spareLines, z0_steps, .ref a0_now, .ref a0_trial, z0_past, z0_images, z0_round, z0_seating, z0_fitting, z0_imagesKept, z0_refusedSteps, z0_callsNoSuch, .int x2])), (a0_trial, .inr (1, [.ref a0_trial_row, z0_trial_owedEach, .ref a0_ground, .ref a0_rule])), (a0_now, .inr (1, [.ref a0_now_row, z0_now_owedEach, .ref a0_ground, .ref a0_rule])), (a0_now_row, .inl (cyI, 64, .inl f0_now_row)), (a0_trial_row, .inl (cyI, 64, .inl f3)), (a0_ground, .inr (2, [z0_ground_formX, z0_ground_formY, z0_ground_foxX, z0_ground_foxY, z0_ground_seat, z0_ground_strength, z0_ground_debts, z0_ground_near, z0_ground_forms, .int v0_ground_hares, z0_ground_foxes, z0_ground_safe]))] H1 := hP.sub [0, 2, 3, 4, 5, 1] rfl
  have hD : va_D A [(a0, .inr (10, [z0_tape, z0_ground, z0_spareGround, z0_rule, z0_spareRule, z0_lines, z0_spareLines, z0_steps, .ref a0_now, .ref a0_trial, z0_past, z0_images, z0_round, z0_seating, z0_fitting, z0_imagesKept, z0_refusedSteps, z0_callsNoSuch, .int x2])), (a0_trial, .inr (1, [.ref a0_trial_row, z0_trial_owedEach, .ref a0_ground, .ref a0_rule])), (a0_now, .inr (1, [.ref a0_now_row, z0_now_owedEach, .ref a0_ground, .ref a0_rule])), (a0_now_row, .inl (cyI, 64, .inl f0_now_row)), (a0_trial_row, .inl (cyI, 64, .inl f3)), (a0_ground, .inr (2, [z0_ground_formX, z0_ground_formY, z0_ground_foxX, z0_ground_foxY, z0_ground_seat, z0_ground_strength, z0_ground_debts, z0_ground_near, z0_ground_forms, .int v0_ground_hares, z0_ground_foxes, z0_ground_safe]))] := hD.sub [0, 2, 3, 4, 5, 1] (by decide) rfl
  generalize H1 = H at hP hS ⊢
  refine lv_aload_n hx hb dX10_march_26 rfl (lv_at hl 0 rfl) ?_
  refine va_get (D := (dC, dI)) (ci := 10) (v := .ref a0_trial) (C := RX10) (T := TX10) (N := 19) hx hb hts ui_X10_march_X10 hown hK hP 0 rfl rfl 9 (by decide) (hts _ uw_X10_march_f62) (fun _ h9 => h9) rfl dX10_march_27 ?_
  refine lv_iload_n hx hb dX10_march_30 rfl (lv_at hl 1 rfl) ?_
  refine lv_iload_n hx hb dX10_march_31 rfl (lv_at hl 2 rfl) ?_
  have hPc := hP.sub (ws' := [(a0_trial, .inr (1, [.ref a0_trial_row, z0_trial_owedEach, .ref a0_ground, .ref a0_rule])), (a0_ground, .inr (2, [z0_ground_formX, z0_ground_formY, z0_ground_foxX, z0_ground_foxY, z0_ground_seat, z0_ground_strength, z0_ground_debts, z0_ground_near, z0_ground_forms, .int v0_ground_hares, z0_ground_foxes, z0_ground_safe])), (a0_trial_row, .inl (cyI, 64, .inl f3))]) [1, 5, 4] rfl
  have hDc := hD.sub (ws' := [(a0_trial, .inr (1, [.ref a0_trial_row, z0_trial_owedEach, .ref a0_ground, .ref a0_rule])), (a0_ground, .inr (2, [z0_ground_formX, z0_ground_formY, z0_ground_foxX, z0_ground_foxY, z0_ground_seat, z0_ground_strength, z0_ground_debts, z0_ground_near, z0_ground_forms, .int v0_ground_hares, z0_ground_foxes, z0_ground_safe])), (a0_trial_row, .inl (cyI, 64, .inl f3))]) [1, 5, 4] (by decide) rfl
  have hFc := va_free (wc := [(a0_trial, .inr (1, [.ref a0_trial_row, z0_trial_owedEach, .ref a0_ground, .ref a0_rule])), (a0_ground, .inr (2, [z0_ground_formX, z0_ground_formY, z0_ground_foxX, z0_ground_foxY, z0_ground_seat, z0_ground_strength, z0_ground_debts, z0_ground_near, z0_ground_forms, .int v0_ground_hares, z0_ground_foxes, z0_ground_safe])), (a0_trial_row, .inl (cyI, 64, .inl f3))]) hD hS hA [1, 5, 4] rfl
  refine va_calli (va_runV (As := [.int p1, .int p2]) (rest := []) ⟨hx, hb, hml, hown, hts⟩ (ck_X1_drawDays l dC dI cyB cyI cyJ cyP a0_trial a0_ground a0_trial_row H.size (z0_trial_owedEach) (.ref a0_rule) (z0_ground_formX) (z0_ground_formY) (z0_ground_foxX) (z0_ground_foxY) (z0_ground_seat) (z0_ground_strength) (z0_ground_debts) (z0_ground_near) (z0_ground_forms) (z0_ground_foxes) (z0_ground_safe) v0_ground_hares f3 p1 p2 hw) (cwV 2 hts gX10_march_X1_drawDays rfl rfl rfl (by decide +kernel) ⟨Nat.le_of_ble_eq_true rfl, Nat.le_of_ble_eq_true rfl⟩) ⟨cPc_blind, va_recv hK hPc (ci := 1) (q0 := 0) rfl rfl, cPc_pre hPc hK hDc hNw⟩ rfl rfl hl.1 rfl (lv_room (Nat.le_of_ble_eq_true rfl)) dX10_march_32 ⟨Nat.le_of_ble_eq_true rfl, Nat.le_of_ble_eq_true rfl⟩) hS (fun q _ h => hFc q h) hFc (fun r5 u t H1 locs ht hvm hw hB hz1 hk1 hS => ?_)
  obtain ⟨f4, rfl⟩ : ∃ z, z = u := ⟨_, rfl⟩
  obtain ⟨hP1, hK1, hD1⟩ := hB
  rw [ht] at hP1
  obtain ⟨hP, hD⟩ := va_join (wr := [(a0, .inr (10, [z0_tape, z0_ground, z0_spareGround, z0_rule, z0_spareRule, z0_lines, z0_spareLines, z0_steps, .ref a0_now, .ref a0_trial, z0_past, z0_images, z0_round, z0_seating, z0_fitting, z0_imagesKept, z0_refusedSteps, z0_callsNoSuch, .int x2])), (a0_now, .inr (1, [.ref a0_now_row, z0_now_owedEach, .ref a0_ground, .ref a0_rule])), (a0_now_row, .inl (cyI, 64, .inl f0_now_row))]) (w1 := [(a0_trial, .inr (1, [.ref a0_trial_row, z0_trial_owedEach, .ref a0_ground, .ref a0_rule])), (a0_ground, .inr (2, [z0_ground_formX, z0_ground_formY, z0_ground_foxX, z0_ground_foxY, z0_ground_seat, z0_ground_strength, z0_ground_debts, z0_ground_near, z0_ground_forms, .int v0_ground_hares, z0_ground_foxes, z0_ground_safe])), (a0_trial_row, .inl (cyI, 64, .inl f4))]) hP hD [1, 5, 4] [0, 2, 3] rfl rfl (by decide) (by decide) hk1 hFc hP1 hD1
  have hP : va_P (dC, dI) vwCl [(a0, .inr (10, [z0_tape, z0_ground, z0_spareGround, z0_rule, z0_spareRule, z0_lines, z0_spareLines, z0_steps, .ref a0_now, .ref a0_trial, z0_past, z0_images, z0_round, z0_seating, z0_fitting, z0_imagesKept, z0_refusedSteps, z0_callsNoSuch, .int x2])), (a0_trial, .inr (1, [.ref a0_trial_row, z0_trial_owedEach, .ref a0_ground, .ref a0_rule])), (a0_now, .inr (1, [.ref a0_now_row, z0_now_owedEach, .ref a0_ground, .ref a0_rule])), (a0_now_row, .inl (cyI, 64, .inl f0_now_row)), (a0_trial_row, .inl (cyI, 64, .inl f4)), (a0_ground, .inr (2, [z0_ground_formX, z0_ground_formY, z0_ground_foxX, z0_ground_foxY, z0_ground_seat, z0_ground_strength, z0_ground_debts, z0_ground_near, z0_ground_forms, .int v0_ground_hares, z0_ground_foxes, z0_ground_safe]))] H1 := hP.sub [0, 3, 1, 2, 5, 4] rfl
  have hD : va_D A [(a0, .inr (10, [z0_tape, z0_ground, z0_spareGround, z0_rule, z0_spareRule, z0_lines, z0_spareLines, z0_steps, .ref a0_now, .ref a0_trial, z0_past, z0_images, z0_round, z0_seating, z0_fitting, z0_imagesKept, z0_refusedSteps, z0_callsNoSuch, .int x2])), (a0_trial, .inr (1, [.ref a0_trial_row, z0_trial_owedEach, .ref a0_ground, .ref a0_rule])), (a0_now, .inr (1, [.ref a0_now_row, z0_now_owedEach, .ref a0_ground, .ref a0_rule])), (a0_now_row, .inl (cyI, 64, .inl f0_now_row)), (a0_trial_row, .inl (cyI, 64, .inl f4)), (a0_ground, .inr (2, [z0_ground_formX, z0_ground_formY, z0_ground_foxX, z0_ground_foxY, z0_ground_seat, z0_ground_strength, z0_ground_debts, z0_ground_near, z0_ground_forms, .int v0_ground_hares, z0_ground_foxes, z0_ground_safe]))] := hD.sub [0, 3, 1, 2, 5, 4] (by decide) rfl
  generalize H1 = H at hP hS ⊢
  refine lv_istore (lv' := [(4, .int r5), (0, .ref a0), (1, .int p1), (2, .int p2), (3, .int p3)]) hx hb dX10_march_35 hl (by decide) rfl (fun ls hl => ?_)
  refine lv_iload_n hx hb dX10_march_37 rfl (lv_at hl 4 rfl) ?_
  by_cases c6 : p3.toInt < 0 ∨ 2 < p3.toInt
  · have hw := hw.1 c6
    refine lv_tableOut (tgt := 83) hx hb dX10_march_38 c6 (by decide) ?_
    refine lv_aload_n hx hb dX10_march_83 rfl (lv_at hl 1 rfl) ?_
    refine va_get (D := (dC, dI)) (ci := 10) (v := .ref a0_trial) (C := RX10) (T := TX10) (N := 19) hx hb hts ui_X10_march_X10 hown hK hP 0 rfl rfl 9 (by decide) (hts _ uw_X10_march_f62) (fun _ h9 => h9) rfl dX10_march_84 ?_
    have hPc := hP.sub (ws' := [(a0_trial, .inr (1, [.ref a0_trial_row, z0_trial_owedEach, .ref a0_ground, .ref a0_rule])), (a0_trial_row, .inl (cyI, 64, .inl f4))]) [1, 4] rfl
    have hDc := hD.sub (ws' := [(a0_trial, .inr (1, [.ref a0_trial_row, z0_trial_owedEach, .ref a0_ground, .ref a0_rule])), (a0_trial_row, .inl (cyI, 64, .inl f4))]) [1, 4] (by decide) rfl
    have hFc := va_free (wc := [(a0_trial, .inr (1, [.ref a0_trial_row, z0_trial_owedEach, .ref a0_ground, .ref a0_rule])), (a0_trial_row, .inl (cyI, 64, .inl f4))]) hD hS hA [1, 4] rfl
    refine va_calli (va_runV (As := []) (rest := []) ⟨hx, hb, hml, hown, hts⟩ (ck_X1_day l dC dI cyB cyI cyJ cyP a0_trial a0_trial_row H.size (z0_trial_owedEach) (.ref a0_ground) (.ref a0_rule) f4   hw) (cwV 0 hts gX10_march_X1_day rfl rfl rfl (by decide +kernel) ⟨Nat.le_of_ble_eq_true rfl, Nat.le_of_ble_eq_true rfl⟩) ⟨cPc_blind, va_recv hK hPc (ci := 1) (q0 := 0) rfl rfl, cPc_pre hPc hK hDc hNw⟩ rfl rfl hl.1 rfl (lv_room (Nat.le_of_ble_eq_true rfl)) dX10_march_87 ⟨Nat.le_of_ble_eq_true rfl, Nat.le_of_ble_eq_true rfl⟩) hS (fun q _ h => hFc q h) hFc (fun r7 u t H1 locs ht hvm hw hB hz1 hk1 hS => ?_)
    obtain ⟨hP1, hK1, hD1⟩ := hB
    rw [ht] at hP1
    obtain ⟨hP, hD⟩ := va_join (wr := [(a0, .inr (10, [z0_tape, z0_ground, z0_spareGround, z0_rule, z0_spareRule, z0_lines, z0_spareLines, z0_steps, .ref a0_now, .ref a0_trial, z0_past, z0_images, z0_round, z0_seating, z0_fitting, z0_imagesKept, z0_refusedSteps, z0_callsNoSuch, .int x2])), (a0_now, .inr (1, [.ref a0_now_row, z0_now_owedEach, .ref a0_ground, .ref a0_rule])), (a0_now_row, .inl (cyI, 64, .inl f0_now_row)), (a0_ground, .inr (2, [z0_ground_formX, z0_ground_formY, z0_ground_foxX, z0_ground_foxY, z0_ground_seat, z0_ground_strength, z0_ground_debts, z0_ground_near, z0_ground_forms, .int v0_ground_hares, z0_ground_foxes, z0_ground_safe]))]) (w1 := [(a0_trial, .inr (1, [.ref a0_trial_row, z0_trial_owedEach, .ref a0_ground, .ref a0_rule])), (a0_trial_row, .inl (cyI, 64, .inl f4))]) hP hD [1, 4] [0, 2, 3, 5] rfl rfl (by decide) (by decide) hk1 hFc hP1 hD1
    have hP : va_P (dC, dI) vwCl [(a0, .inr (10, [z0_tape, z0_ground, z0_spareGround, z0_rule, z0_spareRule, z0_lines, z0_spareLines, z0_steps, .ref a0_now, .ref a0_trial, z0_past, z0_images, z0_round, z0_seating, z0_fitting, z0_imagesKept, z0_refusedSteps, z0_callsNoSuch, .int x2])), (a0_trial, .inr (1, [.ref a0_trial_row, z0_trial_owedEach, .ref a0_ground, .ref a0_rule])), (a0_now, .inr (1, [.ref a0_now_row, z0_now_owedEach, .ref a0_ground, .ref a0_rule])), (a0_now_row, .inl (cyI, 64, .inl f0_now_row)), (a0_trial_row, .inl (cyI, 64, .inl f4)), (a0_ground, .inr (2, [z0_ground_formX, z0_ground_formY, z0_ground_foxX, z0_ground_foxY, z0_ground_seat, z0_ground_strength, z0_ground_debts, z0_ground_near, z0_ground_forms, .int v0_ground_hares, z0_ground_foxes, z0_ground_safe]))] H1 := hP.sub [0, 4, 1, 2, 5, 3] rfl
    have hD : va_D A [(a0, .inr (10, [z0_tape, z0_ground, z0_spareGround, z0_rule, z0_spareRule, z0_lines, z0_spareLines, z0_steps, .ref a0_now, .ref a0_trial, z0_past, z0_images, z0_round, z0_seating, z0_fitting, z0_imagesKept, z0_refusedSteps, z0_callsNoSuch, .int x2])), (a0_trial, .inr (1, [.ref a0_trial_row, z0_trial_owedEach, .ref a0_ground, .ref a0_rule])), (a0_now, .inr (1, [.ref a0_now_row, z0_now_owedEach, .ref a0_ground, .ref a0_rule])), (a0_now_row, .inl (cyI, 64, .inl f0_now_row)), (a0_trial_row, .inl (cyI, 64, .inl f4)), (a0_ground, .inr (2, [z0_ground_formX, z0_ground_formY, z0_ground_foxX, z0_ground_foxY, z0_ground_seat, z0_ground_strength, z0_ground_debts, z0_ground_near, z0_ground_forms, .int v0_ground_hares, z0_ground_foxes, z0_ground_safe]))] := hD.sub [0, 4, 1, 2, 5, 3] (by decide) rfl
    generalize H1 = H at hP hS ⊢
    exact vx_ret (W.widen (k := 2) (n := 12) (Nat.le_of_ble_eq_true rfl) (Nat.le_of_ble_eq_true rfl) (W.iret (v := r7) hx hb hr (fun t ht hW => ⟨⟨r7, (x2, f4, (.ref a0_ground), (.ref a0_rule)), rfl, hw, by rw [ht]; exact hP, va_K.moved hW.alike hK, hD⟩, hS.F ht⟩) hS.2.2 dX10_march_90))
  · have hw := hw.2
    rcases tsw_0_2 c6 with c6 | c6 | c6
    · have hw := hw.1 c6
      refine lv_tableIn (tgt := 64) (off := 26) hx hb dX10_march_38 (by rw [c6]; decide) (by rw [c6]; decide) (by rw [c6]; decide) (by decide) ?_
      refine lv_iload hx hb dX10_march_64 (lv_at hl 0 rfl) ?_
      exact vx_ret (W.widen (k := 2) (n := 12) (Nat.le_of_ble_eq_true rfl) (Nat.le_of_ble_eq_true rfl) (W.iret (v := r5) hx hb hr (fun t ht hW => ⟨⟨r5, (x2, f4, (.ref a0_ground), (.ref a0_rule)), rfl, hw, by rw [ht]; exact hP, va_K.moved hW.alike hK, hD⟩, hS.F ht⟩) hS.2.2 dX10_march_66))
    · have hw := hw.2.1 c6
      refine lv_tableIn (tgt := 67) (off := 29) hx hb dX10_march_38 (by rw [c6]; decide) (by rw [c6]; decide) (by rw [c6]; decide) (by decide) ?_
      refine lv_aload_n hx hb dX10_march_67 rfl (lv_at hl 1 rfl) ?_
      refine va_get (D := (dC, dI)) (ci := 10) (v := .ref a0_trial) (C := RX10) (T := TX10) (N := 19) hx hb hts ui_X10_march_X10 hown hK hP 0 rfl rfl 9 (by decide) (hts _ uw_X10_march_f62) (fun _ h9 => h9) rfl dX10_march_68 ?_
      have hPc := hP.sub (ws' := [(a0_trial, .inr (1, [.ref a0_trial_row, z0_trial_owedEach, .ref a0_ground, .ref a0_rule])), (a0_trial_row, .inl (cyI, 64, .inl f4))]) [1, 4] rfl
      have hDc := hD.sub (ws' := [(a0_trial, .inr (1, [.ref a0_trial_row, z0_trial_owedEach, .ref a0_ground, .ref a0_rule])), (a0_trial_row, .inl (cyI, 64, .inl f4))]) [1, 4] (by decide) rfl
      have hFc := va_free (wc := [(a0_trial, .inr (1, [.ref a0_trial_row, z0_trial_owedEach, .ref a0_ground, .ref a0_rule])), (a0_trial_row, .inl (cyI, 64, .inl f4))]) hD hS hA [1, 4] rfl
      refine va_calli (va_runV (As := []) (rest := []) ⟨hx, hb, hml, hown, hts⟩ (ck_X1_caughtOnes l dC dI cyB cyI cyJ cyP a0_trial a0_trial_row H.size (z0_trial_owedEach) (.ref a0_ground) (.ref a0_rule) f4   hw) (cwV 0 hts gX10_march_X1_caughtOnes rfl rfl rfl (by decide +kernel) ⟨Nat.le_of_ble_eq_true rfl, Nat.le_of_ble_eq_true rfl⟩) ⟨cPc_blind, va_recv hK hPc (ci := 1) (q0 := 0) rfl rfl, cPc_pre hPc hK hDc hNw⟩ rfl rfl hl.1 rfl (lv_room (Nat.le_of_ble_eq_true rfl)) dX10_march_71 ⟨Nat.le_of_ble_eq_true rfl, Nat.le_of_ble_eq_true rfl⟩) hS (fun q _ h => hFc q h) hFc (fun r8 u t H1 locs ht hvm hw hB hz1 hk1 hS => ?_)
      obtain ⟨hP1, hK1, hD1⟩ := hB
      rw [ht] at hP1
      obtain ⟨hP, hD⟩ := va_join (wr := [(a0, .inr (10, [z0_tape, z0_ground, z0_spareGround, z0_rule, z0_spareRule, z0_lines, z0_spareLines, z0_steps, .ref a0_now, .ref a0_trial, z0_past, z0_images, z0_round, z0_seating, z0_fitting, z0_imagesKept, z0_refusedSteps, z0_callsNoSuch, .int x2])), (a0_now, .inr (1, [.ref a0_now_row, z0_now_owedEach, .ref a0_ground, .ref a0_rule])), (a0_now_row, .inl (cyI, 64, .inl f0_now_row)), (a0_ground, .inr (2, [z0_ground_formX, z0_ground_formY, z0_ground_foxX, z0_ground_foxY, z0_ground_seat, z0_ground_strength, z0_ground_debts, z0_ground_near, z0_ground_forms, .int v0_ground_hares, z0_ground_foxes, z0_ground_safe]))]) (w1 := [(a0_trial, .inr (1, [.ref a0_trial_row, z0_trial_owedEach, .ref a0_ground, .ref a0_rule])), (a0_trial_row, .inl (cyI, 64, .inl f4))]) hP hD [1, 4] [0, 2, 3, 5] rfl rfl (by decide) (by decide) hk1 hFc hP1 hD1
      have hP : va_P (dC, dI) vwCl [(a0, .inr (10, [z0_tape, z0_ground, z0_spareGround, z0_rule, z0_spareRule, z0_lines, z0_spareLines, z0_steps, .ref a0_now, .ref a0_trial, z0_past, z0_images, z0_round, z0_seating, z0_fitting, z0_imagesKept, z0_refusedSteps, z0_callsNoSuch, .int x2])), (a0_trial, .inr (1, [.ref a0_trial_row, z0_trial_owedEach, .ref a0_ground, .ref a0_rule])), (a0_now, .inr (1, [.ref a0_now_row, z0_now_owedEach, .ref a0_ground, .ref a0_rule])), (a0_now_row, .inl (cyI, 64, .inl f0_now_row)), (a0_trial_row, .inl (cyI, 64, .inl f4)), (a0_ground, .inr (2, [z0_ground_formX, z0_ground_formY, z0_ground_foxX, z0_ground_foxY, z0_ground_seat, z0_ground_strength, z0_ground_debts, z0_ground_near, z0_ground_forms, .int v0_ground_hares, z0_ground_foxes, z0_ground_safe]))] H1 := hP.sub [0, 4, 1, 2, 5, 3] rfl
      have hD : va_D A [(a0, .inr (10, [z0_tape, z0_ground, z0_spareGround, z0_rule, z0_spareRule, z0_lines, z0_spareLines, z0_steps, .ref a0_now, .ref a0_trial, z0_past, z0_images, z0_round, z0_seating, z0_fitting, z0_imagesKept, z0_refusedSteps, z0_callsNoSuch, .int x2])), (a0_trial, .inr (1, [.ref a0_trial_row, z0_trial_owedEach, .ref a0_ground, .ref a0_rule])), (a0_now, .inr (1, [.ref a0_now_row, z0_now_owedEach, .ref a0_ground, .ref a0_rule])), (a0_now_row, .inl (cyI, 64, .inl f0_now_row)), (a0_trial_row, .inl (cyI, 64, .inl f4)), (a0_ground, .inr (2, [z0_ground_formX, z0_ground_formY, z0_ground_foxX, z0_ground_foxY, z0_ground_seat, z0_ground_strength, z0_ground_debts, z0_ground_near, z0_ground_forms, .int v0_ground_hares, z0_ground_foxes, z0_ground_safe]))] := hD.sub [0, 4, 1, 2, 5, 3] (by decide) rfl
      generalize H1 = H at hP hS ⊢
      exact vx_ret (W.widen (k := 2) (n := 12) (Nat.le_of_ble_eq_true rfl) (Nat.le_of_ble_eq_true rfl) (W.iret (v := r8) hx hb hr (fun t ht hW => ⟨⟨r8, (x2, f4, (.ref a0_ground), (.ref a0_rule)), rfl, hw, by rw [ht]; exact hP, va_K.moved hW.alike hK, hD⟩, hS.F ht⟩) hS.2.2 dX10_march_74))
    · have hw := hw.2.2 c6
      refine lv_tableIn (tgt := 75) (off := 37) hx hb dX10_march_38 (by rw [c6]; decide) (by rw [c6]; decide) (by rw [c6]; decide) (by decide) ?_
      refine lv_aload_n hx hb dX10_march_75 rfl (lv_at hl 1 rfl) ?_
      refine va_get (D := (dC, dI)) (ci := 10) (v := .ref a0_trial) (C := RX10) (T := TX10) (N := 19) hx hb hts ui_X10_march_X10 hown hK hP 0 rfl rfl 9 (by decide) (hts _ uw_X10_march_f62) (fun _ h9 => h9) rfl dX10_march_76 ?_
      have hPc := hP.sub (ws' := [(a0_trial, .inr (1, [.ref a0_trial_row, z0_trial_owedEach, .ref a0_ground, .ref a0_rule])), (a0_ground, .inr (2, [z0_ground_formX, z0_ground_formY, z0_ground_foxX, z0_ground_foxY, z0_ground_seat, z0_ground_strength, z0_ground_debts, z0_ground_near, z0_ground_forms, .int v0_ground_hares, z0_ground_foxes, z0_ground_safe]))]) [1, 5] rfl
      have hDc := hD.sub (ws' := [(a0_trial, .inr (1, [.ref a0_trial_row, z0_trial_owedEach, .ref a0_ground, .ref a0_rule])), (a0_ground, .inr (2, [z0_ground_formX, z0_ground_formY, z0_ground_foxX, z0_ground_foxY, z0_ground_seat, z0_ground_strength, z0_ground_debts, z0_ground_near, z0_ground_forms, .int v0_ground_hares, z0_ground_foxes, z0_ground_safe]))]) [1, 5] (by decide) rfl
      have hFc := va_free (wc := [(a0_trial, .inr (1, [.ref a0_trial_row, z0_trial_owedEach, .ref a0_ground, .ref a0_rule])), (a0_ground, .inr (2, [z0_ground_formX, z0_ground_formY, z0_ground_foxX, z0_ground_foxY, z0_ground_seat, z0_ground_strength, z0_ground_debts, z0_ground_near, z0_ground_forms, .int v0_ground_hares, z0_ground_foxes, z0_ground_safe]))]) hD hS hA [1, 5] rfl
      refine va_calli (va_runV (As := []) (rest := []) ⟨hx, hb, hml, hown, hts⟩ (ck_X1_strongTogether l dC dI cyB cyI cyJ cyP a0_trial a0_ground H.size (.ref a0_trial_row) (z0_trial_owedEach) (.ref a0_rule) (z0_ground_formX) (z0_ground_formY) (z0_ground_foxX) (z0_ground_foxY) (z0_ground_seat) (z0_ground_strength) (z0_ground_debts) (z0_ground_near) (z0_ground_forms) (z0_ground_foxes) (z0_ground_safe) v0_ground_hares   hw) (cwV 0 hts gX10_march_X1_strongTogether rfl rfl rfl (by decide +kernel) ⟨Nat.le_of_ble_eq_true rfl, Nat.le_of_ble_eq_true rfl⟩) ⟨cPc_blind, va_recv hK hPc (ci := 1) (q0 := 0) rfl rfl, cPc_pre hPc hK hDc hNw⟩ rfl rfl hl.1 rfl (lv_room (Nat.le_of_ble_eq_true rfl)) dX10_march_79 ⟨Nat.le_of_ble_eq_true rfl, Nat.le_of_ble_eq_true rfl⟩) hS (fun q _ h => hFc q h) hFc (fun r9 u t H1 locs ht hvm hw hB hz1 hk1 hS => ?_)
      obtain ⟨hP1, hK1, hD1⟩ := hB
      rw [ht] at hP1
      obtain ⟨hP, hD⟩ := va_join (wr := [(a0, .inr (10, [z0_tape, z0_ground, z0_spareGround, z0_rule, z0_spareRule, z0_lines, z0_spareLines, z0_steps, .ref a0_now, .ref a0_trial, z0_past, z0_images, z0_round, z0_seating, z0_fitting, z0_imagesKept, z0_refusedSteps, z0_callsNoSuch, .int x2])), (a0_now, .inr (1, [.ref a0_now_row, z0_now_owedEach, .ref a0_ground, .ref a0_rule])), (a0_now_row, .inl (cyI, 64, .inl f0_now_row)), (a0_trial_row, .inl (cyI, 64, .inl f4))]) (w1 := [(a0_trial, .inr (1, [.ref a0_trial_row, z0_trial_owedEach, .ref a0_ground, .ref a0_rule])), (a0_ground, .inr (2, [z0_ground_formX, z0_ground_formY, z0_ground_foxX, z0_ground_foxY, z0_ground_seat, z0_ground_strength, z0_ground_debts, z0_ground_near, z0_ground_forms, .int v0_ground_hares, z0_ground_foxes, z0_ground_safe]))]) hP hD [1, 5] [0, 2, 3, 4] rfl rfl (by decide) (by decide) hk1 hFc hP1 hD1
      have hP : va_P (dC, dI) vwCl [(a0, .inr (10, [z0_tape, z0_ground, z0_spareGround, z0_rule, z0_spareRule, z0_lines, z0_spareLines, z0_steps, .ref a0_now, .ref a0_trial, z0_past, z0_images, z0_round, z0_seating, z0_fitting, z0_imagesKept, z0_refusedSteps, z0_callsNoSuch, .int x2])), (a0_trial, .inr (1, [.ref a0_trial_row, z0_trial_owedEach, .ref a0_ground, .ref a0_rule])), (a0_now, .inr (1, [.ref a0_now_row, z0_now_owedEach, .ref a0_ground, .ref a0_rule])), (a0_now_row, .inl (cyI, 64, .inl f0_now_row)), (a0_trial_row, .inl (cyI, 64, .inl f4)), (a0_ground, .inr (2, [z0_ground_formX, z0_ground_formY, z0_ground_foxX, z0_ground_foxY, z0_ground_seat, z0_ground_strength, z0_ground_debts, z0_ground_near, z0_ground_forms, .int v0_ground_hares, z0_ground_foxes, z0_ground_safe]))] H1 := hP.sub [0, 4, 1, 2, 3, 5] rfl
      have hD : va_D A [(a0, .inr (10, [z0_tape, z0_ground, z0_spareGround, z0_rule, z0_spareRule, z0_lines, z0_spareLines, z0_steps, .ref a0_now, .ref a0_trial, z0_past, z0_images, z0_round, z0_seating, z0_fitting, z0_imagesKept, z0_refusedSteps, z0_callsNoSuch, .int x2])), (a0_trial, .inr (1, [.ref a0_trial_row, z0_trial_owedEach, .ref a0_ground, .ref a0_rule])), (a0_now, .inr (1, [.ref a0_now_row, z0_now_owedEach, .ref a0_ground, .ref a0_rule])), (a0_now_row, .inl (cyI, 64, .inl f0_now_row)), (a0_trial_row, .inl (cyI, 64, .inl f4)), (a0_ground, .inr (2, [z0_ground_formX, z0_ground_formY, z0_ground_foxX, z0_ground_foxY, z0_ground_seat, z0_ground_strength, z0_ground_debts, z0_ground_near, z0_ground_forms, .int v0_ground_hares, z0_ground_foxes, z0_ground_safe]))] := hD.sub [0, 4, 1, 2, 3, 5] (by decide) rfl
      generalize H1 = H at hP hS ⊢
      exact vx_ret (W.widen (k := 2) (n := 12) (Nat.le_of_ble_eq_true rfl) (Nat.le_of_ble_eq_true rfl) (W.iret (v := r9) hx hb hr (fun t ht hW => ⟨⟨r9, (x2, f4, (.ref a0_ground), (.ref a0_rule)), rfl, hw, by rw [ht]; exact hP, va_K.moved hW.alike hK, hD⟩, hS.F ht⟩) hS.2.2 dX10_march_82))
