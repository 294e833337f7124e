/-- worlds by their leaves -/
def qaos (x0 : Nat) (x1 x2 x3 x4 x5 : Value) (x6 : Nat) (x7 x8 x9 : Value) (x10 : Int32) (x11 : Value) (x12 x13 : Int32) : va_W := [(x0, .inr (4, [x1, x2, x3, x4, x5])), (x6, .inr (8, [x7, x8, x9, .int x10, x11, .int x12, .int x13]))]
def qbdT (x0 : Nat) (x1 x2 x3 : Value) (x4 : Int32) (x5 : Value) (x6 x7 : Int32) : va_W := [(x0, .inr (8, [x1, x2, x3, .int x4, x5, .int x6, .int x7]))]
def qbc3 (x0 : Nat) (x1 x2 x3 x4 x5 : Value) : va_W := [(x0, .inr (4, [x1, x2, x3, x4, x5]))]
def qagC (x0 : Nat) (x1 x2 x3 x4 x5 : Value) (x6 x7 : Nat) (x8 x9 x10 : Int32) (x11 : Value) (x12 x13 : Int32) (x14 : Nat) (x15 : ClassId) (x16 : NI) : va_W := [(x0, .inr (4, [x1, x2, x3, x4, x5])), (x6, .inr (8, [.ref x7, .int x8, .int x9, .int x10, x11, .int x12, .int x13])), (x14, .inl (x15, 600, .inl x16))]
def qlf (x0 x1 : Nat) (x2 x3 x4 : Int32) (x5 : Value) (x6 x7 : Int32) (x8 : Nat) (x9 : ClassId) (x10 : NI) : va_W := [(x0, .inr (8, [.ref x1, .int x2, .int x3, .int x4, x5, .int x6, .int x7])), (x8, .inl (x9, 600, .inl x10))]
def qSy (x0 x1 : Nat) (x2 x3 x4 : Int32) (x5 : Value) (x6 x7 : Int32) : va_W := [(x0, .inr (8, [.ref x1, .int x2, .int x3, .int x4, x5, .int x6, .int x7]))]
def qar (x0 x1 x2 : Nat) (x3 x4 : Value) (x5 : Int32) (x6 x7 : Nat) (x8 x9 x10 : Int32) (x11 : Value) (x12 x13 : Int32) (x14 : Nat) (x15 : ClassId) (x16 : NI) (x17 : Nat) (x18 : ClassId) (x19 : NI) (x20 : Nat) (x21 : ClassId) (x22 : NI) : va_W := [(x0, .inr (4, [.ref x1, .ref x2, x3, x4, .int x5])), (x6, .inr (8, [.ref x7, .int x8, .int x9, .int x10, x11, .int x12, .int x13])), (x14, .inl (x15, 600, .inl x16)), (x17, .inl (x18, 150, .inl x19)), (x20, .inl (x21, 150, .inl x22))]
def qsH (x0 x1 x2 : Nat) (x3 x4 : Value) (x5 : Int32) (x6 : Nat) (x7 : ClassId) (x8 : NI) (x9 : Nat) (x10 : ClassId) (x11 : NI) : va_W := [(x0, .inr (4, [.ref x1, .ref x2, x3, x4, .int x5])), (x6, .inl (x7, 150, .inl x8)), (x9, .inl (x10, 150, .inl x11))]
def qa1h (x0 x1 x2 : Nat) (x3 x4 : Value) (x5 : Int32) (x6 x7 : Nat) (x8 x9 x10 : Int32) (x11 : Value) (x12 x13 : Int32) (x14 : Nat) (x15 : ClassId) (x16 : NI) : va_W := [(x0, .inr (4, [.ref x1, .ref x2, x3, x4, .int x5])), (x6, .inr (8, [.ref x7, .int x8, .int x9, .int x10, x11, .int x12, .int x13])), (x14, .inl (x15, 600, .inl x16))]
def qbcW (x0 : Nat) (x1 : ClassId) (x2 : NI) (x3 : Nat) (x4 : ClassId) (x5 : NI) : va_W := [(x0, .inl (x1, 150, .inl x2)), (x3, .inl (x4, 150, .inl x5))]
def qa5L (x0 x1 x2 : Nat) (x3 x4 : Value) (x5 : Int32) (x6 x7 : Nat) (x8 x9 x10 : Int32) (x11 : Value) (x12 x13 : Int32) : va_W := [(x0, .inr (4, [.ref x1, .ref x2, x3, x4, .int x5])), (x6, .inr (8, [.ref x7, .int x8, .int x9, .int x10, x11, .int x12, .int x13]))]
def qalF (x0 x1 x2 : Nat) (x3 x4 : Value) (x5 : Int32) (x6 : Nat) (x7 : ClassId) (x8 : NI) (x9 : Nat) (x10 : ClassId) (x11 : NI) (x12 : Nat) (x13 : ClassId) (x14 : NI) : va_W := [(x0, .inr (4, [.ref x1, .ref x2, x3, x4, .int x5])), (x6, .inl (x7, 600, .inl x8)), (x9, .inl (x10, 150, .inl x11)), (x12, .inl (x13, 150, .inl x14))]
set_option maxHeartbeats 4000000 in
set_option maxRecDepth 100000 in
theorem q5A (l : Launch) (dC : Nat → ClassId) (dI : Nat → Nat → Nat) (cyB cyI cyJ cyP : ClassId) (a0 a1 sz : Nat) (jni jn6 jhW jaE jjf jpo jpl jpr jcI : Value) (jeF jcU jbM p2 : Int32) {Q : Int32 → Int32 → Prop} (hw : qNO jeF jcU jbM p2 Q) : Met l yX4_readInner wsX4_readInner ({ frames := 2, cells := 0, slots := 0, locals := 43 }) (va_Pc [.ref a0, .ref a1, .int p2] (cPs (zE) l (dC, dI) (kT cyB cyI cyJ cyP) (qaos a0 jni jn6 jhW jaE jjf a1 jpo jpl jpr jeF jcI jcU jbM) sz)) (va_Qv (fun (u : Int32 × Int32) => Q u.1 u.2) (cB (dC, dI) (kT cyB cyI cyJ cyP) (va_A (qaos a0 jni jn6 jhW jaE jjf a1 jpo jpl jpr jeF jcI jcU jbM) sz) (fun u : Int32 × Int32 => ((qaos a0 jni jn6 jhW jaE jjf a1 jpo jpl jpr jeF jcI u.1 u.2) : va_W))) (va_A (qaos a0 jni jn6 jhW jaE jjf a1 jpo jpl jpr jeF jcI jcU jbM) sz)) 0 0 (va_A (qaos a0 jni jn6 jhW jaE jjf a1 jpo jpl jpr jeF jcI jcU jbM) sz) := by
  refine Met.ofW (cc := cX4_readInner) (maxL := 3) (ret := none) (by decide) rfl ?_
  intro p e s m args below meth c s₁ B hml hv
  obtain ⟨rfl, ⟨hsz, hP, hK, hD0, hNw, hXl, hXu, hXn, hXt⟩, hE0⟩ := hv
  have hx := B.exec
  have hb := B.bytes
  have hr := B.returns
  have hts := atoms_spec (ws := wsX4_readInner) B.pre
  have hown : s.vm.findClass RX4 = some m.cls := findClass_of_methodNamed B.named
  have hlocks := B.notSynchronized
  subst hsz
  have hD := hD0.self (sz := s.heap.size)
  generalize hAe : va_A (qaos a0 jni jn6 jhW jaE jjf a1 jpo jpl jpr jeF jcI jcU jbM) s.heap.size = A at hD hXu hXn hE0 ⊢
  have hA : ∀ q : Nat, s.heap.size ≤ q → A q := fun q h => by rw [← hAe]; exact Or.inr h
  have hS : va_S A s.heap s.heap [] := va_S.rf
  have hP : va_P (dC, dI) vwCl (qaos a0 jni jn6 jhW jaE jjf a1 jpo jpl jpr jeF jcI jcU jbM) s.heap := hP
  have hl := lv_entry ([.ref a0, .ref a1, .int p2]) (n := 3) (nbq rfl)
  rw [lg_entry_eq]
  generalize (lg_sl ([.ref a0, .ref a1, .int p2]) ++ List.replicate (3 - (lg_sl ([.ref a0, .ref a1, .int p2])).length) Slot.unset).toArray = ls at hl ⊢
  have hl : lv_has ls 3 [(0, .ref a0), (1, .ref a1), (2, .int p2)] := hl
  have hY : cfY l s A := ⟨hXl, hXu, hXn, hXt⟩
  have C0 : cfx p s m _ meth c cX4_readInner none wsX4_readInner RX4 3 A (dC, dI) (kT cyB cyI cyJ cyP) ∧ cfY l s A ∧ zE A s s.heap := ⟨⟨hx, hb, hr, hts, hown, hlocks, hml, hA, hK, hNw⟩, hY, hE0⟩
  have hE := hE0
  clear hAe
  obtain ⟨H, hH⟩ : ∃ H, H = s.heap := ⟨_, rfl⟩
  rw [← hH] at hP ⊢
  have hS : va_S A s.heap H [] := by rw [hH]; exact va_S.rf
  have hS := hS
  refine lv_iload_n hx hb (qaa qbw 0 rfl) rfl (lv_at hl 2 rfl) ?_
  refine lv_bipush (v := 6) hx hb (qaa qbw 1 rfl) (by decide) ?_
  refine lv_icmp_lt (tgt := 12) hx hb (qaa qbw 2 rfl) (by decide) (fun c1 => ?_) (fun c1 => ?_)
  · have hw := hw.1 c1
    refine lv_aload_n hx hb (qaa qbw 7 rfl) rfl (lv_at hl 0 rfl) ?_
    refine lv_aload_n hx hb (qaa qbw 8 rfl) rfl (lv_at hl 1 rfl) ?_
    refine lv_iload_n hx hb (qaa qbw 9 rfl) rfl (lv_at hl 2 rfl) ?_
    refine lv_iconst (v := 1) hx hb (qaa qbw 10 rfl) (by decide) ?_
    refine lv_iadd hx hb (qaa qbw 11 rfl) ?_
    refine lv_topi (fun x2 ex2 => ?_)
    have hw := hw x2 ex2
    exact False.elim hw
  · have hw := hw.2 c1
    refine lv_aload_n hx hb (qaa qbw 3 rfl) rfl (lv_at hl 1 rfl) ?_
    refine lv_iconst (v := 3) hx hb (qaa qbw 4 rfl) (by decide) ?_
    obtain ⟨hCc, hPc, hDc, hFc⟩ := qac (ws' := (qbdT a1 jpo jpl jpr jeF jcI jcU jbM)) hP hD hS hA [1] (by decide +kernel) rfl
    refine va_callv (va_runV (As := [.int 3]) (rest := []) ⟨hx, hb, hml, hown, hts⟩ (qnW l dC dI cyB cyI cyJ cyP a1 H.size (jpo) (jpl) (jpr) (jcI) jeF jcU jbM 3 hw) (cwV 1 hts gX4_readInner_X8_blameToken rfl rfl rfl (by decide +kernel) ⟨nbq rfl, nbq rfl⟩) ⟨qab, va_recv (q := (RX8, TX8, 7)) hK hPc (ci := 8) (q0 := 0) rfl rfl, qae hPc hK hDc hNw⟩ rfl rfl hl.1 rfl (lv_room (nbq rfl)) (qaa qbw 5 rfl) ⟨nbq rfl, nbq rfl⟩) hS (fun q _ h => hFc q h) hFc (fun u t H1 locs ht hvm hw hB hz1 hk1 hS => ?_)
    obtain ⟨x3, x4⟩ := u
    obtain ⟨hP1, hK1, hD1⟩ := hB
    rw [ht] at hP1
    obtain ⟨hP, hD⟩ := qah (wr := (qbc3 a0 jni jn6 jhW jaE jjf)) (w1 := (qbdT a1 jpo jpl jpr jeF jcI x3 x4)) (wn := (qaos a0 jni jn6 jhW jaE jjf a1 jpo jpl jpr jeF jcI x3 x4)) hP hD [1] [0] hCc rfl (by decide +kernel) (by decide +kernel) rfl hk1 hFc hP1 hD1
    generalize H1 = H at hP hS ⊢
    exact ((W.vret hx hb hr (fun t ht hW => ⟨⟨(x3, x4), rfl, hw, by rw [ht]; exact hP, va_K.moved hW.alike hK, hD⟩, hS.F ht⟩) hS.2.2 (qaa qbw 6 rfl)))
set_option maxHeartbeats 4000000 in
set_option maxRecDepth 100000 in
theorem qQd (l : Launch) (dC : Nat → ClassId) (dI : Nat → Nat → Nat) (cyB cyI cyJ cyP : ClassId) (a0 a1 jbF sz : Nat) (jni jn6 jhW jaE jjf jcI : Value) (jb5 : Int32) (jcq : NI) (jhS jeF jcU jbM p2 p3 : Int32) {Q : Int32 → Int32 → Int32 → Int32 → Prop} (hw : qFf jb5 jcq jhS jeF jcU jbM p2 p3 Q) : Met l yX4_readPair wsX4_readPair ({ frames := 3, cells := 0, slots := 0, locals := 63 }) (va_Pc [.ref a0, .ref a1, .int p2, .int p3] (cPs (zE) l (dC, dI) (kT cyB cyI cyJ cyP) (qagC a0 jni jn6 jhW jaE jjf a1 jbF jb5 jhS jeF jcI jcU jbM jbF cyB jcq) sz)) (va_Qv (fun (u : Int32 × Int32 × Int32 × Int32) => Q u.1 u.2.1 u.2.2.1 u.2.2.2) (cB (dC, dI) (kT cyB cyI cyJ cyP) (va_A (qagC a0 jni jn6 jhW jaE jjf a1 jbF jb5 jhS jeF jcI jcU jbM jbF cyB jcq) sz) (fun u : Int32 × Int32 × Int32 × Int32 => ((qagC a0 jni jn6 jhW jaE jjf a1 jbF jb5 u.1 u.2.1 jcI u.2.2.1 u.2.2.2 jbF cyB jcq) : va_W))) (va_A (qagC a0 jni jn6 jhW jaE jjf a1 jbF jb5 jhS jeF jcI jcU jbM jbF cyB jcq) sz)) 0 0 (va_A (qagC a0 jni jn6 jhW jaE jjf a1 jbF jb5 jhS jeF jcI jcU jbM jbF cyB jcq) sz) := by
  refine Met.ofW (cc := cX4_readPair) (maxL := 4) (ret := none) (by decide) rfl ?_
  intro p e s m args below meth c s₁ B hml hv
  obtain ⟨rfl, ⟨hsz, hP, hK, hD0, hNw, hXl, hXu, hXn, hXt⟩, hE0⟩ := hv
  have hx := B.exec
  have hb := B.bytes
  have hr := B.returns
  have hts := atoms_spec (ws := wsX4_readPair) B.pre
  have hown : s.vm.findClass RX4 = some m.cls := findClass_of_methodNamed B.named
  have hlocks := B.notSynchronized
  subst hsz
  have hD := hD0.self (sz := s.heap.size)
  generalize hAe : va_A (qagC a0 jni jn6 jhW jaE jjf a1 jbF jb5 jhS jeF jcI jcU jbM jbF cyB jcq) s.heap.size = A at hD hXu hXn hE0 ⊢
  have hA : ∀ q : Nat, s.heap.size ≤ q → A q := fun q h => by rw [← hAe]; exact Or.inr h
  have hS : va_S A s.heap s.heap [] := va_S.rf
  have hP : va_P (dC, dI) vwCl (qagC a0 jni jn6 jhW jaE jjf a1 jbF jb5 jhS jeF jcI jcU jbM jbF cyB jcq) s.heap := hP
  have hl := lv_entry ([.ref a0, .ref a1, .int p2, .int p3]) (n := 4) (nbq rfl)
  rw [lg_entry_eq]
  generalize (lg_sl ([.ref a0, .ref a1, .int p2, .int p3]) ++ List.replicate (4 - (lg_sl ([.ref a0, .ref a1, .int p2, .int p3])).length) Slot.unset).toArray = ls at hl ⊢
  have hl : lv_has ls 4 [(0, .ref a0), (1, .ref a1), (2, .int p2), (3, .int p3)] := hl
  have hY : cfY l s A := ⟨hXl, hXu, hXn, hXt⟩
  have C0 : cfx p s m _ meth c cX4_readPair none wsX4_readPair RX4 4 A (dC, dI) (kT cyB cyI cyJ cyP) ∧ cfY l s A ∧ zE A s s.heap := ⟨⟨hx, hb, hr, hts, hown, hlocks, hml, hA, hK, hNw⟩, hY, hE0⟩
  have hE := hE0
  clear hAe
  obtain ⟨H, hH⟩ : ∃ H, H = s.heap := ⟨_, rfl⟩
  rw [← hH] at hP ⊢
  have hS : va_S A s.heap H [] := by rw [hH]; exact va_S.rf
  have hS := hS
  refine lv_iload_n hx hb (qaa qbs 0 rfl) rfl (lv_at hl 2 rfl) ?_
  refine lv_bipush (v := 6) hx hb (qaa qbs 1 rfl) (by decide) ?_
  refine lv_icmp_lt (tgt := 12) hx hb (qaa qbs 2 rfl) (by decide) (fun c1 => ?_) (fun c1 => ?_)
  · have hw := hw.1 c1
    refine lv_aload_n hx hb (qaa qbs 7 rfl) rfl (lv_at hl 1 rfl) ?_
    refine lv_bipush (v := 91) hx hb (qaa qbs 8 rfl) (by decide) ?_
    obtain ⟨hCc, hPc, hDc, hFc⟩ := qac (ws' := (qlf a1 jbF jb5 jhS jeF jcI jcU jbM jbF cyB jcq)) hP hD hS hA [1, 2] (by decide +kernel) rfl
    refine va_callv (va_runV (As := [.int 91]) (rest := []) ⟨hx, hb, hml, hown, hts⟩ (qtg l dC dI cyB cyI cyJ cyP a1 jbF H.size (jcI) jb5 jcq jhS jeF jcU jbM 91 hw) (cwV 1 hts gX4_readPair_X8_needs rfl rfl rfl (by decide +kernel) ⟨nbq rfl, nbq rfl⟩) ⟨qab, va_recv (q := (RX8, TX8, 7)) hK hPc (ci := 8) (q0 := 0) rfl rfl, qae hPc hK hDc hNw⟩ rfl rfl hl.1 rfl (lv_room (nbq rfl)) (qaa qbs 9 rfl) ⟨nbq rfl, nbq rfl⟩) hS (fun q _ h => hFc q h) hFc (fun u t H1 locs ht hvm hw hB hz1 hk1 hS => ?_)
    obtain ⟨x2, x3, x4, x5⟩ := u
    obtain ⟨hP1, hK1, hD1⟩ := hB
    rw [ht] at hP1
    obtain ⟨hP, hD⟩ := qah (wr := (qbc3 a0 jni jn6 jhW jaE jjf)) (w1 := (qlf a1 jbF jb5 x2 x3 jcI x4 x5 jbF cyB jcq)) (wn := (qagC a0 jni jn6 jhW jaE jjf a1 jbF jb5 x2 x3 jcI x4 x5 jbF cyB jcq)) hP hD [1, 2] [0] hCc rfl (by decide +kernel) (by decide +kernel) rfl hk1 hFc hP1 hD1
    generalize H1 = H at hP hS ⊢
    refine lv_aload_n hx hb (qaa qbs 10 rfl) rfl (lv_at hl 0 rfl) ?_
    refine lv_aload_n hx hb (qaa qbs 11 rfl) rfl (lv_at hl 1 rfl) ?_
    refine lv_iload_n hx hb (qaa qbs 12 rfl) rfl (lv_at hl 2 rfl) ?_
    refine lv_iconst (v := 1) hx hb (qaa qbs 13 rfl) (by decide) ?_
    refine lv_iadd hx hb (qaa qbs 14 rfl) ?_
    refine lv_topi (fun x6 ex6 => ?_)
    have hw := hw x6 ex6
    exact False.elim hw
  · have hw := hw.2 c1
    refine lv_aload_n hx hb (qaa qbs 3 rfl) rfl (lv_at hl 1 rfl) ?_
    refine lv_iconst (v := 3) hx hb (qaa qbs 4 rfl) (by decide) ?_
    obtain ⟨hCc, hPc, hDc, hFc⟩ := qac (ws' := (qSy a1 jbF jb5 jhS jeF jcI jcU jbM)) hP hD hS hA [1] (by decide +kernel) rfl
    refine va_callv (va_runV (As := [.int 3]) (rest := []) ⟨hx, hb, hml, hown, hts⟩ (qnW l dC dI cyB cyI cyJ cyP a1 H.size (.ref jbF) (.int jb5) (.int jhS) (jcI) jeF jcU jbM 3 hw) (cwV 1 hts gX4_readPair_X8_blameToken rfl rfl rfl (by decide +kernel) ⟨nbq rfl, nbq rfl⟩) ⟨qab, va_recv (q := (RX8, TX8, 7)) hK hPc (ci := 8) (q0 := 0) rfl rfl, qae hPc hK hDc hNw⟩ rfl rfl hl.1 rfl (lv_room (nbq rfl)) (qaa qbs 5 rfl) ⟨nbq rfl, nbq rfl⟩) hS (fun q _ h => hFc q h) hFc (fun u t H1 locs ht hvm hw hB hz1 hk1 hS => ?_)
    obtain ⟨x7, x8⟩ := u
    obtain ⟨hP1, hK1, hD1⟩ := hB
    rw [ht] at hP1
    obtain ⟨hP, hD⟩ := qad (wr := [(a0, .inr (4, [jni, jn6, jhW, jaE, jjf])), (jbF, .inl (cyB, 600, .inl jcq))]) (w1 := (qSy a1 jbF jb5 jhS jeF jcI x7 x8)) (wn := (qagC a0 jni jn6 jhW jaE jjf a1 jbF jb5 jhS jeF jcI x7 x8 jbF cyB jcq)) hP hD [1] [0, 2] [0, 2, 1] hCc rfl (by decide +kernel) (by decide +kernel) (by decide +kernel) rfl hk1 hFc hP1 hD1
    generalize H1 = H at hP hS ⊢
    exact ((W.vret hx hb hr (fun t ht hW => ⟨⟨(jhS, jeF, x7, x8), rfl, hw, by rw [ht]; exact hP, va_K.moved hW.alike hK, hD⟩, hS.F ht⟩) hS.2.2 (qaa qbs 6 rfl)))
set_option maxHeartbeats 4000000 in
set_option maxRecDepth 100000 in
theorem qO0 (l : Launch) (dC : Nat → ClassId) (dI : Nat → Nat → Nat) (cyB cyI cyJ cyP : ClassId) (a0 a1 jbF jbU jcK sz : Nat) (jhW jaE jcI : Value) (jb5 : Int32) (jcq : NI) (jhS jeF jcU jbM : Int32) (jdC jfY : NI) (jb7 p2 : Int32) {Q : Int32 → Int32 → Int32 → Int32 → NI → NI → Int32 → Prop} (hw : qvN jb5 jcq jhS jeF jcU jbM jdC jfY jb7 p2 Q) : Met l yX4_readUnit wsX4_readUnit ({ frames := 6, cells := 0, slots := 0, locals := 129 }) (va_Pc [.ref a0, .ref a1, .int p2] (cPs (zE) l (dC, dI) (kT cyB cyI cyJ cyP) (qar a0 jbU jcK jhW jaE jb7 a1 jbF jb5 jhS jeF jcI jcU jbM jbF cyB jcq jbU cyI jdC jcK cyI jfY) sz)) (va_Qv (fun (u : Int32 × Int32 × Int32 × Int32 × NI × NI × Int32) => Q u.1 u.2.1 u.2.2.1 u.2.2.2.1 u.2.2.2.2.1 u.2.2.2.2.2.1 u.2.2.2.2.2.2) (cB (dC, dI) (kT cyB cyI cyJ cyP) (va_A (qar a0 jbU jcK jhW jaE jb7 a1 jbF jb5 jhS jeF jcI jcU jbM jbF cyB jcq jbU cyI jdC jcK cyI jfY) sz) (fun u : Int32 × Int32 × Int32 × Int32 × NI × NI × Int32 => ((qar a0 jbU jcK jhW jaE u.2.2.2.2.2.2 a1 jbF jb5 u.1 u.2.1 jcI u.2.2.1 u.2.2.2.1 jbF cyB jcq jbU cyI u.2.2.2.2.1 jcK cyI u.2.2.2.2.2.1) : va_W))) (va_A (qar a0 jbU jcK jhW jaE jb7 a1 jbF jb5 jhS jeF jcI jcU jbM jbF cyB jcq jbU cyI jdC jcK cyI jfY) sz)) 0 0 (va_A (qar a0 jbU jcK jhW jaE jb7 a1 jbF jb5 jhS jeF jcI jcU jbM jbF cyB jcq jbU cyI jdC jcK cyI jfY) sz) := by
  refine Met.ofW (cc := cX4_readUnit) (maxL := 3) (ret := none) (by decide) rfl ?_
  intro p e s m args below meth c s₁ B hml hv
  obtain ⟨rfl, ⟨hsz, hP, hK, hD0, hNw, hXl, hXu, hXn, hXt⟩, hE0⟩ := hv
  have hx := B.exec
  have hb := B.bytes
  have hr := B.returns
  have hts := atoms_spec (ws := wsX4_readUnit) B.pre
  have hown : s.vm.findClass RX4 = some m.cls := findClass_of_methodNamed B.named
  have hlocks := B.notSynchronized
  subst hsz
  have hD := hD0.self (sz := s.heap.size)
  generalize hAe : va_A (qar a0 jbU jcK jhW jaE jb7 a1 jbF jb5 jhS jeF jcI jcU jbM jbF cyB jcq jbU cyI jdC jcK cyI jfY) s.heap.size = A at hD hXu hXn hE0 ⊢
  have hA : ∀ q : Nat, s.heap.size ≤ q → A q := fun q h => by rw [← hAe]; exact Or.inr h
  have hS : va_S A s.heap s.heap [] := va_S.rf
  have hP : va_P (dC, dI) vwCl (qar a0 jbU jcK jhW jaE jb7 a1 jbF jb5 jhS jeF jcI jcU jbM jbF cyB jcq jbU cyI jdC jcK cyI jfY) s.heap := hP
  have hl := lv_entry ([.ref a0, .ref a1, .int p2]) (n := 3) (nbq rfl)
  rw [lg_entry_eq]
  generalize (lg_sl ([.ref a0, .ref a1, .int p2]) ++ List.replicate (3 - (lg_sl ([.ref a0, .ref a1, .int p2])).length) Slot.unset).toArray = ls at hl ⊢
  have hl : lv_has ls 3 [(0, .ref a0), (1, .ref a1), (2, .int p2)] := hl
  have hY : cfY l s A := ⟨hXl, hXu, hXn, hXt⟩
  have C0 : cfx p s m _ meth c cX4_readUnit none wsX4_readUnit RX4 3 A (dC, dI) (kT cyB cyI cyJ cyP) ∧ cfY l s A ∧ zE A s s.heap := ⟨⟨hx, hb, hr, hts, hown, hlocks, hml, hA, hK, hNw⟩, hY, hE0⟩
  have hE := hE0
  clear hAe
  obtain ⟨H, hH⟩ : ∃ H, H = s.heap := ⟨_, rfl⟩
  rw [← hH] at hP ⊢
  have hS : va_S A s.heap H [] := by rw [hH]; exact va_S.rf
  have hS := hS
  refine lv_aload_n hx hb (qaa qbn 0 rfl) rfl (lv_at hl 1 rfl) ?_
  obtain ⟨hCc, hPc, hDc, hFc⟩ := qac (ws' := (qlf a1 jbF jb5 jhS jeF jcI jcU jbM jbF cyB jcq)) hP hD hS hA [1, 2] (by decide +kernel) rfl
  refine va_calli (va_runV (As := []) (rest := []) ⟨hx, hb, hml, hown, hts⟩ (q1E l dC dI cyB cyI cyJ cyP a1 jbF H.size (.int jeF) (jcI) (.int jcU) (.int jbM) jb5 jcq jhS hw) (cwV 0 hts gX4_readUnit_X8_seesDigit rfl rfl rfl (by decide +kernel) ⟨nbq rfl, nbq rfl⟩) ⟨qab, va_recv (q := (RX8, TX8, 7)) hK hPc (ci := 8) (q0 := 0) rfl rfl, qae hPc hK hDc hNw⟩ rfl rfl hl.1 rfl (lv_room (nbq rfl)) (qaa qbn 1 rfl) ⟨nbq rfl, nbq rfl⟩) hS (fun q _ h => hFc q h) hFc (fun r2 u t H1 locs ht hvm hw hB hz1 hk1 hS => ?_)
  obtain ⟨x1, rfl⟩ : ∃ z, z = u := ⟨_, rfl⟩
  obtain ⟨hP1, hK1, hD1⟩ := hB
  rw [ht] at hP1
  obtain ⟨hP, hD⟩ := qad (wr := (qsH a0 jbU jcK jhW jaE jb7 jbU cyI jdC jcK cyI jfY)) (w1 := (qlf a1 jbF jb5 x1 jeF jcI jcU jbM jbF cyB jcq)) (wn := (qar a0 jbU jcK jhW jaE jb7 a1 jbF jb5 x1 jeF jcI jcU jbM jbF cyB jcq jbU cyI jdC jcK cyI jfY)) hP hD [1, 2] [0, 3, 4] [0, 3, 4, 1, 2] hCc rfl (by decide +kernel) (by decide +kernel) (by decide +kernel) rfl hk1 hFc hP1 hD1
  generalize H1 = H at hP hS ⊢
  refine lv_if_eq (tgt := 23) hx hb (qaa qbn 2 rfl) (by decide) (fun c3 => ?_) (fun c3 => ?_)
  · have hw := hw.1 c3
    refine lv_aload_n hx hb (qaa qbn 11 rfl) rfl (lv_at hl 1 rfl) ?_
    refine lv_bipush (v := 40) hx hb (qaa qbn 12 rfl) (by decide) ?_
    obtain ⟨hCc, hPc, hDc, hFc⟩ := qac (ws' := (qlf a1 jbF jb5 x1 jeF jcI jcU jbM jbF cyB jcq)) hP hD hS hA [1, 2] (by decide +kernel) rfl
    refine va_calli (va_runV (As := [.int 40]) (rest := []) ⟨hx, hb, hml, hown, hts⟩ (qsg l dC dI cyB cyI cyJ cyP a1 jbF H.size (jcI) (.int jbM) jb5 jcU jcq x1 jeF 40 hw) (cwV 1 hts gX4_readUnit_X8_takes rfl rfl rfl (by decide +kernel) ⟨nbq rfl, nbq rfl⟩) ⟨qab, va_recv (q := (RX8, TX8, 7)) hK hPc (ci := 8) (q0 := 0) rfl rfl, qae hPc hK hDc hNw⟩ rfl rfl hl.1 rfl (lv_room (nbq rfl)) (qaa qbn 13 rfl) ⟨nbq rfl, nbq rfl⟩) hS (fun q _ h => hFc q h) hFc (fun r6 u t H1 locs ht hvm hw hB hz1 hk1 hS => ?_)
    obtain ⟨x4, x5⟩ := u
    obtain ⟨hP1, hK1, hD1⟩ := hB
    rw [ht] at hP1
    obtain ⟨hP, hD⟩ := qad (wr := (qsH a0 jbU jcK jhW jaE jb7 jbU cyI jdC jcK cyI jfY)) (w1 := (qlf a1 jbF jb5 x4 x5 jcI jcU jbM jbF cyB jcq)) (wn := (qar a0 jbU jcK jhW jaE jb7 a1 jbF jb5 x4 x5 jcI jcU jbM jbF cyB jcq jbU cyI jdC jcK cyI jfY)) hP hD [1, 2] [0, 3, 4] [0, 3, 4, 1, 2] hCc rfl (by decide +kernel) (by decide +kernel) (by decide +kernel) rfl hk1 hFc hP1 hD1
    generalize H1 = H at hP hS ⊢
    refine lv_if_eq (tgt := 41) hx hb (qaa qbn 14 rfl) (by decide) (fun c7 => ?_) (fun c7 => ?_)
    · have hw := hw.1 c7
      refine lv_aload_n hx hb (qaa qbc 4 rfl) rfl (lv_at hl 1 rfl) ?_
      obtain ⟨k8, hRk8, hZk8⟩ := qa1d hE
      refine va_ldcS hx hb hown hRk8 (qaa qbc 5 rfl) ?_
      obtain ⟨hCc, hPc, hDc, hFc⟩ := qac (ws' := (qlf a1 jbF jb5 x4 x5 jcI jcU jbM jbF cyB jcq)) hP hD hS hA [1, 2] (by decide +kernel) rfl
      refine va_calli (va_runV (As := [.ref k8]) (rest := []) ⟨hx, hb, hml, hown, hts⟩ (qb9 l dC dI cyB cyI cyJ cyP a1 k8 jbF H.size (jcI) (.int jbM) 5 qR1 jb5 jcU jcq x4 x5 hw) (cwV 1 hts gX4_readUnit_X8_takesWord rfl rfl rfl (by decide +kernel) ⟨nbq rfl, nbq rfl⟩) ⟨qat qsS, va_recv (q := (RX8, TX8, 7)) hK hPc (ci := 8) (q0 := 0) rfl rfl, qbg qsS hPc hK hDc hNw hY ⟨hE, hZk8⟩ hS hFc⟩ rfl rfl hl.1 rfl (lv_room (nbq rfl)) (qaa qbc 6 rfl) ⟨nbq rfl, nbq rfl⟩) hS (fun q _ h => hFc q h) hFc (fun r11 u t H1 locs ht hvm hw hB hz1 hk1 hS => ?_)
      obtain ⟨x9, x10⟩ := u
      obtain ⟨hP1, hK1, hD1⟩ := hB
      rw [ht] at hP1
      obtain ⟨hP, hD⟩ := qad (wr := (qsH a0 jbU jcK jhW jaE jb7 jbU cyI jdC jcK cyI jfY)) (w1 := (qlf a1 jbF jb5 x9 x10 jcI jcU jbM jbF cyB jcq)) (wn := (qar a0 jbU jcK jhW jaE jb7 a1 jbF jb5 x9 x10 jcI jcU jbM jbF cyB jcq jbU cyI jdC jcK cyI jfY)) hP hD [1, 2] [0, 3, 4] [0, 3, 4, 1, 2] hCc rfl (by decide +kernel) (by decide +kernel) (by decide +kernel) rfl hk1 hFc hP1 hD1
      generalize H1 = H at hP hS ⊢
      refine lv_if_eq (tgt := 61) hx hb (qaa qbc 7 rfl) (by decide) (fun c12 => ?_) (fun c12 => ?_)
      · have hw := hw.1 c12
        refine lv_aload_n hx hb (qaa qbc 14 rfl) rfl (lv_at hl 1 rfl) ?_
        obtain ⟨k13, hRk13, hZk13⟩ := qa0S hE
        refine va_ldcS hx hb hown hRk13 (qaa qbc 15 rfl) ?_
        obtain ⟨hCc, hPc, hDc, hFc⟩ := qac (ws' := (qlf a1 jbF jb5 x9 x10 jcI jcU jbM jbF cyB jcq)) hP hD hS hA [1, 2] (by decide +kernel) rfl
        refine va_calli (va_runV (As := [.ref k13]) (rest := []) ⟨hx, hb, hml, hown, hts⟩ (qb9 l dC dI cyB cyI cyJ cyP a1 k13 jbF H.size (jcI) (.int jbM) 4 qRD jb5 jcU jcq x9 x10 hw) (cwV 1 hts gX4_readUnit_X8_takesWord rfl rfl rfl (by decide +kernel) ⟨nbq rfl, nbq rfl⟩) ⟨qat qsS, va_recv (q := (RX8, TX8, 7)) hK hPc (ci := 8) (q0 := 0) rfl rfl, qbg qsS hPc hK hDc hNw hY ⟨hE, hZk13⟩ hS hFc⟩ rfl rfl hl.1 rfl (lv_room (nbq rfl)) (qaa qbd 0 rfl) ⟨nbq rfl, nbq rfl⟩) hS (fun q _ h => hFc q h) hFc (fun r16 u t H1 locs ht hvm hw hB hz1 hk1 hS => ?_)
        obtain ⟨x14, x15⟩ := u
        obtain ⟨hP1, hK1, hD1⟩ := hB
        rw [ht] at hP1
        obtain ⟨hP, hD⟩ := qad (wr := (qsH a0 jbU jcK jhW jaE jb7 jbU cyI jdC jcK cyI jfY)) (w1 := (qlf a1 jbF jb5 x14 x15 jcI jcU jbM jbF cyB jcq)) (wn := (qar a0 jbU jcK jhW jaE jb7 a1 jbF jb5 x14 x15 jcI jcU jbM jbF cyB jcq jbU cyI jdC jcK cyI jfY)) hP hD [1, 2] [0, 3, 4] [0, 3, 4, 1, 2] hCc rfl (by decide +kernel) (by decide +kernel) (by decide +kernel) rfl hk1 hFc hP1 hD1
        generalize H1 = H at hP hS ⊢
        refine lv_if_eq (tgt := 81) hx hb (qaa qbd 1 rfl) (by decide) (fun c17 => ?_) (fun c17 => ?_)
        · have hw := hw.1 c17
          refine lv_aload_n hx hb (qaa qbd 8 rfl) rfl (lv_at hl 0 rfl) ?_
          refine lv_aload_n hx hb (qaa qbd 9 rfl) rfl (lv_at hl 1 rfl) ?_
          obtain ⟨hCc, hPc, hDc, hFc⟩ := qac (ws' := (qar a0 jbU jcK jhW jaE jb7 a1 jbF jb5 x14 x15 jcI jcU jbM jbF cyB jcq jbU cyI jdC jcK cyI jfY)) hP hD hS hA [0, 1, 2, 3, 4] (by decide +kernel) rfl
          refine va_callv (va_runV (As := [.ref a1]) (rest := []) ⟨hx, hb, hml, hown, hts⟩ (qYL l dC dI cyB cyI cyJ cyP a0 a1 jbF jbU jcK H.size (jhW) (jaE) (jcI) jb5 jcq x14 x15 jcU jbM jdC jfY jb7 hw) (cwV 1 hts gX4_readUnit_X4_readFact rfl rfl rfl (by decide +kernel) ⟨nbq rfl, nbq rfl⟩) ⟨qat qsO, va_recv (q := (RX4, TX4, 5)) hK hPc (ci := 4) (q0 := 0) rfl rfl, qbg qsO hPc hK hDc hNw hY hE hS hFc⟩ rfl rfl hl.1 rfl (lv_room (nbq rfl)) (qaa qbd 10 rfl) ⟨nbq rfl, nbq rfl⟩) hS (fun q _ h => hFc q h) hFc (fun u t H1 locs ht hvm hw hB hz1 hk1 hS => ?_)
          obtain ⟨x18, x19, x20, x21, f22, f23, x24⟩ := u
          obtain ⟨hP1, hK1, hD1⟩ := hB
          rw [ht] at hP1
          obtain ⟨hP, hD⟩ := qah (wr := []) (w1 := (qar a0 jbU jcK jhW jaE x24 a1 jbF jb5 x18 x19 jcI x20 x21 jbF cyB jcq jbU cyI f22 jcK cyI f23)) (wn := (qar a0 jbU jcK jhW jaE x24 a1 jbF jb5 x18 x19 jcI x20 x21 jbF cyB jcq jbU cyI f22 jcK cyI f23)) hP hD [0, 1, 2, 3, 4] [] hCc rfl (by decide +kernel) (by decide +kernel) rfl hk1 hFc hP1 hD1
          generalize H1 = H at hP hS ⊢
          exact ((W.vret hx hb hr (fun t ht hW => ⟨⟨(x18, x19, x20, x21, f22, f23, x24), rfl, hw, by rw [ht]; exact hP, va_K.moved hW.alike hK, hD⟩, hS.F ht⟩) hS.2.2 (qaa qbd 11 rfl)))
        · have hw := hw.2 c17
          refine lv_aload_n hx hb (qaa qbd 2 rfl) rfl (lv_at hl 0 rfl) ?_
          refine lv_aload_n hx hb (qaa qbd 3 rfl) rfl (lv_at hl 1 rfl) ?_
          refine lv_iload_n hx hb (qaa qbd 4 rfl) rfl (lv_at hl 2 rfl) ?_
          refine lv_bipush (v := 8) hx hb (qaa qbd 5 rfl) (by decide) ?_
          obtain ⟨hCc, hPc, hDc, hFc⟩ := qac (ws' := (qa1h a0 jbU jcK jhW jaE jb7 a1 jbF jb5 x14 x15 jcI jcU jbM jbF cyB jcq)) hP hD hS hA [0, 1, 2] (by decide +kernel) rfl
          refine va_callv (va_runV (As := [.ref a1, .int p2, .int 8]) (rest := []) ⟨hx, hb, hml, hown, hts⟩ (qQd l dC dI cyB cyI cyJ cyP a0 a1 jbF H.size (.ref jbU) (.ref jcK) (jhW) (jaE) (.int jb7) (jcI) jb5 jcq x14 x15 jcU jbM p2 8 hw) (cwV 3 hts gX4_readUnit_X4_readPair rfl rfl rfl (by decide +kernel) ⟨nbq rfl, nbq rfl⟩) ⟨qat qsO, va_recv (q := (RX4, TX4, 5)) hK hPc (ci := 4) (q0 := 0) rfl rfl, qbg qsO hPc hK hDc hNw hY hE hS hFc⟩ rfl rfl hl.1 rfl (lv_room (nbq rfl)) (qaa qbd 6 rfl) ⟨nbq rfl, nbq rfl⟩) hS (fun q _ h => hFc q h) hFc (fun u t H1 locs ht hvm hw hB hz1 hk1 hS => ?_)
          obtain ⟨x25, x26, x27, x28⟩ := u
          obtain ⟨hP1, hK1, hD1⟩ := hB
          rw [ht] at hP1
          obtain ⟨hP, hD⟩ := qad (wr := (qbcW jbU cyI jdC jcK cyI jfY)) (w1 := (qa1h a0 jbU jcK jhW jaE jb7 a1 jbF jb5 x25 x26 jcI x27 x28 jbF cyB jcq)) (wn := (qar a0 jbU jcK jhW jaE jb7 a1 jbF jb5 x25 x26 jcI x27 x28 jbF cyB jcq jbU cyI jdC jcK cyI jfY)) hP hD [0, 1, 2] [3, 4] [2, 3, 4, 0, 1] hCc rfl (by decide +kernel) (by decide +kernel) (by decide +kernel) rfl hk1 hFc hP1 hD1
          generalize H1 = H at hP hS ⊢
          refine lv_goto (tgt := 86) hx hb (qaa qbd 7 rfl) (by decide) ?_
          exact ((W.vret hx hb hr (fun t ht hW => ⟨⟨(x25, x26, x27, x28, jdC, jfY, jb7), rfl, hw, by rw [ht]; exact hP, va_K.moved hW.alike hK, hD⟩, hS.F ht⟩) hS.2.2 (qaa qbd 11 rfl)))
      · have hw := hw.2 c12
        refine lv_aload_n hx hb (qaa qbc 8 rfl) rfl (lv_at hl 0 rfl) ?_
        refine lv_aload_n hx hb (qaa qbc 9 rfl) rfl (lv_at hl 1 rfl) ?_
        refine lv_iload_n hx hb (qaa qbc 10 rfl) rfl (lv_at hl 2 rfl) ?_
        refine lv_bipush (v := 7) hx hb (qaa qbc 11 rfl) (by decide) ?_
        obtain ⟨hCc, hPc, hDc, hFc⟩ := qac (ws' := (qa1h a0 jbU jcK jhW jaE jb7 a1 jbF jb5 x9 x10 jcI jcU jbM jbF cyB jcq)) hP hD hS hA [0, 1, 2] (by decide +kernel) rfl
        refine va_callv (va_runV (As := [.ref a1, .int p2, .int 7]) (rest := []) ⟨hx, hb, hml, hown, hts⟩ (qQd l dC dI cyB cyI cyJ cyP a0 a1 jbF H.size (.ref jbU) (.ref jcK) (jhW) (jaE) (.int jb7) (jcI) jb5 jcq x9 x10 jcU jbM p2 7 hw) (cwV 3 hts gX4_readUnit_X4_readPair rfl rfl rfl (by decide +kernel) ⟨nbq rfl, nbq rfl⟩) ⟨qat qsO, va_recv (q := (RX4, TX4, 5)) hK hPc (ci := 4) (q0 := 0) rfl rfl, qbg qsO hPc hK hDc hNw hY hE hS hFc⟩ rfl rfl hl.1 rfl (lv_room (nbq rfl)) (qaa qbc 12 rfl) ⟨nbq rfl, nbq rfl⟩) hS (fun q _ h => hFc q h) hFc (fun u t H1 locs ht hvm hw hB hz1 hk1 hS => ?_)
        obtain ⟨x29, x30, x31, x32⟩ := u
        obtain ⟨hP1, hK1, hD1⟩ := hB
        rw [ht] at hP1
        obtain ⟨hP, hD⟩ := qad (wr := (qbcW jbU cyI jdC jcK cyI jfY)) (w1 := (qa1h a0 jbU jcK jhW jaE jb7 a1 jbF jb5 x29 x30 jcI x31 x32 jbF cyB jcq)) (wn := (qar a0 jbU jcK jhW jaE jb7 a1 jbF jb5 x29 x30 jcI x31 x32 jbF cyB jcq jbU cyI jdC jcK cyI jfY)) hP hD [0, 1, 2] [3, 4] [2, 3, 4, 0, 1] hCc rfl (by decide +kernel) (by decide +kernel) (by decide +kernel) rfl hk1 hFc hP1 hD1
        generalize H1 = H at hP hS ⊢
        refine lv_goto (tgt := 86) hx hb (qaa qbc 13 rfl) (by decide) ?_
        exact ((W.vret hx hb hr (fun t ht hW => ⟨⟨(x29, x30, x31, x32, jdC, jfY, jb7), rfl, hw, by rw [ht]; exact hP, va_K.moved hW.alike hK, hD⟩, hS.F ht⟩) hS.2.2 (qaa qbd 11 rfl)))
    · have hw := hw.2 c7
      refine lv_aload_n hx hb (qaa qbn 15 rfl) rfl (lv_at hl 0 rfl) ?_
      refine lv_aload_n hx hb (qaa qbc 0 rfl) rfl (lv_at hl 1 rfl) ?_
      refine lv_iload_n hx hb (qaa qbc 1 rfl) rfl (lv_at hl 2 rfl) ?_
      obtain ⟨hCc, hPc, hDc, hFc⟩ := qac (ws' := (qa5L a0 jbU jcK jhW jaE jb7 a1 jbF jb5 x4 x5 jcI jcU jbM)) hP hD hS hA [0, 1] (by decide +kernel) rfl
      refine va_callv (va_runV (As := [.ref a1, .int p2]) (rest := []) ⟨hx, hb, hml, hown, hts⟩ (q5A l dC dI cyB cyI cyJ cyP a0 a1 H.size (.ref jbU) (.ref jcK) (jhW) (jaE) (.int jb7) (.ref jbF) (.int jb5) (.int x4) (jcI) x5 jcU jbM p2 hw) (cwV 2 hts gX4_readUnit_X4_readInner rfl rfl rfl (by decide +kernel) ⟨nbq rfl, nbq rfl⟩) ⟨qat qsO, va_recv (q := (RX4, TX4, 5)) hK hPc (ci := 4) (q0 := 0) rfl rfl, qbg qsO hPc hK hDc hNw hY hE hS hFc⟩ rfl rfl hl.1 rfl (lv_room (nbq rfl)) (qaa qbc 2 rfl) ⟨nbq rfl, nbq rfl⟩) hS (fun q _ h => hFc q h) hFc (fun u t H1 locs ht hvm hw hB hz1 hk1 hS => ?_)
      obtain ⟨x33, x34⟩ := u
      obtain ⟨hP1, hK1, hD1⟩ := hB
      rw [ht] at hP1
      obtain ⟨hP, hD⟩ := qad (wr := [(jbF, .inl (cyB, 600, .inl jcq)), (jbU, .inl (cyI, 150, .inl jdC)), (jcK, .inl (cyI, 150, .inl jfY))]) (w1 := (qa5L a0 jbU jcK jhW jaE jb7 a1 jbF jb5 x4 x5 jcI x33 x34)) (wn := (qar a0 jbU jcK jhW jaE jb7 a1 jbF jb5 x4 x5 jcI x33 x34 jbF cyB jcq jbU cyI jdC jcK cyI jfY)) hP hD [0, 1] [2, 3, 4] [3, 4, 0, 1, 2] hCc rfl (by decide +kernel) (by decide +kernel) (by decide +kernel) rfl hk1 hFc hP1 hD1
      generalize H1 = H at hP hS ⊢
      refine lv_goto (tgt := 86) hx hb (qaa qbc 3 rfl) (by decide) ?_
      exact ((W.vret hx hb hr (fun t ht hW => ⟨⟨(x4, x5, x33, x34, jdC, jfY, jb7), rfl, hw, by rw [ht]; exact hP, va_K.moved hW.alike hK, hD⟩, hS.F ht⟩) hS.2.2 (qaa qbd 11 rfl)))
  · have hw := hw.2 c3
    refine lv_aload_n hx hb (qaa qbn 3 rfl) rfl (lv_at hl 0 rfl) ?_
    refine lv_iconst (v := 0) hx hb (qaa qbn 4 rfl) (by decide) ?_
    refine lv_aload_n hx hb (qaa qbn 5 rfl) rfl (lv_at hl 1 rfl) ?_
    refine lv_iconst (v := 0) hx hb (qaa qbn 6 rfl) (by decide) ?_
    refine lv_sipush (v := 999) hx hb (qaa qbn 7 rfl) (by decide) ?_
    obtain ⟨hCc, hPc, hDc, hFc⟩ := qac (ws' := (qlf a1 jbF jb5 x1 jeF jcI jcU jbM jbF cyB jcq)) hP hD hS hA [1, 2] (by decide +kernel) rfl
    refine va_calli (va_runV (As := [.int 0, .int 999]) (rest := [.int 0, .ref a0]) ⟨hx, hb, hml, hown, hts⟩ (qh9 l dC dI cyB cyI cyJ cyP a1 jbF H.size (jcI) jb5 jcq x1 jcU jbM jeF 0 999 hw) (cwV 2 hts gX4_readUnit_X8_number rfl rfl rfl (by decide +kernel) ⟨nbq rfl, nbq rfl⟩) ⟨qab, va_recv (q := (RX8, TX8, 7)) hK hPc (ci := 8) (q0 := 0) rfl rfl, qae hPc hK hDc hNw⟩ rfl rfl hl.1 rfl (lv_room (nbq rfl)) (qaa qbn 8 rfl) ⟨nbq rfl, nbq rfl⟩) hS (fun q _ h => hFc q h) hFc (fun r39 u t H1 locs ht hvm hw hB hz1 hk1 hS => ?_)
    obtain ⟨x35, x36, x37, x38⟩ := u
    obtain ⟨hP1, hK1, hD1⟩ := hB
    rw [ht] at hP1
    obtain ⟨hP, hD⟩ := qad (wr := (qsH a0 jbU jcK jhW jaE jb7 jbU cyI jdC jcK cyI jfY)) (w1 := (qlf a1 jbF jb5 x35 x38 jcI x36 x37 jbF cyB jcq)) (wn := (qar a0 jbU jcK jhW jaE jb7 a1 jbF jb5 x35 x38 jcI x36 x37 jbF cyB jcq jbU cyI jdC jcK cyI jfY)) hP hD [1, 2] [0, 3, 4] [0, 3, 4, 1, 2] hCc rfl (by decide +kernel) (by decide +kernel) (by decide +kernel) rfl hk1 hFc hP1 hD1
    generalize H1 = H at hP hS ⊢
    obtain ⟨hCc, hPc, hDc, hFc⟩ := qac (ws' := (qsH a0 jbU jcK jhW jaE jb7 jbU cyI jdC jcK cyI jfY)) hP hD hS hA [0, 3, 4] (by decide +kernel) rfl
    refine va_callv (va_runV (As := [.int 0, .int r39]) (rest := []) ⟨hx, hb, hml, hown, hts⟩ (qrr l dC dI cyB cyI cyJ cyP a0 jbU jcK H.size (jhW) (jaE) jdC jfY jb7 0 r39 hw) (cwV 2 hts gX4_readUnit_X4_add rfl rfl rfl (by decide +kernel) ⟨nbq rfl, nbq rfl⟩) ⟨qab, va_recv (q := (RX4, TX4, 5)) hK hPc (ci := 4) (q0 := 0) rfl rfl, qae hPc hK hDc hNw⟩ rfl rfl hl.1 rfl (lv_room (nbq rfl)) (qaa qbn 9 rfl) ⟨nbq rfl, nbq rfl⟩) hS (fun q _ h => hFc q h) hFc (fun u t H1 locs ht hvm hw hB hz1 hk1 hS => ?_)
    obtain ⟨f40, f41, x42⟩ := u
    obtain ⟨hP1, hK1, hD1⟩ := hB
    rw [ht] at hP1
    obtain ⟨hP, hD⟩ := qad (wr := (qlf a1 jbF jb5 x35 x38 jcI x36 x37 jbF cyB jcq)) (w1 := (qsH a0 jbU jcK jhW jaE x42 jbU cyI f40 jcK cyI f41)) (wn := (qar a0 jbU jcK jhW jaE x42 a1 jbF jb5 x35 x38 jcI x36 x37 jbF cyB jcq jbU cyI f40 jcK cyI f41)) hP hD [0, 3, 4] [1, 2] [2, 0, 1, 3, 4] hCc rfl (by decide +kernel) (by decide +kernel) (by decide +kernel) rfl hk1 hFc hP1 hD1
    generalize H1 = H at hP hS ⊢
    refine lv_goto (tgt := 86) hx hb (qaa qbn 10 rfl) (by decide) ?_
    exact ((W.vret hx hb hr (fun t ht hW => ⟨⟨(x35, x38, x36, x37, f40, f41, x42), rfl, hw, by rw [ht]; exact hP, va_K.moved hW.alike hK, hD⟩, hS.F ht⟩) hS.2.2 (qaa qbd 11 rfl)))
set_option maxHeartbeats 4000000 in
set_option maxRecDepth 100000 in
theorem qtz {p : Program} {l : Launch} {e : Env} {s : State} {m : MethodId} {args : Array Value} {below : List Frame} {meth : Method} {c : Code} {A : Nat → Prop} (dC : Nat → ClassId) (dI : Nat → Nat → Nat) (cyB cyI cyJ cyP : ClassId) (a0 a1 jbF jbU jcK : Nat) (jhW jaE jcI : Value) (jb5 : Int32) (jcq : NI) (Q : Int32 → Int32 → Int32 → Int32 → NI → NI → Int32 → Prop) (K8 : Int32 → Int32 → Int32 → Int32 → NI → NI → Int32 → Int32 → Int32 → Prop) (hK8 : ∀ (H : Heap) (locs : List Loc) (ls : Array Slot) (jhS jeF jcU jbM : Int32) (jdC jfY : NI) (jb7 l2 l3 : Int32), va_P (dC, dI) vwCl (qar a0 jbU jcK jhW jaE jb7 a1 jbF jb5 jhS jeF jcI jcU jbM jbF cyB jcq jbU cyI jdC jcK cyI jfY) H → va_D A (qar a0 jbU jcK jhW jaE jb7 a1 jbF jb5 jhS jeF jcI jcU jbM jbF cyB jcq jbU cyI jdC jcK cyI jfY) → va_S A s.heap H locs → lv_has ls 5 [(0, .ref a0), (1, .ref a1), (2, .int l2), (3, .int l3)] → K8 jhS jeF jcU jbM jdC jfY jb7 l2 l3 → W p l e (headSpec wsX4_readProduct ({ frames := 7, cells := 0, slots := 0, locals := 151 })).room s m args below meth c H locs 0 0 (MQ below (va_Qv (fun (u : Int32 × Int32 × Int32 × Int32 × NI × NI × Int32) => Q u.1 u.2.1 u.2.2.1 u.2.2.2.1 u.2.2.2.2.1 u.2.2.2.2.2.1 u.2.2.2.2.2.2) (cB (dC, dI) (kT cyB cyI cyJ cyP) A (fun u : Int32 × Int32 × Int32 × Int32 × NI × NI × Int32 => ((qar a0 jbU jcK jhW jaE u.2.2.2.2.2.2 a1 jbF jb5 u.1 u.2.1 jcI u.2.2.1 u.2.2.2.1 jbF cyB jcq jbU cyI u.2.2.2.2.1 jcK cyI u.2.2.2.2.2.1) : va_W))) A) args s 0 0 A) (F0 m 8 ls [])) (C0 : cfx p s m args meth c cX4_readProduct none wsX4_readProduct RX4 5 A (dC, dI) (kT cyB cyI cyJ cyP) ∧ cfY l s A ∧ zE A s s.heap) : ∀ (H : Heap) (locs : List Loc) (ls : Array Slot) (jhS jeF jcU jbM : Int32) (jdC jfY : NI) (jb7 l2 l3 s0 : Int32), va_P (dC, dI) vwCl (qar a0 jbU jcK jhW jaE jb7 a1 jbF jb5 jhS jeF jcI jcU jbM jbF cyB jcq jbU cyI jdC jcK cyI jfY) H → va_D A (qar a0 jbU jcK jhW jaE jb7 a1 jbF jb5 jhS jeF jcI jcU jbM jbF cyB jcq jbU cyI jdC jcK cyI jfY) → va_S A s.heap H locs → lv_has ls 5 [(0, .ref a0), (1, .ref a1), (2, .int l2), (3, .int l3)] → qoe jb5 jcq Q K8 jhS jeF jcU jbM jdC jfY jb7 l2 l3 s0 → W p l e (headSpec wsX4_readProduct ({ frames := 7, cells := 0, slots := 0, locals := 151 })).room s m args below meth c H locs 0 0 (MQ below (va_Qv (fun (u : Int32 × Int32 × Int32 × Int32 × NI × NI × Int32) => Q u.1 u.2.1 u.2.2.1 u.2.2.2.1 u.2.2.2.2.1 u.2.2.2.2.2.1 u.2.2.2.2.2.2) (cB (dC, dI) (kT cyB cyI cyJ cyP) A (fun u : Int32 × Int32 × Int32 × Int32 × NI × NI × Int32 => ((qar a0 jbU jcK jhW jaE u.2.2.2.2.2.2 a1 jbF jb5 u.1 u.2.1 jcI u.2.2.1 u.2.2.2.1 jbF cyB jcq jbU cyI u.2.2.2.2.1 jcK cyI u.2.2.2.2.2.1) : va_W))) A) args s 0 0 A) (F0 m 63 ls [.int s0]) := by
  obtain ⟨⟨hx, hb, hr, hts, hown, hlocks, hml, hA, hK, hNw⟩, hY, hE0⟩ := id C0
  have hE := hE0
  intro H locs ls jhS jeF jcU jbM jdC jfY jb7 l2 l3 s0 hP hD hS hl hw
  refine lv_istore (lv' := [(4, .int s0), (0, .ref a0), (1, .ref a1), (2, .int l2), (3, .int l3)]) hx hb (qaa qaF 15 rfl) hl (by decide) rfl (fun ls hl => ?_)
  refine lv_iload hx hb (qaa qaE 0 rfl) (lv_at hl 0 rfl) ?_
  refine lv_iconst (v := (-1)) hx hb (qaa qaE 1 rfl) (by decide) ?_
  refine lv_icmp_ne (tgt := 72) hx hb (qaa qaE 2 rfl) (by decide) (fun c23 => ?_) (fun c23 => ?_)
  · have hw := hw.1 c23
    refine lv_aload_n hx hb (qaa qaE 4 rfl) rfl (lv_at hl 1 rfl) ?_
    refine lv_aload_n hx hb (qaa qaE 5 rfl) rfl (lv_at hl 2 rfl) ?_
    refine lv_iload_n hx hb (qaa qaE 6 rfl) rfl (lv_at hl 3 rfl) ?_
    obtain ⟨hCc, hPc, hDc, hFc⟩ := qac (ws' := (qar a0 jbU jcK jhW jaE jb7 a1 jbF jb5 jhS jeF jcI jcU jbM jbF cyB jcq jbU cyI jdC jcK cyI jfY)) hP hD hS hA [0, 1, 2, 3, 4] (by decide +kernel) rfl
    refine va_callv (va_runV (As := [.ref a1, .int l2]) (rest := []) ⟨hx, hb, hml, hown, hts⟩ (qO0 l dC dI cyB cyI cyJ cyP a0 a1 jbF jbU jcK H.size (jhW) (jaE) (jcI) jb5 jcq jhS jeF jcU jbM jdC jfY jb7 l2 hw) (cwV 2 hts gX4_readProduct_X4_readUnit rfl rfl rfl (by decide +kernel) ⟨nbq rfl, nbq rfl⟩) ⟨qat qsO, va_recv (q := (RX4, TX4, 5)) hK hPc (ci := 4) (q0 := 0) rfl rfl, qbg qsO hPc hK hDc hNw hY hE hS hFc⟩ rfl rfl hl.1 rfl (lv_room (nbq rfl)) (qaa qaE 7 rfl) ⟨nbq rfl, nbq rfl⟩) hS (fun q _ h => hFc q h) hFc (fun u t H1 locs ht hvm hw hB hz1 hk1 hS => ?_)
    obtain ⟨x24, x25, x26, x27, f28, f29, x30⟩ := u
    obtain ⟨hP1, hK1, hD1⟩ := hB
    rw [ht] at hP1
    obtain ⟨hP, hD⟩ := qah (wr := []) (w1 := (qar a0 jbU jcK jhW jaE x30 a1 jbF jb5 x24 x25 jcI x26 x27 jbF cyB jcq jbU cyI f28 jcK cyI f29)) (wn := (qar a0 jbU jcK jhW jaE x30 a1 jbF jb5 x24 x25 jcI x26 x27 jbF cyB jcq jbU cyI f28 jcK cyI f29)) hP hD [0, 1, 2, 3, 4] [] hCc rfl (by decide +kernel) (by decide +kernel) rfl hk1 hFc hP1 hD1
    generalize H1 = H at hP hS ⊢
    refine lv_aload_n hx hb (qaa qaE 8 rfl) rfl (lv_at hl 1 rfl) ?_
    refine lv_iload hx hb (qaa qaE 9 rfl) (lv_at hl 0 rfl) ?_
    refine lv_iconst (v := 0) hx hb (qaa qaE 10 rfl) (by decide) ?_
    obtain ⟨hCc, hPc, hDc, hFc⟩ := qac (ws' := (qsH a0 jbU jcK jhW jaE x30 jbU cyI f28 jcK cyI f29)) hP hD hS hA [0, 3, 4] (by decide +kernel) rfl
    refine va_callv (va_runV (As := [.int s0, .int 0]) (rest := []) ⟨hx, hb, hml, hown, hts⟩ (qrr l dC dI cyB cyI cyJ cyP a0 jbU jcK H.size (jhW) (jaE) f28 f29 x30 s0 0 hw) (cwV 2 hts gX4_readProduct_X4_add rfl rfl rfl (by decide +kernel) ⟨nbq rfl, nbq rfl⟩) ⟨qab, va_recv (q := (RX4, TX4, 5)) hK hPc (ci := 4) (q0 := 0) rfl rfl, qae hPc hK hDc hNw⟩ rfl rfl hl.1 rfl (lv_room (nbq rfl)) (qaa qaE 11 rfl) ⟨nbq rfl, nbq rfl⟩) hS (fun q _ h => hFc q h) hFc (fun u t H1 locs ht hvm hw hB hz1 hk1 hS => ?_)
    obtain ⟨f31, f32, x33⟩ := u
    obtain ⟨hP1, hK1, hD1⟩ := hB
    rw [ht] at hP1
    obtain ⟨hP, hD⟩ := qad (wr := (qlf a1 jbF jb5 x24 x25 jcI x26 x27 jbF cyB jcq)) (w1 := (qsH a0 jbU jcK jhW jaE x33 jbU cyI f31 jcK cyI f32)) (wn := (qar a0 jbU jcK jhW jaE x33 a1 jbF jb5 x24 x25 jcI x26 x27 jbF cyB jcq jbU cyI f31 jcK cyI f32)) hP hD [0, 3, 4] [1, 2] [2, 0, 1, 3, 4] hCc rfl (by decide +kernel) (by decide +kernel) (by decide +kernel) rfl hk1 hFc hP1 hD1
    generalize H1 = H at hP hS ⊢
    obtain ⟨x34, ex34⟩ : ∃ y : Int32, y = l3 + 1 := ⟨_, rfl⟩
    have hw := hw x34 ex34
    refine lv_iinc (v := x34) (lv' := [(3, .int x34), (4, .int s0), (0, .ref a0), (1, .ref a1), (2, .int l2)]) hx hb (qaa qaE 12 rfl) hl (k := 4) rfl (by rw [ex34]; rfl) (by decide) rfl (fun ls hl => ?_)
    refine lv_goto (tgt := 8) hx hb (qaa qaE 13 rfl) (by decide) ?_
    exact hK8 _ _ _ x24 x25 x26 x27 f31 f32 x33 l2 x34 hP hD hS (lv_sub hl [2, 3, 4, 0] rfl) hw
  · have hw := hw.2 c23
    exact ((W.vret hx hb hr (fun t ht hW => ⟨⟨(jhS, jeF, jcU, jbM, jdC, jfY, jb7), rfl, hw, by rw [ht]; exact hP, va_K.moved hW.alike hK, hD⟩, hS.F ht⟩) hS.2.2 (qaa qaE 3 rfl)))
set_option maxHeartbeats 4000000 in
set_option maxRecDepth 100000 in
theorem qUP {p : Program} {l : Launch} {e : Env} {s : State} {m : MethodId} {args : Array Value} {below : List Frame} {meth : Method} {c : Code} {A : Nat → Prop} (dC : Nat → ClassId) (dI : Nat → Nat → Nat) (cyB cyI cyJ cyP : ClassId) (a0 a1 jbF jbU jcK : Nat) (jhW jaE jcI : Value) (jb5 : Int32) (jcq : NI) (Q : Int32 → Int32 → Int32 → Int32 → NI → NI → Int32 → Prop) (C0 : cfx p s m args meth c cX4_readProduct none wsX4_readProduct RX4 5 A (dC, dI) (kT cyB cyI cyJ cyP) ∧ cfY l s A ∧ zE A s s.heap) : ∀ (n : Nat) (H : Heap) (locs : List Loc) (ls : Array Slot) (jhS jeF jcU jbM : Int32) (jdC jfY : NI) (jb7 l2 l3 : Int32), va_P (dC, dI) vwCl (qar a0 jbU jcK jhW jaE jb7 a1 jbF jb5 jhS jeF jcI jcU jbM jbF cyB jcq jbU cyI jdC jcK cyI jfY) H → va_D A (qar a0 jbU jcK jhW jaE jb7 a1 jbF jb5 jhS jeF jcI jcU jbM jbF cyB jcq jbU cyI jdC jcK cyI jfY) → va_S A s.heap H locs → lv_has ls 5 [(0, .ref a0), (1, .ref a1), (2, .int l2), (3, .int l3)] → qcG jb5 jcq Q n jhS jeF jcU jbM jdC jfY jb7 l2 l3 → W p l e (headSpec wsX4_readProduct ({ frames := 7, cells := 0, slots := 0, locals := 151 })).room s m args below meth c H locs 0 0 (MQ below (va_Qv (fun (u : Int32 × Int32 × Int32 × Int32 × NI × NI × Int32) => Q u.1 u.2.1 u.2.2.1 u.2.2.2.1 u.2.2.2.2.1 u.2.2.2.2.2.1 u.2.2.2.2.2.2) (cB (dC, dI) (kT cyB cyI cyJ cyP) A (fun u : Int32 × Int32 × Int32 × Int32 × NI × NI × Int32 => ((qar a0 jbU jcK jhW jaE u.2.2.2.2.2.2 a1 jbF jb5 u.1 u.2.1 jcI u.2.2.1 u.2.2.2.1 jbF cyB jcq jbU cyI u.2.2.2.2.1 jcK cyI u.2.2.2.2.2.1) : va_W))) A) args s 0 0 A) (F0 m 8 ls []) := by
  obtain ⟨⟨hx, hb, hr, hts, hown, hlocks, hml, hA, hK, hNw⟩, hY, hE0⟩ := id C0
  have hE := hE0
  intro n
  induction n with
  | zero => intro H locs ls jhS jeF jcU jbM jdC jfY jb7 l2 l3 hP hD hS hl hw; exact False.elim hw
  | succ n ih =>
    intro H locs ls jhS jeF jcU jbM jdC jfY jb7 l2 l3 hP hD hS hl hw
    refine lv_iload_n hx hb (qaa qaQ 6 rfl) rfl (lv_at hl 3 rfl) ?_
    refine lv_sipush (v := 150) hx hb (qaa qaQ 7 rfl) (by decide) ?_
    refine lv_icmp_ge (tgt := 91) hx hb (qaa qaQ 8 rfl) (by decide) (fun c8 => ?_) (fun c8 => ?_)
    · have hw := hw.1 c8
      exact ((W.vret hx hb hr (fun t ht hW => ⟨⟨(jhS, jeF, jcU, jbM, jdC, jfY, jb7), rfl, hw, by rw [ht]; exact hP, va_K.moved hW.alike hK, hD⟩, hS.F ht⟩) hS.2.2 (qaa qaE 14 rfl)))
    · have hw := hw.2 c8
      refine lv_aload_n hx hb (qaa qaQ 9 rfl) rfl (lv_at hl 1 rfl) ?_
      obtain ⟨hCc, hPc, hDc, hFc⟩ := qac (ws' := (qSy a1 jbF jb5 jhS jeF jcI jcU jbM)) hP hD hS hA [1] (by decide +kernel) rfl
      refine va_calli (va_runV (As := []) (rest := []) ⟨hx, hb, hml, hown, hts⟩ (qkj l dC dI cyB cyI cyJ cyP a1 H.size (.ref jbF) (.int jb5) (.int jhS) (.int jeF) (jcI) (.int jbM) jcU hw) (cwV 0 hts gX4_readProduct_X8_isFaulty rfl rfl rfl (by decide +kernel) ⟨nbq rfl, nbq rfl⟩) ⟨qab, va_recv (q := (RX8, TX8, 7)) hK hPc (ci := 8) (q0 := 0) rfl rfl, qae hPc hK hDc hNw⟩ rfl rfl hl.1 rfl (lv_room (nbq rfl)) (qaa qaQ 10 rfl) ⟨nbq rfl, nbq rfl⟩) hS (fun q _ h => hFc q h) hFc (fun r9 u t H1 locs ht hvm hw hB hz1 hk1 hS => ?_)
      obtain ⟨hP1, hK1, hD1⟩ := hB
      rw [ht] at hP1
      obtain ⟨hP, hD⟩ := qad (wr := (qalF a0 jbU jcK jhW jaE jb7 jbF cyB jcq jbU cyI jdC jcK cyI jfY)) (w1 := (qSy a1 jbF jb5 jhS jeF jcI jcU jbM)) (wn := (qar a0 jbU jcK jhW jaE jb7 a1 jbF jb5 jhS jeF jcI jcU jbM jbF cyB jcq jbU cyI jdC jcK cyI jfY)) hP hD [1] [0, 2, 3, 4] [0, 4, 1, 2, 3] hCc rfl (by decide +kernel) (by decide +kernel) (by decide +kernel) rfl hk1 hFc hP1 hD1
      generalize H1 = H at hP hS ⊢
      refine lv_if_ne (tgt := 91) hx hb (qaa qaQ 11 rfl) (by decide) (fun c10 => ?_) (fun c10 => ?_)
      · have hw := hw.1 c10
        exact ((W.vret hx hb hr (fun t ht hW => ⟨⟨(jhS, jeF, jcU, jbM, jdC, jfY, jb7), rfl, hw, by rw [ht]; exact hP, va_K.moved hW.alike hK, hD⟩, hS.F ht⟩) hS.2.2 (qaa qaE 14 rfl)))
      · have hw := hw.2 c10
        refine lv_aload_n hx hb (qaa qaQ 12 rfl) rfl (lv_at hl 1 rfl) ?_
        refine lv_bipush (v := 42) hx hb (qaa qaQ 13 rfl) (by decide) ?_
        obtain ⟨hCc, hPc, hDc, hFc⟩ := qac (ws' := (qlf a1 jbF jb5 jhS jeF jcI jcU jbM jbF cyB jcq)) hP hD hS hA [1, 2] (by decide +kernel) rfl
        refine va_calli (va_runV (As := [.int 42]) (rest := []) ⟨hx, hb, hml, hown, hts⟩ (qsg l dC dI cyB cyI cyJ cyP a1 jbF H.size (jcI) (.int jbM) jb5 jcU jcq jhS jeF 42 hw) (cwV 1 hts gX4_readProduct_X8_takes rfl rfl rfl (by decide +kernel) ⟨nbq rfl, nbq rfl⟩) ⟨qab, va_recv (q := (RX8, TX8, 7)) hK hPc (ci := 8) (q0 := 0) rfl rfl, qae hPc hK hDc hNw⟩ rfl rfl hl.1 rfl (lv_room (nbq rfl)) (qaa qaQ 14 rfl) ⟨nbq rfl, nbq rfl⟩) hS (fun q _ h => hFc q h) hFc (fun r13 u t H1 locs ht hvm hw hB hz1 hk1 hS => ?_)
        obtain ⟨x11, x12⟩ := u
        obtain ⟨hP1, hK1, hD1⟩ := hB
        rw [ht] at hP1
        obtain ⟨hP, hD⟩ := qad (wr := (qsH a0 jbU jcK jhW jaE jb7 jbU cyI jdC jcK cyI jfY)) (w1 := (qlf a1 jbF jb5 x11 x12 jcI jcU jbM jbF cyB jcq)) (wn := (qar a0 jbU jcK jhW jaE jb7 a1 jbF jb5 x11 x12 jcI jcU jbM jbF cyB jcq jbU cyI jdC jcK cyI jfY)) hP hD [1, 2] [0, 3, 4] [0, 3, 4, 1, 2] hCc rfl (by decide +kernel) (by decide +kernel) (by decide +kernel) rfl hk1 hFc hP1 hD1
        generalize H1 = H at hP hS ⊢
        refine lv_if_eq (tgt := 35) hx hb (qaa qaQ 15 rfl) (by decide) (fun c14 => ?_) (fun c14 => ?_)
        · have hw := hw.1 c14
          refine lv_aload_n hx hb (qaa qaF 2 rfl) rfl (lv_at hl 1 rfl) ?_
          refine lv_bipush (v := 47) hx hb (qaa qaF 3 rfl) (by decide) ?_
          obtain ⟨hCc, hPc, hDc, hFc⟩ := qac (ws' := (qlf a1 jbF jb5 x11 x12 jcI jcU jbM jbF cyB jcq)) hP hD hS hA [1, 2] (by decide +kernel) rfl
          refine va_calli (va_runV (As := [.int 47]) (rest := []) ⟨hx, hb, hml, hown, hts⟩ (qsg l dC dI cyB cyI cyJ cyP a1 jbF H.size (jcI) (.int jbM) jb5 jcU jcq x11 x12 47 hw) (cwV 1 hts gX4_readProduct_X8_takes rfl rfl rfl (by decide +kernel) ⟨nbq rfl, nbq rfl⟩) ⟨qab, va_recv (q := (RX8, TX8, 7)) hK hPc (ci := 8) (q0 := 0) rfl rfl, qae hPc hK hDc hNw⟩ rfl rfl hl.1 rfl (lv_room (nbq rfl)) (qaa qaF 4 rfl) ⟨nbq rfl, nbq rfl⟩) hS (fun q _ h => hFc q h) hFc (fun r17 u t H1 locs ht hvm hw hB hz1 hk1 hS => ?_)
          obtain ⟨x15, x16⟩ := u
          obtain ⟨hP1, hK1, hD1⟩ := hB
          rw [ht] at hP1
          obtain ⟨hP, hD⟩ := qad (wr := (qsH a0 jbU jcK jhW jaE jb7 jbU cyI jdC jcK cyI jfY)) (w1 := (qlf a1 jbF jb5 x15 x16 jcI jcU jbM jbF cyB jcq)) (wn := (qar a0 jbU jcK jhW jaE jb7 a1 jbF jb5 x15 x16 jcI jcU jbM jbF cyB jcq jbU cyI jdC jcK cyI jfY)) hP hD [1, 2] [0, 3, 4] [0, 3, 4, 1, 2] hCc rfl (by decide +kernel) (by decide +kernel) (by decide +kernel) rfl hk1 hFc hP1 hD1
          generalize H1 = H at hP hS ⊢
          refine lv_if_eq (tgt := 48) hx hb (qaa qaF 5 rfl) (by decide) (fun c18 => ?_) (fun c18 => ?_)
          · have hw := hw.1 c18
            refine lv_aload_n hx hb (qaa qaF 8 rfl) rfl (lv_at hl 1 rfl) ?_
            refine lv_bipush (v := 37) hx hb (qaa qaF 9 rfl) (by decide) ?_
            obtain ⟨hCc, hPc, hDc, hFc⟩ := qac (ws' := (qlf a1 jbF jb5 x15 x16 jcI jcU jbM jbF cyB jcq)) hP hD hS hA [1, 2] (by decide +kernel) rfl
            refine va_calli (va_runV (As := [.int 37]) (rest := []) ⟨hx, hb, hml, hown, hts⟩ (qsg l dC dI cyB cyI cyJ cyP a1 jbF H.size (jcI) (.int jbM) jb5 jcU jcq x15 x16 37 hw) (cwV 1 hts gX4_readProduct_X8_takes rfl rfl rfl (by decide +kernel) ⟨nbq rfl, nbq rfl⟩) ⟨qab, va_recv (q := (RX8, TX8, 7)) hK hPc (ci := 8) (q0 := 0) rfl rfl, qae hPc hK hDc hNw⟩ rfl rfl hl.1 rfl (lv_room (nbq rfl)) (qaa qaF 10 rfl) ⟨nbq rfl, nbq rfl⟩) hS (fun q _ h => hFc q h) hFc (fun r21 u t H1 locs ht hvm hw hB hz1 hk1 hS => ?_)
            obtain ⟨x19, x20⟩ := u
            obtain ⟨hP1, hK1, hD1⟩ := hB
            rw [ht] at hP1
            obtain ⟨hP, hD⟩ := qad (wr := (qsH a0 jbU jcK jhW jaE jb7 jbU cyI jdC jcK cyI jfY)) (w1 := (qlf a1 jbF jb5 x19 x20 jcI jcU jbM jbF cyB jcq)) (wn := (qar a0 jbU jcK jhW jaE jb7 a1 jbF jb5 x19 x20 jcI jcU jbM jbF cyB jcq jbU cyI jdC jcK cyI jfY)) hP hD [1, 2] [0, 3, 4] [0, 3, 4, 1, 2] hCc rfl (by decide +kernel) (by decide +kernel) (by decide +kernel) rfl hk1 hFc hP1 hD1
            generalize H1 = H at hP hS ⊢
            refine lv_if_eq (tgt := 62) hx hb (qaa qaF 11 rfl) (by decide) (fun c22 => ?_) (fun c22 => ?_)
            · have hw := hw.1 c22
              refine lv_iconst (v := (-1)) hx hb (qaa qaF 14 rfl) (by decide) ?_
              exact qtz dC dI cyB cyI cyJ cyP a0 a1 jbF jbU jcK jhW jaE jcI jb5 jcq Q (qcG jb5 jcq Q n) ih C0 _ _ _ x19 x20 jcU jbM jdC jfY jb7 l2 l3 (-1) hP hD hS (lv_sub hl [0, 1, 2, 3] rfl) hw
            · have hw := hw.2 c22
              refine lv_bipush (v := 6) hx hb (qaa qaF 12 rfl) (by decide) ?_
              refine lv_goto (tgt := 63) hx hb (qaa qaF 13 rfl) (by decide) ?_
              exact qtz dC dI cyB cyI cyJ cyP a0 a1 jbF jbU jcK jhW jaE jcI jb5 jcq Q (qcG jb5 jcq Q n) ih C0 _ _ _ x19 x20 jcU jbM jdC jfY jb7 l2 l3 6 hP hD hS (lv_sub hl [0, 1, 2, 3] rfl) hw
          · have hw := hw.2 c18
            refine lv_iconst (v := 5) hx hb (qaa qaF 6 rfl) (by decide) ?_
            refine lv_goto (tgt := 63) hx hb (qaa qaF 7 rfl) (by decide) ?_
            exact qtz dC dI cyB cyI cyJ cyP a0 a1 jbF jbU jcK jhW jaE jcI jb5 jcq Q (qcG jb5 jcq Q n) ih C0 _ _ _ x15 x16 jcU jbM jdC jfY jb7 l2 l3 5 hP hD hS (lv_sub hl [0, 1, 2, 3] rfl) hw
        · have hw := hw.2 c14
          refine lv_iconst (v := 4) hx hb (qaa qaF 0 rfl) (by decide) ?_
          refine lv_goto (tgt := 63) hx hb (qaa qaF 1 rfl) (by decide) ?_
          exact qtz dC dI cyB cyI cyJ cyP a0 a1 jbF jbU jcK jhW jaE jcI jb5 jcq Q (qcG jb5 jcq Q n) ih C0 _ _ _ x11 x12 jcU jbM jdC jfY jb7 l2 l3 4 hP hD hS (lv_sub hl [0, 1, 2, 3] rfl) hw
set_option maxHeartbeats 4000000 in
set_option maxRecDepth 100000 in
theorem qJl (l : Launch) (dC : Nat → ClassId) (dI : Nat → Nat → Nat) (cyB cyI cyJ cyP : ClassId) (a0 a1 jbF jbU jcK sz : Nat) (jhW jaE jcI : Value) (jb5 : Int32) (jcq : NI) (jhS jeF jcU jbM : Int32) (jdC jfY : NI) (jb7 p2 : Int32) {Q : Int32 → Int32 → Int32 → Int32 → NI → NI → Int32 → Prop} (hw : qsU jb5 jcq jhS jeF jcU jbM jdC jfY jb7 p2 Q) : Met l yX4_readProduct wsX4_readProduct ({ frames := 7, cells := 0, slots := 0, locals := 151 }) (va_Pc [.ref a0, .ref a1, .int p2] (cPs (zE) l (dC, dI) (kT cyB cyI cyJ cyP) (qar a0 jbU jcK jhW jaE jb7 a1 jbF jb5 jhS jeF jcI jcU jbM jbF cyB jcq jbU cyI jdC jcK cyI jfY) sz)) (va_Qv (fun (u : Int32 × Int32 × Int32 × Int32 × NI × NI × Int32) => Q u.1 u.2.1 u.2.2.1 u.2.2.2.1 u.2.2.2.2.1 u.2.2.2.2.2.1 u.2.2.2.2.2.2) (cB (dC, dI) (kT cyB cyI cyJ cyP) (va_A (qar a0 jbU jcK jhW jaE jb7 a1 jbF jb5 jhS jeF jcI jcU jbM jbF cyB jcq jbU cyI jdC jcK cyI jfY) sz) (fun u : Int32 × Int32 × Int32 × Int32 × NI × NI × Int32 => ((qar a0 jbU jcK jhW jaE u.2.2.2.2.2.2 a1 jbF jb5 u.1 u.2.1 jcI u.2.2.1 u.2.2.2.1 jbF cyB jcq jbU cyI u.2.2.2.2.1 jcK cyI u.2.2.2.2.2.1) : va_W))) (va_A (qar a0 jbU jcK jhW jaE jb7 a1 jbF jb5 jhS jeF jcI jcU jbM jbF cyB jcq jbU cyI jdC jcK cyI jfY) sz)) 0 0 (va_A (qar a0 jbU jcK jhW jaE jb7 a1 jbF jb5 jhS jeF jcI jcU jbM jbF cyB jcq jbU cyI jdC jcK cyI jfY) sz) := by
  refine Met.ofW (cc := cX4_readProduct) (maxL := 5) (ret := none) (by decide) rfl ?_
  intro p e s m args below meth c s₁ B hml hv
  obtain ⟨rfl, ⟨hsz, hP, hK, hD0, hNw, hXl, hXu, hXn, hXt⟩, hE0⟩ := hv
  have hx := B.exec
  have hb := B.bytes
  have hr := B.returns
  have hts := atoms_spec (ws := wsX4_readProduct) B.pre
  have hown : s.vm.findClass RX4 = some m.cls := findClass_of_methodNamed B.named
  have hlocks := B.notSynchronized
  subst hsz
  have hD := hD0.self (sz := s.heap.size)
  generalize hAe : va_A (qar a0 jbU jcK jhW jaE jb7 a1 jbF jb5 jhS jeF jcI jcU jbM jbF cyB jcq jbU cyI jdC jcK cyI jfY) s.heap.size = A at hD hXu hXn hE0 ⊢
  have hA : ∀ q : Nat, s.heap.size ≤ q → A q := fun q h => by rw [← hAe]; exact Or.inr h
  have hS : va_S A s.heap s.heap [] := va_S.rf
  have hP : va_P (dC, dI) vwCl (qar a0 jbU jcK jhW jaE jb7 a1 jbF jb5 jhS jeF jcI jcU jbM jbF cyB jcq jbU cyI jdC jcK cyI jfY) s.heap := hP
  have hl := lv_entry ([.ref a0, .ref a1, .int p2]) (n := 5) (nbq rfl)
  rw [lg_entry_eq]
  generalize (lg_sl ([.ref a0, .ref a1, .int p2]) ++ List.replicate (5 - (lg_sl ([.ref a0, .ref a1, .int p2])).length) Slot.unset).toArray = ls at hl ⊢
  have hl : lv_has ls 5 [(0, .ref a0), (1, .ref a1), (2, .int p2)] := hl
  have hY : cfY l s A := ⟨hXl, hXu, hXn, hXt⟩
  have C0 : cfx p s m _ meth c cX4_readProduct none wsX4_readProduct RX4 5 A (dC, dI) (kT cyB cyI cyJ cyP) ∧ cfY l s A ∧ zE A s s.heap := ⟨⟨hx, hb, hr, hts, hown, hlocks, hml, hA, hK, hNw⟩, hY, hE0⟩
  have hE := hE0
  clear hAe
  obtain ⟨H, hH⟩ : ∃ H, H = s.heap := ⟨_, rfl⟩
  rw [← hH] at hP ⊢
  have hS : va_S A s.heap H [] := by rw [hH]; exact va_S.rf
  have hS := hS
  refine lv_aload_n hx hb (qaa qaQ 0 rfl) rfl (lv_at hl 0 rfl) ?_
  refine lv_aload_n hx hb (qaa qaQ 1 rfl) rfl (lv_at hl 1 rfl) ?_
  refine lv_iload_n hx hb (qaa qaQ 2 rfl) rfl (lv_at hl 2 rfl) ?_
  obtain ⟨hCc, hPc, hDc, hFc⟩ := qac (ws' := (qar a0 jbU jcK jhW jaE jb7 a1 jbF jb5 jhS jeF jcI jcU jbM jbF cyB jcq jbU cyI jdC jcK cyI jfY)) hP hD hS hA [0, 1, 2, 3, 4] (by decide +kernel) rfl
  refine va_callv (va_runV (As := [.ref a1, .int p2]) (rest := []) ⟨hx, hb, hml, hown, hts⟩ (qO0 l dC dI cyB cyI cyJ cyP a0 a1 jbF jbU jcK H.size (jhW) (jaE) (jcI) jb5 jcq jhS jeF jcU jbM jdC jfY jb7 p2 hw) (cwV 2 hts gX4_readProduct_X4_readUnit rfl rfl rfl (by decide +kernel) ⟨nbq rfl, nbq rfl⟩) ⟨qat qsO, va_recv (q := (RX4, TX4, 5)) hK hPc (ci := 4) (q0 := 0) rfl rfl, qbg qsO hPc hK hDc hNw hY hE hS hFc⟩ rfl rfl hl.1 rfl (lv_room (nbq rfl)) (qaa qaQ 3 rfl) ⟨nbq rfl, nbq rfl⟩) hS (fun q _ h => hFc q h) hFc (fun u t H1 locs ht hvm hw hB hz1 hk1 hS => ?_)
  obtain ⟨x1, x2, x3, x4, f5, f6, x7⟩ := u
  obtain ⟨hP1, hK1, hD1⟩ := hB
  rw [ht] at hP1
  obtain ⟨hP, hD⟩ := qah (wr := []) (w1 := (qar a0 jbU jcK jhW jaE x7 a1 jbF jb5 x1 x2 jcI x3 x4 jbF cyB jcq jbU cyI f5 jcK cyI f6)) (wn := (qar a0 jbU jcK jhW jaE x7 a1 jbF jb5 x1 x2 jcI x3 x4 jbF cyB jcq jbU cyI f5 jcK cyI f6)) hP hD [0, 1, 2, 3, 4] [] hCc rfl (by decide +kernel) (by decide +kernel) rfl hk1 hFc hP1 hD1
  generalize H1 = H at hP hS ⊢
  refine lv_iconst (v := 0) hx hb (qaa qaQ 4 rfl) (by decide) ?_
  refine lv_istore_n (lv' := [(3, .int 0), (0, .ref a0), (1, .ref a1), (2, .int p2)]) hx hb (qaa qaQ 5 rfl) rfl hl (by decide) rfl (fun ls hl => ?_)
  obtain ⟨n9, hw⟩ := hw
  exact qUP dC dI cyB cyI cyJ cyP a0 a1 jbF jbU jcK jhW jaE jcI jb5 jcq Q C0 n9 _ _ _ x1 x2 x3 x4 f5 f6 x7 p2 0 hP hD hS (lv_sub hl [1, 2, 3, 0] rfl) hw
set_option maxHeartbeats 4000000 in
set_option maxRecDepth 100000 in
theorem qBZ {p : Program} {l : Launch} {e : Env} {s : State} {m : MethodId} {args : Array Value} {below : List Frame} {meth : Method} {c : Code} {A : Nat → Prop} (dC : Nat → ClassId) (dI : Nat → Nat → Nat) (cyB cyI cyJ cyP : ClassId) (a0 a1 jbF jbU jcK : Nat) (jhW jaE jcI : Value) (jb5 : Int32) (jcq : NI) (Q : Int32 → Int32 → Int32 → Int32 → NI → NI → Int32 → Prop) (K8 : Int32 → Int32 → Int32 → Int32 → NI → NI → Int32 → Int32 → Int32 → Prop) (hK8 : ∀ (H : Heap) (locs : List Loc) (ls : Array Slot) (jhS jeF jcU jbM : Int32) (jdC jfY : NI) (jb7 l2 l3 : Int32), va_P (dC, dI) vwCl (qar a0 jbU jcK jhW jaE jb7 a1 jbF jb5 jhS jeF jcI jcU jbM jbF cyB jcq jbU cyI jdC jcK cyI jfY) H → va_D A (qar a0 jbU jcK jhW jaE jb7 a1 jbF jb5 jhS jeF jcI jcU jbM jbF cyB jcq jbU cyI jdC jcK cyI jfY) → va_S A s.heap H locs → lv_has ls 5 [(0, .ref a0), (1, .ref a1), (2, .int l2), (3, .int l3)] → K8 jhS jeF jcU jbM jdC jfY jb7 l2 l3 → W p l e (headSpec wsX4_readSum ({ frames := 8, cells := 0, slots := 0, locals := 175 })).room s m args below meth c H locs 0 0 (MQ below (va_Qv (fun (u : Int32 × Int32 × Int32 × Int32 × NI × NI × Int32) => Q u.1 u.2.1 u.2.2.1 u.2.2.2.1 u.2.2.2.2.1 u.2.2.2.2.2.1 u.2.2.2.2.2.2) (cB (dC, dI) (kT cyB cyI cyJ cyP) A (fun u : Int32 × Int32 × Int32 × Int32 × NI × NI × Int32 => ((qar a0 jbU jcK jhW jaE u.2.2.2.2.2.2 a1 jbF jb5 u.1 u.2.1 jcI u.2.2.1 u.2.2.2.1 jbF cyB jcq jbU cyI u.2.2.2.2.1 jcK cyI u.2.2.2.2.2.1) : va_W))) A) args s 0 0 A) (F0 m 8 ls [])) (C0 : cfx p s m args meth c cX4_readSum none wsX4_readSum RX4 5 A (dC, dI) (kT cyB cyI cyJ cyP) ∧ cfY l s A ∧ zE A s s.heap) : ∀ (H : Heap) (locs : List Loc) (ls : Array Slot) (jhS jeF jcU jbM : Int32) (jdC jfY : NI) (jb7 l2 l3 s0 : Int32), va_P (dC, dI) vwCl (qar a0 jbU jcK jhW jaE jb7 a1 jbF jb5 jhS jeF jcI jcU jbM jbF cyB jcq jbU cyI jdC jcK cyI jfY) H → va_D A (qar a0 jbU jcK jhW jaE jb7 a1 jbF jb5 jhS jeF jcI jcU jbM jbF cyB jcq jbU cyI jdC jcK cyI jfY) → va_S A s.heap H locs → lv_has ls 5 [(0, .ref a0), (1, .ref a1), (2, .int l2), (3, .int l3)] → quc jb5 jcq Q K8 jhS jeF jcU jbM jdC jfY jb7 l2 l3 s0 → W p l e (headSpec wsX4_readSum ({ frames := 8, cells := 0, slots := 0, locals := 175 })).room s m args below meth c H locs 0 0 (MQ below (va_Qv (fun (u : Int32 × Int32 × Int32 × Int32 × NI × NI × Int32) => Q u.1 u.2.1 u.2.2.1 u.2.2.2.1 u.2.2.2.2.1 u.2.2.2.2.2.1 u.2.2.2.2.2.2) (cB (dC, dI) (kT cyB cyI cyJ cyP) A (fun u : Int32 × Int32 × Int32 × Int32 × NI × NI × Int32 => ((qar a0 jbU jcK jhW jaE u.2.2.2.2.2.2 a1 jbF jb5 u.1 u.2.1 jcI u.2.2.1 u.2.2.2.1 jbF cyB jcq jbU cyI u.2.2.2.2.1 jcK cyI u.2.2.2.2.2.1) : va_W))) A) args s 0 0 A) (F0 m 49 ls [.int s0]) := by
  obtain ⟨⟨hx, hb, hr, hts, hown, hlocks, hml, hA, hK, hNw⟩, hY, hE0⟩ := id C0
  have hE := hE0
  intro H locs ls jhS jeF jcU jbM jdC jfY jb7 l2 l3 s0 hP hD hS hl hw
  refine lv_istore (lv' := [(4, .int s0), (0, .ref a0), (1, .ref a1), (2, .int l2), (3, .int l3)]) hx hb (qaa qbo 9 rfl) hl (by decide) rfl (fun ls hl => ?_)
  refine lv_iload hx hb (qaa qbo 10 rfl) (lv_at hl 0 rfl) ?_
  refine lv_iconst (v := (-1)) hx hb (qaa qbo 11 rfl) (by decide) ?_
  refine lv_icmp_ne (tgt := 58) hx hb (qaa qbo 12 rfl) (by decide) (fun c19 => ?_) (fun c19 => ?_)
  · have hw := hw.1 c19
    refine lv_aload_n hx hb (qaa qbo 14 rfl) rfl (lv_at hl 1 rfl) ?_
    refine lv_aload_n hx hb (qaa qbo 15 rfl) rfl (lv_at hl 2 rfl) ?_
    refine lv_iload_n hx hb (qaa qcF 0 rfl) rfl (lv_at hl 3 rfl) ?_
    obtain ⟨hCc, hPc, hDc, hFc⟩ := qac (ws' := (qar a0 jbU jcK jhW jaE jb7 a1 jbF jb5 jhS jeF jcI jcU jbM jbF cyB jcq jbU cyI jdC jcK cyI jfY)) hP hD hS hA [0, 1, 2, 3, 4] (by decide +kernel) rfl
    refine va_callv (va_runV (As := [.ref a1, .int l2]) (rest := []) ⟨hx, hb, hml, hown, hts⟩ (qJl l dC dI cyB cyI cyJ cyP a0 a1 jbF jbU jcK H.size (jhW) (jaE) (jcI) jb5 jcq jhS jeF jcU jbM jdC jfY jb7 l2 hw) (cwV 2 hts gX4_readSum_X4_readProduct rfl rfl rfl (by decide +kernel) ⟨nbq rfl, nbq rfl⟩) ⟨qat qsO, va_recv (q := (RX4, TX4, 5)) hK hPc (ci := 4) (q0 := 0) rfl rfl, qbg qsO hPc hK hDc hNw hY hE hS hFc⟩ rfl rfl hl.1 rfl (lv_room (nbq rfl)) (qaa qcF 1 rfl) ⟨nbq rfl, nbq rfl⟩) hS (fun q _ h => hFc q h) hFc (fun u t H1 locs ht hvm hw hB hz1 hk1 hS => ?_)
    obtain ⟨x20, x21, x22, x23, f24, f25, x26⟩ := u
    obtain ⟨hP1, hK1, hD1⟩ := hB
    rw [ht] at hP1
    obtain ⟨hP, hD⟩ := qah (wr := []) (w1 := (qar a0 jbU jcK jhW jaE x26 a1 jbF jb5 x20 x21 jcI x22 x23 jbF cyB jcq jbU cyI f24 jcK cyI f25)) (wn := (qar a0 jbU jcK jhW jaE x26 a1 jbF jb5 x20 x21 jcI x22 x23 jbF cyB jcq jbU cyI f24 jcK cyI f25)) hP hD [0, 1, 2, 3, 4] [] hCc rfl (by decide +kernel) (by decide +kernel) rfl hk1 hFc hP1 hD1
    generalize H1 = H at hP hS ⊢
    refine lv_aload_n hx hb (qaa qcF 2 rfl) rfl (lv_at hl 1 rfl) ?_
    refine lv_iload hx hb (qaa qcF 3 rfl) (lv_at hl 0 rfl) ?_
    refine lv_iconst (v := 0) hx hb (qaa qcF 4 rfl) (by decide) ?_
    obtain ⟨hCc, hPc, hDc, hFc⟩ := qac (ws' := (qsH a0 jbU jcK jhW jaE x26 jbU cyI f24 jcK cyI f25)) hP hD hS hA [0, 3, 4] (by decide +kernel) rfl
    refine va_callv (va_runV (As := [.int s0, .int 0]) (rest := []) ⟨hx, hb, hml, hown, hts⟩ (qrr l dC dI cyB cyI cyJ cyP a0 jbU jcK H.size (jhW) (jaE) f24 f25 x26 s0 0 hw) (cwV 2 hts gX4_readSum_X4_add rfl rfl rfl (by decide +kernel) ⟨nbq rfl, nbq rfl⟩) ⟨qab, va_recv (q := (RX4, TX4, 5)) hK hPc (ci := 4) (q0 := 0) rfl rfl, qae hPc hK hDc hNw⟩ rfl rfl hl.1 rfl (lv_room (nbq rfl)) (qaa qcF 5 rfl) ⟨nbq rfl, nbq rfl⟩) hS (fun q _ h => hFc q h) hFc (fun u t H1 locs ht hvm hw hB hz1 hk1 hS => ?_)
    obtain ⟨f27, f28, x29⟩ := u
    obtain ⟨hP1, hK1, hD1⟩ := hB
    rw [ht] at hP1
    obtain ⟨hP, hD⟩ := qad (wr := (qlf a1 jbF jb5 x20 x21 jcI x22 x23 jbF cyB jcq)) (w1 := (qsH a0 jbU jcK jhW jaE x29 jbU cyI f27 jcK cyI f28)) (wn := (qar a0 jbU jcK jhW jaE x29 a1 jbF jb5 x20 x21 jcI x22 x23 jbF cyB jcq jbU cyI f27 jcK cyI f28)) hP hD [0, 3, 4] [1, 2] [2, 0, 1, 3, 4] hCc rfl (by decide +kernel) (by decide +kernel) (by decide +kernel) rfl hk1 hFc hP1 hD1
    generalize H1 = H at hP hS ⊢
    obtain ⟨x30, ex30⟩ : ∃ y : Int32, y = l3 + 1 := ⟨_, rfl⟩
    have hw := hw x30 ex30
    refine lv_iinc (v := x30) (lv' := [(3, .int x30), (4, .int s0), (0, .ref a0), (1, .ref a1), (2, .int l2)]) hx hb (qaa qcF 6 rfl) hl (k := 4) rfl (by rw [ex30]; rfl) (by decide) rfl (fun ls hl => ?_)
    refine lv_goto (tgt := 8) hx hb (qaa qcF 7 rfl) (by decide) ?_
    exact hK8 _ _ _ x20 x21 x22 x23 f27 f28 x29 l2 x30 hP hD hS (lv_sub hl [2, 3, 4, 0] rfl) hw
  · have hw := hw.2 c19
    exact ((W.vret hx hb hr (fun t ht hW => ⟨⟨(jhS, jeF, jcU, jbM, jdC, jfY, jb7), rfl, hw, by rw [ht]; exact hP, va_K.moved hW.alike hK, hD⟩, hS.F ht⟩) hS.2.2 (qaa qbo 13 rfl)))
set_option maxHeartbeats 4000000 in
set_option maxRecDepth 100000 in
theorem q5K {p : Program} {l : Launch} {e : Env} {s : State} {m : MethodId} {args : Array Value} {below : List Frame} {meth : Method} {c : Code} {A : Nat → Prop} (dC : Nat → ClassId) (dI : Nat → Nat → Nat) (cyB cyI cyJ cyP : ClassId) (a0 a1 jbF jbU jcK : Nat) (jhW jaE jcI : Value) (jb5 : Int32) (jcq : NI) (Q : Int32 → Int32 → Int32 → Int32 → NI → NI → Int32 → Prop) (C0 : cfx p s m args meth c cX4_readSum none wsX4_readSum RX4 5 A (dC, dI) (kT cyB cyI cyJ cyP) ∧ cfY l s A ∧ zE A s s.heap) : ∀ (n : Nat) (H : Heap) (locs : List Loc) (ls : Array Slot) (jhS jeF jcU jbM : Int32) (jdC jfY : NI) (jb7 l2 l3 : Int32), va_P (dC, dI) vwCl (qar a0 jbU jcK jhW jaE jb7 a1 jbF jb5 jhS jeF jcI jcU jbM jbF cyB jcq jbU cyI jdC jcK cyI jfY) H → va_D A (qar a0 jbU jcK jhW jaE jb7 a1 jbF jb5 jhS jeF jcI jcU jbM jbF cyB jcq jbU cyI jdC jcK cyI jfY) → va_S A s.heap H locs → lv_has ls 5 [(0, .ref a0), (1, .ref a1), (2, .int l2), (3, .int l3)] → qiR jb5 jcq Q n jhS jeF jcU jbM jdC jfY jb7 l2 l3 → W p l e (headSpec wsX4_readSum ({ frames := 8, cells := 0, slots := 0, locals := 175 })).room s m args below meth c H locs 0 0 (MQ below (va_Qv (fun (u : Int32 × Int32 × Int32 × Int32 × NI × NI × Int32) => Q u.1 u.2.1 u.2.2.1 u.2.2.2.1 u.2.2.2.2.1 u.2.2.2.2.2.1 u.2.2.2.2.2.2) (cB (dC, dI) (kT cyB cyI cyJ cyP) A (fun u : Int32 × Int32 × Int32 × Int32 × NI × NI × Int32 => ((qar a0 jbU jcK jhW jaE u.2.2.2.2.2.2 a1 jbF jb5 u.1 u.2.1 jcI u.2.2.1 u.2.2.2.1 jbF cyB jcq jbU cyI u.2.2.2.2.1 jcK cyI u.2.2.2.2.2.1) : va_W))) A) args s 0 0 A) (F0 m 8 ls []) := by
  obtain ⟨⟨hx, hb, hr, hts, hown, hlocks, hml, hA, hK, hNw⟩, hY, hE0⟩ := id C0
  have hE := hE0
  intro n
  induction n with
  | zero => intro H locs ls jhS jeF jcU jbM jdC jfY jb7 l2 l3 hP hD hS hl hw; exact False.elim hw
  | succ n ih =>
    intro H locs ls jhS jeF jcU jbM jdC jfY jb7 l2 l3 hP hD hS hl hw
    refine lv_iload_n hx hb (qaa qbE 6 rfl) rfl (lv_at hl 3 rfl) ?_
    refine lv_sipush (v := 150) hx hb (qaa qbE 7 rfl) (by decide) ?_
    refine lv_icmp_ge (tgt := 77) hx hb (qaa qbE 8 rfl) (by decide) (fun c8 => ?_) (fun c8 => ?_)
    · have hw := hw.1 c8
      exact ((W.vret hx hb hr (fun t ht hW => ⟨⟨(jhS, jeF, jcU, jbM, jdC, jfY, jb7), rfl, hw, by rw [ht]; exact hP, va_K.moved hW.alike hK, hD⟩, hS.F ht⟩) hS.2.2 (qaa qcF 8 rfl)))
    · have hw := hw.2 c8
      refine lv_aload_n hx hb (qaa qbE 9 rfl) rfl (lv_at hl 1 rfl) ?_
      obtain ⟨hCc, hPc, hDc, hFc⟩ := qac (ws' := (qSy a1 jbF jb5 jhS jeF jcI jcU jbM)) hP hD hS hA [1] (by decide +kernel) rfl
      refine va_calli (va_runV (As := []) (rest := []) ⟨hx, hb, hml, hown, hts⟩ (qkj l dC dI cyB cyI cyJ cyP a1 H.size (.ref jbF) (.int jb5) (.int jhS) (.int jeF) (jcI) (.int jbM) jcU hw) (cwV 0 hts gX4_readSum_X8_isFaulty rfl rfl rfl (by decide +kernel) ⟨nbq rfl, nbq rfl⟩) ⟨qab, va_recv (q := (RX8, TX8, 7)) hK hPc (ci := 8) (q0 := 0) rfl rfl, qae hPc hK hDc hNw⟩ rfl rfl hl.1 rfl (lv_room (nbq rfl)) (qaa qbE 10 rfl) ⟨nbq rfl, nbq rfl⟩) hS (fun q _ h => hFc q h) hFc (fun r9 u t H1 locs ht hvm hw hB hz1 hk1 hS => ?_)
      obtain ⟨hP1, hK1, hD1⟩ := hB
      rw [ht] at hP1
      obtain ⟨hP, hD⟩ := qad (wr := (qalF a0 jbU jcK jhW jaE jb7 jbF cyB jcq jbU cyI jdC jcK cyI jfY)) (w1 := (qSy a1 jbF jb5 jhS jeF jcI jcU jbM)) (wn := (qar a0 jbU jcK jhW jaE jb7 a1 jbF jb5 jhS jeF jcI jcU jbM jbF cyB jcq jbU cyI jdC jcK cyI jfY)) hP hD [1] [0, 2, 3, 4] [0, 4, 1, 2, 3] hCc rfl (by decide +kernel) (by decide +kernel) (by decide +kernel) rfl hk1 hFc hP1 hD1
      generalize H1 = H at hP hS ⊢
      refine lv_if_ne (tgt := 77) hx hb (qaa qbE 11 rfl) (by decide) (fun c10 => ?_) (fun c10 => ?_)
      · have hw := hw.1 c10
        exact ((W.vret hx hb hr (fun t ht hW => ⟨⟨(jhS, jeF, jcU, jbM, jdC, jfY, jb7), rfl, hw, by rw [ht]; exact hP, va_K.moved hW.alike hK, hD⟩, hS.F ht⟩) hS.2.2 (qaa qcF 8 rfl)))
      · have hw := hw.2 c10
        refine lv_aload_n hx hb (qaa qbE 12 rfl) rfl (lv_at hl 1 rfl) ?_
        refine lv_bipush (v := 43) hx hb (qaa qbE 13 rfl) (by decide) ?_
        obtain ⟨hCc, hPc, hDc, hFc⟩ := qac (ws' := (qlf a1 jbF jb5 jhS jeF jcI jcU jbM jbF cyB jcq)) hP hD hS hA [1, 2] (by decide +kernel) rfl
        refine va_calli (va_runV (As := [.int 43]) (rest := []) ⟨hx, hb, hml, hown, hts⟩ (qsg l dC dI cyB cyI cyJ cyP a1 jbF H.size (jcI) (.int jbM) jb5 jcU jcq jhS jeF 43 hw) (cwV 1 hts gX4_readSum_X8_takes rfl rfl rfl (by decide +kernel) ⟨nbq rfl, nbq rfl⟩) ⟨qab, va_recv (q := (RX8, TX8, 7)) hK hPc (ci := 8) (q0 := 0) rfl rfl, qae hPc hK hDc hNw⟩ rfl rfl hl.1 rfl (lv_room (nbq rfl)) (qaa qbE 14 rfl) ⟨nbq rfl, nbq rfl⟩) hS (fun q _ h => hFc q h) hFc (fun r13 u t H1 locs ht hvm hw hB hz1 hk1 hS => ?_)
        obtain ⟨x11, x12⟩ := u
        obtain ⟨hP1, hK1, hD1⟩ := hB
        rw [ht] at hP1
        obtain ⟨hP, hD⟩ := qad (wr := (qsH a0 jbU jcK jhW jaE jb7 jbU cyI jdC jcK cyI jfY)) (w1 := (qlf a1 jbF jb5 x11 x12 jcI jcU jbM jbF cyB jcq)) (wn := (qar a0 jbU jcK jhW jaE jb7 a1 jbF jb5 x11 x12 jcI jcU jbM jbF cyB jcq jbU cyI jdC jcK cyI jfY)) hP hD [1, 2] [0, 3, 4] [0, 3, 4, 1, 2] hCc rfl (by decide +kernel) (by decide +kernel) (by decide +kernel) rfl hk1 hFc hP1 hD1
        generalize H1 = H at hP hS ⊢
        refine lv_if_eq (tgt := 35) hx hb (qaa qbE 15 rfl) (by decide) (fun c14 => ?_) (fun c14 => ?_)
        · have hw := hw.1 c14
          refine lv_aload_n hx hb (qaa qbo 2 rfl) rfl (lv_at hl 1 rfl) ?_
          refine lv_bipush (v := 45) hx hb (qaa qbo 3 rfl) (by decide) ?_
          obtain ⟨hCc, hPc, hDc, hFc⟩ := qac (ws' := (qlf a1 jbF jb5 x11 x12 jcI jcU jbM jbF cyB jcq)) hP hD hS hA [1, 2] (by decide +kernel) rfl
          refine va_calli (va_runV (As := [.int 45]) (rest := []) ⟨hx, hb, hml, hown, hts⟩ (qsg l dC dI cyB cyI cyJ cyP a1 jbF H.size (jcI) (.int jbM) jb5 jcU jcq x11 x12 45 hw) (cwV 1 hts gX4_readSum_X8_takes rfl rfl rfl (by decide +kernel) ⟨nbq rfl, nbq rfl⟩) ⟨qab, va_recv (q := (RX8, TX8, 7)) hK hPc (ci := 8) (q0 := 0) rfl rfl, qae hPc hK hDc hNw⟩ rfl rfl hl.1 rfl (lv_room (nbq rfl)) (qaa qbo 4 rfl) ⟨nbq rfl, nbq rfl⟩) hS (fun q _ h => hFc q h) hFc (fun r17 u t H1 locs ht hvm hw hB hz1 hk1 hS => ?_)
          obtain ⟨x15, x16⟩ := u
          obtain ⟨hP1, hK1, hD1⟩ := hB
          rw [ht] at hP1
          obtain ⟨hP, hD⟩ := qad (wr := (qsH a0 jbU jcK jhW jaE jb7 jbU cyI jdC jcK cyI jfY)) (w1 := (qlf a1 jbF jb5 x15 x16 jcI jcU jbM jbF cyB jcq)) (wn := (qar a0 jbU jcK jhW jaE jb7 a1 jbF jb5 x15 x16 jcI jcU jbM jbF cyB jcq jbU cyI jdC jcK cyI jfY)) hP hD [1, 2] [0, 3, 4] [0, 3, 4, 1, 2] hCc rfl (by decide +kernel) (by decide +kernel) (by decide +kernel) rfl hk1 hFc hP1 hD1
          generalize H1 = H at hP hS ⊢
          refine lv_if_eq (tgt := 48) hx hb (qaa qbo 5 rfl) (by decide) (fun c18 => ?_) (fun c18 => ?_)
          · have hw := hw.1 c18
            refine lv_iconst (v := (-1)) hx hb (qaa qbo 8 rfl) (by decide) ?_
            exact qBZ dC dI cyB cyI cyJ cyP a0 a1 jbF jbU jcK jhW jaE jcI jb5 jcq Q (qiR jb5 jcq Q n) ih C0 _ _ _ x15 x16 jcU jbM jdC jfY jb7 l2 l3 (-1) hP hD hS (lv_sub hl [0, 1, 2, 3] rfl) hw
          · have hw := hw.2 c18
            refine lv_iconst (v := 3) hx hb (qaa qbo 6 rfl) (by decide) ?_
            refine lv_goto (tgt := 49) hx hb (qaa qbo 7 rfl) (by decide) ?_
            exact qBZ dC dI cyB cyI cyJ cyP a0 a1 jbF jbU jcK jhW jaE jcI jb5 jcq Q (qiR jb5 jcq Q n) ih C0 _ _ _ x15 x16 jcU jbM jdC jfY jb7 l2 l3 3 hP hD hS (lv_sub hl [0, 1, 2, 3] rfl) hw
        · have hw := hw.2 c14
          refine lv_iconst (v := 2) hx hb (qaa qbo 0 rfl) (by decide) ?_
          refine lv_goto (tgt := 49) hx hb (qaa qbo 1 rfl) (by decide) ?_
          exact qBZ dC dI cyB cyI cyJ cyP a0 a1 jbF jbU jcK jhW jaE jcI jb5 jcq Q (qiR jb5 jcq Q n) ih C0 _ _ _ x11 x12 jcU jbM jdC jfY jb7 l2 l3 2 hP hD hS (lv_sub hl [0, 1, 2, 3] rfl) hw
set_option maxHeartbeats 4000000 in
set_option maxRecDepth 100000 in
theorem qacF (l : Launch) (dC : Nat → ClassId) (dI : Nat → Nat → Nat) (cyB cyI cyJ cyP : ClassId) (a0 a1 jbF jbU jcK sz : Nat) (jhW jaE jcI : Value) (jb5 : Int32) (jcq : NI) (jhS jeF jcU jbM : Int32) (jdC jfY : NI) (jb7 p2 : Int32) {Q : Int32 → Int32 → Int32 → Int32 → NI → NI → Int32 → Prop} (hw : qBm jb5 jcq jhS jeF jcU jbM jdC jfY jb7 p2 Q) : Met l yX4_readSum wsX4_readSum ({ frames := 8, cells := 0, slots := 0, locals := 175 }) (va_Pc [.ref a0, .ref a1, .int p2] (cPs (zE) l (dC, dI) (kT cyB cyI cyJ cyP) (qar a0 jbU jcK jhW jaE jb7 a1 jbF jb5 jhS jeF jcI jcU jbM jbF cyB jcq jbU cyI jdC jcK cyI jfY) sz)) (va_Qv (fun (u : Int32 × Int32 × Int32 × Int32 × NI × NI × Int32) => Q u.1 u.2.1 u.2.2.1 u.2.2.2.1 u.2.2.2.2.1 u.2.2.2.2.2.1 u.2.2.2.2.2.2) (cB (dC, dI) (kT cyB cyI cyJ cyP) (va_A (qar a0 jbU jcK jhW jaE jb7 a1 jbF jb5 jhS jeF jcI jcU jbM jbF cyB jcq jbU cyI jdC jcK cyI jfY) sz) (fun u : Int32 × Int32 × Int32 × Int32 × NI × NI × Int32 => ((qar a0 jbU jcK jhW jaE u.2.2.2.2.2.2 a1 jbF jb5 u.1 u.2.1 jcI u.2.2.1 u.2.2.2.1 jbF cyB jcq jbU cyI u.2.2.2.2.1 jcK cyI u.2.2.2.2.2.1) : va_W))) (va_A (qar a0 jbU jcK jhW jaE jb7 a1 jbF jb5 jhS jeF jcI jcU jbM jbF cyB jcq jbU cyI jdC jcK cyI jfY) sz)) 0 0 (va_A (qar a0 jbU jcK jhW jaE jb7 a1 jbF jb5 jhS jeF jcI jcU jbM jbF cyB jcq jbU cyI jdC jcK cyI jfY) sz) := by
  refine Met.ofW (cc := cX4_readSum) (maxL := 5) (ret := none) (by decide) rfl ?_
  intro p e s m args below meth c s₁ B hml hv
  obtain ⟨rfl, ⟨hsz, hP, hK, hD0, hNw, hXl, hXu, hXn, hXt⟩, hE0⟩ := hv
  have hx := B.exec
  have hb := B.bytes
  have hr := B.returns
  have hts := atoms_spec (ws := wsX4_readSum) B.pre
  have hown : s.vm.findClass RX4 = some m.cls := findClass_of_methodNamed B.named
  have hlocks := B.notSynchronized
  subst hsz
  have hD := hD0.self (sz := s.heap.size)
  generalize hAe : va_A (qar a0 jbU jcK jhW jaE jb7 a1 jbF jb5 jhS jeF jcI jcU jbM jbF cyB jcq jbU cyI jdC jcK cyI jfY) s.heap.size = A at hD hXu hXn hE0 ⊢
  have hA : ∀ q : Nat, s.heap.size ≤ q → A q := fun q h => by rw [← hAe]; exact Or.inr h
  have hS : va_S A s.heap s.heap [] := va_S.rf
  have hP : va_P (dC, dI) vwCl (qar a0 jbU jcK jhW jaE jb7 a1 jbF jb5 jhS jeF jcI jcU jbM jbF cyB jcq jbU cyI jdC jcK cyI jfY) s.heap := hP
  have hl := lv_entry ([.ref a0, .ref a1, .int p2]) (n := 5) (nbq rfl)
  rw [lg_entry_eq]
  generalize (lg_sl ([.ref a0, .ref a1, .int p2]) ++ List.replicate (5 - (lg_sl ([.ref a0, .ref a1, .int p2])).length) Slot.unset).toArray = ls at hl ⊢
  have hl : lv_has ls 5 [(0, .ref a0), (1, .ref a1), (2, .int p2)] := hl
  have hY : cfY l s A := ⟨hXl, hXu, hXn, hXt⟩
  have C0 : cfx p s m _ meth c cX4_readSum none wsX4_readSum RX4 5 A (dC, dI) (kT cyB cyI cyJ cyP) ∧ cfY l s A ∧ zE A s s.heap := ⟨⟨hx, hb, hr, hts, hown, hlocks, hml, hA, hK, hNw⟩, hY, hE0⟩
  have hE := hE0
  clear hAe
  obtain ⟨H, hH⟩ : ∃ H, H = s.heap := ⟨_, rfl⟩
  rw [← hH] at hP ⊢
  have hS : va_S A s.heap H [] := by rw [hH]; exact va_S.rf
  have hS := hS
  refine lv_aload_n hx hb (qaa qbE 0 rfl) rfl (lv_at hl 0 rfl) ?_
  refine lv_aload_n hx hb (qaa qbE 1 rfl) rfl (lv_at hl 1 rfl) ?_
  refine lv_iload_n hx hb (qaa qbE 2 rfl) rfl (lv_at hl 2 rfl) ?_
  obtain ⟨hCc, hPc, hDc, hFc⟩ := qac (ws' := (qar a0 jbU jcK jhW jaE jb7 a1 jbF jb5 jhS jeF jcI jcU jbM jbF cyB jcq jbU cyI jdC jcK cyI jfY)) hP hD hS hA [0, 1, 2, 3, 4] (by decide +kernel) rfl
  refine va_callv (va_runV (As := [.ref a1, .int p2]) (rest := []) ⟨hx, hb, hml, hown, hts⟩ (qJl l dC dI cyB cyI cyJ cyP a0 a1 jbF jbU jcK H.size (jhW) (jaE) (jcI) jb5 jcq jhS jeF jcU jbM jdC jfY jb7 p2 hw) (cwV 2 hts gX4_readSum_X4_readProduct rfl rfl rfl (by decide +kernel) ⟨nbq rfl, nbq rfl⟩) ⟨qat qsO, va_recv (q := (RX4, TX4, 5)) hK hPc (ci := 4) (q0 := 0) rfl rfl, qbg qsO hPc hK hDc hNw hY hE hS hFc⟩ rfl rfl hl.1 rfl (lv_room (nbq rfl)) (qaa qbE 3 rfl) ⟨nbq rfl, nbq rfl⟩) hS (fun q _ h => hFc q h) hFc (fun u t H1 locs ht hvm hw hB hz1 hk1 hS => ?_)
  obtain ⟨x1, x2, x3, x4, f5, f6, x7⟩ := u
  obtain ⟨hP1, hK1, hD1⟩ := hB
  rw [ht] at hP1
  obtain ⟨hP, hD⟩ := qah (wr := []) (w1 := (qar a0 jbU jcK jhW jaE x7 a1 jbF jb5 x1 x2 jcI x3 x4 jbF cyB jcq jbU cyI f5 jcK cyI f6)) (wn := (qar a0 jbU jcK jhW jaE x7 a1 jbF jb5 x1 x2 jcI x3 x4 jbF cyB jcq jbU cyI f5 jcK cyI f6)) hP hD [0, 1, 2, 3, 4] [] hCc rfl (by decide +kernel) (by decide +kernel) rfl hk1 hFc hP1 hD1
  generalize H1 = H at hP hS ⊢
  refine lv_iconst (v := 0) hx hb (qaa qbE 4 rfl) (by decide) ?_
  refine lv_istore_n (lv' := [(3, .int 0), (0, .ref a0), (1, .ref a1), (2, .int p2)]) hx hb (qaa qbE 5 rfl) rfl hl (by decide) rfl (fun ls hl => ?_)
  obtain ⟨n9, hw⟩ := hw
  exact q5K dC dI cyB cyI cyJ cyP a0 a1 jbF jbU jcK jhW jaE jcI jb5 jcq Q C0 n9 _ _ _ x1 x2 x3 x4 f5 f6 x7 p2 0 hP hD hS (lv_sub hl [1, 2, 3, 0] rfl) hw
set_option maxHeartbeats 4000000 in
set_option maxRecDepth 100000 in
theorem q9R (RS : Int32 → NI → Int32 → Int32 → Int32 → Int32 → NI → NI → Int32 → Int32 → (Int32 → Int32 → Int32 → Int32 → NI → NI → Int32 → Prop) → Prop) (fr lo : Nat) (hfr : 8 ≤ fr) (hlo : 175 ≤ lo) (hRw : ∀ (l : Launch) (dC : Nat → ClassId) (dI : Nat → Nat → Nat) (cyB cyI cyJ cyP : ClassId) (a0 a1 jbF jbU jcK sz : Nat) (jhW jaE jcI : Value) (jb5 : Int32) (jcq : NI) (jhS jeF jcU jbM : Int32) (jdC jfY : NI) (jb7 p2 : Int32) {Q : Int32 → Int32 → Int32 → Int32 → NI → NI → Int32 → Prop} (hw : RS jb5 jcq jhS jeF jcU jbM jdC jfY jb7 p2 Q), Met l yX4_readSum wsX4_readSum ({ frames := fr, cells := 0, slots := 0, locals := lo }) (va_Pc [.ref a0, .ref a1, .int p2] (cPs (zE) l (dC, dI) (kT cyB cyI cyJ cyP) (qar a0 jbU jcK jhW jaE jb7 a1 jbF jb5 jhS jeF jcI jcU jbM jbF cyB jcq jbU cyI jdC jcK cyI jfY) sz)) (va_Qv (fun (u : Int32 × Int32 × Int32 × Int32 × NI × NI × Int32) => Q u.1 u.2.1 u.2.2.1 u.2.2.2.1 u.2.2.2.2.1 u.2.2.2.2.2.1 u.2.2.2.2.2.2) (cB (dC, dI) (kT cyB cyI cyJ cyP) (va_A (qar a0 jbU jcK jhW jaE jb7 a1 jbF jb5 jhS jeF jcI jcU jbM jbF cyB jcq jbU cyI jdC jcK cyI jfY) sz) (fun u : Int32 × Int32 × Int32 × Int32 × NI × NI × Int32 => ((qar a0 jbU jcK jhW jaE u.2.2.2.2.2.2 a1 jbF jb5 u.1 u.2.1 jcI u.2.2.1 u.2.2.2.1 jbF cyB jcq jbU cyI u.2.2.2.2.1 jcK cyI u.2.2.2.2.2.1) : va_W))) (va_A (qar a0 jbU jcK jhW jaE jb7 a1 jbF jb5 jhS jeF jcI jcU jbM jbF cyB jcq jbU cyI jdC jcK cyI jfY) sz)) 0 0 (va_A (qar a0 jbU jcK jhW jaE jb7 a1 jbF jb5 jhS jeF jcI jcU jbM jbF cyB jcq jbU cyI jdC jcK cyI jfY) sz)) (l : Launch) (dC : Nat → ClassId) (dI : Nat → Nat → Nat) (cyB cyI cyJ cyP : ClassId) (a0 a1 jbF jbU jcK sz : Nat) (jhW jaE jcI : Value) (jb5 : Int32) (jcq : NI) (jhS jeF jcU jbM : Int32) (jdC jfY : NI) (jb7 p2 : Int32) {Q : Int32 → Int32 → Int32 → Int32 → NI → NI → Int32 → Prop} (hw : qQ4 RS jb5 jcq jhS jeF jcU jbM jdC jfY jb7 p2 Q) : Met l yX4_readInner wsX4_readInner ({ frames := fr + 1, cells := 0, slots := 0, locals := lo + 24 }) (va_Pc [.ref a0, .ref a1, .int p2] (cPs (zE) l (dC, dI) (kT cyB cyI cyJ cyP) (qar a0 jbU jcK jhW jaE jb7 a1 jbF jb5 jhS jeF jcI jcU jbM jbF cyB jcq jbU cyI jdC jcK cyI jfY) sz)) (va_Qv (fun (u : Int32 × Int32 × Int32 × Int32 × NI × NI × Int32) => Q u.1 u.2.1 u.2.2.1 u.2.2.2.1 u.2.2.2.2.1 u.2.2.2.2.2.1 u.2.2.2.2.2.2) (cB (dC, dI) (kT cyB cyI cyJ cyP) (va_A (qar a0 jbU jcK jhW jaE jb7 a1 jbF jb5 jhS jeF jcI jcU jbM jbF cyB jcq jbU cyI jdC jcK cyI jfY) sz) (fun u : Int32 × Int32 × Int32 × Int32 × NI × NI × Int32 => ((qar a0 jbU jcK jhW jaE u.2.2.2.2.2.2 a1 jbF jb5 u.1 u.2.1 jcI u.2.2.1 u.2.2.2.1 jbF cyB jcq jbU cyI u.2.2.2.2.1 jcK cyI u.2.2.2.2.2.1) : va_W))) (va_A (qar a0 jbU jcK jhW jaE jb7 a1 jbF jb5 jhS jeF jcI jcU jbM jbF cyB jcq jbU cyI jdC jcK cyI jfY) sz)) 0 0 (va_A (qar a0 jbU jcK jhW jaE jb7 a1 jbF jb5 jhS jeF jcI jcU jbM jbF cyB jcq jbU cyI jdC jcK cyI jfY) sz) := by
  refine Met.ofW (cc := cX4_readInner) (maxL := 3) (ret := none) (by decide) rfl ?_
  intro p e s m args below meth c s₁ B hml hv
  obtain ⟨rfl, ⟨hsz, hP, hK, hD0, hNw, hXl, hXu, hXn, hXt⟩, hE0⟩ := hv
  have hx := B.exec
  have hb := B.bytes
  have hr := B.returns
  have hts := atoms_spec (ws := wsX4_readInner) B.pre
  have hown : s.vm.findClass RX4 = some m.cls := findClass_of_methodNamed B.named
  have hlocks := B.notSynchronized
  subst hsz
  have hD := hD0.self (sz := s.heap.size)
  generalize hAe : va_A (qar a0 jbU jcK jhW jaE jb7 a1 jbF jb5 jhS jeF jcI jcU jbM jbF cyB jcq jbU cyI jdC jcK cyI jfY) s.heap.size = A at hD hXu hXn hE0 ⊢
  have hA : ∀ q : Nat, s.heap.size ≤ q → A q := fun q h => by rw [← hAe]; exact Or.inr h
  have hS : va_S A s.heap s.heap [] := va_S.rf
  have hP : va_P (dC, dI) vwCl (qar a0 jbU jcK jhW jaE jb7 a1 jbF jb5 jhS jeF jcI jcU jbM jbF cyB jcq jbU cyI jdC jcK cyI jfY) s.heap := hP
  have hl := lv_entry ([.ref a0, .ref a1, .int p2]) (n := 3) ((by first | exact nbq rfl | (simp only [headSpec]; omega) | omega))
  rw [lg_entry_eq]
  generalize (lg_sl ([.ref a0, .ref a1, .int p2]) ++ List.replicate (3 - (lg_sl ([.ref a0, .ref a1, .int p2])).length) Slot.unset).toArray = ls at hl ⊢
  have hl : lv_has ls 3 [(0, .ref a0), (1, .ref a1), (2, .int p2)] := hl
  have hY : cfY l s A := ⟨hXl, hXu, hXn, hXt⟩
  have C0 : cfx p s m _ meth c cX4_readInner none wsX4_readInner RX4 3 A (dC, dI) (kT cyB cyI cyJ cyP) ∧ cfY l s A ∧ zE A s s.heap := ⟨⟨hx, hb, hr, hts, hown, hlocks, hml, hA, hK, hNw⟩, hY, hE0⟩
  have hE := hE0
  clear hAe
  obtain ⟨H, hH⟩ : ∃ H, H = s.heap := ⟨_, rfl⟩
  rw [← hH] at hP ⊢
  have hS : va_S A s.heap H [] := by rw [hH]; exact va_S.rf
  have hS := hS
  refine lv_iload_n hx hb (qaa qbw 0 rfl) rfl (lv_at hl 2 rfl) ?_
  refine lv_bipush (v := 6) hx hb (qaa qbw 1 rfl) (by decide) ?_
  refine lv_icmp_lt (tgt := 12) hx hb (qaa qbw 2 rfl) (by decide) (fun c1 => ?_) (fun c1 => ?_)
  · have hw := hw.1 c1
    refine lv_aload_n hx hb (qaa qbw 7 rfl) rfl (lv_at hl 0 rfl) ?_
    refine lv_aload_n hx hb (qaa qbw 8 rfl) rfl (lv_at hl 1 rfl) ?_
    refine lv_iload_n hx hb (qaa qbw 9 rfl) rfl (lv_at hl 2 rfl) ?_
    refine lv_iconst (v := 1) hx hb (qaa qbw 10 rfl) (by decide) ?_
    refine lv_iadd hx hb (qaa qbw 11 rfl) ?_
    refine lv_topi (fun x2 ex2 => ?_)
    have hw := hw x2 ex2
    obtain ⟨hCc, hPc, hDc, hFc⟩ := qac (ws' := (qar a0 jbU jcK jhW jaE jb7 a1 jbF jb5 jhS jeF jcI jcU jbM jbF cyB jcq jbU cyI jdC jcK cyI jfY)) hP hD hS hA [0, 1, 2, 3, 4] (by decide +kernel) rfl
    refine va_callv (va_runV (As := [.ref a1, .int x2]) (rest := []) ⟨hx, hb, hml, hown, hts⟩ (hRw l dC dI cyB cyI cyJ cyP a0 a1 jbF jbU jcK H.size (jhW) (jaE) (jcI) jb5 jcq jhS jeF jcU jbM jdC jfY jb7 x2 hw) (cwV 2 hts gX4_readInner_X4_readSum rfl rfl rfl (by decide +kernel) ⟨(by first | exact nbq rfl | (simp only [headSpec]; omega) | omega), (by first | exact nbq rfl | (simp only [headSpec]; omega) | omega)⟩) ⟨qat qsO, va_recv (q := (RX4, TX4, 5)) hK hPc (ci := 4) (q0 := 0) rfl rfl, qbg qsO hPc hK hDc hNw hY hE hS hFc⟩ rfl rfl hl.1 rfl (lv_room (nbq rfl)) (qaa qbw 12 rfl) ⟨(by first | exact nbq rfl | (simp only [headSpec]; omega) | omega), (by first | exact nbq rfl | (simp only [headSpec]; omega) | omega)⟩) hS (fun q _ h => hFc q h) hFc (fun u t H1 locs ht hvm hw hB hz1 hk1 hS => ?_)
    obtain ⟨x3, x4, x5, x6, f7, f8, x9⟩ := u
    obtain ⟨hP1, hK1, hD1⟩ := hB
    rw [ht] at hP1
    obtain ⟨hP, hD⟩ := qah (wr := []) (w1 := (qar a0 jbU jcK jhW jaE x9 a1 jbF jb5 x3 x4 jcI x5 x6 jbF cyB jcq jbU cyI f7 jcK cyI f8)) (wn := (qar a0 jbU jcK jhW jaE x9 a1 jbF jb5 x3 x4 jcI x5 x6 jbF cyB jcq jbU cyI f7 jcK cyI f8)) hP hD [0, 1, 2, 3, 4] [] hCc rfl (by decide +kernel) (by decide +kernel) rfl hk1 hFc hP1 hD1
    generalize H1 = H at hP hS ⊢
    refine lv_aload_n hx hb (qaa qbw 13 rfl) rfl (lv_at hl 1 rfl) ?_
    refine lv_bipush (v := 41) hx hb (qaa qbw 14 rfl) (by decide) ?_
    obtain ⟨hCc, hPc, hDc, hFc⟩ := qac (ws' := (qlf a1 jbF jb5 x3 x4 jcI x5 x6 jbF cyB jcq)) hP hD hS hA [1, 2] (by decide +kernel) rfl
    refine va_callv (va_runV (As := [.int 41]) (rest := []) ⟨hx, hb, hml, hown, hts⟩ (qtg l dC dI cyB cyI cyJ cyP a1 jbF H.size (jcI) jb5 jcq x3 x4 x5 x6 41 hw) (cwV 1 hts gX4_readInner_X8_needs rfl rfl rfl (by decide +kernel) ⟨(by first | exact nbq rfl | (simp only [headSpec]; omega) | omega), (by first | exact nbq rfl | (simp only [headSpec]; omega) | omega)⟩) ⟨qab, va_recv (q := (RX8, TX8, 7)) hK hPc (ci := 8) (q0 := 0) rfl rfl, qae hPc hK hDc hNw⟩ rfl rfl hl.1 rfl (lv_room (nbq rfl)) (qaa qbw 15 rfl) ⟨(by first | exact nbq rfl | (simp only [headSpec]; omega) | omega), (by first | exact nbq rfl | (simp only [headSpec]; omega) | omega)⟩) hS (fun q _ h => hFc q h) hFc (fun u t H1 locs ht hvm hw hB hz1 hk1 hS => ?_)
    obtain ⟨x10, x11, x12, x13⟩ := u
    obtain ⟨hP1, hK1, hD1⟩ := hB
    rw [ht] at hP1
    obtain ⟨hP, hD⟩ := qad (wr := (qsH a0 jbU jcK jhW jaE x9 jbU cyI f7 jcK cyI f8)) (w1 := (qlf a1 jbF jb5 x10 x11 jcI x12 x13 jbF cyB jcq)) (wn := (qar a0 jbU jcK jhW jaE x9 a1 jbF jb5 x10 x11 jcI x12 x13 jbF cyB jcq jbU cyI f7 jcK cyI f8)) hP hD [1, 2] [0, 3, 4] [0, 3, 4, 1, 2] hCc rfl (by decide +kernel) (by decide +kernel) (by decide +kernel) rfl hk1 hFc hP1 hD1
    generalize H1 = H at hP hS ⊢
    exact ((W.vret hx hb hr (fun t ht hW => ⟨⟨(x10, x11, x12, x13, f7, f8, x9), rfl, hw, by rw [ht]; exact hP, va_K.moved hW.alike hK, hD⟩, hS.F ht⟩) hS.2.2 (qaa qafo 0 rfl)))
  · have hw := hw.2 c1
    refine lv_aload_n hx hb (qaa qbw 3 rfl) rfl (lv_at hl 1 rfl) ?_
    refine lv_iconst (v := 3) hx hb (qaa qbw 4 rfl) (by decide) ?_
    obtain ⟨hCc, hPc, hDc, hFc⟩ := qac (ws' := (qSy a1 jbF jb5 jhS jeF jcI jcU jbM)) hP hD hS hA [1] (by decide +kernel) rfl
    refine va_callv (va_runV (As := [.int 3]) (rest := []) ⟨hx, hb, hml, hown, hts⟩ (qnW l dC dI cyB cyI cyJ cyP a1 H.size (.ref jbF) (.int jb5) (.int jhS) (jcI) jeF jcU jbM 3 hw) (cwV 1 hts gX4_readInner_X8_blameToken rfl rfl rfl (by decide +kernel) ⟨(by first | exact nbq rfl | (simp only [headSpec]; omega) | omega), (by first | exact nbq rfl | (simp only [headSpec]; omega) | omega)⟩) ⟨qab, va_recv (q := (RX8, TX8, 7)) hK hPc (ci := 8) (q0 := 0) rfl rfl, qae hPc hK hDc hNw⟩ rfl rfl hl.1 rfl (lv_room (nbq rfl)) (qaa qbw 5 rfl) ⟨(by first | exact nbq rfl | (simp only [headSpec]; omega) | omega), (by first | exact nbq rfl | (simp only [headSpec]; omega) | omega)⟩) hS (fun q _ h => hFc q h) hFc (fun u t H1 locs ht hvm hw hB hz1 hk1 hS => ?_)
    obtain ⟨x14, x15⟩ := u
    obtain ⟨hP1, hK1, hD1⟩ := hB
    rw [ht] at hP1
    obtain ⟨hP, hD⟩ := qad (wr := (qalF a0 jbU jcK jhW jaE jb7 jbF cyB jcq jbU cyI jdC jcK cyI jfY)) (w1 := (qSy a1 jbF jb5 jhS jeF jcI x14 x15)) (wn := (qar a0 jbU jcK jhW jaE jb7 a1 jbF jb5 jhS jeF jcI x14 x15 jbF cyB jcq jbU cyI jdC jcK cyI jfY)) hP hD [1] [0, 2, 3, 4] [0, 4, 1, 2, 3] hCc rfl (by decide +kernel) (by decide +kernel) (by decide +kernel) rfl hk1 hFc hP1 hD1
    generalize H1 = H at hP hS ⊢
    exact ((W.vret hx hb hr (fun t ht hW => ⟨⟨(jhS, jeF, x14, x15, jdC, jfY, jb7), rfl, hw, by rw [ht]; exact hP, va_K.moved hW.alike hK, hD⟩, hS.F ht⟩) hS.2.2 (qaa qbw 6 rfl)))
set_option maxHeartbeats 4000000 in
set_option maxRecDepth 100000 in
theorem qSf (RS : Int32 → NI → Int32 → Int32 → Int32 → Int32 → NI → NI → Int32 → Int32 → (Int32 → Int32 → Int32 → Int32 → NI → NI → Int32 → Prop) → Prop) (fr lo : Nat) (hfr : 8 ≤ fr) (hlo : 175 ≤ lo) (hRw : ∀ (l : Launch) (dC : Nat → ClassId) (dI : Nat → Nat → Nat) (cyB cyI cyJ cyP : ClassId) (a0 a1 jbF jbU jcK sz : Nat) (jhW jaE jcI : Value) (jb5 : Int32) (jcq : NI) (jhS jeF jcU jbM : Int32) (jdC jfY : NI) (jb7 p2 : Int32) {Q : Int32 → Int32 → Int32 → Int32 → NI → NI → Int32 → Prop} (hw : RS jb5 jcq jhS jeF jcU jbM jdC jfY jb7 p2 Q), Met l yX4_readSum wsX4_readSum ({ frames := fr, cells := 0, slots := 0, locals := lo }) (va_Pc [.ref a0, .ref a1, .int p2] (cPs (zE) l (dC, dI) (kT cyB cyI cyJ cyP) (qar a0 jbU jcK jhW jaE jb7 a1 jbF jb5 jhS jeF jcI jcU jbM jbF cyB jcq jbU cyI jdC jcK cyI jfY) sz)) (va_Qv (fun (u : Int32 × Int32 × Int32 × Int32 × NI × NI × Int32) => Q u.1 u.2.1 u.2.2.1 u.2.2.2.1 u.2.2.2.2.1 u.2.2.2.2.2.1 u.2.2.2.2.2.2) (cB (dC, dI) (kT cyB cyI cyJ cyP) (va_A (qar a0 jbU jcK jhW jaE jb7 a1 jbF jb5 jhS jeF jcI jcU jbM jbF cyB jcq jbU cyI jdC jcK cyI jfY) sz) (fun u : Int32 × Int32 × Int32 × Int32 × NI × NI × Int32 => ((qar a0 jbU jcK jhW jaE u.2.2.2.2.2.2 a1 jbF jb5 u.1 u.2.1 jcI u.2.2.1 u.2.2.2.1 jbF cyB jcq jbU cyI u.2.2.2.2.1 jcK cyI u.2.2.2.2.2.1) : va_W))) (va_A (qar a0 jbU jcK jhW jaE jb7 a1 jbF jb5 jhS jeF jcI jcU jbM jbF cyB jcq jbU cyI jdC jcK cyI jfY) sz)) 0 0 (va_A (qar a0 jbU jcK jhW jaE jb7 a1 jbF jb5 jhS jeF jcI jcU jbM jbF cyB jcq jbU cyI jdC jcK cyI jfY) sz)) (l : Launch) (dC : Nat → ClassId) (dI : Nat → Nat → Nat) (cyB cyI cyJ cyP : ClassId) (a0 a1 jbF jbU jcK sz : Nat) (jhW jaE jcI : Value) (jb5 : Int32) (jcq : NI) (jhS jeF jcU jbM : Int32) (jdC jfY : NI) (jb7 p2 p3 : Int32) {Q : Int32 → Int32 → Int32 → Int32 → NI → NI → Int32 → Prop} (hw : qBg RS jb5 jcq jhS jeF jcU jbM jdC jfY jb7 p2 p3 Q) : Met l yX4_readPair wsX4_readPair ({ frames := fr + 1, cells := 0, slots := 0, locals := lo + 24 }) (va_Pc [.ref a0, .ref a1, .int p2, .int p3] (cPs (zE) l (dC, dI) (kT cyB cyI cyJ cyP) (qar a0 jbU jcK jhW jaE jb7 a1 jbF jb5 jhS jeF jcI jcU jbM jbF cyB jcq jbU cyI jdC jcK cyI jfY) sz)) (va_Qv (fun (u : Int32 × Int32 × Int32 × Int32 × NI × NI × Int32) => Q u.1 u.2.1 u.2.2.1 u.2.2.2.1 u.2.2.2.2.1 u.2.2.2.2.2.1 u.2.2.2.2.2.2) (cB (dC, dI) (kT cyB cyI cyJ cyP) (va_A (qar a0 jbU jcK jhW jaE jb7 a1 jbF jb5 jhS jeF jcI jcU jbM jbF cyB jcq jbU cyI jdC jcK cyI jfY) sz) (fun u : Int32 × Int32 × Int32 × Int32 × NI × NI × Int32 => ((qar a0 jbU jcK jhW jaE u.2.2.2.2.2.2 a1 jbF jb5 u.1 u.2.1 jcI u.2.2.1 u.2.2.2.1 jbF cyB jcq jbU cyI u.2.2.2.2.1 jcK cyI u.2.2.2.2.2.1) : va_W))) (va_A (qar a0 jbU jcK jhW jaE jb7 a1 jbF jb5 jhS jeF jcI jcU jbM jbF cyB jcq jbU cyI jdC jcK cyI jfY) sz)) 0 0 (va_A (qar a0 jbU jcK jhW jaE jb7 a1 jbF jb5 jhS jeF jcI jcU jbM jbF cyB jcq jbU cyI jdC jcK cyI jfY) sz) := by
  refine Met.ofW (cc := cX4_readPair) (maxL := 4) (ret := none) (by decide) rfl ?_
  intro p e s m args below meth c s₁ B hml hv
  obtain ⟨rfl, ⟨hsz, hP, hK, hD0, hNw, hXl, hXu, hXn, hXt⟩, hE0⟩ := hv
  have hx := B.exec
  have hb := B.bytes
  have hr := B.returns
  have hts := atoms_spec (ws := wsX4_readPair) B.pre
  have hown : s.vm.findClass RX4 = some m.cls := findClass_of_methodNamed B.named
  have hlocks := B.notSynchronized
  subst hsz
  have hD := hD0.self (sz := s.heap.size)
  generalize hAe : va_A (qar a0 jbU jcK jhW jaE jb7 a1 jbF jb5 jhS jeF jcI jcU jbM jbF cyB jcq jbU cyI jdC jcK cyI jfY) s.heap.size = A at hD hXu hXn hE0 ⊢
  have hA : ∀ q : Nat, s.heap.size ≤ q → A q := fun q h => by rw [← hAe]; exact Or.inr h
  have hS : va_S A s.heap s.heap [] := va_S.rf
  have hP : va_P (dC, dI) vwCl (qar a0 jbU jcK jhW jaE jb7 a1 jbF jb5 jhS jeF jcI jcU jbM jbF cyB jcq jbU cyI jdC jcK cyI jfY) s.heap := hP
  have hl := lv_entry ([.ref a0, .ref a1, .int p2, .int p3]) (n := 4) ((by first | exact nbq rfl | (simp only [headSpec]; omega) | omega))
  rw [lg_entry_eq]
  generalize (lg_sl ([.ref a0, .ref a1, .int p2, .int p3]) ++ List.replicate (4 - (lg_sl ([.ref a0, .ref a1, .int p2, .int p3])).length) Slot.unset).toArray = ls at hl ⊢
  have hl : lv_has ls 4 [(0, .ref a0), (1, .ref a1), (2, .int p2), (3, .int p3)] := hl
  have hY : cfY l s A := ⟨hXl, hXu, hXn, hXt⟩
  have C0 : cfx p s m _ meth c cX4_readPair none wsX4_readPair RX4 4 A (dC, dI) (kT cyB cyI cyJ cyP) ∧ cfY l s A ∧ zE A s s.heap := ⟨⟨hx, hb, hr, hts, hown, hlocks, hml, hA, hK, hNw⟩, hY, hE0⟩
  have hE := hE0
  clear hAe
  obtain ⟨H, hH⟩ : ∃ H, H = s.heap := ⟨_, rfl⟩
  rw [← hH] at hP ⊢
  have hS : va_S A s.heap H [] := by rw [hH]; exact va_S.rf
  have hS := hS
  refine lv_iload_n hx hb (qaa qbs 0 rfl) rfl (lv_at hl 2 rfl) ?_
  refine lv_bipush (v := 6) hx hb (qaa qbs 1 rfl) (by decide) ?_
  refine lv_icmp_lt (tgt := 12) hx hb (qaa qbs 2 rfl) (by decide) (fun c1 => ?_) (fun c1 => ?_)
  · have hw := hw.1 c1
    refine lv_aload_n hx hb (qaa qbs 7 rfl) rfl (lv_at hl 1 rfl) ?_
    refine lv_bipush (v := 91) hx hb (qaa qbs 8 rfl) (by decide) ?_
    obtain ⟨hCc, hPc, hDc, hFc⟩ := qac (ws' := (qlf a1 jbF jb5 jhS jeF jcI jcU jbM jbF cyB jcq)) hP hD hS hA [1, 2] (by decide +kernel) rfl
    refine va_callv (va_runV (As := [.int 91]) (rest := []) ⟨hx, hb, hml, hown, hts⟩ (qtg l dC dI cyB cyI cyJ cyP a1 jbF H.size (jcI) jb5 jcq jhS jeF jcU jbM 91 hw) (cwV 1 hts gX4_readPair_X8_needs rfl rfl rfl (by decide +kernel) ⟨(by first | exact nbq rfl | (simp only [headSpec]; omega) | omega), (by first | exact nbq rfl | (simp only [headSpec]; omega) | omega)⟩) ⟨qab, va_recv (q := (RX8, TX8, 7)) hK hPc (ci := 8) (q0 := 0) rfl rfl, qae hPc hK hDc hNw⟩ rfl rfl hl.1 rfl (lv_room (nbq rfl)) (qaa qbs 9 rfl) ⟨(by first | exact nbq rfl | (simp only [headSpec]; omega) | omega), (by first | exact nbq rfl | (simp only [headSpec]; omega) | omega)⟩) hS (fun q _ h => hFc q h) hFc (fun u t H1 locs ht hvm hw hB hz1 hk1 hS => ?_)
    obtain ⟨x2, x3, x4, x5⟩ := u
    obtain ⟨hP1, hK1, hD1⟩ := hB
    rw [ht] at hP1
    obtain ⟨hP, hD⟩ := qad (wr := (qsH a0 jbU jcK jhW jaE jb7 jbU cyI jdC jcK cyI jfY)) (w1 := (qlf a1 jbF jb5 x2 x3 jcI x4 x5 jbF cyB jcq)) (wn := (qar a0 jbU jcK jhW jaE jb7 a1 jbF jb5 x2 x3 jcI x4 x5 jbF cyB jcq jbU cyI jdC jcK cyI jfY)) hP hD [1, 2] [0, 3, 4] [0, 3, 4, 1, 2] hCc rfl (by decide +kernel) (by decide +kernel) (by decide +kernel) rfl hk1 hFc hP1 hD1
    generalize H1 = H at hP hS ⊢
    refine lv_aload_n hx hb (qaa qbs 10 rfl) rfl (lv_at hl 0 rfl) ?_
    refine lv_aload_n hx hb (qaa qbs 11 rfl) rfl (lv_at hl 1 rfl) ?_
    refine lv_iload_n hx hb (qaa qbs 12 rfl) rfl (lv_at hl 2 rfl) ?_
    refine lv_iconst (v := 1) hx hb (qaa qbs 13 rfl) (by decide) ?_
    refine lv_iadd hx hb (qaa qbs 14 rfl) ?_
    refine lv_topi (fun x6 ex6 => ?_)
    have hw := hw x6 ex6
    obtain ⟨hCc, hPc, hDc, hFc⟩ := qac (ws' := (qar a0 jbU jcK jhW jaE jb7 a1 jbF jb5 x2 x3 jcI x4 x5 jbF cyB jcq jbU cyI jdC jcK cyI jfY)) hP hD hS hA [0, 1, 2, 3, 4] (by decide +kernel) rfl
    refine va_callv (va_runV (As := [.ref a1, .int x6]) (rest := []) ⟨hx, hb, hml, hown, hts⟩ (hRw l dC dI cyB cyI cyJ cyP a0 a1 jbF jbU jcK H.size (jhW) (jaE) (jcI) jb5 jcq x2 x3 x4 x5 jdC jfY jb7 x6 hw) (cwV 2 hts gX4_readPair_X4_readSum rfl rfl rfl (by decide +kernel) ⟨(by first | exact nbq rfl | (simp only [headSpec]; omega) | omega), (by first | exact nbq rfl | (simp only [headSpec]; omega) | omega)⟩) ⟨qat qsO, va_recv (q := (RX4, TX4, 5)) hK hPc (ci := 4) (q0 := 0) rfl rfl, qbg qsO hPc hK hDc hNw hY hE hS hFc⟩ rfl rfl hl.1 rfl (lv_room (nbq rfl)) (qaa qbs 15 rfl) ⟨(by first | exact nbq rfl | (simp only [headSpec]; omega) | omega), (by first | exact nbq rfl | (simp only [headSpec]; omega) | omega)⟩) hS (fun q _ h => hFc q h) hFc (fun u t H1 locs ht hvm hw hB hz1 hk1 hS => ?_)
    obtain ⟨x7, x8, x9, x10, f11, f12, x13⟩ := u
    obtain ⟨hP1, hK1, hD1⟩ := hB
    rw [ht] at hP1
    obtain ⟨hP, hD⟩ := qah (wr := []) (w1 := (qar a0 jbU jcK jhW jaE x13 a1 jbF jb5 x7 x8 jcI x9 x10 jbF cyB jcq jbU cyI f11 jcK cyI f12)) (wn := (qar a0 jbU jcK jhW jaE x13 a1 jbF jb5 x7 x8 jcI x9 x10 jbF cyB jcq jbU cyI f11 jcK cyI f12)) hP hD [0, 1, 2, 3, 4] [] hCc rfl (by decide +kernel) (by decide +kernel) rfl hk1 hFc hP1 hD1
    generalize H1 = H at hP hS ⊢
    refine lv_aload_n hx hb (qaa qd6 0 rfl) rfl (lv_at hl 1 rfl) ?_
    refine lv_bipush (v := 44) hx hb (qaa qd6 1 rfl) (by decide) ?_
    obtain ⟨hCc, hPc, hDc, hFc⟩ := qac (ws' := (qlf a1 jbF jb5 x7 x8 jcI x9 x10 jbF cyB jcq)) hP hD hS hA [1, 2] (by decide +kernel) rfl
    refine va_callv (va_runV (As := [.int 44]) (rest := []) ⟨hx, hb, hml, hown, hts⟩ (qtg l dC dI cyB cyI cyJ cyP a1 jbF H.size (jcI) jb5 jcq x7 x8 x9 x10 44 hw) (cwV 1 hts gX4_readPair_X8_needs rfl rfl rfl (by decide +kernel) ⟨(by first | exact nbq rfl | (simp only [headSpec]; omega) | omega), (by first | exact nbq rfl | (simp only [headSpec]; omega) | omega)⟩) ⟨qab, va_recv (q := (RX8, TX8, 7)) hK hPc (ci := 8) (q0 := 0) rfl rfl, qae hPc hK hDc hNw⟩ rfl rfl hl.1 rfl (lv_room (nbq rfl)) (qaa qd6 2 rfl) ⟨(by first | exact nbq rfl | (simp only [headSpec]; omega) | omega), (by first | exact nbq rfl | (simp only [headSpec]; omega) | omega)⟩) hS (fun q _ h => hFc q h) hFc (fun u t H1 locs ht hvm hw hB hz1 hk1 hS => ?_)
    obtain ⟨x14, x15, x16, x17⟩ := u
    obtain ⟨hP1, hK1, hD1⟩ := hB
    rw [ht] at hP1
    obtain ⟨hP, hD⟩ := qad (wr := (qsH a0 jbU jcK jhW jaE x13 jbU cyI f11 jcK cyI f12)) (w1 := (qlf a1 jbF jb5 x14 x15 jcI x16 x17 jbF cyB jcq)) (wn := (qar a0 jbU jcK jhW jaE x13 a1 jbF jb5 x14 x15 jcI x16 x17 jbF cyB jcq jbU cyI f11 jcK cyI f12)) hP hD [1, 2] [0, 3, 4] [0, 3, 4, 1, 2] hCc rfl (by decide +kernel) (by decide +kernel) (by decide +kernel) rfl hk1 hFc hP1 hD1
    generalize H1 = H at hP hS ⊢
    refine lv_aload_n hx hb (qaa qd6 3 rfl) rfl (lv_at hl 0 rfl) ?_
    refine lv_aload_n hx hb (qaa qd6 4 rfl) rfl (lv_at hl 1 rfl) ?_
    refine lv_iload_n hx hb (qaa qd6 5 rfl) rfl (lv_at hl 2 rfl) ?_
    refine lv_iconst (v := 1) hx hb (qaa qd6 6 rfl) (by decide) ?_
    refine lv_iadd hx hb (qaa qd6 7 rfl) ?_
    refine lv_topi (fun x18 ex18 => ?_)
    have hw := hw x18 ex18
    obtain ⟨hCc, hPc, hDc, hFc⟩ := qac (ws' := (qar a0 jbU jcK jhW jaE x13 a1 jbF jb5 x14 x15 jcI x16 x17 jbF cyB jcq jbU cyI f11 jcK cyI f12)) hP hD hS hA [0, 1, 2, 3, 4] (by decide +kernel) rfl
    refine va_callv (va_runV (As := [.ref a1, .int x18]) (rest := []) ⟨hx, hb, hml, hown, hts⟩ (hRw l dC dI cyB cyI cyJ cyP a0 a1 jbF jbU jcK H.size (jhW) (jaE) (jcI) jb5 jcq x14 x15 x16 x17 f11 f12 x13 x18 hw) (cwV 2 hts gX4_readPair_X4_readSum rfl rfl rfl (by decide +kernel) ⟨(by first | exact nbq rfl | (simp only [headSpec]; omega) | omega), (by first | exact nbq rfl | (simp only [headSpec]; omega) | omega)⟩) ⟨qat qsO, va_recv (q := (RX4, TX4, 5)) hK hPc (ci := 4) (q0 := 0) rfl rfl, qbg qsO hPc hK hDc hNw hY hE hS hFc⟩ rfl rfl hl.1 rfl (lv_room (nbq rfl)) (qaa qd6 8 rfl) ⟨(by first | exact nbq rfl | (simp only [headSpec]; omega) | omega), (by first | exact nbq rfl | (simp only [headSpec]; omega) | omega)⟩) hS (fun q _ h => hFc q h) hFc (fun u t H1 locs ht hvm hw hB hz1 hk1 hS => ?_)
    obtain ⟨x19, x20, x21, x22, f23, f24, x25⟩ := u
    obtain ⟨hP1, hK1, hD1⟩ := hB
    rw [ht] at hP1
    obtain ⟨hP, hD⟩ := qah (wr := []) (w1 := (qar a0 jbU jcK jhW jaE x25 a1 jbF jb5 x19 x20 jcI x21 x22 jbF cyB jcq jbU cyI f23 jcK cyI f24)) (wn := (qar a0 jbU jcK jhW jaE x25 a1 jbF jb5 x19 x20 jcI x21 x22 jbF cyB jcq jbU cyI f23 jcK cyI f24)) hP hD [0, 1, 2, 3, 4] [] hCc rfl (by decide +kernel) (by decide +kernel) rfl hk1 hFc hP1 hD1
    generalize H1 = H at hP hS ⊢
    refine lv_aload_n hx hb (qaa qd6 9 rfl) rfl (lv_at hl 1 rfl) ?_
    refine lv_bipush (v := 93) hx hb (qaa qd6 10 rfl) (by decide) ?_
    obtain ⟨hCc, hPc, hDc, hFc⟩ := qac (ws' := (qlf a1 jbF jb5 x19 x20 jcI x21 x22 jbF cyB jcq)) hP hD hS hA [1, 2] (by decide +kernel) rfl
    refine va_callv (va_runV (As := [.int 93]) (rest := []) ⟨hx, hb, hml, hown, hts⟩ (qtg l dC dI cyB cyI cyJ cyP a1 jbF H.size (jcI) jb5 jcq x19 x20 x21 x22 93 hw) (cwV 1 hts gX4_readPair_X8_needs rfl rfl rfl (by decide +kernel) ⟨(by first | exact nbq rfl | (simp only [headSpec]; omega) | omega), (by first | exact nbq rfl | (simp only [headSpec]; omega) | omega)⟩) ⟨qab, va_recv (q := (RX8, TX8, 7)) hK hPc (ci := 8) (q0 := 0) rfl rfl, qae hPc hK hDc hNw⟩ rfl rfl hl.1 rfl (lv_room (nbq rfl)) (qaa qd6 11 rfl) ⟨(by first | exact nbq rfl | (simp only [headSpec]; omega) | omega), (by first | exact nbq rfl | (simp only [headSpec]; omega) | omega)⟩) hS (fun q _ h => hFc q h) hFc (fun u t H1 locs ht hvm hw hB hz1 hk1 hS => ?_)
    obtain ⟨x26, x27, x28, x29⟩ := u
    obtain ⟨hP1, hK1, hD1⟩ := hB
    rw [ht] at hP1
    obtain ⟨hP, hD⟩ := qad (wr := (qsH a0 jbU jcK jhW jaE x25 jbU cyI f23 jcK cyI f24)) (w1 := (qlf a1 jbF jb5 x26 x27 jcI x28 x29 jbF cyB jcq)) (wn := (qar a0 jbU jcK jhW jaE x25 a1 jbF jb5 x26 x27 jcI x28 x29 jbF cyB jcq jbU cyI f23 jcK cyI f24)) hP hD [1, 2] [0, 3, 4] [0, 3, 4, 1, 2] hCc rfl (by decide +kernel) (by decide +kernel) (by decide +kernel) rfl hk1 hFc hP1 hD1
    generalize H1 = H at hP hS ⊢
    refine lv_aload_n hx hb (qaa qd6 12 rfl) rfl (lv_at hl 0 rfl) ?_
    refine lv_iload_n hx hb (qaa qd6 13 rfl) rfl (lv_at hl 3 rfl) ?_
    refine lv_iconst (v := 0) hx hb (qaa qd6 14 rfl) (by decide) ?_
    obtain ⟨hCc, hPc, hDc, hFc⟩ := qac (ws' := (qsH a0 jbU jcK jhW jaE x25 jbU cyI f23 jcK cyI f24)) hP hD hS hA [0, 3, 4] (by decide +kernel) rfl
    refine va_callv (va_runV (As := [.int p3, .int 0]) (rest := []) ⟨hx, hb, hml, hown, hts⟩ (qrr l dC dI cyB cyI cyJ cyP a0 jbU jcK H.size (jhW) (jaE) f23 f24 x25 p3 0 hw) (cwV 2 hts gX4_readPair_X4_add rfl rfl rfl (by decide +kernel) ⟨(by first | exact nbq rfl | (simp only [headSpec]; omega) | omega), (by first | exact nbq rfl | (simp only [headSpec]; omega) | omega)⟩) ⟨qab, va_recv (q := (RX4, TX4, 5)) hK hPc (ci := 4) (q0 := 0) rfl rfl, qae hPc hK hDc hNw⟩ rfl rfl hl.1 rfl (lv_room (nbq rfl)) (qaa qd6 15 rfl) ⟨(by first | exact nbq rfl | (simp only [headSpec]; omega) | omega), (by first | exact nbq rfl | (simp only [headSpec]; omega) | omega)⟩) hS (fun q _ h => hFc q h) hFc (fun u t H1 locs ht hvm hw hB hz1 hk1 hS => ?_)
    obtain ⟨f30, f31, x32⟩ := u
    obtain ⟨hP1, hK1, hD1⟩ := hB
    rw [ht] at hP1
    obtain ⟨hP, hD⟩ := qad (wr := (qlf a1 jbF jb5 x26 x27 jcI x28 x29 jbF cyB jcq)) (w1 := (qsH a0 jbU jcK jhW jaE x32 jbU cyI f30 jcK cyI f31)) (wn := (qar a0 jbU jcK jhW jaE x32 a1 jbF jb5 x26 x27 jcI x28 x29 jbF cyB jcq jbU cyI f30 jcK cyI f31)) hP hD [0, 3, 4] [1, 2] [2, 0, 1, 3, 4] hCc rfl (by decide +kernel) (by decide +kernel) (by decide +kernel) rfl hk1 hFc hP1 hD1
    generalize H1 = H at hP hS ⊢
    exact ((W.vret hx hb hr (fun t ht hW => ⟨⟨(x26, x27, x28, x29, f30, f31, x32), rfl, hw, by rw [ht]; exact hP, va_K.moved hW.alike hK, hD⟩, hS.F ht⟩) hS.2.2 (qaa qanH 0 rfl)))
  · have hw := hw.2 c1
    refine lv_aload_n hx hb (qaa qbs 3 rfl) rfl (lv_at hl 1 rfl) ?_
    refine lv_iconst (v := 3) hx hb (qaa qbs 4 rfl) (by decide) ?_
    obtain ⟨hCc, hPc, hDc, hFc⟩ := qac (ws' := (qSy a1 jbF jb5 jhS jeF jcI jcU jbM)) hP hD hS hA [1] (by decide +kernel) rfl
    refine va_callv (va_runV (As := [.int 3]) (rest := []) ⟨hx, hb, hml, hown, hts⟩ (qnW l dC dI cyB cyI cyJ cyP a1 H.size (.ref jbF) (.int jb5) (.int jhS) (jcI) jeF jcU jbM 3 hw) (cwV 1 hts gX4_readPair_X8_blameToken rfl rfl rfl (by decide +kernel) ⟨(by first | exact nbq rfl | (simp only [headSpec]; omega) | omega), (by first | exact nbq rfl | (simp only [headSpec]; omega) | omega)⟩) ⟨qab, va_recv (q := (RX8, TX8, 7)) hK hPc (ci := 8) (q0 := 0) rfl rfl, qae hPc hK hDc hNw⟩ rfl rfl hl.1 rfl (lv_room (nbq rfl)) (qaa qbs 5 rfl) ⟨(by first | exact nbq rfl | (simp only [headSpec]; omega) | omega), (by first | exact nbq rfl | (simp only [headSpec]; omega) | omega)⟩) hS (fun q _ h => hFc q h) hFc (fun u t H1 locs ht hvm hw hB hz1 hk1 hS => ?_)
    obtain ⟨x33, x34⟩ := u
    obtain ⟨hP1, hK1, hD1⟩ := hB
    rw [ht] at hP1
    obtain ⟨hP, hD⟩ := qad (wr := (qalF a0 jbU jcK jhW jaE jb7 jbF cyB jcq jbU cyI jdC jcK cyI jfY)) (w1 := (qSy a1 jbF jb5 jhS jeF jcI x33 x34)) (wn := (qar a0 jbU jcK jhW jaE jb7 a1 jbF jb5 jhS jeF jcI x33 x34 jbF cyB jcq jbU cyI jdC jcK cyI jfY)) hP hD [1] [0, 2, 3, 4] [0, 4, 1, 2, 3] hCc rfl (by decide +kernel) (by decide +kernel) (by decide +kernel) rfl hk1 hFc hP1 hD1
    generalize H1 = H at hP hS ⊢
    exact ((W.vret hx hb hr (fun t ht hW => ⟨⟨(jhS, jeF, x33, x34, jdC, jfY, jb7), rfl, hw, by rw [ht]; exact hP, va_K.moved hW.alike hK, hD⟩, hS.F ht⟩) hS.2.2 (qaa qbs 6 rfl)))
set_option maxHeartbeats 4000000 in
set_option maxRecDepth 100000 in
theorem qSw (RS : Int32 → NI → Int32 → Int32 → Int32 → Int32 → NI → NI → Int32 → Int32 → (Int32 → Int32 → Int32 → Int32 → NI → NI → Int32 → Prop) → Prop) (fr lo : Nat) (hfr : 8 ≤ fr) (hlo : 175 ≤ lo) (hRw : ∀ (l : Launch) (dC : Nat → ClassId) (dI : Nat → Nat → Nat) (cyB cyI cyJ cyP : ClassId) (a0 a1 jbF jbU jcK sz : Nat) (jhW jaE jcI : Value) (jb5 : Int32) (jcq : NI) (jhS jeF jcU jbM : Int32) (jdC jfY : NI) (jb7 p2 : Int32) {Q : Int32 → Int32 → Int32 → Int32 → NI → NI → Int32 → Prop} (hw : RS jb5 jcq jhS jeF jcU jbM jdC jfY jb7 p2 Q), Met l yX4_readSum wsX4_readSum ({ frames := fr, cells := 0, slots := 0, locals := lo }) (va_Pc [.ref a0, .ref a1, .int p2] (cPs (zE) l (dC, dI) (kT cyB cyI cyJ cyP) (qar a0 jbU jcK jhW jaE jb7 a1 jbF jb5 jhS jeF jcI jcU jbM jbF cyB jcq jbU cyI jdC jcK cyI jfY) sz)) (va_Qv (fun (u : Int32 × Int32 × Int32 × Int32 × NI × NI × Int32) => Q u.1 u.2.1 u.2.2.1 u.2.2.2.1 u.2.2.2.2.1 u.2.2.2.2.2.1 u.2.2.2.2.2.2) (cB (dC, dI) (kT cyB cyI cyJ cyP) (va_A (qar a0 jbU jcK jhW jaE jb7 a1 jbF jb5 jhS jeF jcI jcU jbM jbF cyB jcq jbU cyI jdC jcK cyI jfY) sz) (fun u : Int32 × Int32 × Int32 × Int32 × NI × NI × Int32 => ((qar a0 jbU jcK jhW jaE u.2.2.2.2.2.2 a1 jbF jb5 u.1 u.2.1 jcI u.2.2.1 u.2.2.2.1 jbF cyB jcq jbU cyI u.2.2.2.2.1 jcK cyI u.2.2.2.2.2.1) : va_W))) (va_A (qar a0 jbU jcK jhW jaE jb7 a1 jbF jb5 jhS jeF jcI jcU jbM jbF cyB jcq jbU cyI jdC jcK cyI jfY) sz)) 0 0 (va_A (qar a0 jbU jcK jhW jaE jb7 a1 jbF jb5 jhS jeF jcI jcU jbM jbF cyB jcq jbU cyI jdC jcK cyI jfY) sz)) (l : Launch) (dC : Nat → ClassId) (dI : Nat → Nat → Nat) (cyB cyI cyJ cyP : ClassId) (a0 a1 jbF jbU jcK sz : Nat) (jhW jaE jcI : Value) (jb5 : Int32) (jcq : NI) (jhS jeF jcU jbM : Int32) (jdC jfY : NI) (jb7 p2 : Int32) {Q : Int32 → Int32 → Int32 → Int32 → NI → NI → Int32 → Prop} (hw : qwR RS jb5 jcq jhS jeF jcU jbM jdC jfY jb7 p2 Q) : Met l yX4_readUnit wsX4_readUnit ({ frames := fr + 2, cells := 0, slots := 0, locals := lo + 47 }) (va_Pc [.ref a0, .ref a1, .int p2] (cPs (zE) l (dC, dI) (kT cyB cyI cyJ cyP) (qar a0 jbU jcK jhW jaE jb7 a1 jbF jb5 jhS jeF jcI jcU jbM jbF cyB jcq jbU cyI jdC jcK cyI jfY) sz)) (va_Qv (fun (u : Int32 × Int32 × Int32 × Int32 × NI × NI × Int32) => Q u.1 u.2.1 u.2.2.1 u.2.2.2.1 u.2.2.2.2.1 u.2.2.2.2.2.1 u.2.2.2.2.2.2) (cB (dC, dI) (kT cyB cyI cyJ cyP) (va_A (qar a0 jbU jcK jhW jaE jb7 a1 jbF jb5 jhS jeF jcI jcU jbM jbF cyB jcq jbU cyI jdC jcK cyI jfY) sz) (fun u : Int32 × Int32 × Int32 × Int32 × NI × NI × Int32 => ((qar a0 jbU jcK jhW jaE u.2.2.2.2.2.2 a1 jbF jb5 u.1 u.2.1 jcI u.2.2.1 u.2.2.2.1 jbF cyB jcq jbU cyI u.2.2.2.2.1 jcK cyI u.2.2.2.2.2.1) : va_W))) (va_A (qar a0 jbU jcK jhW jaE jb7 a1 jbF jb5 jhS jeF jcI jcU jbM jbF cyB jcq jbU cyI jdC jcK cyI jfY) sz)) 0 0 (va_A (qar a0 jbU jcK jhW jaE jb7 a1 jbF jb5 jhS jeF jcI jcU jbM jbF cyB jcq jbU cyI jdC jcK cyI jfY) sz) := by
  refine Met.ofW (cc := cX4_readUnit) (maxL := 3) (ret := none) (by decide) rfl ?_
  intro p e s m args below meth c s₁ B hml hv
  obtain ⟨rfl, ⟨hsz, hP, hK, hD0, hNw, hXl, hXu, hXn, hXt⟩, hE0⟩ := hv
  have hx := B.exec
  have hb := B.bytes
  have hr := B.returns
  have hts := atoms_spec (ws := wsX4_readUnit) B.pre
  have hown : s.vm.findClass RX4 = some m.cls := findClass_of_methodNamed B.named
  have hlocks := B.notSynchronized
  subst hsz
  have hD := hD0.self (sz := s.heap.size)
  generalize hAe : va_A (qar a0 jbU jcK jhW jaE jb7 a1 jbF jb5 jhS jeF jcI jcU jbM jbF cyB jcq jbU cyI jdC jcK cyI jfY) s.heap.size = A at hD hXu hXn hE0 ⊢
  have hA : ∀ q : Nat, s.heap.size ≤ q → A q := fun q h => by rw [← hAe]; exact Or.inr h
  have hS : va_S A s.heap s.heap [] := va_S.rf
  have hP : va_P (dC, dI) vwCl (qar a0 jbU jcK jhW jaE jb7 a1 jbF jb5 jhS jeF jcI jcU jbM jbF cyB jcq jbU cyI jdC jcK cyI jfY) s.heap := hP
  have hl := lv_entry ([.ref a0, .ref a1, .int p2]) (n := 3) ((by first | exact nbq rfl | (simp only [headSpec]; omega) | omega))
  rw [lg_entry_eq]
  generalize (lg_sl ([.ref a0, .ref a1, .int p2]) ++ List.replicate (3 - (lg_sl ([.ref a0, .ref a1, .int p2])).length) Slot.unset).toArray = ls at hl ⊢
  have hl : lv_has ls 3 [(0, .ref a0), (1, .ref a1), (2, .int p2)] := hl
  have hY : cfY l s A := ⟨hXl, hXu, hXn, hXt⟩
  have C0 : cfx p s m _ meth c cX4_readUnit none wsX4_readUnit RX4 3 A (dC, dI) (kT cyB cyI cyJ cyP) ∧ cfY l s A ∧ zE A s s.heap := ⟨⟨hx, hb, hr, hts, hown, hlocks, hml, hA, hK, hNw⟩, hY, hE0⟩
  have hE := hE0
  clear hAe
  obtain ⟨H, hH⟩ : ∃ H, H = s.heap := ⟨_, rfl⟩
  rw [← hH] at hP ⊢
  have hS : va_S A s.heap H [] := by rw [hH]; exact va_S.rf
  have hS := hS
  refine lv_aload_n hx hb (qaa qbn 0 rfl) rfl (lv_at hl 1 rfl) ?_
  obtain ⟨hCc, hPc, hDc, hFc⟩ := qac (ws' := (qlf a1 jbF jb5 jhS jeF jcI jcU jbM jbF cyB jcq)) hP hD hS hA [1, 2] (by decide +kernel) rfl
  refine va_calli (va_runV (As := []) (rest := []) ⟨hx, hb, hml, hown, hts⟩ (q1E l dC dI cyB cyI cyJ cyP a1 jbF H.size (.int jeF) (jcI) (.int jcU) (.int jbM) jb5 jcq jhS hw) (cwV 0 hts gX4_readUnit_X8_seesDigit rfl rfl rfl (by decide +kernel) ⟨(by first | exact nbq rfl | (simp only [headSpec]; omega) | omega), (by first | exact nbq rfl | (simp only [headSpec]; omega) | omega)⟩) ⟨qab, va_recv (q := (RX8, TX8, 7)) hK hPc (ci := 8) (q0 := 0) rfl rfl, qae hPc hK hDc hNw⟩ rfl rfl hl.1 rfl (lv_room (nbq rfl)) (qaa qbn 1 rfl) ⟨(by first | exact nbq rfl | (simp only [headSpec]; omega) | omega), (by first | exact nbq rfl | (simp only [headSpec]; omega) | omega)⟩) hS (fun q _ h => hFc q h) hFc (fun r2 u t H1 locs ht hvm hw hB hz1 hk1 hS => ?_)
  obtain ⟨x1, rfl⟩ : ∃ z, z = u := ⟨_, rfl⟩
  obtain ⟨hP1, hK1, hD1⟩ := hB
  rw [ht] at hP1
  obtain ⟨hP, hD⟩ := qad (wr := (qsH a0 jbU jcK jhW jaE jb7 jbU cyI jdC jcK cyI jfY)) (w1 := (qlf a1 jbF jb5 x1 jeF jcI jcU jbM jbF cyB jcq)) (wn := (qar a0 jbU jcK jhW jaE jb7 a1 jbF jb5 x1 jeF jcI jcU jbM jbF cyB jcq jbU cyI jdC jcK cyI jfY)) hP hD [1, 2] [0, 3, 4] [0, 3, 4, 1, 2] hCc rfl (by decide +kernel) (by decide +kernel) (by decide +kernel) rfl hk1 hFc hP1 hD1
  generalize H1 = H at hP hS ⊢
  refine lv_if_eq (tgt := 23) hx hb (qaa qbn 2 rfl) (by decide) (fun c3 => ?_) (fun c3 => ?_)
  · have hw := hw.1 c3
    refine lv_aload_n hx hb (qaa qbn 11 rfl) rfl (lv_at hl 1 rfl) ?_
    refine lv_bipush (v := 40) hx hb (qaa qbn 12 rfl) (by decide) ?_
    obtain ⟨hCc, hPc, hDc, hFc⟩ := qac (ws' := (qlf a1 jbF jb5 x1 jeF jcI jcU jbM jbF cyB jcq)) hP hD hS hA [1, 2] (by decide +kernel) rfl
    refine va_calli (va_runV (As := [.int 40]) (rest := []) ⟨hx, hb, hml, hown, hts⟩ (qsg l dC dI cyB cyI cyJ cyP a1 jbF H.size (jcI) (.int jbM) jb5 jcU jcq x1 jeF 40 hw) (cwV 1 hts gX4_readUnit_X8_takes rfl rfl rfl (by decide +kernel) ⟨(by first | exact nbq rfl | (simp only [headSpec]; omega) | omega), (by first | exact nbq rfl | (simp only [headSpec]; omega) | omega)⟩) ⟨qab, va_recv (q := (RX8, TX8, 7)) hK hPc (ci := 8) (q0 := 0) rfl rfl, qae hPc hK hDc hNw⟩ rfl rfl hl.1 rfl (lv_room (nbq rfl)) (qaa qbn 13 rfl) ⟨(by first | exact nbq rfl | (simp only [headSpec]; omega) | omega), (by first | exact nbq rfl | (simp only [headSpec]; omega) | omega)⟩) hS (fun q _ h => hFc q h) hFc (fun r6 u t H1 locs ht hvm hw hB hz1 hk1 hS => ?_)
    obtain ⟨x4, x5⟩ := u
    obtain ⟨hP1, hK1, hD1⟩ := hB
    rw [ht] at hP1
    obtain ⟨hP, hD⟩ := qad (wr := (qsH a0 jbU jcK jhW jaE jb7 jbU cyI jdC jcK cyI jfY)) (w1 := (qlf a1 jbF jb5 x4 x5 jcI jcU jbM jbF cyB jcq)) (wn := (qar a0 jbU jcK jhW jaE jb7 a1 jbF jb5 x4 x5 jcI jcU jbM jbF cyB jcq jbU cyI jdC jcK cyI jfY)) hP hD [1, 2] [0, 3, 4] [0, 3, 4, 1, 2] hCc rfl (by decide +kernel) (by decide +kernel) (by decide +kernel) rfl hk1 hFc hP1 hD1
    generalize H1 = H at hP hS ⊢
    refine lv_if_eq (tgt := 41) hx hb (qaa qbn 14 rfl) (by decide) (fun c7 => ?_) (fun c7 => ?_)
    · have hw := hw.1 c7
      refine lv_aload_n hx hb (qaa qbc 4 rfl) rfl (lv_at hl 1 rfl) ?_
      obtain ⟨k8, hRk8, hZk8⟩ := qa1d hE
      refine va_ldcS hx hb hown hRk8 (qaa qbc 5 rfl) ?_
      obtain ⟨hCc, hPc, hDc, hFc⟩ := qac (ws' := (qlf a1 jbF jb5 x4 x5 jcI jcU jbM jbF cyB jcq)) hP hD hS hA [1, 2] (by decide +kernel) rfl
      refine va_calli (va_runV (As := [.ref k8]) (rest := []) ⟨hx, hb, hml, hown, hts⟩ (qb9 l dC dI cyB cyI cyJ cyP a1 k8 jbF H.size (jcI) (.int jbM) 5 qR1 jb5 jcU jcq x4 x5 hw) (cwV 1 hts gX4_readUnit_X8_takesWord rfl rfl rfl (by decide +kernel) ⟨(by first | exact nbq rfl | (simp only [headSpec]; omega) | omega), (by first | exact nbq rfl | (simp only [headSpec]; omega) | omega)⟩) ⟨qat qsS, va_recv (q := (RX8, TX8, 7)) hK hPc (ci := 8) (q0 := 0) rfl rfl, qbg qsS hPc hK hDc hNw hY ⟨hE, hZk8⟩ hS hFc⟩ rfl rfl hl.1 rfl (lv_room (nbq rfl)) (qaa qbc 6 rfl) ⟨(by first | exact nbq rfl | (simp only [headSpec]; omega) | omega), (by first | exact nbq rfl | (simp only [headSpec]; omega) | omega)⟩) hS (fun q _ h => hFc q h) hFc (fun r11 u t H1 locs ht hvm hw hB hz1 hk1 hS => ?_)
      obtain ⟨x9, x10⟩ := u
      obtain ⟨hP1, hK1, hD1⟩ := hB
      rw [ht] at hP1
      obtain ⟨hP, hD⟩ := qad (wr := (qsH a0 jbU jcK jhW jaE jb7 jbU cyI jdC jcK cyI jfY)) (w1 := (qlf a1 jbF jb5 x9 x10 jcI jcU jbM jbF cyB jcq)) (wn := (qar a0 jbU jcK jhW jaE jb7 a1 jbF jb5 x9 x10 jcI jcU jbM jbF cyB jcq jbU cyI jdC jcK cyI jfY)) hP hD [1, 2] [0, 3, 4] [0, 3, 4, 1, 2] hCc rfl (by decide +kernel) (by decide +kernel) (by decide +kernel) rfl hk1 hFc hP1 hD1
      generalize H1 = H at hP hS ⊢
      refine lv_if_eq (tgt := 61) hx hb (qaa qbc 7 rfl) (by decide) (fun c12 => ?_) (fun c12 => ?_)
      · have hw := hw.1 c12
        refine lv_aload_n hx hb (qaa qbc 14 rfl) rfl (lv_at hl 1 rfl) ?_
        obtain ⟨k13, hRk13, hZk13⟩ := qa0S hE
        refine va_ldcS hx hb hown hRk13 (qaa qbc 15 rfl) ?_
        obtain ⟨hCc, hPc, hDc, hFc⟩ := qac (ws' := (qlf a1 jbF jb5 x9 x10 jcI jcU jbM jbF cyB jcq)) hP hD hS hA [1, 2] (by decide +kernel) rfl
        refine va_calli (va_runV (As := [.ref k13]) (rest := []) ⟨hx, hb, hml, hown, hts⟩ (qb9 l dC dI cyB cyI cyJ cyP a1 k13 jbF H.size (jcI) (.int jbM) 4 qRD jb5 jcU jcq x9 x10 hw) (cwV 1 hts gX4_readUnit_X8_takesWord rfl rfl rfl (by decide +kernel) ⟨(by first | exact nbq rfl | (simp only [headSpec]; omega) | omega), (by first | exact nbq rfl | (simp only [headSpec]; omega) | omega)⟩) ⟨qat qsS, va_recv (q := (RX8, TX8, 7)) hK hPc (ci := 8) (q0 := 0) rfl rfl, qbg qsS hPc hK hDc hNw hY ⟨hE, hZk13⟩ hS hFc⟩ rfl rfl hl.1 rfl (lv_room (nbq rfl)) (qaa qbd 0 rfl) ⟨(by first | exact nbq rfl | (simp only [headSpec]; omega) | omega), (by first | exact nbq rfl | (simp only [headSpec]; omega) | omega)⟩) hS (fun q _ h => hFc q h) hFc (fun r16 u t H1 locs ht hvm hw hB hz1 hk1 hS => ?_)
        obtain ⟨x14, x15⟩ := u
        obtain ⟨hP1, hK1, hD1⟩ := hB
        rw [ht] at hP1
        obtain ⟨hP, hD⟩ := qad (wr := (qsH a0 jbU jcK jhW jaE jb7 jbU cyI jdC jcK cyI jfY)) (w1 := (qlf a1 jbF jb5 x14 x15 jcI jcU jbM jbF cyB jcq)) (wn := (qar a0 jbU jcK jhW jaE jb7 a1 jbF jb5 x14 x15 jcI jcU jbM jbF cyB jcq jbU cyI jdC jcK cyI jfY)) hP hD [1, 2] [0, 3, 4] [0, 3, 4, 1, 2] hCc rfl (by decide +kernel) (by decide +kernel) (by decide +kernel) rfl hk1 hFc hP1 hD1
        generalize H1 = H at hP hS ⊢
        refine lv_if_eq (tgt := 81) hx hb (qaa qbd 1 rfl) (by decide) (fun c17 => ?_) (fun c17 => ?_)
        · have hw := hw.1 c17
          refine lv_aload_n hx hb (qaa qbd 8 rfl) rfl (lv_at hl 0 rfl) ?_
          refine lv_aload_n hx hb (qaa qbd 9 rfl) rfl (lv_at hl 1 rfl) ?_
          obtain ⟨hCc, hPc, hDc, hFc⟩ := qac (ws' := (qar a0 jbU jcK jhW jaE jb7 a1 jbF jb5 x14 x15 jcI jcU jbM jbF cyB jcq jbU cyI jdC jcK cyI jfY)) hP hD hS hA [0, 1, 2, 3, 4] (by decide +kernel) rfl
          refine va_callv (va_runV (As := [.ref a1]) (rest := []) ⟨hx, hb, hml, hown, hts⟩ (qYL l dC dI cyB cyI cyJ cyP a0 a1 jbF jbU jcK H.size (jhW) (jaE) (jcI) jb5 jcq x14 x15 jcU jbM jdC jfY jb7 hw) (cwV 1 hts gX4_readUnit_X4_readFact rfl rfl rfl (by decide +kernel) ⟨(by first | exact nbq rfl | (simp only [headSpec]; omega) | omega), (by first | exact nbq rfl | (simp only [headSpec]; omega) | omega)⟩) ⟨qat qsO, va_recv (q := (RX4, TX4, 5)) hK hPc (ci := 4) (q0 := 0) rfl rfl, qbg qsO hPc hK hDc hNw hY hE hS hFc⟩ rfl rfl hl.1 rfl (lv_room (nbq rfl)) (qaa qbd 10 rfl) ⟨(by first | exact nbq rfl | (simp only [headSpec]; omega) | omega), (by first | exact nbq rfl | (simp only [headSpec]; omega) | omega)⟩) hS (fun q _ h => hFc q h) hFc (fun u t H1 locs ht hvm hw hB hz1 hk1 hS => ?_)
          obtain ⟨x18, x19, x20, x21, f22, f23, x24⟩ := u
          obtain ⟨hP1, hK1, hD1⟩ := hB
          rw [ht] at hP1
          obtain ⟨hP, hD⟩ := qah (wr := []) (w1 := (qar a0 jbU jcK jhW jaE x24 a1 jbF jb5 x18 x19 jcI x20 x21 jbF cyB jcq jbU cyI f22 jcK cyI f23)) (wn := (qar a0 jbU jcK jhW jaE x24 a1 jbF jb5 x18 x19 jcI x20 x21 jbF cyB jcq jbU cyI f22 jcK cyI f23)) hP hD [0, 1, 2, 3, 4] [] hCc rfl (by decide +kernel) (by decide +kernel) rfl hk1 hFc hP1 hD1
          generalize H1 = H at hP hS ⊢
          exact ((W.vret hx hb hr (fun t ht hW => ⟨⟨(x18, x19, x20, x21, f22, f23, x24), rfl, hw, by rw [ht]; exact hP, va_K.moved hW.alike hK, hD⟩, hS.F ht⟩) hS.2.2 (qaa qbd 11 rfl)))
        · have hw := hw.2 c17
          refine lv_aload_n hx hb (qaa qbd 2 rfl) rfl (lv_at hl 0 rfl) ?_
          refine lv_aload_n hx hb (qaa qbd 3 rfl) rfl (lv_at hl 1 rfl) ?_
          refine lv_iload_n hx hb (qaa qbd 4 rfl) rfl (lv_at hl 2 rfl) ?_
          refine lv_bipush (v := 8) hx hb (qaa qbd 5 rfl) (by decide) ?_
          obtain ⟨hCc, hPc, hDc, hFc⟩ := qac (ws' := (qar a0 jbU jcK jhW jaE jb7 a1 jbF jb5 x14 x15 jcI jcU jbM jbF cyB jcq jbU cyI jdC jcK cyI jfY)) hP hD hS hA [0, 1, 2, 3, 4] (by decide +kernel) rfl
          refine va_callv (va_runV (As := [.ref a1, .int p2, .int 8]) (rest := []) ⟨hx, hb, hml, hown, hts⟩ (qSf RS fr lo hfr hlo hRw l dC dI cyB cyI cyJ cyP a0 a1 jbF jbU jcK H.size (jhW) (jaE) (jcI) jb5 jcq x14 x15 jcU jbM jdC jfY jb7 p2 8 hw) (cwV 3 hts gX4_readUnit_X4_readPair rfl rfl rfl (by decide +kernel) ⟨(by first | exact nbq rfl | (simp only [headSpec]; omega) | omega), (by first | exact nbq rfl | (simp only [headSpec]; omega) | omega)⟩) ⟨qat qsO, va_recv (q := (RX4, TX4, 5)) hK hPc (ci := 4) (q0 := 0) rfl rfl, qbg qsO hPc hK hDc hNw hY hE hS hFc⟩ rfl rfl hl.1 rfl (lv_room (nbq rfl)) (qaa qbd 6 rfl) ⟨(by first | exact nbq rfl | (simp only [headSpec]; omega) | omega), (by first | exact nbq rfl | (simp only [headSpec]; omega) | omega)⟩) hS (fun q _ h => hFc q h) hFc (fun u t H1 locs ht hvm hw hB hz1 hk1 hS => ?_)
          obtain ⟨x25, x26, x27, x28, f29, f30, x31⟩ := u
          obtain ⟨hP1, hK1, hD1⟩ := hB
          rw [ht] at hP1
          obtain ⟨hP, hD⟩ := qah (wr := []) (w1 := (qar a0 jbU jcK jhW jaE x31 a1 jbF jb5 x25 x26 jcI x27 x28 jbF cyB jcq jbU cyI f29 jcK cyI f30)) (wn := (qar a0 jbU jcK jhW jaE x31 a1 jbF jb5 x25 x26 jcI x27 x28 jbF cyB jcq jbU cyI f29 jcK cyI f30)) hP hD [0, 1, 2, 3, 4] [] hCc rfl (by decide +kernel) (by decide +kernel) rfl hk1 hFc hP1 hD1
          generalize H1 = H at hP hS ⊢
          refine lv_goto (tgt := 86) hx hb (qaa qbd 7 rfl) (by decide) ?_
          exact ((W.vret hx hb hr (fun t ht hW => ⟨⟨(x25, x26, x27, x28, f29, f30, x31), rfl, hw, by rw [ht]; exact hP, va_K.moved hW.alike hK, hD⟩, hS.F ht⟩) hS.2.2 (qaa qbd 11 rfl)))
      · have hw := hw.2 c12
        refine lv_aload_n hx hb (qaa qbc 8 rfl) rfl (lv_at hl 0 rfl) ?_
        refine lv_aload_n hx hb (qaa qbc 9 rfl) rfl (lv_at hl 1 rfl) ?_
        refine lv_iload_n hx hb (qaa qbc 10 rfl) rfl (lv_at hl 2 rfl) ?_
        refine lv_bipush (v := 7) hx hb (qaa qbc 11 rfl) (by decide) ?_
        obtain ⟨hCc, hPc, hDc, hFc⟩ := qac (ws' := (qar a0 jbU jcK jhW jaE jb7 a1 jbF jb5 x9 x10 jcI jcU jbM jbF cyB jcq jbU cyI jdC jcK cyI jfY)) hP hD hS hA [0, 1, 2, 3, 4] (by decide +kernel) rfl
        refine va_callv (va_runV (As := [.ref a1, .int p2, .int 7]) (rest := []) ⟨hx, hb, hml, hown, hts⟩ (qSf RS fr lo hfr hlo hRw l dC dI cyB cyI cyJ cyP a0 a1 jbF jbU jcK H.size (jhW) (jaE) (jcI) jb5 jcq x9 x10 jcU jbM jdC jfY jb7 p2 7 hw) (cwV 3 hts gX4_readUnit_X4_readPair rfl rfl rfl (by decide +kernel) ⟨(by first | exact nbq rfl | (simp only [headSpec]; omega) | omega), (by first | exact nbq rfl | (simp only [headSpec]; omega) | omega)⟩) ⟨qat qsO, va_recv (q := (RX4, TX4, 5)) hK hPc (ci := 4) (q0 := 0) rfl rfl, qbg qsO hPc hK hDc hNw hY hE hS hFc⟩ rfl rfl hl.1 rfl (lv_room (nbq rfl)) (qaa qbc 12 rfl) ⟨(by first | exact nbq rfl | (simp only [headSpec]; omega) | omega), (by first | exact nbq rfl | (simp only [headSpec]; omega) | omega)⟩) hS (fun q _ h => hFc q h) hFc (fun u t H1 locs ht hvm hw hB hz1 hk1 hS => ?_)
        obtain ⟨x32, x33, x34, x35, f36, f37, x38⟩ := u
        obtain ⟨hP1, hK1, hD1⟩ := hB
        rw [ht] at hP1
        obtain ⟨hP, hD⟩ := qah (wr := []) (w1 := (qar a0 jbU jcK jhW jaE x38 a1 jbF jb5 x32 x33 jcI x34 x35 jbF cyB jcq jbU cyI f36 jcK cyI f37)) (wn := (qar a0 jbU jcK jhW jaE x38 a1 jbF jb5 x32 x33 jcI x34 x35 jbF cyB jcq jbU cyI f36 jcK cyI f37)) hP hD [0, 1, 2, 3, 4] [] hCc rfl (by decide +kernel) (by decide +kernel) rfl hk1 hFc hP1 hD1
        generalize H1 = H at hP hS ⊢
        refine lv_goto (tgt := 86) hx hb (qaa qbc 13 rfl) (by decide) ?_
        exact ((W.vret hx hb hr (fun t ht hW => ⟨⟨(x32, x33, x34, x35, f36, f37, x38), rfl, hw, by rw [ht]; exact hP, va_K.moved hW.alike hK, hD⟩, hS.F ht⟩) hS.2.2 (qaa qbd 11 rfl)))
    · have hw := hw.2 c7
      refine lv_aload_n hx hb (qaa qbn 15 rfl) rfl (lv_at hl 0 rfl) ?_
      refine lv_aload_n hx hb (qaa qbc 0 rfl) rfl (lv_at hl 1 rfl) ?_
      refine lv_iload_n hx hb (qaa qbc 1 rfl) rfl (lv_at hl 2 rfl) ?_
      obtain ⟨hCc, hPc, hDc, hFc⟩ := qac (ws' := (qar a0 jbU jcK jhW jaE jb7 a1 jbF jb5 x4 x5 jcI jcU jbM jbF cyB jcq jbU cyI jdC jcK cyI jfY)) hP hD hS hA [0, 1, 2, 3, 4] (by decide +kernel) rfl
      refine va_callv (va_runV (As := [.ref a1, .int p2]) (rest := []) ⟨hx, hb, hml, hown, hts⟩ (q9R RS fr lo hfr hlo hRw l dC dI cyB cyI cyJ cyP a0 a1 jbF jbU jcK H.size (jhW) (jaE) (jcI) jb5 jcq x4 x5 jcU jbM jdC jfY jb7 p2 hw) (cwV 2 hts gX4_readUnit_X4_readInner rfl rfl rfl (by decide +kernel) ⟨(by first | exact nbq rfl | (simp only [headSpec]; omega) | omega), (by first | exact nbq rfl | (simp only [headSpec]; omega) | omega)⟩) ⟨qat qsO, va_recv (q := (RX4, TX4, 5)) hK hPc (ci := 4) (q0 := 0) rfl rfl, qbg qsO hPc hK hDc hNw hY hE hS hFc⟩ rfl rfl hl.1 rfl (lv_room (nbq rfl)) (qaa qbc 2 rfl) ⟨(by first | exact nbq rfl | (simp only [headSpec]; omega) | omega), (by first | exact nbq rfl | (simp only [headSpec]; omega) | omega)⟩) hS (fun q _ h => hFc q h) hFc (fun u t H1 locs ht hvm hw hB hz1 hk1 hS => ?_)
      obtain ⟨x39, x40, x41, x42, f43, f44, x45⟩ := u
      obtain ⟨hP1, hK1, hD1⟩ := hB
      rw [ht] at hP1
      obtain ⟨hP, hD⟩ := qah (wr := []) (w1 := (qar a0 jbU jcK jhW jaE x45 a1 jbF jb5 x39 x40 jcI x41 x42 jbF cyB jcq jbU cyI f43 jcK cyI f44)) (wn := (qar a0 jbU jcK jhW jaE x45 a1 jbF jb5 x39 x40 jcI x41 x42 jbF cyB jcq jbU cyI f43 jcK cyI f44)) hP hD [0, 1, 2, 3, 4] [] hCc rfl (by decide +kernel) (by decide +kernel) rfl hk1 hFc hP1 hD1
      generalize H1 = H at hP hS ⊢
      refine lv_goto (tgt := 86) hx hb (qaa qbc 3 rfl) (by decide) ?_
      exact ((W.vret hx hb hr (fun t ht hW => ⟨⟨(x39, x40, x41, x42, f43, f44, x45), rfl, hw, by rw [ht]; exact hP, va_K.moved hW.alike hK, hD⟩, hS.F ht⟩) hS.2.2 (qaa qbd 11 rfl)))
  · have hw := hw.2 c3
    refine lv_aload_n hx hb (qaa qbn 3 rfl) rfl (lv_at hl 0 rfl) ?_
    refine lv_iconst (v := 0) hx hb (qaa qbn 4 rfl) (by decide) ?_
    refine lv_aload_n hx hb (qaa qbn 5 rfl) rfl (lv_at hl 1 rfl) ?_
    refine lv_iconst (v := 0) hx hb (qaa qbn 6 rfl) (by decide) ?_
    refine lv_sipush (v := 999) hx hb (qaa qbn 7 rfl) (by decide) ?_
    obtain ⟨hCc, hPc, hDc, hFc⟩ := qac (ws' := (qlf a1 jbF jb5 x1 jeF jcI jcU jbM jbF cyB jcq)) hP hD hS hA [1, 2] (by decide +kernel) rfl
    refine va_calli (va_runV (As := [.int 0, .int 999]) (rest := [.int 0, .ref a0]) ⟨hx, hb, hml, hown, hts⟩ (qh9 l dC dI cyB cyI cyJ cyP a1 jbF H.size (jcI) jb5 jcq x1 jcU jbM jeF 0 999 hw) (cwV 2 hts gX4_readUnit_X8_number rfl rfl rfl (by decide +kernel) ⟨(by first | exact nbq rfl | (simp only [headSpec]; omega) | omega), (by first | exact nbq rfl | (simp only [headSpec]; omega) | omega)⟩) ⟨qab, va_recv (q := (RX8, TX8, 7)) hK hPc (ci := 8) (q0 := 0) rfl rfl, qae hPc hK hDc hNw⟩ rfl rfl hl.1 rfl (lv_room (nbq rfl)) (qaa qbn 8 rfl) ⟨(by first | exact nbq rfl | (simp only [headSpec]; omega) | omega), (by first | exact nbq rfl | (simp only [headSpec]; omega) | omega)⟩) hS (fun q _ h => hFc q h) hFc (fun r50 u t H1 locs ht hvm hw hB hz1 hk1 hS => ?_)
    obtain ⟨x46, x47, x48, x49⟩ := u
    obtain ⟨hP1, hK1, hD1⟩ := hB
    rw [ht] at hP1
    obtain ⟨hP, hD⟩ := qad (wr := (qsH a0 jbU jcK jhW jaE jb7 jbU cyI jdC jcK cyI jfY)) (w1 := (qlf a1 jbF jb5 x46 x49 jcI x47 x48 jbF cyB jcq)) (wn := (qar a0 jbU jcK jhW jaE jb7 a1 jbF jb5 x46 x49 jcI x47 x48 jbF cyB jcq jbU cyI jdC jcK cyI jfY)) hP hD [1, 2] [0, 3, 4] [0, 3, 4, 1, 2] hCc rfl (by decide +kernel) (by decide +kernel) (by decide +kernel) rfl hk1 hFc hP1 hD1
    generalize H1 = H at hP hS ⊢
    obtain ⟨hCc, hPc, hDc, hFc⟩ := qac (ws' := (qsH a0 jbU jcK jhW jaE jb7 jbU cyI jdC jcK cyI jfY)) hP hD hS hA [0, 3, 4] (by decide +kernel) rfl
    refine va_callv (va_runV (As := [.int 0, .int r50]) (rest := []) ⟨hx, hb, hml, hown, hts⟩ (qrr l dC dI cyB cyI cyJ cyP a0 jbU jcK H.size (jhW) (jaE) jdC jfY jb7 0 r50 hw) (cwV 2 hts gX4_readUnit_X4_add rfl rfl rfl (by decide +kernel) ⟨(by first | exact nbq rfl | (simp only [headSpec]; omega) | omega), (by first | exact nbq rfl | (simp only [headSpec]; omega) | omega)⟩) ⟨qab, va_recv (q := (RX4, TX4, 5)) hK hPc (ci := 4) (q0 := 0) rfl rfl, qae hPc hK hDc hNw⟩ rfl rfl hl.1 rfl (lv_room (nbq rfl)) (qaa qbn 9 rfl) ⟨(by first | exact nbq rfl | (simp only [headSpec]; omega) | omega), (by first | exact nbq rfl | (simp only [headSpec]; omega) | omega)⟩) hS (fun q _ h => hFc q h) hFc (fun u t H1 locs ht hvm hw hB hz1 hk1 hS => ?_)
    obtain ⟨f51, f52, x53⟩ := u
    obtain ⟨hP1, hK1, hD1⟩ := hB
    rw [ht] at hP1
    obtain ⟨hP, hD⟩ := qad (wr := (qlf a1 jbF jb5 x46 x49 jcI x47 x48 jbF cyB jcq)) (w1 := (qsH a0 jbU jcK jhW jaE x53 jbU cyI f51 jcK cyI f52)) (wn := (qar a0 jbU jcK jhW jaE x53 a1 jbF jb5 x46 x49 jcI x47 x48 jbF cyB jcq jbU cyI f51 jcK cyI f52)) hP hD [0, 3, 4] [1, 2] [2, 0, 1, 3, 4] hCc rfl (by decide +kernel) (by decide +kernel) (by decide +kernel) rfl hk1 hFc hP1 hD1
    generalize H1 = H at hP hS ⊢
    refine lv_goto (tgt := 86) hx hb (qaa qbn 10 rfl) (by decide) ?_
    exact ((W.vret hx hb hr (fun t ht hW => ⟨⟨(x46, x49, x47, x48, f51, f52, x53), rfl, hw, by rw [ht]; exact hP, va_K.moved hW.alike hK, hD⟩, hS.F ht⟩) hS.2.2 (qaa qbd 11 rfl)))
set_option maxHeartbeats 4000000 in
set_option maxRecDepth 100000 in
theorem quv (RS : Int32 → NI → Int32 → Int32 → Int32 → Int32 → NI → NI → Int32 → Int32 → (Int32 → Int32 → Int32 → Int32 → NI → NI → Int32 → Prop) → Prop) (fr lo : Nat) (hfr : 8 ≤ fr) (hlo : 175 ≤ lo) (hRw : ∀ (l : Launch) (dC : Nat → ClassId) (dI : Nat → Nat → Nat) (cyB cyI cyJ cyP : ClassId) (a0 a1 jbF jbU jcK sz : Nat) (jhW jaE jcI : Value) (jb5 : Int32) (jcq : NI) (jhS jeF jcU jbM : Int32) (jdC jfY : NI) (jb7 p2 : Int32) {Q : Int32 → Int32 → Int32 → Int32 → NI → NI → Int32 → Prop} (hw : RS jb5 jcq jhS jeF jcU jbM jdC jfY jb7 p2 Q), Met l yX4_readSum wsX4_readSum ({ frames := fr, cells := 0, slots := 0, locals := lo }) (va_Pc [.ref a0, .ref a1, .int p2] (cPs (zE) l (dC, dI) (kT cyB cyI cyJ cyP) (qar a0 jbU jcK jhW jaE jb7 a1 jbF jb5 jhS jeF jcI jcU jbM jbF cyB jcq jbU cyI jdC jcK cyI jfY) sz)) (va_Qv (fun (u : Int32 × Int32 × Int32 × Int32 × NI × NI × Int32) => Q u.1 u.2.1 u.2.2.1 u.2.2.2.1 u.2.2.2.2.1 u.2.2.2.2.2.1 u.2.2.2.2.2.2) (cB (dC, dI) (kT cyB cyI cyJ cyP) (va_A (qar a0 jbU jcK jhW jaE jb7 a1 jbF jb5 jhS jeF jcI jcU jbM jbF cyB jcq jbU cyI jdC jcK cyI jfY) sz) (fun u : Int32 × Int32 × Int32 × Int32 × NI × NI × Int32 => ((qar a0 jbU jcK jhW jaE u.2.2.2.2.2.2 a1 jbF jb5 u.1 u.2.1 jcI u.2.2.1 u.2.2.2.1 jbF cyB jcq jbU cyI u.2.2.2.2.1 jcK cyI u.2.2.2.2.2.1) : va_W))) (va_A (qar a0 jbU jcK jhW jaE jb7 a1 jbF jb5 jhS jeF jcI jcU jbM jbF cyB jcq jbU cyI jdC jcK cyI jfY) sz)) 0 0 (va_A (qar a0 jbU jcK jhW jaE jb7 a1 jbF jb5 jhS jeF jcI jcU jbM jbF cyB jcq jbU cyI jdC jcK cyI jfY) sz)) {p : Program} {l : Launch} {e : Env} {s : State} {m : MethodId} {args : Array Value} {below : List Frame} {meth : Method} {c : Code} {A : Nat → Prop} (dC : Nat → ClassId) (dI : Nat → Nat → Nat) (cyB cyI cyJ cyP : ClassId) (a0 a1 jbF jbU jcK : Nat) (jhW jaE jcI : Value) (jb5 : Int32) (jcq : NI) (Q : Int32 → Int32 → Int32 → Int32 → NI → NI → Int32 → Prop) (K8 : Int32 → Int32 → Int32 → Int32 → NI → NI → Int32 → Int32 → Int32 → Prop) (hK8 : ∀ (H : Heap) (locs : List Loc) (ls : Array Slot) (jhS jeF jcU jbM : Int32) (jdC jfY : NI) (jb7 l2 l3 : Int32), va_P (dC, dI) vwCl (qar a0 jbU jcK jhW jaE jb7 a1 jbF jb5 jhS jeF jcI jcU jbM jbF cyB jcq jbU cyI jdC jcK cyI jfY) H → va_D A (qar a0 jbU jcK jhW jaE jb7 a1 jbF jb5 jhS jeF jcI jcU jbM jbF cyB jcq jbU cyI jdC jcK cyI jfY) → va_S A s.heap H locs → lv_has ls 5 [(0, .ref a0), (1, .ref a1), (2, .int l2), (3, .int l3)] → K8 jhS jeF jcU jbM jdC jfY jb7 l2 l3 → W p l e (headSpec wsX4_readProduct ({ frames := fr + 3, cells := 0, slots := 0, locals := lo + 69 })).room s m args below meth c H locs 0 0 (MQ below (va_Qv (fun (u : Int32 × Int32 × Int32 × Int32 × NI × NI × Int32) => Q u.1 u.2.1 u.2.2.1 u.2.2.2.1 u.2.2.2.2.1 u.2.2.2.2.2.1 u.2.2.2.2.2.2) (cB (dC, dI) (kT cyB cyI cyJ cyP) A (fun u : Int32 × Int32 × Int32 × Int32 × NI × NI × Int32 => ((qar a0 jbU jcK jhW jaE u.2.2.2.2.2.2 a1 jbF jb5 u.1 u.2.1 jcI u.2.2.1 u.2.2.2.1 jbF cyB jcq jbU cyI u.2.2.2.2.1 jcK cyI u.2.2.2.2.2.1) : va_W))) A) args s 0 0 A) (F0 m 8 ls [])) (C0 : cfx p s m args meth c cX4_readProduct none wsX4_readProduct RX4 5 A (dC, dI) (kT cyB cyI cyJ cyP) ∧ cfY l s A ∧ zE A s s.heap) : ∀ (H : Heap) (locs : List Loc) (ls : Array Slot) (jhS jeF jcU jbM : Int32) (jdC jfY : NI) (jb7 l2 l3 s0 : Int32), va_P (dC, dI) vwCl (qar a0 jbU jcK jhW jaE jb7 a1 jbF jb5 jhS jeF jcI jcU jbM jbF cyB jcq jbU cyI jdC jcK cyI jfY) H → va_D A (qar a0 jbU jcK jhW jaE jb7 a1 jbF jb5 jhS jeF jcI jcU jbM jbF cyB jcq jbU cyI jdC jcK cyI jfY) → va_S A s.heap H locs → lv_has ls 5 [(0, .ref a0), (1, .ref a1), (2, .int l2), (3, .int l3)] → qo0 RS jb5 jcq Q K8 jhS jeF jcU jbM jdC jfY jb7 l2 l3 s0 → W p l e (headSpec wsX4_readProduct ({ frames := fr + 3, cells := 0, slots := 0, locals := lo + 69 })).room s m args below meth c H locs 0 0 (MQ below (va_Qv (fun (u : Int32 × Int32 × Int32 × Int32 × NI × NI × Int32) => Q u.1 u.2.1 u.2.2.1 u.2.2.2.1 u.2.2.2.2.1 u.2.2.2.2.2.1 u.2.2.2.2.2.2) (cB (dC, dI) (kT cyB cyI cyJ cyP) A (fun u : Int32 × Int32 × Int32 × Int32 × NI × NI × Int32 => ((qar a0 jbU jcK jhW jaE u.2.2.2.2.2.2 a1 jbF jb5 u.1 u.2.1 jcI u.2.2.1 u.2.2.2.1 jbF cyB jcq jbU cyI u.2.2.2.2.1 jcK cyI u.2.2.2.2.2.1) : va_W))) A) args s 0 0 A) (F0 m 63 ls [.int s0]) := by
  obtain ⟨⟨hx, hb, hr, hts, hown, hlocks, hml, hA, hK, hNw⟩, hY, hE0⟩ := id C0
  have hE := hE0
  intro H locs ls jhS jeF jcU jbM jdC jfY jb7 l2 l3 s0 hP hD hS hl hw
  refine lv_istore (lv' := [(4, .int s0), (0, .ref a0), (1, .ref a1), (2, .int l2), (3, .int l3)]) hx hb (qaa qaF 15 rfl) hl (by decide) rfl (fun ls hl => ?_)
  refine lv_iload hx hb (qaa qaE 0 rfl) (lv_at hl 0 rfl) ?_
  refine lv_iconst (v := (-1)) hx hb (qaa qaE 1 rfl) (by decide) ?_
  refine lv_icmp_ne (tgt := 72) hx hb (qaa qaE 2 rfl) (by decide) (fun c23 => ?_) (fun c23 => ?_)
  · have hw := hw.1 c23
    refine lv_aload_n hx hb (qaa qaE 4 rfl) rfl (lv_at hl 1 rfl) ?_
    refine lv_aload_n hx hb (qaa qaE 5 rfl) rfl (lv_at hl 2 rfl) ?_
    refine lv_iload_n hx hb (qaa qaE 6 rfl) rfl (lv_at hl 3 rfl) ?_
    obtain ⟨hCc, hPc, hDc, hFc⟩ := qac (ws' := (qar a0 jbU jcK jhW jaE jb7 a1 jbF jb5 jhS jeF jcI jcU jbM jbF cyB jcq jbU cyI jdC jcK cyI jfY)) hP hD hS hA [0, 1, 2, 3, 4] (by decide +kernel) rfl
    refine va_callv (va_runV (As := [.ref a1, .int l2]) (rest := []) ⟨hx, hb, hml, hown, hts⟩ (qSw RS fr lo hfr hlo hRw l dC dI cyB cyI cyJ cyP a0 a1 jbF jbU jcK H.size (jhW) (jaE) (jcI) jb5 jcq jhS jeF jcU jbM jdC jfY jb7 l2 hw) (cwV 2 hts gX4_readProduct_X4_readUnit rfl rfl rfl (by decide +kernel) ⟨(by first | exact nbq rfl | (simp only [headSpec]; omega) | omega), (by first | exact nbq rfl | (simp only [headSpec]; omega) | omega)⟩) ⟨qat qsO, va_recv (q := (RX4, TX4, 5)) hK hPc (ci := 4) (q0 := 0) rfl rfl, qbg qsO hPc hK hDc hNw hY hE hS hFc⟩ rfl rfl hl.1 rfl (lv_room (nbq rfl)) (qaa qaE 7 rfl) ⟨(by first | exact nbq rfl | (simp only [headSpec]; omega) | omega), (by first | exact nbq rfl | (simp only [headSpec]; omega) | omega)⟩) hS (fun q _ h => hFc q h) hFc (fun u t H1 locs ht hvm hw hB hz1 hk1 hS => ?_)
    obtain ⟨x24, x25, x26, x27, f28, f29, x30⟩ := u
    obtain ⟨hP1, hK1, hD1⟩ := hB
    rw [ht] at hP1
    obtain ⟨hP, hD⟩ := qah (wr := []) (w1 := (qar a0 jbU jcK jhW jaE x30 a1 jbF jb5 x24 x25 jcI x26 x27 jbF cyB jcq jbU cyI f28 jcK cyI f29)) (wn := (qar a0 jbU jcK jhW jaE x30 a1 jbF jb5 x24 x25 jcI x26 x27 jbF cyB jcq jbU cyI f28 jcK cyI f29)) hP hD [0, 1, 2, 3, 4] [] hCc rfl (by decide +kernel) (by decide +kernel) rfl hk1 hFc hP1 hD1
    generalize H1 = H at hP hS ⊢
    refine lv_aload_n hx hb (qaa qaE 8 rfl) rfl (lv_at hl 1 rfl) ?_
    refine lv_iload hx hb (qaa qaE 9 rfl) (lv_at hl 0 rfl) ?_
    refine lv_iconst (v := 0) hx hb (qaa qaE 10 rfl) (by decide) ?_
    obtain ⟨hCc, hPc, hDc, hFc⟩ := qac (ws' := (qsH a0 jbU jcK jhW jaE x30 jbU cyI f28 jcK cyI f29)) hP hD hS hA [0, 3, 4] (by decide +kernel) rfl
    refine va_callv (va_runV (As := [.int s0, .int 0]) (rest := []) ⟨hx, hb, hml, hown, hts⟩ (qrr l dC dI cyB cyI cyJ cyP a0 jbU jcK H.size (jhW) (jaE) f28 f29 x30 s0 0 hw) (cwV 2 hts gX4_readProduct_X4_add rfl rfl rfl (by decide +kernel) ⟨(by first | exact nbq rfl | (simp only [headSpec]; omega) | omega), (by first | exact nbq rfl | (simp only [headSpec]; omega) | omega)⟩) ⟨qab, va_recv (q := (RX4, TX4, 5)) hK hPc (ci := 4) (q0 := 0) rfl rfl, qae hPc hK hDc hNw⟩ rfl rfl hl.1 rfl (lv_room (nbq rfl)) (qaa qaE 11 rfl) ⟨(by first | exact nbq rfl | (simp only [headSpec]; omega) | omega), (by first | exact nbq rfl | (simp only [headSpec]; omega) | omega)⟩) hS (fun q _ h => hFc q h) hFc (fun u t H1 locs ht hvm hw hB hz1 hk1 hS => ?_)
    obtain ⟨f31, f32, x33⟩ := u
    obtain ⟨hP1, hK1, hD1⟩ := hB
    rw [ht] at hP1
    obtain ⟨hP, hD⟩ := qad (wr := (qlf a1 jbF jb5 x24 x25 jcI x26 x27 jbF cyB jcq)) (w1 := (qsH a0 jbU jcK jhW jaE x33 jbU cyI f31 jcK cyI f32)) (wn := (qar a0 jbU jcK jhW jaE x33 a1 jbF jb5 x24 x25 jcI x26 x27 jbF cyB jcq jbU cyI f31 jcK cyI f32)) hP hD [0, 3, 4] [1, 2] [2, 0, 1, 3, 4] hCc rfl (by decide +kernel) (by decide +kernel) (by decide +kernel) rfl hk1 hFc hP1 hD1
    generalize H1 = H at hP hS ⊢
    obtain ⟨x34, ex34⟩ : ∃ y : Int32, y = l3 + 1 := ⟨_, rfl⟩
    have hw := hw x34 ex34
    refine lv_iinc (v := x34) (lv' := [(3, .int x34), (4, .int s0), (0, .ref a0), (1, .ref a1), (2, .int l2)]) hx hb (qaa qaE 12 rfl) hl (k := 4) rfl (by rw [ex34]; rfl) (by decide) rfl (fun ls hl => ?_)
    refine lv_goto (tgt := 8) hx hb (qaa qaE 13 rfl) (by decide) ?_
    exact hK8 _ _ _ x24 x25 x26 x27 f31 f32 x33 l2 x34 hP hD hS (lv_sub hl [2, 3, 4, 0] rfl) hw
  · have hw := hw.2 c23
    exact ((W.vret hx hb hr (fun t ht hW => ⟨⟨(jhS, jeF, jcU, jbM, jdC, jfY, jb7), rfl, hw, by rw [ht]; exact hP, va_K.moved hW.alike hK, hD⟩, hS.F ht⟩) hS.2.2 (qaa qaE 3 rfl)))
set_option maxHeartbeats 4000000 in
set_option maxRecDepth 100000 in
theorem qXh (RS : Int32 → NI → Int32 → Int32 → Int32 → Int32 → NI → NI → Int32 → Int32 → (Int32 → Int32 → Int32 → Int32 → NI → NI → Int32 → Prop) → Prop) (fr lo : Nat) (hfr : 8 ≤ fr) (hlo : 175 ≤ lo) (hRw : ∀ (l : Launch) (dC : Nat → ClassId) (dI : Nat → Nat → Nat) (cyB cyI cyJ cyP : ClassId) (a0 a1 jbF jbU jcK sz : Nat) (jhW jaE jcI : Value) (jb5 : Int32) (jcq : NI) (jhS jeF jcU jbM : Int32) (jdC jfY : NI) (jb7 p2 : Int32) {Q : Int32 → Int32 → Int32 → Int32 → NI → NI → Int32 → Prop} (hw : RS jb5 jcq jhS jeF jcU jbM jdC jfY jb7 p2 Q), Met l yX4_readSum wsX4_readSum ({ frames := fr, cells := 0, slots := 0, locals := lo }) (va_Pc [.ref a0, .ref a1, .int p2] (cPs (zE) l (dC, dI) (kT cyB cyI cyJ cyP) (qar a0 jbU jcK jhW jaE jb7 a1 jbF jb5 jhS jeF jcI jcU jbM jbF cyB jcq jbU cyI jdC jcK cyI jfY) sz)) (va_Qv (fun (u : Int32 × Int32 × Int32 × Int32 × NI × NI × Int32) => Q u.1 u.2.1 u.2.2.1 u.2.2.2.1 u.2.2.2.2.1 u.2.2.2.2.2.1 u.2.2.2.2.2.2) (cB (dC, dI) (kT cyB cyI cyJ cyP) (va_A (qar a0 jbU jcK jhW jaE jb7 a1 jbF jb5 jhS jeF jcI jcU jbM jbF cyB jcq jbU cyI jdC jcK cyI jfY) sz) (fun u : Int32 × Int32 × Int32 × Int32 × NI × NI × Int32 => ((qar a0 jbU jcK jhW jaE u.2.2.2.2.2.2 a1 jbF jb5 u.1 u.2.1 jcI u.2.2.1 u.2.2.2.1 jbF cyB jcq jbU cyI u.2.2.2.2.1 jcK cyI u.2.2.2.2.2.1) : va_W))) (va_A (qar a0 jbU jcK jhW jaE jb7 a1 jbF jb5 jhS jeF jcI jcU jbM jbF cyB jcq jbU cyI jdC jcK cyI jfY) sz)) 0 0 (va_A (qar a0 jbU jcK jhW jaE jb7 a1 jbF jb5 jhS jeF jcI jcU jbM jbF cyB jcq jbU cyI jdC jcK cyI jfY) sz)) {p : Program} {l : Launch} {e : Env} {s : State} {m : MethodId} {args : Array Value} {below : List Frame} {meth : Method} {c : Code} {A : Nat → Prop} (dC : Nat → ClassId) (dI : Nat → Nat → Nat) (cyB cyI cyJ cyP : ClassId) (a0 a1 jbF jbU jcK : Nat) (jhW jaE jcI : Value) (jb5 : Int32) (jcq : NI) (Q : Int32 → Int32 → Int32 → Int32 → NI → NI → Int32 → Prop) (C0 : cfx p s m args meth c cX4_readProduct none wsX4_readProduct RX4 5 A (dC, dI) (kT cyB cyI cyJ cyP) ∧ cfY l s A ∧ zE A s s.heap) : ∀ (n : Nat) (H : Heap) (locs : List Loc) (ls : Array Slot) (jhS jeF jcU jbM : Int32) (jdC jfY : NI) (jb7 l2 l3 : Int32), va_P (dC, dI) vwCl (qar a0 jbU jcK jhW jaE jb7 a1 jbF jb5 jhS jeF jcI jcU jbM jbF cyB jcq jbU cyI jdC jcK cyI jfY) H → va_D A (qar a0 jbU jcK jhW jaE jb7 a1 jbF jb5 jhS jeF jcI jcU jbM jbF cyB jcq jbU cyI jdC jcK cyI jfY) → va_S A s.heap H locs → lv_has ls 5 [(0, .ref a0), (1, .ref a1), (2, .int l2), (3, .int l3)] → qc0 RS jb5 jcq Q n jhS jeF jcU jbM jdC jfY jb7 l2 l3 → W p l e (headSpec wsX4_readProduct ({ frames := fr + 3, cells := 0, slots := 0, locals := lo + 69 })).room s m args below meth c H locs 0 0 (MQ below (va_Qv (fun (u : Int32 × Int32 × Int32 × Int32 × NI × NI × Int32) => Q u.1 u.2.1 u.2.2.1 u.2.2.2.1 u.2.2.2.2.1 u.2.2.2.2.2.1 u.2.2.2.2.2.2) (cB (dC, dI) (kT cyB cyI cyJ cyP) A (fun u : Int32 × Int32 × Int32 × Int32 × NI × NI × Int32 => ((qar a0 jbU jcK jhW jaE u.2.2.2.2.2.2 a1 jbF jb5 u.1 u.2.1 jcI u.2.2.1 u.2.2.2.1 jbF cyB jcq jbU cyI u.2.2.2.2.1 jcK cyI u.2.2.2.2.2.1) : va_W))) A) args s 0 0 A) (F0 m 8 ls []) := by
  obtain ⟨⟨hx, hb, hr, hts, hown, hlocks, hml, hA, hK, hNw⟩, hY, hE0⟩ := id C0
  have hE := hE0
  intro n
  induction n with
  | zero => intro H locs ls jhS jeF jcU jbM jdC jfY jb7 l2 l3 hP hD hS hl hw; exact False.elim hw
  | succ n ih =>
    intro H locs ls jhS jeF jcU jbM jdC jfY jb7 l2 l3 hP hD hS hl hw
    refine lv_iload_n hx hb (qaa qaQ 6 rfl) rfl (lv_at hl 3 rfl) ?_
    refine lv_sipush (v := 150) hx hb (qaa qaQ 7 rfl) (by decide) ?_
    refine lv_icmp_ge (tgt := 91) hx hb (qaa qaQ 8 rfl) (by decide) (fun c8 => ?_) (fun c8 => ?_)
    · have hw := hw.1 c8
      exact ((W.vret hx hb hr (fun t ht hW => ⟨⟨(jhS, jeF, jcU, jbM, jdC, jfY, jb7), rfl, hw, by rw [ht]; exact hP, va_K.moved hW.alike hK, hD⟩, hS.F ht⟩) hS.2.2 (qaa qaE 14 rfl)))
    · have hw := hw.2 c8
      refine lv_aload_n hx hb (qaa qaQ 9 rfl) rfl (lv_at hl 1 rfl) ?_
      obtain ⟨hCc, hPc, hDc, hFc⟩ := qac (ws' := (qSy a1 jbF jb5 jhS jeF jcI jcU jbM)) hP hD hS hA [1] (by decide +kernel) rfl
      refine va_calli (va_runV (As := []) (rest := []) ⟨hx, hb, hml, hown, hts⟩ (qkj l dC dI cyB cyI cyJ cyP a1 H.size (.ref jbF) (.int jb5) (.int jhS) (.int jeF) (jcI) (.int jbM) jcU hw) (cwV 0 hts gX4_readProduct_X8_isFaulty rfl rfl rfl (by decide +kernel) ⟨(by first | exact nbq rfl | (simp only [headSpec]; omega) | omega), (by first | exact nbq rfl | (simp only [headSpec]; omega) | omega)⟩) ⟨qab, va_recv (q := (RX8, TX8, 7)) hK hPc (ci := 8) (q0 := 0) rfl rfl, qae hPc hK hDc hNw⟩ rfl rfl hl.1 rfl (lv_room (nbq rfl)) (qaa qaQ 10 rfl) ⟨(by first | exact nbq rfl | (simp only [headSpec]; omega) | omega), (by first | exact nbq rfl | (simp only [headSpec]; omega) | omega)⟩) hS (fun q _ h => hFc q h) hFc (fun r9 u t H1 locs ht hvm hw hB hz1 hk1 hS => ?_)
      obtain ⟨hP1, hK1, hD1⟩ := hB
      rw [ht] at hP1
      obtain ⟨hP, hD⟩ := qad (wr := (qalF a0 jbU jcK jhW jaE jb7 jbF cyB jcq jbU cyI jdC jcK cyI jfY)) (w1 := (qSy a1 jbF jb5 jhS jeF jcI jcU jbM)) (wn := (qar a0 jbU jcK jhW jaE jb7 a1 jbF jb5 jhS jeF jcI jcU jbM jbF cyB jcq jbU cyI jdC jcK cyI jfY)) hP hD [1] [0, 2, 3, 4] [0, 4, 1, 2, 3] hCc rfl (by decide +kernel) (by decide +kernel) (by decide +kernel) rfl hk1 hFc hP1 hD1
      generalize H1 = H at hP hS ⊢
      refine lv_if_ne (tgt := 91) hx hb (qaa qaQ 11 rfl) (by decide) (fun c10 => ?_) (fun c10 => ?_)
      · have hw := hw.1 c10
        exact ((W.vret hx hb hr (fun t ht hW => ⟨⟨(jhS, jeF, jcU, jbM, jdC, jfY, jb7), rfl, hw, by rw [ht]; exact hP, va_K.moved hW.alike hK, hD⟩, hS.F ht⟩) hS.2.2 (qaa qaE 14 rfl)))
      · have hw := hw.2 c10
        refine lv_aload_n hx hb (qaa qaQ 12 rfl) rfl (lv_at hl 1 rfl) ?_
        refine lv_bipush (v := 42) hx hb (qaa qaQ 13 rfl) (by decide) ?_
        obtain ⟨hCc, hPc, hDc, hFc⟩ := qac (ws' := (qlf a1 jbF jb5 jhS jeF jcI jcU jbM jbF cyB jcq)) hP hD hS hA [1, 2] (by decide +kernel) rfl
        refine va_calli (va_runV (As := [.int 42]) (rest := []) ⟨hx, hb, hml, hown, hts⟩ (qsg l dC dI cyB cyI cyJ cyP a1 jbF H.size (jcI) (.int jbM) jb5 jcU jcq jhS jeF 42 hw) (cwV 1 hts gX4_readProduct_X8_takes rfl rfl rfl (by decide +kernel) ⟨(by first | exact nbq rfl | (simp only [headSpec]; omega) | omega), (by first | exact nbq rfl | (simp only [headSpec]; omega) | omega)⟩) ⟨qab, va_recv (q := (RX8, TX8, 7)) hK hPc (ci := 8) (q0 := 0) rfl rfl, qae hPc hK hDc hNw⟩ rfl rfl hl.1 rfl (lv_room (nbq rfl)) (qaa qaQ 14 rfl) ⟨(by first | exact nbq rfl | (simp only [headSpec]; omega) | omega), (by first | exact nbq rfl | (simp only [headSpec]; omega) | omega)⟩) hS (fun q _ h => hFc q h) hFc (fun r13 u t H1 locs ht hvm hw hB hz1 hk1 hS => ?_)
        obtain ⟨x11, x12⟩ := u
        obtain ⟨hP1, hK1, hD1⟩ := hB
        rw [ht] at hP1
        obtain ⟨hP, hD⟩ := qad (wr := (qsH a0 jbU jcK jhW jaE jb7 jbU cyI jdC jcK cyI jfY)) (w1 := (qlf a1 jbF jb5 x11 x12 jcI jcU jbM jbF cyB jcq)) (wn := (qar a0 jbU jcK jhW jaE jb7 a1 jbF jb5 x11 x12 jcI jcU jbM jbF cyB jcq jbU cyI jdC jcK cyI jfY)) hP hD [1, 2] [0, 3, 4] [0, 3, 4, 1, 2] hCc rfl (by decide +kernel) (by decide +kernel) (by decide +kernel) rfl hk1 hFc hP1 hD1
        generalize H1 = H at hP hS ⊢
        refine lv_if_eq (tgt := 35) hx hb (qaa qaQ 15 rfl) (by decide) (fun c14 => ?_) (fun c14 => ?_)
        · have hw := hw.1 c14
          refine lv_aload_n hx hb (qaa qaF 2 rfl) rfl (lv_at hl 1 rfl) ?_
          refine lv_bipush (v := 47) hx hb (qaa qaF 3 rfl) (by decide) ?_
          obtain ⟨hCc, hPc, hDc, hFc⟩ := qac (ws' := (qlf a1 jbF jb5 x11 x12 jcI jcU jbM jbF cyB jcq)) hP hD hS hA [1, 2] (by decide +kernel) rfl
          refine va_calli (va_runV (As := [.int 47]) (rest := []) ⟨hx, hb, hml, hown, hts⟩ (qsg l dC dI cyB cyI cyJ cyP a1 jbF H.size (jcI) (.int jbM) jb5 jcU jcq x11 x12 47 hw) (cwV 1 hts gX4_readProduct_X8_takes rfl rfl rfl (by decide +kernel) ⟨(by first | exact nbq rfl | (simp only [headSpec]; omega) | omega), (by first | exact nbq rfl | (simp only [headSpec]; omega) | omega)⟩) ⟨qab, va_recv (q := (RX8, TX8, 7)) hK hPc (ci := 8) (q0 := 0) rfl rfl, qae hPc hK hDc hNw⟩ rfl rfl hl.1 rfl (lv_room (nbq rfl)) (qaa qaF 4 rfl) ⟨(by first | exact nbq rfl | (simp only [headSpec]; omega) | omega), (by first | exact nbq rfl | (simp only [headSpec]; omega) | omega)⟩) hS (fun q _ h => hFc q h) hFc (fun r17 u t H1 locs ht hvm hw hB hz1 hk1 hS => ?_)
          obtain ⟨x15, x16⟩ := u
          obtain ⟨hP1, hK1, hD1⟩ := hB
          rw [ht] at hP1
          obtain ⟨hP, hD⟩ := qad (wr := (qsH a0 jbU jcK jhW jaE jb7 jbU cyI jdC jcK cyI jfY)) (w1 := (qlf a1 jbF jb5 x15 x16 jcI jcU jbM jbF cyB jcq)) (wn := (qar a0 jbU jcK jhW jaE jb7 a1 jbF jb5 x15 x16 jcI jcU jbM jbF cyB jcq jbU cyI jdC jcK cyI jfY)) hP hD [1, 2] [0, 3, 4] [0, 3, 4, 1, 2] hCc rfl (by decide +kernel) (by decide +kernel) (by decide +kernel) rfl hk1 hFc hP1 hD1
          generalize H1 = H at hP hS ⊢
          refine lv_if_eq (tgt := 48) hx hb (qaa qaF 5 rfl) (by decide) (fun c18 => ?_) (fun c18 => ?_)
          · have hw := hw.1 c18
            refine lv_aload_n hx hb (qaa qaF 8 rfl) rfl (lv_at hl 1 rfl) ?_
            refine lv_bipush (v := 37) hx hb (qaa qaF 9 rfl) (by decide) ?_
            obtain ⟨hCc, hPc, hDc, hFc⟩ := qac (ws' := (qlf a1 jbF jb5 x15 x16 jcI jcU jbM jbF cyB jcq)) hP hD hS hA [1, 2] (by decide +kernel) rfl
            refine va_calli (va_runV (As := [.int 37]) (rest := []) ⟨hx, hb, hml, hown, hts⟩ (qsg l dC dI cyB cyI cyJ cyP a1 jbF H.size (jcI) (.int jbM) jb5 jcU jcq x15 x16 37 hw) (cwV 1 hts gX4_readProduct_X8_takes rfl rfl rfl (by decide +kernel) ⟨(by first | exact nbq rfl | (simp only [headSpec]; omega) | omega), (by first | exact nbq rfl | (simp only [headSpec]; omega) | omega)⟩) ⟨qab, va_recv (q := (RX8, TX8, 7)) hK hPc (ci := 8) (q0 := 0) rfl rfl, qae hPc hK hDc hNw⟩ rfl rfl hl.1 rfl (lv_room (nbq rfl)) (qaa qaF 10 rfl) ⟨(by first | exact nbq rfl | (simp only [headSpec]; omega) | omega), (by first | exact nbq rfl | (simp only [headSpec]; omega) | omega)⟩) hS (fun q _ h => hFc q h) hFc (fun r21 u t H1 locs ht hvm hw hB hz1 hk1 hS => ?_)
            obtain ⟨x19, x20⟩ := u
            obtain ⟨hP1, hK1, hD1⟩ := hB
            rw [ht] at hP1
            obtain ⟨hP, hD⟩ := qad (wr := (qsH a0 jbU jcK jhW jaE jb7 jbU cyI jdC jcK cyI jfY)) (w1 := (qlf a1 jbF jb5 x19 x20 jcI jcU jbM jbF cyB jcq)) (wn := (qar a0 jbU jcK jhW jaE jb7 a1 jbF jb5 x19 x20 jcI jcU jbM jbF cyB jcq jbU cyI jdC jcK cyI jfY)) hP hD [1, 2] [0, 3, 4] [0, 3, 4, 1, 2] hCc rfl (by decide +kernel) (by decide +kernel) (by decide +kernel) rfl hk1 hFc hP1 hD1
            generalize H1 = H at hP hS ⊢
            refine lv_if_eq (tgt := 62) hx hb (qaa qaF 11 rfl) (by decide) (fun c22 => ?_) (fun c22 => ?_)
            · have hw := hw.1 c22
              refine lv_iconst (v := (-1)) hx hb (qaa qaF 14 rfl) (by decide) ?_
              exact quv RS fr lo hfr hlo hRw dC dI cyB cyI cyJ cyP a0 a1 jbF jbU jcK jhW jaE jcI jb5 jcq Q (qc0 RS jb5 jcq Q n) ih C0 _ _ _ x19 x20 jcU jbM jdC jfY jb7 l2 l3 (-1) hP hD hS (lv_sub hl [0, 1, 2, 3] rfl) hw
            · have hw := hw.2 c22
              refine lv_bipush (v := 6) hx hb (qaa qaF 12 rfl) (by decide) ?_
              refine lv_goto (tgt := 63) hx hb (qaa qaF 13 rfl) (by decide) ?_
              exact quv RS fr lo hfr hlo hRw dC dI cyB cyI cyJ cyP a0 a1 jbF jbU jcK jhW jaE jcI jb5 jcq Q (qc0 RS jb5 jcq Q n) ih C0 _ _ _ x19 x20 jcU jbM jdC jfY jb7 l2 l3 6 hP hD hS (lv_sub hl [0, 1, 2, 3] rfl) hw
          · have hw := hw.2 c18
            refine lv_iconst (v := 5) hx hb (qaa qaF 6 rfl) (by decide) ?_
            refine lv_goto (tgt := 63) hx hb (qaa qaF 7 rfl) (by decide) ?_
            exact quv RS fr lo hfr hlo hRw dC dI cyB cyI cyJ cyP a0 a1 jbF jbU jcK jhW jaE jcI jb5 jcq Q (qc0 RS jb5 jcq Q n) ih C0 _ _ _ x15 x16 jcU jbM jdC jfY jb7 l2 l3 5 hP hD hS (lv_sub hl [0, 1, 2, 3] rfl) hw
        · have hw := hw.2 c14
          refine lv_iconst (v := 4) hx hb (qaa qaF 0 rfl) (by decide) ?_
          refine lv_goto (tgt := 63) hx hb (qaa qaF 1 rfl) (by decide) ?_
          exact quv RS fr lo hfr hlo hRw dC dI cyB cyI cyJ cyP a0 a1 jbF jbU jcK jhW jaE jcI jb5 jcq Q (qc0 RS jb5 jcq Q n) ih C0 _ _ _ x11 x12 jcU jbM jdC jfY jb7 l2 l3 4 hP hD hS (lv_sub hl [0, 1, 2, 3] rfl) hw
set_option maxHeartbeats 4000000 in
set_option maxRecDepth 100000 in
theorem qLl (RS : Int32 → NI → Int32 → Int32 → Int32 → Int32 → NI → NI → Int32 → Int32 → (Int32 → Int32 → Int32 → Int32 → NI → NI → Int32 → Prop) → Prop) (fr lo : Nat) (hfr : 8 ≤ fr) (hlo : 175 ≤ lo) (hRw : ∀ (l : Launch) (dC : Nat → ClassId) (dI : Nat → Nat → Nat) (cyB cyI cyJ cyP : ClassId) (a0 a1 jbF jbU jcK sz : Nat) (jhW jaE jcI : Value) (jb5 : Int32) (jcq : NI) (jhS jeF jcU jbM : Int32) (jdC jfY : NI) (jb7 p2 : Int32) {Q : Int32 → Int32 → Int32 → Int32 → NI → NI → Int32 → Prop} (hw : RS jb5 jcq jhS jeF jcU jbM jdC jfY jb7 p2 Q), Met l yX4_readSum wsX4_readSum ({ frames := fr, cells := 0, slots := 0, locals := lo }) (va_Pc [.ref a0, .ref a1, .int p2] (cPs (zE) l (dC, dI) (kT cyB cyI cyJ cyP) (qar a0 jbU jcK jhW jaE jb7 a1 jbF jb5 jhS jeF jcI jcU jbM jbF cyB jcq jbU cyI jdC jcK cyI jfY) sz)) (va_Qv (fun (u : Int32 × Int32 × Int32 × Int32 × NI × NI × Int32) => Q u.1 u.2.1 u.2.2.1 u.2.2.2.1 u.2.2.2.2.1 u.2.2.2.2.2.1 u.2.2.2.2.2.2) (cB (dC, dI) (kT cyB cyI cyJ cyP) (va_A (qar a0 jbU jcK jhW jaE jb7 a1 jbF jb5 jhS jeF jcI jcU jbM jbF cyB jcq jbU cyI jdC jcK cyI jfY) sz) (fun u : Int32 × Int32 × Int32 × Int32 × NI × NI × Int32 => ((qar a0 jbU jcK jhW jaE u.2.2.2.2.2.2 a1 jbF jb5 u.1 u.2.1 jcI u.2.2.1 u.2.2.2.1 jbF cyB jcq jbU cyI u.2.2.2.2.1 jcK cyI u.2.2.2.2.2.1) : va_W))) (va_A (qar a0 jbU jcK jhW jaE jb7 a1 jbF jb5 jhS jeF jcI jcU jbM jbF cyB jcq jbU cyI jdC jcK cyI jfY) sz)) 0 0 (va_A (qar a0 jbU jcK jhW jaE jb7 a1 jbF jb5 jhS jeF jcI jcU jbM jbF cyB jcq jbU cyI jdC jcK cyI jfY) sz)) (l : Launch) (dC : Nat → ClassId) (dI : Nat → Nat → Nat) (cyB cyI cyJ cyP : ClassId) (a0 a1 jbF jbU jcK sz : Nat) (jhW jaE jcI : Value) (jb5 : Int32) (jcq : NI) (jhS jeF jcU jbM : Int32) (jdC jfY : NI) (jb7 p2 : Int32) {Q : Int32 → Int32 → Int32 → Int32 → NI → NI → Int32 → Prop} (hw : qub RS jb5 jcq jhS jeF jcU jbM jdC jfY jb7 p2 Q) : Met l yX4_readProduct wsX4_readProduct ({ frames := fr + 3, cells := 0, slots := 0, locals := lo + 69 }) (va_Pc [.ref a0, .ref a1, .int p2] (cPs (zE) l (dC, dI) (kT cyB cyI cyJ cyP) (qar a0 jbU jcK jhW jaE jb7 a1 jbF jb5 jhS jeF jcI jcU jbM jbF cyB jcq jbU cyI jdC jcK cyI jfY) sz)) (va_Qv (fun (u : Int32 × Int32 × Int32 × Int32 × NI × NI × Int32) => Q u.1 u.2.1 u.2.2.1 u.2.2.2.1 u.2.2.2.2.1 u.2.2.2.2.2.1 u.2.2.2.2.2.2) (cB (dC, dI) (kT cyB cyI cyJ cyP) (va_A (qar a0 jbU jcK jhW jaE jb7 a1 jbF jb5 jhS jeF jcI jcU jbM jbF cyB jcq jbU cyI jdC jcK cyI jfY) sz) (fun u : Int32 × Int32 × Int32 × Int32 × NI × NI × Int32 => ((qar a0 jbU jcK jhW jaE u.2.2.2.2.2.2 a1 jbF jb5 u.1 u.2.1 jcI u.2.2.1 u.2.2.2.1 jbF cyB jcq jbU cyI u.2.2.2.2.1 jcK cyI u.2.2.2.2.2.1) : va_W))) (va_A (qar a0 jbU jcK jhW jaE jb7 a1 jbF jb5 jhS jeF jcI jcU jbM jbF cyB jcq jbU cyI jdC jcK cyI jfY) sz)) 0 0 (va_A (qar a0 jbU jcK jhW jaE jb7 a1 jbF jb5 jhS jeF jcI jcU jbM jbF cyB jcq jbU cyI jdC jcK cyI jfY) sz) := by
  refine Met.ofW (cc := cX4_readProduct) (maxL := 5) (ret := none) (by decide) rfl ?_
  intro p e s m args below meth c s₁ B hml hv
  obtain ⟨rfl, ⟨hsz, hP, hK, hD0, hNw, hXl, hXu, hXn, hXt⟩, hE0⟩ := hv
  have hx := B.exec
  have hb := B.bytes
  have hr := B.returns
  have hts := atoms_spec (ws := wsX4_readProduct) B.pre
  have hown : s.vm.findClass RX4 = some m.cls := findClass_of_methodNamed B.named
  have hlocks := B.notSynchronized
  subst hsz
  have hD := hD0.self (sz := s.heap.size)
  generalize hAe : va_A (qar a0 jbU jcK jhW jaE jb7 a1 jbF jb5 jhS jeF jcI jcU jbM jbF cyB jcq jbU cyI jdC jcK cyI jfY) s.heap.size = A at hD hXu hXn hE0 ⊢
  have hA : ∀ q : Nat, s.heap.size ≤ q → A q := fun q h => by rw [← hAe]; exact Or.inr h
  have hS : va_S A s.heap s.heap [] := va_S.rf
  have hP : va_P (dC, dI) vwCl (qar a0 jbU jcK jhW jaE jb7 a1 jbF jb5 jhS jeF jcI jcU jbM jbF cyB jcq jbU cyI jdC jcK cyI jfY) s.heap := hP
  have hl := lv_entry ([.ref a0, .ref a1, .int p2]) (n := 5) ((by first | exact nbq rfl | (simp only [headSpec]; omega) | omega))
  rw [lg_entry_eq]
  generalize (lg_sl ([.ref a0, .ref a1, .int p2]) ++ List.replicate (5 - (lg_sl ([.ref a0, .ref a1, .int p2])).length) Slot.unset).toArray = ls at hl ⊢
  have hl : lv_has ls 5 [(0, .ref a0), (1, .ref a1), (2, .int p2)] := hl
  have hY : cfY l s A := ⟨hXl, hXu, hXn, hXt⟩
  have C0 : cfx p s m _ meth c cX4_readProduct none wsX4_readProduct RX4 5 A (dC, dI) (kT cyB cyI cyJ cyP) ∧ cfY l s A ∧ zE A s s.heap := ⟨⟨hx, hb, hr, hts, hown, hlocks, hml, hA, hK, hNw⟩, hY, hE0⟩
  have hE := hE0
  clear hAe
  obtain ⟨H, hH⟩ : ∃ H, H = s.heap := ⟨_, rfl⟩
  rw [← hH] at hP ⊢
  have hS : va_S A s.heap H [] := by rw [hH]; exact va_S.rf
  have hS := hS
  refine lv_aload_n hx hb (qaa qaQ 0 rfl) rfl (lv_at hl 0 rfl) ?_
  refine lv_aload_n hx hb (qaa qaQ 1 rfl) rfl (lv_at hl 1 rfl) ?_
  refine lv_iload_n hx hb (qaa qaQ 2 rfl) rfl (lv_at hl 2 rfl) ?_
  obtain ⟨hCc, hPc, hDc, hFc⟩ := qac (ws' := (qar a0 jbU jcK jhW jaE jb7 a1 jbF jb5 jhS jeF jcI jcU jbM jbF cyB jcq jbU cyI jdC jcK cyI jfY)) hP hD hS hA [0, 1, 2, 3, 4] (by decide +kernel) rfl
  refine va_callv (va_runV (As := [.ref a1, .int p2]) (rest := []) ⟨hx, hb, hml, hown, hts⟩ (qSw RS fr lo hfr hlo hRw l dC dI cyB cyI cyJ cyP a0 a1 jbF jbU jcK H.size (jhW) (jaE) (jcI) jb5 jcq jhS jeF jcU jbM jdC jfY jb7 p2 hw) (cwV 2 hts gX4_readProduct_X4_readUnit rfl rfl rfl (by decide +kernel) ⟨(by first | exact nbq rfl | (simp only [headSpec]; omega) | omega), (by first | exact nbq rfl | (simp only [headSpec]; omega) | omega)⟩) ⟨qat qsO, va_recv (q := (RX4, TX4, 5)) hK hPc (ci := 4) (q0 := 0) rfl rfl, qbg qsO hPc hK hDc hNw hY hE hS hFc⟩ rfl rfl hl.1 rfl (lv_room (nbq rfl)) (qaa qaQ 3 rfl) ⟨(by first | exact nbq rfl | (simp only [headSpec]; omega) | omega), (by first | exact nbq rfl | (simp only [headSpec]; omega) | omega)⟩) hS (fun q _ h => hFc q h) hFc (fun u t H1 locs ht hvm hw hB hz1 hk1 hS => ?_)
  obtain ⟨x1, x2, x3, x4, f5, f6, x7⟩ := u
  obtain ⟨hP1, hK1, hD1⟩ := hB
  rw [ht] at hP1
  obtain ⟨hP, hD⟩ := qah (wr := []) (w1 := (qar a0 jbU jcK jhW jaE x7 a1 jbF jb5 x1 x2 jcI x3 x4 jbF cyB jcq jbU cyI f5 jcK cyI f6)) (wn := (qar a0 jbU jcK jhW jaE x7 a1 jbF jb5 x1 x2 jcI x3 x4 jbF cyB jcq jbU cyI f5 jcK cyI f6)) hP hD [0, 1, 2, 3, 4] [] hCc rfl (by decide +kernel) (by decide +kernel) rfl hk1 hFc hP1 hD1
  generalize H1 = H at hP hS ⊢
  refine lv_iconst (v := 0) hx hb (qaa qaQ 4 rfl) (by decide) ?_
  refine lv_istore_n (lv' := [(3, .int 0), (0, .ref a0), (1, .ref a1), (2, .int p2)]) hx hb (qaa qaQ 5 rfl) rfl hl (by decide) rfl (fun ls hl => ?_)
  obtain ⟨n9, hw⟩ := hw
  exact qXh RS fr lo hfr hlo hRw dC dI cyB cyI cyJ cyP a0 a1 jbF jbU jcK jhW jaE jcI jb5 jcq Q C0 n9 _ _ _ x1 x2 x3 x4 f5 f6 x7 p2 0 hP hD hS (lv_sub hl [1, 2, 3, 0] rfl) hw
set_option maxHeartbeats 4000000 in
set_option maxRecDepth 100000 in
theorem qDJ (RS : Int32 → NI → Int32 → Int32 → Int32 → Int32 → NI → NI → Int32 → Int32 → (Int32 → Int32 → Int32 → Int32 → NI → NI → Int32 → Prop) → Prop) (fr lo : Nat) (hfr : 8 ≤ fr) (hlo : 175 ≤ lo) (hRw : ∀ (l : Launch) (dC : Nat → ClassId) (dI : Nat → Nat → Nat) (cyB cyI cyJ cyP : ClassId) (a0 a1 jbF jbU jcK sz : Nat) (jhW jaE jcI : Value) (jb5 : Int32) (jcq : NI) (jhS jeF jcU jbM : Int32) (jdC jfY : NI) (jb7 p2 : Int32) {Q : Int32 → Int32 → Int32 → Int32 → NI → NI → Int32 → Prop} (hw : RS jb5 jcq jhS jeF jcU jbM jdC jfY jb7 p2 Q), Met l yX4_readSum wsX4_readSum ({ frames := fr, cells := 0, slots := 0, locals := lo }) (va_Pc [.ref a0, .ref a1, .int p2] (cPs (zE) l (dC, dI) (kT cyB cyI cyJ cyP) (qar a0 jbU jcK jhW jaE jb7 a1 jbF jb5 jhS jeF jcI jcU jbM jbF cyB jcq jbU cyI jdC jcK cyI jfY) sz)) (va_Qv (fun (u : Int32 × Int32 × Int32 × Int32 × NI × NI × Int32) => Q u.1 u.2.1 u.2.2.1 u.2.2.2.1 u.2.2.2.2.1 u.2.2.2.2.2.1 u.2.2.2.2.2.2) (cB (dC, dI) (kT cyB cyI cyJ cyP) (va_A (qar a0 jbU jcK jhW jaE jb7 a1 jbF jb5 jhS jeF jcI jcU jbM jbF cyB jcq jbU cyI jdC jcK cyI jfY) sz) (fun u : Int32 × Int32 × Int32 × Int32 × NI × NI × Int32 => ((qar a0 jbU jcK jhW jaE u.2.2.2.2.2.2 a1 jbF jb5 u.1 u.2.1 jcI u.2.2.1 u.2.2.2.1 jbF cyB jcq jbU cyI u.2.2.2.2.1 jcK cyI u.2.2.2.2.2.1) : va_W))) (va_A (qar a0 jbU jcK jhW jaE jb7 a1 jbF jb5 jhS jeF jcI jcU jbM jbF cyB jcq jbU cyI jdC jcK cyI jfY) sz)) 0 0 (va_A (qar a0 jbU jcK jhW jaE jb7 a1 jbF jb5 jhS jeF jcI jcU jbM jbF cyB jcq jbU cyI jdC jcK cyI jfY) sz)) {p : Program} {l : Launch} {e : Env} {s : State} {m : MethodId} {args : Array Value} {below : List Frame} {meth : Method} {c : Code} {A : Nat → Prop} (dC : Nat → ClassId) (dI : Nat → Nat → Nat) (cyB cyI cyJ cyP : ClassId) (a0 a1 jbF jbU jcK : Nat) (jhW jaE jcI : Value) (jb5 : Int32) (jcq : NI) (Q : Int32 → Int32 → Int32 → Int32 → NI → NI → Int32 → Prop) (K8 : Int32 → Int32 → Int32 → Int32 → NI → NI → Int32 → Int32 → Int32 → Prop) (hK8 : ∀ (H : Heap) (locs : List Loc) (ls : Array Slot) (jhS jeF jcU jbM : Int32) (jdC jfY : NI) (jb7 l2 l3 : Int32), va_P (dC, dI) vwCl (qar a0 jbU jcK jhW jaE jb7 a1 jbF jb5 jhS jeF jcI jcU jbM jbF cyB jcq jbU cyI jdC jcK cyI jfY) H → va_D A (qar a0 jbU jcK jhW jaE jb7 a1 jbF jb5 jhS jeF jcI jcU jbM jbF cyB jcq jbU cyI jdC jcK cyI jfY) → va_S A s.heap H locs → lv_has ls 5 [(0, .ref a0), (1, .ref a1), (2, .int l2), (3, .int l3)] → K8 jhS jeF jcU jbM jdC jfY jb7 l2 l3 → W p l e (headSpec wsX4_readSum ({ frames := fr + 4, cells := 0, slots := 0, locals := lo + 93 })).room s m args below meth c H locs 0 0 (MQ below (va_Qv (fun (u : Int32 × Int32 × Int32 × Int32 × NI × NI × Int32) => Q u.1 u.2.1 u.2.2.1 u.2.2.2.1 u.2.2.2.2.1 u.2.2.2.2.2.1 u.2.2.2.2.2.2) (cB (dC, dI) (kT cyB cyI cyJ cyP) A (fun u : Int32 × Int32 × Int32 × Int32 × NI × NI × Int32 => ((qar a0 jbU jcK jhW jaE u.2.2.2.2.2.2 a1 jbF jb5 u.1 u.2.1 jcI u.2.2.1 u.2.2.2.1 jbF cyB jcq jbU cyI u.2.2.2.2.1 jcK cyI u.2.2.2.2.2.1) : va_W))) A) args s 0 0 A) (F0 m 8 ls [])) (C0 : cfx p s m args meth c cX4_readSum none wsX4_readSum RX4 5 A (dC, dI) (kT cyB cyI cyJ cyP) ∧ cfY l s A ∧ zE A s s.heap) : ∀ (H : Heap) (locs : List Loc) (ls : Array Slot) (jhS jeF jcU jbM : Int32) (jdC jfY : NI) (jb7 l2 l3 s0 : Int32), va_P (dC, dI) vwCl (qar a0 jbU jcK jhW jaE jb7 a1 jbF jb5 jhS jeF jcI jcU jbM jbF cyB jcq jbU cyI jdC jcK cyI jfY) H → va_D A (qar a0 jbU jcK jhW jaE jb7 a1 jbF jb5 jhS jeF jcI jcU jbM jbF cyB jcq jbU cyI jdC jcK cyI jfY) → va_S A s.heap H locs → lv_has ls 5 [(0, .ref a0), (1, .ref a1), (2, .int l2), (3, .int l3)] → quU RS jb5 jcq Q K8 jhS jeF jcU jbM jdC jfY jb7 l2 l3 s0 → W p l e (headSpec wsX4_readSum ({ frames := fr + 4, cells := 0, slots := 0, locals := lo + 93 })).room s m args below meth c H locs 0 0 (MQ below (va_Qv (fun (u : Int32 × Int32 × Int32 × Int32 × NI × NI × Int32) => Q u.1 u.2.1 u.2.2.1 u.2.2.2.1 u.2.2.2.2.1 u.2.2.2.2.2.1 u.2.2.2.2.2.2) (cB (dC, dI) (kT cyB cyI cyJ cyP) A (fun u : Int32 × Int32 × Int32 × Int32 × NI × NI × Int32 => ((qar a0 jbU jcK jhW jaE u.2.2.2.2.2.2 a1 jbF jb5 u.1 u.2.1 jcI u.2.2.1 u.2.2.2.1 jbF cyB jcq jbU cyI u.2.2.2.2.1 jcK cyI u.2.2.2.2.2.1) : va_W))) A) args s 0 0 A) (F0 m 49 ls [.int s0]) := by
  obtain ⟨⟨hx, hb, hr, hts, hown, hlocks, hml, hA, hK, hNw⟩, hY, hE0⟩ := id C0
  have hE := hE0
  intro H locs ls jhS jeF jcU jbM jdC jfY jb7 l2 l3 s0 hP hD hS hl hw
  refine lv_istore (lv' := [(4, .int s0), (0, .ref a0), (1, .ref a1), (2, .int l2), (3, .int l3)]) hx hb (qaa qbo 9 rfl) hl (by decide) rfl (fun ls hl => ?_)
  refine lv_iload hx hb (qaa qbo 10 rfl) (lv_at hl 0 rfl) ?_
  refine lv_iconst (v := (-1)) hx hb (qaa qbo 11 rfl) (by decide) ?_
  refine lv_icmp_ne (tgt := 58) hx hb (qaa qbo 12 rfl) (by decide) (fun c19 => ?_) (fun c19 => ?_)
  · have hw := hw.1 c19
    refine lv_aload_n hx hb (qaa qbo 14 rfl) rfl (lv_at hl 1 rfl) ?_
    refine lv_aload_n hx hb (qaa qbo 15 rfl) rfl (lv_at hl 2 rfl) ?_
    refine lv_iload_n hx hb (qaa qcF 0 rfl) rfl (lv_at hl 3 rfl) ?_
    obtain ⟨hCc, hPc, hDc, hFc⟩ := qac (ws' := (qar a0 jbU jcK jhW jaE jb7 a1 jbF jb5 jhS jeF jcI jcU jbM jbF cyB jcq jbU cyI jdC jcK cyI jfY)) hP hD hS hA [0, 1, 2, 3, 4] (by decide +kernel) rfl
    refine va_callv (va_runV (As := [.ref a1, .int l2]) (rest := []) ⟨hx, hb, hml, hown, hts⟩ (qLl RS fr lo hfr hlo hRw l dC dI cyB cyI cyJ cyP a0 a1 jbF jbU jcK H.size (jhW) (jaE) (jcI) jb5 jcq jhS jeF jcU jbM jdC jfY jb7 l2 hw) (cwV 2 hts gX4_readSum_X4_readProduct rfl rfl rfl (by decide +kernel) ⟨(by first | exact nbq rfl | (simp only [headSpec]; omega) | omega), (by first | exact nbq rfl | (simp only [headSpec]; omega) | omega)⟩) ⟨qat qsO, va_recv (q := (RX4, TX4, 5)) hK hPc (ci := 4) (q0 := 0) rfl rfl, qbg qsO hPc hK hDc hNw hY hE hS hFc⟩ rfl rfl hl.1 rfl (lv_room (nbq rfl)) (qaa qcF 1 rfl) ⟨(by first | exact nbq rfl | (simp only [headSpec]; omega) | omega), (by first | exact nbq rfl | (simp only [headSpec]; omega) | omega)⟩) hS (fun q _ h => hFc q h) hFc (fun u t H1 locs ht hvm hw hB hz1 hk1 hS => ?_)
    obtain ⟨x20, x21, x22, x23, f24, f25, x26⟩ := u
    obtain ⟨hP1, hK1, hD1⟩ := hB
    rw [ht] at hP1
    obtain ⟨hP, hD⟩ := qah (wr := []) (w1 := (qar a0 jbU jcK jhW jaE x26 a1 jbF jb5 x20 x21 jcI x22 x23 jbF cyB jcq jbU cyI f24 jcK cyI f25)) (wn := (qar a0 jbU jcK jhW jaE x26 a1 jbF jb5 x20 x21 jcI x22 x23 jbF cyB jcq jbU cyI f24 jcK cyI f25)) hP hD [0, 1, 2, 3, 4] [] hCc rfl (by decide +kernel) (by decide +kernel) rfl hk1 hFc hP1 hD1
    generalize H1 = H at hP hS ⊢
    refine lv_aload_n hx hb (qaa qcF 2 rfl) rfl (lv_at hl 1 rfl) ?_
    refine lv_iload hx hb (qaa qcF 3 rfl) (lv_at hl 0 rfl) ?_
    refine lv_iconst (v := 0) hx hb (qaa qcF 4 rfl) (by decide) ?_
    obtain ⟨hCc, hPc, hDc, hFc⟩ := qac (ws' := (qsH a0 jbU jcK jhW jaE x26 jbU cyI f24 jcK cyI f25)) hP hD hS hA [0, 3, 4] (by decide +kernel) rfl
    refine va_callv (va_runV (As := [.int s0, .int 0]) (rest := []) ⟨hx, hb, hml, hown, hts⟩ (qrr l dC dI cyB cyI cyJ cyP a0 jbU jcK H.size (jhW) (jaE) f24 f25 x26 s0 0 hw) (cwV 2 hts gX4_readSum_X4_add rfl rfl rfl (by decide +kernel) ⟨(by first | exact nbq rfl | (simp only [headSpec]; omega) | omega), (by first | exact nbq rfl | (simp only [headSpec]; omega) | omega)⟩) ⟨qab, va_recv (q := (RX4, TX4, 5)) hK hPc (ci := 4) (q0 := 0) rfl rfl, qae hPc hK hDc hNw⟩ rfl rfl hl.1 rfl (lv_room (nbq rfl)) (qaa qcF 5 rfl) ⟨(by first | exact nbq rfl | (simp only [headSpec]; omega) | omega), (by first | exact nbq rfl | (simp only [headSpec]; omega) | omega)⟩) hS (fun q _ h => hFc q h) hFc (fun u t H1 locs ht hvm hw hB hz1 hk1 hS => ?_)
    obtain ⟨f27, f28, x29⟩ := u
    obtain ⟨hP1, hK1, hD1⟩ := hB
    rw [ht] at hP1
    obtain ⟨hP, hD⟩ := qad (wr := (qlf a1 jbF jb5 x20 x21 jcI x22 x23 jbF cyB jcq)) (w1 := (qsH a0 jbU jcK jhW jaE x29 jbU cyI f27 jcK cyI f28)) (wn := (qar a0 jbU jcK jhW jaE x29 a1 jbF jb5 x20 x21 jcI x22 x23 jbF cyB jcq jbU cyI f27 jcK cyI f28)) hP hD [0, 3, 4] [1, 2] [2, 0, 1, 3, 4] hCc rfl (by decide +kernel) (by decide +kernel) (by decide +kernel) rfl hk1 hFc hP1 hD1
    generalize H1 = H at hP hS ⊢
    obtain ⟨x30, ex30⟩ : ∃ y : Int32, y = l3 + 1 := ⟨_, rfl⟩
    have hw := hw x30 ex30
    refine lv_iinc (v := x30) (lv' := [(3, .int x30), (4, .int s0), (0, .ref a0), (1, .ref a1), (2, .int l2)]) hx hb (qaa qcF 6 rfl) hl (k := 4) rfl (by rw [ex30]; rfl) (by decide) rfl (fun ls hl => ?_)
    refine lv_goto (tgt := 8) hx hb (qaa qcF 7 rfl) (by decide) ?_
    exact hK8 _ _ _ x20 x21 x22 x23 f27 f28 x29 l2 x30 hP hD hS (lv_sub hl [2, 3, 4, 0] rfl) hw
  · have hw := hw.2 c19
    exact ((W.vret hx hb hr (fun t ht hW => ⟨⟨(jhS, jeF, jcU, jbM, jdC, jfY, jb7), rfl, hw, by rw [ht]; exact hP, va_K.moved hW.alike hK, hD⟩, hS.F ht⟩) hS.2.2 (qaa qbo 13 rfl)))
set_option maxHeartbeats 4000000 in
set_option maxRecDepth 100000 in
theorem q9Q (RS : Int32 → NI → Int32 → Int32 → Int32 → Int32 → NI → NI → Int32 → Int32 → (Int32 → Int32 → Int32 → Int32 → NI → NI → Int32 → Prop) → Prop) (fr lo : Nat) (hfr : 8 ≤ fr) (hlo : 175 ≤ lo) (hRw : ∀ (l : Launch) (dC : Nat → ClassId) (dI : Nat → Nat → Nat) (cyB cyI cyJ cyP : ClassId) (a0 a1 jbF jbU jcK sz : Nat) (jhW jaE jcI : Value) (jb5 : Int32) (jcq : NI) (jhS jeF jcU jbM : Int32) (jdC jfY : NI) (jb7 p2 : Int32) {Q : Int32 → Int32 → Int32 → Int32 → NI → NI → Int32 → Prop} (hw : RS jb5 jcq jhS jeF jcU jbM jdC jfY jb7 p2 Q), Met l yX4_readSum wsX4_readSum ({ frames := fr, cells := 0, slots := 0, locals := lo }) (va_Pc [.ref a0, .ref a1, .int p2] (cPs (zE) l (dC, dI) (kT cyB cyI cyJ cyP) (qar a0 jbU jcK jhW jaE jb7 a1 jbF jb5 jhS jeF jcI jcU jbM jbF cyB jcq jbU cyI jdC jcK cyI jfY) sz)) (va_Qv (fun (u : Int32 × Int32 × Int32 × Int32 × NI × NI × Int32) => Q u.1 u.2.1 u.2.2.1 u.2.2.2.1 u.2.2.2.2.1 u.2.2.2.2.2.1 u.2.2.2.2.2.2) (cB (dC, dI) (kT cyB cyI cyJ cyP) (va_A (qar a0 jbU jcK jhW jaE jb7 a1 jbF jb5 jhS jeF jcI jcU jbM jbF cyB jcq jbU cyI jdC jcK cyI jfY) sz) (fun u : Int32 × Int32 × Int32 × Int32 × NI × NI × Int32 => ((qar a0 jbU jcK jhW jaE u.2.2.2.2.2.2 a1 jbF jb5 u.1 u.2.1 jcI u.2.2.1 u.2.2.2.1 jbF cyB jcq jbU cyI u.2.2.2.2.1 jcK cyI u.2.2.2.2.2.1) : va_W))) (va_A (qar a0 jbU jcK jhW jaE jb7 a1 jbF jb5 jhS jeF jcI jcU jbM jbF cyB jcq jbU cyI jdC jcK cyI jfY) sz)) 0 0 (va_A (qar a0 jbU jcK jhW jaE jb7 a1 jbF jb5 jhS jeF jcI jcU jbM jbF cyB jcq jbU cyI jdC jcK cyI jfY) sz)) {p : Program} {l : Launch} {e : Env} {s : State} {m : MethodId} {args : Array Value} {below : List Frame} {meth : Method} {c : Code} {A : Nat → Prop} (dC : Nat → ClassId) (dI : Nat → Nat → Nat) (cyB cyI cyJ cyP : ClassId) (a0 a1 jbF jbU jcK : Nat) (jhW jaE jcI : Value) (jb5 : Int32) (jcq : NI) (Q : Int32 → Int32 → Int32 → Int32 → NI → NI → Int32 → Prop) (C0 : cfx p s m args meth c cX4_readSum none wsX4_readSum RX4 5 A (dC, dI) (kT cyB cyI cyJ cyP) ∧ cfY l s A ∧ zE A s s.heap) : ∀ (n : Nat) (H : Heap) (locs : List Loc) (ls : Array Slot) (jhS jeF jcU jbM : Int32) (jdC jfY : NI) (jb7 l2 l3 : Int32), va_P (dC, dI) vwCl (qar a0 jbU jcK jhW jaE jb7 a1 jbF jb5 jhS jeF jcI jcU jbM jbF cyB jcq jbU cyI jdC jcK cyI jfY) H → va_D A (qar a0 jbU jcK jhW jaE jb7 a1 jbF jb5 jhS jeF jcI jcU jbM jbF cyB jcq jbU cyI jdC jcK cyI jfY) → va_S A s.heap H locs → lv_has ls 5 [(0, .ref a0), (1, .ref a1), (2, .int l2), (3, .int l3)] → qk8 RS jb5 jcq Q n jhS jeF jcU jbM jdC jfY jb7 l2 l3 → W p l e (headSpec wsX4_readSum ({ frames := fr + 4, cells := 0, slots := 0, locals := lo + 93 })).room s m args below meth c H locs 0 0 (MQ below (va_Qv (fun (u : Int32 × Int32 × Int32 × Int32 × NI × NI × Int32) => Q u.1 u.2.1 u.2.2.1 u.2.2.2.1 u.2.2.2.2.1 u.2.2.2.2.2.1 u.2.2.2.2.2.2) (cB (dC, dI) (kT cyB cyI cyJ cyP) A (fun u : Int32 × Int32 × Int32 × Int32 × NI × NI × Int32 => ((qar a0 jbU jcK jhW jaE u.2.2.2.2.2.2 a1 jbF jb5 u.1 u.2.1 jcI u.2.2.1 u.2.2.2.1 jbF cyB jcq jbU cyI u.2.2.2.2.1 jcK cyI u.2.2.2.2.2.1) : va_W))) A) args s 0 0 A) (F0 m 8 ls []) := by
  obtain ⟨⟨hx, hb, hr, hts, hown, hlocks, hml, hA, hK, hNw⟩, hY, hE0⟩ := id C0
  have hE := hE0
  intro n
  induction n with
  | zero => intro H locs ls jhS jeF jcU jbM jdC jfY jb7 l2 l3 hP hD hS hl hw; exact False.elim hw
  | succ n ih =>
    intro H locs ls jhS jeF jcU jbM jdC jfY jb7 l2 l3 hP hD hS hl hw
    refine lv_iload_n hx hb (qaa qbE 6 rfl) rfl (lv_at hl 3 rfl) ?_
    refine lv_sipush (v := 150) hx hb (qaa qbE 7 rfl) (by decide) ?_
    refine lv_icmp_ge (tgt := 77) hx hb (qaa qbE 8 rfl) (by decide) (fun c8 => ?_) (fun c8 => ?_)
    · have hw := hw.1 c8
      exact ((W.vret hx hb hr (fun t ht hW => ⟨⟨(jhS, jeF, jcU, jbM, jdC, jfY, jb7), rfl, hw, by rw [ht]; exact hP, va_K.moved hW.alike hK, hD⟩, hS.F ht⟩) hS.2.2 (qaa qcF 8 rfl)))
    · have hw := hw.2 c8
      refine lv_aload_n hx hb (qaa qbE 9 rfl) rfl (lv_at hl 1 rfl) ?_
      obtain ⟨hCc, hPc, hDc, hFc⟩ := qac (ws' := (qSy a1 jbF jb5 jhS jeF jcI jcU jbM)) hP hD hS hA [1] (by decide +kernel) rfl
      refine va_calli (va_runV (As := []) (rest := []) ⟨hx, hb, hml, hown, hts⟩ (qkj l dC dI cyB cyI cyJ cyP a1 H.size (.ref jbF) (.int jb5) (.int jhS) (.int jeF) (jcI) (.int jbM) jcU hw) (cwV 0 hts gX4_readSum_X8_isFaulty rfl rfl rfl (by decide +kernel) ⟨(by first | exact nbq rfl | (simp only [headSpec]; omega) | omega), (by first | exact nbq rfl | (simp only [headSpec]; omega) | omega)⟩) ⟨qab, va_recv (q := (RX8, TX8, 7)) hK hPc (ci := 8) (q0 := 0) rfl rfl, qae hPc hK hDc hNw⟩ rfl rfl hl.1 rfl (lv_room (nbq rfl)) (qaa qbE 10 rfl) ⟨(by first | exact nbq rfl | (simp only [headSpec]; omega) | omega), (by first | exact nbq rfl | (simp only [headSpec]; omega) | omega)⟩) hS (fun q _ h => hFc q h) hFc (fun r9 u t H1 locs ht hvm hw hB hz1 hk1 hS => ?_)
      obtain ⟨hP1, hK1, hD1⟩ := hB
      rw [ht] at hP1
      obtain ⟨hP, hD⟩ := qad (wr := (qalF a0 jbU jcK jhW jaE jb7 jbF cyB jcq jbU cyI jdC jcK cyI jfY)) (w1 := (qSy a1 jbF jb5 jhS jeF jcI jcU jbM)) (wn := (qar a0 jbU jcK jhW jaE jb7 a1 jbF jb5 jhS jeF jcI jcU jbM jbF cyB jcq jbU cyI jdC jcK cyI jfY)) hP hD [1] [0, 2, 3, 4] [0, 4, 1, 2, 3] hCc rfl (by decide +kernel) (by decide +kernel) (by decide +kernel) rfl hk1 hFc hP1 hD1
      generalize H1 = H at hP hS ⊢
      refine lv_if_ne (tgt := 77) hx hb (qaa qbE 11 rfl) (by decide) (fun c10 => ?_) (fun c10 => ?_)
      · have hw := hw.1 c10
        exact ((W.vret hx hb hr (fun t ht hW => ⟨⟨(jhS, jeF, jcU, jbM, jdC, jfY, jb7), rfl, hw, by rw [ht]; exact hP, va_K.moved hW.alike hK, hD⟩, hS.F ht⟩) hS.2.2 (qaa qcF 8 rfl)))
      · have hw := hw.2 c10
        refine lv_aload_n hx hb (qaa qbE 12 rfl) rfl (lv_at hl 1 rfl) ?_
        refine lv_bipush (v := 43) hx hb (qaa qbE 13 rfl) (by decide) ?_
        obtain ⟨hCc, hPc, hDc, hFc⟩ := qac (ws' := (qlf a1 jbF jb5 jhS jeF jcI jcU jbM jbF cyB jcq)) hP hD hS hA [1, 2] (by decide +kernel) rfl
        refine va_calli (va_runV (As := [.int 43]) (rest := []) ⟨hx, hb, hml, hown, hts⟩ (qsg l dC dI cyB cyI cyJ cyP a1 jbF H.size (jcI) (.int jbM) jb5 jcU jcq jhS jeF 43 hw) (cwV 1 hts gX4_readSum_X8_takes rfl rfl rfl (by decide +kernel) ⟨(by first | exact nbq rfl | (simp only [headSpec]; omega) | omega), (by first | exact nbq rfl | (simp only [headSpec]; omega) | omega)⟩) ⟨qab, va_recv (q := (RX8, TX8, 7)) hK hPc (ci := 8) (q0 := 0) rfl rfl, qae hPc hK hDc hNw⟩ rfl rfl hl.1 rfl (lv_room (nbq rfl)) (qaa qbE 14 rfl) ⟨(by first | exact nbq rfl | (simp only [headSpec]; omega) | omega), (by first | exact nbq rfl | (simp only [headSpec]; omega) | omega)⟩) hS (fun q _ h => hFc q h) hFc (fun r13 u t H1 locs ht hvm hw hB hz1 hk1 hS => ?_)
        obtain ⟨x11, x12⟩ := u
        obtain ⟨hP1, hK1, hD1⟩ := hB
        rw [ht] at hP1
        obtain ⟨hP, hD⟩ := qad (wr := (qsH a0 jbU jcK jhW jaE jb7 jbU cyI jdC jcK cyI jfY)) (w1 := (qlf a1 jbF jb5 x11 x12 jcI jcU jbM jbF cyB jcq)) (wn := (qar a0 jbU jcK jhW jaE jb7 a1 jbF jb5 x11 x12 jcI jcU jbM jbF cyB jcq jbU cyI jdC jcK cyI jfY)) hP hD [1, 2] [0, 3, 4] [0, 3, 4, 1, 2] hCc rfl (by decide +kernel) (by decide +kernel) (by decide +kernel) rfl hk1 hFc hP1 hD1
        generalize H1 = H at hP hS ⊢
        refine lv_if_eq (tgt := 35) hx hb (qaa qbE 15 rfl) (by decide) (fun c14 => ?_) (fun c14 => ?_)
        · have hw := hw.1 c14
          refine lv_aload_n hx hb (qaa qbo 2 rfl) rfl (lv_at hl 1 rfl) ?_
          refine lv_bipush (v := 45) hx hb (qaa qbo 3 rfl) (by decide) ?_
          obtain ⟨hCc, hPc, hDc, hFc⟩ := qac (ws' := (qlf a1 jbF jb5 x11 x12 jcI jcU jbM jbF cyB jcq)) hP hD hS hA [1, 2] (by decide +kernel) rfl
          refine va_calli (va_runV (As := [.int 45]) (rest := []) ⟨hx, hb, hml, hown, hts⟩ (qsg l dC dI cyB cyI cyJ cyP a1 jbF H.size (jcI) (.int jbM) jb5 jcU jcq x11 x12 45 hw) (cwV 1 hts gX4_readSum_X8_takes rfl rfl rfl (by decide +kernel) ⟨(by first | exact nbq rfl | (simp only [headSpec]; omega) | omega), (by first | exact nbq rfl | (simp only [headSpec]; omega) | omega)⟩) ⟨qab, va_recv (q := (RX8, TX8, 7)) hK hPc (ci := 8) (q0 := 0) rfl rfl, qae hPc hK hDc hNw⟩ rfl rfl hl.1 rfl (lv_room (nbq rfl)) (qaa qbo 4 rfl) ⟨(by first | exact nbq rfl | (simp only [headSpec]; omega) | omega), (by first | exact nbq rfl | (simp only [headSpec]; omega) | omega)⟩) hS (fun q _ h => hFc q h) hFc (fun r17 u t H1 locs ht hvm hw hB hz1 hk1 hS => ?_)
          obtain ⟨x15, x16⟩ := u
          obtain ⟨hP1, hK1, hD1⟩ := hB
          rw [ht] at hP1
          obtain ⟨hP, hD⟩ := qad (wr := (qsH a0 jbU jcK jhW jaE jb7 jbU cyI jdC jcK cyI jfY)) (w1 := (qlf a1 jbF jb5 x15 x16 jcI jcU jbM jbF cyB jcq)) (wn := (qar a0 jbU jcK jhW jaE jb7 a1 jbF jb5 x15 x16 jcI jcU jbM jbF cyB jcq jbU cyI jdC jcK cyI jfY)) hP hD [1, 2] [0, 3, 4] [0, 3, 4, 1, 2] hCc rfl (by decide +kernel) (by decide +kernel) (by decide +kernel) rfl hk1 hFc hP1 hD1
          generalize H1 = H at hP hS ⊢
          refine lv_if_eq (tgt := 48) hx hb (qaa qbo 5 rfl) (by decide) (fun c18 => ?_) (fun c18 => ?_)
          · have hw := hw.1 c18
            refine lv_iconst (v := (-1)) hx hb (qaa qbo 8 rfl) (by decide) ?_
            exact qDJ RS fr lo hfr hlo hRw dC dI cyB cyI cyJ cyP a0 a1 jbF jbU jcK jhW jaE jcI jb5 jcq Q (qk8 RS jb5 jcq Q n) ih C0 _ _ _ x15 x16 jcU jbM jdC jfY jb7 l2 l3 (-1) hP hD hS (lv_sub hl [0, 1, 2, 3] rfl) hw
          · have hw := hw.2 c18
            refine lv_iconst (v := 3) hx hb (qaa qbo 6 rfl) (by decide) ?_
            refine lv_goto (tgt := 49) hx hb (qaa qbo 7 rfl) (by decide) ?_
            exact qDJ RS fr lo hfr hlo hRw dC dI cyB cyI cyJ cyP a0 a1 jbF jbU jcK jhW jaE jcI jb5 jcq Q (qk8 RS jb5 jcq Q n) ih C0 _ _ _ x15 x16 jcU jbM jdC jfY jb7 l2 l3 3 hP hD hS (lv_sub hl [0, 1, 2, 3] rfl) hw
        · have hw := hw.2 c14
          refine lv_iconst (v := 2) hx hb (qaa qbo 0 rfl) (by decide) ?_
          refine lv_goto (tgt := 49) hx hb (qaa qbo 1 rfl) (by decide) ?_
          exact qDJ RS fr lo hfr hlo hRw dC dI cyB cyI cyJ cyP a0 a1 jbF jbU jcK jhW jaE jcI jb5 jcq Q (qk8 RS jb5 jcq Q n) ih C0 _ _ _ x11 x12 jcU jbM jdC jfY jb7 l2 l3 2 hP hD hS (lv_sub hl [0, 1, 2, 3] rfl) hw
set_option maxHeartbeats 4000000 in
set_option maxRecDepth 100000 in
theorem qvI (RS : Int32 → NI → Int32 → Int32 → Int32 → Int32 → NI → NI → Int32 → Int32 → (Int32 → Int32 → Int32 → Int32 → NI → NI → Int32 → Prop) → Prop) (fr lo : Nat) (hfr : 8 ≤ fr) (hlo : 175 ≤ lo) (hRw : ∀ (l : Launch) (dC : Nat → ClassId) (dI : Nat → Nat → Nat) (cyB cyI cyJ cyP : ClassId) (a0 a1 jbF jbU jcK sz : Nat) (jhW jaE jcI : Value) (jb5 : Int32) (jcq : NI) (jhS jeF jcU jbM : Int32) (jdC jfY : NI) (jb7 p2 : Int32) {Q : Int32 → Int32 → Int32 → Int32 → NI → NI → Int32 → Prop} (hw : RS jb5 jcq jhS jeF jcU jbM jdC jfY jb7 p2 Q), Met l yX4_readSum wsX4_readSum ({ frames := fr, cells := 0, slots := 0, locals := lo }) (va_Pc [.ref a0, .ref a1, .int p2] (cPs (zE) l (dC, dI) (kT cyB cyI cyJ cyP) (qar a0 jbU jcK jhW jaE jb7 a1 jbF jb5 jhS jeF jcI jcU jbM jbF cyB jcq jbU cyI jdC jcK cyI jfY) sz)) (va_Qv (fun (u : Int32 × Int32 × Int32 × Int32 × NI × NI × Int32) => Q u.1 u.2.1 u.2.2.1 u.2.2.2.1 u.2.2.2.2.1 u.2.2.2.2.2.1 u.2.2.2.2.2.2) (cB (dC, dI) (kT cyB cyI cyJ cyP) (va_A (qar a0 jbU jcK jhW jaE jb7 a1 jbF jb5 jhS jeF jcI jcU jbM jbF cyB jcq jbU cyI jdC jcK cyI jfY) sz) (fun u : Int32 × Int32 × Int32 × Int32 × NI × NI × Int32 => ((qar a0 jbU jcK jhW jaE u.2.2.2.2.2.2 a1 jbF jb5 u.1 u.2.1 jcI u.2.2.1 u.2.2.2.1 jbF cyB jcq jbU cyI u.2.2.2.2.1 jcK cyI u.2.2.2.2.2.1) : va_W))) (va_A (qar a0 jbU jcK jhW jaE jb7 a1 jbF jb5 jhS jeF jcI jcU jbM jbF cyB jcq jbU cyI jdC jcK cyI jfY) sz)) 0 0 (va_A (qar a0 jbU jcK jhW jaE jb7 a1 jbF jb5 jhS jeF jcI jcU jbM jbF cyB jcq jbU cyI jdC jcK cyI jfY) sz)) (l : Launch) (dC : Nat → ClassId) (dI : Nat → Nat → Nat) (cyB cyI cyJ cyP : ClassId) (a0 a1 jbF jbU jcK sz : Nat) (jhW jaE jcI : Value) (jb5 : Int32) (jcq : NI) (jhS jeF jcU jbM : Int32) (jdC jfY : NI) (jb7 p2 : Int32) {Q : Int32 → Int32 → Int32 → Int32 → NI → NI → Int32 → Prop} (hw : qrw RS jb5 jcq jhS jeF jcU jbM jdC jfY jb7 p2 Q) : Met l yX4_readSum wsX4_readSum ({ frames := fr + 4, cells := 0, slots := 0, locals := lo + 93 }) (va_Pc [.ref a0, .ref a1, .int p2] (cPs (zE) l (dC, dI) (kT cyB cyI cyJ cyP) (qar a0 jbU jcK jhW jaE jb7 a1 jbF jb5 jhS jeF jcI jcU jbM jbF cyB jcq jbU cyI jdC jcK cyI jfY) sz)) (va_Qv (fun (u : Int32 × Int32 × Int32 × Int32 × NI × NI × Int32) => Q u.1 u.2.1 u.2.2.1 u.2.2.2.1 u.2.2.2.2.1 u.2.2.2.2.2.1 u.2.2.2.2.2.2) (cB (dC, dI) (kT cyB cyI cyJ cyP) (va_A (qar a0 jbU jcK jhW jaE jb7 a1 jbF jb5 jhS jeF jcI jcU jbM jbF cyB jcq jbU cyI jdC jcK cyI jfY) sz) (fun u : Int32 × Int32 × Int32 × Int32 × NI × NI × Int32 => ((qar a0 jbU jcK jhW jaE u.2.2.2.2.2.2 a1 jbF jb5 u.1 u.2.1 jcI u.2.2.1 u.2.2.2.1 jbF cyB jcq jbU cyI u.2.2.2.2.1 jcK cyI u.2.2.2.2.2.1) : va_W))) (va_A (qar a0 jbU jcK jhW jaE jb7 a1 jbF jb5 jhS jeF jcI jcU jbM jbF cyB jcq jbU cyI jdC jcK cyI jfY) sz)) 0 0 (va_A (qar a0 jbU jcK jhW jaE jb7 a1 jbF jb5 jhS jeF jcI jcU jbM jbF cyB jcq jbU cyI jdC jcK cyI jfY) sz) := by
  refine Met.ofW (cc := cX4_readSum) (maxL := 5) (ret := none) (by decide) rfl ?_
  intro p e s m args below meth c s₁ B hml hv
  obtain ⟨rfl, ⟨hsz, hP, hK, hD0, hNw, hXl, hXu, hXn, hXt⟩, hE0⟩ := hv
  have hx := B.exec
  have hb := B.bytes
  have hr := B.returns
  have hts := atoms_spec (ws := wsX4_readSum) B.pre
  have hown : s.vm.findClass RX4 = some m.cls := findClass_of_methodNamed B.named
  have hlocks := B.notSynchronized
  subst hsz
  have hD := hD0.self (sz := s.heap.size)
  generalize hAe : va_A (qar a0 jbU jcK jhW jaE jb7 a1 jbF jb5 jhS jeF jcI jcU jbM jbF cyB jcq jbU cyI jdC jcK cyI jfY) s.heap.size = A at hD hXu hXn hE0 ⊢
  have hA : ∀ q : Nat, s.heap.size ≤ q → A q := fun q h => by rw [← hAe]; exact Or.inr h
  have hS : va_S A s.heap s.heap [] := va_S.rf
  have hP : va_P (dC, dI) vwCl (qar a0 jbU jcK jhW jaE jb7 a1 jbF jb5 jhS jeF jcI jcU jbM jbF cyB jcq jbU cyI jdC jcK cyI jfY) s.heap := hP
  have hl := lv_entry ([.ref a0, .ref a1, .int p2]) (n := 5) ((by first | exact nbq rfl | (simp only [headSpec]; omega) | omega))
  rw [lg_entry_eq]
  generalize (lg_sl ([.ref a0, .ref a1, .int p2]) ++ List.replicate (5 - (lg_sl ([.ref a0, .ref a1, .int p2])).length) Slot.unset).toArray = ls at hl ⊢
  have hl : lv_has ls 5 [(0, .ref a0), (1, .ref a1), (2, .int p2)] := hl
  have hY : cfY l s A := ⟨hXl, hXu, hXn, hXt⟩
  have C0 : cfx p s m _ meth c cX4_readSum none wsX4_readSum RX4 5 A (dC, dI) (kT cyB cyI cyJ cyP) ∧ cfY l s A ∧ zE A s s.heap := ⟨⟨hx, hb, hr, hts, hown, hlocks, hml, hA, hK, hNw⟩, hY, hE0⟩
  have hE := hE0
  clear hAe
  obtain ⟨H, hH⟩ : ∃ H, H = s.heap := ⟨_, rfl⟩
  rw [← hH] at hP ⊢
  have hS : va_S A s.heap H [] := by rw [hH]; exact va_S.rf
  have hS := hS
  refine lv_aload_n hx hb (qaa qbE 0 rfl) rfl (lv_at hl 0 rfl) ?_
  refine lv_aload_n hx hb (qaa qbE 1 rfl) rfl (lv_at hl 1 rfl) ?_
  refine lv_iload_n hx hb (qaa qbE 2 rfl) rfl (lv_at hl 2 rfl) ?_
  obtain ⟨hCc, hPc, hDc, hFc⟩ := qac (ws' := (qar a0 jbU jcK jhW jaE jb7 a1 jbF jb5 jhS jeF jcI jcU jbM jbF cyB jcq jbU cyI jdC jcK cyI jfY)) hP hD hS hA [0, 1, 2, 3, 4] (by decide +kernel) rfl
  refine va_callv (va_runV (As := [.ref a1, .int p2]) (rest := []) ⟨hx, hb, hml, hown, hts⟩ (qLl RS fr lo hfr hlo hRw l dC dI cyB cyI cyJ cyP a0 a1 jbF jbU jcK H.size (jhW) (jaE) (jcI) jb5 jcq jhS jeF jcU jbM jdC jfY jb7 p2 hw) (cwV 2 hts gX4_readSum_X4_readProduct rfl rfl rfl (by decide +kernel) ⟨(by first | exact nbq rfl | (simp only [headSpec]; omega) | omega), (by first | exact nbq rfl | (simp only [headSpec]; omega) | omega)⟩) ⟨qat qsO, va_recv (q := (RX4, TX4, 5)) hK hPc (ci := 4) (q0 := 0) rfl rfl, qbg qsO hPc hK hDc hNw hY hE hS hFc⟩ rfl rfl hl.1 rfl (lv_room (nbq rfl)) (qaa qbE 3 rfl) ⟨(by first | exact nbq rfl | (simp only [headSpec]; omega) | omega), (by first | exact nbq rfl | (simp only [headSpec]; omega) | omega)⟩) hS (fun q _ h => hFc q h) hFc (fun u t H1 locs ht hvm hw hB hz1 hk1 hS => ?_)
  obtain ⟨x1, x2, x3, x4, f5, f6, x7⟩ := u
  obtain ⟨hP1, hK1, hD1⟩ := hB
  rw [ht] at hP1
  obtain ⟨hP, hD⟩ := qah (wr := []) (w1 := (qar a0 jbU jcK jhW jaE x7 a1 jbF jb5 x1 x2 jcI x3 x4 jbF cyB jcq jbU cyI f5 jcK cyI f6)) (wn := (qar a0 jbU jcK jhW jaE x7 a1 jbF jb5 x1 x2 jcI x3 x4 jbF cyB jcq jbU cyI f5 jcK cyI f6)) hP hD [0, 1, 2, 3, 4] [] hCc rfl (by decide +kernel) (by decide +kernel) rfl hk1 hFc hP1 hD1
  generalize H1 = H at hP hS ⊢
  refine lv_iconst (v := 0) hx hb (qaa qbE 4 rfl) (by decide) ?_
  refine lv_istore_n (lv' := [(3, .int 0), (0, .ref a0), (1, .ref a1), (2, .int p2)]) hx hb (qaa qbE 5 rfl) rfl hl (by decide) rfl (fun ls hl => ?_)
  obtain ⟨n9, hw⟩ := hw
  exact q9Q RS fr lo hfr hlo hRw dC dI cyB cyI cyJ cyP a0 a1 jbF jbU jcK jhW jaE jcI jb5 jcq Q C0 n9 _ _ _ x1 x2 x3 x4 f5 f6 x7 p2 0 hP hD hS (lv_sub hl [1, 2, 3, 0] rfl) hw
theorem qaed (l : Launch) (dC : Nat → ClassId) (dI : Nat → Nat → Nat) (cyB cyI cyJ cyP : ClassId) (a0 a1 jbF jbU jcK sz : Nat) (jhW jaE jcI : Value) (jb5 : Int32) (jcq : NI) (jhS jeF jcU jbM : Int32) (jdC jfY : NI) (jb7 p2 : Int32) {Q : Int32 → Int32 → Int32 → Int32 → NI → NI → Int32 → Prop} (hw : qHh jb5 jcq jhS jeF jcU jbM jdC jfY jb7 p2 Q) : Met l yX4_readSum wsX4_readSum ({ frames := 12, cells := 0, slots := 0, locals := 268 }) (va_Pc [.ref a0, .ref a1, .int p2] (cPs (zE) l (dC, dI) (kT cyB cyI cyJ cyP) (qar a0 jbU jcK jhW jaE jb7 a1 jbF jb5 jhS jeF jcI jcU jbM jbF cyB jcq jbU cyI jdC jcK cyI jfY) sz)) (va_Qv (fun (u : Int32 × Int32 × Int32 × Int32 × NI × NI × Int32) => Q u.1 u.2.1 u.2.2.1 u.2.2.2.1 u.2.2.2.2.1 u.2.2.2.2.2.1 u.2.2.2.2.2.2) (cB (dC, dI) (kT cyB cyI cyJ cyP) (va_A (qar a0 jbU jcK jhW jaE jb7 a1 jbF jb5 jhS jeF jcI jcU jbM jbF cyB jcq jbU cyI jdC jcK cyI jfY) sz) (fun u : Int32 × Int32 × Int32 × Int32 × NI × NI × Int32 => ((qar a0 jbU jcK jhW jaE u.2.2.2.2.2.2 a1 jbF jb5 u.1 u.2.1 jcI u.2.2.1 u.2.2.2.1 jbF cyB jcq jbU cyI u.2.2.2.2.1 jcK cyI u.2.2.2.2.2.1) : va_W))) (va_A (qar a0 jbU jcK jhW jaE jb7 a1 jbF jb5 jhS jeF jcI jcU jbM jbF cyB jcq jbU cyI jdC jcK cyI jfY) sz)) 0 0 (va_A (qar a0 jbU jcK jhW jaE jb7 a1 jbF jb5 jhS jeF jcI jcU jbM jbF cyB jcq jbU cyI jdC jcK cyI jfY) sz) :=
  qvI qBm 8 175 (by decide) (by decide) qacF l dC dI cyB cyI cyJ cyP a0 a1 jbF jbU jcK sz jhW jaE jcI jb5 jcq jhS jeF jcU jbM jdC jfY jb7 p2 hw
theorem qae8 (l : Launch) (dC : Nat → ClassId) (dI : Nat → Nat → Nat) (cyB cyI cyJ cyP : ClassId) (a0 a1 jbF jbU jcK sz : Nat) (jhW jaE jcI : Value) (jb5 : Int32) (jcq : NI) (jhS jeF jcU jbM : Int32) (jdC jfY : NI) (jb7 p2 : Int32) {Q : Int32 → Int32 → Int32 → Int32 → NI → NI → Int32 → Prop} (hw : qIe jb5 jcq jhS jeF jcU jbM jdC jfY jb7 p2 Q) : Met l yX4_readSum wsX4_readSum ({ frames := 16, cells := 0, slots := 0, locals := 361 }) (va_Pc [.ref a0, .ref a1, .int p2] (cPs (zE) l (dC, dI) (kT cyB cyI cyJ cyP) (qar a0 jbU jcK jhW jaE jb7 a1 jbF jb5 jhS jeF jcI jcU jbM jbF cyB jcq jbU cyI jdC jcK cyI jfY) sz)) (va_Qv (fun (u : Int32 × Int32 × Int32 × Int32 × NI × NI × Int32) => Q u.1 u.2.1 u.2.2.1 u.2.2.2.1 u.2.2.2.2.1 u.2.2.2.2.2.1 u.2.2.2.2.2.2) (cB (dC, dI) (kT cyB cyI cyJ cyP) (va_A (qar a0 jbU jcK jhW jaE jb7 a1 jbF jb5 jhS jeF jcI jcU jbM jbF cyB jcq jbU cyI jdC jcK cyI jfY) sz) (fun u : Int32 × Int32 × Int32 × Int32 × NI × NI × Int32 => ((qar a0 jbU jcK jhW jaE u.2.2.2.2.2.2 a1 jbF jb5 u.1 u.2.1 jcI u.2.2.1 u.2.2.2.1 jbF cyB jcq jbU cyI u.2.2.2.2.1 jcK cyI u.2.2.2.2.2.1) : va_W))) (va_A (qar a0 jbU jcK jhW jaE jb7 a1 jbF jb5 jhS jeF jcI jcU jbM jbF cyB jcq jbU cyI jdC jcK cyI jfY) sz)) 0 0 (va_A (qar a0 jbU jcK jhW jaE jb7 a1 jbF jb5 jhS jeF jcI jcU jbM jbF cyB jcq jbU cyI jdC jcK cyI jfY) sz) :=
  qvI qHh 12 268 (by decide) (by decide) qaed l dC dI cyB cyI cyJ cyP a0 a1 jbF jbU jcK sz jhW jaE jcI jb5 jcq jhS jeF jcU jbM jdC jfY jb7 p2 hw
theorem qadr (l : Launch) (dC : Nat → ClassId) (dI : Nat → Nat → Nat) (cyB cyI cyJ cyP : ClassId) (a0 a1 jbF jbU jcK sz : Nat) (jhW jaE jcI : Value) (jb5 : Int32) (jcq : NI) (jhS jeF jcU jbM : Int32) (jdC jfY : NI) (jb7 p2 : Int32) {Q : Int32 → Int32 → Int32 → Int32 → NI → NI → Int32 → Prop} (hw : qIo jb5 jcq jhS jeF jcU jbM jdC jfY jb7 p2 Q) : Met l yX4_readSum wsX4_readSum ({ frames := 20, cells := 0, slots := 0, locals := 454 }) (va_Pc [.ref a0, .ref a1, .int p2] (cPs (zE) l (dC, dI) (kT cyB cyI cyJ cyP) (qar a0 jbU jcK jhW jaE jb7 a1 jbF jb5 jhS jeF jcI jcU jbM jbF cyB jcq jbU cyI jdC jcK cyI jfY) sz)) (va_Qv (fun (u : Int32 × Int32 × Int32 × Int32 × NI × NI × Int32) => Q u.1 u.2.1 u.2.2.1 u.2.2.2.1 u.2.2.2.2.1 u.2.2.2.2.2.1 u.2.2.2.2.2.2) (cB (dC, dI) (kT cyB cyI cyJ cyP) (va_A (qar a0 jbU jcK jhW jaE jb7 a1 jbF jb5 jhS jeF jcI jcU jbM jbF cyB jcq jbU cyI jdC jcK cyI jfY) sz) (fun u : Int32 × Int32 × Int32 × Int32 × NI × NI × Int32 => ((qar a0 jbU jcK jhW jaE u.2.2.2.2.2.2 a1 jbF jb5 u.1 u.2.1 jcI u.2.2.1 u.2.2.2.1 jbF cyB jcq jbU cyI u.2.2.2.2.1 jcK cyI u.2.2.2.2.2.1) : va_W))) (va_A (qar a0 jbU jcK jhW jaE jb7 a1 jbF jb5 jhS jeF jcI jcU jbM jbF cyB jcq jbU cyI jdC jcK cyI jfY) sz)) 0 0 (va_A (qar a0 jbU jcK jhW jaE jb7 a1 jbF jb5 jhS jeF jcI jcU jbM jbF cyB jcq jbU cyI jdC jcK cyI jfY) sz) :=
  qvI qIe 16 361 (by decide) (by decide) qae8 l dC dI cyB cyI cyJ cyP a0 a1 jbF jbU jcK sz jhW jaE jcI jb5 jcq jhS jeF jcU jbM jdC jfY jb7 p2 hw
theorem qags (l : Launch) (dC : Nat → ClassId) (dI : Nat → Nat → Nat) (cyB cyI cyJ cyP : ClassId) (a0 a1 jbF jbU jcK sz : Nat) (jhW jaE jcI : Value) (jb5 : Int32) (jcq : NI) (jhS jeF jcU jbM : Int32) (jdC jfY : NI) (jb7 p2 : Int32) {Q : Int32 → Int32 → Int32 → Int32 → NI → NI → Int32 → Prop} (hw : qIm jb5 jcq jhS jeF jcU jbM jdC jfY jb7 p2 Q) : Met l yX4_readSum wsX4_readSum ({ frames := 24, cells := 0, slots := 0, locals := 547 }) (va_Pc [.ref a0, .ref a1, .int p2] (cPs (zE) l (dC, dI) (kT cyB cyI cyJ cyP) (qar a0 jbU jcK jhW jaE jb7 a1 jbF jb5 jhS jeF jcI jcU jbM jbF cyB jcq jbU cyI jdC jcK cyI jfY) sz)) (va_Qv (fun (u : Int32 × Int32 × Int32 × Int32 × NI × NI × Int32) => Q u.1 u.2.1 u.2.2.1 u.2.2.2.1 u.2.2.2.2.1 u.2.2.2.2.2.1 u.2.2.2.2.2.2) (cB (dC, dI) (kT cyB cyI cyJ cyP) (va_A (qar a0 jbU jcK jhW jaE jb7 a1 jbF jb5 jhS jeF jcI jcU jbM jbF cyB jcq jbU cyI jdC jcK cyI jfY) sz) (fun u : Int32 × Int32 × Int32 × Int32 × NI × NI × Int32 => ((qar a0 jbU jcK jhW jaE u.2.2.2.2.2.2 a1 jbF jb5 u.1 u.2.1 jcI u.2.2.1 u.2.2.2.1 jbF cyB jcq jbU cyI u.2.2.2.2.1 jcK cyI u.2.2.2.2.2.1) : va_W))) (va_A (qar a0 jbU jcK jhW jaE jb7 a1 jbF jb5 jhS jeF jcI jcU jbM jbF cyB jcq jbU cyI jdC jcK cyI jfY) sz)) 0 0 (va_A (qar a0 jbU jcK jhW jaE jb7 a1 jbF jb5 jhS jeF jcI jcU jbM jbF cyB jcq jbU cyI jdC jcK cyI jfY) sz) :=
  qvI qIo 20 454 (by decide) (by decide) qadr l dC dI cyB cyI cyJ cyP a0 a1 jbF jbU jcK sz jhW jaE jcI jb5 jcq jhS jeF jcU jbM jdC jfY jb7 p2 hw
theorem qagk (l : Launch) (dC : Nat → ClassId) (dI : Nat → Nat → Nat) (cyB cyI cyJ cyP : ClassId) (a0 a1 jbF jbU jcK sz : Nat) (jhW jaE jcI : Value) (jb5 : Int32) (jcq : NI) (jhS jeF jcU jbM : Int32) (jdC jfY : NI) (jb7 p2 : Int32) {Q : Int32 → Int32 → Int32 → Int32 → NI → NI → Int32 → Prop} (hw : qIg jb5 jcq jhS jeF jcU jbM jdC jfY jb7 p2 Q) : Met l yX4_readSum wsX4_readSum ({ frames := 28, cells := 0, slots := 0, locals := 640 }) (va_Pc [.ref a0, .ref a1, .int p2] (cPs (zE) l (dC, dI) (kT cyB cyI cyJ cyP) (qar a0 jbU jcK jhW jaE jb7 a1 jbF jb5 jhS jeF jcI jcU jbM jbF cyB jcq jbU cyI jdC jcK cyI jfY) sz)) (va_Qv (fun (u : Int32 × Int32 × Int32 × Int32 × NI × NI × Int32) => Q u.1 u.2.1 u.2.2.1 u.2.2.2.1 u.2.2.2.2.1 u.2.2.2.2.2.1 u.2.2.2.2.2.2) (cB (dC, dI) (kT cyB cyI cyJ cyP) (va_A (qar a0 jbU jcK jhW jaE jb7 a1 jbF jb5 jhS jeF jcI jcU jbM jbF cyB jcq jbU cyI jdC jcK cyI jfY) sz) (fun u : Int32 × Int32 × Int32 × Int32 × NI × NI × Int32 => ((qar a0 jbU jcK jhW jaE u.2.2.2.2.2.2 a1 jbF jb5 u.1 u.2.1 jcI u.2.2.1 u.2.2.2.1 jbF cyB jcq jbU cyI u.2.2.2.2.1 jcK cyI u.2.2.2.2.2.1) : va_W))) (va_A (qar a0 jbU jcK jhW jaE jb7 a1 jbF jb5 jhS jeF jcI jcU jbM jbF cyB jcq jbU cyI jdC jcK cyI jfY) sz)) 0 0 (va_A (qar a0 jbU jcK jhW jaE jb7 a1 jbF jb5 jhS jeF jcI jcU jbM jbF cyB jcq jbU cyI jdC jcK cyI jfY) sz) :=
  qvI qIm 24 547 (by decide) (by decide) qags l dC dI cyB cyI cyJ cyP a0 a1 jbF jbU jcK sz jhW jaE jcI jb5 jcq jhS jeF jcU jbM jdC jfY jb7 p2 hw
theorem qafi (l : Launch) (dC : Nat → ClassId) (dI : Nat → Nat → Nat) (cyB cyI cyJ cyP : ClassId) (a0 a1 jbF jbU jcK sz : Nat) (jhW jaE jcI : Value) (jb5 : Int32) (jcq : NI) (jhS jeF jcU jbM : Int32) (jdC jfY : NI) (jb7 p2 : Int32) {Q : Int32 → Int32 → Int32 → Int32 → NI → NI → Int32 → Prop} (hw : qIw jb5 jcq jhS jeF jcU jbM jdC jfY jb7 p2 Q) : Met l yX4_readSum wsX4_readSum ({ frames := 32, cells := 0, slots := 0, locals := 733 }) (va_Pc [.ref a0, .ref a1, .int p2] (cPs (zE) l (dC, dI) (kT cyB cyI cyJ cyP) (qar a0 jbU jcK jhW jaE jb7 a1 jbF jb5 jhS jeF jcI jcU jbM jbF cyB jcq jbU cyI jdC jcK cyI jfY) sz)) (va_Qv (fun (u : Int32 × Int32 × Int32 × Int32 × NI × NI × Int32) => Q u.1 u.2.1 u.2.2.1 u.2.2.2.1 u.2.2.2.2.1 u.2.2.2.2.2.1 u.2.2.2.2.2.2) (cB (dC, dI) (kT cyB cyI cyJ cyP) (va_A (qar a0 jbU jcK jhW jaE jb7 a1 jbF jb5 jhS jeF jcI jcU jbM jbF cyB jcq jbU cyI jdC jcK cyI jfY) sz) (fun u : Int32 × Int32 × Int32 × Int32 × NI × NI × Int32 => ((qar a0 jbU jcK jhW jaE u.2.2.2.2.2.2 a1 jbF jb5 u.1 u.2.1 jcI u.2.2.1 u.2.2.2.1 jbF cyB jcq jbU cyI u.2.2.2.2.1 jcK cyI u.2.2.2.2.2.1) : va_W))) (va_A (qar a0 jbU jcK jhW jaE jb7 a1 jbF jb5 jhS jeF jcI jcU jbM jbF cyB jcq jbU cyI jdC jcK cyI jfY) sz)) 0 0 (va_A (qar a0 jbU jcK jhW jaE jb7 a1 jbF jb5 jhS jeF jcI jcU jbM jbF cyB jcq jbU cyI jdC jcK cyI jfY) sz) :=
  qvI qIg 28 640 (by decide) (by decide) qagk l dC dI cyB cyI cyJ cyP a0 a1 jbF jbU jcK sz jhW jaE jcI jb5 jcq jhS jeF jcU jbM jdC jfY jb7 p2 hw
