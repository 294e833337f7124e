/-- worlds by their leaves -/
def wd14_0 (x0 : Nat) (x1 x2 x3 x4 x5 : Value) (x6 : Nat) (x7 x8 x9 : Value) (x10 : Int32) (x11 : Value) (x12 x13 : Int32) : va_W := [(x0, .inr (4, [x1, x2, x3, x4, x5])), (x6, .inr (8, [x7, x8, x9, .int x10, x11, .int x12, .int x13]))]
def wd14_1 (x0 : Nat) (x1 x2 x3 : Value) (x4 : Int32) (x5 : Value) (x6 x7 : Int32) : va_W := [(x0, .inr (8, [x1, x2, x3, .int x4, x5, .int x6, .int x7]))]
def wd14_2 (x0 : Nat) (x1 x2 x3 x4 x5 : Value) : va_W := [(x0, .inr (4, [x1, x2, x3, x4, x5]))]
def wd14_3 (x0 : Nat) (x1 x2 x3 x4 x5 : Value) (x6 x7 : Nat) (x8 x9 x10 : Int32) (x11 : Value) (x12 x13 : Int32) (x14 : Nat) (x15 : ClassId) (x16 : Nat → Int32) : va_W := [(x0, .inr (4, [x1, x2, x3, x4, x5])), (x6, .inr (8, [.ref x7, .int x8, .int x9, .int x10, x11, .int x12, .int x13])), (x14, .inl (x15, 600, .inl x16))]
def wd14_4 (x0 x1 : Nat) (x2 x3 x4 : Int32) (x5 : Value) (x6 x7 : Int32) (x8 : Nat) (x9 : ClassId) (x10 : Nat → Int32) : va_W := [(x0, .inr (8, [.ref x1, .int x2, .int x3, .int x4, x5, .int x6, .int x7])), (x8, .inl (x9, 600, .inl x10))]
def wd14_5 (x0 x1 : Nat) (x2 x3 x4 : Int32) (x5 : Value) (x6 x7 : Int32) : va_W := [(x0, .inr (8, [.ref x1, .int x2, .int x3, .int x4, x5, .int x6, .int x7]))]
def wd14_6 (x0 x1 x2 : Nat) (x3 x4 : Value) (x5 : Int32) (x6 x7 : Nat) (x8 x9 x10 : Int32) (x11 : Value) (x12 x13 : Int32) (x14 : Nat) (x15 : ClassId) (x16 : Nat → Int32) (x17 : Nat) (x18 : ClassId) (x19 : Nat → Int32) (x20 : Nat) (x21 : ClassId) (x22 : Nat → Int32) : va_W := [(x0, .inr (4, [.ref x1, .ref x2, x3, x4, .int x5])), (x6, .inr (8, [.ref x7, .int x8, .int x9, .int x10, x11, .int x12, .int x13])), (x14, .inl (x15, 600, .inl x16)), (x17, .inl (x18, 150, .inl x19)), (x20, .inl (x21, 150, .inl x22))]
def wd14_7 (x0 x1 x2 : Nat) (x3 x4 : Value) (x5 : Int32) (x6 : Nat) (x7 : ClassId) (x8 : Nat → Int32) (x9 : Nat) (x10 : ClassId) (x11 : Nat → Int32) : va_W := [(x0, .inr (4, [.ref x1, .ref x2, x3, x4, .int x5])), (x6, .inl (x7, 150, .inl x8)), (x9, .inl (x10, 150, .inl x11))]
def wd14_8 (x0 x1 x2 : Nat) (x3 x4 : Value) (x5 : Int32) (x6 x7 : Nat) (x8 x9 x10 : Int32) (x11 : Value) (x12 x13 : Int32) (x14 : Nat) (x15 : ClassId) (x16 : Nat → Int32) : va_W := [(x0, .inr (4, [.ref x1, .ref x2, x3, x4, .int x5])), (x6, .inr (8, [.ref x7, .int x8, .int x9, .int x10, x11, .int x12, .int x13])), (x14, .inl (x15, 600, .inl x16))]
def wd14_9 (x0 : Nat) (x1 : ClassId) (x2 : Nat → Int32) (x3 : Nat) (x4 : ClassId) (x5 : Nat → Int32) : va_W := [(x0, .inl (x1, 150, .inl x2)), (x3, .inl (x4, 150, .inl x5))]
def wd14_10 (x0 x1 x2 : Nat) (x3 x4 : Value) (x5 : Int32) (x6 x7 : Nat) (x8 x9 x10 : Int32) (x11 : Value) (x12 x13 : Int32) : va_W := [(x0, .inr (4, [.ref x1, .ref x2, x3, x4, .int x5])), (x6, .inr (8, [.ref x7, .int x8, .int x9, .int x10, x11, .int x12, .int x13]))]
def wd14_11 (x0 x1 x2 : Nat) (x3 x4 : Value) (x5 : Int32) (x6 : Nat) (x7 : ClassId) (x8 : Nat → Int32) (x9 : Nat) (x10 : ClassId) (x11 : Nat → Int32) (x12 : Nat) (x13 : ClassId) (x14 : Nat → Int32) : va_W := [(x0, .inr (4, [.ref x1, .ref x2, x3, x4, .int x5])), (x6, .inl (x7, 600, .inl x8)), (x9, .inl (x10, 150, .inl x11)), (x12, .inl (x13, 150, .inl x14))]
set_option maxHeartbeats 4000000 in
set_option maxRecDepth 100000 in
theorem ck_X4_readInner_s_r0 (l : Launch) (dC : Nat → ClassId) (dI : Nat → Nat → Nat) (cyB cyI cyJ cyP : ClassId) (a0 a1 : Nat) (sz : Nat) (z0_kinds : Value) (z0_values : Value) (z0_pile : Value) (z0_facts : Value) (z0_length : Value) (z1_bytes : Value) (z1_length : Value) (z1_at : Value) (z1_filled : Value) (v1_token : Int32) (v1_fault : Int32) (v1_faultPlace : Int32) (p2 : Int32) {Q : Int32 → Int32 → Prop} (hw : wq_X4_readInner_s_r0 v1_token v1_fault v1_faultPlace p2 Q) : Met l yX4_readInner wsX4_readInner ({ frames := 2, cells := 0, slots := 0, locals := 43 }) (va_Pc [.ref a0, .ref a1, .int p2] (cPs (zE) l (dC, dI) (kT cyB cyI cyJ cyP) (wd14_0 a0 z0_kinds z0_values z0_pile z0_facts z0_length a1 z1_bytes z1_length z1_at v1_token z1_filled v1_fault v1_faultPlace) sz)) (va_Qv (fun (u : Int32 × Int32) => Q u.1 u.2) (cB (dC, dI) (kT cyB cyI cyJ cyP) (va_A (wd14_0 a0 z0_kinds z0_values z0_pile z0_facts z0_length a1 z1_bytes z1_length z1_at v1_token z1_filled v1_fault v1_faultPlace) sz) (fun u : Int32 × Int32 => ((wd14_0 a0 z0_kinds z0_values z0_pile z0_facts z0_length a1 z1_bytes z1_length z1_at v1_token z1_filled u.1 u.2) : va_W))) (va_A (wd14_0 a0 z0_kinds z0_values z0_pile z0_facts z0_length a1 z1_bytes z1_length z1_at v1_token z1_filled v1_fault v1_faultPlace) sz)) 0 0 (va_A (wd14_0 a0 z0_kinds z0_values z0_pile z0_facts z0_length a1 z1_bytes z1_length z1_at v1_token z1_filled v1_fault v1_faultPlace) sz) := by
  refine Met.ofW (cc := cX4_readInner) (maxL := 3) (ret := none) (by decide) rfl ?_
  intro p e s m args below meth c s₁ B hml hv
  obtain ⟨rfl, ⟨hsz, hP, hK, hD0, hNw, hXl, hXu, hXn, hXt⟩, hE0⟩ := hv
  have hx := B.exec
  have hb := B.bytes
  have hr := B.returns
  have hts := atoms_spec (ws := wsX4_readInner) B.pre
  have hown : s.vm.findClass RX4 = some m.cls := findClass_of_methodNamed B.named
  have hlocks := B.notSynchronized
  subst hsz
  have hD := hD0.self (sz := s.heap.size)
  generalize hAe : va_A (wd14_0 a0 z0_kinds z0_values z0_pile z0_facts z0_length a1 z1_bytes z1_length z1_at v1_token z1_filled v1_fault v1_faultPlace) s.heap.size = A at hD hXu hXn hE0 ⊢
  have hA : ∀ q : Nat, s.heap.size ≤ q → A q := fun q h => by rw [← hAe]; exact Or.inr h
  have hS : va_S A s.heap s.heap [] := va_S.rf
  have hP : va_P (dC, dI) vwCl (wd14_0 a0 z0_kinds z0_values z0_pile z0_facts z0_length a1 z1_bytes z1_length z1_at v1_token z1_filled v1_fault v1_faultPlace) s.heap := hP
  have hl := lv_entry ([.ref a0, .ref a1, .int p2]) (n := 3) (Nat.le_of_ble_eq_true rfl)
  rw [lg_entry_eq]
  generalize (lg_sl ([.ref a0, .ref a1, .int p2]) ++ List.replicate (3 - (lg_sl ([.ref a0, .ref a1, .int p2])).length) Slot.unset).toArray = ls at hl ⊢
  have hl : lv_has ls 3 [(0, .ref a0), (1, .ref a1), (2, .int p2)] := hl
  have hY : cfY l s A := ⟨hXl, hXu, hXn, hXt⟩
  have C0 : cfx p s m _ meth c cX4_readInner none wsX4_readInner RX4 3 A (dC, dI) (kT cyB cyI cyJ cyP) ∧ cfY l s A ∧ zE A s s.heap := ⟨⟨hx, hb, hr, hts, hown, hlocks, hml, hA, hK, hNw⟩, hY, hE0⟩
  have hE := hE0
  clear hAe
  obtain ⟨H, hH⟩ : ∃ H, H = s.heap := ⟨_, rfl⟩
  rw [← hH] at hP ⊢
  have hS : va_S A s.heap H [] := by rw [hH]; exact va_S.rf
  have hS := hS
  refine lv_iload_n hx hb dX4_readInner_0 rfl (lv_at hl 2 rfl) ?_
  refine lv_bipush (v := 6) hx hb dX4_readInner_1 (by decide) ?_
  refine lv_icmp_lt (tgt := 12) hx hb dX4_readInner_3 (by decide) (fun c1 => ?_) (fun c1 => ?_)
  · have hw := hw.1 c1
    refine lv_aload_n hx hb dX4_readInner_12 rfl (lv_at hl 0 rfl) ?_
    refine lv_aload_n hx hb dX4_readInner_13 rfl (lv_at hl 1 rfl) ?_
    refine lv_iload_n hx hb dX4_readInner_14 rfl (lv_at hl 2 rfl) ?_
    refine lv_iconst (v := 1) hx hb dX4_readInner_15 (by decide) ?_
    refine lv_iadd hx hb dX4_readInner_16 ?_
    refine lv_topi (fun x2 ex2 => ?_)
    have hw := hw x2 ex2
    exact False.elim hw
  · have hw := hw.2 c1
    refine lv_aload_n hx hb dX4_readInner_6 rfl (lv_at hl 1 rfl) ?_
    refine lv_iconst (v := 3) hx hb dX4_readInner_7 (by decide) ?_
    have hPc := hP.sub (ws' := (wd14_1 a1 z1_bytes z1_length z1_at v1_token z1_filled v1_fault v1_faultPlace)) [1] rfl
    have hDc := hD.sub (ws' := (wd14_1 a1 z1_bytes z1_length z1_at v1_token z1_filled v1_fault v1_faultPlace)) [1] (by decide) rfl
    have hFc := va_free (wc := (wd14_1 a1 z1_bytes z1_length z1_at v1_token z1_filled v1_fault v1_faultPlace)) hD hS hA [1] rfl
    refine va_callv (va_runV (As := [.int 3]) (rest := []) ⟨hx, hb, hml, hown, hts⟩ (ck_X8_blameToken l dC dI cyB cyI cyJ cyP a1 H.size (z1_bytes) (z1_length) (z1_at) (z1_filled) v1_token v1_fault v1_faultPlace 3 hw) (cwV 1 hts gX4_readInner_X8_blameToken rfl rfl rfl (by decide +kernel) ⟨Nat.le_of_ble_eq_true rfl, Nat.le_of_ble_eq_true rfl⟩) ⟨cPc_blind, va_recv hK hPc (ci := 8) (q0 := 0) rfl rfl, cPc_pre hPc hK hDc hNw⟩ rfl rfl hl.1 rfl (lv_room (Nat.le_of_ble_eq_true rfl)) dX4_readInner_8 ⟨Nat.le_of_ble_eq_true rfl, Nat.le_of_ble_eq_true rfl⟩) hS (fun q _ h => hFc q h) hFc (fun u t H1 locs ht hvm hw hB hz1 hk1 hS => ?_)
    obtain ⟨x3, x4⟩ := u
    obtain ⟨hP1, hK1, hD1⟩ := hB
    rw [ht] at hP1
    obtain ⟨hP, hD⟩ := va_join (wr := (wd14_2 a0 z0_kinds z0_values z0_pile z0_facts z0_length)) (w1 := (wd14_1 a1 z1_bytes z1_length z1_at v1_token z1_filled x3 x4)) hP hD [1] [0] rfl rfl (by decide) (by decide) hk1 hFc hP1 hD1
    have hP : va_P (dC, dI) vwCl (wd14_0 a0 z0_kinds z0_values z0_pile z0_facts z0_length a1 z1_bytes z1_length z1_at v1_token z1_filled x3 x4) H1 := hP
    have hD : va_D A (wd14_0 a0 z0_kinds z0_values z0_pile z0_facts z0_length a1 z1_bytes z1_length z1_at v1_token z1_filled x3 x4) := hD
    generalize H1 = H at hP hS ⊢
    exact ((W.vret hx hb hr (fun t ht hW => ⟨⟨(x3, x4), rfl, hw, by rw [ht]; exact hP, va_K.moved hW.alike hK, hD⟩, hS.F ht⟩) hS.2.2 dX4_readInner_11))
set_option maxHeartbeats 4000000 in
set_option maxRecDepth 100000 in
theorem ck_X4_readPair_s_r0 (l : Launch) (dC : Nat → ClassId) (dI : Nat → Nat → Nat) (cyB cyI cyJ cyP : ClassId) (a0 a1 a1_bytes : Nat) (sz : Nat) (z0_kinds : Value) (z0_values : Value) (z0_pile : Value) (z0_facts : Value) (z0_length : Value) (z1_filled : Value) (v1_length : Int32) (f1_bytes : Nat → Int32) (v1_at : Int32) (v1_token : Int32) (v1_fault : Int32) (v1_faultPlace : Int32) (p2 : Int32) (p3 : Int32) {Q : Int32 → Int32 → Int32 → Int32 → Prop} (hw : wq_X4_readPair_s_r0 v1_length f1_bytes v1_at v1_token v1_fault v1_faultPlace p2 p3 Q) : Met l yX4_readPair wsX4_readPair ({ frames := 3, cells := 0, slots := 0, locals := 63 }) (va_Pc [.ref a0, .ref a1, .int p2, .int p3] (cPs (zE) l (dC, dI) (kT cyB cyI cyJ cyP) (wd14_3 a0 z0_kinds z0_values z0_pile z0_facts z0_length a1 a1_bytes v1_length v1_at v1_token z1_filled v1_fault v1_faultPlace a1_bytes cyB f1_bytes) sz)) (va_Qv (fun (u : Int32 × Int32 × Int32 × Int32) => Q u.1 u.2.1 u.2.2.1 u.2.2.2) (cB (dC, dI) (kT cyB cyI cyJ cyP) (va_A (wd14_3 a0 z0_kinds z0_values z0_pile z0_facts z0_length a1 a1_bytes v1_length v1_at v1_token z1_filled v1_fault v1_faultPlace a1_bytes cyB f1_bytes) sz) (fun u : Int32 × Int32 × Int32 × Int32 => ((wd14_3 a0 z0_kinds z0_values z0_pile z0_facts z0_length a1 a1_bytes v1_length u.1 u.2.1 z1_filled u.2.2.1 u.2.2.2 a1_bytes cyB f1_bytes) : va_W))) (va_A (wd14_3 a0 z0_kinds z0_values z0_pile z0_facts z0_length a1 a1_bytes v1_length v1_at v1_token z1_filled v1_fault v1_faultPlace a1_bytes cyB f1_bytes) sz)) 0 0 (va_A (wd14_3 a0 z0_kinds z0_values z0_pile z0_facts z0_length a1 a1_bytes v1_length v1_at v1_token z1_filled v1_fault v1_faultPlace a1_bytes cyB f1_bytes) sz) := by
  refine Met.ofW (cc := cX4_readPair) (maxL := 4) (ret := none) (by decide) rfl ?_
  intro p e s m args below meth c s₁ B hml hv
  obtain ⟨rfl, ⟨hsz, hP, hK, hD0, hNw, hXl, hXu, hXn, hXt⟩, hE0⟩ := hv
  have hx := B.exec
  have hb := B.bytes
  have hr := B.returns
  have hts := atoms_spec (ws := wsX4_readPair) B.pre
  have hown : s.vm.findClass RX4 = some m.cls := findClass_of_methodNamed B.named
  have hlocks := B.notSynchronized
  subst hsz
  have hD := hD0.self (sz := s.heap.size)
  generalize hAe : va_A (wd14_3 a0 z0_kinds z0_values z0_pile z0_facts z0_length a1 a1_bytes v1_length v1_at v1_token z1_filled v1_fault v1_faultPlace a1_bytes cyB f1_bytes) s.heap.size = A at hD hXu hXn hE0 ⊢
  have hA : ∀ q : Nat, s.heap.size ≤ q → A q := fun q h => by rw [← hAe]; exact Or.inr h
  have hS : va_S A s.heap s.heap [] := va_S.rf
  have hP : va_P (dC, dI) vwCl (wd14_3 a0 z0_kinds z0_values z0_pile z0_facts z0_length a1 a1_bytes v1_length v1_at v1_token z1_filled v1_fault v1_faultPlace a1_bytes cyB f1_bytes) s.heap := hP
  have hl := lv_entry ([.ref a0, .ref a1, .int p2, .int p3]) (n := 4) (Nat.le_of_ble_eq_true rfl)
  rw [lg_entry_eq]
  generalize (lg_sl ([.ref a0, .ref a1, .int p2, .int p3]) ++ List.replicate (4 - (lg_sl ([.ref a0, .ref a1, .int p2, .int p3])).length) Slot.unset).toArray = ls at hl ⊢
  have hl : lv_has ls 4 [(0, .ref a0), (1, .ref a1), (2, .int p2), (3, .int p3)] := hl
  have hY : cfY l s A := ⟨hXl, hXu, hXn, hXt⟩
  have C0 : cfx p s m _ meth c cX4_readPair none wsX4_readPair RX4 4 A (dC, dI) (kT cyB cyI cyJ cyP) ∧ cfY l s A ∧ zE A s s.heap := ⟨⟨hx, hb, hr, hts, hown, hlocks, hml, hA, hK, hNw⟩, hY, hE0⟩
  have hE := hE0
  clear hAe
  obtain ⟨H, hH⟩ : ∃ H, H = s.heap := ⟨_, rfl⟩
  rw [← hH] at hP ⊢
  have hS : va_S A s.heap H [] := by rw [hH]; exact va_S.rf
  have hS := hS
  refine lv_iload_n hx hb dX4_readPair_0 rfl (lv_at hl 2 rfl) ?_
  refine lv_bipush (v := 6) hx hb dX4_readPair_1 (by decide) ?_
  refine lv_icmp_lt (tgt := 12) hx hb dX4_readPair_3 (by decide) (fun c1 => ?_) (fun c1 => ?_)
  · have hw := hw.1 c1
    refine lv_aload_n hx hb dX4_readPair_12 rfl (lv_at hl 1 rfl) ?_
    refine lv_bipush (v := 91) hx hb dX4_readPair_13 (by decide) ?_
    have hPc := hP.sub (ws' := (wd14_4 a1 a1_bytes v1_length v1_at v1_token z1_filled v1_fault v1_faultPlace a1_bytes cyB f1_bytes)) [1, 2] rfl
    have hDc := hD.sub (ws' := (wd14_4 a1 a1_bytes v1_length v1_at v1_token z1_filled v1_fault v1_faultPlace a1_bytes cyB f1_bytes)) [1, 2] (by decide) rfl
    have hFc := va_free (wc := (wd14_4 a1 a1_bytes v1_length v1_at v1_token z1_filled v1_fault v1_faultPlace a1_bytes cyB f1_bytes)) hD hS hA [1, 2] rfl
    refine va_callv (va_runV (As := [.int 91]) (rest := []) ⟨hx, hb, hml, hown, hts⟩ (ck_X8_needs l dC dI cyB cyI cyJ cyP a1 a1_bytes H.size (z1_filled) v1_length f1_bytes v1_at v1_token v1_fault v1_faultPlace 91 hw) (cwV 1 hts gX4_readPair_X8_needs rfl rfl rfl (by decide +kernel) ⟨Nat.le_of_ble_eq_true rfl, Nat.le_of_ble_eq_true rfl⟩) ⟨cPc_blind, va_recv hK hPc (ci := 8) (q0 := 0) rfl rfl, cPc_pre hPc hK hDc hNw⟩ rfl rfl hl.1 rfl (lv_room (Nat.le_of_ble_eq_true rfl)) dX4_readPair_15 ⟨Nat.le_of_ble_eq_true rfl, Nat.le_of_ble_eq_true rfl⟩) hS (fun q _ h => hFc q h) hFc (fun u t H1 locs ht hvm hw hB hz1 hk1 hS => ?_)
    obtain ⟨x2, x3, x4, x5⟩ := u
    obtain ⟨hP1, hK1, hD1⟩ := hB
    rw [ht] at hP1
    obtain ⟨hP, hD⟩ := va_join (wr := (wd14_2 a0 z0_kinds z0_values z0_pile z0_facts z0_length)) (w1 := (wd14_4 a1 a1_bytes v1_length x2 x3 z1_filled x4 x5 a1_bytes cyB f1_bytes)) hP hD [1, 2] [0] rfl rfl (by decide) (by decide) hk1 hFc hP1 hD1
    have hP : va_P (dC, dI) vwCl (wd14_3 a0 z0_kinds z0_values z0_pile z0_facts z0_length a1 a1_bytes v1_length x2 x3 z1_filled x4 x5 a1_bytes cyB f1_bytes) H1 := hP
    have hD : va_D A (wd14_3 a0 z0_kinds z0_values z0_pile z0_facts z0_length a1 a1_bytes v1_length x2 x3 z1_filled x4 x5 a1_bytes cyB f1_bytes) := hD
    generalize H1 = H at hP hS ⊢
    refine lv_aload_n hx hb dX4_readPair_18 rfl (lv_at hl 0 rfl) ?_
    refine lv_aload_n hx hb dX4_readPair_19 rfl (lv_at hl 1 rfl) ?_
    refine lv_iload_n hx hb dX4_readPair_20 rfl (lv_at hl 2 rfl) ?_
    refine lv_iconst (v := 1) hx hb dX4_readPair_21 (by decide) ?_
    refine lv_iadd hx hb dX4_readPair_22 ?_
    refine lv_topi (fun x6 ex6 => ?_)
    have hw := hw x6 ex6
    exact False.elim hw
  · have hw := hw.2 c1
    refine lv_aload_n hx hb dX4_readPair_6 rfl (lv_at hl 1 rfl) ?_
    refine lv_iconst (v := 3) hx hb dX4_readPair_7 (by decide) ?_
    have hPc := hP.sub (ws' := (wd14_5 a1 a1_bytes v1_length v1_at v1_token z1_filled v1_fault v1_faultPlace)) [1] rfl
    have hDc := hD.sub (ws' := (wd14_5 a1 a1_bytes v1_length v1_at v1_token z1_filled v1_fault v1_faultPlace)) [1] (by decide) rfl
    have hFc := va_free (wc := (wd14_5 a1 a1_bytes v1_length v1_at v1_token z1_filled v1_fault v1_faultPlace)) hD hS hA [1] rfl
    refine va_callv (va_runV (As := [.int 3]) (rest := []) ⟨hx, hb, hml, hown, hts⟩ (ck_X8_blameToken l dC dI cyB cyI cyJ cyP a1 H.size (.ref a1_bytes) (.int v1_length) (.int v1_at) (z1_filled) v1_token v1_fault v1_faultPlace 3 hw) (cwV 1 hts gX4_readPair_X8_blameToken rfl rfl rfl (by decide +kernel) ⟨Nat.le_of_ble_eq_true rfl, Nat.le_of_ble_eq_true rfl⟩) ⟨cPc_blind, va_recv hK hPc (ci := 8) (q0 := 0) rfl rfl, cPc_pre hPc hK hDc hNw⟩ rfl rfl hl.1 rfl (lv_room (Nat.le_of_ble_eq_true rfl)) dX4_readPair_8 ⟨Nat.le_of_ble_eq_true rfl, Nat.le_of_ble_eq_true rfl⟩) hS (fun q _ h => hFc q h) hFc (fun u t H1 locs ht hvm hw hB hz1 hk1 hS => ?_)
    obtain ⟨x7, x8⟩ := u
    obtain ⟨hP1, hK1, hD1⟩ := hB
    rw [ht] at hP1
    obtain ⟨hP, hD⟩ := va_join (wr := [(a0, .inr (4, [z0_kinds, z0_values, z0_pile, z0_facts, z0_length])), (a1_bytes, .inl (cyB, 600, .inl f1_bytes))]) (w1 := (wd14_5 a1 a1_bytes v1_length v1_at v1_token z1_filled x7 x8)) hP hD [1] [0, 2] rfl rfl (by decide) (by decide) hk1 hFc hP1 hD1
    have hP : va_P (dC, dI) vwCl (wd14_3 a0 z0_kinds z0_values z0_pile z0_facts z0_length a1 a1_bytes v1_length v1_at v1_token z1_filled x7 x8 a1_bytes cyB f1_bytes) H1 := hP.sub [0, 2, 1] rfl
    have hD : va_D A (wd14_3 a0 z0_kinds z0_values z0_pile z0_facts z0_length a1 a1_bytes v1_length v1_at v1_token z1_filled x7 x8 a1_bytes cyB f1_bytes) := hD.sub [0, 2, 1] (by decide) rfl
    generalize H1 = H at hP hS ⊢
    exact ((W.vret hx hb hr (fun t ht hW => ⟨⟨(v1_at, v1_token, x7, x8), rfl, hw, by rw [ht]; exact hP, va_K.moved hW.alike hK, hD⟩, hS.F ht⟩) hS.2.2 dX4_readPair_11))
set_option maxHeartbeats 4000000 in
set_option maxRecDepth 100000 in
theorem ck_X4_readUnit_s_r0 (l : Launch) (dC : Nat → ClassId) (dI : Nat → Nat → Nat) (cyB cyI cyJ cyP : ClassId) (a0 a1 a1_bytes a0_kinds a0_values : Nat) (sz : Nat) (z0_pile : Value) (z0_facts : Value) (z1_filled : Value) (v1_length : Int32) (f1_bytes : Nat → Int32) (v1_at : Int32) (v1_token : Int32) (v1_fault : Int32) (v1_faultPlace : Int32) (f0_kinds : Nat → Int32) (f0_values : Nat → Int32) (v0_length : Int32) (p2 : Int32) {Q : Int32 → Int32 → Int32 → Int32 → (Nat → Int32) → (Nat → Int32) → Int32 → Prop} (hw : wq_X4_readUnit_s_r0 v1_length f1_bytes v1_at v1_token v1_fault v1_faultPlace f0_kinds f0_values v0_length p2 Q) : Met l yX4_readUnit wsX4_readUnit ({ frames := 6, cells := 0, slots := 0, locals := 129 }) (va_Pc [.ref a0, .ref a1, .int p2] (cPs (zE) l (dC, dI) (kT cyB cyI cyJ cyP) (wd14_6 a0 a0_kinds a0_values z0_pile z0_facts v0_length a1 a1_bytes v1_length v1_at v1_token z1_filled v1_fault v1_faultPlace a1_bytes cyB f1_bytes a0_kinds cyI f0_kinds a0_values cyI f0_values) sz)) (va_Qv (fun (u : Int32 × Int32 × Int32 × Int32 × (Nat → Int32) × (Nat → Int32) × Int32) => Q u.1 u.2.1 u.2.2.1 u.2.2.2.1 u.2.2.2.2.1 u.2.2.2.2.2.1 u.2.2.2.2.2.2) (cB (dC, dI) (kT cyB cyI cyJ cyP) (va_A (wd14_6 a0 a0_kinds a0_values z0_pile z0_facts v0_length a1 a1_bytes v1_length v1_at v1_token z1_filled v1_fault v1_faultPlace a1_bytes cyB f1_bytes a0_kinds cyI f0_kinds a0_values cyI f0_values) sz) (fun u : Int32 × Int32 × Int32 × Int32 × (Nat → Int32) × (Nat → Int32) × Int32 => ((wd14_6 a0 a0_kinds a0_values z0_pile z0_facts u.2.2.2.2.2.2 a1 a1_bytes v1_length u.1 u.2.1 z1_filled u.2.2.1 u.2.2.2.1 a1_bytes cyB f1_bytes a0_kinds cyI u.2.2.2.2.1 a0_values cyI u.2.2.2.2.2.1) : va_W))) (va_A (wd14_6 a0 a0_kinds a0_values z0_pile z0_facts v0_length a1 a1_bytes v1_length v1_at v1_token z1_filled v1_fault v1_faultPlace a1_bytes cyB f1_bytes a0_kinds cyI f0_kinds a0_values cyI f0_values) sz)) 0 0 (va_A (wd14_6 a0 a0_kinds a0_values z0_pile z0_facts v0_length a1 a1_bytes v1_length v1_at v1_token z1_filled v1_fault v1_faultPlace a1_bytes cyB f1_bytes a0_kinds cyI f0_kinds a0_values cyI f0_values) sz) := by
  refine Met.ofW (cc := cX4_readUnit) (maxL := 3) (ret := none) (by decide) rfl ?_
  intro p e s m args below meth c s₁ B hml hv
  obtain ⟨rfl, ⟨hsz, hP, hK, hD0, hNw, hXl, hXu, hXn, hXt⟩, hE0⟩ := hv
  have hx := B.exec
  have hb := B.bytes
  have hr := B.returns
  have hts := atoms_spec (ws := wsX4_readUnit) B.pre
  have hown : s.vm.findClass RX4 = some m.cls := findClass_of_methodNamed B.named
  have hlocks := B.notSynchronized
  subst hsz
  have hD := hD0.self (sz := s.heap.size)
  generalize hAe : va_A (wd14_6 a0 a0_kinds a0_values z0_pile z0_facts v0_length a1 a1_bytes v1_length v1_at v1_token z1_filled v1_fault v1_faultPlace a1_bytes cyB f1_bytes a0_kinds cyI f0_kinds a0_values cyI f0_values) s.heap.size = A at hD hXu hXn hE0 ⊢
  have hA : ∀ q : Nat, s.heap.size ≤ q → A q := fun q h => by rw [← hAe]; exact Or.inr h
  have hS : va_S A s.heap s.heap [] := va_S.rf
  have hP : va_P (dC, dI) vwCl (wd14_6 a0 a0_kinds a0_values z0_pile z0_facts v0_length a1 a1_bytes v1_length v1_at v1_token z1_filled v1_fault v1_faultPlace a1_bytes cyB f1_bytes a0_kinds cyI f0_kinds a0_values cyI f0_values) s.heap := hP
  have hl := lv_entry ([.ref a0, .ref a1, .int p2]) (n := 3) (Nat.le_of_ble_eq_true rfl)
  rw [lg_entry_eq]
  generalize (lg_sl ([.ref a0, .ref a1, .int p2]) ++ List.replicate (3 - (lg_sl ([.ref a0, .ref a1, .int p2])).length) Slot.unset).toArray = ls at hl ⊢
  have hl : lv_has ls 3 [(0, .ref a0), (1, .ref a1), (2, .int p2)] := hl
  have hY : cfY l s A := ⟨hXl, hXu, hXn, hXt⟩
  have C0 : cfx p s m _ meth c cX4_readUnit none wsX4_readUnit RX4 3 A (dC, dI) (kT cyB cyI cyJ cyP) ∧ cfY l s A ∧ zE A s s.heap := ⟨⟨hx, hb, hr, hts, hown, hlocks, hml, hA, hK, hNw⟩, hY, hE0⟩
  have hE := hE0
  clear hAe
  obtain ⟨H, hH⟩ : ∃ H, H = s.heap := ⟨_, rfl⟩
  rw [← hH] at hP ⊢
  have hS : va_S A s.heap H [] := by rw [hH]; exact va_S.rf
  have hS := hS
  refine lv_aload_n hx hb dX4_readUnit_0 rfl (lv_at hl 1 rfl) ?_
  have hPc := hP.sub (ws' := (wd14_4 a1 a1_bytes v1_length v1_at v1_token z1_filled v1_fault v1_faultPlace a1_bytes cyB f1_bytes)) [1, 2] rfl
  have hDc := hD.sub (ws' := (wd14_4 a1 a1_bytes v1_length v1_at v1_token z1_filled v1_fault v1_faultPlace a1_bytes cyB f1_bytes)) [1, 2] (by decide) rfl
  have hFc := va_free (wc := (wd14_4 a1 a1_bytes v1_length v1_at v1_token z1_filled v1_fault v1_faultPlace a1_bytes cyB f1_bytes)) hD hS hA [1, 2] rfl
  refine va_calli (va_runV (As := []) (rest := []) ⟨hx, hb, hml, hown, hts⟩ (ck_X8_seesDigit l dC dI cyB cyI cyJ cyP a1 a1_bytes H.size (.int v1_token) (z1_filled) (.int v1_fault) (.int v1_faultPlace) v1_length f1_bytes v1_at  hw) (cwV 0 hts gX4_readUnit_X8_seesDigit rfl rfl rfl (by decide +kernel) ⟨Nat.le_of_ble_eq_true rfl, Nat.le_of_ble_eq_true rfl⟩) ⟨cPc_blind, va_recv hK hPc (ci := 8) (q0 := 0) rfl rfl, cPc_pre hPc hK hDc hNw⟩ rfl rfl hl.1 rfl (lv_room (Nat.le_of_ble_eq_true rfl)) dX4_readUnit_1 ⟨Nat.le_of_ble_eq_true rfl, Nat.le_of_ble_eq_true rfl⟩) hS (fun q _ h => hFc q h) hFc (fun r2 u t H1 locs ht hvm hw hB hz1 hk1 hS => ?_)
  obtain ⟨x1, rfl⟩ : ∃ z, z = u := ⟨_, rfl⟩
  obtain ⟨hP1, hK1, hD1⟩ := hB
  rw [ht] at hP1
  obtain ⟨hP, hD⟩ := va_join (wr := (wd14_7 a0 a0_kinds a0_values z0_pile z0_facts v0_length a0_kinds cyI f0_kinds a0_values cyI f0_values)) (w1 := (wd14_4 a1 a1_bytes v1_length x1 v1_token z1_filled v1_fault v1_faultPlace a1_bytes cyB f1_bytes)) hP hD [1, 2] [0, 3, 4] rfl rfl (by decide) (by decide) hk1 hFc hP1 hD1
  have hP : va_P (dC, dI) vwCl (wd14_6 a0 a0_kinds a0_values z0_pile z0_facts v0_length a1 a1_bytes v1_length x1 v1_token z1_filled v1_fault v1_faultPlace a1_bytes cyB f1_bytes a0_kinds cyI f0_kinds a0_values cyI f0_values) H1 := hP.sub [0, 3, 4, 1, 2] rfl
  have hD : va_D A (wd14_6 a0 a0_kinds a0_values z0_pile z0_facts v0_length a1 a1_bytes v1_length x1 v1_token z1_filled v1_fault v1_faultPlace a1_bytes cyB f1_bytes a0_kinds cyI f0_kinds a0_values cyI f0_values) := hD.sub [0, 3, 4, 1, 2] (by decide) rfl
  generalize H1 = H at hP hS ⊢
  refine lv_if_eq (tgt := 23) hx hb dX4_readUnit_4 (by decide) (fun c3 => ?_) (fun c3 => ?_)
  · have hw := hw.1 c3
    refine lv_aload_n hx hb dX4_readUnit_23 rfl (lv_at hl 1 rfl) ?_
    refine lv_bipush (v := 40) hx hb dX4_readUnit_24 (by decide) ?_
    have hPc := hP.sub (ws' := (wd14_4 a1 a1_bytes v1_length x1 v1_token z1_filled v1_fault v1_faultPlace a1_bytes cyB f1_bytes)) [1, 2] rfl
    have hDc := hD.sub (ws' := (wd14_4 a1 a1_bytes v1_length x1 v1_token z1_filled v1_fault v1_faultPlace a1_bytes cyB f1_bytes)) [1, 2] (by decide) rfl
    have hFc := va_free (wc := (wd14_4 a1 a1_bytes v1_length x1 v1_token z1_filled v1_fault v1_faultPlace a1_bytes cyB f1_bytes)) hD hS hA [1, 2] rfl
    refine va_calli (va_runV (As := [.int 40]) (rest := []) ⟨hx, hb, hml, hown, hts⟩ (ck_X8_takes l dC dI cyB cyI cyJ cyP a1 a1_bytes H.size (z1_filled) (.int v1_faultPlace) v1_length v1_fault f1_bytes x1 v1_token 40 hw) (cwV 1 hts gX4_readUnit_X8_takes rfl rfl rfl (by decide +kernel) ⟨Nat.le_of_ble_eq_true rfl, Nat.le_of_ble_eq_true rfl⟩) ⟨cPc_blind, va_recv hK hPc (ci := 8) (q0 := 0) rfl rfl, cPc_pre hPc hK hDc hNw⟩ rfl rfl hl.1 rfl (lv_room (Nat.le_of_ble_eq_true rfl)) dX4_readUnit_26 ⟨Nat.le_of_ble_eq_true rfl, Nat.le_of_ble_eq_true rfl⟩) hS (fun q _ h => hFc q h) hFc (fun r6 u t H1 locs ht hvm hw hB hz1 hk1 hS => ?_)
    obtain ⟨x4, x5⟩ := u
    obtain ⟨hP1, hK1, hD1⟩ := hB
    rw [ht] at hP1
    obtain ⟨hP, hD⟩ := va_join (wr := (wd14_7 a0 a0_kinds a0_values z0_pile z0_facts v0_length a0_kinds cyI f0_kinds a0_values cyI f0_values)) (w1 := (wd14_4 a1 a1_bytes v1_length x4 x5 z1_filled v1_fault v1_faultPlace a1_bytes cyB f1_bytes)) hP hD [1, 2] [0, 3, 4] rfl rfl (by decide) (by decide) hk1 hFc hP1 hD1
    have hP : va_P (dC, dI) vwCl (wd14_6 a0 a0_kinds a0_values z0_pile z0_facts v0_length a1 a1_bytes v1_length x4 x5 z1_filled v1_fault v1_faultPlace a1_bytes cyB f1_bytes a0_kinds cyI f0_kinds a0_values cyI f0_values) H1 := hP.sub [0, 3, 4, 1, 2] rfl
    have hD : va_D A (wd14_6 a0 a0_kinds a0_values z0_pile z0_facts v0_length a1 a1_bytes v1_length x4 x5 z1_filled v1_fault v1_faultPlace a1_bytes cyB f1_bytes a0_kinds cyI f0_kinds a0_values cyI f0_values) := hD.sub [0, 3, 4, 1, 2] (by decide) rfl
    generalize H1 = H at hP hS ⊢
    refine lv_if_eq (tgt := 41) hx hb dX4_readUnit_29 (by decide) (fun c7 => ?_) (fun c7 => ?_)
    · have hw := hw.1 c7
      refine lv_aload_n hx hb dX4_readUnit_41 rfl (lv_at hl 1 rfl) ?_
      obtain ⟨k8, hRk8, hZk8⟩ := zE_X4_68 hE
      refine va_ldcS hx hb hown hRk8 dX4_readUnit_42 ?_
      have hPc := hP.sub (ws' := (wd14_4 a1 a1_bytes v1_length x4 x5 z1_filled v1_fault v1_faultPlace a1_bytes cyB f1_bytes)) [1, 2] rfl
      have hDc := hD.sub (ws' := (wd14_4 a1 a1_bytes v1_length x4 x5 z1_filled v1_fault v1_faultPlace a1_bytes cyB f1_bytes)) [1, 2] (by decide) rfl
      have hFc := va_free (wc := (wd14_4 a1 a1_bytes v1_length x4 x5 z1_filled v1_fault v1_faultPlace a1_bytes cyB f1_bytes)) hD hS hA [1, 2] rfl
      refine va_calli (va_runV (As := [.ref k8]) (rest := []) ⟨hx, hb, hml, hown, hts⟩ (ck_X8_takesWord_s l dC dI cyB cyI cyJ cyP a1 k8 a1_bytes H.size (z1_filled) (.int v1_faultPlace) 5 zb_X4_68 v1_length v1_fault f1_bytes x4 x5  hw) (cwV 1 hts gX4_readUnit_X8_takesWord rfl rfl rfl (by decide +kernel) ⟨Nat.le_of_ble_eq_true rfl, Nat.le_of_ble_eq_true rfl⟩) ⟨cPs_blind zP_G, va_recv hK hPc (ci := 8) (q0 := 0) rfl rfl, cPs_pre zP_G hPc hK hDc hNw hY ⟨hE, hZk8⟩ hS hFc⟩ rfl rfl hl.1 rfl (lv_room (Nat.le_of_ble_eq_true rfl)) dX4_readUnit_44 ⟨Nat.le_of_ble_eq_true rfl, Nat.le_of_ble_eq_true rfl⟩) hS (fun q _ h => hFc q h) hFc (fun r11 u t H1 locs ht hvm hw hB hz1 hk1 hS => ?_)
      obtain ⟨x9, x10⟩ := u
      obtain ⟨hP1, hK1, hD1⟩ := hB
      rw [ht] at hP1
      obtain ⟨hP, hD⟩ := va_join (wr := (wd14_7 a0 a0_kinds a0_values z0_pile z0_facts v0_length a0_kinds cyI f0_kinds a0_values cyI f0_values)) (w1 := (wd14_4 a1 a1_bytes v1_length x9 x10 z1_filled v1_fault v1_faultPlace a1_bytes cyB f1_bytes)) hP hD [1, 2] [0, 3, 4] rfl rfl (by decide) (by decide) hk1 hFc hP1 hD1
      have hP : va_P (dC, dI) vwCl (wd14_6 a0 a0_kinds a0_values z0_pile z0_facts v0_length a1 a1_bytes v1_length x9 x10 z1_filled v1_fault v1_faultPlace a1_bytes cyB f1_bytes a0_kinds cyI f0_kinds a0_values cyI f0_values) H1 := hP.sub [0, 3, 4, 1, 2] rfl
      have hD : va_D A (wd14_6 a0 a0_kinds a0_values z0_pile z0_facts v0_length a1 a1_bytes v1_length x9 x10 z1_filled v1_fault v1_faultPlace a1_bytes cyB f1_bytes a0_kinds cyI f0_kinds a0_values cyI f0_values) := hD.sub [0, 3, 4, 1, 2] (by decide) rfl
      generalize H1 = H at hP hS ⊢
      refine lv_if_eq (tgt := 61) hx hb dX4_readUnit_47 (by decide) (fun c12 => ?_) (fun c12 => ?_)
      · have hw := hw.1 c12
        refine lv_aload_n hx hb dX4_readUnit_61 rfl (lv_at hl 1 rfl) ?_
        obtain ⟨k13, hRk13, hZk13⟩ := zE_X4_78 hE
        refine va_ldcS hx hb hown hRk13 dX4_readUnit_62 ?_
        have hPc := hP.sub (ws' := (wd14_4 a1 a1_bytes v1_length x9 x10 z1_filled v1_fault v1_faultPlace a1_bytes cyB f1_bytes)) [1, 2] rfl
        have hDc := hD.sub (ws' := (wd14_4 a1 a1_bytes v1_length x9 x10 z1_filled v1_fault v1_faultPlace a1_bytes cyB f1_bytes)) [1, 2] (by decide) rfl
        have hFc := va_free (wc := (wd14_4 a1 a1_bytes v1_length x9 x10 z1_filled v1_fault v1_faultPlace a1_bytes cyB f1_bytes)) hD hS hA [1, 2] rfl
        refine va_calli (va_runV (As := [.ref k13]) (rest := []) ⟨hx, hb, hml, hown, hts⟩ (ck_X8_takesWord_s l dC dI cyB cyI cyJ cyP a1 k13 a1_bytes H.size (z1_filled) (.int v1_faultPlace) 4 zb_X4_78 v1_length v1_fault f1_bytes x9 x10  hw) (cwV 1 hts gX4_readUnit_X8_takesWord rfl rfl rfl (by decide +kernel) ⟨Nat.le_of_ble_eq_true rfl, Nat.le_of_ble_eq_true rfl⟩) ⟨cPs_blind zP_G, va_recv hK hPc (ci := 8) (q0 := 0) rfl rfl, cPs_pre zP_G hPc hK hDc hNw hY ⟨hE, hZk13⟩ hS hFc⟩ rfl rfl hl.1 rfl (lv_room (Nat.le_of_ble_eq_true rfl)) dX4_readUnit_64 ⟨Nat.le_of_ble_eq_true rfl, Nat.le_of_ble_eq_true rfl⟩) hS (fun q _ h => hFc q h) hFc (fun r16 u t H1 locs ht hvm hw hB hz1 hk1 hS => ?_)
        obtain ⟨x14, x15⟩ := u
        obtain ⟨hP1, hK1, hD1⟩ := hB
        rw [ht] at hP1
        obtain ⟨hP, hD⟩ := va_join (wr := (wd14_7 a0 a0_kinds a0_values z0_pile z0_facts v0_length a0_kinds cyI f0_kinds a0_values cyI f0_values)) (w1 := (wd14_4 a1 a1_bytes v1_length x14 x15 z1_filled v1_fault v1_faultPlace a1_bytes cyB f1_bytes)) hP hD [1, 2] [0, 3, 4] rfl rfl (by decide) (by decide) hk1 hFc hP1 hD1
        have hP : va_P (dC, dI) vwCl (wd14_6 a0 a0_kinds a0_values z0_pile z0_facts v0_length a1 a1_bytes v1_length x14 x15 z1_filled v1_fault v1_faultPlace a1_bytes cyB f1_bytes a0_kinds cyI f0_kinds a0_values cyI f0_values) H1 := hP.sub [0, 3, 4, 1, 2] rfl
        have hD : va_D A (wd14_6 a0 a0_kinds a0_values z0_pile z0_facts v0_length a1 a1_bytes v1_length x14 x15 z1_filled v1_fault v1_faultPlace a1_bytes cyB f1_bytes a0_kinds cyI f0_kinds a0_values cyI f0_values) := hD.sub [0, 3, 4, 1, 2] (by decide) rfl
        generalize H1 = H at hP hS ⊢
        refine lv_if_eq (tgt := 81) hx hb dX4_readUnit_67 (by decide) (fun c17 => ?_) (fun c17 => ?_)
        · have hw := hw.1 c17
          refine lv_aload_n hx hb dX4_readUnit_81 rfl (lv_at hl 0 rfl) ?_
          refine lv_aload_n hx hb dX4_readUnit_82 rfl (lv_at hl 1 rfl) ?_
          have hPc := hP.sub (ws' := (wd14_6 a0 a0_kinds a0_values z0_pile z0_facts v0_length a1 a1_bytes v1_length x14 x15 z1_filled v1_fault v1_faultPlace a1_bytes cyB f1_bytes a0_kinds cyI f0_kinds a0_values cyI f0_values)) [0, 1, 2, 3, 4] rfl
          have hDc := hD.sub (ws' := (wd14_6 a0 a0_kinds a0_values z0_pile z0_facts v0_length a1 a1_bytes v1_length x14 x15 z1_filled v1_fault v1_faultPlace a1_bytes cyB f1_bytes a0_kinds cyI f0_kinds a0_values cyI f0_values)) [0, 1, 2, 3, 4] (by decide) rfl
          have hFc := va_free (wc := (wd14_6 a0 a0_kinds a0_values z0_pile z0_facts v0_length a1 a1_bytes v1_length x14 x15 z1_filled v1_fault v1_faultPlace a1_bytes cyB f1_bytes a0_kinds cyI f0_kinds a0_values cyI f0_values)) hD hS hA [0, 1, 2, 3, 4] rfl
          refine va_callv (va_runV (As := [.ref a1]) (rest := []) ⟨hx, hb, hml, hown, hts⟩ (ck_X4_readFact_s l dC dI cyB cyI cyJ cyP a0 a1 a1_bytes a0_kinds a0_values H.size (z0_pile) (z0_facts) (z1_filled) v1_length f1_bytes x14 x15 v1_fault v1_faultPlace f0_kinds f0_values v0_length  hw) (cwV 1 hts gX4_readUnit_X4_readFact rfl rfl rfl (by decide +kernel) ⟨Nat.le_of_ble_eq_true rfl, Nat.le_of_ble_eq_true rfl⟩) ⟨cPs_blind zE_G, va_recv hK hPc (ci := 4) (q0 := 0) rfl rfl, cPs_pre zE_G hPc hK hDc hNw hY hE hS hFc⟩ rfl rfl hl.1 rfl (lv_room (Nat.le_of_ble_eq_true rfl)) dX4_readUnit_83 ⟨Nat.le_of_ble_eq_true rfl, Nat.le_of_ble_eq_true rfl⟩) hS (fun q _ h => hFc q h) hFc (fun u t H1 locs ht hvm hw hB hz1 hk1 hS => ?_)
          obtain ⟨x18, x19, x20, x21, f22, f23, x24⟩ := u
          obtain ⟨hP1, hK1, hD1⟩ := hB
          rw [ht] at hP1
          obtain ⟨hP, hD⟩ := va_join (wr := []) (w1 := (wd14_6 a0 a0_kinds a0_values z0_pile z0_facts x24 a1 a1_bytes v1_length x18 x19 z1_filled x20 x21 a1_bytes cyB f1_bytes a0_kinds cyI f22 a0_values cyI f23)) hP hD [0, 1, 2, 3, 4] [] rfl rfl (by decide) (by decide) hk1 hFc hP1 hD1
          have hP : va_P (dC, dI) vwCl (wd14_6 a0 a0_kinds a0_values z0_pile z0_facts x24 a1 a1_bytes v1_length x18 x19 z1_filled x20 x21 a1_bytes cyB f1_bytes a0_kinds cyI f22 a0_values cyI f23) H1 := hP
          have hD : va_D A (wd14_6 a0 a0_kinds a0_values z0_pile z0_facts x24 a1 a1_bytes v1_length x18 x19 z1_filled x20 x21 a1_bytes cyB f1_bytes a0_kinds cyI f22 a0_values cyI f23) := hD
          generalize H1 = H at hP hS ⊢
          exact ((W.vret hx hb hr (fun t ht hW => ⟨⟨(x18, x19, x20, x21, f22, f23, x24), rfl, hw, by rw [ht]; exact hP, va_K.moved hW.alike hK, hD⟩, hS.F ht⟩) hS.2.2 dX4_readUnit_86))
        · have hw := hw.2 c17
          refine lv_aload_n hx hb dX4_readUnit_70 rfl (lv_at hl 0 rfl) ?_
          refine lv_aload_n hx hb dX4_readUnit_71 rfl (lv_at hl 1 rfl) ?_
          refine lv_iload_n hx hb dX4_readUnit_72 rfl (lv_at hl 2 rfl) ?_
          refine lv_bipush (v := 8) hx hb dX4_readUnit_73 (by decide) ?_
          have hPc := hP.sub (ws' := (wd14_8 a0 a0_kinds a0_values z0_pile z0_facts v0_length a1 a1_bytes v1_length x14 x15 z1_filled v1_fault v1_faultPlace a1_bytes cyB f1_bytes)) [0, 1, 2] rfl
          have hDc := hD.sub (ws' := (wd14_8 a0 a0_kinds a0_values z0_pile z0_facts v0_length a1 a1_bytes v1_length x14 x15 z1_filled v1_fault v1_faultPlace a1_bytes cyB f1_bytes)) [0, 1, 2] (by decide) rfl
          have hFc := va_free (wc := (wd14_8 a0 a0_kinds a0_values z0_pile z0_facts v0_length a1 a1_bytes v1_length x14 x15 z1_filled v1_fault v1_faultPlace a1_bytes cyB f1_bytes)) hD hS hA [0, 1, 2] rfl
          refine va_callv (va_runV (As := [.ref a1, .int p2, .int 8]) (rest := []) ⟨hx, hb, hml, hown, hts⟩ (ck_X4_readPair_s_r0 l dC dI cyB cyI cyJ cyP a0 a1 a1_bytes H.size (.ref a0_kinds) (.ref a0_values) (z0_pile) (z0_facts) (.int v0_length) (z1_filled) v1_length f1_bytes x14 x15 v1_fault v1_faultPlace p2 8 hw) (cwV 3 hts gX4_readUnit_X4_readPair rfl rfl rfl (by decide +kernel) ⟨Nat.le_of_ble_eq_true rfl, Nat.le_of_ble_eq_true rfl⟩) ⟨cPs_blind zE_G, va_recv hK hPc (ci := 4) (q0 := 0) rfl rfl, cPs_pre zE_G hPc hK hDc hNw hY hE hS hFc⟩ rfl rfl hl.1 rfl (lv_room (Nat.le_of_ble_eq_true rfl)) dX4_readUnit_75 ⟨Nat.le_of_ble_eq_true rfl, Nat.le_of_ble_eq_true rfl⟩) hS (fun q _ h => hFc q h) hFc (fun u t H1 locs ht hvm hw hB hz1 hk1 hS => ?_)
          obtain ⟨x25, x26, x27, x28⟩ := u
          obtain ⟨hP1, hK1, hD1⟩ := hB
          rw [ht] at hP1
          obtain ⟨hP, hD⟩ := va_join (wr := (wd14_9 a0_kinds cyI f0_kinds a0_values cyI f0_values)) (w1 := (wd14_8 a0 a0_kinds a0_values z0_pile z0_facts v0_length a1 a1_bytes v1_length x25 x26 z1_filled x27 x28 a1_bytes cyB f1_bytes)) hP hD [0, 1, 2] [3, 4] rfl rfl (by decide) (by decide) hk1 hFc hP1 hD1
          have hP : va_P (dC, dI) vwCl (wd14_6 a0 a0_kinds a0_values z0_pile z0_facts v0_length a1 a1_bytes v1_length x25 x26 z1_filled x27 x28 a1_bytes cyB f1_bytes a0_kinds cyI f0_kinds a0_values cyI f0_values) H1 := hP.sub [2, 3, 4, 0, 1] rfl
          have hD : va_D A (wd14_6 a0 a0_kinds a0_values z0_pile z0_facts v0_length a1 a1_bytes v1_length x25 x26 z1_filled x27 x28 a1_bytes cyB f1_bytes a0_kinds cyI f0_kinds a0_values cyI f0_values) := hD.sub [2, 3, 4, 0, 1] (by decide) rfl
          generalize H1 = H at hP hS ⊢
          refine lv_goto (tgt := 86) hx hb dX4_readUnit_78 (by decide) ?_
          exact ((W.vret hx hb hr (fun t ht hW => ⟨⟨(x25, x26, x27, x28, f0_kinds, f0_values, v0_length), rfl, hw, by rw [ht]; exact hP, va_K.moved hW.alike hK, hD⟩, hS.F ht⟩) hS.2.2 dX4_readUnit_86))
      · have hw := hw.2 c12
        refine lv_aload_n hx hb dX4_readUnit_50 rfl (lv_at hl 0 rfl) ?_
        refine lv_aload_n hx hb dX4_readUnit_51 rfl (lv_at hl 1 rfl) ?_
        refine lv_iload_n hx hb dX4_readUnit_52 rfl (lv_at hl 2 rfl) ?_
        refine lv_bipush (v := 7) hx hb dX4_readUnit_53 (by decide) ?_
        have hPc := hP.sub (ws' := (wd14_8 a0 a0_kinds a0_values z0_pile z0_facts v0_length a1 a1_bytes v1_length x9 x10 z1_filled v1_fault v1_faultPlace a1_bytes cyB f1_bytes)) [0, 1, 2] rfl
        have hDc := hD.sub (ws' := (wd14_8 a0 a0_kinds a0_values z0_pile z0_facts v0_length a1 a1_bytes v1_length x9 x10 z1_filled v1_fault v1_faultPlace a1_bytes cyB f1_bytes)) [0, 1, 2] (by decide) rfl
        have hFc := va_free (wc := (wd14_8 a0 a0_kinds a0_values z0_pile z0_facts v0_length a1 a1_bytes v1_length x9 x10 z1_filled v1_fault v1_faultPlace a1_bytes cyB f1_bytes)) hD hS hA [0, 1, 2] rfl
        refine va_callv (va_runV (As := [.ref a1, .int p2, .int 7]) (rest := []) ⟨hx, hb, hml, hown, hts⟩ (ck_X4_readPair_s_r0 l dC dI cyB cyI cyJ cyP a0 a1 a1_bytes H.size (.ref a0_kinds) (.ref a0_values) (z0_pile) (z0_facts) (.int v0_length) (z1_filled) v1_length f1_bytes x9 x10 v1_fault v1_faultPlace p2 7 hw) (cwV 3 hts gX4_readUnit_X4_readPair rfl rfl rfl (by decide +kernel) ⟨Nat.le_of_ble_eq_true rfl, Nat.le_of_ble_eq_true rfl⟩) ⟨cPs_blind zE_G, va_recv hK hPc (ci := 4) (q0 := 0) rfl rfl, cPs_pre zE_G hPc hK hDc hNw hY hE hS hFc⟩ rfl rfl hl.1 rfl (lv_room (Nat.le_of_ble_eq_true rfl)) dX4_readUnit_55 ⟨Nat.le_of_ble_eq_true rfl, Nat.le_of_ble_eq_true rfl⟩) hS (fun q _ h => hFc q h) hFc (fun u t H1 locs ht hvm hw hB hz1 hk1 hS => ?_)
        obtain ⟨x29, x30, x31, x32⟩ := u
        obtain ⟨hP1, hK1, hD1⟩ := hB
        rw [ht] at hP1
        obtain ⟨hP, hD⟩ := va_join (wr := (wd14_9 a0_kinds cyI f0_kinds a0_values cyI f0_values)) (w1 := (wd14_8 a0 a0_kinds a0_values z0_pile z0_facts v0_length a1 a1_bytes v1_length x29 x30 z1_filled x31 x32 a1_bytes cyB f1_bytes)) hP hD [0, 1, 2] [3, 4] rfl rfl (by decide) (by decide) hk1 hFc hP1 hD1
        have hP : va_P (dC, dI) vwCl (wd14_6 a0 a0_kinds a0_values z0_pile z0_facts v0_length a1 a1_bytes v1_length x29 x30 z1_filled x31 x32 a1_bytes cyB f1_bytes a0_kinds cyI f0_kinds a0_values cyI f0_values) H1 := hP.sub [2, 3, 4, 0, 1] rfl
        have hD : va_D A (wd14_6 a0 a0_kinds a0_values z0_pile z0_facts v0_length a1 a1_bytes v1_length x29 x30 z1_filled x31 x32 a1_bytes cyB f1_bytes a0_kinds cyI f0_kinds a0_values cyI f0_values) := hD.sub [2, 3, 4, 0, 1] (by decide) rfl
        generalize H1 = H at hP hS ⊢
        refine lv_goto (tgt := 86) hx hb dX4_readUnit_58 (by decide) ?_
        exact ((W.vret hx hb hr (fun t ht hW => ⟨⟨(x29, x30, x31, x32, f0_kinds, f0_values, v0_length), rfl, hw, by rw [ht]; exact hP, va_K.moved hW.alike hK, hD⟩, hS.F ht⟩) hS.2.2 dX4_readUnit_86))
    · have hw := hw.2 c7
      refine lv_aload_n hx hb dX4_readUnit_32 rfl (lv_at hl 0 rfl) ?_
      refine lv_aload_n hx hb dX4_readUnit_33 rfl (lv_at hl 1 rfl) ?_
      refine lv_iload_n hx hb dX4_readUnit_34 rfl (lv_at hl 2 rfl) ?_
      have hPc := hP.sub (ws' := (wd14_10 a0 a0_kinds a0_values z0_pile z0_facts v0_length a1 a1_bytes v1_length x4 x5 z1_filled v1_fault v1_faultPlace)) [0, 1] rfl
      have hDc := hD.sub (ws' := (wd14_10 a0 a0_kinds a0_values z0_pile z0_facts v0_length a1 a1_bytes v1_length x4 x5 z1_filled v1_fault v1_faultPlace)) [0, 1] (by decide) rfl
      have hFc := va_free (wc := (wd14_10 a0 a0_kinds a0_values z0_pile z0_facts v0_length a1 a1_bytes v1_length x4 x5 z1_filled v1_fault v1_faultPlace)) hD hS hA [0, 1] rfl
      refine va_callv (va_runV (As := [.ref a1, .int p2]) (rest := []) ⟨hx, hb, hml, hown, hts⟩ (ck_X4_readInner_s_r0 l dC dI cyB cyI cyJ cyP a0 a1 H.size (.ref a0_kinds) (.ref a0_values) (z0_pile) (z0_facts) (.int v0_length) (.ref a1_bytes) (.int v1_length) (.int x4) (z1_filled) x5 v1_fault v1_faultPlace p2 hw) (cwV 2 hts gX4_readUnit_X4_readInner rfl rfl rfl (by decide +kernel) ⟨Nat.le_of_ble_eq_true rfl, Nat.le_of_ble_eq_true rfl⟩) ⟨cPs_blind zE_G, va_recv hK hPc (ci := 4) (q0 := 0) rfl rfl, cPs_pre zE_G hPc hK hDc hNw hY hE hS hFc⟩ rfl rfl hl.1 rfl (lv_room (Nat.le_of_ble_eq_true rfl)) dX4_readUnit_35 ⟨Nat.le_of_ble_eq_true rfl, Nat.le_of_ble_eq_true rfl⟩) hS (fun q _ h => hFc q h) hFc (fun u t H1 locs ht hvm hw hB hz1 hk1 hS => ?_)
      obtain ⟨x33, x34⟩ := u
      obtain ⟨hP1, hK1, hD1⟩ := hB
      rw [ht] at hP1
      obtain ⟨hP, hD⟩ := va_join (wr := [(a1_bytes, .inl (cyB, 600, .inl f1_bytes)), (a0_kinds, .inl (cyI, 150, .inl f0_kinds)), (a0_values, .inl (cyI, 150, .inl f0_values))]) (w1 := (wd14_10 a0 a0_kinds a0_values z0_pile z0_facts v0_length a1 a1_bytes v1_length x4 x5 z1_filled x33 x34)) hP hD [0, 1] [2, 3, 4] rfl rfl (by decide) (by decide) hk1 hFc hP1 hD1
      have hP : va_P (dC, dI) vwCl (wd14_6 a0 a0_kinds a0_values z0_pile z0_facts v0_length a1 a1_bytes v1_length x4 x5 z1_filled x33 x34 a1_bytes cyB f1_bytes a0_kinds cyI f0_kinds a0_values cyI f0_values) H1 := hP.sub [3, 4, 0, 1, 2] rfl
      have hD : va_D A (wd14_6 a0 a0_kinds a0_values z0_pile z0_facts v0_length a1 a1_bytes v1_length x4 x5 z1_filled x33 x34 a1_bytes cyB f1_bytes a0_kinds cyI f0_kinds a0_values cyI f0_values) := hD.sub [3, 4, 0, 1, 2] (by decide) rfl
      generalize H1 = H at hP hS ⊢
      refine lv_goto (tgt := 86) hx hb dX4_readUnit_38 (by decide) ?_
      exact ((W.vret hx hb hr (fun t ht hW => ⟨⟨(x4, x5, x33, x34, f0_kinds, f0_values, v0_length), rfl, hw, by rw [ht]; exact hP, va_K.moved hW.alike hK, hD⟩, hS.F ht⟩) hS.2.2 dX4_readUnit_86))
  · have hw := hw.2 c3
    refine lv_aload_n hx hb dX4_readUnit_7 rfl (lv_at hl 0 rfl) ?_
    refine lv_iconst (v := 0) hx hb dX4_readUnit_8 (by decide) ?_
    refine lv_aload_n hx hb dX4_readUnit_9 rfl (lv_at hl 1 rfl) ?_
    refine lv_iconst (v := 0) hx hb dX4_readUnit_10 (by decide) ?_
    refine lv_sipush (v := 999) hx hb dX4_readUnit_11 (by decide) ?_
    have hPc := hP.sub (ws' := (wd14_4 a1 a1_bytes v1_length x1 v1_token z1_filled v1_fault v1_faultPlace a1_bytes cyB f1_bytes)) [1, 2] rfl
    have hDc := hD.sub (ws' := (wd14_4 a1 a1_bytes v1_length x1 v1_token z1_filled v1_fault v1_faultPlace a1_bytes cyB f1_bytes)) [1, 2] (by decide) rfl
    have hFc := va_free (wc := (wd14_4 a1 a1_bytes v1_length x1 v1_token z1_filled v1_fault v1_faultPlace a1_bytes cyB f1_bytes)) hD hS hA [1, 2] rfl
    refine va_calli (va_runV (As := [.int 0, .int 999]) (rest := [.int 0, .ref a0]) ⟨hx, hb, hml, hown, hts⟩ (ck_X8_number l dC dI cyB cyI cyJ cyP a1 a1_bytes H.size (z1_filled) v1_length f1_bytes x1 v1_fault v1_faultPlace v1_token 0 999 hw) (cwV 2 hts gX4_readUnit_X8_number rfl rfl rfl (by decide +kernel) ⟨Nat.le_of_ble_eq_true rfl, Nat.le_of_ble_eq_true rfl⟩) ⟨cPc_blind, va_recv hK hPc (ci := 8) (q0 := 0) rfl rfl, cPc_pre hPc hK hDc hNw⟩ rfl rfl hl.1 rfl (lv_room (Nat.le_of_ble_eq_true rfl)) dX4_readUnit_14 ⟨Nat.le_of_ble_eq_true rfl, Nat.le_of_ble_eq_true rfl⟩) hS (fun q _ h => hFc q h) hFc (fun r39 u t H1 locs ht hvm hw hB hz1 hk1 hS => ?_)
    obtain ⟨x35, x36, x37, x38⟩ := u
    obtain ⟨hP1, hK1, hD1⟩ := hB
    rw [ht] at hP1
    obtain ⟨hP, hD⟩ := va_join (wr := (wd14_7 a0 a0_kinds a0_values z0_pile z0_facts v0_length a0_kinds cyI f0_kinds a0_values cyI f0_values)) (w1 := (wd14_4 a1 a1_bytes v1_length x35 x38 z1_filled x36 x37 a1_bytes cyB f1_bytes)) hP hD [1, 2] [0, 3, 4] rfl rfl (by decide) (by decide) hk1 hFc hP1 hD1
    have hP : va_P (dC, dI) vwCl (wd14_6 a0 a0_kinds a0_values z0_pile z0_facts v0_length a1 a1_bytes v1_length x35 x38 z1_filled x36 x37 a1_bytes cyB f1_bytes a0_kinds cyI f0_kinds a0_values cyI f0_values) H1 := hP.sub [0, 3, 4, 1, 2] rfl
    have hD : va_D A (wd14_6 a0 a0_kinds a0_values z0_pile z0_facts v0_length a1 a1_bytes v1_length x35 x38 z1_filled x36 x37 a1_bytes cyB f1_bytes a0_kinds cyI f0_kinds a0_values cyI f0_values) := hD.sub [0, 3, 4, 1, 2] (by decide) rfl
    generalize H1 = H at hP hS ⊢
    have hPc := hP.sub (ws' := (wd14_7 a0 a0_kinds a0_values z0_pile z0_facts v0_length a0_kinds cyI f0_kinds a0_values cyI f0_values)) [0, 3, 4] rfl
    have hDc := hD.sub (ws' := (wd14_7 a0 a0_kinds a0_values z0_pile z0_facts v0_length a0_kinds cyI f0_kinds a0_values cyI f0_values)) [0, 3, 4] (by decide) rfl
    have hFc := va_free (wc := (wd14_7 a0 a0_kinds a0_values z0_pile z0_facts v0_length a0_kinds cyI f0_kinds a0_values cyI f0_values)) hD hS hA [0, 3, 4] rfl
    refine va_callv (va_runV (As := [.int 0, .int r39]) (rest := []) ⟨hx, hb, hml, hown, hts⟩ (ck_X4_add l dC dI cyB cyI cyJ cyP a0 a0_kinds a0_values H.size (z0_pile) (z0_facts)  f0_kinds f0_values v0_length 0 r39 hw) (cwV 2 hts gX4_readUnit_X4_add rfl rfl rfl (by decide +kernel) ⟨Nat.le_of_ble_eq_true rfl, Nat.le_of_ble_eq_true rfl⟩) ⟨cPc_blind, va_recv hK hPc (ci := 4) (q0 := 0) rfl rfl, cPc_pre hPc hK hDc hNw⟩ rfl rfl hl.1 rfl (lv_room (Nat.le_of_ble_eq_true rfl)) dX4_readUnit_17 ⟨Nat.le_of_ble_eq_true rfl, Nat.le_of_ble_eq_true rfl⟩) hS (fun q _ h => hFc q h) hFc (fun u t H1 locs ht hvm hw hB hz1 hk1 hS => ?_)
    obtain ⟨f40, f41, x42⟩ := u
    obtain ⟨hP1, hK1, hD1⟩ := hB
    rw [ht] at hP1
    obtain ⟨hP, hD⟩ := va_join (wr := (wd14_4 a1 a1_bytes v1_length x35 x38 z1_filled x36 x37 a1_bytes cyB f1_bytes)) (w1 := (wd14_7 a0 a0_kinds a0_values z0_pile z0_facts x42 a0_kinds cyI f40 a0_values cyI f41)) hP hD [0, 3, 4] [1, 2] rfl rfl (by decide) (by decide) hk1 hFc hP1 hD1
    have hP : va_P (dC, dI) vwCl (wd14_6 a0 a0_kinds a0_values z0_pile z0_facts x42 a1 a1_bytes v1_length x35 x38 z1_filled x36 x37 a1_bytes cyB f1_bytes a0_kinds cyI f40 a0_values cyI f41) H1 := hP.sub [2, 0, 1, 3, 4] rfl
    have hD : va_D A (wd14_6 a0 a0_kinds a0_values z0_pile z0_facts x42 a1 a1_bytes v1_length x35 x38 z1_filled x36 x37 a1_bytes cyB f1_bytes a0_kinds cyI f40 a0_values cyI f41) := hD.sub [2, 0, 1, 3, 4] (by decide) rfl
    generalize H1 = H at hP hS ⊢
    refine lv_goto (tgt := 86) hx hb dX4_readUnit_20 (by decide) ?_
    exact ((W.vret hx hb hr (fun t ht hW => ⟨⟨(x35, x38, x36, x37, f40, f41, x42), rfl, hw, by rw [ht]; exact hP, va_K.moved hW.alike hK, hD⟩, hS.F ht⟩) hS.2.2 dX4_readUnit_86))
set_option maxHeartbeats 4000000 in
set_option maxRecDepth 100000 in
theorem kb_X4_readProduct_s_r0_63 {p : Program} {l : Launch} {e : Env} {s : State} {m : MethodId} {args : Array Value} {below : List Frame} {meth : Method} {c : Code} {A : Nat → Prop} (dC : Nat → ClassId) (dI : Nat → Nat → Nat) (cyB cyI cyJ cyP : ClassId) (a0 a1 a1_bytes a0_kinds a0_values : Nat) (z0_pile : Value) (z0_facts : Value) (z1_filled : Value) (v1_length : Int32) (f1_bytes : Nat → Int32) (Q : Int32 → Int32 → Int32 → Int32 → (Nat → Int32) → (Nat → Int32) → Int32 → Prop) (K8 : Int32 → Int32 → Int32 → Int32 → (Nat → Int32) → (Nat → Int32) → Int32 → Int32 → Int32 → Prop) (hK8 : ∀ (H : Heap) (locs : List Loc) (ls : Array Slot) (v1_at : Int32) (v1_token : Int32) (v1_fault : Int32) (v1_faultPlace : Int32) (f0_kinds : Nat → Int32) (f0_values : Nat → Int32) (v0_length : Int32) (l2 : Int32) (l3 : Int32), va_P (dC, dI) vwCl (wd14_6 a0 a0_kinds a0_values z0_pile z0_facts v0_length a1 a1_bytes v1_length v1_at v1_token z1_filled v1_fault v1_faultPlace a1_bytes cyB f1_bytes a0_kinds cyI f0_kinds a0_values cyI f0_values) H → va_D A (wd14_6 a0 a0_kinds a0_values z0_pile z0_facts v0_length a1 a1_bytes v1_length v1_at v1_token z1_filled v1_fault v1_faultPlace a1_bytes cyB f1_bytes a0_kinds cyI f0_kinds a0_values cyI f0_values) → va_S A s.heap H locs → lv_has ls 5 [(0, .ref a0), (1, .ref a1), (2, .int l2), (3, .int l3)] → K8 v1_at v1_token v1_fault v1_faultPlace f0_kinds f0_values v0_length l2 l3 → W p l e (headSpec wsX4_readProduct ({ frames := 7, cells := 0, slots := 0, locals := 151 })).room s m args below meth c H locs 0 0 (MQ below (va_Qv (fun (u : Int32 × Int32 × Int32 × Int32 × (Nat → Int32) × (Nat → Int32) × Int32) => Q u.1 u.2.1 u.2.2.1 u.2.2.2.1 u.2.2.2.2.1 u.2.2.2.2.2.1 u.2.2.2.2.2.2) (cB (dC, dI) (kT cyB cyI cyJ cyP) A (fun u : Int32 × Int32 × Int32 × Int32 × (Nat → Int32) × (Nat → Int32) × Int32 => ((wd14_6 a0 a0_kinds a0_values z0_pile z0_facts u.2.2.2.2.2.2 a1 a1_bytes v1_length u.1 u.2.1 z1_filled u.2.2.1 u.2.2.2.1 a1_bytes cyB f1_bytes a0_kinds cyI u.2.2.2.2.1 a0_values cyI u.2.2.2.2.2.1) : va_W))) A) args s 0 0 A) (F0 m 8 ls [])) (C0 : cfx p s m args meth c cX4_readProduct none wsX4_readProduct RX4 5 A (dC, dI) (kT cyB cyI cyJ cyP) ∧ cfY l s A ∧ zE A s s.heap) : ∀ (H : Heap) (locs : List Loc) (ls : Array Slot) (v1_at : Int32) (v1_token : Int32) (v1_fault : Int32) (v1_faultPlace : Int32) (f0_kinds : Nat → Int32) (f0_values : Nat → Int32) (v0_length : Int32) (l2 : Int32) (l3 : Int32) (s0 : Int32), va_P (dC, dI) vwCl (wd14_6 a0 a0_kinds a0_values z0_pile z0_facts v0_length a1 a1_bytes v1_length v1_at v1_token z1_filled v1_fault v1_faultPlace a1_bytes cyB f1_bytes a0_kinds cyI f0_kinds a0_values cyI f0_values) H → va_D A (wd14_6 a0 a0_kinds a0_values z0_pile z0_facts v0_length a1 a1_bytes v1_length v1_at v1_token z1_filled v1_fault v1_faultPlace a1_bytes cyB f1_bytes a0_kinds cyI f0_kinds a0_values cyI f0_values) → va_S A s.heap H locs → lv_has ls 5 [(0, .ref a0), (1, .ref a1), (2, .int l2), (3, .int l3)] → wb_X4_readProduct_s_r0_63 v1_length f1_bytes Q K8 v1_at v1_token v1_fault v1_faultPlace f0_kinds f0_values v0_length l2 l3 s0 → W p l e (headSpec wsX4_readProduct ({ frames := 7, cells := 0, slots := 0, locals := 151 })).room s m args below meth c H locs 0 0 (MQ below (va_Qv (fun (u : Int32 × Int32 × Int32 × Int32 × (Nat → Int32) × (Nat → Int32) × Int32) => Q u.1 u.2.1 u.2.2.1 u.2.2.2.1 u.2.2.2.2.1 u.2.2.2.2.2.1 u.2.2.2.2.2.2) (cB (dC, dI) (kT cyB cyI cyJ cyP) A (fun u : Int32 × Int32 × Int32 × Int32 × (Nat → Int32) × (Nat → Int32) × Int32 => ((wd14_6 a0 a0_kinds a0_values z0_pile z0_facts u.2.2.2.2.2.2 a1 a1_bytes v1_length u.1 u.2.1 z1_filled u.2.2.1 u.2.2.2.1 a1_bytes cyB f1_bytes a0_kinds cyI u.2.2.2.2.1 a0_values cyI u.2.2.2.2.2.1) : va_W))) A) args s 0 0 A) (F0 m 63 ls [.int s0]) := by
  obtain ⟨⟨hx, hb, hr, hts, hown, hlocks, hml, hA, hK, hNw⟩, hY, hE0⟩ := id C0
  have hE := hE0
  intro H locs ls v1_at v1_token v1_fault v1_faultPlace f0_kinds f0_values v0_length l2 l3 s0 hP hD hS hl hw
  refine lv_istore (lv' := [(4, .int s0), (0, .ref a0), (1, .ref a1), (2, .int l2), (3, .int l3)]) hx hb dX4_readProduct_63 hl (by decide) rfl (fun ls hl => ?_)
  refine lv_iload hx hb dX4_readProduct_65 (lv_at hl 0 rfl) ?_
  refine lv_iconst (v := (-1)) hx hb dX4_readProduct_67 (by decide) ?_
  refine lv_icmp_ne (tgt := 72) hx hb dX4_readProduct_68 (by decide) (fun c23 => ?_) (fun c23 => ?_)
  · have hw := hw.1 c23
    refine lv_aload_n hx hb dX4_readProduct_72 rfl (lv_at hl 1 rfl) ?_
    refine lv_aload_n hx hb dX4_readProduct_73 rfl (lv_at hl 2 rfl) ?_
    refine lv_iload_n hx hb dX4_readProduct_74 rfl (lv_at hl 3 rfl) ?_
    have hPc := hP.sub (ws' := (wd14_6 a0 a0_kinds a0_values z0_pile z0_facts v0_length a1 a1_bytes v1_length v1_at v1_token z1_filled v1_fault v1_faultPlace a1_bytes cyB f1_bytes a0_kinds cyI f0_kinds a0_values cyI f0_values)) [0, 1, 2, 3, 4] rfl
    have hDc := hD.sub (ws' := (wd14_6 a0 a0_kinds a0_values z0_pile z0_facts v0_length a1 a1_bytes v1_length v1_at v1_token z1_filled v1_fault v1_faultPlace a1_bytes cyB f1_bytes a0_kinds cyI f0_kinds a0_values cyI f0_values)) [0, 1, 2, 3, 4] (by decide) rfl
    have hFc := va_free (wc := (wd14_6 a0 a0_kinds a0_values z0_pile z0_facts v0_length a1 a1_bytes v1_length v1_at v1_token z1_filled v1_fault v1_faultPlace a1_bytes cyB f1_bytes a0_kinds cyI f0_kinds a0_values cyI f0_values)) hD hS hA [0, 1, 2, 3, 4] rfl
    refine va_callv (va_runV (As := [.ref a1, .int l2]) (rest := []) ⟨hx, hb, hml, hown, hts⟩ (ck_X4_readUnit_s_r0 l dC dI cyB cyI cyJ cyP a0 a1 a1_bytes a0_kinds a0_values H.size (z0_pile) (z0_facts) (z1_filled) v1_length f1_bytes v1_at v1_token v1_fault v1_faultPlace f0_kinds f0_values v0_length l2 hw) (cwV 2 hts gX4_readProduct_X4_readUnit rfl rfl rfl (by decide +kernel) ⟨Nat.le_of_ble_eq_true rfl, Nat.le_of_ble_eq_true rfl⟩) ⟨cPs_blind zE_G, va_recv hK hPc (ci := 4) (q0 := 0) rfl rfl, cPs_pre zE_G hPc hK hDc hNw hY hE hS hFc⟩ rfl rfl hl.1 rfl (lv_room (Nat.le_of_ble_eq_true rfl)) dX4_readProduct_75 ⟨Nat.le_of_ble_eq_true rfl, Nat.le_of_ble_eq_true rfl⟩) hS (fun q _ h => hFc q h) hFc (fun u t H1 locs ht hvm hw hB hz1 hk1 hS => ?_)
    obtain ⟨x24, x25, x26, x27, f28, f29, x30⟩ := u
    obtain ⟨hP1, hK1, hD1⟩ := hB
    rw [ht] at hP1
    obtain ⟨hP, hD⟩ := va_join (wr := []) (w1 := (wd14_6 a0 a0_kinds a0_values z0_pile z0_facts x30 a1 a1_bytes v1_length x24 x25 z1_filled x26 x27 a1_bytes cyB f1_bytes a0_kinds cyI f28 a0_values cyI f29)) hP hD [0, 1, 2, 3, 4] [] rfl rfl (by decide) (by decide) hk1 hFc hP1 hD1
    have hP : va_P (dC, dI) vwCl (wd14_6 a0 a0_kinds a0_values z0_pile z0_facts x30 a1 a1_bytes v1_length x24 x25 z1_filled x26 x27 a1_bytes cyB f1_bytes a0_kinds cyI f28 a0_values cyI f29) H1 := hP
    have hD : va_D A (wd14_6 a0 a0_kinds a0_values z0_pile z0_facts x30 a1 a1_bytes v1_length x24 x25 z1_filled x26 x27 a1_bytes cyB f1_bytes a0_kinds cyI f28 a0_values cyI f29) := hD
    generalize H1 = H at hP hS ⊢
    refine lv_aload_n hx hb dX4_readProduct_78 rfl (lv_at hl 1 rfl) ?_
    refine lv_iload hx hb dX4_readProduct_79 (lv_at hl 0 rfl) ?_
    refine lv_iconst (v := 0) hx hb dX4_readProduct_81 (by decide) ?_
    have hPc := hP.sub (ws' := (wd14_7 a0 a0_kinds a0_values z0_pile z0_facts x30 a0_kinds cyI f28 a0_values cyI f29)) [0, 3, 4] rfl
    have hDc := hD.sub (ws' := (wd14_7 a0 a0_kinds a0_values z0_pile z0_facts x30 a0_kinds cyI f28 a0_values cyI f29)) [0, 3, 4] (by decide) rfl
    have hFc := va_free (wc := (wd14_7 a0 a0_kinds a0_values z0_pile z0_facts x30 a0_kinds cyI f28 a0_values cyI f29)) hD hS hA [0, 3, 4] rfl
    refine va_callv (va_runV (As := [.int s0, .int 0]) (rest := []) ⟨hx, hb, hml, hown, hts⟩ (ck_X4_add l dC dI cyB cyI cyJ cyP a0 a0_kinds a0_values H.size (z0_pile) (z0_facts)  f28 f29 x30 s0 0 hw) (cwV 2 hts gX4_readProduct_X4_add rfl rfl rfl (by decide +kernel) ⟨Nat.le_of_ble_eq_true rfl, Nat.le_of_ble_eq_true rfl⟩) ⟨cPc_blind, va_recv hK hPc (ci := 4) (q0 := 0) rfl rfl, cPc_pre hPc hK hDc hNw⟩ rfl rfl hl.1 rfl (lv_room (Nat.le_of_ble_eq_true rfl)) dX4_readProduct_82 ⟨Nat.le_of_ble_eq_true rfl, Nat.le_of_ble_eq_true rfl⟩) hS (fun q _ h => hFc q h) hFc (fun u t H1 locs ht hvm hw hB hz1 hk1 hS => ?_)
    obtain ⟨f31, f32, x33⟩ := u
    obtain ⟨hP1, hK1, hD1⟩ := hB
    rw [ht] at hP1
    obtain ⟨hP, hD⟩ := va_join (wr := (wd14_4 a1 a1_bytes v1_length x24 x25 z1_filled x26 x27 a1_bytes cyB f1_bytes)) (w1 := (wd14_7 a0 a0_kinds a0_values z0_pile z0_facts x33 a0_kinds cyI f31 a0_values cyI f32)) hP hD [0, 3, 4] [1, 2] rfl rfl (by decide) (by decide) hk1 hFc hP1 hD1
    have hP : va_P (dC, dI) vwCl (wd14_6 a0 a0_kinds a0_values z0_pile z0_facts x33 a1 a1_bytes v1_length x24 x25 z1_filled x26 x27 a1_bytes cyB f1_bytes a0_kinds cyI f31 a0_values cyI f32) H1 := hP.sub [2, 0, 1, 3, 4] rfl
    have hD : va_D A (wd14_6 a0 a0_kinds a0_values z0_pile z0_facts x33 a1 a1_bytes v1_length x24 x25 z1_filled x26 x27 a1_bytes cyB f1_bytes a0_kinds cyI f31 a0_values cyI f32) := hD.sub [2, 0, 1, 3, 4] (by decide) rfl
    generalize H1 = H at hP hS ⊢
    obtain ⟨x34, ex34⟩ : ∃ y : Int32, y = l3 + 1 := ⟨_, rfl⟩
    have hw := hw x34 ex34
    refine lv_iinc (v := x34) (lv' := [(3, .int x34), (4, .int s0), (0, .ref a0), (1, .ref a1), (2, .int l2)]) hx hb dX4_readProduct_85 hl (k := 4) rfl (by rw [ex34]; rfl) (by decide) rfl (fun ls hl => ?_)
    refine lv_goto (tgt := 8) hx hb dX4_readProduct_88 (by decide) ?_
    exact hK8 _ _ _ x24 x25 x26 x27 f31 f32 x33 l2 x34 hP hD hS (lv_sub hl [2, 3, 4, 0] rfl) hw
  · have hw := hw.2 c23
    exact ((W.vret hx hb hr (fun t ht hW => ⟨⟨(v1_at, v1_token, v1_fault, v1_faultPlace, f0_kinds, f0_values, v0_length), rfl, hw, by rw [ht]; exact hP, va_K.moved hW.alike hK, hD⟩, hS.F ht⟩) hS.2.2 dX4_readProduct_71))
set_option maxHeartbeats 4000000 in
set_option maxRecDepth 100000 in
theorem kl_X4_readProduct_s_r0_8 {p : Program} {l : Launch} {e : Env} {s : State} {m : MethodId} {args : Array Value} {below : List Frame} {meth : Method} {c : Code} {A : Nat → Prop} (dC : Nat → ClassId) (dI : Nat → Nat → Nat) (cyB cyI cyJ cyP : ClassId) (a0 a1 a1_bytes a0_kinds a0_values : Nat) (z0_pile : Value) (z0_facts : Value) (z1_filled : Value) (v1_length : Int32) (f1_bytes : Nat → Int32) (Q : Int32 → Int32 → Int32 → Int32 → (Nat → Int32) → (Nat → Int32) → Int32 → Prop)  (C0 : cfx p s m args meth c cX4_readProduct none wsX4_readProduct RX4 5 A (dC, dI) (kT cyB cyI cyJ cyP) ∧ cfY l s A ∧ zE A s s.heap) : ∀ (n : Nat) (H : Heap) (locs : List Loc) (ls : Array Slot) (v1_at : Int32) (v1_token : Int32) (v1_fault : Int32) (v1_faultPlace : Int32) (f0_kinds : Nat → Int32) (f0_values : Nat → Int32) (v0_length : Int32) (l2 : Int32) (l3 : Int32), va_P (dC, dI) vwCl (wd14_6 a0 a0_kinds a0_values z0_pile z0_facts v0_length a1 a1_bytes v1_length v1_at v1_token z1_filled v1_fault v1_faultPlace a1_bytes cyB f1_bytes a0_kinds cyI f0_kinds a0_values cyI f0_values) H → va_D A (wd14_6 a0 a0_kinds a0_values z0_pile z0_facts v0_length a1 a1_bytes v1_length v1_at v1_token z1_filled v1_fault v1_faultPlace a1_bytes cyB f1_bytes a0_kinds cyI f0_kinds a0_values cyI f0_values) → va_S A s.heap H locs → lv_has ls 5 [(0, .ref a0), (1, .ref a1), (2, .int l2), (3, .int l3)] → wl_X4_readProduct_s_r0_8 v1_length f1_bytes Q  n v1_at v1_token v1_fault v1_faultPlace f0_kinds f0_values v0_length l2 l3 → W p l e (headSpec wsX4_readProduct ({ frames := 7, cells := 0, slots := 0, locals := 151 })).room s m args below meth c H locs 0 0 (MQ below (va_Qv (fun (u : Int32 × Int32 × Int32 × Int32 × (Nat → Int32) × (Nat → Int32) × Int32) => Q u.1 u.2.1 u.2.2.1 u.2.2.2.1 u.2.2.2.2.1 u.2.2.2.2.2.1 u.2.2.2.2.2.2) (cB (dC, dI) (kT cyB cyI cyJ cyP) A (fun u : Int32 × Int32 × Int32 × Int32 × (Nat → Int32) × (Nat → Int32) × Int32 => ((wd14_6 a0 a0_kinds a0_values z0_pile z0_facts u.2.2.2.2.2.2 a1 a1_bytes v1_length u.1 u.2.1 z1_filled u.2.2.1 u.2.2.2.1 a1_bytes cyB f1_bytes a0_kinds cyI u.2.2.2.2.1 a0_values cyI u.2.2.2.2.2.1) : va_W))) A) args s 0 0 A) (F0 m 8 ls []) := by
  obtain ⟨⟨hx, hb, hr, hts, hown, hlocks, hml, hA, hK, hNw⟩, hY, hE0⟩ := id C0
  have hE := hE0
  intro n
  induction n with
  | zero => intro H locs ls v1_at v1_token v1_fault v1_faultPlace f0_kinds f0_values v0_length l2 l3 hP hD hS hl hw; exact False.elim hw
  | succ n ih =>
    intro H locs ls v1_at v1_token v1_fault v1_faultPlace f0_kinds f0_values v0_length l2 l3 hP hD hS hl hw
    refine lv_iload_n hx hb dX4_readProduct_8 rfl (lv_at hl 3 rfl) ?_
    refine lv_sipush (v := 150) hx hb dX4_readProduct_9 (by decide) ?_
    refine lv_icmp_ge (tgt := 91) hx hb dX4_readProduct_12 (by decide) (fun c8 => ?_) (fun c8 => ?_)
    · have hw := hw.1 c8
      exact ((W.vret hx hb hr (fun t ht hW => ⟨⟨(v1_at, v1_token, v1_fault, v1_faultPlace, f0_kinds, f0_values, v0_length), rfl, hw, by rw [ht]; exact hP, va_K.moved hW.alike hK, hD⟩, hS.F ht⟩) hS.2.2 dX4_readProduct_91))
    · have hw := hw.2 c8
      refine lv_aload_n hx hb dX4_readProduct_15 rfl (lv_at hl 1 rfl) ?_
      have hPc := hP.sub (ws' := (wd14_5 a1 a1_bytes v1_length v1_at v1_token z1_filled v1_fault v1_faultPlace)) [1] rfl
      have hDc := hD.sub (ws' := (wd14_5 a1 a1_bytes v1_length v1_at v1_token z1_filled v1_fault v1_faultPlace)) [1] (by decide) rfl
      have hFc := va_free (wc := (wd14_5 a1 a1_bytes v1_length v1_at v1_token z1_filled v1_fault v1_faultPlace)) hD hS hA [1] rfl
      refine va_calli (va_runV (As := []) (rest := []) ⟨hx, hb, hml, hown, hts⟩ (ck_X8_isFaulty l dC dI cyB cyI cyJ cyP a1 H.size (.ref a1_bytes) (.int v1_length) (.int v1_at) (.int v1_token) (z1_filled) (.int v1_faultPlace) v1_fault   hw) (cwV 0 hts gX4_readProduct_X8_isFaulty rfl rfl rfl (by decide +kernel) ⟨Nat.le_of_ble_eq_true rfl, Nat.le_of_ble_eq_true rfl⟩) ⟨cPc_blind, va_recv hK hPc (ci := 8) (q0 := 0) rfl rfl, cPc_pre hPc hK hDc hNw⟩ rfl rfl hl.1 rfl (lv_room (Nat.le_of_ble_eq_true rfl)) dX4_readProduct_16 ⟨Nat.le_of_ble_eq_true rfl, Nat.le_of_ble_eq_true rfl⟩) hS (fun q _ h => hFc q h) hFc (fun r9 u t H1 locs ht hvm hw hB hz1 hk1 hS => ?_)
      obtain ⟨hP1, hK1, hD1⟩ := hB
      rw [ht] at hP1
      obtain ⟨hP, hD⟩ := va_join (wr := (wd14_11 a0 a0_kinds a0_values z0_pile z0_facts v0_length a1_bytes cyB f1_bytes a0_kinds cyI f0_kinds a0_values cyI f0_values)) (w1 := (wd14_5 a1 a1_bytes v1_length v1_at v1_token z1_filled v1_fault v1_faultPlace)) hP hD [1] [0, 2, 3, 4] rfl rfl (by decide) (by decide) hk1 hFc hP1 hD1
      have hP : va_P (dC, dI) vwCl (wd14_6 a0 a0_kinds a0_values z0_pile z0_facts v0_length a1 a1_bytes v1_length v1_at v1_token z1_filled v1_fault v1_faultPlace a1_bytes cyB f1_bytes a0_kinds cyI f0_kinds a0_values cyI f0_values) H1 := hP.sub [0, 4, 1, 2, 3] rfl
      have hD : va_D A (wd14_6 a0 a0_kinds a0_values z0_pile z0_facts v0_length a1 a1_bytes v1_length v1_at v1_token z1_filled v1_fault v1_faultPlace a1_bytes cyB f1_bytes a0_kinds cyI f0_kinds a0_values cyI f0_values) := hD.sub [0, 4, 1, 2, 3] (by decide) rfl
      generalize H1 = H at hP hS ⊢
      refine lv_if_ne (tgt := 91) hx hb dX4_readProduct_19 (by decide) (fun c10 => ?_) (fun c10 => ?_)
      · have hw := hw.1 c10
        exact ((W.vret hx hb hr (fun t ht hW => ⟨⟨(v1_at, v1_token, v1_fault, v1_faultPlace, f0_kinds, f0_values, v0_length), rfl, hw, by rw [ht]; exact hP, va_K.moved hW.alike hK, hD⟩, hS.F ht⟩) hS.2.2 dX4_readProduct_91))
      · have hw := hw.2 c10
        refine lv_aload_n hx hb dX4_readProduct_22 rfl (lv_at hl 1 rfl) ?_
        refine lv_bipush (v := 42) hx hb dX4_readProduct_23 (by decide) ?_
        have hPc := hP.sub (ws' := (wd14_4 a1 a1_bytes v1_length v1_at v1_token z1_filled v1_fault v1_faultPlace a1_bytes cyB f1_bytes)) [1, 2] rfl
        have hDc := hD.sub (ws' := (wd14_4 a1 a1_bytes v1_length v1_at v1_token z1_filled v1_fault v1_faultPlace a1_bytes cyB f1_bytes)) [1, 2] (by decide) rfl
        have hFc := va_free (wc := (wd14_4 a1 a1_bytes v1_length v1_at v1_token z1_filled v1_fault v1_faultPlace a1_bytes cyB f1_bytes)) hD hS hA [1, 2] rfl
        refine va_calli (va_runV (As := [.int 42]) (rest := []) ⟨hx, hb, hml, hown, hts⟩ (ck_X8_takes l dC dI cyB cyI cyJ cyP a1 a1_bytes H.size (z1_filled) (.int v1_faultPlace) v1_length v1_fault f1_bytes v1_at v1_token 42 hw) (cwV 1 hts gX4_readProduct_X8_takes rfl rfl rfl (by decide +kernel) ⟨Nat.le_of_ble_eq_true rfl, Nat.le_of_ble_eq_true rfl⟩) ⟨cPc_blind, va_recv hK hPc (ci := 8) (q0 := 0) rfl rfl, cPc_pre hPc hK hDc hNw⟩ rfl rfl hl.1 rfl (lv_room (Nat.le_of_ble_eq_true rfl)) dX4_readProduct_25 ⟨Nat.le_of_ble_eq_true rfl, Nat.le_of_ble_eq_true rfl⟩) hS (fun q _ h => hFc q h) hFc (fun r13 u t H1 locs ht hvm hw hB hz1 hk1 hS => ?_)
        obtain ⟨x11, x12⟩ := u
        obtain ⟨hP1, hK1, hD1⟩ := hB
        rw [ht] at hP1
        obtain ⟨hP, hD⟩ := va_join (wr := (wd14_7 a0 a0_kinds a0_values z0_pile z0_facts v0_length a0_kinds cyI f0_kinds a0_values cyI f0_values)) (w1 := (wd14_4 a1 a1_bytes v1_length x11 x12 z1_filled v1_fault v1_faultPlace a1_bytes cyB f1_bytes)) hP hD [1, 2] [0, 3, 4] rfl rfl (by decide) (by decide) hk1 hFc hP1 hD1
        have hP : va_P (dC, dI) vwCl (wd14_6 a0 a0_kinds a0_values z0_pile z0_facts v0_length a1 a1_bytes v1_length x11 x12 z1_filled v1_fault v1_faultPlace a1_bytes cyB f1_bytes a0_kinds cyI f0_kinds a0_values cyI f0_values) H1 := hP.sub [0, 3, 4, 1, 2] rfl
        have hD : va_D A (wd14_6 a0 a0_kinds a0_values z0_pile z0_facts v0_length a1 a1_bytes v1_length x11 x12 z1_filled v1_fault v1_faultPlace a1_bytes cyB f1_bytes a0_kinds cyI f0_kinds a0_values cyI f0_values) := hD.sub [0, 3, 4, 1, 2] (by decide) rfl
        generalize H1 = H at hP hS ⊢
        refine lv_if_eq (tgt := 35) hx hb dX4_readProduct_28 (by decide) (fun c14 => ?_) (fun c14 => ?_)
        · have hw := hw.1 c14
          refine lv_aload_n hx hb dX4_readProduct_35 rfl (lv_at hl 1 rfl) ?_
          refine lv_bipush (v := 47) hx hb dX4_readProduct_36 (by decide) ?_
          have hPc := hP.sub (ws' := (wd14_4 a1 a1_bytes v1_length x11 x12 z1_filled v1_fault v1_faultPlace a1_bytes cyB f1_bytes)) [1, 2] rfl
          have hDc := hD.sub (ws' := (wd14_4 a1 a1_bytes v1_length x11 x12 z1_filled v1_fault v1_faultPlace a1_bytes cyB f1_bytes)) [1, 2] (by decide) rfl
          have hFc := va_free (wc := (wd14_4 a1 a1_bytes v1_length x11 x12 z1_filled v1_fault v1_faultPlace a1_bytes cyB f1_bytes)) hD hS hA [1, 2] rfl
          refine va_calli (va_runV (As := [.int 47]) (rest := []) ⟨hx, hb, hml, hown, hts⟩ (ck_X8_takes l dC dI cyB cyI cyJ cyP a1 a1_bytes H.size (z1_filled) (.int v1_faultPlace) v1_length v1_fault f1_bytes x11 x12 47 hw) (cwV 1 hts gX4_readProduct_X8_takes rfl rfl rfl (by decide +kernel) ⟨Nat.le_of_ble_eq_true rfl, Nat.le_of_ble_eq_true rfl⟩) ⟨cPc_blind, va_recv hK hPc (ci := 8) (q0 := 0) rfl rfl, cPc_pre hPc hK hDc hNw⟩ rfl rfl hl.1 rfl (lv_room (Nat.le_of_ble_eq_true rfl)) dX4_readProduct_38 ⟨Nat.le_of_ble_eq_true rfl, Nat.le_of_ble_eq_true rfl⟩) hS (fun q _ h => hFc q h) hFc (fun r17 u t H1 locs ht hvm hw hB hz1 hk1 hS => ?_)
          obtain ⟨x15, x16⟩ := u
          obtain ⟨hP1, hK1, hD1⟩ := hB
          rw [ht] at hP1
          obtain ⟨hP, hD⟩ := va_join (wr := (wd14_7 a0 a0_kinds a0_values z0_pile z0_facts v0_length a0_kinds cyI f0_kinds a0_values cyI f0_values)) (w1 := (wd14_4 a1 a1_bytes v1_length x15 x16 z1_filled v1_fault v1_faultPlace a1_bytes cyB f1_bytes)) hP hD [1, 2] [0, 3, 4] rfl rfl (by decide) (by decide) hk1 hFc hP1 hD1
          have hP : va_P (dC, dI) vwCl (wd14_6 a0 a0_kinds a0_values z0_pile z0_facts v0_length a1 a1_bytes v1_length x15 x16 z1_filled v1_fault v1_faultPlace a1_bytes cyB f1_bytes a0_kinds cyI f0_kinds a0_values cyI f0_values) H1 := hP.sub [0, 3, 4, 1, 2] rfl
          have hD : va_D A (wd14_6 a0 a0_kinds a0_values z0_pile z0_facts v0_length a1 a1_bytes v1_length x15 x16 z1_filled v1_fault v1_faultPlace a1_bytes cyB f1_bytes a0_kinds cyI f0_kinds a0_values cyI f0_values) := hD.sub [0, 3, 4, 1, 2] (by decide) rfl
          generalize H1 = H at hP hS ⊢
          refine lv_if_eq (tgt := 48) hx hb dX4_readProduct_41 (by decide) (fun c18 => ?_) (fun c18 => ?_)
          · have hw := hw.1 c18
            refine lv_aload_n hx hb dX4_readProduct_48 rfl (lv_at hl 1 rfl) ?_
            refine lv_bipush (v := 37) hx hb dX4_readProduct_49 (by decide) ?_
            have hPc := hP.sub (ws' := (wd14_4 a1 a1_bytes v1_length x15 x16 z1_filled v1_fault v1_faultPlace a1_bytes cyB f1_bytes)) [1, 2] rfl
            have hDc := hD.sub (ws' := (wd14_4 a1 a1_bytes v1_length x15 x16 z1_filled v1_fault v1_faultPlace a1_bytes cyB f1_bytes)) [1, 2] (by decide) rfl
            have hFc := va_free (wc := (wd14_4 a1 a1_bytes v1_length x15 x16 z1_filled v1_fault v1_faultPlace a1_bytes cyB f1_bytes)) hD hS hA [1, 2] rfl
            refine va_calli (va_runV (As := [.int 37]) (rest := []) ⟨hx, hb, hml, hown, hts⟩ (ck_X8_takes l dC dI cyB cyI cyJ cyP a1 a1_bytes H.size (z1_filled) (.int v1_faultPlace) v1_length v1_fault f1_bytes x15 x16 37 hw) (cwV 1 hts gX4_readProduct_X8_takes rfl rfl rfl (by decide +kernel) ⟨Nat.le_of_ble_eq_true rfl, Nat.le_of_ble_eq_true rfl⟩) ⟨cPc_blind, va_recv hK hPc (ci := 8) (q0 := 0) rfl rfl, cPc_pre hPc hK hDc hNw⟩ rfl rfl hl.1 rfl (lv_room (Nat.le_of_ble_eq_true rfl)) dX4_readProduct_51 ⟨Nat.le_of_ble_eq_true rfl, Nat.le_of_ble_eq_true rfl⟩) hS (fun q _ h => hFc q h) hFc (fun r21 u t H1 locs ht hvm hw hB hz1 hk1 hS => ?_)
            obtain ⟨x19, x20⟩ := u
            obtain ⟨hP1, hK1, hD1⟩ := hB
            rw [ht] at hP1
            obtain ⟨hP, hD⟩ := va_join (wr := (wd14_7 a0 a0_kinds a0_values z0_pile z0_facts v0_length a0_kinds cyI f0_kinds a0_values cyI f0_values)) (w1 := (wd14_4 a1 a1_bytes v1_length x19 x20 z1_filled v1_fault v1_faultPlace a1_bytes cyB f1_bytes)) hP hD [1, 2] [0, 3, 4] rfl rfl (by decide) (by decide) hk1 hFc hP1 hD1
            have hP : va_P (dC, dI) vwCl (wd14_6 a0 a0_kinds a0_values z0_pile z0_facts v0_length a1 a1_bytes v1_length x19 x20 z1_filled v1_fault v1_faultPlace a1_bytes cyB f1_bytes a0_kinds cyI f0_kinds a0_values cyI f0_values) H1 := hP.sub [0, 3, 4, 1, 2] rfl
            have hD : va_D A (wd14_6 a0 a0_kinds a0_values z0_pile z0_facts v0_length a1 a1_bytes v1_length x19 x20 z1_filled v1_fault v1_faultPlace a1_bytes cyB f1_bytes a0_kinds cyI f0_kinds a0_values cyI f0_values) := hD.sub [0, 3, 4, 1, 2] (by decide) rfl
            generalize H1 = H at hP hS ⊢
            refine lv_if_eq (tgt := 62) hx hb dX4_readProduct_54 (by decide) (fun c22 => ?_) (fun c22 => ?_)
            · have hw := hw.1 c22
              refine lv_iconst (v := (-1)) hx hb dX4_readProduct_62 (by decide) ?_
              exact kb_X4_readProduct_s_r0_63 dC dI cyB cyI cyJ cyP a0 a1 a1_bytes a0_kinds a0_values z0_pile z0_facts z1_filled v1_length f1_bytes Q (wl_X4_readProduct_s_r0_8 v1_length f1_bytes Q  n) ih C0 _ _ _ x19 x20 v1_fault v1_faultPlace f0_kinds f0_values v0_length l2 l3 (-1) hP hD hS (lv_sub hl [0, 1, 2, 3] rfl) hw
            · have hw := hw.2 c22
              refine lv_bipush (v := 6) hx hb dX4_readProduct_57 (by decide) ?_
              refine lv_goto (tgt := 63) hx hb dX4_readProduct_59 (by decide) ?_
              exact kb_X4_readProduct_s_r0_63 dC dI cyB cyI cyJ cyP a0 a1 a1_bytes a0_kinds a0_values z0_pile z0_facts z1_filled v1_length f1_bytes Q (wl_X4_readProduct_s_r0_8 v1_length f1_bytes Q  n) ih C0 _ _ _ x19 x20 v1_fault v1_faultPlace f0_kinds f0_values v0_length l2 l3 6 hP hD hS (lv_sub hl [0, 1, 2, 3] rfl) hw
          · have hw := hw.2 c18
            refine lv_iconst (v := 5) hx hb dX4_readProduct_44 (by decide) ?_
            refine lv_goto (tgt := 63) hx hb dX4_readProduct_45 (by decide) ?_
            exact kb_X4_readProduct_s_r0_63 dC dI cyB cyI cyJ cyP a0 a1 a1_bytes a0_kinds a0_values z0_pile z0_facts z1_filled v1_length f1_bytes Q (wl_X4_readProduct_s_r0_8 v1_length f1_bytes Q  n) ih C0 _ _ _ x15 x16 v1_fault v1_faultPlace f0_kinds f0_values v0_length l2 l3 5 hP hD hS (lv_sub hl [0, 1, 2, 3] rfl) hw
        · have hw := hw.2 c14
          refine lv_iconst (v := 4) hx hb dX4_readProduct_31 (by decide) ?_
          refine lv_goto (tgt := 63) hx hb dX4_readProduct_32 (by decide) ?_
          exact kb_X4_readProduct_s_r0_63 dC dI cyB cyI cyJ cyP a0 a1 a1_bytes a0_kinds a0_values z0_pile z0_facts z1_filled v1_length f1_bytes Q (wl_X4_readProduct_s_r0_8 v1_length f1_bytes Q  n) ih C0 _ _ _ x11 x12 v1_fault v1_faultPlace f0_kinds f0_values v0_length l2 l3 4 hP hD hS (lv_sub hl [0, 1, 2, 3] rfl) hw
set_option maxHeartbeats 4000000 in
set_option maxRecDepth 100000 in
theorem ck_X4_readProduct_s_r0 (l : Launch) (dC : Nat → ClassId) (dI : Nat → Nat → Nat) (cyB cyI cyJ cyP : ClassId) (a0 a1 a1_bytes a0_kinds a0_values : Nat) (sz : Nat) (z0_pile : Value) (z0_facts : Value) (z1_filled : Value) (v1_length : Int32) (f1_bytes : Nat → Int32) (v1_at : Int32) (v1_token : Int32) (v1_fault : Int32) (v1_faultPlace : Int32) (f0_kinds : Nat → Int32) (f0_values : Nat → Int32) (v0_length : Int32) (p2 : Int32) {Q : Int32 → Int32 → Int32 → Int32 → (Nat → Int32) → (Nat → Int32) → Int32 → Prop} (hw : wq_X4_readProduct_s_r0 v1_length f1_bytes v1_at v1_token v1_fault v1_faultPlace f0_kinds f0_values v0_length p2 Q) : Met l yX4_readProduct wsX4_readProduct ({ frames := 7, cells := 0, slots := 0, locals := 151 }) (va_Pc [.ref a0, .ref a1, .int p2] (cPs (zE) l (dC, dI) (kT cyB cyI cyJ cyP) (wd14_6 a0 a0_kinds a0_values z0_pile z0_facts v0_length a1 a1_bytes v1_length v1_at v1_token z1_filled v1_fault v1_faultPlace a1_bytes cyB f1_bytes a0_kinds cyI f0_kinds a0_values cyI f0_values) sz)) (va_Qv (fun (u : Int32 × Int32 × Int32 × Int32 × (Nat → Int32) × (Nat → Int32) × Int32) => Q u.1 u.2.1 u.2.2.1 u.2.2.2.1 u.2.2.2.2.1 u.2.2.2.2.2.1 u.2.2.2.2.2.2) (cB (dC, dI) (kT cyB cyI cyJ cyP) (va_A (wd14_6 a0 a0_kinds a0_values z0_pile z0_facts v0_length a1 a1_bytes v1_length v1_at v1_token z1_filled v1_fault v1_faultPlace a1_bytes cyB f1_bytes a0_kinds cyI f0_kinds a0_values cyI f0_values) sz) (fun u : Int32 × Int32 × Int32 × Int32 × (Nat → Int32) × (Nat → Int32) × Int32 => ((wd14_6 a0 a0_kinds a0_values z0_pile z0_facts u.2.2.2.2.2.2 a1 a1_bytes v1_length u.1 u.2.1 z1_filled u.2.2.1 u.2.2.2.1 a1_bytes cyB f1_bytes a0_kinds cyI u.2.2.2.2.1 a0_values cyI u.2.2.2.2.2.1) : va_W))) (va_A (wd14_6 a0 a0_kinds a0_values z0_pile z0_facts v0_length a1 a1_bytes v1_length v1_at v1_token z1_filled v1_fault v1_faultPlace a1_bytes cyB f1_bytes a0_kinds cyI f0_kinds a0_values cyI f0_values) sz)) 0 0 (va_A (wd14_6 a0 a0_kinds a0_values z0_pile z0_facts v0_length a1 a1_bytes v1_length v1_at v1_token z1_filled v1_fault v1_faultPlace a1_bytes cyB f1_bytes a0_kinds cyI f0_kinds a0_values cyI f0_values) sz) := by
  refine Met.ofW (cc := cX4_readProduct) (maxL := 5) (ret := none) (by decide) rfl ?_
  intro p e s m args below meth c s₁ B hml hv
  obtain ⟨rfl, ⟨hsz, hP, hK, hD0, hNw, hXl, hXu, hXn, hXt⟩, hE0⟩ := hv
  have hx := B.exec
  have hb := B.bytes
  have hr := B.returns
  have hts := atoms_spec (ws := wsX4_readProduct) B.pre
  have hown : s.vm.findClass RX4 = some m.cls := findClass_of_methodNamed B.named
  have hlocks := B.notSynchronized
  subst hsz
  have hD := hD0.self (sz := s.heap.size)
  generalize hAe : va_A (wd14_6 a0 a0_kinds a0_values z0_pile z0_facts v0_length a1 a1_bytes v1_length v1_at v1_token z1_filled v1_fault v1_faultPlace a1_bytes cyB f1_bytes a0_kinds cyI f0_kinds a0_values cyI f0_values) s.heap.size = A at hD hXu hXn hE0 ⊢
  have hA : ∀ q : Nat, s.heap.size ≤ q → A q := fun q h => by rw [← hAe]; exact Or.inr h
  have hS : va_S A s.heap s.heap [] := va_S.rf
  have hP : va_P (dC, dI) vwCl (wd14_6 a0 a0_kinds a0_values z0_pile z0_facts v0_length a1 a1_bytes v1_length v1_at v1_token z1_filled v1_fault v1_faultPlace a1_bytes cyB f1_bytes a0_kinds cyI f0_kinds a0_values cyI f0_values) s.heap := hP
  have hl := lv_entry ([.ref a0, .ref a1, .int p2]) (n := 5) (Nat.le_of_ble_eq_true rfl)
  rw [lg_entry_eq]
  generalize (lg_sl ([.ref a0, .ref a1, .int p2]) ++ List.replicate (5 - (lg_sl ([.ref a0, .ref a1, .int p2])).length) Slot.unset).toArray = ls at hl ⊢
  have hl : lv_has ls 5 [(0, .ref a0), (1, .ref a1), (2, .int p2)] := hl
  have hY : cfY l s A := ⟨hXl, hXu, hXn, hXt⟩
  have C0 : cfx p s m _ meth c cX4_readProduct none wsX4_readProduct RX4 5 A (dC, dI) (kT cyB cyI cyJ cyP) ∧ cfY l s A ∧ zE A s s.heap := ⟨⟨hx, hb, hr, hts, hown, hlocks, hml, hA, hK, hNw⟩, hY, hE0⟩
  have hE := hE0
  clear hAe
  obtain ⟨H, hH⟩ : ∃ H, H = s.heap := ⟨_, rfl⟩
  rw [← hH] at hP ⊢
  have hS : va_S A s.heap H [] := by rw [hH]; exact va_S.rf
  have hS := hS
  refine lv_aload_n hx hb dX4_readProduct_0 rfl (lv_at hl 0 rfl) ?_
  refine lv_aload_n hx hb dX4_readProduct_1 rfl (lv_at hl 1 rfl) ?_
  refine lv_iload_n hx hb dX4_readProduct_2 rfl (lv_at hl 2 rfl) ?_
  have hPc := hP.sub (ws' := (wd14_6 a0 a0_kinds a0_values z0_pile z0_facts v0_length a1 a1_bytes v1_length v1_at v1_token z1_filled v1_fault v1_faultPlace a1_bytes cyB f1_bytes a0_kinds cyI f0_kinds a0_values cyI f0_values)) [0, 1, 2, 3, 4] rfl
  have hDc := hD.sub (ws' := (wd14_6 a0 a0_kinds a0_values z0_pile z0_facts v0_length a1 a1_bytes v1_length v1_at v1_token z1_filled v1_fault v1_faultPlace a1_bytes cyB f1_bytes a0_kinds cyI f0_kinds a0_values cyI f0_values)) [0, 1, 2, 3, 4] (by decide) rfl
  have hFc := va_free (wc := (wd14_6 a0 a0_kinds a0_values z0_pile z0_facts v0_length a1 a1_bytes v1_length v1_at v1_token z1_filled v1_fault v1_faultPlace a1_bytes cyB f1_bytes a0_kinds cyI f0_kinds a0_values cyI f0_values)) hD hS hA [0, 1, 2, 3, 4] rfl
  refine va_callv (va_runV (As := [.ref a1, .int p2]) (rest := []) ⟨hx, hb, hml, hown, hts⟩ (ck_X4_readUnit_s_r0 l dC dI cyB cyI cyJ cyP a0 a1 a1_bytes a0_kinds a0_values H.size (z0_pile) (z0_facts) (z1_filled) v1_length f1_bytes v1_at v1_token v1_fault v1_faultPlace f0_kinds f0_values v0_length p2 hw) (cwV 2 hts gX4_readProduct_X4_readUnit rfl rfl rfl (by decide +kernel) ⟨Nat.le_of_ble_eq_true rfl, Nat.le_of_ble_eq_true rfl⟩) ⟨cPs_blind zE_G, va_recv hK hPc (ci := 4) (q0 := 0) rfl rfl, cPs_pre zE_G hPc hK hDc hNw hY hE hS hFc⟩ rfl rfl hl.1 rfl (lv_room (Nat.le_of_ble_eq_true rfl)) dX4_readProduct_3 ⟨Nat.le_of_ble_eq_true rfl, Nat.le_of_ble_eq_true rfl⟩) hS (fun q _ h => hFc q h) hFc (fun u t H1 locs ht hvm hw hB hz1 hk1 hS => ?_)
  obtain ⟨x1, x2, x3, x4, f5, f6, x7⟩ := u
  obtain ⟨hP1, hK1, hD1⟩ := hB
  rw [ht] at hP1
  obtain ⟨hP, hD⟩ := va_join (wr := []) (w1 := (wd14_6 a0 a0_kinds a0_values z0_pile z0_facts x7 a1 a1_bytes v1_length x1 x2 z1_filled x3 x4 a1_bytes cyB f1_bytes a0_kinds cyI f5 a0_values cyI f6)) hP hD [0, 1, 2, 3, 4] [] rfl rfl (by decide) (by decide) hk1 hFc hP1 hD1
  have hP : va_P (dC, dI) vwCl (wd14_6 a0 a0_kinds a0_values z0_pile z0_facts x7 a1 a1_bytes v1_length x1 x2 z1_filled x3 x4 a1_bytes cyB f1_bytes a0_kinds cyI f5 a0_values cyI f6) H1 := hP
  have hD : va_D A (wd14_6 a0 a0_kinds a0_values z0_pile z0_facts x7 a1 a1_bytes v1_length x1 x2 z1_filled x3 x4 a1_bytes cyB f1_bytes a0_kinds cyI f5 a0_values cyI f6) := hD
  generalize H1 = H at hP hS ⊢
  refine lv_iconst (v := 0) hx hb dX4_readProduct_6 (by decide) ?_
  refine lv_istore_n (lv' := [(3, .int 0), (0, .ref a0), (1, .ref a1), (2, .int p2)]) hx hb dX4_readProduct_7 rfl hl (by decide) rfl (fun ls hl => ?_)
  obtain ⟨n9, hw⟩ := hw
  exact kl_X4_readProduct_s_r0_8 dC dI cyB cyI cyJ cyP a0 a1 a1_bytes a0_kinds a0_values z0_pile z0_facts z1_filled v1_length f1_bytes Q  C0 n9 _ _ _ x1 x2 x3 x4 f5 f6 x7 p2 0 hP hD hS (lv_sub hl [1, 2, 3, 0] rfl) hw
set_option maxHeartbeats 4000000 in
set_option maxRecDepth 100000 in
theorem kb_X4_readSum_s_r0_49 {p : Program} {l : Launch} {e : Env} {s : State} {m : MethodId} {args : Array Value} {below : List Frame} {meth : Method} {c : Code} {A : Nat → Prop} (dC : Nat → ClassId) (dI : Nat → Nat → Nat) (cyB cyI cyJ cyP : ClassId) (a0 a1 a1_bytes a0_kinds a0_values : Nat) (z0_pile : Value) (z0_facts : Value) (z1_filled : Value) (v1_length : Int32) (f1_bytes : Nat → Int32) (Q : Int32 → Int32 → Int32 → Int32 → (Nat → Int32) → (Nat → Int32) → Int32 → Prop) (K8 : Int32 → Int32 → Int32 → Int32 → (Nat → Int32) → (Nat → Int32) → Int32 → Int32 → Int32 → Prop) (hK8 : ∀ (H : Heap) (locs : List Loc) (ls : Array Slot) (v1_at : Int32) (v1_token : Int32) (v1_fault : Int32) (v1_faultPlace : Int32) (f0_kinds : Nat → Int32) (f0_values : Nat → Int32) (v0_length : Int32) (l2 : Int32) (l3 : Int32), va_P (dC, dI) vwCl (wd14_6 a0 a0_kinds a0_values z0_pile z0_facts v0_length a1 a1_bytes v1_length v1_at v1_token z1_filled v1_fault v1_faultPlace a1_bytes cyB f1_bytes a0_kinds cyI f0_kinds a0_values cyI f0_values) H → va_D A (wd14_6 a0 a0_kinds a0_values z0_pile z0_facts v0_length a1 a1_bytes v1_length v1_at v1_token z1_filled v1_fault v1_faultPlace a1_bytes cyB f1_bytes a0_kinds cyI f0_kinds a0_values cyI f0_values) → va_S A s.heap H locs → lv_has ls 5 [(0, .ref a0), (1, .ref a1), (2, .int l2), (3, .int l3)] → K8 v1_at v1_token v1_fault v1_faultPlace f0_kinds f0_values v0_length l2 l3 → W p l e (headSpec wsX4_readSum ({ frames := 8, cells := 0, slots := 0, locals := 175 })).room s m args below meth c H locs 0 0 (MQ below (va_Qv (fun (u : Int32 × Int32 × Int32 × Int32 × (Nat → Int32) × (Nat → Int32) × Int32) => Q u.1 u.2.1 u.2.2.1 u.2.2.2.1 u.2.2.2.2.1 u.2.2.2.2.2.1 u.2.2.2.2.2.2) (cB (dC, dI) (kT cyB cyI cyJ cyP) A (fun u : Int32 × Int32 × Int32 × Int32 × (Nat → Int32) × (Nat → Int32) × Int32 => ((wd14_6 a0 a0_kinds a0_values z0_pile z0_facts u.2.2.2.2.2.2 a1 a1_bytes v1_length u.1 u.2.1 z1_filled u.2.2.1 u.2.2.2.1 a1_bytes cyB f1_bytes a0_kinds cyI u.2.2.2.2.1 a0_values cyI u.2.2.2.2.2.1) : va_W))) A) args s 0 0 A) (F0 m 8 ls [])) (C0 : cfx p s m args meth c cX4_readSum none wsX4_readSum RX4 5 A (dC, dI) (kT cyB cyI cyJ cyP) ∧ cfY l s A ∧ zE A s s.heap) : ∀ (H : Heap) (locs : List Loc) (ls : Array Slot) (v1_at : Int32) (v1_token : Int32) (v1_fault : Int32) (v1_faultPlace : Int32) (f0_kinds : Nat → Int32) (f0_values : Nat → Int32) (v0_length : Int32) (l2 : Int32) (l3 : Int32) (s0 : Int32), va_P (dC, dI) vwCl (wd14_6 a0 a0_kinds a0_values z0_pile z0_facts v0_length a1 a1_bytes v1_length v1_at v1_token z1_filled v1_fault v1_faultPlace a1_bytes cyB f1_bytes a0_kinds cyI f0_kinds a0_values cyI f0_values) H → va_D A (wd14_6 a0 a0_kinds a0_values z0_pile z0_facts v0_length a1 a1_bytes v1_length v1_at v1_token z1_filled v1_fault v1_faultPlace a1_bytes cyB f1_bytes a0_kinds cyI f0_kinds a0_values cyI f0_values) → va_S A s.heap H locs → lv_has ls 5 [(0, .ref a0), (1, .ref a1), (2, .int l2), (3, .int l3)] → wb_X4_readSum_s_r0_49 v1_length f1_bytes Q K8 v1_at v1_token v1_fault v1_faultPlace f0_kinds f0_values v0_length l2 l3 s0 → W p l e (headSpec wsX4_readSum ({ frames := 8, cells := 0, slots := 0, locals := 175 })).room s m args below meth c H locs 0 0 (MQ below (va_Qv (fun (u : Int32 × Int32 × Int32 × Int32 × (Nat → Int32) × (Nat → Int32) × Int32) => Q u.1 u.2.1 u.2.2.1 u.2.2.2.1 u.2.2.2.2.1 u.2.2.2.2.2.1 u.2.2.2.2.2.2) (cB (dC, dI) (kT cyB cyI cyJ cyP) A (fun u : Int32 × Int32 × Int32 × Int32 × (Nat → Int32) × (Nat → Int32) × Int32 => ((wd14_6 a0 a0_kinds a0_values z0_pile z0_facts u.2.2.2.2.2.2 a1 a1_bytes v1_length u.1 u.2.1 z1_filled u.2.2.1 u.2.2.2.1 a1_bytes cyB f1_bytes a0_kinds cyI u.2.2.2.2.1 a0_values cyI u.2.2.2.2.2.1) : va_W))) A) args s 0 0 A) (F0 m 49 ls [.int s0]) := by
  obtain ⟨⟨hx, hb, hr, hts, hown, hlocks, hml, hA, hK, hNw⟩, hY, hE0⟩ := id C0
  have hE := hE0
  intro H locs ls v1_at v1_token v1_fault v1_faultPlace f0_kinds f0_values v0_length l2 l3 s0 hP hD hS hl hw
  refine lv_istore (lv' := [(4, .int s0), (0, .ref a0), (1, .ref a1), (2, .int l2), (3, .int l3)]) hx hb dX4_readSum_49 hl (by decide) rfl (fun ls hl => ?_)
  refine lv_iload hx hb dX4_readSum_51 (lv_at hl 0 rfl) ?_
  refine lv_iconst (v := (-1)) hx hb dX4_readSum_53 (by decide) ?_
  refine lv_icmp_ne (tgt := 58) hx hb dX4_readSum_54 (by decide) (fun c19 => ?_) (fun c19 => ?_)
  · have hw := hw.1 c19
    refine lv_aload_n hx hb dX4_readSum_58 rfl (lv_at hl 1 rfl) ?_
    refine lv_aload_n hx hb dX4_readSum_59 rfl (lv_at hl 2 rfl) ?_
    refine lv_iload_n hx hb dX4_readSum_60 rfl (lv_at hl 3 rfl) ?_
    have hPc := hP.sub (ws' := (wd14_6 a0 a0_kinds a0_values z0_pile z0_facts v0_length a1 a1_bytes v1_length v1_at v1_token z1_filled v1_fault v1_faultPlace a1_bytes cyB f1_bytes a0_kinds cyI f0_kinds a0_values cyI f0_values)) [0, 1, 2, 3, 4] rfl
    have hDc := hD.sub (ws' := (wd14_6 a0 a0_kinds a0_values z0_pile z0_facts v0_length a1 a1_bytes v1_length v1_at v1_token z1_filled v1_fault v1_faultPlace a1_bytes cyB f1_bytes a0_kinds cyI f0_kinds a0_values cyI f0_values)) [0, 1, 2, 3, 4] (by decide) rfl
    have hFc := va_free (wc := (wd14_6 a0 a0_kinds a0_values z0_pile z0_facts v0_length a1 a1_bytes v1_length v1_at v1_token z1_filled v1_fault v1_faultPlace a1_bytes cyB f1_bytes a0_kinds cyI f0_kinds a0_values cyI f0_values)) hD hS hA [0, 1, 2, 3, 4] rfl
    refine va_callv (va_runV (As := [.ref a1, .int l2]) (rest := []) ⟨hx, hb, hml, hown, hts⟩ (ck_X4_readProduct_s_r0 l dC dI cyB cyI cyJ cyP a0 a1 a1_bytes a0_kinds a0_values H.size (z0_pile) (z0_facts) (z1_filled) v1_length f1_bytes v1_at v1_token v1_fault v1_faultPlace f0_kinds f0_values v0_length l2 hw) (cwV 2 hts gX4_readSum_X4_readProduct rfl rfl rfl (by decide +kernel) ⟨Nat.le_of_ble_eq_true rfl, Nat.le_of_ble_eq_true rfl⟩) ⟨cPs_blind zE_G, va_recv hK hPc (ci := 4) (q0 := 0) rfl rfl, cPs_pre zE_G hPc hK hDc hNw hY hE hS hFc⟩ rfl rfl hl.1 rfl (lv_room (Nat.le_of_ble_eq_true rfl)) dX4_readSum_61 ⟨Nat.le_of_ble_eq_true rfl, Nat.le_of_ble_eq_true rfl⟩) hS (fun q _ h => hFc q h) hFc (fun u t H1 locs ht hvm hw hB hz1 hk1 hS => ?_)
    obtain ⟨x20, x21, x22, x23, f24, f25, x26⟩ := u
    obtain ⟨hP1, hK1, hD1⟩ := hB
    rw [ht] at hP1
    obtain ⟨hP, hD⟩ := va_join (wr := []) (w1 := (wd14_6 a0 a0_kinds a0_values z0_pile z0_facts x26 a1 a1_bytes v1_length x20 x21 z1_filled x22 x23 a1_bytes cyB f1_bytes a0_kinds cyI f24 a0_values cyI f25)) hP hD [0, 1, 2, 3, 4] [] rfl rfl (by decide) (by decide) hk1 hFc hP1 hD1
    have hP : va_P (dC, dI) vwCl (wd14_6 a0 a0_kinds a0_values z0_pile z0_facts x26 a1 a1_bytes v1_length x20 x21 z1_filled x22 x23 a1_bytes cyB f1_bytes a0_kinds cyI f24 a0_values cyI f25) H1 := hP
    have hD : va_D A (wd14_6 a0 a0_kinds a0_values z0_pile z0_facts x26 a1 a1_bytes v1_length x20 x21 z1_filled x22 x23 a1_bytes cyB f1_bytes a0_kinds cyI f24 a0_values cyI f25) := hD
    generalize H1 = H at hP hS ⊢
    refine lv_aload_n hx hb dX4_readSum_64 rfl (lv_at hl 1 rfl) ?_
    refine lv_iload hx hb dX4_readSum_65 (lv_at hl 0 rfl) ?_
    refine lv_iconst (v := 0) hx hb dX4_readSum_67 (by decide) ?_
    have hPc := hP.sub (ws' := (wd14_7 a0 a0_kinds a0_values z0_pile z0_facts x26 a0_kinds cyI f24 a0_values cyI f25)) [0, 3, 4] rfl
    have hDc := hD.sub (ws' := (wd14_7 a0 a0_kinds a0_values z0_pile z0_facts x26 a0_kinds cyI f24 a0_values cyI f25)) [0, 3, 4] (by decide) rfl
    have hFc := va_free (wc := (wd14_7 a0 a0_kinds a0_values z0_pile z0_facts x26 a0_kinds cyI f24 a0_values cyI f25)) hD hS hA [0, 3, 4] rfl
    refine va_callv (va_runV (As := [.int s0, .int 0]) (rest := []) ⟨hx, hb, hml, hown, hts⟩ (ck_X4_add l dC dI cyB cyI cyJ cyP a0 a0_kinds a0_values H.size (z0_pile) (z0_facts)  f24 f25 x26 s0 0 hw) (cwV 2 hts gX4_readSum_X4_add rfl rfl rfl (by decide +kernel) ⟨Nat.le_of_ble_eq_true rfl, Nat.le_of_ble_eq_true rfl⟩) ⟨cPc_blind, va_recv hK hPc (ci := 4) (q0 := 0) rfl rfl, cPc_pre hPc hK hDc hNw⟩ rfl rfl hl.1 rfl (lv_room (Nat.le_of_ble_eq_true rfl)) dX4_readSum_68 ⟨Nat.le_of_ble_eq_true rfl, Nat.le_of_ble_eq_true rfl⟩) hS (fun q _ h => hFc q h) hFc (fun u t H1 locs ht hvm hw hB hz1 hk1 hS => ?_)
    obtain ⟨f27, f28, x29⟩ := u
    obtain ⟨hP1, hK1, hD1⟩ := hB
    rw [ht] at hP1
    obtain ⟨hP, hD⟩ := va_join (wr := (wd14_4 a1 a1_bytes v1_length x20 x21 z1_filled x22 x23 a1_bytes cyB f1_bytes)) (w1 := (wd14_7 a0 a0_kinds a0_values z0_pile z0_facts x29 a0_kinds cyI f27 a0_values cyI f28)) hP hD [0, 3, 4] [1, 2] rfl rfl (by decide) (by decide) hk1 hFc hP1 hD1
    have hP : va_P (dC, dI) vwCl (wd14_6 a0 a0_kinds a0_values z0_pile z0_facts x29 a1 a1_bytes v1_length x20 x21 z1_filled x22 x23 a1_bytes cyB f1_bytes a0_kinds cyI f27 a0_values cyI f28) H1 := hP.sub [2, 0, 1, 3, 4] rfl
    have hD : va_D A (wd14_6 a0 a0_kinds a0_values z0_pile z0_facts x29 a1 a1_bytes v1_length x20 x21 z1_filled x22 x23 a1_bytes cyB f1_bytes a0_kinds cyI f27 a0_values cyI f28) := hD.sub [2, 0, 1, 3, 4] (by decide) rfl
    generalize H1 = H at hP hS ⊢
    obtain ⟨x30, ex30⟩ : ∃ y : Int32, y = l3 + 1 := ⟨_, rfl⟩
    have hw := hw x30 ex30
    refine lv_iinc (v := x30) (lv' := [(3, .int x30), (4, .int s0), (0, .ref a0), (1, .ref a1), (2, .int l2)]) hx hb dX4_readSum_71 hl (k := 4) rfl (by rw [ex30]; rfl) (by decide) rfl (fun ls hl => ?_)
    refine lv_goto (tgt := 8) hx hb dX4_readSum_74 (by decide) ?_
    exact hK8 _ _ _ x20 x21 x22 x23 f27 f28 x29 l2 x30 hP hD hS (lv_sub hl [2, 3, 4, 0] rfl) hw
  · have hw := hw.2 c19
    exact ((W.vret hx hb hr (fun t ht hW => ⟨⟨(v1_at, v1_token, v1_fault, v1_faultPlace, f0_kinds, f0_values, v0_length), rfl, hw, by rw [ht]; exact hP, va_K.moved hW.alike hK, hD⟩, hS.F ht⟩) hS.2.2 dX4_readSum_57))
set_option maxHeartbeats 4000000 in
set_option maxRecDepth 100000 in
theorem kl_X4_readSum_s_r0_8 {p : Program} {l : Launch} {e : Env} {s : State} {m : MethodId} {args : Array Value} {below : List Frame} {meth : Method} {c : Code} {A : Nat → Prop} (dC : Nat → ClassId) (dI : Nat → Nat → Nat) (cyB cyI cyJ cyP : ClassId) (a0 a1 a1_bytes a0_kinds a0_values : Nat) (z0_pile : Value) (z0_facts : Value) (z1_filled : Value) (v1_length : Int32) (f1_bytes : Nat → Int32) (Q : Int32 → Int32 → Int32 → Int32 → (Nat → Int32) → (Nat → Int32) → Int32 → Prop)  (C0 : cfx p s m args meth c cX4_readSum none wsX4_readSum RX4 5 A (dC, dI) (kT cyB cyI cyJ cyP) ∧ cfY l s A ∧ zE A s s.heap) : ∀ (n : Nat) (H : Heap) (locs : List Loc) (ls : Array Slot) (v1_at : Int32) (v1_token : Int32) (v1_fault : Int32) (v1_faultPlace : Int32) (f0_kinds : Nat → Int32) (f0_values : Nat → Int32) (v0_length : Int32) (l2 : Int32) (l3 : Int32), va_P (dC, dI) vwCl (wd14_6 a0 a0_kinds a0_values z0_pile z0_facts v0_length a1 a1_bytes v1_length v1_at v1_token z1_filled v1_fault v1_faultPlace a1_bytes cyB f1_bytes a0_kinds cyI f0_kinds a0_values cyI f0_values) H → va_D A (wd14_6 a0 a0_kinds a0_values z0_pile z0_facts v0_length a1 a1_bytes v1_length v1_at v1_token z1_filled v1_fault v1_faultPlace a1_bytes cyB f1_bytes a0_kinds cyI f0_kinds a0_values cyI f0_values) → va_S A s.heap H locs → lv_has ls 5 [(0, .ref a0), (1, .ref a1), (2, .int l2), (3, .int l3)] → wl_X4_readSum_s_r0_8 v1_length f1_bytes Q  n v1_at v1_token v1_fault v1_faultPlace f0_kinds f0_values v0_length l2 l3 → W p l e (headSpec wsX4_readSum ({ frames := 8, cells := 0, slots := 0, locals := 175 })).room s m args below meth c H locs 0 0 (MQ below (va_Qv (fun (u : Int32 × Int32 × Int32 × Int32 × (Nat → Int32) × (Nat → Int32) × Int32) => Q u.1 u.2.1 u.2.2.1 u.2.2.2.1 u.2.2.2.2.1 u.2.2.2.2.2.1 u.2.2.2.2.2.2) (cB (dC, dI) (kT cyB cyI cyJ cyP) A (fun u : Int32 × Int32 × Int32 × Int32 × (Nat → Int32) × (Nat → Int32) × Int32 => ((wd14_6 a0 a0_kinds a0_values z0_pile z0_facts u.2.2.2.2.2.2 a1 a1_bytes v1_length u.1 u.2.1 z1_filled u.2.2.1 u.2.2.2.1 a1_bytes cyB f1_bytes a0_kinds cyI u.2.2.2.2.1 a0_values cyI u.2.2.2.2.2.1) : va_W))) A) args s 0 0 A) (F0 m 8 ls []) := by
  obtain ⟨⟨hx, hb, hr, hts, hown, hlocks, hml, hA, hK, hNw⟩, hY, hE0⟩ := id C0
  have hE := hE0
  intro n
  induction n with
  | zero => intro H locs ls v1_at v1_token v1_fault v1_faultPlace f0_kinds f0_values v0_length l2 l3 hP hD hS hl hw; exact False.elim hw
  | succ n ih =>
    intro H locs ls v1_at v1_token v1_fault v1_faultPlace f0_kinds f0_values v0_length l2 l3 hP hD hS hl hw
    refine lv_iload_n hx hb dX4_readSum_8 rfl (lv_at hl 3 rfl) ?_
    refine lv_sipush (v := 150) hx hb dX4_readSum_9 (by decide) ?_
    refine lv_icmp_ge (tgt := 77) hx hb dX4_readSum_12 (by decide) (fun c8 => ?_) (fun c8 => ?_)
    · have hw := hw.1 c8
      exact ((W.vret hx hb hr (fun t ht hW => ⟨⟨(v1_at, v1_token, v1_fault, v1_faultPlace, f0_kinds, f0_values, v0_length), rfl, hw, by rw [ht]; exact hP, va_K.moved hW.alike hK, hD⟩, hS.F ht⟩) hS.2.2 dX4_readSum_77))
    · have hw := hw.2 c8
      refine lv_aload_n hx hb dX4_readSum_15 rfl (lv_at hl 1 rfl) ?_
      have hPc := hP.sub (ws' := (wd14_5 a1 a1_bytes v1_length v1_at v1_token z1_filled v1_fault v1_faultPlace)) [1] rfl
      have hDc := hD.sub (ws' := (wd14_5 a1 a1_bytes v1_length v1_at v1_token z1_filled v1_fault v1_faultPlace)) [1] (by decide) rfl
      have hFc := va_free (wc := (wd14_5 a1 a1_bytes v1_length v1_at v1_token z1_filled v1_fault v1_faultPlace)) hD hS hA [1] rfl
      refine va_calli (va_runV (As := []) (rest := []) ⟨hx, hb, hml, hown, hts⟩ (ck_X8_isFaulty l dC dI cyB cyI cyJ cyP a1 H.size (.ref a1_bytes) (.int v1_length) (.int v1_at) (.int v1_token) (z1_filled) (.int v1_faultPlace) v1_fault   hw) (cwV 0 hts gX4_readSum_X8_isFaulty rfl rfl rfl (by decide +kernel) ⟨Nat.le_of_ble_eq_true rfl, Nat.le_of_ble_eq_true rfl⟩) ⟨cPc_blind, va_recv hK hPc (ci := 8) (q0 := 0) rfl rfl, cPc_pre hPc hK hDc hNw⟩ rfl rfl hl.1 rfl (lv_room (Nat.le_of_ble_eq_true rfl)) dX4_readSum_16 ⟨Nat.le_of_ble_eq_true rfl, Nat.le_of_ble_eq_true rfl⟩) hS (fun q _ h => hFc q h) hFc (fun r9 u t H1 locs ht hvm hw hB hz1 hk1 hS => ?_)
      obtain ⟨hP1, hK1, hD1⟩ := hB
      rw [ht] at hP1
      obtain ⟨hP, hD⟩ := va_join (wr := (wd14_11 a0 a0_kinds a0_values z0_pile z0_facts v0_length a1_bytes cyB f1_bytes a0_kinds cyI f0_kinds a0_values cyI f0_values)) (w1 := (wd14_5 a1 a1_bytes v1_length v1_at v1_token z1_filled v1_fault v1_faultPlace)) hP hD [1] [0, 2, 3, 4] rfl rfl (by decide) (by decide) hk1 hFc hP1 hD1
      have hP : va_P (dC, dI) vwCl (wd14_6 a0 a0_kinds a0_values z0_pile z0_facts v0_length a1 a1_bytes v1_length v1_at v1_token z1_filled v1_fault v1_faultPlace a1_bytes cyB f1_bytes a0_kinds cyI f0_kinds a0_values cyI f0_values) H1 := hP.sub [0, 4, 1, 2, 3] rfl
      have hD : va_D A (wd14_6 a0 a0_kinds a0_values z0_pile z0_facts v0_length a1 a1_bytes v1_length v1_at v1_token z1_filled v1_fault v1_faultPlace a1_bytes cyB f1_bytes a0_kinds cyI f0_kinds a0_values cyI f0_values) := hD.sub [0, 4, 1, 2, 3] (by decide) rfl
      generalize H1 = H at hP hS ⊢
      refine lv_if_ne (tgt := 77) hx hb dX4_readSum_19 (by decide) (fun c10 => ?_) (fun c10 => ?_)
      · have hw := hw.1 c10
        exact ((W.vret hx hb hr (fun t ht hW => ⟨⟨(v1_at, v1_token, v1_fault, v1_faultPlace, f0_kinds, f0_values, v0_length), rfl, hw, by rw [ht]; exact hP, va_K.moved hW.alike hK, hD⟩, hS.F ht⟩) hS.2.2 dX4_readSum_77))
      · have hw := hw.2 c10
        refine lv_aload_n hx hb dX4_readSum_22 rfl (lv_at hl 1 rfl) ?_
        refine lv_bipush (v := 43) hx hb dX4_readSum_23 (by decide) ?_
        have hPc := hP.sub (ws' := (wd14_4 a1 a1_bytes v1_length v1_at v1_token z1_filled v1_fault v1_faultPlace a1_bytes cyB f1_bytes)) [1, 2] rfl
        have hDc := hD.sub (ws' := (wd14_4 a1 a1_bytes v1_length v1_at v1_token z1_filled v1_fault v1_faultPlace a1_bytes cyB f1_bytes)) [1, 2] (by decide) rfl
        have hFc := va_free (wc := (wd14_4 a1 a1_bytes v1_length v1_at v1_token z1_filled v1_fault v1_faultPlace a1_bytes cyB f1_bytes)) hD hS hA [1, 2] rfl
        refine va_calli (va_runV (As := [.int 43]) (rest := []) ⟨hx, hb, hml, hown, hts⟩ (ck_X8_takes l dC dI cyB cyI cyJ cyP a1 a1_bytes H.size (z1_filled) (.int v1_faultPlace) v1_length v1_fault f1_bytes v1_at v1_token 43 hw) (cwV 1 hts gX4_readSum_X8_takes rfl rfl rfl (by decide +kernel) ⟨Nat.le_of_ble_eq_true rfl, Nat.le_of_ble_eq_true rfl⟩) ⟨cPc_blind, va_recv hK hPc (ci := 8) (q0 := 0) rfl rfl, cPc_pre hPc hK hDc hNw⟩ rfl rfl hl.1 rfl (lv_room (Nat.le_of_ble_eq_true rfl)) dX4_readSum_25 ⟨Nat.le_of_ble_eq_true rfl, Nat.le_of_ble_eq_true rfl⟩) hS (fun q _ h => hFc q h) hFc (fun r13 u t H1 locs ht hvm hw hB hz1 hk1 hS => ?_)
        obtain ⟨x11, x12⟩ := u
        obtain ⟨hP1, hK1, hD1⟩ := hB
        rw [ht] at hP1
        obtain ⟨hP, hD⟩ := va_join (wr := (wd14_7 a0 a0_kinds a0_values z0_pile z0_facts v0_length a0_kinds cyI f0_kinds a0_values cyI f0_values)) (w1 := (wd14_4 a1 a1_bytes v1_length x11 x12 z1_filled v1_fault v1_faultPlace a1_bytes cyB f1_bytes)) hP hD [1, 2] [0, 3, 4] rfl rfl (by decide) (by decide) hk1 hFc hP1 hD1
        have hP : va_P (dC, dI) vwCl (wd14_6 a0 a0_kinds a0_values z0_pile z0_facts v0_length a1 a1_bytes v1_length x11 x12 z1_filled v1_fault v1_faultPlace a1_bytes cyB f1_bytes a0_kinds cyI f0_kinds a0_values cyI f0_values) H1 := hP.sub [0, 3, 4, 1, 2] rfl
        have hD : va_D A (wd14_6 a0 a0_kinds a0_values z0_pile z0_facts v0_length a1 a1_bytes v1_length x11 x12 z1_filled v1_fault v1_faultPlace a1_bytes cyB f1_bytes a0_kinds cyI f0_kinds a0_values cyI f0_values) := hD.sub [0, 3, 4, 1, 2] (by decide) rfl
        generalize H1 = H at hP hS ⊢
        refine lv_if_eq (tgt := 35) hx hb dX4_readSum_28 (by decide) (fun c14 => ?_) (fun c14 => ?_)
        · have hw := hw.1 c14
          refine lv_aload_n hx hb dX4_readSum_35 rfl (lv_at hl 1 rfl) ?_
          refine lv_bipush (v := 45) hx hb dX4_readSum_36 (by decide) ?_
          have hPc := hP.sub (ws' := (wd14_4 a1 a1_bytes v1_length x11 x12 z1_filled v1_fault v1_faultPlace a1_bytes cyB f1_bytes)) [1, 2] rfl
          have hDc := hD.sub (ws' := (wd14_4 a1 a1_bytes v1_length x11 x12 z1_filled v1_fault v1_faultPlace a1_bytes cyB f1_bytes)) [1, 2] (by decide) rfl
          have hFc := va_free (wc := (wd14_4 a1 a1_bytes v1_length x11 x12 z1_filled v1_fault v1_faultPlace a1_bytes cyB f1_bytes)) hD hS hA [1, 2] rfl
          refine va_calli (va_runV (As := [.int 45]) (rest := []) ⟨hx, hb, hml, hown, hts⟩ (ck_X8_takes l dC dI cyB cyI cyJ cyP a1 a1_bytes H.size (z1_filled) (.int v1_faultPlace) v1_length v1_fault f1_bytes x11 x12 45 hw) (cwV 1 hts gX4_readSum_X8_takes rfl rfl rfl (by decide +kernel) ⟨Nat.le_of_ble_eq_true rfl, Nat.le_of_ble_eq_true rfl⟩) ⟨cPc_blind, va_recv hK hPc (ci := 8) (q0 := 0) rfl rfl, cPc_pre hPc hK hDc hNw⟩ rfl rfl hl.1 rfl (lv_room (Nat.le_of_ble_eq_true rfl)) dX4_readSum_38 ⟨Nat.le_of_ble_eq_true rfl, Nat.le_of_ble_eq_true rfl⟩) hS (fun q _ h => hFc q h) hFc (fun r17 u t H1 locs ht hvm hw hB hz1 hk1 hS => ?_)
          obtain ⟨x15, x16⟩ := u
          obtain ⟨hP1, hK1, hD1⟩ := hB
          rw [ht] at hP1
          obtain ⟨hP, hD⟩ := va_join (wr := (wd14_7 a0 a0_kinds a0_values z0_pile z0_facts v0_length a0_kinds cyI f0_kinds a0_values cyI f0_values)) (w1 := (wd14_4 a1 a1_bytes v1_length x15 x16 z1_filled v1_fault v1_faultPlace a1_bytes cyB f1_bytes)) hP hD [1, 2] [0, 3, 4] rfl rfl (by decide) (by decide) hk1 hFc hP1 hD1
          have hP : va_P (dC, dI) vwCl (wd14_6 a0 a0_kinds a0_values z0_pile z0_facts v0_length a1 a1_bytes v1_length x15 x16 z1_filled v1_fault v1_faultPlace a1_bytes cyB f1_bytes a0_kinds cyI f0_kinds a0_values cyI f0_values) H1 := hP.sub [0, 3, 4, 1, 2] rfl
          have hD : va_D A (wd14_6 a0 a0_kinds a0_values z0_pile z0_facts v0_length a1 a1_bytes v1_length x15 x16 z1_filled v1_fault v1_faultPlace a1_bytes cyB f1_bytes a0_kinds cyI f0_kinds a0_values cyI f0_values) := hD.sub [0, 3, 4, 1, 2] (by decide) rfl
          generalize H1 = H at hP hS ⊢
          refine lv_if_eq (tgt := 48) hx hb dX4_readSum_41 (by decide) (fun c18 => ?_) (fun c18 => ?_)
          · have hw := hw.1 c18
            refine lv_iconst (v := (-1)) hx hb dX4_readSum_48 (by decide) ?_
            exact kb_X4_readSum_s_r0_49 dC dI cyB cyI cyJ cyP a0 a1 a1_bytes a0_kinds a0_values z0_pile z0_facts z1_filled v1_length f1_bytes Q (wl_X4_readSum_s_r0_8 v1_length f1_bytes Q  n) ih C0 _ _ _ x15 x16 v1_fault v1_faultPlace f0_kinds f0_values v0_length l2 l3 (-1) hP hD hS (lv_sub hl [0, 1, 2, 3] rfl) hw
          · have hw := hw.2 c18
            refine lv_iconst (v := 3) hx hb dX4_readSum_44 (by decide) ?_
            refine lv_goto (tgt := 49) hx hb dX4_readSum_45 (by decide) ?_
            exact kb_X4_readSum_s_r0_49 dC dI cyB cyI cyJ cyP a0 a1 a1_bytes a0_kinds a0_values z0_pile z0_facts z1_filled v1_length f1_bytes Q (wl_X4_readSum_s_r0_8 v1_length f1_bytes Q  n) ih C0 _ _ _ x15 x16 v1_fault v1_faultPlace f0_kinds f0_values v0_length l2 l3 3 hP hD hS (lv_sub hl [0, 1, 2, 3] rfl) hw
        · have hw := hw.2 c14
          refine lv_iconst (v := 2) hx hb dX4_readSum_31 (by decide) ?_
          refine lv_goto (tgt := 49) hx hb dX4_readSum_32 (by decide) ?_
          exact kb_X4_readSum_s_r0_49 dC dI cyB cyI cyJ cyP a0 a1 a1_bytes a0_kinds a0_values z0_pile z0_facts z1_filled v1_length f1_bytes Q (wl_X4_readSum_s_r0_8 v1_length f1_bytes Q  n) ih C0 _ _ _ x11 x12 v1_fault v1_faultPlace f0_kinds f0_values v0_length l2 l3 2 hP hD hS (lv_sub hl [0, 1, 2, 3] rfl) hw
set_option maxHeartbeats 4000000 in
set_option maxRecDepth 100000 in
theorem ck_X4_readSum_s_r0 (l : Launch) (dC : Nat → ClassId) (dI : Nat → Nat → Nat) (cyB cyI cyJ cyP : ClassId) (a0 a1 a1_bytes a0_kinds a0_values : Nat) (sz : Nat) (z0_pile : Value) (z0_facts : Value) (z1_filled : Value) (v1_length : Int32) (f1_bytes : Nat → Int32) (v1_at : Int32) (v1_token : Int32) (v1_fault : Int32) (v1_faultPlace : Int32) (f0_kinds : Nat → Int32) (f0_values : Nat → Int32) (v0_length : Int32) (p2 : Int32) {Q : Int32 → Int32 → Int32 → Int32 → (Nat → Int32) → (Nat → Int32) → Int32 → Prop} (hw : wq_X4_readSum_s_r0 v1_length f1_bytes v1_at v1_token v1_fault v1_faultPlace f0_kinds f0_values v0_length p2 Q) : Met l yX4_readSum wsX4_readSum ({ frames := 8, cells := 0, slots := 0, locals := 175 }) (va_Pc [.ref a0, .ref a1, .int p2] (cPs (zE) l (dC, dI) (kT cyB cyI cyJ cyP) (wd14_6 a0 a0_kinds a0_values z0_pile z0_facts v0_length a1 a1_bytes v1_length v1_at v1_token z1_filled v1_fault v1_faultPlace a1_bytes cyB f1_bytes a0_kinds cyI f0_kinds a0_values cyI f0_values) sz)) (va_Qv (fun (u : Int32 × Int32 × Int32 × Int32 × (Nat → Int32) × (Nat → Int32) × Int32) => Q u.1 u.2.1 u.2.2.1 u.2.2.2.1 u.2.2.2.2.1 u.2.2.2.2.2.1 u.2.2.2.2.2.2) (cB (dC, dI) (kT cyB cyI cyJ cyP) (va_A (wd14_6 a0 a0_kinds a0_values z0_pile z0_facts v0_length a1 a1_bytes v1_length v1_at v1_token z1_filled v1_fault v1_faultPlace a1_bytes cyB f1_bytes a0_kinds cyI f0_kinds a0_values cyI f0_values) sz) (fun u : Int32 × Int32 × Int32 × Int32 × (Nat → Int32) × (Nat → Int32) × Int32 => ((wd14_6 a0 a0_kinds a0_values z0_pile z0_facts u.2.2.2.2.2.2 a1 a1_bytes v1_length u.1 u.2.1 z1_filled u.2.2.1 u.2.2.2.1 a1_bytes cyB f1_bytes a0_kinds cyI u.2.2.2.2.1 a0_values cyI u.2.2.2.2.2.1) : va_W))) (va_A (wd14_6 a0 a0_kinds a0_values z0_pile z0_facts v0_length a1 a1_bytes v1_length v1_at v1_token z1_filled v1_fault v1_faultPlace a1_bytes cyB f1_bytes a0_kinds cyI f0_kinds a0_values cyI f0_values) sz)) 0 0 (va_A (wd14_6 a0 a0_kinds a0_values z0_pile z0_facts v0_length a1 a1_bytes v1_length v1_at v1_token z1_filled v1_fault v1_faultPlace a1_bytes cyB f1_bytes a0_kinds cyI f0_kinds a0_values cyI f0_values) sz) := by
  refine Met.ofW (cc := cX4_readSum) (maxL := 5) (ret := none) (by decide) rfl ?_
  intro p e s m args below meth c s₁ B hml hv
  obtain ⟨rfl, ⟨hsz, hP, hK, hD0, hNw, hXl, hXu, hXn, hXt⟩, hE0⟩ := hv
  have hx := B.exec
  have hb := B.bytes
  have hr := B.returns
  have hts := atoms_spec (ws := wsX4_readSum) B.pre
  have hown : s.vm.findClass RX4 = some m.cls := findClass_of_methodNamed B.named
  have hlocks := B.notSynchronized
  subst hsz
  have hD := hD0.self (sz := s.heap.size)
  generalize hAe : va_A (wd14_6 a0 a0_kinds a0_values z0_pile z0_facts v0_length a1 a1_bytes v1_length v1_at v1_token z1_filled v1_fault v1_faultPlace a1_bytes cyB f1_bytes a0_kinds cyI f0_kinds a0_values cyI f0_values) s.heap.size = A at hD hXu hXn hE0 ⊢
  have hA : ∀ q : Nat, s.heap.size ≤ q → A q := fun q h => by rw [← hAe]; exact Or.inr h
  have hS : va_S A s.heap s.heap [] := va_S.rf
  have hP : va_P (dC, dI) vwCl (wd14_6 a0 a0_kinds a0_values z0_pile z0_facts v0_length a1 a1_bytes v1_length v1_at v1_token z1_filled v1_fault v1_faultPlace a1_bytes cyB f1_bytes a0_kinds cyI f0_kinds a0_values cyI f0_values) s.heap := hP
  have hl := lv_entry ([.ref a0, .ref a1, .int p2]) (n := 5) (Nat.le_of_ble_eq_true rfl)
  rw [lg_entry_eq]
  generalize (lg_sl ([.ref a0, .ref a1, .int p2]) ++ List.replicate (5 - (lg_sl ([.ref a0, .ref a1, .int p2])).length) Slot.unset).toArray = ls at hl ⊢
  have hl : lv_has ls 5 [(0, .ref a0), (1, .ref a1), (2, .int p2)] := hl
  have hY : cfY l s A := ⟨hXl, hXu, hXn, hXt⟩
  have C0 : cfx p s m _ meth c cX4_readSum none wsX4_readSum RX4 5 A (dC, dI) (kT cyB cyI cyJ cyP) ∧ cfY l s A ∧ zE A s s.heap := ⟨⟨hx, hb, hr, hts, hown, hlocks, hml, hA, hK, hNw⟩, hY, hE0⟩
  have hE := hE0
  clear hAe
  obtain ⟨H, hH⟩ : ∃ H, H = s.heap := ⟨_, rfl⟩
  rw [← hH] at hP ⊢
  have hS : va_S A s.heap H [] := by rw [hH]; exact va_S.rf
  have hS := hS
  refine lv_aload_n hx hb dX4_readSum_0 rfl (lv_at hl 0 rfl) ?_
  refine lv_aload_n hx hb dX4_readSum_1 rfl (lv_at hl 1 rfl) ?_
  refine lv_iload_n hx hb dX4_readSum_2 rfl (lv_at hl 2 rfl) ?_
  have hPc := hP.sub (ws' := (wd14_6 a0 a0_kinds a0_values z0_pile z0_facts v0_length a1 a1_bytes v1_length v1_at v1_token z1_filled v1_fault v1_faultPlace a1_bytes cyB f1_bytes a0_kinds cyI f0_kinds a0_values cyI f0_values)) [0, 1, 2, 3, 4] rfl
  have hDc := hD.sub (ws' := (wd14_6 a0 a0_kinds a0_values z0_pile z0_facts v0_length a1 a1_bytes v1_length v1_at v1_token z1_filled v1_fault v1_faultPlace a1_bytes cyB f1_bytes a0_kinds cyI f0_kinds a0_values cyI f0_values)) [0, 1, 2, 3, 4] (by decide) rfl
  have hFc := va_free (wc := (wd14_6 a0 a0_kinds a0_values z0_pile z0_facts v0_length a1 a1_bytes v1_length v1_at v1_token z1_filled v1_fault v1_faultPlace a1_bytes cyB f1_bytes a0_kinds cyI f0_kinds a0_values cyI f0_values)) hD hS hA [0, 1, 2, 3, 4] rfl
  refine va_callv (va_runV (As := [.ref a1, .int p2]) (rest := []) ⟨hx, hb, hml, hown, hts⟩ (ck_X4_readProduct_s_r0 l dC dI cyB cyI cyJ cyP a0 a1 a1_bytes a0_kinds a0_values H.size (z0_pile) (z0_facts) (z1_filled) v1_length f1_bytes v1_at v1_token v1_fault v1_faultPlace f0_kinds f0_values v0_length p2 hw) (cwV 2 hts gX4_readSum_X4_readProduct rfl rfl rfl (by decide +kernel) ⟨Nat.le_of_ble_eq_true rfl, Nat.le_of_ble_eq_true rfl⟩) ⟨cPs_blind zE_G, va_recv hK hPc (ci := 4) (q0 := 0) rfl rfl, cPs_pre zE_G hPc hK hDc hNw hY hE hS hFc⟩ rfl rfl hl.1 rfl (lv_room (Nat.le_of_ble_eq_true rfl)) dX4_readSum_3 ⟨Nat.le_of_ble_eq_true rfl, Nat.le_of_ble_eq_true rfl⟩) hS (fun q _ h => hFc q h) hFc (fun u t H1 locs ht hvm hw hB hz1 hk1 hS => ?_)
  obtain ⟨x1, x2, x3, x4, f5, f6, x7⟩ := u
  obtain ⟨hP1, hK1, hD1⟩ := hB
  rw [ht] at hP1
  obtain ⟨hP, hD⟩ := va_join (wr := []) (w1 := (wd14_6 a0 a0_kinds a0_values z0_pile z0_facts x7 a1 a1_bytes v1_length x1 x2 z1_filled x3 x4 a1_bytes cyB f1_bytes a0_kinds cyI f5 a0_values cyI f6)) hP hD [0, 1, 2, 3, 4] [] rfl rfl (by decide) (by decide) hk1 hFc hP1 hD1
  have hP : va_P (dC, dI) vwCl (wd14_6 a0 a0_kinds a0_values z0_pile z0_facts x7 a1 a1_bytes v1_length x1 x2 z1_filled x3 x4 a1_bytes cyB f1_bytes a0_kinds cyI f5 a0_values cyI f6) H1 := hP
  have hD : va_D A (wd14_6 a0 a0_kinds a0_values z0_pile z0_facts x7 a1 a1_bytes v1_length x1 x2 z1_filled x3 x4 a1_bytes cyB f1_bytes a0_kinds cyI f5 a0_values cyI f6) := hD
  generalize H1 = H at hP hS ⊢
  refine lv_iconst (v := 0) hx hb dX4_readSum_6 (by decide) ?_
  refine lv_istore_n (lv' := [(3, .int 0), (0, .ref a0), (1, .ref a1), (2, .int p2)]) hx hb dX4_readSum_7 rfl hl (by decide) rfl (fun ls hl => ?_)
  obtain ⟨n9, hw⟩ := hw
  exact kl_X4_readSum_s_r0_8 dC dI cyB cyI cyJ cyP a0 a1 a1_bytes a0_kinds a0_values z0_pile z0_facts z1_filled v1_length f1_bytes Q  C0 n9 _ _ _ x1 x2 x3 x4 f5 f6 x7 p2 0 hP hD hS (lv_sub hl [1, 2, 3, 0] rfl) hw
set_option maxHeartbeats 4000000 in
set_option maxRecDepth 100000 in
theorem ck_X4_readInner_s_g (RS : Int32 → (Nat → Int32) → Int32 → Int32 → Int32 → Int32 → (Nat → Int32) → (Nat → Int32) → Int32 → Int32 → (Int32 → Int32 → Int32 → Int32 → (Nat → Int32) → (Nat → Int32) → Int32 → Prop) → Prop) (fr lo : Nat) (hfr : 8 ≤ fr) (hlo : 175 ≤ lo) (hRw : ∀ (l : Launch) (dC : Nat → ClassId) (dI : Nat → Nat → Nat) (cyB cyI cyJ cyP : ClassId) (a0 a1 a1_bytes a0_kinds a0_values : Nat) (sz : Nat) (z0_pile : Value) (z0_facts : Value) (z1_filled : Value) (v1_length : Int32) (f1_bytes : Nat → Int32) (v1_at : Int32) (v1_token : Int32) (v1_fault : Int32) (v1_faultPlace : Int32) (f0_kinds : Nat → Int32) (f0_values : Nat → Int32) (v0_length : Int32) (p2 : Int32) {Q : Int32 → Int32 → Int32 → Int32 → (Nat → Int32) → (Nat → Int32) → Int32 → Prop} (hw : RS v1_length f1_bytes v1_at v1_token v1_fault v1_faultPlace f0_kinds f0_values v0_length p2 Q), Met l yX4_readSum wsX4_readSum ({ frames := fr, cells := 0, slots := 0, locals := lo }) (va_Pc [.ref a0, .ref a1, .int p2] (cPs (zE) l (dC, dI) (kT cyB cyI cyJ cyP) (wd14_6 a0 a0_kinds a0_values z0_pile z0_facts v0_length a1 a1_bytes v1_length v1_at v1_token z1_filled v1_fault v1_faultPlace a1_bytes cyB f1_bytes a0_kinds cyI f0_kinds a0_values cyI f0_values) sz)) (va_Qv (fun (u : Int32 × Int32 × Int32 × Int32 × (Nat → Int32) × (Nat → Int32) × Int32) => Q u.1 u.2.1 u.2.2.1 u.2.2.2.1 u.2.2.2.2.1 u.2.2.2.2.2.1 u.2.2.2.2.2.2) (cB (dC, dI) (kT cyB cyI cyJ cyP) (va_A (wd14_6 a0 a0_kinds a0_values z0_pile z0_facts v0_length a1 a1_bytes v1_length v1_at v1_token z1_filled v1_fault v1_faultPlace a1_bytes cyB f1_bytes a0_kinds cyI f0_kinds a0_values cyI f0_values) sz) (fun u : Int32 × Int32 × Int32 × Int32 × (Nat → Int32) × (Nat → Int32) × Int32 => ((wd14_6 a0 a0_kinds a0_values z0_pile z0_facts u.2.2.2.2.2.2 a1 a1_bytes v1_length u.1 u.2.1 z1_filled u.2.2.1 u.2.2.2.1 a1_bytes cyB f1_bytes a0_kinds cyI u.2.2.2.2.1 a0_values cyI u.2.2.2.2.2.1) : va_W))) (va_A (wd14_6 a0 a0_kinds a0_values z0_pile z0_facts v0_length a1 a1_bytes v1_length v1_at v1_token z1_filled v1_fault v1_faultPlace a1_bytes cyB f1_bytes a0_kinds cyI f0_kinds a0_values cyI f0_values) sz)) 0 0 (va_A (wd14_6 a0 a0_kinds a0_values z0_pile z0_facts v0_length a1 a1_bytes v1_length v1_at v1_token z1_filled v1_fault v1_faultPlace a1_bytes cyB f1_bytes a0_kinds cyI f0_kinds a0_values cyI f0_values) sz)) (l : Launch) (dC : Nat → ClassId) (dI : Nat → Nat → Nat) (cyB cyI cyJ cyP : ClassId) (a0 a1 a1_bytes a0_kinds a0_values : Nat) (sz : Nat) (z0_pile : Value) (z0_facts : Value) (z1_filled : Value) (v1_length : Int32) (f1_bytes : Nat → Int32) (v1_at : Int32) (v1_token : Int32) (v1_fault : Int32) (v1_faultPlace : Int32) (f0_kinds : Nat → Int32) (f0_values : Nat → Int32) (v0_length : Int32) (p2 : Int32) {Q : Int32 → Int32 → Int32 → Int32 → (Nat → Int32) → (Nat → Int32) → Int32 → Prop} (hw : wq_X4_readInner_s_g RS v1_length f1_bytes v1_at v1_token v1_fault v1_faultPlace f0_kinds f0_values v0_length p2 Q) : Met l yX4_readInner wsX4_readInner ({ frames := fr + 1, cells := 0, slots := 0, locals := lo + 24 }) (va_Pc [.ref a0, .ref a1, .int p2] (cPs (zE) l (dC, dI) (kT cyB cyI cyJ cyP) (wd14_6 a0 a0_kinds a0_values z0_pile z0_facts v0_length a1 a1_bytes v1_length v1_at v1_token z1_filled v1_fault v1_faultPlace a1_bytes cyB f1_bytes a0_kinds cyI f0_kinds a0_values cyI f0_values) sz)) (va_Qv (fun (u : Int32 × Int32 × Int32 × Int32 × (Nat → Int32) × (Nat → Int32) × Int32) => Q u.1 u.2.1 u.2.2.1 u.2.2.2.1 u.2.2.2.2.1 u.2.2.2.2.2.1 u.2.2.2.2.2.2) (cB (dC, dI) (kT cyB cyI cyJ cyP) (va_A (wd14_6 a0 a0_kinds a0_values z0_pile z0_facts v0_length a1 a1_bytes v1_length v1_at v1_token z1_filled v1_fault v1_faultPlace a1_bytes cyB f1_bytes a0_kinds cyI f0_kinds a0_values cyI f0_values) sz) (fun u : Int32 × Int32 × Int32 × Int32 × (Nat → Int32) × (Nat → Int32) × Int32 => ((wd14_6 a0 a0_kinds a0_values z0_pile z0_facts u.2.2.2.2.2.2 a1 a1_bytes v1_length u.1 u.2.1 z1_filled u.2.2.1 u.2.2.2.1 a1_bytes cyB f1_bytes a0_kinds cyI u.2.2.2.2.1 a0_values cyI u.2.2.2.2.2.1) : va_W))) (va_A (wd14_6 a0 a0_kinds a0_values z0_pile z0_facts v0_length a1 a1_bytes v1_length v1_at v1_token z1_filled v1_fault v1_faultPlace a1_bytes cyB f1_bytes a0_kinds cyI f0_kinds a0_values cyI f0_values) sz)) 0 0 (va_A (wd14_6 a0 a0_kinds a0_values z0_pile z0_facts v0_length a1 a1_bytes v1_length v1_at v1_token z1_filled v1_fault v1_faultPlace a1_bytes cyB f1_bytes a0_kinds cyI f0_kinds a0_values cyI f0_values) sz) := by
  refine Met.ofW (cc := cX4_readInner) (maxL := 3) (ret := none) (by decide) rfl ?_
  intro p e s m args below meth c s₁ B hml hv
  obtain ⟨rfl, ⟨hsz, hP, hK, hD0, hNw, hXl, hXu, hXn, hXt⟩, hE0⟩ := hv
  have hx := B.exec
  have hb := B.bytes
  have hr := B.returns
  have hts := atoms_spec (ws := wsX4_readInner) B.pre
  have hown : s.vm.findClass RX4 = some m.cls := findClass_of_methodNamed B.named
  have hlocks := B.notSynchronized
  subst hsz
  have hD := hD0.self (sz := s.heap.size)
  generalize hAe : va_A (wd14_6 a0 a0_kinds a0_values z0_pile z0_facts v0_length a1 a1_bytes v1_length v1_at v1_token z1_filled v1_fault v1_faultPlace a1_bytes cyB f1_bytes a0_kinds cyI f0_kinds a0_values cyI f0_values) s.heap.size = A at hD hXu hXn hE0 ⊢
  have hA : ∀ q : Nat, s.heap.size ≤ q → A q := fun q h => by rw [← hAe]; exact Or.inr h
  have hS : va_S A s.heap s.heap [] := va_S.rf
  have hP : va_P (dC, dI) vwCl (wd14_6 a0 a0_kinds a0_values z0_pile z0_facts v0_length a1 a1_bytes v1_length v1_at v1_token z1_filled v1_fault v1_faultPlace a1_bytes cyB f1_bytes a0_kinds cyI f0_kinds a0_values cyI f0_values) s.heap := hP
  have hl := lv_entry ([.ref a0, .ref a1, .int p2]) (n := 3) ((by first | exact Nat.le_of_ble_eq_true rfl | (simp only [headSpec]; omega) | omega))
  rw [lg_entry_eq]
  generalize (lg_sl ([.ref a0, .ref a1, .int p2]) ++ List.replicate (3 - (lg_sl ([.ref a0, .ref a1, .int p2])).length) Slot.unset).toArray = ls at hl ⊢
  have hl : lv_has ls 3 [(0, .ref a0), (1, .ref a1), (2, .int p2)] := hl
  have hY : cfY l s A := ⟨hXl, hXu, hXn, hXt⟩
  have C0 : cfx p s m _ meth c cX4_readInner none wsX4_readInner RX4 3 A (dC, dI) (kT cyB cyI cyJ cyP) ∧ cfY l s A ∧ zE A s s.heap := ⟨⟨hx, hb, hr, hts, hown, hlocks, hml, hA, hK, hNw⟩, hY, hE0⟩
  have hE := hE0
  clear hAe
  obtain ⟨H, hH⟩ : ∃ H, H = s.heap := ⟨_, rfl⟩
  rw [← hH] at hP ⊢
  have hS : va_S A s.heap H [] := by rw [hH]; exact va_S.rf
  have hS := hS
  refine lv_iload_n hx hb dX4_readInner_0 rfl (lv_at hl 2 rfl) ?_
  refine lv_bipush (v := 6) hx hb dX4_readInner_1 (by decide) ?_
  refine lv_icmp_lt (tgt := 12) hx hb dX4_readInner_3 (by decide) (fun c1 => ?_) (fun c1 => ?_)
  · have hw := hw.1 c1
    refine lv_aload_n hx hb dX4_readInner_12 rfl (lv_at hl 0 rfl) ?_
    refine lv_aload_n hx hb dX4_readInner_13 rfl (lv_at hl 1 rfl) ?_
    refine lv_iload_n hx hb dX4_readInner_14 rfl (lv_at hl 2 rfl) ?_
    refine lv_iconst (v := 1) hx hb dX4_readInner_15 (by decide) ?_
    refine lv_iadd hx hb dX4_readInner_16 ?_
    refine lv_topi (fun x2 ex2 => ?_)
    have hw := hw x2 ex2
    have hPc := hP.sub (ws' := (wd14_6 a0 a0_kinds a0_values z0_pile z0_facts v0_length a1 a1_bytes v1_length v1_at v1_token z1_filled v1_fault v1_faultPlace a1_bytes cyB f1_bytes a0_kinds cyI f0_kinds a0_values cyI f0_values)) [0, 1, 2, 3, 4] rfl
    have hDc := hD.sub (ws' := (wd14_6 a0 a0_kinds a0_values z0_pile z0_facts v0_length a1 a1_bytes v1_length v1_at v1_token z1_filled v1_fault v1_faultPlace a1_bytes cyB f1_bytes a0_kinds cyI f0_kinds a0_values cyI f0_values)) [0, 1, 2, 3, 4] (by decide) rfl
    have hFc := va_free (wc := (wd14_6 a0 a0_kinds a0_values z0_pile z0_facts v0_length a1 a1_bytes v1_length v1_at v1_token z1_filled v1_fault v1_faultPlace a1_bytes cyB f1_bytes a0_kinds cyI f0_kinds a0_values cyI f0_values)) hD hS hA [0, 1, 2, 3, 4] rfl
    refine va_callv (va_runV (As := [.ref a1, .int x2]) (rest := []) ⟨hx, hb, hml, hown, hts⟩ (hRw l dC dI cyB cyI cyJ cyP a0 a1 a1_bytes a0_kinds a0_values H.size (z0_pile) (z0_facts) (z1_filled) v1_length f1_bytes v1_at v1_token v1_fault v1_faultPlace f0_kinds f0_values v0_length x2 hw) (cwV 2 hts gX4_readInner_X4_readSum rfl rfl rfl (by decide +kernel) ⟨(by first | exact Nat.le_of_ble_eq_true rfl | (simp only [headSpec]; omega) | omega), (by first | exact Nat.le_of_ble_eq_true rfl | (simp only [headSpec]; omega) | omega)⟩) ⟨cPs_blind zE_G, va_recv hK hPc (ci := 4) (q0 := 0) rfl rfl, cPs_pre zE_G hPc hK hDc hNw hY hE hS hFc⟩ rfl rfl hl.1 rfl (lv_room (Nat.le_of_ble_eq_true rfl)) dX4_readInner_17 ⟨(by first | exact Nat.le_of_ble_eq_true rfl | (simp only [headSpec]; omega) | omega), (by first | exact Nat.le_of_ble_eq_true rfl | (simp only [headSpec]; omega) | omega)⟩) hS (fun q _ h => hFc q h) hFc (fun u t H1 locs ht hvm hw hB hz1 hk1 hS => ?_)
    obtain ⟨x3, x4, x5, x6, f7, f8, x9⟩ := u
    obtain ⟨hP1, hK1, hD1⟩ := hB
    rw [ht] at hP1
    obtain ⟨hP, hD⟩ := va_join (wr := []) (w1 := (wd14_6 a0 a0_kinds a0_values z0_pile z0_facts x9 a1 a1_bytes v1_length x3 x4 z1_filled x5 x6 a1_bytes cyB f1_bytes a0_kinds cyI f7 a0_values cyI f8)) hP hD [0, 1, 2, 3, 4] [] rfl rfl (by decide) (by decide) hk1 hFc hP1 hD1
    have hP : va_P (dC, dI) vwCl (wd14_6 a0 a0_kinds a0_values z0_pile z0_facts x9 a1 a1_bytes v1_length x3 x4 z1_filled x5 x6 a1_bytes cyB f1_bytes a0_kinds cyI f7 a0_values cyI f8) H1 := hP
    have hD : va_D A (wd14_6 a0 a0_kinds a0_values z0_pile z0_facts x9 a1 a1_bytes v1_length x3 x4 z1_filled x5 x6 a1_bytes cyB f1_bytes a0_kinds cyI f7 a0_values cyI f8) := hD
    generalize H1 = H at hP hS ⊢
    refine lv_aload_n hx hb dX4_readInner_20 rfl (lv_at hl 1 rfl) ?_
    refine lv_bipush (v := 41) hx hb dX4_readInner_21 (by decide) ?_
    have hPc := hP.sub (ws' := (wd14_4 a1 a1_bytes v1_length x3 x4 z1_filled x5 x6 a1_bytes cyB f1_bytes)) [1, 2] rfl
    have hDc := hD.sub (ws' := (wd14_4 a1 a1_bytes v1_length x3 x4 z1_filled x5 x6 a1_bytes cyB f1_bytes)) [1, 2] (by decide) rfl
    have hFc := va_free (wc := (wd14_4 a1 a1_bytes v1_length x3 x4 z1_filled x5 x6 a1_bytes cyB f1_bytes)) hD hS hA [1, 2] rfl
    refine va_callv (va_runV (As := [.int 41]) (rest := []) ⟨hx, hb, hml, hown, hts⟩ (ck_X8_needs l dC dI cyB cyI cyJ cyP a1 a1_bytes H.size (z1_filled) v1_length f1_bytes x3 x4 x5 x6 41 hw) (cwV 1 hts gX4_readInner_X8_needs rfl rfl rfl (by decide +kernel) ⟨(by first | exact Nat.le_of_ble_eq_true rfl | (simp only [headSpec]; omega) | omega), (by first | exact Nat.le_of_ble_eq_true rfl | (simp only [headSpec]; omega) | omega)⟩) ⟨cPc_blind, va_recv hK hPc (ci := 8) (q0 := 0) rfl rfl, cPc_pre hPc hK hDc hNw⟩ rfl rfl hl.1 rfl (lv_room (Nat.le_of_ble_eq_true rfl)) dX4_readInner_23 ⟨(by first | exact Nat.le_of_ble_eq_true rfl | (simp only [headSpec]; omega) | omega), (by first | exact Nat.le_of_ble_eq_true rfl | (simp only [headSpec]; omega) | omega)⟩) hS (fun q _ h => hFc q h) hFc (fun u t H1 locs ht hvm hw hB hz1 hk1 hS => ?_)
    obtain ⟨x10, x11, x12, x13⟩ := u
    obtain ⟨hP1, hK1, hD1⟩ := hB
    rw [ht] at hP1
    obtain ⟨hP, hD⟩ := va_join (wr := (wd14_7 a0 a0_kinds a0_values z0_pile z0_facts x9 a0_kinds cyI f7 a0_values cyI f8)) (w1 := (wd14_4 a1 a1_bytes v1_length x10 x11 z1_filled x12 x13 a1_bytes cyB f1_bytes)) hP hD [1, 2] [0, 3, 4] rfl rfl (by decide) (by decide) hk1 hFc hP1 hD1
    have hP : va_P (dC, dI) vwCl (wd14_6 a0 a0_kinds a0_values z0_pile z0_facts x9 a1 a1_bytes v1_length x10 x11 z1_filled x12 x13 a1_bytes cyB f1_bytes a0_kinds cyI f7 a0_values cyI f8) H1 := hP.sub [0, 3, 4, 1, 2] rfl
    have hD : va_D A (wd14_6 a0 a0_kinds a0_values z0_pile z0_facts x9 a1 a1_bytes v1_length x10 x11 z1_filled x12 x13 a1_bytes cyB f1_bytes a0_kinds cyI f7 a0_values cyI f8) := hD.sub [0, 3, 4, 1, 2] (by decide) rfl
    generalize H1 = H at hP hS ⊢
    exact ((W.vret hx hb hr (fun t ht hW => ⟨⟨(x10, x11, x12, x13, f7, f8, x9), rfl, hw, by rw [ht]; exact hP, va_K.moved hW.alike hK, hD⟩, hS.F ht⟩) hS.2.2 dX4_readInner_26))
  · have hw := hw.2 c1
    refine lv_aload_n hx hb dX4_readInner_6 rfl (lv_at hl 1 rfl) ?_
    refine lv_iconst (v := 3) hx hb dX4_readInner_7 (by decide) ?_
    have hPc := hP.sub (ws' := (wd14_5 a1 a1_bytes v1_length v1_at v1_token z1_filled v1_fault v1_faultPlace)) [1] rfl
    have hDc := hD.sub (ws' := (wd14_5 a1 a1_bytes v1_length v1_at v1_token z1_filled v1_fault v1_faultPlace)) [1] (by decide) rfl
    have hFc := va_free (wc := (wd14_5 a1 a1_bytes v1_length v1_at v1_token z1_filled v1_fault v1_faultPlace)) hD hS hA [1] rfl
    refine va_callv (va_runV (As := [.int 3]) (rest := []) ⟨hx, hb, hml, hown, hts⟩ (ck_X8_blameToken l dC dI cyB cyI cyJ cyP a1 H.size (.ref a1_bytes) (.int v1_length) (.int v1_at) (z1_filled) v1_token v1_fault v1_faultPlace 3 hw) (cwV 1 hts gX4_readInner_X8_blameToken rfl rfl rfl (by decide +kernel) ⟨(by first | exact Nat.le_of_ble_eq_true rfl | (simp only [headSpec]; omega) | omega), (by first | exact Nat.le_of_ble_eq_true rfl | (simp only [headSpec]; omega) | omega)⟩) ⟨cPc_blind, va_recv hK hPc (ci := 8) (q0 := 0) rfl rfl, cPc_pre hPc hK hDc hNw⟩ rfl rfl hl.1 rfl (lv_room (Nat.le_of_ble_eq_true rfl)) dX4_readInner_8 ⟨(by first | exact Nat.le_of_ble_eq_true rfl | (simp only [headSpec]; omega) | omega), (by first | exact Nat.le_of_ble_eq_true rfl | (simp only [headSpec]; omega) | omega)⟩) hS (fun q _ h => hFc q h) hFc (fun u t H1 locs ht hvm hw hB hz1 hk1 hS => ?_)
    obtain ⟨x14, x15⟩ := u
    obtain ⟨hP1, hK1, hD1⟩ := hB
    rw [ht] at hP1
    obtain ⟨hP, hD⟩ := va_join (wr := (wd14_11 a0 a0_kinds a0_values z0_pile z0_facts v0_length a1_bytes cyB f1_bytes a0_kinds cyI f0_kinds a0_values cyI f0_values)) (w1 := (wd14_5 a1 a1_bytes v1_length v1_at v1_token z1_filled x14 x15)) hP hD [1] [0, 2, 3, 4] rfl rfl (by decide) (by decide) hk1 hFc hP1 hD1
    have hP : va_P (dC, dI) vwCl (wd14_6 a0 a0_kinds a0_values z0_pile z0_facts v0_length a1 a1_bytes v1_length v1_at v1_token z1_filled x14 x15 a1_bytes cyB f1_bytes a0_kinds cyI f0_kinds a0_values cyI f0_values) H1 := hP.sub [0, 4, 1, 2, 3] rfl
    have hD : va_D A (wd14_6 a0 a0_kinds a0_values z0_pile z0_facts v0_length a1 a1_bytes v1_length v1_at v1_token z1_filled x14 x15 a1_bytes cyB f1_bytes a0_kinds cyI f0_kinds a0_values cyI f0_values) := hD.sub [0, 4, 1, 2, 3] (by decide) rfl
    generalize H1 = H at hP hS ⊢
    exact ((W.vret hx hb hr (fun t ht hW => ⟨⟨(v1_at, v1_token, x14, x15, f0_kinds, f0_values, v0_length), rfl, hw, by rw [ht]; exact hP, va_K.moved hW.alike hK, hD⟩, hS.F ht⟩) hS.2.2 dX4_readInner_11))
set_option maxHeartbeats 4000000 in
set_option maxRecDepth 100000 in
theorem ck_X4_readPair_s_g (RS : Int32 → (Nat → Int32) → Int32 → Int32 → Int32 → Int32 → (Nat → Int32) → (Nat → Int32) → Int32 → Int32 → (Int32 → Int32 → Int32 → Int32 → (Nat → Int32) → (Nat → Int32) → Int32 → Prop) → Prop) (fr lo : Nat) (hfr : 8 ≤ fr) (hlo : 175 ≤ lo) (hRw : ∀ (l : Launch) (dC : Nat → ClassId) (dI : Nat → Nat → Nat) (cyB cyI cyJ cyP : ClassId) (a0 a1 a1_bytes a0_kinds a0_values : Nat) (sz : Nat) (z0_pile : Value) (z0_facts : Value) (z1_filled : Value) (v1_length : Int32) (f1_bytes : Nat → Int32) (v1_at : Int32) (v1_token : Int32) (v1_fault : Int32) (v1_faultPlace : Int32) (f0_kinds : Nat → Int32) (f0_values : Nat → Int32) (v0_length : Int32) (p2 : Int32) {Q : Int32 → Int32 → Int32 → Int32 → (Nat → Int32) → (Nat → Int32) → Int32 → Prop} (hw : RS v1_length f1_bytes v1_at v1_token v1_fault v1_faultPlace f0_kinds f0_values v0_length p2 Q), Met l yX4_readSum wsX4_readSum ({ frames := fr, cells := 0, slots := 0, locals := lo }) (va_Pc [.ref a0, .ref a1, .int p2] (cPs (zE) l (dC, dI) (kT cyB cyI cyJ cyP) (wd14_6 a0 a0_kinds a0_values z0_pile z0_facts v0_length a1 a1_bytes v1_length v1_at v1_token z1_filled v1_fault v1_faultPlace a1_bytes cyB f1_bytes a0_kinds cyI f0_kinds a0_values cyI f0_values) sz)) (va_Qv (fun (u : Int32 × Int32 × Int32 × Int32 × (Nat → Int32) × (Nat → Int32) × Int32) => Q u.1 u.2.1 u.2.2.1 u.2.2.2.1 u.2.2.2.2.1 u.2.2.2.2.2.1 u.2.2.2.2.2.2) (cB (dC, dI) (kT cyB cyI cyJ cyP) (va_A (wd14_6 a0 a0_kinds a0_values z0_pile z0_facts v0_length a1 a1_bytes v1_length v1_at v1_token z1_filled v1_fault v1_faultPlace a1_bytes cyB f1_bytes a0_kinds cyI f0_kinds a0_values cyI f0_values) sz) (fun u : Int32 × Int32 × Int32 × Int32 × (Nat → Int32) × (Nat → Int32) × Int32 => ((wd14_6 a0 a0_kinds a0_values z0_pile z0_facts u.2.2.2.2.2.2 a1 a1_bytes v1_length u.1 u.2.1 z1_filled u.2.2.1 u.2.2.2.1 a1_bytes cyB f1_bytes a0_kinds cyI u.2.2.2.2.1 a0_values cyI u.2.2.2.2.2.1) : va_W))) (va_A (wd14_6 a0 a0_kinds a0_values z0_pile z0_facts v0_length a1 a1_bytes v1_length v1_at v1_token z1_filled v1_fault v1_faultPlace a1_bytes cyB f1_bytes a0_kinds cyI f0_kinds a0_values cyI f0_values) sz)) 0 0 (va_A (wd14_6 a0 a0_kinds a0_values z0_pile z0_facts v0_length a1 a1_bytes v1_length v1_at v1_token z1_filled v1_fault v1_faultPlace a1_bytes cyB f1_bytes a0_kinds cyI f0_kinds a0_values cyI f0_values) sz)) (l : Launch) (dC : Nat → ClassId) (dI : Nat → Nat → Nat) (cyB cyI cyJ cyP : ClassId) (a0 a1 a1_bytes a0_kinds a0_values : Nat) (sz : Nat) (z0_pile : Value) (z0_facts : Value) (z1_filled : Value) (v1_length : Int32) (f1_bytes : Nat → Int32) (v1_at : Int32) (v1_token : Int32) (v1_fault : Int32) (v1_faultPlace : Int32) (f0_kinds : Nat → Int32) (f0_values : Nat → Int32) (v0_length : Int32) (p2 : Int32) (p3 : Int32) {Q : Int32 → Int32 → Int32 → Int32 → (Nat → Int32) → (Nat → Int32) → Int32 → Prop} (hw : wq_X4_readPair_s_g RS v1_length f1_bytes v1_at v1_token v1_fault v1_faultPlace f0_kinds f0_values v0_length p2 p3 Q) : Met l yX4_readPair wsX4_readPair ({ frames := fr + 1, cells := 0, slots := 0, locals := lo + 24 }) (va_Pc [.ref a0, .ref a1, .int p2, .int p3] (cPs (zE) l (dC, dI) (kT cyB cyI cyJ cyP) (wd14_6 a0 a0_kinds a0_values z0_pile z0_facts v0_length a1 a1_bytes v1_length v1_at v1_token z1_filled v1_fault v1_faultPlace a1_bytes cyB f1_bytes a0_kinds cyI f0_kinds a0_values cyI f0_values) sz)) (va_Qv (fun (u : Int32 × Int32 × Int32 × Int32 × (Nat → Int32) × (Nat → Int32) × Int32) => Q u.1 u.2.1 u.2.2.1 u.2.2.2.1 u.2.2.2.2.1 u.2.2.2.2.2.1 u.2.2.2.2.2.2) (cB (dC, dI) (kT cyB cyI cyJ cyP) (va_A (wd14_6 a0 a0_kinds a0_values z0_pile z0_facts v0_length a1 a1_bytes v1_length v1_at v1_token z1_filled v1_fault v1_faultPlace a1_bytes cyB f1_bytes a0_kinds cyI f0_kinds a0_values cyI f0_values) sz) (fun u : Int32 × Int32 × Int32 × Int32 × (Nat → Int32) × (Nat → Int32) × Int32 => ((wd14_6 a0 a0_kinds a0_values z0_pile z0_facts u.2.2.2.2.2.2 a1 a1_bytes v1_length u.1 u.2.1 z1_filled u.2.2.1 u.2.2.2.1 a1_bytes cyB f1_bytes a0_kinds cyI u.2.2.2.2.1 a0_values cyI u.2.2.2.2.2.1) : va_W))) (va_A (wd14_6 a0 a0_kinds a0_values z0_pile z0_facts v0_length a1 a1_bytes v1_length v1_at v1_token z1_filled v1_fault v1_faultPlace a1_bytes cyB f1_bytes a0_kinds cyI f0_kinds a0_values cyI f0_values) sz)) 0 0 (va_A (wd14_6 a0 a0_kinds a0_values z0_pile z0_facts v0_length a1 a1_bytes v1_length v1_at v1_token z1_filled v1_fault v1_faultPlace a1_bytes cyB f1_bytes a0_kinds cyI f0_kinds a0_values cyI f0_values) sz) := by
  refine Met.ofW (cc := cX4_readPair) (maxL := 4) (ret := none) (by decide) rfl ?_
  intro p e s m args below meth c s₁ B hml hv
  obtain ⟨rfl, ⟨hsz, hP, hK, hD0, hNw, hXl, hXu, hXn, hXt⟩, hE0⟩ := hv
  have hx := B.exec
  have hb := B.bytes
  have hr := B.returns
  have hts := atoms_spec (ws := wsX4_readPair) B.pre
  have hown : s.vm.findClass RX4 = some m.cls := findClass_of_methodNamed B.named
  have hlocks := B.notSynchronized
  subst hsz
  have hD := hD0.self (sz := s.heap.size)
  generalize hAe : va_A (wd14_6 a0 a0_kinds a0_values z0_pile z0_facts v0_length a1 a1_bytes v1_length v1_at v1_token z1_filled v1_fault v1_faultPlace a1_bytes cyB f1_bytes a0_kinds cyI f0_kinds a0_values cyI f0_values) s.heap.size = A at hD hXu hXn hE0 ⊢
  have hA : ∀ q : Nat, s.heap.size ≤ q → A q := fun q h => by rw [← hAe]; exact Or.inr h
  have hS : va_S A s.heap s.heap [] := va_S.rf
  have hP : va_P (dC, dI) vwCl (wd14_6 a0 a0_kinds a0_values z0_pile z0_facts v0_length a1 a1_bytes v1_length v1_at v1_token z1_filled v1_fault v1_faultPlace a1_bytes cyB f1_bytes a0_kinds cyI f0_kinds a0_values cyI f0_values) s.heap := hP
  have hl := lv_entry ([.ref a0, .ref a1, .int p2, .int p3]) (n := 4) ((by first | exact Nat.le_of_ble_eq_true rfl | (simp only [headSpec]; omega) | omega))
  rw [lg_entry_eq]
  generalize (lg_sl ([.ref a0, .ref a1, .int p2, .int p3]) ++ List.replicate (4 - (lg_sl ([.ref a0, .ref a1, .int p2, .int p3])).length) Slot.unset).toArray = ls at hl ⊢
  have hl : lv_has ls 4 [(0, .ref a0), (1, .ref a1), (2, .int p2), (3, .int p3)] := hl
  have hY : cfY l s A := ⟨hXl, hXu, hXn, hXt⟩
  have C0 : cfx p s m _ meth c cX4_readPair none wsX4_readPair RX4 4 A (dC, dI) (kT cyB cyI cyJ cyP) ∧ cfY l s A ∧ zE A s s.heap := ⟨⟨hx, hb, hr, hts, hown, hlocks, hml, hA, hK, hNw⟩, hY, hE0⟩
  have hE := hE0
  clear hAe
  obtain ⟨H, hH⟩ : ∃ H, H = s.heap := ⟨_, rfl⟩
  rw [← hH] at hP ⊢
  have hS : va_S A s.heap H [] := by rw [hH]; exact va_S.rf
  have hS := hS
  refine lv_iload_n hx hb dX4_readPair_0 rfl (lv_at hl 2 rfl) ?_
  refine lv_bipush (v := 6) hx hb dX4_readPair_1 (by decide) ?_
  refine lv_icmp_lt (tgt := 12) hx hb dX4_readPair_3 (by decide) (fun c1 => ?_) (fun c1 => ?_)
  · have hw := hw.1 c1
    refine lv_aload_n hx hb dX4_readPair_12 rfl (lv_at hl 1 rfl) ?_
    refine lv_bipush (v := 91) hx hb dX4_readPair_13 (by decide) ?_
    have hPc := hP.sub (ws' := (wd14_4 a1 a1_bytes v1_length v1_at v1_token z1_filled v1_fault v1_faultPlace a1_bytes cyB f1_bytes)) [1, 2] rfl
    have hDc := hD.sub (ws' := (wd14_4 a1 a1_bytes v1_length v1_at v1_token z1_filled v1_fault v1_faultPlace a1_bytes cyB f1_bytes)) [1, 2] (by decide) rfl
    have hFc := va_free (wc := (wd14_4 a1 a1_bytes v1_length v1_at v1_token z1_filled v1_fault v1_faultPlace a1_bytes cyB f1_bytes)) hD hS hA [1, 2] rfl
    refine va_callv (va_runV (As := [.int 91]) (rest := []) ⟨hx, hb, hml, hown, hts⟩ (ck_X8_needs l dC dI cyB cyI cyJ cyP a1 a1_bytes H.size (z1_filled) v1_length f1_bytes v1_at v1_token v1_fault v1_faultPlace 91 hw) (cwV 1 hts gX4_readPair_X8_needs rfl rfl rfl (by decide +kernel) ⟨(by first | exact Nat.le_of_ble_eq_true rfl | (simp only [headSpec]; omega) | omega), (by first | exact Nat.le_of_ble_eq_true rfl | (simp only [headSpec]; omega) | omega)⟩) ⟨cPc_blind, va_recv hK hPc (ci := 8) (q0 := 0) rfl rfl, cPc_pre hPc hK hDc hNw⟩ rfl rfl hl.1 rfl (lv_room (Nat.le_of_ble_eq_true rfl)) dX4_readPair_15 ⟨(by first | exact Nat.le_of_ble_eq_true rfl | (simp only [headSpec]; omega) | omega), (by first | exact Nat.le_of_ble_eq_true rfl | (simp only [headSpec]; omega) | omega)⟩) hS (fun q _ h => hFc q h) hFc (fun u t H1 locs ht hvm hw hB hz1 hk1 hS => ?_)
    obtain ⟨x2, x3, x4, x5⟩ := u
    obtain ⟨hP1, hK1, hD1⟩ := hB
    rw [ht] at hP1
    obtain ⟨hP, hD⟩ := va_join (wr := (wd14_7 a0 a0_kinds a0_values z0_pile z0_facts v0_length a0_kinds cyI f0_kinds a0_values cyI f0_values)) (w1 := (wd14_4 a1 a1_bytes v1_length x2 x3 z1_filled x4 x5 a1_bytes cyB f1_bytes)) hP hD [1, 2] [0, 3, 4] rfl rfl (by decide) (by decide) hk1 hFc hP1 hD1
    have hP : va_P (dC, dI) vwCl (wd14_6 a0 a0_kinds a0_values z0_pile z0_facts v0_length a1 a1_bytes v1_length x2 x3 z1_filled x4 x5 a1_bytes cyB f1_bytes a0_kinds cyI f0_kinds a0_values cyI f0_values) H1 := hP.sub [0, 3, 4, 1, 2] rfl
    have hD : va_D A (wd14_6 a0 a0_kinds a0_values z0_pile z0_facts v0_length a1 a1_bytes v1_length x2 x3 z1_filled x4 x5 a1_bytes cyB f1_bytes a0_kinds cyI f0_kinds a0_values cyI f0_values) := hD.sub [0, 3, 4, 1, 2] (by decide) rfl
    generalize H1 = H at hP hS ⊢
    refine lv_aload_n hx hb dX4_readPair_18 rfl (lv_at hl 0 rfl) ?_
    refine lv_aload_n hx hb dX4_readPair_19 rfl (lv_at hl 1 rfl) ?_
    refine lv_iload_n hx hb dX4_readPair_20 rfl (lv_at hl 2 rfl) ?_
    refine lv_iconst (v := 1) hx hb dX4_readPair_21 (by decide) ?_
    refine lv_iadd hx hb dX4_readPair_22 ?_
    refine lv_topi (fun x6 ex6 => ?_)
    have hw := hw x6 ex6
    have hPc := hP.sub (ws' := (wd14_6 a0 a0_kinds a0_values z0_pile z0_facts v0_length a1 a1_bytes v1_length x2 x3 z1_filled x4 x5 a1_bytes cyB f1_bytes a0_kinds cyI f0_kinds a0_values cyI f0_values)) [0, 1, 2, 3, 4] rfl
    have hDc := hD.sub (ws' := (wd14_6 a0 a0_kinds a0_values z0_pile z0_facts v0_length a1 a1_bytes v1_length x2 x3 z1_filled x4 x5 a1_bytes cyB f1_bytes a0_kinds cyI f0_kinds a0_values cyI f0_values)) [0, 1, 2, 3, 4] (by decide) rfl
    have hFc := va_free (wc := (wd14_6 a0 a0_kinds a0_values z0_pile z0_facts v0_length a1 a1_bytes v1_length x2 x3 z1_filled x4 x5 a1_bytes cyB f1_bytes a0_kinds cyI f0_kinds a0_values cyI f0_values)) hD hS hA [0, 1, 2, 3, 4] rfl
    refine va_callv (va_runV (As := [.ref a1, .int x6]) (rest := []) ⟨hx, hb, hml, hown, hts⟩ (hRw l dC dI cyB cyI cyJ cyP a0 a1 a1_bytes a0_kinds a0_values H.size (z0_pile) (z0_facts) (z1_filled) v1_length f1_bytes x2 x3 x4 x5 f0_kinds f0_values v0_length x6 hw) (cwV 2 hts gX4_readPair_X4_readSum rfl rfl rfl (by decide +kernel) ⟨(by first | exact Nat.le_of_ble_eq_true rfl | (simp only [headSpec]; omega) | omega), (by first | exact Nat.le_of_ble_eq_true rfl | (simp only [headSpec]; omega) | omega)⟩) ⟨cPs_blind zE_G, va_recv hK hPc (ci := 4) (q0 := 0) rfl rfl, cPs_pre zE_G hPc hK hDc hNw hY hE hS hFc⟩ rfl rfl hl.1 rfl (lv_room (Nat.le_of_ble_eq_true rfl)) dX4_readPair_23 ⟨(by first | exact Nat.le_of_ble_eq_true rfl | (simp only [headSpec]; omega) | omega), (by first | exact Nat.le_of_ble_eq_true rfl | (simp only [headSpec]; omega) | omega)⟩) hS (fun q _ h => hFc q h) hFc (fun u t H1 locs ht hvm hw hB hz1 hk1 hS => ?_)
    obtain ⟨x7, x8, x9, x10, f11, f12, x13⟩ := u
    obtain ⟨hP1, hK1, hD1⟩ := hB
    rw [ht] at hP1
    obtain ⟨hP, hD⟩ := va_join (wr := []) (w1 := (wd14_6 a0 a0_kinds a0_values z0_pile z0_facts x13 a1 a1_bytes v1_length x7 x8 z1_filled x9 x10 a1_bytes cyB f1_bytes a0_kinds cyI f11 a0_values cyI f12)) hP hD [0, 1, 2, 3, 4] [] rfl rfl (by decide) (by decide) hk1 hFc hP1 hD1
    have hP : va_P (dC, dI) vwCl (wd14_6 a0 a0_kinds a0_values z0_pile z0_facts x13 a1 a1_bytes v1_length x7 x8 z1_filled x9 x10 a1_bytes cyB f1_bytes a0_kinds cyI f11 a0_values cyI f12) H1 := hP
    have hD : va_D A (wd14_6 a0 a0_kinds a0_values z0_pile z0_facts x13 a1 a1_bytes v1_length x7 x8 z1_filled x9 x10 a1_bytes cyB f1_bytes a0_kinds cyI f11 a0_values cyI f12) := hD
    generalize H1 = H at hP hS ⊢
    refine lv_aload_n hx hb dX4_readPair_26 rfl (lv_at hl 1 rfl) ?_
    refine lv_bipush (v := 44) hx hb dX4_readPair_27 (by decide) ?_
    have hPc := hP.sub (ws' := (wd14_4 a1 a1_bytes v1_length x7 x8 z1_filled x9 x10 a1_bytes cyB f1_bytes)) [1, 2] rfl
    have hDc := hD.sub (ws' := (wd14_4 a1 a1_bytes v1_length x7 x8 z1_filled x9 x10 a1_bytes cyB f1_bytes)) [1, 2] (by decide) rfl
    have hFc := va_free (wc := (wd14_4 a1 a1_bytes v1_length x7 x8 z1_filled x9 x10 a1_bytes cyB f1_bytes)) hD hS hA [1, 2] rfl
    refine va_callv (va_runV (As := [.int 44]) (rest := []) ⟨hx, hb, hml, hown, hts⟩ (ck_X8_needs l dC dI cyB cyI cyJ cyP a1 a1_bytes H.size (z1_filled) v1_length f1_bytes x7 x8 x9 x10 44 hw) (cwV 1 hts gX4_readPair_X8_needs rfl rfl rfl (by decide +kernel) ⟨(by first | exact Nat.le_of_ble_eq_true rfl | (simp only [headSpec]; omega) | omega), (by first | exact Nat.le_of_ble_eq_true rfl | (simp only [headSpec]; omega) | omega)⟩) ⟨cPc_blind, va_recv hK hPc (ci := 8) (q0 := 0) rfl rfl, cPc_pre hPc hK hDc hNw⟩ rfl rfl hl.1 rfl (lv_room (Nat.le_of_ble_eq_true rfl)) dX4_readPair_29 ⟨(by first | exact Nat.le_of_ble_eq_true rfl | (simp only [headSpec]; omega) | omega), (by first | exact Nat.le_of_ble_eq_true rfl | (simp only [headSpec]; omega) | omega)⟩) hS (fun q _ h => hFc q h) hFc (fun u t H1 locs ht hvm hw hB hz1 hk1 hS => ?_)
    obtain ⟨x14, x15, x16, x17⟩ := u
    obtain ⟨hP1, hK1, hD1⟩ := hB
    rw [ht] at hP1
    obtain ⟨hP, hD⟩ := va_join (wr := (wd14_7 a0 a0_kinds a0_values z0_pile z0_facts x13 a0_kinds cyI f11 a0_values cyI f12)) (w1 := (wd14_4 a1 a1_bytes v1_length x14 x15 z1_filled x16 x17 a1_bytes cyB f1_bytes)) hP hD [1, 2] [0, 3, 4] rfl rfl (by decide) (by decide) hk1 hFc hP1 hD1
    have hP : va_P (dC, dI) vwCl (wd14_6 a0 a0_kinds a0_values z0_pile z0_facts x13 a1 a1_bytes v1_length x14 x15 z1_filled x16 x17 a1_bytes cyB f1_bytes a0_kinds cyI f11 a0_values cyI f12) H1 := hP.sub [0, 3, 4, 1, 2] rfl
    have hD : va_D A (wd14_6 a0 a0_kinds a0_values z0_pile z0_facts x13 a1 a1_bytes v1_length x14 x15 z1_filled x16 x17 a1_bytes cyB f1_bytes a0_kinds cyI f11 a0_values cyI f12) := hD.sub [0, 3, 4, 1, 2] (by decide) rfl
    generalize H1 = H at hP hS ⊢
    refine lv_aload_n hx hb dX4_readPair_32 rfl (lv_at hl 0 rfl) ?_
    refine lv_aload_n hx hb dX4_readPair_33 rfl (lv_at hl 1 rfl) ?_
    refine lv_iload_n hx hb dX4_readPair_34 rfl (lv_at hl 2 rfl) ?_
    refine lv_iconst (v := 1) hx hb dX4_readPair_35 (by decide) ?_
    refine lv_iadd hx hb dX4_readPair_36 ?_
    refine lv_topi (fun x18 ex18 => ?_)
    have hw := hw x18 ex18
    have hPc := hP.sub (ws' := (wd14_6 a0 a0_kinds a0_values z0_pile z0_facts x13 a1 a1_bytes v1_length x14 x15 z1_filled x16 x17 a1_bytes cyB f1_bytes a0_kinds cyI f11 a0_values cyI f12)) [0, 1, 2, 3, 4] rfl
    have hDc := hD.sub (ws' := (wd14_6 a0 a0_kinds a0_values z0_pile z0_facts x13 a1 a1_bytes v1_length x14 x15 z1_filled x16 x17 a1_bytes cyB f1_bytes a0_kinds cyI f11 a0_values cyI f12)) [0, 1, 2, 3, 4] (by decide) rfl
    have hFc := va_free (wc := (wd14_6 a0 a0_kinds a0_values z0_pile z0_facts x13 a1 a1_bytes v1_length x14 x15 z1_filled x16 x17 a1_bytes cyB f1_bytes a0_kinds cyI f11 a0_values cyI f12)) hD hS hA [0, 1, 2, 3, 4] rfl
    refine va_callv (va_runV (As := [.ref a1, .int x18]) (rest := []) ⟨hx, hb, hml, hown, hts⟩ (hRw l dC dI cyB cyI cyJ cyP a0 a1 a1_bytes a0_kinds a0_values H.size (z0_pile) (z0_facts) (z1_filled) v1_length f1_bytes x14 x15 x16 x17 f11 f12 x13 x18 hw) (cwV 2 hts gX4_readPair_X4_readSum rfl rfl rfl (by decide +kernel) ⟨(by first | exact Nat.le_of_ble_eq_true rfl | (simp only [headSpec]; omega) | omega), (by first | exact Nat.le_of_ble_eq_true rfl | (simp only [headSpec]; omega) | omega)⟩) ⟨cPs_blind zE_G, va_recv hK hPc (ci := 4) (q0 := 0) rfl rfl, cPs_pre zE_G hPc hK hDc hNw hY hE hS hFc⟩ rfl rfl hl.1 rfl (lv_room (Nat.le_of_ble_eq_true rfl)) dX4_readPair_37 ⟨(by first | exact Nat.le_of_ble_eq_true rfl | (simp only [headSpec]; omega) | omega), (by first | exact Nat.le_of_ble_eq_true rfl | (simp only [headSpec]; omega) | omega)⟩) hS (fun q _ h => hFc q h) hFc (fun u t H1 locs ht hvm hw hB hz1 hk1 hS => ?_)
    obtain ⟨x19, x20, x21, x22, f23, f24, x25⟩ := u
    obtain ⟨hP1, hK1, hD1⟩ := hB
    rw [ht] at hP1
    obtain ⟨hP, hD⟩ := va_join (wr := []) (w1 := (wd14_6 a0 a0_kinds a0_values z0_pile z0_facts x25 a1 a1_bytes v1_length x19 x20 z1_filled x21 x22 a1_bytes cyB f1_bytes a0_kinds cyI f23 a0_values cyI f24)) hP hD [0, 1, 2, 3, 4] [] rfl rfl (by decide) (by decide) hk1 hFc hP1 hD1
    have hP : va_P (dC, dI) vwCl (wd14_6 a0 a0_kinds a0_values z0_pile z0_facts x25 a1 a1_bytes v1_length x19 x20 z1_filled x21 x22 a1_bytes cyB f1_bytes a0_kinds cyI f23 a0_values cyI f24) H1 := hP
    have hD : va_D A (wd14_6 a0 a0_kinds a0_values z0_pile z0_facts x25 a1 a1_bytes v1_length x19 x20 z1_filled x21 x22 a1_bytes cyB f1_bytes a0_kinds cyI f23 a0_values cyI f24) := hD
    generalize H1 = H at hP hS ⊢
    refine lv_aload_n hx hb dX4_readPair_40 rfl (lv_at hl 1 rfl) ?_
    refine lv_bipush (v := 93) hx hb dX4_readPair_41 (by decide) ?_
    have hPc := hP.sub (ws' := (wd14_4 a1 a1_bytes v1_length x19 x20 z1_filled x21 x22 a1_bytes cyB f1_bytes)) [1, 2] rfl
    have hDc := hD.sub (ws' := (wd14_4 a1 a1_bytes v1_length x19 x20 z1_filled x21 x22 a1_bytes cyB f1_bytes)) [1, 2] (by decide) rfl
    have hFc := va_free (wc := (wd14_4 a1 a1_bytes v1_length x19 x20 z1_filled x21 x22 a1_bytes cyB f1_bytes)) hD hS hA [1, 2] rfl
    refine va_callv (va_runV (As := [.int 93]) (rest := []) ⟨hx, hb, hml, hown, hts⟩ (ck_X8_needs l dC dI cyB cyI cyJ cyP a1 a1_bytes H.size (z1_filled) v1_length f1_bytes x19 x20 x21 x22 93 hw) (cwV 1 hts gX4_readPair_X8_needs rfl rfl rfl (by decide +kernel) ⟨(by first | exact Nat.le_of_ble_eq_true rfl | (simp only [headSpec]; omega) | omega), (by first | exact Nat.le_of_ble_eq_true rfl | (simp only [headSpec]; omega) | omega)⟩) ⟨cPc_blind, va_recv hK hPc (ci := 8) (q0 := 0) rfl rfl, cPc_pre hPc hK hDc hNw⟩ rfl rfl hl.1 rfl (lv_room (Nat.le_of_ble_eq_true rfl)) dX4_readPair_43 ⟨(by first | exact Nat.le_of_ble_eq_true rfl | (simp only [headSpec]; omega) | omega), (by first | exact Nat.le_of_ble_eq_true rfl | (simp only [headSpec]; omega) | omega)⟩) hS (fun q _ h => hFc q h) hFc (fun u t H1 locs ht hvm hw hB hz1 hk1 hS => ?_)
    obtain ⟨x26, x27, x28, x29⟩ := u
    obtain ⟨hP1, hK1, hD1⟩ := hB
    rw [ht] at hP1
    obtain ⟨hP, hD⟩ := va_join (wr := (wd14_7 a0 a0_kinds a0_values z0_pile z0_facts x25 a0_kinds cyI f23 a0_values cyI f24)) (w1 := (wd14_4 a1 a1_bytes v1_length x26 x27 z1_filled x28 x29 a1_bytes cyB f1_bytes)) hP hD [1, 2] [0, 3, 4] rfl rfl (by decide) (by decide) hk1 hFc hP1 hD1
    have hP : va_P (dC, dI) vwCl (wd14_6 a0 a0_kinds a0_values z0_pile z0_facts x25 a1 a1_bytes v1_length x26 x27 z1_filled x28 x29 a1_bytes cyB f1_bytes a0_kinds cyI f23 a0_values cyI f24) H1 := hP.sub [0, 3, 4, 1, 2] rfl
    have hD : va_D A (wd14_6 a0 a0_kinds a0_values z0_pile z0_facts x25 a1 a1_bytes v1_length x26 x27 z1_filled x28 x29 a1_bytes cyB f1_bytes a0_kinds cyI f23 a0_values cyI f24) := hD.sub [0, 3, 4, 1, 2] (by decide) rfl
    generalize H1 = H at hP hS ⊢
    refine lv_aload_n hx hb dX4_readPair_46 rfl (lv_at hl 0 rfl) ?_
    refine lv_iload_n hx hb dX4_readPair_47 rfl (lv_at hl 3 rfl) ?_
    refine lv_iconst (v := 0) hx hb dX4_readPair_48 (by decide) ?_
    have hPc := hP.sub (ws' := (wd14_7 a0 a0_kinds a0_values z0_pile z0_facts x25 a0_kinds cyI f23 a0_values cyI f24)) [0, 3, 4] rfl
    have hDc := hD.sub (ws' := (wd14_7 a0 a0_kinds a0_values z0_pile z0_facts x25 a0_kinds cyI f23 a0_values cyI f24)) [0, 3, 4] (by decide) rfl
    have hFc := va_free (wc := (wd14_7 a0 a0_kinds a0_values z0_pile z0_facts x25 a0_kinds cyI f23 a0_values cyI f24)) hD hS hA [0, 3, 4] rfl
    refine va_callv (va_runV (As := [.int p3, .int 0]) (rest := []) ⟨hx, hb, hml, hown, hts⟩ (ck_X4_add l dC dI cyB cyI cyJ cyP a0 a0_kinds a0_values H.size (z0_pile) (z0_facts)  f23 f24 x25 p3 0 hw) (cwV 2 hts gX4_readPair_X4_add rfl rfl rfl (by decide +kernel) ⟨(by first | exact Nat.le_of_ble_eq_true rfl | (simp only [headSpec]; omega) | omega), (by first | exact Nat.le_of_ble_eq_true rfl | (simp only [headSpec]; omega) | omega)⟩) ⟨cPc_blind, va_recv hK hPc (ci := 4) (q0 := 0) rfl rfl, cPc_pre hPc hK hDc hNw⟩ rfl rfl hl.1 rfl (lv_room (Nat.le_of_ble_eq_true rfl)) dX4_readPair_49 ⟨(by first | exact Nat.le_of_ble_eq_true rfl | (simp only [headSpec]; omega) | omega), (by first | exact Nat.le_of_ble_eq_true rfl | (simp only [headSpec]; omega) | omega)⟩) hS (fun q _ h => hFc q h) hFc (fun u t H1 locs ht hvm hw hB hz1 hk1 hS => ?_)
    obtain ⟨f30, f31, x32⟩ := u
    obtain ⟨hP1, hK1, hD1⟩ := hB
    rw [ht] at hP1
    obtain ⟨hP, hD⟩ := va_join (wr := (wd14_4 a1 a1_bytes v1_length x26 x27 z1_filled x28 x29 a1_bytes cyB f1_bytes)) (w1 := (wd14_7 a0 a0_kinds a0_values z0_pile z0_facts x32 a0_kinds cyI f30 a0_values cyI f31)) hP hD [0, 3, 4] [1, 2] rfl rfl (by decide) (by decide) hk1 hFc hP1 hD1
    have hP : va_P (dC, dI) vwCl (wd14_6 a0 a0_kinds a0_values z0_pile z0_facts x32 a1 a1_bytes v1_length x26 x27 z1_filled x28 x29 a1_bytes cyB f1_bytes a0_kinds cyI f30 a0_values cyI f31) H1 := hP.sub [2, 0, 1, 3, 4] rfl
    have hD : va_D A (wd14_6 a0 a0_kinds a0_values z0_pile z0_facts x32 a1 a1_bytes v1_length x26 x27 z1_filled x28 x29 a1_bytes cyB f1_bytes a0_kinds cyI f30 a0_values cyI f31) := hD.sub [2, 0, 1, 3, 4] (by decide) rfl
    generalize H1 = H at hP hS ⊢
    exact ((W.vret hx hb hr (fun t ht hW => ⟨⟨(x26, x27, x28, x29, f30, f31, x32), rfl, hw, by rw [ht]; exact hP, va_K.moved hW.alike hK, hD⟩, hS.F ht⟩) hS.2.2 dX4_readPair_52))
  · have hw := hw.2 c1
    refine lv_aload_n hx hb dX4_readPair_6 rfl (lv_at hl 1 rfl) ?_
    refine lv_iconst (v := 3) hx hb dX4_readPair_7 (by decide) ?_
    have hPc := hP.sub (ws' := (wd14_5 a1 a1_bytes v1_length v1_at v1_token z1_filled v1_fault v1_faultPlace)) [1] rfl
    have hDc := hD.sub (ws' := (wd14_5 a1 a1_bytes v1_length v1_at v1_token z1_filled v1_fault v1_faultPlace)) [1] (by decide) rfl
    have hFc := va_free (wc := (wd14_5 a1 a1_bytes v1_length v1_at v1_token z1_filled v1_fault v1_faultPlace)) hD hS hA [1] rfl
    refine va_callv (va_runV (As := [.int 3]) (rest := []) ⟨hx, hb, hml, hown, hts⟩ (ck_X8_blameToken l dC dI cyB cyI cyJ cyP a1 H.size (.ref a1_bytes) (.int v1_length) (.int v1_at) (z1_filled) v1_token v1_fault v1_faultPlace 3 hw) (cwV 1 hts gX4_readPair_X8_blameToken rfl rfl rfl (by decide +kernel) ⟨(by first | exact Nat.le_of_ble_eq_true rfl | (simp only [headSpec]; omega) | omega), (by first | exact Nat.le_of_ble_eq_true rfl | (simp only [headSpec]; omega) | omega)⟩) ⟨cPc_blind, va_recv hK hPc (ci := 8) (q0 := 0) rfl rfl, cPc_pre hPc hK hDc hNw⟩ rfl rfl hl.1 rfl (lv_room (Nat.le_of_ble_eq_true rfl)) dX4_readPair_8 ⟨(by first | exact Nat.le_of_ble_eq_true rfl | (simp only [headSpec]; omega) | omega), (by first | exact Nat.le_of_ble_eq_true rfl | (simp only [headSpec]; omega) | omega)⟩) hS (fun q _ h => hFc q h) hFc (fun u t H1 locs ht hvm hw hB hz1 hk1 hS => ?_)
    obtain ⟨x33, x34⟩ := u
    obtain ⟨hP1, hK1, hD1⟩ := hB
    rw [ht] at hP1
    obtain ⟨hP, hD⟩ := va_join (wr := (wd14_11 a0 a0_kinds a0_values z0_pile z0_facts v0_length a1_bytes cyB f1_bytes a0_kinds cyI f0_kinds a0_values cyI f0_values)) (w1 := (wd14_5 a1 a1_bytes v1_length v1_at v1_token z1_filled x33 x34)) hP hD [1] [0, 2, 3, 4] rfl rfl (by decide) (by decide) hk1 hFc hP1 hD1
    have hP : va_P (dC, dI) vwCl (wd14_6 a0 a0_kinds a0_values z0_pile z0_facts v0_length a1 a1_bytes v1_length v1_at v1_token z1_filled x33 x34 a1_bytes cyB f1_bytes a0_kinds cyI f0_kinds a0_values cyI f0_values) H1 := hP.sub [0, 4, 1, 2, 3] rfl
    have hD : va_D A (wd14_6 a0 a0_kinds a0_values z0_pile z0_facts v0_length a1 a1_bytes v1_length v1_at v1_token z1_filled x33 x34 a1_bytes cyB f1_bytes a0_kinds cyI f0_kinds a0_values cyI f0_values) := hD.sub [0, 4, 1, 2, 3] (by decide) rfl
    generalize H1 = H at hP hS ⊢
    exact ((W.vret hx hb hr (fun t ht hW => ⟨⟨(v1_at, v1_token, x33, x34, f0_kinds, f0_values, v0_length), rfl, hw, by rw [ht]; exact hP, va_K.moved hW.alike hK, hD⟩, hS.F ht⟩) hS.2.2 dX4_readPair_11))
set_option maxHeartbeats 4000000 in
set_option maxRecDepth 100000 in
theorem ck_X4_readUnit_s_g (RS : Int32 → (Nat → Int32) → Int32 → Int32 → Int32 → Int32 → (Nat → Int32) → (Nat → Int32) → Int32 → Int32 → (Int32 → Int32 → Int32 → Int32 → (Nat → Int32) → (Nat → Int32) → Int32 → Prop) → Prop) (fr lo : Nat) (hfr : 8 ≤ fr) (hlo : 175 ≤ lo) (hRw : ∀ (l : Launch) (dC : Nat → ClassId) (dI : Nat → Nat → Nat) (cyB cyI cyJ cyP : ClassId) (a0 a1 a1_bytes a0_kinds a0_values : Nat) (sz : Nat) (z0_pile : Value) (z0_facts : Value) (z1_filled : Value) (v1_length : Int32) (f1_bytes : Nat → Int32) (v1_at : Int32) (v1_token : Int32) (v1_fault : Int32) (v1_faultPlace : Int32) (f0_kinds : Nat → Int32) (f0_values : Nat → Int32) (v0_length : Int32) (p2 : Int32) {Q : Int32 → Int32 → Int32 → Int32 → (Nat → Int32) → (Nat → Int32) → Int32 → Prop} (hw : RS v1_length f1_bytes v1_at v1_token v1_fault v1_faultPlace f0_kinds f0_values v0_length p2 Q), Met l yX4_readSum wsX4_readSum ({ frames := fr, cells := 0, slots := 0, locals := lo }) (va_Pc [.ref a0, .ref a1, .int p2] (cPs (zE) l (dC, dI) (kT cyB cyI cyJ cyP) (wd14_6 a0 a0_kinds a0_values z0_pile z0_facts v0_length a1 a1_bytes v1_length v1_at v1_token z1_filled v1_fault v1_faultPlace a1_bytes cyB f1_bytes a0_kinds cyI f0_kinds a0_values cyI f0_values) sz)) (va_Qv (fun (u : Int32 × Int32 × Int32 × Int32 × (Nat → Int32) × (Nat → Int32) × Int32) => Q u.1 u.2.1 u.2.2.1 u.2.2.2.1 u.2.2.2.2.1 u.2.2.2.2.2.1 u.2.2.2.2.2.2) (cB (dC, dI) (kT cyB cyI cyJ cyP) (va_A (wd14_6 a0 a0_kinds a0_values z0_pile z0_facts v0_length a1 a1_bytes v1_length v1_at v1_token z1_filled v1_fault v1_faultPlace a1_bytes cyB f1_bytes a0_kinds cyI f0_kinds a0_values cyI f0_values) sz) (fun u : Int32 × Int32 × Int32 × Int32 × (Nat → Int32) × (Nat → Int32) × Int32 => ((wd14_6 a0 a0_kinds a0_values z0_pile z0_facts u.2.2.2.2.2.2 a1 a1_bytes v1_length u.1 u.2.1 z1_filled u.2.2.1 u.2.2.2.1 a1_bytes cyB f1_bytes a0_kinds cyI u.2.2.2.2.1 a0_values cyI u.2.2.2.2.2.1) : va_W))) (va_A (wd14_6 a0 a0_kinds a0_values z0_pile z0_facts v0_length a1 a1_bytes v1_length v1_at v1_token z1_filled v1_fault v1_faultPlace a1_bytes cyB f1_bytes a0_kinds cyI f0_kinds a0_values cyI f0_values) sz)) 0 0 (va_A (wd14_6 a0 a0_kinds a0_values z0_pile z0_facts v0_length a1 a1_bytes v1_length v1_at v1_token z1_filled v1_fault v1_faultPlace a1_bytes cyB f1_bytes a0_kinds cyI f0_kinds a0_values cyI f0_values) sz)) (l : Launch) (dC : Nat → ClassId) (dI : Nat → Nat → Nat) (cyB cyI cyJ cyP : ClassId) (a0 a1 a1_bytes a0_kinds a0_values : Nat) (sz : Nat) (z0_pile : Value) (z0_facts : Value) (z1_filled : Value) (v1_length : Int32) (f1_bytes : Nat → Int32) (v1_at : Int32) (v1_token : Int32) (v1_fault : Int32) (v1_faultPlace : Int32) (f0_kinds : Nat → Int32) (f0_values : Nat → Int32) (v0_length : Int32) (p2 : Int32) {Q : Int32 → Int32 → Int32 → Int32 → (Nat → Int32) → (Nat → Int32) → Int32 → Prop} (hw : wq_X4_readUnit_s_g RS v1_length f1_bytes v1_at v1_token v1_fault v1_faultPlace f0_kinds f0_values v0_length p2 Q) : Met l yX4_readUnit wsX4_readUnit ({ frames := fr + 2, cells := 0, slots := 0, locals := lo + 47 }) (va_Pc [.ref a0, .ref a1, .int p2] (cPs (zE) l (dC, dI) (kT cyB cyI cyJ cyP) (wd14_6 a0 a0_kinds a0_values z0_pile z0_facts v0_length a1 a1_bytes v1_length v1_at v1_token z1_filled v1_fault v1_faultPlace a1_bytes cyB f1_bytes a0_kinds cyI f0_kinds a0_values cyI f0_values) sz)) (va_Qv (fun (u : Int32 × Int32 × Int32 × Int32 × (Nat → Int32) × (Nat → Int32) × Int32) => Q u.1 u.2.1 u.2.2.1 u.2.2.2.1 u.2.2.2.2.1 u.2.2.2.2.2.1 u.2.2.2.2.2.2) (cB (dC, dI) (kT cyB cyI cyJ cyP) (va_A (wd14_6 a0 a0_kinds a0_values z0_pile z0_facts v0_length a1 a1_bytes v1_length v1_at v1_token z1_filled v1_fault v1_faultPlace a1_bytes cyB f1_bytes a0_kinds cyI f0_kinds a0_values cyI f0_values) sz) (fun u : Int32 × Int32 × Int32 × Int32 × (Nat → Int32) × (Nat → Int32) × Int32 => ((wd14_6 a0 a0_kinds a0_values z0_pile z0_facts u.2.2.2.2.2.2 a1 a1_bytes v1_length u.1 u.2.1 z1_filled u.2.2.1 u.2.2.2.1 a1_bytes cyB f1_bytes a0_kinds cyI u.2.2.2.2.1 a0_values cyI u.2.2.2.2.2.1) : va_W))) (va_A (wd14_6 a0 a0_kinds a0_values z0_pile z0_facts v0_length a1 a1_bytes v1_length v1_at v1_token z1_filled v1_fault v1_faultPlace a1_bytes cyB f1_bytes a0_kinds cyI f0_kinds a0_values cyI f0_values) sz)) 0 0 (va_A (wd14_6 a0 a0_kinds a0_values z0_pile z0_facts v0_length a1 a1_bytes v1_length v1_at v1_token z1_filled v1_fault v1_faultPlace a1_bytes cyB f1_bytes a0_kinds cyI f0_kinds a0_values cyI f0_values) sz) := by
  refine Met.ofW (cc := cX4_readUnit) (maxL := 3) (ret := none) (by decide) rfl ?_
  intro p e s m args below meth c s₁ B hml hv
  obtain ⟨rfl, ⟨hsz, hP, hK, hD0, hNw, hXl, hXu, hXn, hXt⟩, hE0⟩ := hv
  have hx := B.exec
  have hb := B.bytes
  have hr := B.returns
  have hts := atoms_spec (ws := wsX4_readUnit) B.pre
  have hown : s.vm.findClass RX4 = some m.cls := findClass_of_methodNamed B.named
  have hlocks := B.notSynchronized
  subst hsz
  have hD := hD0.self (sz := s.heap.size)
  generalize hAe : va_A (wd14_6 a0 a0_kinds a0_values z0_pile z0_facts v0_length a1 a1_bytes v1_length v1_at v1_token z1_filled v1_fault v1_faultPlace a1_bytes cyB f1_bytes a0_kinds cyI f0_kinds a0_values cyI f0_values) s.heap.size = A at hD hXu hXn hE0 ⊢
  have hA : ∀ q : Nat, s.heap.size ≤ q → A q := fun q h => by rw [← hAe]; exact Or.inr h
  have hS : va_S A s.heap s.heap [] := va_S.rf
  have hP : va_P (dC, dI) vwCl (wd14_6 a0 a0_kinds a0_values z0_pile z0_facts v0_length a1 a1_bytes v1_length v1_at v1_token z1_filled v1_fault v1_faultPlace a1_bytes cyB f1_bytes a0_kinds cyI f0_kinds a0_values cyI f0_values) s.heap := hP
  have hl := lv_entry ([.ref a0, .ref a1, .int p2]) (n := 3) ((by first | exact Nat.le_of_ble_eq_true rfl | (simp only [headSpec]; omega) | omega))
  rw [lg_entry_eq]
  generalize (lg_sl ([.ref a0, .ref a1, .int p2]) ++ List.replicate (3 - (lg_sl ([.ref a0, .ref a1, .int p2])).length) Slot.unset).toArray = ls at hl ⊢
  have hl : lv_has ls 3 [(0, .ref a0), (1, .ref a1), (2, .int p2)] := hl
  have hY : cfY l s A := ⟨hXl, hXu, hXn, hXt⟩
  have C0 : cfx p s m _ meth c cX4_readUnit none wsX4_readUnit RX4 3 A (dC, dI) (kT cyB cyI cyJ cyP) ∧ cfY l s A ∧ zE A s s.heap := ⟨⟨hx, hb, hr, hts, hown, hlocks, hml, hA, hK, hNw⟩, hY, hE0⟩
  have hE := hE0
  clear hAe
  obtain ⟨H, hH⟩ : ∃ H, H = s.heap := ⟨_, rfl⟩
  rw [← hH] at hP ⊢
  have hS : va_S A s.heap H [] := by rw [hH]; exact va_S.rf
  have hS := hS
  refine lv_aload_n hx hb dX4_readUnit_0 rfl (lv_at hl 1 rfl) ?_
  have hPc := hP.sub (ws' := (wd14_4 a1 a1_bytes v1_length v1_at v1_token z1_filled v1_fault v1_faultPlace a1_bytes cyB f1_bytes)) [1, 2] rfl
  have hDc := hD.sub (ws' := (wd14_4 a1 a1_bytes v1_length v1_at v1_token z1_filled v1_fault v1_faultPlace a1_bytes cyB f1_bytes)) [1, 2] (by decide) rfl
  have hFc := va_free (wc := (wd14_4 a1 a1_bytes v1_length v1_at v1_token z1_filled v1_fault v1_faultPlace a1_bytes cyB f1_bytes)) hD hS hA [1, 2] rfl
  refine va_calli (va_runV (As := []) (rest := []) ⟨hx, hb, hml, hown, hts⟩ (ck_X8_seesDigit l dC dI cyB cyI cyJ cyP a1 a1_bytes H.size (.int v1_token) (z1_filled) (.int v1_fault) (.int v1_faultPlace) v1_length f1_bytes v1_at  hw) (cwV 0 hts gX4_readUnit_X8_seesDigit rfl rfl rfl (by decide +kernel) ⟨(by first | exact Nat.le_of_ble_eq_true rfl | (simp only [headSpec]; omega) | omega), (by first | exact Nat.le_of_ble_eq_true rfl | (simp only [headSpec]; omega) | omega)⟩) ⟨cPc_blind, va_recv hK hPc (ci := 8) (q0 := 0) rfl rfl, cPc_pre hPc hK hDc hNw⟩ rfl rfl hl.1 rfl (lv_room (Nat.le_of_ble_eq_true rfl)) dX4_readUnit_1 ⟨(by first | exact Nat.le_of_ble_eq_true rfl | (simp only [headSpec]; omega) | omega), (by first | exact Nat.le_of_ble_eq_true rfl | (simp only [headSpec]; omega) | omega)⟩) hS (fun q _ h => hFc q h) hFc (fun r2 u t H1 locs ht hvm hw hB hz1 hk1 hS => ?_)
  obtain ⟨x1, rfl⟩ : ∃ z, z = u := ⟨_, rfl⟩
  obtain ⟨hP1, hK1, hD1⟩ := hB
  rw [ht] at hP1
  obtain ⟨hP, hD⟩ := va_join (wr := (wd14_7 a0 a0_kinds a0_values z0_pile z0_facts v0_length a0_kinds cyI f0_kinds a0_values cyI f0_values)) (w1 := (wd14_4 a1 a1_bytes v1_length x1 v1_token z1_filled v1_fault v1_faultPlace a1_bytes cyB f1_bytes)) hP hD [1, 2] [0, 3, 4] rfl rfl (by decide) (by decide) hk1 hFc hP1 hD1
  have hP : va_P (dC, dI) vwCl (wd14_6 a0 a0_kinds a0_values z0_pile z0_facts v0_length a1 a1_bytes v1_length x1 v1_token z1_filled v1_fault v1_faultPlace a1_bytes cyB f1_bytes a0_kinds cyI f0_kinds a0_values cyI f0_values) H1 := hP.sub [0, 3, 4, 1, 2] rfl
  have hD : va_D A (wd14_6 a0 a0_kinds a0_values z0_pile z0_facts v0_length a1 a1_bytes v1_length x1 v1_token z1_filled v1_fault v1_faultPlace a1_bytes cyB f1_bytes a0_kinds cyI f0_kinds a0_values cyI f0_values) := hD.sub [0, 3, 4, 1, 2] (by decide) rfl
  generalize H1 = H at hP hS ⊢
  refine lv_if_eq (tgt := 23) hx hb dX4_readUnit_4 (by decide) (fun c3 => ?_) (fun c3 => ?_)
  · have hw := hw.1 c3
    refine lv_aload_n hx hb dX4_readUnit_23 rfl (lv_at hl 1 rfl) ?_
    refine lv_bipush (v := 40) hx hb dX4_readUnit_24 (by decide) ?_
    have hPc := hP.sub (ws' := (wd14_4 a1 a1_bytes v1_length x1 v1_token z1_filled v1_fault v1_faultPlace a1_bytes cyB f1_bytes)) [1, 2] rfl
    have hDc := hD.sub (ws' := (wd14_4 a1 a1_bytes v1_length x1 v1_token z1_filled v1_fault v1_faultPlace a1_bytes cyB f1_bytes)) [1, 2] (by decide) rfl
    have hFc := va_free (wc := (wd14_4 a1 a1_bytes v1_length x1 v1_token z1_filled v1_fault v1_faultPlace a1_bytes cyB f1_bytes)) hD hS hA [1, 2] rfl
    refine va_calli (va_runV (As := [.int 40]) (rest := []) ⟨hx, hb, hml, hown, hts⟩ (ck_X8_takes l dC dI cyB cyI cyJ cyP a1 a1_bytes H.size (z1_filled) (.int v1_faultPlace) v1_length v1_fault f1_bytes x1 v1_token 40 hw) (cwV 1 hts gX4_readUnit_X8_takes rfl rfl rfl (by decide +kernel) ⟨(by first | exact Nat.le_of_ble_eq_true rfl | (simp only [headSpec]; omega) | omega), (by first | exact Nat.le_of_ble_eq_true rfl | (simp only [headSpec]; omega) | omega)⟩) ⟨cPc_blind, va_recv hK hPc (ci := 8) (q0 := 0) rfl rfl, cPc_pre hPc hK hDc hNw⟩ rfl rfl hl.1 rfl (lv_room (Nat.le_of_ble_eq_true rfl)) dX4_readUnit_26 ⟨(by first | exact Nat.le_of_ble_eq_true rfl | (simp only [headSpec]; omega) | omega), (by first | exact Nat.le_of_ble_eq_true rfl | (simp only [headSpec]; omega) | omega)⟩) hS (fun q _ h => hFc q h) hFc (fun r6 u t H1 locs ht hvm hw hB hz1 hk1 hS => ?_)
    obtain ⟨x4, x5⟩ := u
    obtain ⟨hP1, hK1, hD1⟩ := hB
    rw [ht] at hP1
    obtain ⟨hP, hD⟩ := va_join (wr := (wd14_7 a0 a0_kinds a0_values z0_pile z0_facts v0_length a0_kinds cyI f0_kinds a0_values cyI f0_values)) (w1 := (wd14_4 a1 a1_bytes v1_length x4 x5 z1_filled v1_fault v1_faultPlace a1_bytes cyB f1_bytes)) hP hD [1, 2] [0, 3, 4] rfl rfl (by decide) (by decide) hk1 hFc hP1 hD1
    have hP : va_P (dC, dI) vwCl (wd14_6 a0 a0_kinds a0_values z0_pile z0_facts v0_length a1 a1_bytes v1_length x4 x5 z1_filled v1_fault v1_faultPlace a1_bytes cyB f1_bytes a0_kinds cyI f0_kinds a0_values cyI f0_values) H1 := hP.sub [0, 3, 4, 1, 2] rfl
    have hD : va_D A (wd14_6 a0 a0_kinds a0_values z0_pile z0_facts v0_length a1 a1_bytes v1_length x4 x5 z1_filled v1_fault v1_faultPlace a1_bytes cyB f1_bytes a0_kinds cyI f0_kinds a0_values cyI f0_values) := hD.sub [0, 3, 4, 1, 2] (by decide) rfl
    generalize H1 = H at hP hS ⊢
    refine lv_if_eq (tgt := 41) hx hb dX4_readUnit_29 (by decide) (fun c7 => ?_) (fun c7 => ?_)
    · have hw := hw.1 c7
      refine lv_aload_n hx hb dX4_readUnit_41 rfl (lv_at hl 1 rfl) ?_
      obtain ⟨k8, hRk8, hZk8⟩ := zE_X4_68 hE
      refine va_ldcS hx hb hown hRk8 dX4_readUnit_42 ?_
      have hPc := hP.sub (ws' := (wd14_4 a1 a1_bytes v1_length x4 x5 z1_filled v1_fault v1_faultPlace a1_bytes cyB f1_bytes)) [1, 2] rfl
      have hDc := hD.sub (ws' := (wd14_4 a1 a1_bytes v1_length x4 x5 z1_filled v1_fault v1_faultPlace a1_bytes cyB f1_bytes)) [1, 2] (by decide) rfl
      have hFc := va_free (wc := (wd14_4 a1 a1_bytes v1_length x4 x5 z1_filled v1_fault v1_faultPlace a1_bytes cyB f1_bytes)) hD hS hA [1, 2] rfl
      refine va_calli (va_runV (As := [.ref k8]) (rest := []) ⟨hx, hb, hml, hown, hts⟩ (ck_X8_takesWord_s l dC dI cyB cyI cyJ cyP a1 k8 a1_bytes H.size (z1_filled) (.int v1_faultPlace) 5 zb_X4_68 v1_length v1_fault f1_bytes x4 x5  hw) (cwV 1 hts gX4_readUnit_X8_takesWord rfl rfl rfl (by decide +kernel) ⟨(by first | exact Nat.le_of_ble_eq_true rfl | (simp only [headSpec]; omega) | omega), (by first | exact Nat.le_of_ble_eq_true rfl | (simp only [headSpec]; omega) | omega)⟩) ⟨cPs_blind zP_G, va_recv hK hPc (ci := 8) (q0 := 0) rfl rfl, cPs_pre zP_G hPc hK hDc hNw hY ⟨hE, hZk8⟩ hS hFc⟩ rfl rfl hl.1 rfl (lv_room (Nat.le_of_ble_eq_true rfl)) dX4_readUnit_44 ⟨(by first | exact Nat.le_of_ble_eq_true rfl | (simp only [headSpec]; omega) | omega), (by first | exact Nat.le_of_ble_eq_true rfl | (simp only [headSpec]; omega) | omega)⟩) hS (fun q _ h => hFc q h) hFc (fun r11 u t H1 locs ht hvm hw hB hz1 hk1 hS => ?_)
      obtain ⟨x9, x10⟩ := u
      obtain ⟨hP1, hK1, hD1⟩ := hB
      rw [ht] at hP1
      obtain ⟨hP, hD⟩ := va_join (wr := (wd14_7 a0 a0_kinds a0_values z0_pile z0_facts v0_length a0_kinds cyI f0_kinds a0_values cyI f0_values)) (w1 := (wd14_4 a1 a1_bytes v1_length x9 x10 z1_filled v1_fault v1_faultPlace a1_bytes cyB f1_bytes)) hP hD [1, 2] [0, 3, 4] rfl rfl (by decide) (by decide) hk1 hFc hP1 hD1
      have hP : va_P (dC, dI) vwCl (wd14_6 a0 a0_kinds a0_values z0_pile z0_facts v0_length a1 a1_bytes v1_length x9 x10 z1_filled v1_fault v1_faultPlace a1_bytes cyB f1_bytes a0_kinds cyI f0_kinds a0_values cyI f0_values) H1 := hP.sub [0, 3, 4, 1, 2] rfl
      have hD : va_D A (wd14_6 a0 a0_kinds a0_values z0_pile z0_facts v0_length a1 a1_bytes v1_length x9 x10 z1_filled v1_fault v1_faultPlace a1_bytes cyB f1_bytes a0_kinds cyI f0_kinds a0_values cyI f0_values) := hD.sub [0, 3, 4, 1, 2] (by decide) rfl
      generalize H1 = H at hP hS ⊢
      refine lv_if_eq (tgt := 61) hx hb dX4_readUnit_47 (by decide) (fun c12 => ?_) (fun c12 => ?_)
      · have hw := hw.1 c12
        refine lv_aload_n hx hb dX4_readUnit_61 rfl (lv_at hl 1 rfl) ?_
        obtain ⟨k13, hRk13, hZk13⟩ := zE_X4_78 hE
        refine va_ldcS hx hb hown hRk13 dX4_readUnit_62 ?_
        have hPc := hP.sub (ws' := (wd14_4 a1 a1_bytes v1_length x9 x10 z1_filled v1_fault v1_faultPlace a1_bytes cyB f1_bytes)) [1, 2] rfl
        have hDc := hD.sub (ws' := (wd14_4 a1 a1_bytes v1_length x9 x10 z1_filled v1_fault v1_faultPlace a1_bytes cyB f1_bytes)) [1, 2] (by decide) rfl
        have hFc := va_free (wc := (wd14_4 a1 a1_bytes v1_length x9 x10 z1_filled v1_fault v1_faultPlace a1_bytes cyB f1_bytes)) hD hS hA [1, 2] rfl
        refine va_calli (va_runV (As := [.ref k13]) (rest := []) ⟨hx, hb, hml, hown, hts⟩ (ck_X8_takesWord_s l dC dI cyB cyI cyJ cyP a1 k13 a1_bytes H.size (z1_filled) (.int v1_faultPlace) 4 zb_X4_78 v1_length v1_fault f1_bytes x9 x10  hw) (cwV 1 hts gX4_readUnit_X8_takesWord rfl rfl rfl (by decide +kernel) ⟨(by first | exact Nat.le_of_ble_eq_true rfl | (simp only [headSpec]; omega) | omega), (by first | exact Nat.le_of_ble_eq_true rfl | (simp only [headSpec]; omega) | omega)⟩) ⟨cPs_blind zP_G, va_recv hK hPc (ci := 8) (q0 := 0) rfl rfl, cPs_pre zP_G hPc hK hDc hNw hY ⟨hE, hZk13⟩ hS hFc⟩ rfl rfl hl.1 rfl (lv_room (Nat.le_of_ble_eq_true rfl)) dX4_readUnit_64 ⟨(by first | exact Nat.le_of_ble_eq_true rfl | (simp only [headSpec]; omega) | omega), (by first | exact Nat.le_of_ble_eq_true rfl | (simp only [headSpec]; omega) | omega)⟩) hS (fun q _ h => hFc q h) hFc (fun r16 u t H1 locs ht hvm hw hB hz1 hk1 hS => ?_)
        obtain ⟨x14, x15⟩ := u
        obtain ⟨hP1, hK1, hD1⟩ := hB
        rw [ht] at hP1
        obtain ⟨hP, hD⟩ := va_join (wr := (wd14_7 a0 a0_kinds a0_values z0_pile z0_facts v0_length a0_kinds cyI f0_kinds a0_values cyI f0_values)) (w1 := (wd14_4 a1 a1_bytes v1_length x14 x15 z1_filled v1_fault v1_faultPlace a1_bytes cyB f1_bytes)) hP hD [1, 2] [0, 3, 4] rfl rfl (by decide) (by decide) hk1 hFc hP1 hD1
        have hP : va_P (dC, dI) vwCl (wd14_6 a0 a0_kinds a0_values z0_pile z0_facts v0_length a1 a1_bytes v1_length x14 x15 z1_filled v1_fault v1_faultPlace a1_bytes cyB f1_bytes a0_kinds cyI f0_kinds a0_values cyI f0_values) H1 := hP.sub [0, 3, 4, 1, 2] rfl
        have hD : va_D A (wd14_6 a0 a0_kinds a0_values z0_pile z0_facts v0_length a1 a1_bytes v1_length x14 x15 z1_filled v1_fault v1_faultPlace a1_bytes cyB f1_bytes a0_kinds cyI f0_kinds a0_values cyI f0_values) := hD.sub [0, 3, 4, 1, 2] (by decide) rfl
        generalize H1 = H at hP hS ⊢
        refine lv_if_eq (tgt := 81) hx hb dX4_readUnit_67 (by decide) (fun c17 => ?_) (fun c17 => ?_)
        · have hw := hw.1 c17
          refine lv_aload_n hx hb dX4_readUnit_81 rfl (lv_at hl 0 rfl) ?_
          refine lv_aload_n hx hb dX4_readUnit_82 rfl (lv_at hl 1 rfl) ?_
          have hPc := hP.sub (ws' := (wd14_6 a0 a0_kinds a0_values z0_pile z0_facts v0_length a1 a1_bytes v1_length x14 x15 z1_filled v1_fault v1_faultPlace a1_bytes cyB f1_bytes a0_kinds cyI f0_kinds a0_values cyI f0_values)) [0, 1, 2, 3, 4] rfl
          have hDc := hD.sub (ws' := (wd14_6 a0 a0_kinds a0_values z0_pile z0_facts v0_length a1 a1_bytes v1_length x14 x15 z1_filled v1_fault v1_faultPlace a1_bytes cyB f1_bytes a0_kinds cyI f0_kinds a0_values cyI f0_values)) [0, 1, 2, 3, 4] (by decide) rfl
          have hFc := va_free (wc := (wd14_6 a0 a0_kinds a0_values z0_pile z0_facts v0_length a1 a1_bytes v1_length x14 x15 z1_filled v1_fault v1_faultPlace a1_bytes cyB f1_bytes a0_kinds cyI f0_kinds a0_values cyI f0_values)) hD hS hA [0, 1, 2, 3, 4] rfl
          refine va_callv (va_runV (As := [.ref a1]) (rest := []) ⟨hx, hb, hml, hown, hts⟩ (ck_X4_readFact_s l dC dI cyB cyI cyJ cyP a0 a1 a1_bytes a0_kinds a0_values H.size (z0_pile) (z0_facts) (z1_filled) v1_length f1_bytes x14 x15 v1_fault v1_faultPlace f0_kinds f0_values v0_length  hw) (cwV 1 hts gX4_readUnit_X4_readFact rfl rfl rfl (by decide +kernel) ⟨(by first | exact Nat.le_of_ble_eq_true rfl | (simp only [headSpec]; omega) | omega), (by first | exact Nat.le_of_ble_eq_true rfl | (simp only [headSpec]; omega) | omega)⟩) ⟨cPs_blind zE_G, va_recv hK hPc (ci := 4) (q0 := 0) rfl rfl, cPs_pre zE_G hPc hK hDc hNw hY hE hS hFc⟩ rfl rfl hl.1 rfl (lv_room (Nat.le_of_ble_eq_true rfl)) dX4_readUnit_83 ⟨(by first | exact Nat.le_of_ble_eq_true rfl | (simp only [headSpec]; omega) | omega), (by first | exact Nat.le_of_ble_eq_true rfl | (simp only [headSpec]; omega) | omega)⟩) hS (fun q _ h => hFc q h) hFc (fun u t H1 locs ht hvm hw hB hz1 hk1 hS => ?_)
          obtain ⟨x18, x19, x20, x21, f22, f23, x24⟩ := u
          obtain ⟨hP1, hK1, hD1⟩ := hB
          rw [ht] at hP1
          obtain ⟨hP, hD⟩ := va_join (wr := []) (w1 := (wd14_6 a0 a0_kinds a0_values z0_pile z0_facts x24 a1 a1_bytes v1_length x18 x19 z1_filled x20 x21 a1_bytes cyB f1_bytes a0_kinds cyI f22 a0_values cyI f23)) hP hD [0, 1, 2, 3, 4] [] rfl rfl (by decide) (by decide) hk1 hFc hP1 hD1
          have hP : va_P (dC, dI) vwCl (wd14_6 a0 a0_kinds a0_values z0_pile z0_facts x24 a1 a1_bytes v1_length x18 x19 z1_filled x20 x21 a1_bytes cyB f1_bytes a0_kinds cyI f22 a0_values cyI f23) H1 := hP
          have hD : va_D A (wd14_6 a0 a0_kinds a0_values z0_pile z0_facts x24 a1 a1_bytes v1_length x18 x19 z1_filled x20 x21 a1_bytes cyB f1_bytes a0_kinds cyI f22 a0_values cyI f23) := hD
          generalize H1 = H at hP hS ⊢
          exact ((W.vret hx hb hr (fun t ht hW => ⟨⟨(x18, x19, x20, x21, f22, f23, x24), rfl, hw, by rw [ht]; exact hP, va_K.moved hW.alike hK, hD⟩, hS.F ht⟩) hS.2.2 dX4_readUnit_86))
        · have hw := hw.2 c17
          refine lv_aload_n hx hb dX4_readUnit_70 rfl (lv_at hl 0 rfl) ?_
          refine lv_aload_n hx hb dX4_readUnit_71 rfl (lv_at hl 1 rfl) ?_
          refine lv_iload_n hx hb dX4_readUnit_72 rfl (lv_at hl 2 rfl) ?_
          refine lv_bipush (v := 8) hx hb dX4_readUnit_73 (by decide) ?_
          have hPc := hP.sub (ws' := (wd14_6 a0 a0_kinds a0_values z0_pile z0_facts v0_length a1 a1_bytes v1_length x14 x15 z1_filled v1_fault v1_faultPlace a1_bytes cyB f1_bytes a0_kinds cyI f0_kinds a0_values cyI f0_values)) [0, 1, 2, 3, 4] rfl
          have hDc := hD.sub (ws' := (wd14_6 a0 a0_kinds a0_values z0_pile z0_facts v0_length a1 a1_bytes v1_length x14 x15 z1_filled v1_fault v1_faultPlace a1_bytes cyB f1_bytes a0_kinds cyI f0_kinds a0_values cyI f0_values)) [0, 1, 2, 3, 4] (by decide) rfl
          have hFc := va_free (wc := (wd14_6 a0 a0_kinds a0_values z0_pile z0_facts v0_length a1 a1_bytes v1_length x14 x15 z1_filled v1_fault v1_faultPlace a1_bytes cyB f1_bytes a0_kinds cyI f0_kinds a0_values cyI f0_values)) hD hS hA [0, 1, 2, 3, 4] rfl
          refine va_callv (va_runV (As := [.ref a1, .int p2, .int 8]) (rest := []) ⟨hx, hb, hml, hown, hts⟩ (ck_X4_readPair_s_g RS fr lo hfr hlo hRw l dC dI cyB cyI cyJ cyP a0 a1 a1_bytes a0_kinds a0_values H.size (z0_pile) (z0_facts) (z1_filled) v1_length f1_bytes x14 x15 v1_fault v1_faultPlace f0_kinds f0_values v0_length p2 8 hw) (cwV 3 hts gX4_readUnit_X4_readPair rfl rfl rfl (by decide +kernel) ⟨(by first | exact Nat.le_of_ble_eq_true rfl | (simp only [headSpec]; omega) | omega), (by first | exact Nat.le_of_ble_eq_true rfl | (simp only [headSpec]; omega) | omega)⟩) ⟨cPs_blind zE_G, va_recv hK hPc (ci := 4) (q0 := 0) rfl rfl, cPs_pre zE_G hPc hK hDc hNw hY hE hS hFc⟩ rfl rfl hl.1 rfl (lv_room (Nat.le_of_ble_eq_true rfl)) dX4_readUnit_75 ⟨(by first | exact Nat.le_of_ble_eq_true rfl | (simp only [headSpec]; omega) | omega), (by first | exact Nat.le_of_ble_eq_true rfl | (simp only [headSpec]; omega) | omega)⟩) hS (fun q _ h => hFc q h) hFc (fun u t H1 locs ht hvm hw hB hz1 hk1 hS => ?_)
          obtain ⟨x25, x26, x27, x28, f29, f30, x31⟩ := u
          obtain ⟨hP1, hK1, hD1⟩ := hB
          rw [ht] at hP1
          obtain ⟨hP, hD⟩ := va_join (wr := []) (w1 := (wd14_6 a0 a0_kinds a0_values z0_pile z0_facts x31 a1 a1_bytes v1_length x25 x26 z1_filled x27 x28 a1_bytes cyB f1_bytes a0_kinds cyI f29 a0_values cyI f30)) hP hD [0, 1, 2, 3, 4] [] rfl rfl (by decide) (by decide) hk1 hFc hP1 hD1
          have hP : va_P (dC, dI) vwCl (wd14_6 a0 a0_kinds a0_values z0_pile z0_facts x31 a1 a1_bytes v1_length x25 x26 z1_filled x27 x28 a1_bytes cyB f1_bytes a0_kinds cyI f29 a0_values cyI f30) H1 := hP
          have hD : va_D A (wd14_6 a0 a0_kinds a0_values z0_pile z0_facts x31 a1 a1_bytes v1_length x25 x26 z1_filled x27 x28 a1_bytes cyB f1_bytes a0_kinds cyI f29 a0_values cyI f30) := hD
          generalize H1 = H at hP hS ⊢
          refine lv_goto (tgt := 86) hx hb dX4_readUnit_78 (by decide) ?_
          exact ((W.vret hx hb hr (fun t ht hW => ⟨⟨(x25, x26, x27, x28, f29, f30, x31), rfl, hw, by rw [ht]; exact hP, va_K.moved hW.alike hK, hD⟩, hS.F ht⟩) hS.2.2 dX4_readUnit_86))
      · have hw := hw.2 c12
        refine lv_aload_n hx hb dX4_readUnit_50 rfl (lv_at hl 0 rfl) ?_
        refine lv_aload_n hx hb dX4_readUnit_51 rfl (lv_at hl 1 rfl) ?_
        refine lv_iload_n hx hb dX4_readUnit_52 rfl (lv_at hl 2 rfl) ?_
        refine lv_bipush (v := 7) hx hb dX4_readUnit_53 (by decide) ?_
        have hPc := hP.sub (ws' := (wd14_6 a0 a0_kinds a0_values z0_pile z0_facts v0_length a1 a1_bytes v1_length x9 x10 z1_filled v1_fault v1_faultPlace a1_bytes cyB f1_bytes a0_kinds cyI f0_kinds a0_values cyI f0_values)) [0, 1, 2, 3, 4] rfl
        have hDc := hD.sub (ws' := (wd14_6 a0 a0_kinds a0_values z0_pile z0_facts v0_length a1 a1_bytes v1_length x9 x10 z1_filled v1_fault v1_faultPlace a1_bytes cyB f1_bytes a0_kinds cyI f0_kinds a0_values cyI f0_values)) [0, 1, 2, 3, 4] (by decide) rfl
        have hFc := va_free (wc := (wd14_6 a0 a0_kinds a0_values z0_pile z0_facts v0_length a1 a1_bytes v1_length x9 x10 z1_filled v1_fault v1_faultPlace a1_bytes cyB f1_bytes a0_kinds cyI f0_kinds a0_values cyI f0_values)) hD hS hA [0, 1, 2, 3, 4] rfl
        refine va_callv (va_runV (As := [.ref a1, .int p2, .int 7]) (rest := []) ⟨hx, hb, hml, hown, hts⟩ (ck_X4_readPair_s_g RS fr lo hfr hlo hRw l dC dI cyB cyI cyJ cyP a0 a1 a1_bytes a0_kinds a0_values H.size (z0_pile) (z0_facts) (z1_filled) v1_length f1_bytes x9 x10 v1_fault v1_faultPlace f0_kinds f0_values v0_length p2 7 hw) (cwV 3 hts gX4_readUnit_X4_readPair rfl rfl rfl (by decide +kernel) ⟨(by first | exact Nat.le_of_ble_eq_true rfl | (simp only [headSpec]; omega) | omega), (by first | exact Nat.le_of_ble_eq_true rfl | (simp only [headSpec]; omega) | omega)⟩) ⟨cPs_blind zE_G, va_recv hK hPc (ci := 4) (q0 := 0) rfl rfl, cPs_pre zE_G hPc hK hDc hNw hY hE hS hFc⟩ rfl rfl hl.1 rfl (lv_room (Nat.le_of_ble_eq_true rfl)) dX4_readUnit_55 ⟨(by first | exact Nat.le_of_ble_eq_true rfl | (simp only [headSpec]; omega) | omega), (by first | exact Nat.le_of_ble_eq_true rfl | (simp only [headSpec]; omega) | omega)⟩) hS (fun q _ h => hFc q h) hFc (fun u t H1 locs ht hvm hw hB hz1 hk1 hS => ?_)
        obtain ⟨x32, x33, x34, x35, f36, f37, x38⟩ := u
        obtain ⟨hP1, hK1, hD1⟩ := hB
        rw [ht] at hP1
        obtain ⟨hP, hD⟩ := va_join (wr := []) (w1 := (wd14_6 a0 a0_kinds a0_values z0_pile z0_facts x38 a1 a1_bytes v1_length x32 x33 z1_filled x34 x35 a1_bytes cyB f1_bytes a0_kinds cyI f36 a0_values cyI f37)) hP hD [0, 1, 2, 3, 4] [] rfl rfl (by decide) (by decide) hk1 hFc hP1 hD1
        have hP : va_P (dC, dI) vwCl (wd14_6 a0 a0_kinds a0_values z0_pile z0_facts x38 a1 a1_bytes v1_length x32 x33 z1_filled x34 x35 a1_bytes cyB f1_bytes a0_kinds cyI f36 a0_values cyI f37) H1 := hP
        have hD : va_D A (wd14_6 a0 a0_kinds a0_values z0_pile z0_facts x38 a1 a1_bytes v1_length x32 x33 z1_filled x34 x35 a1_bytes cyB f1_bytes a0_kinds cyI f36 a0_values cyI f37) := hD
        generalize H1 = H at hP hS ⊢
        refine lv_goto (tgt := 86) hx hb dX4_readUnit_58 (by decide) ?_
        exact ((W.vret hx hb hr (fun t ht hW => ⟨⟨(x32, x33, x34, x35, f36, f37, x38), rfl, hw, by rw [ht]; exact hP, va_K.moved hW.alike hK, hD⟩, hS.F ht⟩) hS.2.2 dX4_readUnit_86))
    · have hw := hw.2 c7
      refine lv_aload_n hx hb dX4_readUnit_32 rfl (lv_at hl 0 rfl) ?_
      refine lv_aload_n hx hb dX4_readUnit_33 rfl (lv_at hl 1 rfl) ?_
      refine lv_iload_n hx hb dX4_readUnit_34 rfl (lv_at hl 2 rfl) ?_
      have hPc := hP.sub (ws' := (wd14_6 a0 a0_kinds a0_values z0_pile z0_facts v0_length a1 a1_bytes v1_length x4 x5 z1_filled v1_fault v1_faultPlace a1_bytes cyB f1_bytes a0_kinds cyI f0_kinds a0_values cyI f0_values)) [0, 1, 2, 3, 4] rfl
      have hDc := hD.sub (ws' := (wd14_6 a0 a0_kinds a0_values z0_pile z0_facts v0_length a1 a1_bytes v1_length x4 x5 z1_filled v1_fault v1_faultPlace a1_bytes cyB f1_bytes a0_kinds cyI f0_kinds a0_values cyI f0_values)) [0, 1, 2, 3, 4] (by decide) rfl
      have hFc := va_free (wc := (wd14_6 a0 a0_kinds a0_values z0_pile z0_facts v0_length a1 a1_bytes v1_length x4 x5 z1_filled v1_fault v1_faultPlace a1_bytes cyB f1_bytes a0_kinds cyI f0_kinds a0_values cyI f0_values)) hD hS hA [0, 1, 2, 3, 4] rfl
      refine va_callv (va_runV (As := [.ref a1, .int p2]) (rest := []) ⟨hx, hb, hml, hown, hts⟩ (ck_X4_readInner_s_g RS fr lo hfr hlo hRw l dC dI cyB cyI cyJ cyP a0 a1 a1_bytes a0_kinds a0_values H.size (z0_pile) (z0_facts) (z1_filled) v1_length f1_bytes x4 x5 v1_fault v1_faultPlace f0_kinds f0_values v0_length p2 hw) (cwV 2 hts gX4_readUnit_X4_readInner rfl rfl rfl (by decide +kernel) ⟨(by first | exact Nat.le_of_ble_eq_true rfl | (simp only [headSpec]; omega) | omega), (by first | exact Nat.le_of_ble_eq_true rfl | (simp only [headSpec]; omega) | omega)⟩) ⟨cPs_blind zE_G, va_recv hK hPc (ci := 4) (q0 := 0) rfl rfl, cPs_pre zE_G hPc hK hDc hNw hY hE hS hFc⟩ rfl rfl hl.1 rfl (lv_room (Nat.le_of_ble_eq_true rfl)) dX4_readUnit_35 ⟨(by first | exact Nat.le_of_ble_eq_true rfl | (simp only [headSpec]; omega) | omega), (by first | exact Nat.le_of_ble_eq_true rfl | (simp only [headSpec]; omega) | omega)⟩) hS (fun q _ h => hFc q h) hFc (fun u t H1 locs ht hvm hw hB hz1 hk1 hS => ?_)
      obtain ⟨x39, x40, x41, x42, f43, f44, x45⟩ := u
      obtain ⟨hP1, hK1, hD1⟩ := hB
      rw [ht] at hP1
      obtain ⟨hP, hD⟩ := va_join (wr := []) (w1 := (wd14_6 a0 a0_kinds a0_values z0_pile z0_facts x45 a1 a1_bytes v1_length x39 x40 z1_filled x41 x42 a1_bytes cyB f1_bytes a0_kinds cyI f43 a0_values cyI f44)) hP hD [0, 1, 2, 3, 4] [] rfl rfl (by decide) (by decide) hk1 hFc hP1 hD1
      have hP : va_P (dC, dI) vwCl (wd14_6 a0 a0_kinds a0_values z0_pile z0_facts x45 a1 a1_bytes v1_length x39 x40 z1_filled x41 x42 a1_bytes cyB f1_bytes a0_kinds cyI f43 a0_values cyI f44) H1 := hP
      have hD : va_D A (wd14_6 a0 a0_kinds a0_values z0_pile z0_facts x45 a1 a1_bytes v1_length x39 x40 z1_filled x41 x42 a1_bytes cyB f1_bytes a0_kinds cyI f43 a0_values cyI f44) := hD
      generalize H1 = H at hP hS ⊢
      refine lv_goto (tgt := 86) hx hb dX4_readUnit_38 (by decide) ?_
      exact ((W.vret hx hb hr (fun t ht hW => ⟨⟨(x39, x40, x41, x42, f43, f44, x45), rfl, hw, by rw [ht]; exact hP, va_K.moved hW.alike hK, hD⟩, hS.F ht⟩) hS.2.2 dX4_readUnit_86))
  · have hw := hw.2 c3
    refine lv_aload_n hx hb dX4_readUnit_7 rfl (lv_at hl 0 rfl) ?_
    refine lv_iconst (v := 0) hx hb dX4_readUnit_8 (by decide) ?_
    refine lv_aload_n hx hb dX4_readUnit_9 rfl (lv_at hl 1 rfl) ?_
    refine lv_iconst (v := 0) hx hb dX4_readUnit_10 (by decide) ?_
    refine lv_sipush (v := 999) hx hb dX4_readUnit_11 (by decide) ?_
    have hPc := hP.sub (ws' := (wd14_4 a1 a1_bytes v1_length x1 v1_token z1_filled v1_fault v1_faultPlace a1_bytes cyB f1_bytes)) [1, 2] rfl
    have hDc := hD.sub (ws' := (wd14_4 a1 a1_bytes v1_length x1 v1_token z1_filled v1_fault v1_faultPlace a1_bytes cyB f1_bytes)) [1, 2] (by decide) rfl
    have hFc := va_free (wc := (wd14_4 a1 a1_bytes v1_length x1 v1_token z1_filled v1_fault v1_faultPlace a1_bytes cyB f1_bytes)) hD hS hA [1, 2] rfl
    refine va_calli (va_runV (As := [.int 0, .int 999]) (rest := [.int 0, .ref a0]) ⟨hx, hb, hml, hown, hts⟩ (ck_X8_number l dC dI cyB cyI cyJ cyP a1 a1_bytes H.size (z1_filled) v1_length f1_bytes x1 v1_fault v1_faultPlace v1_token 0 999 hw) (cwV 2 hts gX4_readUnit_X8_number rfl rfl rfl (by decide +kernel) ⟨(by first | exact Nat.le_of_ble_eq_true rfl | (simp only [headSpec]; omega) | omega), (by first | exact Nat.le_of_ble_eq_true rfl | (simp only [headSpec]; omega) | omega)⟩) ⟨cPc_blind, va_recv hK hPc (ci := 8) (q0 := 0) rfl rfl, cPc_pre hPc hK hDc hNw⟩ rfl rfl hl.1 rfl (lv_room (Nat.le_of_ble_eq_true rfl)) dX4_readUnit_14 ⟨(by first | exact Nat.le_of_ble_eq_true rfl | (simp only [headSpec]; omega) | omega), (by first | exact Nat.le_of_ble_eq_true rfl | (simp only [headSpec]; omega) | omega)⟩) hS (fun q _ h => hFc q h) hFc (fun r50 u t H1 locs ht hvm hw hB hz1 hk1 hS => ?_)
    obtain ⟨x46, x47, x48, x49⟩ := u
    obtain ⟨hP1, hK1, hD1⟩ := hB
    rw [ht] at hP1
    obtain ⟨hP, hD⟩ := va_join (wr := (wd14_7 a0 a0_kinds a0_values z0_pile z0_facts v0_length a0_kinds cyI f0_kinds a0_values cyI f0_values)) (w1 := (wd14_4 a1 a1_bytes v1_length x46 x49 z1_filled x47 x48 a1_bytes cyB f1_bytes)) hP hD [1, 2] [0, 3, 4] rfl rfl (by decide) (by decide) hk1 hFc hP1 hD1
    have hP : va_P (dC, dI) vwCl (wd14_6 a0 a0_kinds a0_values z0_pile z0_facts v0_length a1 a1_bytes v1_length x46 x49 z1_filled x47 x48 a1_bytes cyB f1_bytes a0_kinds cyI f0_kinds a0_values cyI f0_values) H1 := hP.sub [0, 3, 4, 1, 2] rfl
    have hD : va_D A (wd14_6 a0 a0_kinds a0_values z0_pile z0_facts v0_length a1 a1_bytes v1_length x46 x49 z1_filled x47 x48 a1_bytes cyB f1_bytes a0_kinds cyI f0_kinds a0_values cyI f0_values) := hD.sub [0, 3, 4, 1, 2] (by decide) rfl
    generalize H1 = H at hP hS ⊢
    have hPc := hP.sub (ws' := (wd14_7 a0 a0_kinds a0_values z0_pile z0_facts v0_length a0_kinds cyI f0_kinds a0_values cyI f0_values)) [0, 3, 4] rfl
    have hDc := hD.sub (ws' := (wd14_7 a0 a0_kinds a0_values z0_pile z0_facts v0_length a0_kinds cyI f0_kinds a0_values cyI f0_values)) [0, 3, 4] (by decide) rfl
    have hFc := va_free (wc := (wd14_7 a0 a0_kinds a0_values z0_pile z0_facts v0_length a0_kinds cyI f0_kinds a0_values cyI f0_values)) hD hS hA [0, 3, 4] rfl
    refine va_callv (va_runV (As := [.int 0, .int r50]) (rest := []) ⟨hx, hb, hml, hown, hts⟩ (ck_X4_add l dC dI cyB cyI cyJ cyP a0 a0_kinds a0_values H.size (z0_pile) (z0_facts)  f0_kinds f0_values v0_length 0 r50 hw) (cwV 2 hts gX4_readUnit_X4_add rfl rfl rfl (by decide +kernel) ⟨(by first | exact Nat.le_of_ble_eq_true rfl | (simp only [headSpec]; omega) | omega), (by first | exact Nat.le_of_ble_eq_true rfl | (simp only [headSpec]; omega) | omega)⟩) ⟨cPc_blind, va_recv hK hPc (ci := 4) (q0 := 0) rfl rfl, cPc_pre hPc hK hDc hNw⟩ rfl rfl hl.1 rfl (lv_room (Nat.le_of_ble_eq_true rfl)) dX4_readUnit_17 ⟨(by first | exact Nat.le_of_ble_eq_true rfl | (simp only [headSpec]; omega) | omega), (by first | exact Nat.le_of_ble_eq_true rfl | (simp only [headSpec]; omega) | omega)⟩) hS (fun q _ h => hFc q h) hFc (fun u t H1 locs ht hvm hw hB hz1 hk1 hS => ?_)
    obtain ⟨f51, f52, x53⟩ := u
    obtain ⟨hP1, hK1, hD1⟩ := hB
    rw [ht] at hP1
    obtain ⟨hP, hD⟩ := va_join (wr := (wd14_4 a1 a1_bytes v1_length x46 x49 z1_filled x47 x48 a1_bytes cyB f1_bytes)) (w1 := (wd14_7 a0 a0_kinds a0_values z0_pile z0_facts x53 a0_kinds cyI f51 a0_values cyI f52)) hP hD [0, 3, 4] [1, 2] rfl rfl (by decide) (by decide) hk1 hFc hP1 hD1
    have hP : va_P (dC, dI) vwCl (wd14_6 a0 a0_kinds a0_values z0_pile z0_facts x53 a1 a1_bytes v1_length x46 x49 z1_filled x47 x48 a1_bytes cyB f1_bytes a0_kinds cyI f51 a0_values cyI f52) H1 := hP.sub [2, 0, 1, 3, 4] rfl
    have hD : va_D A (wd14_6 a0 a0_kinds a0_values z0_pile z0_facts x53 a1 a1_bytes v1_length x46 x49 z1_filled x47 x48 a1_bytes cyB f1_bytes a0_kinds cyI f51 a0_values cyI f52) := hD.sub [2, 0, 1, 3, 4] (by decide) rfl
    generalize H1 = H at hP hS ⊢
    refine lv_goto (tgt := 86) hx hb dX4_readUnit_20 (by decide) ?_
    exact ((W.vret hx hb hr (fun t ht hW => ⟨⟨(x46, x49, x47, x48, f51, f52, x53), rfl, hw, by rw [ht]; exact hP, va_K.moved hW.alike hK, hD⟩, hS.F ht⟩) hS.2.2 dX4_readUnit_86))
set_option maxHeartbeats 4000000 in
set_option maxRecDepth 100000 in
theorem kb_X4_readProduct_s_g_63 (RS : Int32 → (Nat → Int32) → Int32 → Int32 → Int32 → Int32 → (Nat → Int32) → (Nat → Int32) → Int32 → Int32 → (Int32 → Int32 → Int32 → Int32 → (Nat → Int32) → (Nat → Int32) → Int32 → Prop) → Prop) (fr lo : Nat) (hfr : 8 ≤ fr) (hlo : 175 ≤ lo) (hRw : ∀ (l : Launch) (dC : Nat → ClassId) (dI : Nat → Nat → Nat) (cyB cyI cyJ cyP : ClassId) (a0 a1 a1_bytes a0_kinds a0_values : Nat) (sz : Nat) (z0_pile : Value) (z0_facts : Value) (z1_filled : Value) (v1_length : Int32) (f1_bytes : Nat → Int32) (v1_at : Int32) (v1_token : Int32) (v1_fault : Int32) (v1_faultPlace : Int32) (f0_kinds : Nat → Int32) (f0_values : Nat → Int32) (v0_length : Int32) (p2 : Int32) {Q : Int32 → Int32 → Int32 → Int32 → (Nat → Int32) → (Nat → Int32) → Int32 → Prop} (hw : RS v1_length f1_bytes v1_at v1_token v1_fault v1_faultPlace f0_kinds f0_values v0_length p2 Q), Met l yX4_readSum wsX4_readSum ({ frames := fr, cells := 0, slots := 0, locals := lo }) (va_Pc [.ref a0, .ref a1, .int p2] (cPs (zE) l (dC, dI) (kT cyB cyI cyJ cyP) (wd14_6 a0 a0_kinds a0_values z0_pile z0_facts v0_length a1 a1_bytes v1_length v1_at v1_token z1_filled v1_fault v1_faultPlace a1_bytes cyB f1_bytes a0_kinds cyI f0_kinds a0_values cyI f0_values) sz)) (va_Qv (fun (u : Int32 × Int32 × Int32 × Int32 × (Nat → Int32) × (Nat → Int32) × Int32) => Q u.1 u.2.1 u.2.2.1 u.2.2.2.1 u.2.2.2.2.1 u.2.2.2.2.2.1 u.2.2.2.2.2.2) (cB (dC, dI) (kT cyB cyI cyJ cyP) (va_A (wd14_6 a0 a0_kinds a0_values z0_pile z0_facts v0_length a1 a1_bytes v1_length v1_at v1_token z1_filled v1_fault v1_faultPlace a1_bytes cyB f1_bytes a0_kinds cyI f0_kinds a0_values cyI f0_values) sz) (fun u : Int32 × Int32 × Int32 × Int32 × (Nat → Int32) × (Nat → Int32) × Int32 => ((wd14_6 a0 a0_kinds a0_values z0_pile z0_facts u.2.2.2.2.2.2 a1 a1_bytes v1_length u.1 u.2.1 z1_filled u.2.2.1 u.2.2.2.1 a1_bytes cyB f1_bytes a0_kinds cyI u.2.2.2.2.1 a0_values cyI u.2.2.2.2.2.1) : va_W))) (va_A (wd14_6 a0 a0_kinds a0_values z0_pile z0_facts v0_length a1 a1_bytes v1_length v1_at v1_token z1_filled v1_fault v1_faultPlace a1_bytes cyB f1_bytes a0_kinds cyI f0_kinds a0_values cyI f0_values) sz)) 0 0 (va_A (wd14_6 a0 a0_kinds a0_values z0_pile z0_facts v0_length a1 a1_bytes v1_length v1_at v1_token z1_filled v1_fault v1_faultPlace a1_bytes cyB f1_bytes a0_kinds cyI f0_kinds a0_values cyI f0_values) sz)) {p : Program} {l : Launch} {e : Env} {s : State} {m : MethodId} {args : Array Value} {below : List Frame} {meth : Method} {c : Code} {A : Nat → Prop} (dC : Nat → ClassId) (dI : Nat → Nat → Nat) (cyB cyI cyJ cyP : ClassId) (a0 a1 a1_bytes a0_kinds a0_values : Nat) (z0_pile : Value) (z0_facts : Value) (z1_filled : Value) (v1_length : Int32) (f1_bytes : Nat → Int32) (Q : Int32 → Int32 → Int32 → Int32 → (Nat → Int32) → (Nat → Int32) → Int32 → Prop) (K8 : Int32 → Int32 → Int32 → Int32 → (Nat → Int32) → (Nat → Int32) → Int32 → Int32 → Int32 → Prop) (hK8 : ∀ (H : Heap) (locs : List Loc) (ls : Array Slot) (v1_at : Int32) (v1_token : Int32) (v1_fault : Int32) (v1_faultPlace : Int32) (f0_kinds : Nat → Int32) (f0_values : Nat → Int32) (v0_length : Int32) (l2 : Int32) (l3 : Int32), va_P (dC, dI) vwCl (wd14_6 a0 a0_kinds a0_values z0_pile z0_facts v0_length a1 a1_bytes v1_length v1_at v1_token z1_filled v1_fault v1_faultPlace a1_bytes cyB f1_bytes a0_kinds cyI f0_kinds a0_values cyI f0_values) H → va_D A (wd14_6 a0 a0_kinds a0_values z0_pile z0_facts v0_length a1 a1_bytes v1_length v1_at v1_token z1_filled v1_fault v1_faultPlace a1_bytes cyB f1_bytes a0_kinds cyI f0_kinds a0_values cyI f0_values) → va_S A s.heap H locs → lv_has ls 5 [(0, .ref a0), (1, .ref a1), (2, .int l2), (3, .int l3)] → K8 v1_at v1_token v1_fault v1_faultPlace f0_kinds f0_values v0_length l2 l3 → W p l e (headSpec wsX4_readProduct ({ frames := fr + 3, cells := 0, slots := 0, locals := lo + 69 })).room s m args below meth c H locs 0 0 (MQ below (va_Qv (fun (u : Int32 × Int32 × Int32 × Int32 × (Nat → Int32) × (Nat → Int32) × Int32) => Q u.1 u.2.1 u.2.2.1 u.2.2.2.1 u.2.2.2.2.1 u.2.2.2.2.2.1 u.2.2.2.2.2.2) (cB (dC, dI) (kT cyB cyI cyJ cyP) A (fun u : Int32 × Int32 × Int32 × Int32 × (Nat → Int32) × (Nat → Int32) × Int32 => ((wd14_6 a0 a0_kinds a0_values z0_pile z0_facts u.2.2.2.2.2.2 a1 a1_bytes v1_length u.1 u.2.1 z1_filled u.2.2.1 u.2.2.2.1 a1_bytes cyB f1_bytes a0_kinds cyI u.2.2.2.2.1 a0_values cyI u.2.2.2.2.2.1) : va_W))) A) args s 0 0 A) (F0 m 8 ls [])) (C0 : cfx p s m args meth c cX4_readProduct none wsX4_readProduct RX4 5 A (dC, dI) (kT cyB cyI cyJ cyP) ∧ cfY l s A ∧ zE A s s.heap) : ∀ (H : Heap) (locs : List Loc) (ls : Array Slot) (v1_at : Int32) (v1_token : Int32) (v1_fault : Int32) (v1_faultPlace : Int32) (f0_kinds : Nat → Int32) (f0_values : Nat → Int32) (v0_length : Int32) (l2 : Int32) (l3 : Int32) (s0 : Int32), va_P (dC, dI) vwCl (wd14_6 a0 a0_kinds a0_values z0_pile z0_facts v0_length a1 a1_bytes v1_length v1_at v1_token z1_filled v1_fault v1_faultPlace a1_bytes cyB f1_bytes a0_kinds cyI f0_kinds a0_values cyI f0_values) H → va_D A (wd14_6 a0 a0_kinds a0_values z0_pile z0_facts v0_length a1 a1_bytes v1_length v1_at v1_token z1_filled v1_fault v1_faultPlace a1_bytes cyB f1_bytes a0_kinds cyI f0_kinds a0_values cyI f0_values) → va_S A s.heap H locs → lv_has ls 5 [(0, .ref a0), (1, .ref a1), (2, .int l2), (3, .int l3)] → wb_X4_readProduct_s_g_63 RS v1_length f1_bytes Q K8 v1_at v1_token v1_fault v1_faultPlace f0_kinds f0_values v0_length l2 l3 s0 → W p l e (headSpec wsX4_readProduct ({ frames := fr + 3, cells := 0, slots := 0, locals := lo + 69 })).room s m args below meth c H locs 0 0 (MQ below (va_Qv (fun (u : Int32 × Int32 × Int32 × Int32 × (Nat → Int32) × (Nat → Int32) × Int32) => Q u.1 u.2.1 u.2.2.1 u.2.2.2.1 u.2.2.2.2.1 u.2.2.2.2.2.1 u.2.2.2.2.2.2) (cB (dC, dI) (kT cyB cyI cyJ cyP) A (fun u : Int32 × Int32 × Int32 × Int32 × (Nat → Int32) × (Nat → Int32) × Int32 => ((wd14_6 a0 a0_kinds a0_values z0_pile z0_facts u.2.2.2.2.2.2 a1 a1_bytes v1_length u.1 u.2.1 z1_filled u.2.2.1 u.2.2.2.1 a1_bytes cyB f1_bytes a0_kinds cyI u.2.2.2.2.1 a0_values cyI u.2.2.2.2.2.1) : va_W))) A) args s 0 0 A) (F0 m 63 ls [.int s0]) := by
  obtain ⟨⟨hx, hb, hr, hts, hown, hlocks, hml, hA, hK, hNw⟩, hY, hE0⟩ := id C0
  have hE := hE0
  intro H locs ls v1_at v1_token v1_fault v1_faultPlace f0_kinds f0_values v0_length l2 l3 s0 hP hD hS hl hw
  refine lv_istore (lv' := [(4, .int s0), (0, .ref a0), (1, .ref a1), (2, .int l2), (3, .int l3)]) hx hb dX4_readProduct_63 hl (by decide) rfl (fun ls hl => ?_)
  refine lv_iload hx hb dX4_readProduct_65 (lv_at hl 0 rfl) ?_
  refine lv_iconst (v := (-1)) hx hb dX4_readProduct_67 (by decide) ?_
  refine lv_icmp_ne (tgt := 72) hx hb dX4_readProduct_68 (by decide) (fun c23 => ?_) (fun c23 => ?_)
  · have hw := hw.1 c23
    refine lv_aload_n hx hb dX4_readProduct_72 rfl (lv_at hl 1 rfl) ?_
    refine lv_aload_n hx hb dX4_readProduct_73 rfl (lv_at hl 2 rfl) ?_
    refine lv_iload_n hx hb dX4_readProduct_74 rfl (lv_at hl 3 rfl) ?_
    have hPc := hP.sub (ws' := (wd14_6 a0 a0_kinds a0_values z0_pile z0_facts v0_length a1 a1_bytes v1_length v1_at v1_token z1_filled v1_fault v1_faultPlace a1_bytes cyB f1_bytes a0_kinds cyI f0_kinds a0_values cyI f0_values)) [0, 1, 2, 3, 4] rfl
    have hDc := hD.sub (ws' := (wd14_6 a0 a0_kinds a0_values z0_pile z0_facts v0_length a1 a1_bytes v1_length v1_at v1_token z1_filled v1_fault v1_faultPlace a1_bytes cyB f1_bytes a0_kinds cyI f0_kinds a0_values cyI f0_values)) [0, 1, 2, 3, 4] (by decide) rfl
    have hFc := va_free (wc := (wd14_6 a0 a0_kinds a0_values z0_pile z0_facts v0_length a1 a1_bytes v1_length v1_at v1_token z1_filled v1_fault v1_faultPlace a1_bytes cyB f1_bytes a0_kinds cyI f0_kinds a0_values cyI f0_values)) hD hS hA [0, 1, 2, 3, 4] rfl
    refine va_callv (va_runV (As := [.ref a1, .int l2]) (rest := []) ⟨hx, hb, hml, hown, hts⟩ (ck_X4_readUnit_s_g RS fr lo hfr hlo hRw l dC dI cyB cyI cyJ cyP a0 a1 a1_bytes a0_kinds a0_values H.size (z0_pile) (z0_facts) (z1_filled) v1_length f1_bytes v1_at v1_token v1_fault v1_faultPlace f0_kinds f0_values v0_length l2 hw) (cwV 2 hts gX4_readProduct_X4_readUnit rfl rfl rfl (by decide +kernel) ⟨(by first | exact Nat.le_of_ble_eq_true rfl | (simp only [headSpec]; omega) | omega), (by first | exact Nat.le_of_ble_eq_true rfl | (simp only [headSpec]; omega) | omega)⟩) ⟨cPs_blind zE_G, va_recv hK hPc (ci := 4) (q0 := 0) rfl rfl, cPs_pre zE_G hPc hK hDc hNw hY hE hS hFc⟩ rfl rfl hl.1 rfl (lv_room (Nat.le_of_ble_eq_true rfl)) dX4_readProduct_75 ⟨(by first | exact Nat.le_of_ble_eq_true rfl | (simp only [headSpec]; omega) | omega), (by first | exact Nat.le_of_ble_eq_true rfl | (simp only [headSpec]; omega) | omega)⟩) hS (fun q _ h => hFc q h) hFc (fun u t H1 locs ht hvm hw hB hz1 hk1 hS => ?_)
    obtain ⟨x24, x25, x26, x27, f28, f29, x30⟩ := u
    obtain ⟨hP1, hK1, hD1⟩ := hB
    rw [ht] at hP1
    obtain ⟨hP, hD⟩ := va_join (wr := []) (w1 := (wd14_6 a0 a0_kinds a0_values z0_pile z0_facts x30 a1 a1_bytes v1_length x24 x25 z1_filled x26 x27 a1_bytes cyB f1_bytes a0_kinds cyI f28 a0_values cyI f29)) hP hD [0, 1, 2, 3, 4] [] rfl rfl (by decide) (by decide) hk1 hFc hP1 hD1
    have hP : va_P (dC, dI) vwCl (wd14_6 a0 a0_kinds a0_values z0_pile z0_facts x30 a1 a1_bytes v1_length x24 x25 z1_filled x26 x27 a1_bytes cyB f1_bytes a0_kinds cyI f28 a0_values cyI f29) H1 := hP
    have hD : va_D A (wd14_6 a0 a0_kinds a0_values z0_pile z0_facts x30 a1 a1_bytes v1_length x24 x25 z1_filled x26 x27 a1_bytes cyB f1_bytes a0_kinds cyI f28 a0_values cyI f29) := hD
    generalize H1 = H at hP hS ⊢
    refine lv_aload_n hx hb dX4_readProduct_78 rfl (lv_at hl 1 rfl) ?_
    refine lv_iload hx hb dX4_readProduct_79 (lv_at hl 0 rfl) ?_
    refine lv_iconst (v := 0) hx hb dX4_readProduct_81 (by decide) ?_
    have hPc := hP.sub (ws' := (wd14_7 a0 a0_kinds a0_values z0_pile z0_facts x30 a0_kinds cyI f28 a0_values cyI f29)) [0, 3, 4] rfl
    have hDc := hD.sub (ws' := (wd14_7 a0 a0_kinds a0_values z0_pile z0_facts x30 a0_kinds cyI f28 a0_values cyI f29)) [0, 3, 4] (by decide) rfl
    have hFc := va_free (wc := (wd14_7 a0 a0_kinds a0_values z0_pile z0_facts x30 a0_kinds cyI f28 a0_values cyI f29)) hD hS hA [0, 3, 4] rfl
    refine va_callv (va_runV (As := [.int s0, .int 0]) (rest := []) ⟨hx, hb, hml, hown, hts⟩ (ck_X4_add l dC dI cyB cyI cyJ cyP a0 a0_kinds a0_values H.size (z0_pile) (z0_facts)  f28 f29 x30 s0 0 hw) (cwV 2 hts gX4_readProduct_X4_add rfl rfl rfl (by decide +kernel) ⟨(by first | exact Nat.le_of_ble_eq_true rfl | (simp only [headSpec]; omega) | omega), (by first | exact Nat.le_of_ble_eq_true rfl | (simp only [headSpec]; omega) | omega)⟩) ⟨cPc_blind, va_recv hK hPc (ci := 4) (q0 := 0) rfl rfl, cPc_pre hPc hK hDc hNw⟩ rfl rfl hl.1 rfl (lv_room (Nat.le_of_ble_eq_true rfl)) dX4_readProduct_82 ⟨(by first | exact Nat.le_of_ble_eq_true rfl | (simp only [headSpec]; omega) | omega), (by first | exact Nat.le_of_ble_eq_true rfl | (simp only [headSpec]; omega) | omega)⟩) hS (fun q _ h => hFc q h) hFc (fun u t H1 locs ht hvm hw hB hz1 hk1 hS => ?_)
    obtain ⟨f31, f32, x33⟩ := u
    obtain ⟨hP1, hK1, hD1⟩ := hB
    rw [ht] at hP1
    obtain ⟨hP, hD⟩ := va_join (wr := (wd14_4 a1 a1_bytes v1_length x24 x25 z1_filled x26 x27 a1_bytes cyB f1_bytes)) (w1 := (wd14_7 a0 a0_kinds a0_values z0_pile z0_facts x33 a0_kinds cyI f31 a0_values cyI f32)) hP hD [0, 3, 4] [1, 2] rfl rfl (by decide) (by decide) hk1 hFc hP1 hD1
    have hP : va_P (dC, dI) vwCl (wd14_6 a0 a0_kinds a0_values z0_pile z0_facts x33 a1 a1_bytes v1_length x24 x25 z1_filled x26 x27 a1_bytes cyB f1_bytes a0_kinds cyI f31 a0_values cyI f32) H1 := hP.sub [2, 0, 1, 3, 4] rfl
    have hD : va_D A (wd14_6 a0 a0_kinds a0_values z0_pile z0_facts x33 a1 a1_bytes v1_length x24 x25 z1_filled x26 x27 a1_bytes cyB f1_bytes a0_kinds cyI f31 a0_values cyI f32) := hD.sub [2, 0, 1, 3, 4] (by decide) rfl
    generalize H1 = H at hP hS ⊢
    obtain ⟨x34, ex34⟩ : ∃ y : Int32, y = l3 + 1 := ⟨_, rfl⟩
    have hw := hw x34 ex34
    refine lv_iinc (v := x34) (lv' := [(3, .int x34), (4, .int s0), (0, .ref a0), (1, .ref a1), (2, .int l2)]) hx hb dX4_readProduct_85 hl (k := 4) rfl (by rw [ex34]; rfl) (by decide) rfl (fun ls hl => ?_)
    refine lv_goto (tgt := 8) hx hb dX4_readProduct_88 (by decide) ?_
    exact hK8 _ _ _ x24 x25 x26 x27 f31 f32 x33 l2 x34 hP hD hS (lv_sub hl [2, 3, 4, 0] rfl) hw
  · have hw := hw.2 c23
    exact ((W.vret hx hb hr (fun t ht hW => ⟨⟨(v1_at, v1_token, v1_fault, v1_faultPlace, f0_kinds, f0_values, v0_length), rfl, hw, by rw [ht]; exact hP, va_K.moved hW.alike hK, hD⟩, hS.F ht⟩) hS.2.2 dX4_readProduct_71))
set_option maxHeartbeats 4000000 in
set_option maxRecDepth 100000 in
theorem kl_X4_readProduct_s_g_8 (RS : Int32 → (Nat → Int32) → Int32 → Int32 → Int32 → Int32 → (Nat → Int32) → (Nat → Int32) → Int32 → Int32 → (Int32 → Int32 → Int32 → Int32 → (Nat → Int32) → (Nat → Int32) → Int32 → Prop) → Prop) (fr lo : Nat) (hfr : 8 ≤ fr) (hlo : 175 ≤ lo) (hRw : ∀ (l : Launch) (dC : Nat → ClassId) (dI : Nat → Nat → Nat) (cyB cyI cyJ cyP : ClassId) (a0 a1 a1_bytes a0_kinds a0_values : Nat) (sz : Nat) (z0_pile : Value) (z0_facts : Value) (z1_filled : Value) (v1_length : Int32) (f1_bytes : Nat → Int32) (v1_at : Int32) (v1_token : Int32) (v1_fault : Int32) (v1_faultPlace : Int32) (f0_kinds : Nat → Int32) (f0_values : Nat → Int32) (v0_length : Int32) (p2 : Int32) {Q : Int32 → Int32 → Int32 → Int32 → (Nat → Int32) → (Nat → Int32) → Int32 → Prop} (hw : RS v1_length f1_bytes v1_at v1_token v1_fault v1_faultPlace f0_kinds f0_values v0_length p2 Q), Met l yX4_readSum wsX4_readSum ({ frames := fr, cells := 0, slots := 0, locals := lo }) (va_Pc [.ref a0, .ref a1, .int p2] (cPs (zE) l (dC, dI) (kT cyB cyI cyJ cyP) (wd14_6 a0 a0_kinds a0_values z0_pile z0_facts v0_length a1 a1_bytes v1_length v1_at v1_token z1_filled v1_fault v1_faultPlace a1_bytes cyB f1_bytes a0_kinds cyI f0_kinds a0_values cyI f0_values) sz)) (va_Qv (fun (u : Int32 × Int32 × Int32 × Int32 × (Nat → Int32) × (Nat → Int32) × Int32) => Q u.1 u.2.1 u.2.2.1 u.2.2.2.1 u.2.2.2.2.1 u.2.2.2.2.2.1 u.2.2.2.2.2.2) (cB (dC, dI) (kT cyB cyI cyJ cyP) (va_A (wd14_6 a0 a0_kinds a0_values z0_pile z0_facts v0_length a1 a1_bytes v1_length v1_at v1_token z1_filled v1_fault v1_faultPlace a1_bytes cyB f1_bytes a0_kinds cyI f0_kinds a0_values cyI f0_values) sz) (fun u : Int32 × Int32 × Int32 × Int32 × (Nat → Int32) × (Nat → Int32) × Int32 => ((wd14_6 a0 a0_kinds a0_values z0_pile z0_facts u.2.2.2.2.2.2 a1 a1_bytes v1_length u.1 u.2.1 z1_filled u.2.2.1 u.2.2.2.1 a1_bytes cyB f1_bytes a0_kinds cyI u.2.2.2.2.1 a0_values cyI u.2.2.2.2.2.1) : va_W))) (va_A (wd14_6 a0 a0_kinds a0_values z0_pile z0_facts v0_length a1 a1_bytes v1_length v1_at v1_token z1_filled v1_fault v1_faultPlace a1_bytes cyB f1_bytes a0_kinds cyI f0_kinds a0_values cyI f0_values) sz)) 0 0 (va_A (wd14_6 a0 a0_kinds a0_values z0_pile z0_facts v0_length a1 a1_bytes v1_length v1_at v1_token z1_filled v1_fault v1_faultPlace a1_bytes cyB f1_bytes a0_kinds cyI f0_kinds a0_values cyI f0_values) sz)) {p : Program} {l : Launch} {e : Env} {s : State} {m : MethodId} {args : Array Value} {below : List Frame} {meth : Method} {c : Code} {A : Nat → Prop} (dC : Nat → ClassId) (dI : Nat → Nat → Nat) (cyB cyI cyJ cyP : ClassId) (a0 a1 a1_bytes a0_kinds a0_values : Nat) (z0_pile : Value) (z0_facts : Value) (z1_filled : Value) (v1_length : Int32) (f1_bytes : Nat → Int32) (Q : Int32 → Int32 → Int32 → Int32 → (Nat → Int32) → (Nat → Int32) → Int32 → Prop)  (C0 : cfx p s m args meth c cX4_readProduct none wsX4_readProduct RX4 5 A (dC, dI) (kT cyB cyI cyJ cyP) ∧ cfY l s A ∧ zE A s s.heap) : ∀ (n : Nat) (H : Heap) (locs : List Loc) (ls : Array Slot) (v1_at : Int32) (v1_token : Int32) (v1_fault : Int32) (v1_faultPlace : Int32) (f0_kinds : Nat → Int32) (f0_values : Nat → Int32) (v0_length : Int32) (l2 : Int32) (l3 : Int32), va_P (dC, dI) vwCl (wd14_6 a0 a0_kinds a0_values z0_pile z0_facts v0_length a1 a1_bytes v1_length v1_at v1_token z1_filled v1_fault v1_faultPlace a1_bytes cyB f1_bytes a0_kinds cyI f0_kinds a0_values cyI f0_values) H → va_D A (wd14_6 a0 a0_kinds a0_values z0_pile z0_facts v0_length a1 a1_bytes v1_length v1_at v1_token z1_filled v1_fault v1_faultPlace a1_bytes cyB f1_bytes a0_kinds cyI f0_kinds a0_values cyI f0_values) → va_S A s.heap H locs → lv_has ls 5 [(0, .ref a0), (1, .ref a1), (2, .int l2), (3, .int l3)] → wl_X4_readProduct_s_g_8 RS v1_length f1_bytes Q  n v1_at v1_token v1_fault v1_faultPlace f0_kinds f0_values v0_length l2 l3 → W p l e (headSpec wsX4_readProduct ({ frames := fr + 3, cells := 0, slots := 0, locals := lo + 69 })).room s m args below meth c H locs 0 0 (MQ below (va_Qv (fun (u : Int32 × Int32 × Int32 × Int32 × (Nat → Int32) × (Nat → Int32) × Int32) => Q u.1 u.2.1 u.2.2.1 u.2.2.2.1 u.2.2.2.2.1 u.2.2.2.2.2.1 u.2.2.2.2.2.2) (cB (dC, dI) (kT cyB cyI cyJ cyP) A (fun u : Int32 × Int32 × Int32 × Int32 × (Nat → Int32) × (Nat → Int32) × Int32 => ((wd14_6 a0 a0_kinds a0_values z0_pile z0_facts u.2.2.2.2.2.2 a1 a1_bytes v1_length u.1 u.2.1 z1_filled u.2.2.1 u.2.2.2.1 a1_bytes cyB f1_bytes a0_kinds cyI u.2.2.2.2.1 a0_values cyI u.2.2.2.2.2.1) : va_W))) A) args s 0 0 A) (F0 m 8 ls []) := by
  obtain ⟨⟨hx, hb, hr, hts, hown, hlocks, hml, hA, hK, hNw⟩, hY, hE0⟩ := id C0
  have hE := hE0
  intro n
  induction n with
  | zero => intro H locs ls v1_at v1_token v1_fault v1_faultPlace f0_kinds f0_values v0_length l2 l3 hP hD hS hl hw; exact False.elim hw
  | succ n ih =>
    intro H locs ls v1_at v1_token v1_fault v1_faultPlace f0_kinds f0_values v0_length l2 l3 hP hD hS hl hw
    refine lv_iload_n hx hb dX4_readProduct_8 rfl (lv_at hl 3 rfl) ?_
    refine lv_sipush (v := 150) hx hb dX4_readProduct_9 (by decide) ?_
    refine lv_icmp_ge (tgt := 91) hx hb dX4_readProduct_12 (by decide) (fun c8 => ?_) (fun c8 => ?_)
    · have hw := hw.1 c8
      exact ((W.vret hx hb hr (fun t ht hW => ⟨⟨(v1_at, v1_token, v1_fault, v1_faultPlace, f0_kinds, f0_values, v0_length), rfl, hw, by rw [ht]; exact hP, va_K.moved hW.alike hK, hD⟩, hS.F ht⟩) hS.2.2 dX4_readProduct_91))
    · have hw := hw.2 c8
      refine lv_aload_n hx hb dX4_readProduct_15 rfl (lv_at hl 1 rfl) ?_
      have hPc := hP.sub (ws' := (wd14_5 a1 a1_bytes v1_length v1_at v1_token z1_filled v1_fault v1_faultPlace)) [1] rfl
      have hDc := hD.sub (ws' := (wd14_5 a1 a1_bytes v1_length v1_at v1_token z1_filled v1_fault v1_faultPlace)) [1] (by decide) rfl
      have hFc := va_free (wc := (wd14_5 a1 a1_bytes v1_length v1_at v1_token z1_filled v1_fault v1_faultPlace)) hD hS hA [1] rfl
      refine va_calli (va_runV (As := []) (rest := []) ⟨hx, hb, hml, hown, hts⟩ (ck_X8_isFaulty l dC dI cyB cyI cyJ cyP a1 H.size (.ref a1_bytes) (.int v1_length) (.int v1_at) (.int v1_token) (z1_filled) (.int v1_faultPlace) v1_fault   hw) (cwV 0 hts gX4_readProduct_X8_isFaulty rfl rfl rfl (by decide +kernel) ⟨(by first | exact Nat.le_of_ble_eq_true rfl | (simp only [headSpec]; omega) | omega), (by first | exact Nat.le_of_ble_eq_true rfl | (simp only [headSpec]; omega) | omega)⟩) ⟨cPc_blind, va_recv hK hPc (ci := 8) (q0 := 0) rfl rfl, cPc_pre hPc hK hDc hNw⟩ rfl rfl hl.1 rfl (lv_room (Nat.le_of_ble_eq_true rfl)) dX4_readProduct_16 ⟨(by first | exact Nat.le_of_ble_eq_true rfl | (simp only [headSpec]; omega) | omega), (by first | exact Nat.le_of_ble_eq_true rfl | (simp only [headSpec]; omega) | omega)⟩) hS (fun q _ h => hFc q h) hFc (fun r9 u t H1 locs ht hvm hw hB hz1 hk1 hS => ?_)
      obtain ⟨hP1, hK1, hD1⟩ := hB
      rw [ht] at hP1
      obtain ⟨hP, hD⟩ := va_join (wr := (wd14_11 a0 a0_kinds a0_values z0_pile z0_facts v0_length a1_bytes cyB f1_bytes a0_kinds cyI f0_kinds a0_values cyI f0_values)) (w1 := (wd14_5 a1 a1_bytes v1_length v1_at v1_token z1_filled v1_fault v1_faultPlace)) hP hD [1] [0, 2, 3, 4] rfl rfl (by decide) (by decide) hk1 hFc hP1 hD1
      have hP : va_P (dC, dI) vwCl (wd14_6 a0 a0_kinds a0_values z0_pile z0_facts v0_length a1 a1_bytes v1_length v1_at v1_token z1_filled v1_fault v1_faultPlace a1_bytes cyB f1_bytes a0_kinds cyI f0_kinds a0_values cyI f0_values) H1 := hP.sub [0, 4, 1, 2, 3] rfl
      have hD : va_D A (wd14_6 a0 a0_kinds a0_values z0_pile z0_facts v0_length a1 a1_bytes v1_length v1_at v1_token z1_filled v1_fault v1_faultPlace a1_bytes cyB f1_bytes a0_kinds cyI f0_kinds a0_values cyI f0_values) := hD.sub [0, 4, 1, 2, 3] (by decide) rfl
      generalize H1 = H at hP hS ⊢
      refine lv_if_ne (tgt := 91) hx hb dX4_readProduct_19 (by decide) (fun c10 => ?_) (fun c10 => ?_)
      · have hw := hw.1 c10
        exact ((W.vret hx hb hr (fun t ht hW => ⟨⟨(v1_at, v1_token, v1_fault, v1_faultPlace, f0_kinds, f0_values, v0_length), rfl, hw, by rw [ht]; exact hP, va_K.moved hW.alike hK, hD⟩, hS.F ht⟩) hS.2.2 dX4_readProduct_91))
      · have hw := hw.2 c10
        refine lv_aload_n hx hb dX4_readProduct_22 rfl (lv_at hl 1 rfl) ?_
        refine lv_bipush (v := 42) hx hb dX4_readProduct_23 (by decide) ?_
        have hPc := hP.sub (ws' := (wd14_4 a1 a1_bytes v1_length v1_at v1_token z1_filled v1_fault v1_faultPlace a1_bytes cyB f1_bytes)) [1, 2] rfl
        have hDc := hD.sub (ws' := (wd14_4 a1 a1_bytes v1_length v1_at v1_token z1_filled v1_fault v1_faultPlace a1_bytes cyB f1_bytes)) [1, 2] (by decide) rfl
        have hFc := va_free (wc := (wd14_4 a1 a1_bytes v1_length v1_at v1_token z1_filled v1_fault v1_faultPlace a1_bytes cyB f1_bytes)) hD hS hA [1, 2] rfl
        refine va_calli (va_runV (As := [.int 42]) (rest := []) ⟨hx, hb, hml, hown, hts⟩ (ck_X8_takes l dC dI cyB cyI cyJ cyP a1 a1_bytes H.size (z1_filled) (.int v1_faultPlace) v1_length v1_fault f1_bytes v1_at v1_token 42 hw) (cwV 1 hts gX4_readProduct_X8_takes rfl rfl rfl (by decide +kernel) ⟨(by first | exact Nat.le_of_ble_eq_true rfl | (simp only [headSpec]; omega) | omega), (by first | exact Nat.le_of_ble_eq_true rfl | (simp only [headSpec]; omega) | omega)⟩) ⟨cPc_blind, va_recv hK hPc (ci := 8) (q0 := 0) rfl rfl, cPc_pre hPc hK hDc hNw⟩ rfl rfl hl.1 rfl (lv_room (Nat.le_of_ble_eq_true rfl)) dX4_readProduct_25 ⟨(by first | exact Nat.le_of_ble_eq_true rfl | (simp only [headSpec]; omega) | omega), (by first | exact Nat.le_of_ble_eq_true rfl | (simp only [headSpec]; omega) | omega)⟩) hS (fun q _ h => hFc q h) hFc (fun r13 u t H1 locs ht hvm hw hB hz1 hk1 hS => ?_)
        obtain ⟨x11, x12⟩ := u
        obtain ⟨hP1, hK1, hD1⟩ := hB
        rw [ht] at hP1
        obtain ⟨hP, hD⟩ := va_join (wr := (wd14_7 a0 a0_kinds a0_values z0_pile z0_facts v0_length a0_kinds cyI f0_kinds a0_values cyI f0_values)) (w1 := (wd14_4 a1 a1_bytes v1_length x11 x12 z1_filled v1_fault v1_faultPlace a1_bytes cyB f1_bytes)) hP hD [1, 2] [0, 3, 4] rfl rfl (by decide) (by decide) hk1 hFc hP1 hD1
        have hP : va_P (dC, dI) vwCl (wd14_6 a0 a0_kinds a0_values z0_pile z0_facts v0_length a1 a1_bytes v1_length x11 x12 z1_filled v1_fault v1_faultPlace a1_bytes cyB f1_bytes a0_kinds cyI f0_kinds a0_values cyI f0_values) H1 := hP.sub [0, 3, 4, 1, 2] rfl
        have hD : va_D A (wd14_6 a0 a0_kinds a0_values z0_pile z0_facts v0_length a1 a1_bytes v1_length x11 x12 z1_filled v1_fault v1_faultPlace a1_bytes cyB f1_bytes a0_kinds cyI f0_kinds a0_values cyI f0_values) := hD.sub [0, 3, 4, 1, 2] (by decide) rfl
        generalize H1 = H at hP hS ⊢
        refine lv_if_eq (tgt := 35) hx hb dX4_readProduct_28 (by decide) (fun c14 => ?_) (fun c14 => ?_)
        · have hw := hw.1 c14
          refine lv_aload_n hx hb dX4_readProduct_35 rfl (lv_at hl 1 rfl) ?_
          refine lv_bipush (v := 47) hx hb dX4_readProduct_36 (by decide) ?_
          have hPc := hP.sub (ws' := (wd14_4 a1 a1_bytes v1_length x11 x12 z1_filled v1_fault v1_faultPlace a1_bytes cyB f1_bytes)) [1, 2] rfl
          have hDc := hD.sub (ws' := (wd14_4 a1 a1_bytes v1_length x11 x12 z1_filled v1_fault v1_faultPlace a1_bytes cyB f1_bytes)) [1, 2] (by decide) rfl
          have hFc := va_free (wc := (wd14_4 a1 a1_bytes v1_length x11 x12 z1_filled v1_fault v1_faultPlace a1_bytes cyB f1_bytes)) hD hS hA [1, 2] rfl
          refine va_calli (va_runV (As := [.int 47]) (rest := []) ⟨hx, hb, hml, hown, hts⟩ (ck_X8_takes l dC dI cyB cyI cyJ cyP a1 a1_bytes H.size (z1_filled) (.int v1_faultPlace) v1_length v1_fault f1_bytes x11 x12 47 hw) (cwV 1 hts gX4_readProduct_X8_takes rfl rfl rfl (by decide +kernel) ⟨(by first | exact Nat.le_of_ble_eq_true rfl | (simp only [headSpec]; omega) | omega), (by first | exact Nat.le_of_ble_eq_true rfl | (simp only [headSpec]; omega) | omega)⟩) ⟨cPc_blind, va_recv hK hPc (ci := 8) (q0 := 0) rfl rfl, cPc_pre hPc hK hDc hNw⟩ rfl rfl hl.1 rfl (lv_room (Nat.le_of_ble_eq_true rfl)) dX4_readProduct_38 ⟨(by first | exact Nat.le_of_ble_eq_true rfl | (simp only [headSpec]; omega) | omega), (by first | exact Nat.le_of_ble_eq_true rfl | (simp only [headSpec]; omega) | omega)⟩) hS (fun q _ h => hFc q h) hFc (fun r17 u t H1 locs ht hvm hw hB hz1 hk1 hS => ?_)
          obtain ⟨x15, x16⟩ := u
          obtain ⟨hP1, hK1, hD1⟩ := hB
          rw [ht] at hP1
          obtain ⟨hP, hD⟩ := va_join (wr := (wd14_7 a0 a0_kinds a0_values z0_pile z0_facts v0_length a0_kinds cyI f0_kinds a0_values cyI f0_values)) (w1 := (wd14_4 a1 a1_bytes v1_length x15 x16 z1_filled v1_fault v1_faultPlace a1_bytes cyB f1_bytes)) hP hD [1, 2] [0, 3, 4] rfl rfl (by decide) (by decide) hk1 hFc hP1 hD1
          have hP : va_P (dC, dI) vwCl (wd14_6 a0 a0_kinds a0_values z0_pile z0_facts v0_length a1 a1_bytes v1_length x15 x16 z1_filled v1_fault v1_faultPlace a1_bytes cyB f1_bytes a0_kinds cyI f0_kinds a0_values cyI f0_values) H1 := hP.sub [0, 3, 4, 1, 2] rfl
          have hD : va_D A (wd14_6 a0 a0_kinds a0_values z0_pile z0_facts v0_length a1 a1_bytes v1_length x15 x16 z1_filled v1_fault v1_faultPlace a1_bytes cyB f1_bytes a0_kinds cyI f0_kinds a0_values cyI f0_values) := hD.sub [0, 3, 4, 1, 2] (by decide) rfl
          generalize H1 = H at hP hS ⊢
          refine lv_if_eq (tgt := 48) hx hb dX4_readProduct_41 (by decide) (fun c18 => ?_) (fun c18 => ?_)
          · have hw := hw.1 c18
            refine lv_aload_n hx hb dX4_readProduct_48 rfl (lv_at hl 1 rfl) ?_
            refine lv_bipush (v := 37) hx hb dX4_readProduct_49 (by decide) ?_
            have hPc := hP.sub (ws' := (wd14_4 a1 a1_bytes v1_length x15 x16 z1_filled v1_fault v1_faultPlace a1_bytes cyB f1_bytes)) [1, 2] rfl
            have hDc := hD.sub (ws' := (wd14_4 a1 a1_bytes v1_length x15 x16 z1_filled v1_fault v1_faultPlace a1_bytes cyB f1_bytes)) [1, 2] (by decide) rfl
            have hFc := va_free (wc := (wd14_4 a1 a1_bytes v1_length x15 x16 z1_filled v1_fault v1_faultPlace a1_bytes cyB f1_bytes)) hD hS hA [1, 2] rfl
            refine va_calli (va_runV (As := [.int 37]) (rest := []) ⟨hx, hb, hml, hown, hts⟩ (ck_X8_takes l dC dI cyB cyI cyJ cyP a1 a1_bytes H.size (z1_filled) (.int v1_faultPlace) v1_length v1_fault f1_bytes x15 x16 37 hw) (cwV 1 hts gX4_readProduct_X8_takes rfl rfl rfl (by decide +kernel) ⟨(by first | exact Nat.le_of_ble_eq_true rfl | (simp only [headSpec]; omega) | omega), (by first | exact Nat.le_of_ble_eq_true rfl | (simp only [headSpec]; omega) | omega)⟩) ⟨cPc_blind, va_recv hK hPc (ci := 8) (q0 := 0) rfl rfl, cPc_pre hPc hK hDc hNw⟩ rfl rfl hl.1 rfl (lv_room (Nat.le_of_ble_eq_true rfl)) dX4_readProduct_51 ⟨(by first | exact Nat.le_of_ble_eq_true rfl | (simp only [headSpec]; omega) | omega), (by first | exact Nat.le_of_ble_eq_true rfl | (simp only [headSpec]; omega) | omega)⟩) hS (fun q _ h => hFc q h) hFc (fun r21 u t H1 locs ht hvm hw hB hz1 hk1 hS => ?_)
            obtain ⟨x19, x20⟩ := u
            obtain ⟨hP1, hK1, hD1⟩ := hB
            rw [ht] at hP1
            obtain ⟨hP, hD⟩ := va_join (wr := (wd14_7 a0 a0_kinds a0_values z0_pile z0_facts v0_length a0_kinds cyI f0_kinds a0_values cyI f0_values)) (w1 := (wd14_4 a1 a1_bytes v1_length x19 x20 z1_filled v1_fault v1_faultPlace a1_bytes cyB f1_bytes)) hP hD [1, 2] [0, 3, 4] rfl rfl (by decide) (by decide) hk1 hFc hP1 hD1
            have hP : va_P (dC, dI) vwCl (wd14_6 a0 a0_kinds a0_values z0_pile z0_facts v0_length a1 a1_bytes v1_length x19 x20 z1_filled v1_fault v1_faultPlace a1_bytes cyB f1_bytes a0_kinds cyI f0_kinds a0_values cyI f0_values) H1 := hP.sub [0, 3, 4, 1, 2] rfl
            have hD : va_D A (wd14_6 a0 a0_kinds a0_values z0_pile z0_facts v0_length a1 a1_bytes v1_length x19 x20 z1_filled v1_fault v1_faultPlace a1_bytes cyB f1_bytes a0_kinds cyI f0_kinds a0_values cyI f0_values) := hD.sub [0, 3, 4, 1, 2] (by decide) rfl
            generalize H1 = H at hP hS ⊢
            refine lv_if_eq (tgt := 62) hx hb dX4_readProduct_54 (by decide) (fun c22 => ?_) (fun c22 => ?_)
            · have hw := hw.1 c22
              refine lv_iconst (v := (-1)) hx hb dX4_readProduct_62 (by decide) ?_
              exact kb_X4_readProduct_s_g_63 RS fr lo hfr hlo hRw dC dI cyB cyI cyJ cyP a0 a1 a1_bytes a0_kinds a0_values z0_pile z0_facts z1_filled v1_length f1_bytes Q (wl_X4_readProduct_s_g_8 RS v1_length f1_bytes Q  n) ih C0 _ _ _ x19 x20 v1_fault v1_faultPlace f0_kinds f0_values v0_length l2 l3 (-1) hP hD hS (lv_sub hl [0, 1, 2, 3] rfl) hw
            · have hw := hw.2 c22
              refine lv_bipush (v := 6) hx hb dX4_readProduct_57 (by decide) ?_
              refine lv_goto (tgt := 63) hx hb dX4_readProduct_59 (by decide) ?_
              exact kb_X4_readProduct_s_g_63 RS fr lo hfr hlo hRw dC dI cyB cyI cyJ cyP a0 a1 a1_bytes a0_kinds a0_values z0_pile z0_facts z1_filled v1_length f1_bytes Q (wl_X4_readProduct_s_g_8 RS v1_length f1_bytes Q  n) ih C0 _ _ _ x19 x20 v1_fault v1_faultPlace f0_kinds f0_values v0_length l2 l3 6 hP hD hS (lv_sub hl [0, 1, 2, 3] rfl) hw
          · have hw := hw.2 c18
            refine lv_iconst (v := 5) hx hb dX4_readProduct_44 (by decide) ?_
            refine lv_goto (tgt := 63) hx hb dX4_readProduct_45 (by decide) ?_
            exact kb_X4_readProduct_s_g_63 RS fr lo hfr hlo hRw dC dI cyB cyI cyJ cyP a0 a1 a1_bytes a0_kinds a0_values z0_pile z0_facts z1_filled v1_length f1_bytes Q (wl_X4_readProduct_s_g_8 RS v1_length f1_bytes Q  n) ih C0 _ _ _ x15 x16 v1_fault v1_faultPlace f0_kinds f0_values v0_length l2 l3 5 hP hD hS (lv_sub hl [0, 1, 2, 3] rfl) hw
        · have hw := hw.2 c14
          refine lv_iconst (v := 4) hx hb dX4_readProduct_31 (by decide) ?_
          refine lv_goto (tgt := 63) hx hb dX4_readProduct_32 (by decide) ?_
          exact kb_X4_readProduct_s_g_63 RS fr lo hfr hlo hRw dC dI cyB cyI cyJ cyP a0 a1 a1_bytes a0_kinds a0_values z0_pile z0_facts z1_filled v1_length f1_bytes Q (wl_X4_readProduct_s_g_8 RS v1_length f1_bytes Q  n) ih C0 _ _ _ x11 x12 v1_fault v1_faultPlace f0_kinds f0_values v0_length l2 l3 4 hP hD hS (lv_sub hl [0, 1, 2, 3] rfl) hw
set_option maxHeartbeats 4000000 in
set_option maxRecDepth 100000 in
theorem ck_X4_readProduct_s_g (RS : Int32 → (Nat → Int32) → Int32 → Int32 → Int32 → Int32 → (Nat → Int32) → (Nat → Int32) → Int32 → Int32 → (Int32 → Int32 → Int32 → Int32 → (Nat → Int32) → (Nat → Int32) → Int32 → Prop) → Prop) (fr lo : Nat) (hfr : 8 ≤ fr) (hlo : 175 ≤ lo) (hRw : ∀ (l : Launch) (dC : Nat → ClassId) (dI : Nat → Nat → Nat) (cyB cyI cyJ cyP : ClassId) (a0 a1 a1_bytes a0_kinds a0_values : Nat) (sz : Nat) (z0_pile : Value) (z0_facts : Value) (z1_filled : Value) (v1_length : Int32) (f1_bytes : Nat → Int32) (v1_at : Int32) (v1_token : Int32) (v1_fault : Int32) (v1_faultPlace : Int32) (f0_kinds : Nat → Int32) (f0_values : Nat → Int32) (v0_length : Int32) (p2 : Int32) {Q : Int32 → Int32 → Int32 → Int32 → (Nat → Int32) → (Nat → Int32) → Int32 → Prop} (hw : RS v1_length f1_bytes v1_at v1_token v1_fault v1_faultPlace f0_kinds f0_values v0_length p2 Q), Met l yX4_readSum wsX4_readSum ({ frames := fr, cells := 0, slots := 0, locals := lo }) (va_Pc [.ref a0, .ref a1, .int p2] (cPs (zE) l (dC, dI) (kT cyB cyI cyJ cyP) (wd14_6 a0 a0_kinds a0_values z0_pile z0_facts v0_length a1 a1_bytes v1_length v1_at v1_token z1_filled v1_fault v1_faultPlace a1_bytes cyB f1_bytes a0_kinds cyI f0_kinds a0_values cyI f0_values) sz)) (va_Qv (fun (u : Int32 × Int32 × Int32 × Int32 × (Nat → Int32) × (Nat → Int32) × Int32) => Q u.1 u.2.1 u.2.2.1 u.2.2.2.1 u.2.2.2.2.1 u.2.2.2.2.2.1 u.2.2.2.2.2.2) (cB (dC, dI) (kT cyB cyI cyJ cyP) (va_A (wd14_6 a0 a0_kinds a0_values z0_pile z0_facts v0_length a1 a1_bytes v1_length v1_at v1_token z1_filled v1_fault v1_faultPlace a1_bytes cyB f1_bytes a0_kinds cyI f0_kinds a0_values cyI f0_values) sz) (fun u : Int32 × Int32 × Int32 × Int32 × (Nat → Int32) × (Nat → Int32) × Int32 => ((wd14_6 a0 a0_kinds a0_values z0_pile z0_facts u.2.2.2.2.2.2 a1 a1_bytes v1_length u.1 u.2.1 z1_filled u.2.2.1 u.2.2.2.1 a1_bytes cyB f1_bytes a0_kinds cyI u.2.2.2.2.1 a0_values cyI u.2.2.2.2.2.1) : va_W))) (va_A (wd14_6 a0 a0_kinds a0_values z0_pile z0_facts v0_length a1 a1_bytes v1_length v1_at v1_token z1_filled v1_fault v1_faultPlace a1_bytes cyB f1_bytes a0_kinds cyI f0_kinds a0_values cyI f0_values) sz)) 0 0 (va_A (wd14_6 a0 a0_kinds a0_values z0_pile z0_facts v0_length a1 a1_bytes v1_length v1_at v1_token z1_filled v1_fault v1_faultPlace a1_bytes cyB f1_bytes a0_kinds cyI f0_kinds a0_values cyI f0_values) sz)) (l : Launch) (dC : Nat → ClassId) (dI : Nat → Nat → Nat) (cyB cyI cyJ cyP : ClassId) (a0 a1 a1_bytes a0_kinds a0_values : Nat) (sz : Nat) (z0_pile : Value) (z0_facts : Value) (z1_filled : Value) (v1_length : Int32) (f1_bytes : Nat → Int32) (v1_at : Int32) (v1_token : Int32) (v1_fault : Int32) (v1_faultPlace : Int32) (f0_kinds : Nat → Int32) (f0_values : Nat → Int32) (v0_length : Int32) (p2 : Int32) {Q : Int32 → Int32 → Int32 → Int32 → (Nat → Int32) → (Nat → Int32) → Int32 → Prop} (hw : wq_X4_readProduct_s_g RS v1_length f1_bytes v1_at v1_token v1_fault v1_faultPlace f0_kinds f0_values v0_length p2 Q) : Met l yX4_readProduct wsX4_readProduct ({ frames := fr + 3, cells := 0, slots := 0, locals := lo + 69 }) (va_Pc [.ref a0, .ref a1, .int p2] (cPs (zE) l (dC, dI) (kT cyB cyI cyJ cyP) (wd14_6 a0 a0_kinds a0_values z0_pile z0_facts v0_length a1 a1_bytes v1_length v1_at v1_token z1_filled v1_fault v1_faultPlace a1_bytes cyB f1_bytes a0_kinds cyI f0_kinds a0_values cyI f0_values) sz)) (va_Qv (fun (u : Int32 × Int32 × Int32 × Int32 × (Nat → Int32) × (Nat → Int32) × Int32) => Q u.1 u.2.1 u.2.2.1 u.2.2.2.1 u.2.2.2.2.1 u.2.2.2.2.2.1 u.2.2.2.2.2.2) (cB (dC, dI) (kT cyB cyI cyJ cyP) (va_A (wd14_6 a0 a0_kinds a0_values z0_pile z0_facts v0_length a1 a1_bytes v1_length v1_at v1_token z1_filled v1_fault v1_faultPlace a1_bytes cyB f1_bytes a0_kinds cyI f0_kinds a0_values cyI f0_values) sz) (fun u : Int32 × Int32 × Int32 × Int32 × (Nat → Int32) × (Nat → Int32) × Int32 => ((wd14_6 a0 a0_kinds a0_values z0_pile z0_facts u.2.2.2.2.2.2 a1 a1_bytes v1_length u.1 u.2.1 z1_filled u.2.2.1 u.2.2.2.1 a1_bytes cyB f1_bytes a0_kinds cyI u.2.2.2.2.1 a0_values cyI u.2.2.2.2.2.1) : va_W))) (va_A (wd14_6 a0 a0_kinds a0_values z0_pile z0_facts v0_length a1 a1_bytes v1_length v1_at v1_token z1_filled v1_fault v1_faultPlace a1_bytes cyB f1_bytes a0_kinds cyI f0_kinds a0_values cyI f0_values) sz)) 0 0 (va_A (wd14_6 a0 a0_kinds a0_values z0_pile z0_facts v0_length a1 a1_bytes v1_length v1_at v1_token z1_filled v1_fault v1_faultPlace a1_bytes cyB f1_bytes a0_kinds cyI f0_kinds a0_values cyI f0_values) sz) := by
  refine Met.ofW (cc := cX4_readProduct) (maxL := 5) (ret := none) (by decide) rfl ?_
  intro p e s m args below meth c s₁ B hml hv
  obtain ⟨rfl, ⟨hsz, hP, hK, hD0, hNw, hXl, hXu, hXn, hXt⟩, hE0⟩ := hv
  have hx := B.exec
  have hb := B.bytes
  have hr := B.returns
  have hts := atoms_spec (ws := wsX4_readProduct) B.pre
  have hown : s.vm.findClass RX4 = some m.cls := findClass_of_methodNamed B.named
  have hlocks := B.notSynchronized
  subst hsz
  have hD := hD0.self (sz := s.heap.size)
  generalize hAe : va_A (wd14_6 a0 a0_kinds a0_values z0_pile z0_facts v0_length a1 a1_bytes v1_length v1_at v1_token z1_filled v1_fault v1_faultPlace a1_bytes cyB f1_bytes a0_kinds cyI f0_kinds a0_values cyI f0_values) s.heap.size = A at hD hXu hXn hE0 ⊢
  have hA : ∀ q : Nat, s.heap.size ≤ q → A q := fun q h => by rw [← hAe]; exact Or.inr h
  have hS : va_S A s.heap s.heap [] := va_S.rf
  have hP : va_P (dC, dI) vwCl (wd14_6 a0 a0_kinds a0_values z0_pile z0_facts v0_length a1 a1_bytes v1_length v1_at v1_token z1_filled v1_fault v1_faultPlace a1_bytes cyB f1_bytes a0_kinds cyI f0_kinds a0_values cyI f0_values) s.heap := hP
  have hl := lv_entry ([.ref a0, .ref a1, .int p2]) (n := 5) ((by first | exact Nat.le_of_ble_eq_true rfl | (simp only [headSpec]; omega) | omega))
  rw [lg_entry_eq]
  generalize (lg_sl ([.ref a0, .ref a1, .int p2]) ++ List.replicate (5 - (lg_sl ([.ref a0, .ref a1, .int p2])).length) Slot.unset).toArray = ls at hl ⊢
  have hl : lv_has ls 5 [(0, .ref a0), (1, .ref a1), (2, .int p2)] := hl
  have hY : cfY l s A := ⟨hXl, hXu, hXn, hXt⟩
  have C0 : cfx p s m _ meth c cX4_readProduct none wsX4_readProduct RX4 5 A (dC, dI) (kT cyB cyI cyJ cyP) ∧ cfY l s A ∧ zE A s s.heap := ⟨⟨hx, hb, hr, hts, hown, hlocks, hml, hA, hK, hNw⟩, hY, hE0⟩
  have hE := hE0
  clear hAe
  obtain ⟨H, hH⟩ : ∃ H, H = s.heap := ⟨_, rfl⟩
  rw [← hH] at hP ⊢
  have hS : va_S A s.heap H [] := by rw [hH]; exact va_S.rf
  have hS := hS
  refine lv_aload_n hx hb dX4_readProduct_0 rfl (lv_at hl 0 rfl) ?_
  refine lv_aload_n hx hb dX4_readProduct_1 rfl (lv_at hl 1 rfl) ?_
  refine lv_iload_n hx hb dX4_readProduct_2 rfl (lv_at hl 2 rfl) ?_
  have hPc := hP.sub (ws' := (wd14_6 a0 a0_kinds a0_values z0_pile z0_facts v0_length a1 a1_bytes v1_length v1_at v1_token z1_filled v1_fault v1_faultPlace a1_bytes cyB f1_bytes a0_kinds cyI f0_kinds a0_values cyI f0_values)) [0, 1, 2, 3, 4] rfl
  have hDc := hD.sub (ws' := (wd14_6 a0 a0_kinds a0_values z0_pile z0_facts v0_length a1 a1_bytes v1_length v1_at v1_token z1_filled v1_fault v1_faultPlace a1_bytes cyB f1_bytes a0_kinds cyI f0_kinds a0_values cyI f0_values)) [0, 1, 2, 3, 4] (by decide) rfl
  have hFc := va_free (wc := (wd14_6 a0 a0_kinds a0_values z0_pile z0_facts v0_length a1 a1_bytes v1_length v1_at v1_token z1_filled v1_fault v1_faultPlace a1_bytes cyB f1_bytes a0_kinds cyI f0_kinds a0_values cyI f0_values)) hD hS hA [0, 1, 2, 3, 4] rfl
  refine va_callv (va_runV (As := [.ref a1, .int p2]) (rest := []) ⟨hx, hb, hml, hown, hts⟩ (ck_X4_readUnit_s_g RS fr lo hfr hlo hRw l dC dI cyB cyI cyJ cyP a0 a1 a1_bytes a0_kinds a0_values H.size (z0_pile) (z0_facts) (z1_filled) v1_length f1_bytes v1_at v1_token v1_fault v1_faultPlace f0_kinds f0_values v0_length p2 hw) (cwV 2 hts gX4_readProduct_X4_readUnit rfl rfl rfl (by decide +kernel) ⟨(by first | exact Nat.le_of_ble_eq_true rfl | (simp only [headSpec]; omega) | omega), (by first | exact Nat.le_of_ble_eq_true rfl | (simp only [headSpec]; omega) | omega)⟩) ⟨cPs_blind zE_G, va_recv hK hPc (ci := 4) (q0 := 0) rfl rfl, cPs_pre zE_G hPc hK hDc hNw hY hE hS hFc⟩ rfl rfl hl.1 rfl (lv_room (Nat.le_of_ble_eq_true rfl)) dX4_readProduct_3 ⟨(by first | exact Nat.le_of_ble_eq_true rfl | (simp only [headSpec]; omega) | omega), (by first | exact Nat.le_of_ble_eq_true rfl | (simp only [headSpec]; omega) | omega)⟩) hS (fun q _ h => hFc q h) hFc (fun u t H1 locs ht hvm hw hB hz1 hk1 hS => ?_)
  obtain ⟨x1, x2, x3, x4, f5, f6, x7⟩ := u
  obtain ⟨hP1, hK1, hD1⟩ := hB
  rw [ht] at hP1
  obtain ⟨hP, hD⟩ := va_join (wr := []) (w1 := (wd14_6 a0 a0_kinds a0_values z0_pile z0_facts x7 a1 a1_bytes v1_length x1 x2 z1_filled x3 x4 a1_bytes cyB f1_bytes a0_kinds cyI f5 a0_values cyI f6)) hP hD [0, 1, 2, 3, 4] [] rfl rfl (by decide) (by decide) hk1 hFc hP1 hD1
  have hP : va_P (dC, dI) vwCl (wd14_6 a0 a0_kinds a0_values z0_pile z0_facts x7 a1 a1_bytes v1_length x1 x2 z1_filled x3 x4 a1_bytes cyB f1_bytes a0_kinds cyI f5 a0_values cyI f6) H1 := hP
  have hD : va_D A (wd14_6 a0 a0_kinds a0_values z0_pile z0_facts x7 a1 a1_bytes v1_length x1 x2 z1_filled x3 x4 a1_bytes cyB f1_bytes a0_kinds cyI f5 a0_values cyI f6) := hD
  generalize H1 = H at hP hS ⊢
  refine lv_iconst (v := 0) hx hb dX4_readProduct_6 (by decide) ?_
  refine lv_istore_n (lv' := [(3, .int 0), (0, .ref a0), (1, .ref a1), (2, .int p2)]) hx hb dX4_readProduct_7 rfl hl (by decide) rfl (fun ls hl => ?_)
  obtain ⟨n9, hw⟩ := hw
  exact kl_X4_readProduct_s_g_8 RS fr lo hfr hlo hRw dC dI cyB cyI cyJ cyP a0 a1 a1_bytes a0_kinds a0_values z0_pile z0_facts z1_filled v1_length f1_bytes Q  C0 n9 _ _ _ x1 x2 x3 x4 f5 f6 x7 p2 0 hP hD hS (lv_sub hl [1, 2, 3, 0] rfl) hw
set_option maxHeartbeats 4000000 in
set_option maxRecDepth 100000 in
theorem kb_X4_readSum_s_g_49 (RS : Int32 → (Nat → Int32) → Int32 → Int32 → Int32 → Int32 → (Nat → Int32) → (Nat → Int32) → Int32 → Int32 → (Int32 → Int32 → Int32 → Int32 → (Nat → Int32) → (Nat → Int32) → Int32 → Prop) → Prop) (fr lo : Nat) (hfr : 8 ≤ fr) (hlo : 175 ≤ lo) (hRw : ∀ (l : Launch) (dC : Nat → ClassId) (dI : Nat → Nat → Nat) (cyB cyI cyJ cyP : ClassId) (a0 a1 a1_bytes a0_kinds a0_values : Nat) (sz : Nat) (z0_pile : Value) (z0_facts : Value) (z1_filled : Value) (v1_length : Int32) (f1_bytes : Nat → Int32) (v1_at : Int32) (v1_token : Int32) (v1_fault : Int32) (v1_faultPlace : Int32) (f0_kinds : Nat → Int32) (f0_values : Nat → Int32) (v0_length : Int32) (p2 : Int32) {Q : Int32 → Int32 → Int32 → Int32 → (Nat → Int32) → (Nat → Int32) → Int32 → Prop} (hw : RS v1_length f1_bytes v1_at v1_token v1_fault v1_faultPlace f0_kinds f0_values v0_length p2 Q), Met l yX4_readSum wsX4_readSum ({ frames := fr, cells := 0, slots := 0, locals := lo }) (va_Pc [.ref a0, .ref a1, .int p2] (cPs (zE) l (dC, dI) (kT cyB cyI cyJ cyP) (wd14_6 a0 a0_kinds a0_values z0_pile z0_facts v0_length a1 a1_bytes v1_length v1_at v1_token z1_filled v1_fault v1_faultPlace a1_bytes cyB f1_bytes a0_kinds cyI f0_kinds a0_values cyI f0_values) sz)) (va_Qv (fun (u : Int32 × Int32 × Int32 × Int32 × (Nat → Int32) × (Nat → Int32) × Int32) => Q u.1 u.2.1 u.2.2.1 u.2.2.2.1 u.2.2.2.2.1 u.2.2.2.2.2.1 u.2.2.2.2.2.2) (cB (dC, dI) (kT cyB cyI cyJ cyP) (va_A (wd14_6 a0 a0_kinds a0_values z0_pile z0_facts v0_length a1 a1_bytes v1_length v1_at v1_token z1_filled v1_fault v1_faultPlace a1_bytes cyB f1_bytes a0_kinds cyI f0_kinds a0_values cyI f0_values) sz) (fun u : Int32 × Int32 × Int32 × Int32 × (Nat → Int32) × (Nat → Int32) × Int32 => ((wd14_6 a0 a0_kinds a0_values z0_pile z0_facts u.2.2.2.2.2.2 a1 a1_bytes v1_length u.1 u.2.1 z1_filled u.2.2.1 u.2.2.2.1 a1_bytes cyB f1_bytes a0_kinds cyI u.2.2.2.2.1 a0_values cyI u.2.2.2.2.2.1) : va_W))) (va_A (wd14_6 a0 a0_kinds a0_values z0_pile z0_facts v0_length a1 a1_bytes v1_length v1_at v1_token z1_filled v1_fault v1_faultPlace a1_bytes cyB f1_bytes a0_kinds cyI f0_kinds a0_values cyI f0_values) sz)) 0 0 (va_A (wd14_6 a0 a0_kinds a0_values z0_pile z0_facts v0_length a1 a1_bytes v1_length v1_at v1_token z1_filled v1_fault v1_faultPlace a1_bytes cyB f1_bytes a0_kinds cyI f0_kinds a0_values cyI f0_values) sz)) {p : Program} {l : Launch} {e : Env} {s : State} {m : MethodId} {args : Array Value} {below : List Frame} {meth : Method} {c : Code} {A : Nat → Prop} (dC : Nat → ClassId) (dI : Nat → Nat → Nat) (cyB cyI cyJ cyP : ClassId) (a0 a1 a1_bytes a0_kinds a0_values : Nat) (z0_pile : Value) (z0_facts : Value) (z1_filled : Value) (v1_length : Int32) (f1_bytes : Nat → Int32) (Q : Int32 → Int32 → Int32 → Int32 → (Nat → Int32) → (Nat → Int32) → Int32 → Prop) (K8 : Int32 → Int32 → Int32 → Int32 → (Nat → Int32) → (Nat → Int32) → Int32 → Int32 → Int32 → Prop) (hK8 : ∀ (H : Heap) (locs : List Loc) (ls : Array Slot) (v1_at : Int32) (v1_token : Int32) (v1_fault : Int32) (v1_faultPlace : Int32) (f0_kinds : Nat → Int32) (f0_values : Nat → Int32) (v0_length : Int32) (l2 : Int32) (l3 : Int32), va_P (dC, dI) vwCl (wd14_6 a0 a0_kinds a0_values z0_pile z0_facts v0_length a1 a1_bytes v1_length v1_at v1_token z1_filled v1_fault v1_faultPlace a1_bytes cyB f1_bytes a0_kinds cyI f0_kinds a0_values cyI f0_values) H → va_D A (wd14_6 a0 a0_kinds a0_values z0_pile z0_facts v0_length a1 a1_bytes v1_length v1_at v1_token z1_filled v1_fault v1_faultPlace a1_bytes cyB f1_bytes a0_kinds cyI f0_kinds a0_values cyI f0_values) → va_S A s.heap H locs → lv_has ls 5 [(0, .ref a0), (1, .ref a1), (2, .int l2), (3, .int l3)] → K8 v1_at v1_token v1_fault v1_faultPlace f0_kinds f0_values v0_length l2 l3 → W p l e (headSpec wsX4_readSum ({ frames := fr + 4, cells := 0, slots := 0, locals := lo + 93 })).room s m args below meth c H locs 0 0 (MQ below (va_Qv (fun (u : Int32 × Int32 × Int32 × Int32 × (Nat → Int32) × (Nat → Int32) × Int32) => Q u.1 u.2.1 u.2.2.1 u.2.2.2.1 u.2.2.2.2.1 u.2.2.2.2.2.1 u.2.2.2.2.2.2) (cB (dC, dI) (kT cyB cyI cyJ cyP) A (fun u : Int32 × Int32 × Int32 × Int32 × (Nat → Int32) × (Nat → Int32) × Int32 => ((wd14_6 a0 a0_kinds a0_values z0_pile z0_facts u.2.2.2.2.2.2 a1 a1_bytes v1_length u.1 u.2.1 z1_filled u.2.2.1 u.2.2.2.1 a1_bytes cyB f1_bytes a0_kinds cyI u.2.2.2.2.1 a0_values cyI u.2.2.2.2.2.1) : va_W))) A) args s 0 0 A) (F0 m 8 ls [])) (C0 : cfx p s m args meth c cX4_readSum none wsX4_readSum RX4 5 A (dC, dI) (kT cyB cyI cyJ cyP) ∧ cfY l s A ∧ zE A s s.heap) : ∀ (H : Heap) (locs : List Loc) (ls : Array Slot) (v1_at : Int32) (v1_token : Int32) (v1_fault : Int32) (v1_faultPlace : Int32) (f0_kinds : Nat → Int32) (f0_values : Nat → Int32) (v0_length : Int32) (l2 : Int32) (l3 : Int32) (s0 : Int32), va_P (dC, dI) vwCl (wd14_6 a0 a0_kinds a0_values z0_pile z0_facts v0_length a1 a1_bytes v1_length v1_at v1_token z1_filled v1_fault v1_faultPlace a1_bytes cyB f1_bytes a0_kinds cyI f0_kinds a0_values cyI f0_values) H → va_D A (wd14_6 a0 a0_kinds a0_values z0_pile z0_facts v0_length a1 a1_bytes v1_length v1_at v1_token z1_filled v1_fault v1_faultPlace a1_bytes cyB f1_bytes a0_kinds cyI f0_kinds a0_values cyI f0_values) → va_S A s.heap H locs → lv_has ls 5 [(0, .ref a0), (1, .ref a1), (2, .int l2), (3, .int l3)] → wb_X4_readSum_s_g_49 RS v1_length f1_bytes Q K8 v1_at v1_token v1_fault v1_faultPlace f0_kinds f0_values v0_length l2 l3 s0 → W p l e (headSpec wsX4_readSum ({ frames := fr + 4, cells := 0, slots := 0, locals := lo + 93 })).room s m args below meth c H locs 0 0 (MQ below (va_Qv (fun (u : Int32 × Int32 × Int32 × Int32 × (Nat → Int32) × (Nat → Int32) × Int32) => Q u.1 u.2.1 u.2.2.1 u.2.2.2.1 u.2.2.2.2.1 u.2.2.2.2.2.1 u.2.2.2.2.2.2) (cB (dC, dI) (kT cyB cyI cyJ cyP) A (fun u : Int32 × Int32 × Int32 × Int32 × (Nat → Int32) × (Nat → Int32) × Int32 => ((wd14_6 a0 a0_kinds a0_values z0_pile z0_facts u.2.2.2.2.2.2 a1 a1_bytes v1_length u.1 u.2.1 z1_filled u.2.2.1 u.2.2.2.1 a1_bytes cyB f1_bytes a0_kinds cyI u.2.2.2.2.1 a0_values cyI u.2.2.2.2.2.1) : va_W))) A) args s 0 0 A) (F0 m 49 ls [.int s0]) := by
  obtain ⟨⟨hx, hb, hr, hts, hown, hlocks, hml, hA, hK, hNw⟩, hY, hE0⟩ := id C0
  have hE := hE0
  intro H locs ls v1_at v1_token v1_fault v1_faultPlace f0_kinds f0_values v0_length l2 l3 s0 hP hD hS hl hw
  refine lv_istore (lv' := [(4, .int s0), (0, .ref a0), (1, .ref a1), (2, .int l2), (3, .int l3)]) hx hb dX4_readSum_49 hl (by decide) rfl (fun ls hl => ?_)
  refine lv_iload hx hb dX4_readSum_51 (lv_at hl 0 rfl) ?_
  refine lv_iconst (v := (-1)) hx hb dX4_readSum_53 (by decide) ?_
  refine lv_icmp_ne (tgt := 58) hx hb dX4_readSum_54 (by decide) (fun c19 => ?_) (fun c19 => ?_)
  · have hw := hw.1 c19
    refine lv_aload_n hx hb dX4_readSum_58 rfl (lv_at hl 1 rfl) ?_
    refine lv_aload_n hx hb dX4_readSum_59 rfl (lv_at hl 2 rfl) ?_
    refine lv_iload_n hx hb dX4_readSum_60 rfl (lv_at hl 3 rfl) ?_
    have hPc := hP.sub (ws' := (wd14_6 a0 a0_kinds a0_values z0_pile z0_facts v0_length a1 a1_bytes v1_length v1_at v1_token z1_filled v1_fault v1_faultPlace a1_bytes cyB f1_bytes a0_kinds cyI f0_kinds a0_values cyI f0_values)) [0, 1, 2, 3, 4] rfl
    have hDc := hD.sub (ws' := (wd14_6 a0 a0_kinds a0_values z0_pile z0_facts v0_length a1 a1_bytes v1_length v1_at v1_token z1_filled v1_fault v1_faultPlace a1_bytes cyB f1_bytes a0_kinds cyI f0_kinds a0_values cyI f0_values)) [0, 1, 2, 3, 4] (by decide) rfl
    have hFc := va_free (wc := (wd14_6 a0 a0_kinds a0_values z0_pile z0_facts v0_length a1 a1_bytes v1_length v1_at v1_token z1_filled v1_fault v1_faultPlace a1_bytes cyB f1_bytes a0_kinds cyI f0_kinds a0_values cyI f0_values)) hD hS hA [0, 1, 2, 3, 4] rfl
    refine va_callv (va_runV (As := [.ref a1, .int l2]) (rest := []) ⟨hx, hb, hml, hown, hts⟩ (ck_X4_readProduct_s_g RS fr lo hfr hlo hRw l dC dI cyB cyI cyJ cyP a0 a1 a1_bytes a0_kinds a0_values H.size (z0_pile) (z0_facts) (z1_filled) v1_length f1_bytes v1_at v1_token v1_fault v1_faultPlace f0_kinds f0_values v0_length l2 hw) (cwV 2 hts gX4_readSum_X4_readProduct rfl rfl rfl (by decide +kernel) ⟨(by first | exact Nat.le_of_ble_eq_true rfl | (simp only [headSpec]; omega) | omega), (by first | exact Nat.le_of_ble_eq_true rfl | (simp only [headSpec]; omega) | omega)⟩) ⟨cPs_blind zE_G, va_recv hK hPc (ci := 4) (q0 := 0) rfl rfl, cPs_pre zE_G hPc hK hDc hNw hY hE hS hFc⟩ rfl rfl hl.1 rfl (lv_room (Nat.le_of_ble_eq_true rfl)) dX4_readSum_61 ⟨(by first | exact Nat.le_of_ble_eq_true rfl | (simp only [headSpec]; omega) | omega), (by first | exact Nat.le_of_ble_eq_true rfl | (simp only [headSpec]; omega) | omega)⟩) hS (fun q _ h => hFc q h) hFc (fun u t H1 locs ht hvm hw hB hz1 hk1 hS => ?_)
    obtain ⟨x20, x21, x22, x23, f24, f25, x26⟩ := u
    obtain ⟨hP1, hK1, hD1⟩ := hB
    rw [ht] at hP1
    obtain ⟨hP, hD⟩ := va_join (wr := []) (w1 := (wd14_6 a0 a0_kinds a0_values z0_pile z0_facts x26 a1 a1_bytes v1_length x20 x21 z1_filled x22 x23 a1_bytes cyB f1_bytes a0_kinds cyI f24 a0_values cyI f25)) hP hD [0, 1, 2, 3, 4] [] rfl rfl (by decide) (by decide) hk1 hFc hP1 hD1
    have hP : va_P (dC, dI) vwCl (wd14_6 a0 a0_kinds a0_values z0_pile z0_facts x26 a1 a1_bytes v1_length x20 x21 z1_filled x22 x23 a1_bytes cyB f1_bytes a0_kinds cyI f24 a0_values cyI f25) H1 := hP
    have hD : va_D A (wd14_6 a0 a0_kinds a0_values z0_pile z0_facts x26 a1 a1_bytes v1_length x20 x21 z1_filled x22 x23 a1_bytes cyB f1_bytes a0_kinds cyI f24 a0_values cyI f25) := hD
    generalize H1 = H at hP hS ⊢
    refine lv_aload_n hx hb dX4_readSum_64 rfl (lv_at hl 1 rfl) ?_
    refine lv_iload hx hb dX4_readSum_65 (lv_at hl 0 rfl) ?_
    refine lv_iconst (v := 0) hx hb dX4_readSum_67 (by decide) ?_
    have hPc := hP.sub (ws' := (wd14_7 a0 a0_kinds a0_values z0_pile z0_facts x26 a0_kinds cyI f24 a0_values cyI f25)) [0, 3, 4] rfl
    have hDc := hD.sub (ws' := (wd14_7 a0 a0_kinds a0_values z0_pile z0_facts x26 a0_kinds cyI f24 a0_values cyI f25)) [0, 3, 4] (by decide) rfl
    have hFc := va_free (wc := (wd14_7 a0 a0_kinds a0_values z0_pile z0_facts x26 a0_kinds cyI f24 a0_values cyI f25)) hD hS hA [0, 3, 4] rfl
    refine va_callv (va_runV (As := [.int s0, .int 0]) (rest := []) ⟨hx, hb, hml, hown, hts⟩ (ck_X4_add l dC dI cyB cyI cyJ cyP a0 a0_kinds a0_values H.size (z0_pile) (z0_facts)  f24 f25 x26 s0 0 hw) (cwV 2 hts gX4_readSum_X4_add rfl rfl rfl (by decide +kernel) ⟨(by first | exact Nat.le_of_ble_eq_true rfl | (simp only [headSpec]; omega) | omega), (by first | exact Nat.le_of_ble_eq_true rfl | (simp only [headSpec]; omega) | omega)⟩) ⟨cPc_blind, va_recv hK hPc (ci := 4) (q0 := 0) rfl rfl, cPc_pre hPc hK hDc hNw⟩ rfl rfl hl.1 rfl (lv_room (Nat.le_of_ble_eq_true rfl)) dX4_readSum_68 ⟨(by first | exact Nat.le_of_ble_eq_true rfl | (simp only [headSpec]; omega) | omega), (by first | exact Nat.le_of_ble_eq_true rfl | (simp only [headSpec]; omega) | omega)⟩) hS (fun q _ h => hFc q h) hFc (fun u t H1 locs ht hvm hw hB hz1 hk1 hS => ?_)
    obtain ⟨f27, f28, x29⟩ := u
    obtain ⟨hP1, hK1, hD1⟩ := hB
    rw [ht] at hP1
    obtain ⟨hP, hD⟩ := va_join (wr := (wd14_4 a1 a1_bytes v1_length x20 x21 z1_filled x22 x23 a1_bytes cyB f1_bytes)) (w1 := (wd14_7 a0 a0_kinds a0_values z0_pile z0_facts x29 a0_kinds cyI f27 a0_values cyI f28)) hP hD [0, 3, 4] [1, 2] rfl rfl (by decide) (by decide) hk1 hFc hP1 hD1
    have hP : va_P (dC, dI) vwCl (wd14_6 a0 a0_kinds a0_values z0_pile z0_facts x29 a1 a1_bytes v1_length x20 x21 z1_filled x22 x23 a1_bytes cyB f1_bytes a0_kinds cyI f27 a0_values cyI f28) H1 := hP.sub [2, 0, 1, 3, 4] rfl
    have hD : va_D A (wd14_6 a0 a0_kinds a0_values z0_pile z0_facts x29 a1 a1_bytes v1_length x20 x21 z1_filled x22 x23 a1_bytes cyB f1_bytes a0_kinds cyI f27 a0_values cyI f28) := hD.sub [2, 0, 1, 3, 4] (by decide) rfl
    generalize H1 = H at hP hS ⊢
    obtain ⟨x30, ex30⟩ : ∃ y : Int32, y = l3 + 1 := ⟨_, rfl⟩
    have hw := hw x30 ex30
    refine lv_iinc (v := x30) (lv' := [(3, .int x30), (4, .int s0), (0, .ref a0), (1, .ref a1), (2, .int l2)]) hx hb dX4_readSum_71 hl (k := 4) rfl (by rw [ex30]; rfl) (by decide) rfl (fun ls hl => ?_)
    refine lv_goto (tgt := 8) hx hb dX4_readSum_74 (by decide) ?_
    exact hK8 _ _ _ x20 x21 x22 x23 f27 f28 x29 l2 x30 hP hD hS (lv_sub hl [2, 3, 4, 0] rfl) hw
  · have hw := hw.2 c19
    exact ((W.vret hx hb hr (fun t ht hW => ⟨⟨(v1_at, v1_token, v1_fault, v1_faultPlace, f0_kinds, f0_values, v0_length), rfl, hw, by rw [ht]; exact hP, va_K.moved hW.alike hK, hD⟩, hS.F ht⟩) hS.2.2 dX4_readSum_57))
set_option maxHeartbeats 4000000 in
set_option maxRecDepth 100000 in
theorem kl_X4_readSum_s_g_8 (RS : Int32 → (Nat → Int32) → Int32 → Int32 → Int32 → Int32 → (Nat → Int32) → (Nat → Int32) → Int32 → Int32 → (Int32 → Int32 → Int32 → Int32 → (Nat → Int32) → (Nat → Int32) → Int32 → Prop) → Prop) (fr lo : Nat) (hfr : 8 ≤ fr) (hlo : 175 ≤ lo) (hRw : ∀ (l : Launch) (dC : Nat → ClassId) (dI : Nat → Nat → Nat) (cyB cyI cyJ cyP : ClassId) (a0 a1 a1_bytes a0_kinds a0_values : Nat) (sz : Nat) (z0_pile : Value) (z0_facts : Value) (z1_filled : Value) (v1_length : Int32) (f1_bytes : Nat → Int32) (v1_at : Int32) (v1_token : Int32) (v1_fault : Int32) (v1_faultPlace : Int32) (f0_kinds : Nat → Int32) (f0_values : Nat → Int32) (v0_length : Int32) (p2 : Int32) {Q : Int32 → Int32 → Int32 → Int32 → (Nat → Int32) → (Nat → Int32) → Int32 → Prop} (hw : RS v1_length f1_bytes v1_at v1_token v1_fault v1_faultPlace f0_kinds f0_values v0_length p2 Q), Met l yX4_readSum wsX4_readSum ({ frames := fr, cells := 0, slots := 0, locals := lo }) (va_Pc [.ref a0, .ref a1, .int p2] (cPs (zE) l (dC, dI) (kT cyB cyI cyJ cyP) (wd14_6 a0 a0_kinds a0_values z0_pile z0_facts v0_length a1 a1_bytes v1_length v1_at v1_token z1_filled v1_fault v1_faultPlace a1_bytes cyB f1_bytes a0_kinds cyI f0_kinds a0_values cyI f0_values) sz)) (va_Qv (fun (u : Int32 × Int32 × Int32 × Int32 × (Nat → Int32) × (Nat → Int32) × Int32) => Q u.1 u.2.1 u.2.2.1 u.2.2.2.1 u.2.2.2.2.1 u.2.2.2.2.2.1 u.2.2.2.2.2.2) (cB (dC, dI) (kT cyB cyI cyJ cyP) (va_A (wd14_6 a0 a0_kinds a0_values z0_pile z0_facts v0_length a1 a1_bytes v1_length v1_at v1_token z1_filled v1_fault v1_faultPlace a1_bytes cyB f1_bytes a0_kinds cyI f0_kinds a0_values cyI f0_values) sz) (fun u : Int32 × Int32 × Int32 × Int32 × (Nat → Int32) × (Nat → Int32) × Int32 => ((wd14_6 a0 a0_kinds a0_values z0_pile z0_facts u.2.2.2.2.2.2 a1 a1_bytes v1_length u.1 u.2.1 z1_filled u.2.2.1 u.2.2.2.1 a1_bytes cyB f1_bytes a0_kinds cyI u.2.2.2.2.1 a0_values cyI u.2.2.2.2.2.1) : va_W))) (va_A (wd14_6 a0 a0_kinds a0_values z0_pile z0_facts v0_length a1 a1_bytes v1_length v1_at v1_token z1_filled v1_fault v1_faultPlace a1_bytes cyB f1_bytes a0_kinds cyI f0_kinds a0_values cyI f0_values) sz)) 0 0 (va_A (wd14_6 a0 a0_kinds a0_values z0_pile z0_facts v0_length a1 a1_bytes v1_length v1_at v1_token z1_filled v1_fault v1_faultPlace a1_bytes cyB f1_bytes a0_kinds cyI f0_kinds a0_values cyI f0_values) sz)) {p : Program} {l : Launch} {e : Env} {s : State} {m : MethodId} {args : Array Value} {below : List Frame} {meth : Method} {c : Code} {A : Nat → Prop} (dC : Nat → ClassId) (dI : Nat → Nat → Nat) (cyB cyI cyJ cyP : ClassId) (a0 a1 a1_bytes a0_kinds a0_values : Nat) (z0_pile : Value) (z0_facts : Value) (z1_filled : Value) (v1_length : Int32) (f1_bytes : Nat → Int32) (Q : Int32 → Int32 → Int32 → Int32 → (Nat → Int32) → (Nat → Int32) → Int32 → Prop)  (C0 : cfx p s m args meth c cX4_readSum none wsX4_readSum RX4 5 A (dC, dI) (kT cyB cyI cyJ cyP) ∧ cfY l s A ∧ zE A s s.heap) : ∀ (n : Nat) (H : Heap) (locs : List Loc) (ls : Array Slot) (v1_at : Int32) (v1_token : Int32) (v1_fault : Int32) (v1_faultPlace : Int32) (f0_kinds : Nat → Int32) (f0_values : Nat → Int32) (v0_length : Int32) (l2 : Int32) (l3 : Int32), va_P (dC, dI) vwCl (wd14_6 a0 a0_kinds a0_values z0_pile z0_facts v0_length a1 a1_bytes v1_length v1_at v1_token z1_filled v1_fault v1_faultPlace a1_bytes cyB f1_bytes a0_kinds cyI f0_kinds a0_values cyI f0_values) H → va_D A (wd14_6 a0 a0_kinds a0_values z0_pile z0_facts v0_length a1 a1_bytes v1_length v1_at v1_token z1_filled v1_fault v1_faultPlace a1_bytes cyB f1_bytes a0_kinds cyI f0_kinds a0_values cyI f0_values) → va_S A s.heap H locs → lv_has ls 5 [(0, .ref a0), (1, .ref a1), (2, .int l2), (3, .int l3)] → wl_X4_readSum_s_g_8 RS v1_length f1_bytes Q  n v1_at v1_token v1_fault v1_faultPlace f0_kinds f0_values v0_length l2 l3 → W p l e (headSpec wsX4_readSum ({ frames := fr + 4, cells := 0, slots := 0, locals := lo + 93 })).room s m args below meth c H locs 0 0 (MQ below (va_Qv (fun (u : Int32 × Int32 × Int32 × Int32 × (Nat → Int32) × (Nat → Int32) × Int32) => Q u.1 u.2.1 u.2.2.1 u.2.2.2.1 u.2.2.2.2.1 u.2.2.2.2.2.1 u.2.2.2.2.2.2) (cB (dC, dI) (kT cyB cyI cyJ cyP) A (fun u : Int32 × Int32 × Int32 × Int32 × (Nat → Int32) × (Nat → Int32) × Int32 => ((wd14_6 a0 a0_kinds a0_values z0_pile z0_facts u.2.2.2.2.2.2 a1 a1_bytes v1_length u.1 u.2.1 z1_filled u.2.2.1 u.2.2.2.1 a1_bytes cyB f1_bytes a0_kinds cyI u.2.2.2.2.1 a0_values cyI u.2.2.2.2.2.1) : va_W))) A) args s 0 0 A) (F0 m 8 ls []) := by
  obtain ⟨⟨hx, hb, hr, hts, hown, hlocks, hml, hA, hK, hNw⟩, hY, hE0⟩ := id C0
  have hE := hE0
  intro n
  induction n with
  | zero => intro H locs ls v1_at v1_token v1_fault v1_faultPlace f0_kinds f0_values v0_length l2 l3 hP hD hS hl hw; exact False.elim hw
  | succ n ih =>
    intro H locs ls v1_at v1_token v1_fault v1_faultPlace f0_kinds f0_values v0_length l2 l3 hP hD hS hl hw
    refine lv_iload_n hx hb dX4_readSum_8 rfl (lv_at hl 3 rfl) ?_
    refine lv_sipush (v := 150) hx hb dX4_readSum_9 (by decide) ?_
    refine lv_icmp_ge (tgt := 77) hx hb dX4_readSum_12 (by decide) (fun c8 => ?_) (fun c8 => ?_)
    · have hw := hw.1 c8
      exact ((W.vret hx hb hr (fun t ht hW => ⟨⟨(v1_at, v1_token, v1_fault, v1_faultPlace, f0_kinds, f0_values, v0_length), rfl, hw, by rw [ht]; exact hP, va_K.moved hW.alike hK, hD⟩, hS.F ht⟩) hS.2.2 dX4_readSum_77))
    · have hw := hw.2 c8
      refine lv_aload_n hx hb dX4_readSum_15 rfl (lv_at hl 1 rfl) ?_
      have hPc := hP.sub (ws' := (wd14_5 a1 a1_bytes v1_length v1_at v1_token z1_filled v1_fault v1_faultPlace)) [1] rfl
      have hDc := hD.sub (ws' := (wd14_5 a1 a1_bytes v1_length v1_at v1_token z1_filled v1_fault v1_faultPlace)) [1] (by decide) rfl
      have hFc := va_free (wc := (wd14_5 a1 a1_bytes v1_length v1_at v1_token z1_filled v1_fault v1_faultPlace)) hD hS hA [1] rfl
      refine va_calli (va_runV (As := []) (rest := []) ⟨hx, hb, hml, hown, hts⟩ (ck_X8_isFaulty l dC dI cyB cyI cyJ cyP a1 H.size (.ref a1_bytes) (.int v1_length) (.int v1_at) (.int v1_token) (z1_filled) (.int v1_faultPlace) v1_fault   hw) (cwV 0 hts gX4_readSum_X8_isFaulty rfl rfl rfl (by decide +kernel) ⟨(by first | exact Nat.le_of_ble_eq_true rfl | (simp only [headSpec]; omega) | omega), (by first | exact Nat.le_of_ble_eq_true rfl | (simp only [headSpec]; omega) | omega)⟩) ⟨cPc_blind, va_recv hK hPc (ci := 8) (q0 := 0) rfl rfl, cPc_pre hPc hK hDc hNw⟩ rfl rfl hl.1 rfl (lv_room (Nat.le_of_ble_eq_true rfl)) dX4_readSum_16 ⟨(by first | exact Nat.le_of_ble_eq_true rfl | (simp only [headSpec]; omega) | omega), (by first | exact Nat.le_of_ble_eq_true rfl | (simp only [headSpec]; omega) | omega)⟩) hS (fun q _ h => hFc q h) hFc (fun r9 u t H1 locs ht hvm hw hB hz1 hk1 hS => ?_)
      obtain ⟨hP1, hK1, hD1⟩ := hB
      rw [ht] at hP1
      obtain ⟨hP, hD⟩ := va_join (wr := (wd14_11 a0 a0_kinds a0_values z0_pile z0_facts v0_length a1_bytes cyB f1_bytes a0_kinds cyI f0_kinds a0_values cyI f0_values)) (w1 := (wd14_5 a1 a1_bytes v1_length v1_at v1_token z1_filled v1_fault v1_faultPlace)) hP hD [1] [0, 2, 3, 4] rfl rfl (by decide) (by decide) hk1 hFc hP1 hD1
      have hP : va_P (dC, dI) vwCl (wd14_6 a0 a0_kinds a0_values z0_pile z0_facts v0_length a1 a1_bytes v1_length v1_at v1_token z1_filled v1_fault v1_faultPlace a1_bytes cyB f1_bytes a0_kinds cyI f0_kinds a0_values cyI f0_values) H1 := hP.sub [0, 4, 1, 2, 3] rfl
      have hD : va_D A (wd14_6 a0 a0_kinds a0_values z0_pile z0_facts v0_length a1 a1_bytes v1_length v1_at v1_token z1_filled v1_fault v1_faultPlace a1_bytes cyB f1_bytes a0_kinds cyI f0_kinds a0_values cyI f0_values) := hD.sub [0, 4, 1, 2, 3] (by decide) rfl
      generalize H1 = H at hP hS ⊢
      refine lv_if_ne (tgt := 77) hx hb dX4_readSum_19 (by decide) (fun c10 => ?_) (fun c10 => ?_)
      · have hw := hw.1 c10
        exact ((W.vret hx hb hr (fun t ht hW => ⟨⟨(v1_at, v1_token, v1_fault, v1_faultPlace, f0_kinds, f0_values, v0_length), rfl, hw, by rw [ht]; exact hP, va_K.moved hW.alike hK, hD⟩, hS.F ht⟩) hS.2.2 dX4_readSum_77))
      · have hw := hw.2 c10
        refine lv_aload_n hx hb dX4_readSum_22 rfl (lv_at hl 1 rfl) ?_
        refine lv_bipush (v := 43) hx hb dX4_readSum_23 (by decide) ?_
        have hPc := hP.sub (ws' := (wd14_4 a1 a1_bytes v1_length v1_at v1_token z1_filled v1_fault v1_faultPlace a1_bytes cyB f1_bytes)) [1, 2] rfl
        have hDc := hD.sub (ws' := (wd14_4 a1 a1_bytes v1_length v1_at v1_token z1_filled v1_fault v1_faultPlace a1_bytes cyB f1_bytes)) [1, 2] (by decide) rfl
        have hFc := va_free (wc := (wd14_4 a1 a1_bytes v1_length v1_at v1_token z1_filled v1_fault v1_faultPlace a1_bytes cyB f1_bytes)) hD hS hA [1, 2] rfl
        refine va_calli (va_runV (As := [.int 43]) (rest := []) ⟨hx, hb, hml, hown, hts⟩ (ck_X8_takes l dC dI cyB cyI cyJ cyP a1 a1_bytes H.size (z1_filled) (.int v1_faultPlace) v1_length v1_fault f1_bytes v1_at v1_token 43 hw) (cwV 1 hts gX4_readSum_X8_takes rfl rfl rfl (by decide +kernel) ⟨(by first | exact Nat.le_of_ble_eq_true rfl | (simp only [headSpec]; omega) | omega), (by first | exact Nat.le_of_ble_eq_true rfl | (simp only [headSpec]; omega) | omega)⟩) ⟨cPc_blind, va_recv hK hPc (ci := 8) (q0 := 0) rfl rfl, cPc_pre hPc hK hDc hNw⟩ rfl rfl hl.1 rfl (lv_room (Nat.le_of_ble_eq_true rfl)) dX4_readSum_25 ⟨(by first | exact Nat.le_of_ble_eq_true rfl | (simp only [headSpec]; omega) | omega), (by first | exact Nat.le_of_ble_eq_true rfl | (simp only [headSpec]; omega) | omega)⟩) hS (fun q _ h => hFc q h) hFc (fun r13 u t H1 locs ht hvm hw hB hz1 hk1 hS => ?_)
        obtain ⟨x11, x12⟩ := u
        obtain ⟨hP1, hK1, hD1⟩ := hB
        rw [ht] at hP1
        obtain ⟨hP, hD⟩ := va_join (wr := (wd14_7 a0 a0_kinds a0_values z0_pile z0_facts v0_length a0_kinds cyI f0_kinds a0_values cyI f0_values)) (w1 := (wd14_4 a1 a1_bytes v1_length x11 x12 z1_filled v1_fault v1_faultPlace a1_bytes cyB f1_bytes)) hP hD [1, 2] [0, 3, 4] rfl rfl (by decide) (by decide) hk1 hFc hP1 hD1
        have hP : va_P (dC, dI) vwCl (wd14_6 a0 a0_kinds a0_values z0_pile z0_facts v0_length a1 a1_bytes v1_length x11 x12 z1_filled v1_fault v1_faultPlace a1_bytes cyB f1_bytes a0_kinds cyI f0_kinds a0_values cyI f0_values) H1 := hP.sub [0, 3, 4, 1, 2] rfl
        have hD : va_D A (wd14_6 a0 a0_kinds a0_values z0_pile z0_facts v0_length a1 a1_bytes v1_length x11 x12 z1_filled v1_fault v1_faultPlace a1_bytes cyB f1_bytes a0_kinds cyI f0_kinds a0_values cyI f0_values) := hD.sub [0, 3, 4, 1, 2] (by decide) rfl
        generalize H1 = H at hP hS ⊢
        refine lv_if_eq (tgt := 35) hx hb dX4_readSum_28 (by decide) (fun c14 => ?_) (fun c14 => ?_)
        · have hw := hw.1 c14
          refine lv_aload_n hx hb dX4_readSum_35 rfl (lv_at hl 1 rfl) ?_
          refine lv_bipush (v := 45) hx hb dX4_readSum_36 (by decide) ?_
          have hPc := hP.sub (ws' := (wd14_4 a1 a1_bytes v1_length x11 x12 z1_filled v1_fault v1_faultPlace a1_bytes cyB f1_bytes)) [1, 2] rfl
          have hDc := hD.sub (ws' := (wd14_4 a1 a1_bytes v1_length x11 x12 z1_filled v1_fault v1_faultPlace a1_bytes cyB f1_bytes)) [1, 2] (by decide) rfl
          have hFc := va_free (wc := (wd14_4 a1 a1_bytes v1_length x11 x12 z1_filled v1_fault v1_faultPlace a1_bytes cyB f1_bytes)) hD hS hA [1, 2] rfl
          refine va_calli (va_runV (As := [.int 45]) (rest := []) ⟨hx, hb, hml, hown, hts⟩ (ck_X8_takes l dC dI cyB cyI cyJ cyP a1 a1_bytes H.size (z1_filled) (.int v1_faultPlace) v1_length v1_fault f1_bytes x11 x12 45 hw) (cwV 1 hts gX4_readSum_X8_takes rfl rfl rfl (by decide +kernel) ⟨(by first | exact Nat.le_of_ble_eq_true rfl | (simp only [headSpec]; omega) | omega), (by first | exact Nat.le_of_ble_eq_true rfl | (simp only [headSpec]; omega) | omega)⟩) ⟨cPc_blind, va_recv hK hPc (ci := 8) (q0 := 0) rfl rfl, cPc_pre hPc hK hDc hNw⟩ rfl rfl hl.1 rfl (lv_room (Nat.le_of_ble_eq_true rfl)) dX4_readSum_38 ⟨(by first | exact Nat.le_of_ble_eq_true rfl | (simp only [headSpec]; omega) | omega), (by first | exact Nat.le_of_ble_eq_true rfl | (simp only [headSpec]; omega) | omega)⟩) hS (fun q _ h => hFc q h) hFc (fun r17 u t H1 locs ht hvm hw hB hz1 hk1 hS => ?_)
          obtain ⟨x15, x16⟩ := u
          obtain ⟨hP1, hK1, hD1⟩ := hB
          rw [ht] at hP1
          obtain ⟨hP, hD⟩ := va_join (wr := (wd14_7 a0 a0_kinds a0_values z0_pile z0_facts v0_length a0_kinds cyI f0_kinds a0_values cyI f0_values)) (w1 := (wd14_4 a1 a1_bytes v1_length x15 x16 z1_filled v1_fault v1_faultPlace a1_bytes cyB f1_bytes)) hP hD [1, 2] [0, 3, 4] rfl rfl (by decide) (by decide) hk1 hFc hP1 hD1
          have hP : va_P (dC, dI) vwCl (wd14_6 a0 a0_kinds a0_values z0_pile z0_facts v0_length a1 a1_bytes v1_length x15 x16 z1_filled v1_fault v1_faultPlace a1_bytes cyB f1_bytes a0_kinds cyI f0_kinds a0_values cyI f0_values) H1 := hP.sub [0, 3, 4, 1, 2] rfl
          have hD : va_D A (wd14_6 a0 a0_kinds a0_values z0_pile z0_facts v0_length a1 a1_bytes v1_length x15 x16 z1_filled v1_fault v1_faultPlace a1_bytes cyB f1_bytes a0_kinds cyI f0_kinds a0_values cyI f0_values) := hD.sub [0, 3, 4, 1, 2] (by decide) rfl
          generalize H1 = H at hP hS ⊢
          refine lv_if_eq (tgt := 48) hx hb dX4_readSum_41 (by decide) (fun c18 => ?_) (fun c18 => ?_)
          · have hw := hw.1 c18
            refine lv_iconst (v := (-1)) hx hb dX4_readSum_48 (by decide) ?_
            exact kb_X4_readSum_s_g_49 RS fr lo hfr hlo hRw dC dI cyB cyI cyJ cyP a0 a1 a1_bytes a0_kinds a0_values z0_pile z0_facts z1_filled v1_length f1_bytes Q (wl_X4_readSum_s_g_8 RS v1_length f1_bytes Q  n) ih C0 _ _ _ x15 x16 v1_fault v1_faultPlace f0_kinds f0_values v0_length l2 l3 (-1) hP hD hS (lv_sub hl [0, 1, 2, 3] rfl) hw
          · have hw := hw.2 c18
            refine lv_iconst (v := 3) hx hb dX4_readSum_44 (by decide) ?_
            refine lv_goto (tgt := 49) hx hb dX4_readSum_45 (by decide) ?_
            exact kb_X4_readSum_s_g_49 RS fr lo hfr hlo hRw dC dI cyB cyI cyJ cyP a0 a1 a1_bytes a0_kinds a0_values z0_pile z0_facts z1_filled v1_length f1_bytes Q (wl_X4_readSum_s_g_8 RS v1_length f1_bytes Q  n) ih C0 _ _ _ x15 x16 v1_fault v1_faultPlace f0_kinds f0_values v0_length l2 l3 3 hP hD hS (lv_sub hl [0, 1, 2, 3] rfl) hw
        · have hw := hw.2 c14
          refine lv_iconst (v := 2) hx hb dX4_readSum_31 (by decide) ?_
          refine lv_goto (tgt := 49) hx hb dX4_readSum_32 (by decide) ?_
          exact kb_X4_readSum_s_g_49 RS fr lo hfr hlo hRw dC dI cyB cyI cyJ cyP a0 a1 a1_bytes a0_kinds a0_values z0_pile z0_facts z1_filled v1_length f1_bytes Q (wl_X4_readSum_s_g_8 RS v1_length f1_bytes Q  n) ih C0 _ _ _ x11 x12 v1_fault v1_faultPlace f0_kinds f0_values v0_length l2 l3 2 hP hD hS (lv_sub hl [0, 1, 2, 3] rfl) hw
set_option maxHeartbeats 4000000 in
set_option maxRecDepth 100000 in
theorem ck_X4_readSum_s_g (RS : Int32 → (Nat → Int32) → Int32 → Int32 → Int32 → Int32 → (Nat → Int32) → (Nat → Int32) → Int32 → Int32 → (Int32 → Int32 → Int32 → Int32 → (Nat → Int32) → (Nat → Int32) → Int32 → Prop) → Prop) (fr lo : Nat) (hfr : 8 ≤ fr) (hlo : 175 ≤ lo) (hRw : ∀ (l : Launch) (dC : Nat → ClassId) (dI : Nat → Nat → Nat) (cyB cyI cyJ cyP : ClassId) (a0 a1 a1_bytes a0_kinds a0_values : Nat) (sz : Nat) (z0_pile : Value) (z0_facts : Value) (z1_filled : Value) (v1_length : Int32) (f1_bytes : Nat → Int32) (v1_at : Int32) (v1_token : Int32) (v1_fault : Int32) (v1_faultPlace : Int32) (f0_kinds : Nat → Int32) (f0_values : Nat → Int32) (v0_length : Int32) (p2 : Int32) {Q : Int32 → Int32 → Int32 → Int32 → (Nat → Int32) → (Nat → Int32) → Int32 → Prop} (hw : RS v1_length f1_bytes v1_at v1_token v1_fault v1_faultPlace f0_kinds f0_values v0_length p2 Q), Met l yX4_readSum wsX4_readSum ({ frames := fr, cells := 0, slots := 0, locals := lo }) (va_Pc [.ref a0, .ref a1, .int p2] (cPs (zE) l (dC, dI) (kT cyB cyI cyJ cyP) (wd14_6 a0 a0_kinds a0_values z0_pile z0_facts v0_length a1 a1_bytes v1_length v1_at v1_token z1_filled v1_fault v1_faultPlace a1_bytes cyB f1_bytes a0_kinds cyI f0_kinds a0_values cyI f0_values) sz)) (va_Qv (fun (u : Int32 × Int32 × Int32 × Int32 × (Nat → Int32) × (Nat → Int32) × Int32) => Q u.1 u.2.1 u.2.2.1 u.2.2.2.1 u.2.2.2.2.1 u.2.2.2.2.2.1 u.2.2.2.2.2.2) (cB (dC, dI) (kT cyB cyI cyJ cyP) (va_A (wd14_6 a0 a0_kinds a0_values z0_pile z0_facts v0_length a1 a1_bytes v1_length v1_at v1_token z1_filled v1_fault v1_faultPlace a1_bytes cyB f1_bytes a0_kinds cyI f0_kinds a0_values cyI f0_values) sz) (fun u : Int32 × Int32 × Int32 × Int32 × (Nat → Int32) × (Nat → Int32) × Int32 => ((wd14_6 a0 a0_kinds a0_values z0_pile z0_facts u.2.2.2.2.2.2 a1 a1_bytes v1_length u.1 u.2.1 z1_filled u.2.2.1 u.2.2.2.1 a1_bytes cyB f1_bytes a0_kinds cyI u.2.2.2.2.1 a0_values cyI u.2.2.2.2.2.1) : va_W))) (va_A (wd14_6 a0 a0_kinds a0_values z0_pile z0_facts v0_length a1 a1_bytes v1_length v1_at v1_token z1_filled v1_fault v1_faultPlace a1_bytes cyB f1_bytes a0_kinds cyI f0_kinds a0_values cyI f0_values) sz)) 0 0 (va_A (wd14_6 a0 a0_kinds a0_values z0_pile z0_facts v0_length a1 a1_bytes v1_length v1_at v1_token z1_filled v1_fault v1_faultPlace a1_bytes cyB f1_bytes a0_kinds cyI f0_kinds a0_values cyI f0_values) sz)) (l : Launch) (dC : Nat → ClassId) (dI : Nat → Nat → Nat) (cyB cyI cyJ cyP : ClassId) (a0 a1 a1_bytes a0_kinds a0_values : Nat) (sz : Nat) (z0_pile : Value) (z0_facts : Value) (z1_filled : Value) (v1_length : Int32) (f1_bytes : Nat → Int32) (v1_at : Int32) (v1_token : Int32) (v1_fault : Int32) (v1_faultPlace : Int32) (f0_kinds : Nat → Int32) (f0_values : Nat → Int32) (v0_length : Int32) (p2 : Int32) {Q : Int32 → Int32 → Int32 → Int32 → (Nat → Int32) → (Nat → Int32) → Int32 → Prop} (hw : wq_X4_readSum_s_g RS v1_length f1_bytes v1_at v1_token v1_fault v1_faultPlace f0_kinds f0_values v0_length p2 Q) : Met l yX4_readSum wsX4_readSum ({ frames := fr + 4, cells := 0, slots := 0, locals := lo + 93 }) (va_Pc [.ref a0, .ref a1, .int p2] (cPs (zE) l (dC, dI) (kT cyB cyI cyJ cyP) (wd14_6 a0 a0_kinds a0_values z0_pile z0_facts v0_length a1 a1_bytes v1_length v1_at v1_token z1_filled v1_fault v1_faultPlace a1_bytes cyB f1_bytes a0_kinds cyI f0_kinds a0_values cyI f0_values) sz)) (va_Qv (fun (u : Int32 × Int32 × Int32 × Int32 × (Nat → Int32) × (Nat → Int32) × Int32) => Q u.1 u.2.1 u.2.2.1 u.2.2.2.1 u.2.2.2.2.1 u.2.2.2.2.2.1 u.2.2.2.2.2.2) (cB (dC, dI) (kT cyB cyI cyJ cyP) (va_A (wd14_6 a0 a0_kinds a0_values z0_pile z0_facts v0_length a1 a1_bytes v1_length v1_at v1_token z1_filled v1_fault v1_faultPlace a1_bytes cyB f1_bytes a0_kinds cyI f0_kinds a0_values cyI f0_values) sz) (fun u : Int32 × Int32 × Int32 × Int32 × (Nat → Int32) × (Nat → Int32) × Int32 => ((wd14_6 a0 a0_kinds a0_values z0_pile z0_facts u.2.2.2.2.2.2 a1 a1_bytes v1_length u.1 u.2.1 z1_filled u.2.2.1 u.2.2.2.1 a1_bytes cyB f1_bytes a0_kinds cyI u.2.2.2.2.1 a0_values cyI u.2.2.2.2.2.1) : va_W))) (va_A (wd14_6 a0 a0_kinds a0_values z0_pile z0_facts v0_length a1 a1_bytes v1_length v1_at v1_token z1_filled v1_fault v1_faultPlace a1_bytes cyB f1_bytes a0_kinds cyI f0_kinds a0_values cyI f0_values) sz)) 0 0 (va_A (wd14_6 a0 a0_kinds a0_values z0_pile z0_facts v0_length a1 a1_bytes v1_length v1_at v1_token z1_filled v1_fault v1_faultPlace a1_bytes cyB f1_bytes a0_kinds cyI f0_kinds a0_values cyI f0_values) sz) := by
  refine Met.ofW (cc := cX4_readSum) (maxL := 5) (ret := none) (by decide) rfl ?_
  intro p e s m args below meth c s₁ B hml hv
  obtain ⟨rfl, ⟨hsz, hP, hK, hD0, hNw, hXl, hXu, hXn, hXt⟩, hE0⟩ := hv
  have hx := B.exec
  have hb := B.bytes
  have hr := B.returns
  have hts := atoms_spec (ws := wsX4_readSum) B.pre
  have hown : s.vm.findClass RX4 = some m.cls := findClass_of_methodNamed B.named
  have hlocks := B.notSynchronized
  subst hsz
  have hD := hD0.self (sz := s.heap.size)
  generalize hAe : va_A (wd14_6 a0 a0_kinds a0_values z0_pile z0_facts v0_length a1 a1_bytes v1_length v1_at v1_token z1_filled v1_fault v1_faultPlace a1_bytes cyB f1_bytes a0_kinds cyI f0_kinds a0_values cyI f0_values) s.heap.size = A at hD hXu hXn hE0 ⊢
  have hA : ∀ q : Nat, s.heap.size ≤ q → A q := fun q h => by rw [← hAe]; exact Or.inr h
  have hS : va_S A s.heap s.heap [] := va_S.rf
  have hP : va_P (dC, dI) vwCl (wd14_6 a0 a0_kinds a0_values z0_pile z0_facts v0_length a1 a1_bytes v1_length v1_at v1_token z1_filled v1_fault v1_faultPlace a1_bytes cyB f1_bytes a0_kinds cyI f0_kinds a0_values cyI f0_values) s.heap := hP
  have hl := lv_entry ([.ref a0, .ref a1, .int p2]) (n := 5) ((by first | exact Nat.le_of_ble_eq_true rfl | (simp only [headSpec]; omega) | omega))
  rw [lg_entry_eq]
  generalize (lg_sl ([.ref a0, .ref a1, .int p2]) ++ List.replicate (5 - (lg_sl ([.ref a0, .ref a1, .int p2])).length) Slot.unset).toArray = ls at hl ⊢
  have hl : lv_has ls 5 [(0, .ref a0), (1, .ref a1), (2, .int p2)] := hl
  have hY : cfY l s A := ⟨hXl, hXu, hXn, hXt⟩
  have C0 : cfx p s m _ meth c cX4_readSum none wsX4_readSum RX4 5 A (dC, dI) (kT cyB cyI cyJ cyP) ∧ cfY l s A ∧ zE A s s.heap := ⟨⟨hx, hb, hr, hts, hown, hlocks, hml, hA, hK, hNw⟩, hY, hE0⟩
  have hE := hE0
  clear hAe
  obtain ⟨H, hH⟩ : ∃ H, H = s.heap := ⟨_, rfl⟩
  rw [← hH] at hP ⊢
  have hS : va_S A s.heap H [] := by rw [hH]; exact va_S.rf
  have hS := hS
  refine lv_aload_n hx hb dX4_readSum_0 rfl (lv_at hl 0 rfl) ?_
  refine lv_aload_n hx hb dX4_readSum_1 rfl (lv_at hl 1 rfl) ?_
  refine lv_iload_n hx hb dX4_readSum_2 rfl (lv_at hl 2 rfl) ?_
  have hPc := hP.sub (ws' := (wd14_6 a0 a0_kinds a0_values z0_pile z0_facts v0_length a1 a1_bytes v1_length v1_at v1_token z1_filled v1_fault v1_faultPlace a1_bytes cyB f1_bytes a0_kinds cyI f0_kinds a0_values cyI f0_values)) [0, 1, 2, 3, 4] rfl
  have hDc := hD.sub (ws' := (wd14_6 a0 a0_kinds a0_values z0_pile z0_facts v0_length a1 a1_bytes v1_length v1_at v1_token z1_filled v1_fault v1_faultPlace a1_bytes cyB f1_bytes a0_kinds cyI f0_kinds a0_values cyI f0_values)) [0, 1, 2, 3, 4] (by decide) rfl
  have hFc := va_free (wc := (wd14_6 a0 a0_kinds a0_values z0_pile z0_facts v0_length a1 a1_bytes v1_length v1_at v1_token z1_filled v1_fault v1_faultPlace a1_bytes cyB f1_bytes a0_kinds cyI f0_kinds a0_values cyI f0_values)) hD hS hA [0, 1, 2, 3, 4] rfl
  refine va_callv (va_runV (As := [.ref a1, .int p2]) (rest := []) ⟨hx, hb, hml, hown, hts⟩ (ck_X4_readProduct_s_g RS fr lo hfr hlo hRw l dC dI cyB cyI cyJ cyP a0 a1 a1_bytes a0_kinds a0_values H.size (z0_pile) (z0_facts) (z1_filled) v1_length f1_bytes v1_at v1_token v1_fault v1_faultPlace f0_kinds f0_values v0_length p2 hw) (cwV 2 hts gX4_readSum_X4_readProduct rfl rfl rfl (by decide +kernel) ⟨(by first | exact Nat.le_of_ble_eq_true rfl | (simp only [headSpec]; omega) | omega), (by first | exact Nat.le_of_ble_eq_true rfl | (simp only [headSpec]; omega) | omega)⟩) ⟨cPs_blind zE_G, va_recv hK hPc (ci := 4) (q0 := 0) rfl rfl, cPs_pre zE_G hPc hK hDc hNw hY hE hS hFc⟩ rfl rfl hl.1 rfl (lv_room (Nat.le_of_ble_eq_true rfl)) dX4_readSum_3 ⟨(by first | exact Nat.le_of_ble_eq_true rfl | (simp only [headSpec]; omega) | omega), (by first | exact Nat.le_of_ble_eq_true rfl | (simp only [headSpec]; omega) | omega)⟩) hS (fun q _ h => hFc q h) hFc (fun u t H1 locs ht hvm hw hB hz1 hk1 hS => ?_)
  obtain ⟨x1, x2, x3, x4, f5, f6, x7⟩ := u
  obtain ⟨hP1, hK1, hD1⟩ := hB
  rw [ht] at hP1
  obtain ⟨hP, hD⟩ := va_join (wr := []) (w1 := (wd14_6 a0 a0_kinds a0_values z0_pile z0_facts x7 a1 a1_bytes v1_length x1 x2 z1_filled x3 x4 a1_bytes cyB f1_bytes a0_kinds cyI f5 a0_values cyI f6)) hP hD [0, 1, 2, 3, 4] [] rfl rfl (by decide) (by decide) hk1 hFc hP1 hD1
  have hP : va_P (dC, dI) vwCl (wd14_6 a0 a0_kinds a0_values z0_pile z0_facts x7 a1 a1_bytes v1_length x1 x2 z1_filled x3 x4 a1_bytes cyB f1_bytes a0_kinds cyI f5 a0_values cyI f6) H1 := hP
  have hD : va_D A (wd14_6 a0 a0_kinds a0_values z0_pile z0_facts x7 a1 a1_bytes v1_length x1 x2 z1_filled x3 x4 a1_bytes cyB f1_bytes a0_kinds cyI f5 a0_values cyI f6) := hD
  generalize H1 = H at hP hS ⊢
  refine lv_iconst (v := 0) hx hb dX4_readSum_6 (by decide) ?_
  refine lv_istore_n (lv' := [(3, .int 0), (0, .ref a0), (1, .ref a1), (2, .int p2)]) hx hb dX4_readSum_7 rfl hl (by decide) rfl (fun ls hl => ?_)
  obtain ⟨n9, hw⟩ := hw
  exact kl_X4_readSum_s_g_8 RS fr lo hfr hlo hRw dC dI cyB cyI cyJ cyP a0 a1 a1_bytes a0_kinds a0_values z0_pile z0_facts z1_filled v1_length f1_bytes Q  C0 n9 _ _ _ x1 x2 x3 x4 f5 f6 x7 p2 0 hP hD hS (lv_sub hl [1, 2, 3, 0] rfl) hw
theorem ck_X4_readSum_s_r1 (l : Launch) (dC : Nat → ClassId) (dI : Nat → Nat → Nat) (cyB cyI cyJ cyP : ClassId) (a0 a1 a1_bytes a0_kinds a0_values : Nat) (sz : Nat) (z0_pile : Value) (z0_facts : Value) (z1_filled : Value) (v1_length : Int32) (f1_bytes : Nat → Int32) (v1_at : Int32) (v1_token : Int32) (v1_fault : Int32) (v1_faultPlace : Int32) (f0_kinds : Nat → Int32) (f0_values : Nat → Int32) (v0_length : Int32) (p2 : Int32) {Q : Int32 → Int32 → Int32 → Int32 → (Nat → Int32) → (Nat → Int32) → Int32 → Prop} (hw : wq_X4_readSum_s_r1 v1_length f1_bytes v1_at v1_token v1_fault v1_faultPlace f0_kinds f0_values v0_length p2 Q) : Met l yX4_readSum wsX4_readSum ({ frames := 12, cells := 0, slots := 0, locals := 268 }) (va_Pc [.ref a0, .ref a1, .int p2] (cPs (zE) l (dC, dI) (kT cyB cyI cyJ cyP) (wd14_6 a0 a0_kinds a0_values z0_pile z0_facts v0_length a1 a1_bytes v1_length v1_at v1_token z1_filled v1_fault v1_faultPlace a1_bytes cyB f1_bytes a0_kinds cyI f0_kinds a0_values cyI f0_values) sz)) (va_Qv (fun (u : Int32 × Int32 × Int32 × Int32 × (Nat → Int32) × (Nat → Int32) × Int32) => Q u.1 u.2.1 u.2.2.1 u.2.2.2.1 u.2.2.2.2.1 u.2.2.2.2.2.1 u.2.2.2.2.2.2) (cB (dC, dI) (kT cyB cyI cyJ cyP) (va_A (wd14_6 a0 a0_kinds a0_values z0_pile z0_facts v0_length a1 a1_bytes v1_length v1_at v1_token z1_filled v1_fault v1_faultPlace a1_bytes cyB f1_bytes a0_kinds cyI f0_kinds a0_values cyI f0_values) sz) (fun u : Int32 × Int32 × Int32 × Int32 × (Nat → Int32) × (Nat → Int32) × Int32 => ((wd14_6 a0 a0_kinds a0_values z0_pile z0_facts u.2.2.2.2.2.2 a1 a1_bytes v1_length u.1 u.2.1 z1_filled u.2.2.1 u.2.2.2.1 a1_bytes cyB f1_bytes a0_kinds cyI u.2.2.2.2.1 a0_values cyI u.2.2.2.2.2.1) : va_W))) (va_A (wd14_6 a0 a0_kinds a0_values z0_pile z0_facts v0_length a1 a1_bytes v1_length v1_at v1_token z1_filled v1_fault v1_faultPlace a1_bytes cyB f1_bytes a0_kinds cyI f0_kinds a0_values cyI f0_values) sz)) 0 0 (va_A (wd14_6 a0 a0_kinds a0_values z0_pile z0_facts v0_length a1 a1_bytes v1_length v1_at v1_token z1_filled v1_fault v1_faultPlace a1_bytes cyB f1_bytes a0_kinds cyI f0_kinds a0_values cyI f0_values) sz) :=
  ck_X4_readSum_s_g wq_X4_readSum_s_r0 8 175 (by decide) (by decide) ck_X4_readSum_s_r0 l dC dI cyB cyI cyJ cyP a0 a1 a1_bytes a0_kinds a0_values sz z0_pile z0_facts z1_filled v1_length f1_bytes v1_at v1_token v1_fault v1_faultPlace f0_kinds f0_values v0_length p2 hw
theorem ck_X4_readSum_s_r2 (l : Launch) (dC : Nat → ClassId) (dI : Nat → Nat → Nat) (cyB cyI cyJ cyP : ClassId) (a0 a1 a1_bytes a0_kinds a0_values : Nat) (sz : Nat) (z0_pile : Value) (z0_facts : Value) (z1_filled : Value) (v1_length : Int32) (f1_bytes : Nat → Int32) (v1_at : Int32) (v1_token : Int32) (v1_fault : Int32) (v1_faultPlace : Int32) (f0_kinds : Nat → Int32) (f0_values : Nat → Int32) (v0_length : Int32) (p2 : Int32) {Q : Int32 → Int32 → Int32 → Int32 → (Nat → Int32) → (Nat → Int32) → Int32 → Prop} (hw : wq_X4_readSum_s_r2 v1_length f1_bytes v1_at v1_token v1_fault v1_faultPlace f0_kinds f0_values v0_length p2 Q) : Met l yX4_readSum wsX4_readSum ({ frames := 16, cells := 0, slots := 0, locals := 361 }) (va_Pc [.ref a0, .ref a1, .int p2] (cPs (zE) l (dC, dI) (kT cyB cyI cyJ cyP) (wd14_6 a0 a0_kinds a0_values z0_pile z0_facts v0_length a1 a1_bytes v1_length v1_at v1_token z1_filled v1_fault v1_faultPlace a1_bytes cyB f1_bytes a0_kinds cyI f0_kinds a0_values cyI f0_values) sz)) (va_Qv (fun (u : Int32 × Int32 × Int32 × Int32 × (Nat → Int32) × (Nat → Int32) × Int32) => Q u.1 u.2.1 u.2.2.1 u.2.2.2.1 u.2.2.2.2.1 u.2.2.2.2.2.1 u.2.2.2.2.2.2) (cB (dC, dI) (kT cyB cyI cyJ cyP) (va_A (wd14_6 a0 a0_kinds a0_values z0_pile z0_facts v0_length a1 a1_bytes v1_length v1_at v1_token z1_filled v1_fault v1_faultPlace a1_bytes cyB f1_bytes a0_kinds cyI f0_kinds a0_values cyI f0_values) sz) (fun u : Int32 × Int32 × Int32 × Int32 × (Nat → Int32) × (Nat → Int32) × Int32 => ((wd14_6 a0 a0_kinds a0_values z0_pile z0_facts u.2.2.2.2.2.2 a1 a1_bytes v1_length u.1 u.2.1 z1_filled u.2.2.1 u.2.2.2.1 a1_bytes cyB f1_bytes a0_kinds cyI u.2.2.2.2.1 a0_values cyI u.2.2.2.2.2.1) : va_W))) (va_A (wd14_6 a0 a0_kinds a0_values z0_pile z0_facts v0_length a1 a1_bytes v1_length v1_at v1_token z1_filled v1_fault v1_faultPlace a1_bytes cyB f1_bytes a0_kinds cyI f0_kinds a0_values cyI f0_values) sz)) 0 0 (va_A (wd14_6 a0 a0_kinds a0_values z0_pile z0_facts v0_length a1 a1_bytes v1_length v1_at v1_token z1_filled v1_fault v1_faultPlace a1_bytes cyB f1_bytes a0_kinds cyI f0_kinds a0_values cyI f0_values) sz) :=
  ck_X4_readSum_s_g wq_X4_readSum_s_r1 12 268 (by decide) (by decide) ck_X4_readSum_s_r1 l dC dI cyB cyI cyJ cyP a0 a1 a1_bytes a0_kinds a0_values sz z0_pile z0_facts z1_filled v1_length f1_bytes v1_at v1_token v1_fault v1_faultPlace f0_kinds f0_values v0_length p2 hw
theorem ck_X4_readSum_s_r3 (l : Launch) (dC : Nat → ClassId) (dI : Nat → Nat → Nat) (cyB cyI cyJ cyP : ClassId) (a0 a1 a1_bytes a0_kinds a0_values : Nat) (sz : Nat) (z0_pile : Value) (z0_facts : Value) (z1_filled : Value) (v1_length : Int32) (f1_bytes : Nat → Int32) (v1_at : Int32) (v1_token : Int32) (v1_fault : Int32) (v1_faultPlace : Int32) (f0_kinds : Nat → Int32) (f0_values : Nat → Int32) (v0_length : Int32) (p2 : Int32) {Q : Int32 → Int32 → Int32 → Int32 → (Nat → Int32) → (Nat → Int32) → Int32 → Prop} (hw : wq_X4_readSum_s_r3 v1_length f1_bytes v1_at v1_token v1_fault v1_faultPlace f0_kinds f0_values v0_length p2 Q) : Met l yX4_readSum wsX4_readSum ({ frames := 20, cells := 0, slots := 0, locals := 454 }) (va_Pc [.ref a0, .ref a1, .int p2] (cPs (zE) l (dC, dI) (kT cyB cyI cyJ cyP) (wd14_6 a0 a0_kinds a0_values z0_pile z0_facts v0_length a1 a1_bytes v1_length v1_at v1_token z1_filled v1_fault v1_faultPlace a1_bytes cyB f1_bytes a0_kinds cyI f0_kinds a0_values cyI f0_values) sz)) (va_Qv (fun (u : Int32 × Int32 × Int32 × Int32 × (Nat → Int32) × (Nat → Int32) × Int32) => Q u.1 u.2.1 u.2.2.1 u.2.2.2.1 u.2.2.2.2.1 u.2.2.2.2.2.1 u.2.2.2.2.2.2) (cB (dC, dI) (kT cyB cyI cyJ cyP) (va_A (wd14_6 a0 a0_kinds a0_values z0_pile z0_facts v0_length a1 a1_bytes v1_length v1_at v1_token z1_filled v1_fault v1_faultPlace a1_bytes cyB f1_bytes a0_kinds cyI f0_kinds a0_values cyI f0_values) sz) (fun u : Int32 × Int32 × Int32 × Int32 × (Nat → Int32) × (Nat → Int32) × Int32 => ((wd14_6 a0 a0_kinds a0_values z0_pile z0_facts u.2.2.2.2.2.2 a1 a1_bytes v1_length u.1 u.2.1 z1_filled u.2.2.1 u.2.2.2.1 a1_bytes cyB f1_bytes a0_kinds cyI u.2.2.2.2.1 a0_values cyI u.2.2.2.2.2.1) : va_W))) (va_A (wd14_6 a0 a0_kinds a0_values z0_pile z0_facts v0_length a1 a1_bytes v1_length v1_at v1_token z1_filled v1_fault v1_faultPlace a1_bytes cyB f1_bytes a0_kinds cyI f0_kinds a0_values cyI f0_values) sz)) 0 0 (va_A (wd14_6 a0 a0_kinds a0_values z0_pile z0_facts v0_length a1 a1_bytes v1_length v1_at v1_token z1_filled v1_fault v1_faultPlace a1_bytes cyB f1_bytes a0_kinds cyI f0_kinds a0_values cyI f0_values) sz) :=
  ck_X4_readSum_s_g wq_X4_readSum_s_r2 16 361 (by decide) (by decide) ck_X4_readSum_s_r2 l dC dI cyB cyI cyJ cyP a0 a1 a1_bytes a0_kinds a0_values sz z0_pile z0_facts z1_filled v1_length f1_bytes v1_at v1_token v1_fault v1_faultPlace f0_kinds f0_values v0_length p2 hw
theorem ck_X4_readSum_s_r4 (l : Launch) (dC : Nat → ClassId) (dI : Nat → Nat → Nat) (cyB cyI cyJ cyP : ClassId) (a0 a1 a1_bytes a0_kinds a0_values : Nat) (sz : Nat) (z0_pile : Value) (z0_facts : Value) (z1_filled : Value) (v1_length : Int32) (f1_bytes : Nat → Int32) (v1_at : Int32) (v1_token : Int32) (v1_fault : Int32) (v1_faultPlace : Int32) (f0_kinds : Nat → Int32) (f0_values : Nat → Int32) (v0_length : Int32) (p2 : Int32) {Q : Int32 → Int32 → Int32 → Int32 → (Nat → Int32) → (Nat → Int32) → Int32 → Prop} (hw : wq_X4_readSum_s_r4 v1_length f1_bytes v1_at v1_token v1_fault v1_faultPlace f0_kinds f0_values v0_length p2 Q) : Met l yX4_readSum wsX4_readSum ({ frames := 24, cells := 0, slots := 0, locals := 547 }) (va_Pc [.ref a0, .ref a1, .int p2] (cPs (zE) l (dC, dI) (kT cyB cyI cyJ cyP) (wd14_6 a0 a0_kinds a0_values z0_pile z0_facts v0_length a1 a1_bytes v1_length v1_at v1_token z1_filled v1_fault v1_faultPlace a1_bytes cyB f1_bytes a0_kinds cyI f0_kinds a0_values cyI f0_values) sz)) (va_Qv (fun (u : Int32 × Int32 × Int32 × Int32 × (Nat → Int32) × (Nat → Int32) × Int32) => Q u.1 u.2.1 u.2.2.1 u.2.2.2.1 u.2.2.2.2.1 u.2.2.2.2.2.1 u.2.2.2.2.2.2) (cB (dC, dI) (kT cyB cyI cyJ cyP) (va_A (wd14_6 a0 a0_kinds a0_values z0_pile z0_facts v0_length a1 a1_bytes v1_length v1_at v1_token z1_filled v1_fault v1_faultPlace a1_bytes cyB f1_bytes a0_kinds cyI f0_kinds a0_values cyI f0_values) sz) (fun u : Int32 × Int32 × Int32 × Int32 × (Nat → Int32) × (Nat → Int32) × Int32 => ((wd14_6 a0 a0_kinds a0_values z0_pile z0_facts u.2.2.2.2.2.2 a1 a1_bytes v1_length u.1 u.2.1 z1_filled u.2.2.1 u.2.2.2.1 a1_bytes cyB f1_bytes a0_kinds cyI u.2.2.2.2.1 a0_values cyI u.2.2.2.2.2.1) : va_W))) (va_A (wd14_6 a0 a0_kinds a0_values z0_pile z0_facts v0_length a1 a1_bytes v1_length v1_at v1_token z1_filled v1_fault v1_faultPlace a1_bytes cyB f1_bytes a0_kinds cyI f0_kinds a0_values cyI f0_values) sz)) 0 0 (va_A (wd14_6 a0 a0_kinds a0_values z0_pile z0_facts v0_length a1 a1_bytes v1_length v1_at v1_token z1_filled v1_fault v1_faultPlace a1_bytes cyB f1_bytes a0_kinds cyI f0_kinds a0_values cyI f0_values) sz) :=
  ck_X4_readSum_s_g wq_X4_readSum_s_r3 20 454 (by decide) (by decide) ck_X4_readSum_s_r3 l dC dI cyB cyI cyJ cyP a0 a1 a1_bytes a0_kinds a0_values sz z0_pile z0_facts z1_filled v1_length f1_bytes v1_at v1_token v1_fault v1_faultPlace f0_kinds f0_values v0_length p2 hw
theorem ck_X4_readSum_s_r5 (l : Launch) (dC : Nat → ClassId) (dI : Nat → Nat → Nat) (cyB cyI cyJ cyP : ClassId) (a0 a1 a1_bytes a0_kinds a0_values : Nat) (sz : Nat) (z0_pile : Value) (z0_facts : Value) (z1_filled : Value) (v1_length : Int32) (f1_bytes : Nat → Int32) (v1_at : Int32) (v1_token : Int32) (v1_fault : Int32) (v1_faultPlace : Int32) (f0_kinds : Nat → Int32) (f0_values : Nat → Int32) (v0_length : Int32) (p2 : Int32) {Q : Int32 → Int32 → Int32 → Int32 → (Nat → Int32) → (Nat → Int32) → Int32 → Prop} (hw : wq_X4_readSum_s_r5 v1_length f1_bytes v1_at v1_token v1_fault v1_faultPlace f0_kinds f0_values v0_length p2 Q) : Met l yX4_readSum wsX4_readSum ({ frames := 28, cells := 0, slots := 0, locals := 640 }) (va_Pc [.ref a0, .ref a1, .int p2] (cPs (zE) l (dC, dI) (kT cyB cyI cyJ cyP) (wd14_6 a0 a0_kinds a0_values z0_pile z0_facts v0_length a1 a1_bytes v1_length v1_at v1_token z1_filled v1_fault v1_faultPlace a1_bytes cyB f1_bytes a0_kinds cyI f0_kinds a0_values cyI f0_values) sz)) (va_Qv (fun (u : Int32 × Int32 × Int32 × Int32 × (Nat → Int32) × (Nat → Int32) × Int32) => Q u.1 u.2.1 u.2.2.1 u.2.2.2.1 u.2.2.2.2.1 u.2.2.2.2.2.1 u.2.2.2.2.2.2) (cB (dC, dI) (kT cyB cyI cyJ cyP) (va_A (wd14_6 a0 a0_kinds a0_values z0_pile z0_facts v0_length a1 a1_bytes v1_length v1_at v1_token z1_filled v1_fault v1_faultPlace a1_bytes cyB f1_bytes a0_kinds cyI f0_kinds a0_values cyI f0_values) sz) (fun u : Int32 × Int32 × Int32 × Int32 × (Nat → Int32) × (Nat → Int32) × Int32 => ((wd14_6 a0 a0_kinds a0_values z0_pile z0_facts u.2.2.2.2.2.2 a1 a1_bytes v1_length u.1 u.2.1 z1_filled u.2.2.1 u.2.2.2.1 a1_bytes cyB f1_bytes a0_kinds cyI u.2.2.2.2.1 a0_values cyI u.2.2.2.2.2.1) : va_W))) (va_A (wd14_6 a0 a0_kinds a0_values z0_pile z0_facts v0_length a1 a1_bytes v1_length v1_at v1_token z1_filled v1_fault v1_faultPlace a1_bytes cyB f1_bytes a0_kinds cyI f0_kinds a0_values cyI f0_values) sz)) 0 0 (va_A (wd14_6 a0 a0_kinds a0_values z0_pile z0_facts v0_length a1 a1_bytes v1_length v1_at v1_token z1_filled v1_fault v1_faultPlace a1_bytes cyB f1_bytes a0_kinds cyI f0_kinds a0_values cyI f0_values) sz) :=
  ck_X4_readSum_s_g wq_X4_readSum_s_r4 24 547 (by decide) (by decide) ck_X4_readSum_s_r4 l dC dI cyB cyI cyJ cyP a0 a1 a1_bytes a0_kinds a0_values sz z0_pile z0_facts z1_filled v1_length f1_bytes v1_at v1_token v1_fault v1_faultPlace f0_kinds f0_values v0_length p2 hw
theorem ck_X4_readSum_s_r6 (l : Launch) (dC : Nat → ClassId) (dI : Nat → Nat → Nat) (cyB cyI cyJ cyP : ClassId) (a0 a1 a1_bytes a0_kinds a0_values : Nat) (sz : Nat) (z0_pile : Value) (z0_facts : Value) (z1_filled : Value) (v1_length : Int32) (f1_bytes : Nat → Int32) (v1_at : Int32) (v1_token : Int32) (v1_fault : Int32) (v1_faultPlace : Int32) (f0_kinds : Nat → Int32) (f0_values : Nat → Int32) (v0_length : Int32) (p2 : Int32) {Q : Int32 → Int32 → Int32 → Int32 → (Nat → Int32) → (Nat → Int32) → Int32 → Prop} (hw : wq_X4_readSum_s_r6 v1_length f1_bytes v1_at v1_token v1_fault v1_faultPlace f0_kinds f0_values v0_length p2 Q) : Met l yX4_readSum wsX4_readSum ({ frames := 32, cells := 0, slots := 0, locals := 733 }) (va_Pc [.ref a0, .ref a1, .int p2] (cPs (zE) l (dC, dI) (kT cyB cyI cyJ cyP) (wd14_6 a0 a0_kinds a0_values z0_pile z0_facts v0_length a1 a1_bytes v1_length v1_at v1_token z1_filled v1_fault v1_faultPlace a1_bytes cyB f1_bytes a0_kinds cyI f0_kinds a0_values cyI f0_values) sz)) (va_Qv (fun (u : Int32 × Int32 × Int32 × Int32 × (Nat → Int32) × (Nat → Int32) × Int32) => Q u.1 u.2.1 u.2.2.1 u.2.2.2.1 u.2.2.2.2.1 u.2.2.2.2.2.1 u.2.2.2.2.2.2) (cB (dC, dI) (kT cyB cyI cyJ cyP) (va_A (wd14_6 a0 a0_kinds a0_values z0_pile z0_facts v0_length a1 a1_bytes v1_length v1_at v1_token z1_filled v1_fault v1_faultPlace a1_bytes cyB f1_bytes a0_kinds cyI f0_kinds a0_values cyI f0_values) sz) (fun u : Int32 × Int32 × Int32 × Int32 × (Nat → Int32) × (Nat → Int32) × Int32 => ((wd14_6 a0 a0_kinds a0_values z0_pile z0_facts u.2.2.2.2.2.2 a1 a1_bytes v1_length u.1 u.2.1 z1_filled u.2.2.1 u.2.2.2.1 a1_bytes cyB f1_bytes a0_kinds cyI u.2.2.2.2.1 a0_values cyI u.2.2.2.2.2.1) : va_W))) (va_A (wd14_6 a0 a0_kinds a0_values z0_pile z0_facts v0_length a1 a1_bytes v1_length v1_at v1_token z1_filled v1_fault v1_faultPlace a1_bytes cyB f1_bytes a0_kinds cyI f0_kinds a0_values cyI f0_values) sz)) 0 0 (va_A (wd14_6 a0 a0_kinds a0_values z0_pile z0_facts v0_length a1 a1_bytes v1_length v1_at v1_token z1_filled v1_fault v1_faultPlace a1_bytes cyB f1_bytes a0_kinds cyI f0_kinds a0_values cyI f0_values) sz) :=
  ck_X4_readSum_s_g wq_X4_readSum_s_r5 28 640 (by decide) (by decide) ck_X4_readSum_s_r5 l dC dI cyB cyI cyJ cyP a0 a1 a1_bytes a0_kinds a0_values sz z0_pile z0_facts z1_filled v1_length f1_bytes v1_at v1_token v1_fault v1_faultPlace f0_kinds f0_values v0_length p2 hw
