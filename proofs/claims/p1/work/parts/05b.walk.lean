theorem ui_X9_add_X9 : ∀ w ∈ u_ws RX9 TX9 12, w ∈ wsX9_add := by decide +kernel
theorem uw_X9_add_f11 : (.fieldLink RX9 11 "MarchHares$Work" "kinds" "[I" : Cond) ∈ wsX9_add := by decide +kernel
theorem uw_X9_add_f15 : (.fieldLink RX9 15 "MarchHares$Work" "first" "[I" : Cond) ∈ wsX9_add := by decide +kernel
theorem uw_X9_add_f18 : (.fieldLink RX9 18 "MarchHares$Work" "second" "[I" : Cond) ∈ wsX9_add := by decide +kernel
theorem uw_X9_add_f21 : (.fieldLink RX9 21 "MarchHares$Work" "third" "[I" : Cond) ∈ wsX9_add := by decide +kernel
theorem uw_X9_add_f37 : (.fieldLink RX9 37 "MarchHares$Work" "length" "I" : Cond) ∈ wsX9_add := by decide +kernel
def wq_X9_add  (f0_kinds : Nat → Int32) (f0_first : Nat → Int32) (f0_second : Nat → Int32) (f0_third : Nat → Int32) (v0_length : Int32) (p1 : Int32) (p2 : Int32) (p3 : Int32) (p4 : Int32) (Q : (Nat → Int32) → (Nat → Int32) → (Nat → Int32) → (Nat → Int32) → Int32 → Prop) : Prop := ((50 ≤ v0_length → (Q f0_kinds f0_first f0_second f0_third v0_length)) ∧ (¬ 50 ≤ v0_length → vp_in v0_length 50 ∧ ∀ f2 : Nat → Int32, f2 = upd f0_kinds v0_length.toNatClampNeg p1 → vp_in v0_length 50 ∧ ∀ f3 : Nat → Int32, f3 = upd f0_first v0_length.toNatClampNeg p2 → vp_in v0_length 50 ∧ ∀ f4 : Nat → Int32, f4 = upd f0_second v0_length.toNatClampNeg p3 → vp_in v0_length 50 ∧ ∀ f5 : Nat → Int32, f5 = upd f0_third v0_length.toNatClampNeg p4 → ∀ x6 : Int32, x6 = v0_length + 1 → (Q f2 f3 f4 f5 x6)))
set_option maxHeartbeats 4000000 in
set_option maxRecDepth 100000 in
theorem ck_X9_add (l : Launch) (dC : Nat → ClassId) (dI : Nat → Nat → Nat) (cyB cyI cyJ cyP : ClassId) (a0 a0_kinds a0_first a0_second a0_third : Nat) (sz : Nat) (z0_heads : Value) (z0_rounds : Value) (z0_open : Value) (z0_hares : Value) (z0_forms : Value) (z0_done : Value) (z0_refused : Value)  (f0_kinds : Nat → Int32) (f0_first : Nat → Int32) (f0_second : Nat → Int32) (f0_third : Nat → Int32) (v0_length : Int32) (p1 : Int32) (p2 : Int32) (p3 : Int32) (p4 : Int32) {Q : (Nat → Int32) → (Nat → Int32) → (Nat → Int32) → (Nat → Int32) → Int32 → Prop} (hw : wq_X9_add  f0_kinds f0_first f0_second f0_third v0_length p1 p2 p3 p4 Q) : Met l yX9_add wsX9_add ({ frames := 0, cells := 0, slots := 0, locals := 0 }) (va_Pc [.ref a0, .int p1, .int p2, .int p3, .int p4] (cPc (dC, dI) (kT cyB cyI cyJ cyP) [(a0, .inr (9, [.ref a0_kinds, .ref a0_first, .ref a0_second, .ref a0_third, z0_heads, z0_rounds, .int v0_length, z0_open, z0_hares, z0_forms, z0_done, z0_refused])), (a0_kinds, .inl (cyI, 50, .inl f0_kinds)), (a0_first, .inl (cyI, 50, .inl f0_first)), (a0_second, .inl (cyI, 50, .inl f0_second)), (a0_third, .inl (cyI, 50, .inl f0_third))] sz)) (va_Qv (fun (u : (Nat → Int32) × (Nat → Int32) × (Nat → Int32) × (Nat → Int32) × Int32) => Q u.1 u.2.1 u.2.2.1 u.2.2.2.1 u.2.2.2.2) (cB (dC, dI) (kT cyB cyI cyJ cyP) (va_A [(a0, .inr (9, [.ref a0_kinds, .ref a0_first, .ref a0_second, .ref a0_third, z0_heads, z0_rounds, .int v0_length, z0_open, z0_hares, z0_forms, z0_done, z0_refused])), (a0_kinds, .inl (cyI, 50, .inl f0_kinds)), (a0_first, .inl (cyI, 50, .inl f0_first)), (a0_second, .inl (cyI, 50, .inl f0_second)), (a0_third, .inl (cyI, 50, .inl f0_third))] sz) (fun u : (Nat → Int32) × (Nat → Int32) × (Nat → Int32) × (Nat → Int32) × Int32 => ([(a0, .inr (9, [.ref a0_kinds, .ref a0_first, .ref a0_second, .ref a0_third, z0_heads, z0_rounds, .int u.2.2.2.2, z0_open, z0_hares, z0_forms, z0_done, z0_refused])), (a0_kinds, .inl (cyI, 50, .inl u.1)), (a0_first, .inl (cyI, 50, .inl u.2.1)), (a0_second, .inl (cyI, 50, .inl u.2.2.1)), (a0_third, .inl (cyI, 50, .inl u.2.2.2.1))] : va_W))) (va_A [(a0, .inr (9, [.ref a0_kinds, .ref a0_first, .ref a0_second, .ref a0_third, z0_heads, z0_rounds, .int v0_length, z0_open, z0_hares, z0_forms, z0_done, z0_refused])), (a0_kinds, .inl (cyI, 50, .inl f0_kinds)), (a0_first, .inl (cyI, 50, .inl f0_first)), (a0_second, .inl (cyI, 50, .inl f0_second)), (a0_third, .inl (cyI, 50, .inl f0_third))] sz)) 0 0 (va_A [(a0, .inr (9, [.ref a0_kinds, .ref a0_first, .ref a0_second, .ref a0_third, z0_heads, z0_rounds, .int v0_length, z0_open, z0_hares, z0_forms, z0_done, z0_refused])), (a0_kinds, .inl (cyI, 50, .inl f0_kinds)), (a0_first, .inl (cyI, 50, .inl f0_first)), (a0_second, .inl (cyI, 50, .inl f0_second)), (a0_third, .inl (cyI, 50, .inl f0_third))] sz) := by
  refine Met.ofW (cc := cX9_add) (maxL := 5) (ret := none) (by decide) rfl ?_
  intro p e s m args below meth c s₁ B hml hv
  obtain ⟨rfl, hsz, hP, hK, hD0, hNw⟩ := hv
  have hx := B.exec
  have hb := B.bytes
  have hr := B.returns
  have hts := atoms_spec (ws := wsX9_add) B.pre
  have hown : s.vm.findClass RX9 = some m.cls := findClass_of_methodNamed B.named
  have hlocks := B.notSynchronized
  subst hsz
  have hD := hD0.self (sz := s.heap.size)
  generalize hAe : va_A [(a0, .inr (9, [.ref a0_kinds, .ref a0_first, .ref a0_second, .ref a0_third, z0_heads, z0_rounds, .int v0_length, z0_open, z0_hares, z0_forms, z0_done, z0_refused])), (a0_kinds, .inl (cyI, 50, .inl f0_kinds)), (a0_first, .inl (cyI, 50, .inl f0_first)), (a0_second, .inl (cyI, 50, .inl f0_second)), (a0_third, .inl (cyI, 50, .inl f0_third))] s.heap.size = A at hD ⊢
  have hA : ∀ q : Nat, s.heap.size ≤ q → A q := fun q h => by rw [← hAe]; exact Or.inr h
  have hS : va_S A s.heap s.heap [] := va_S.rf
  have hP : va_P (dC, dI) vwCl [(a0, .inr (9, [.ref a0_kinds, .ref a0_first, .ref a0_second, .ref a0_third, z0_heads, z0_rounds, .int v0_length, z0_open, z0_hares, z0_forms, z0_done, z0_refused])), (a0_kinds, .inl (cyI, 50, .inl f0_kinds)), (a0_first, .inl (cyI, 50, .inl f0_first)), (a0_second, .inl (cyI, 50, .inl f0_second)), (a0_third, .inl (cyI, 50, .inl f0_third))] s.heap := hP
  have hl := lv_entry ([.ref a0, .int p1, .int p2, .int p3, .int p4]) (n := 5) (Nat.le_of_ble_eq_true rfl)
  rw [lg_entry_eq]
  generalize (lg_sl ([.ref a0, .int p1, .int p2, .int p3, .int p4]) ++ List.replicate (5 - (lg_sl ([.ref a0, .int p1, .int p2, .int p3, .int p4])).length) Slot.unset).toArray = ls at hl ⊢
  have hl : lv_has ls 5 [(0, .ref a0), (1, .int p1), (2, .int p2), (3, .int p3), (4, .int p4)] := hl
  have C0 : cfx p s m _ meth c cX9_add none wsX9_add RX9 5 A (dC, dI) (kT cyB cyI cyJ cyP) := ⟨hx, hb, hr, hts, hown, hlocks, hml, hA, hK, hNw⟩
  clear hAe
  obtain ⟨H, hH⟩ : ∃ H, H = s.heap := ⟨_, rfl⟩
  rw [← hH] at hP ⊢
  have hS : va_S A s.heap H [] := by rw [hH]; exact va_S.rf
  have hS := hS
  refine lv_aload_n hx hb dX9_add_0 rfl (lv_at hl 0 rfl) ?_
  refine va_get (D := (dC, dI)) (ci := 9) (v := .int v0_length) (C := RX9) (T := TX9) (N := 12) hx hb hts ui_X9_add_X9 hown hK hP 0 rfl rfl 6 (by decide) (hts _ uw_X9_add_f37) (fun _ h9 => h9) rfl dX9_add_1 ?_
  refine lv_bipush (v := 50) hx hb dX9_add_4 (by decide) ?_
  refine lv_icmp_ge (tgt := 60) hx hb dX9_add_6 (by decide) (fun c1 => ?_) (fun c1 => ?_)
  · have hw := hw.1 c1
    exact ((W.vret hx hb hr (fun t ht hW => ⟨⟨(f0_kinds, f0_first, f0_second, f0_third, v0_length), rfl, hw, by rw [ht]; exact hP, va_K.moved hW.alike hK, hD⟩, hS.F ht⟩) hS.2.2 dX9_add_60))
  · have hw := hw.2 c1
    refine lv_aload_n hx hb dX9_add_9 rfl (lv_at hl 0 rfl) ?_
    refine va_get (D := (dC, dI)) (ci := 9) (v := .ref a0_kinds) (C := RX9) (T := TX9) (N := 12) hx hb hts ui_X9_add_X9 hown hK hP 0 rfl rfl 0 (by decide) (hts _ uw_X9_add_f11) (fun _ h9 => h9) rfl dX9_add_10 ?_
    refine lv_aload_n hx hb dX9_add_13 rfl (lv_at hl 0 rfl) ?_
    refine va_get (D := (dC, dI)) (ci := 9) (v := .int v0_length) (C := RX9) (T := TX9) (N := 12) hx hb hts ui_X9_add_X9 hown hK hP 0 rfl rfl 6 (by decide) (hts _ uw_X9_add_f37) (fun _ h9 => h9) rfl dX9_add_14 ?_
    refine lv_iload_n hx hb dX9_add_17 rfl (lv_at hl 1 rfl) ?_
    obtain ⟨hi9, hw⟩ := hw
    refine va_iast hx hb hK hP hD hS 1 1 rfl rfl hi9 dX9_add_18 (fun H locs hP hD hS => ?_)
    obtain ⟨f2, ef2⟩ : ∃ y : Nat → Int32, y = upd f0_kinds v0_length.toNatClampNeg p1 := ⟨_, rfl⟩
    have hw := hw f2 ef2
    have hP : va_P (dC, dI) vwCl [(a0, .inr (9, [.ref a0_kinds, .ref a0_first, .ref a0_second, .ref a0_third, z0_heads, z0_rounds, .int v0_length, z0_open, z0_hares, z0_forms, z0_done, z0_refused])), (a0_kinds, .inl (cyI, 50, .inl f2)), (a0_first, .inl (cyI, 50, .inl f0_first)), (a0_second, .inl (cyI, 50, .inl f0_second)), (a0_third, .inl (cyI, 50, .inl f0_third))] H := by rw [ef2]; exact hP
    have hD : va_D A [(a0, .inr (9, [.ref a0_kinds, .ref a0_first, .ref a0_second, .ref a0_third, z0_heads, z0_rounds, .int v0_length, z0_open, z0_hares, z0_forms, z0_done, z0_refused])), (a0_kinds, .inl (cyI, 50, .inl f2)), (a0_first, .inl (cyI, 50, .inl f0_first)), (a0_second, .inl (cyI, 50, .inl f0_second)), (a0_third, .inl (cyI, 50, .inl f0_third))] := by rw [ef2]; exact hD
    refine lv_aload_n hx hb dX9_add_19 rfl (lv_at hl 0 rfl) ?_
    refine va_get (D := (dC, dI)) (ci := 9) (v := .ref a0_first) (C := RX9) (T := TX9) (N := 12) hx hb hts ui_X9_add_X9 hown hK hP 0 rfl rfl 1 (by decide) (hts _ uw_X9_add_f15) (fun _ h9 => h9) rfl dX9_add_20 ?_
    refine lv_aload_n hx hb dX9_add_23 rfl (lv_at hl 0 rfl) ?_
    refine va_get (D := (dC, dI)) (ci := 9) (v := .int v0_length) (C := RX9) (T := TX9) (N := 12) hx hb hts ui_X9_add_X9 hown hK hP 0 rfl rfl 6 (by decide) (hts _ uw_X9_add_f37) (fun _ h9 => h9) rfl dX9_add_24 ?_
    refine lv_iload_n hx hb dX9_add_27 rfl (lv_at hl 2 rfl) ?_
    obtain ⟨hi9, hw⟩ := hw
    refine va_iast hx hb hK hP hD hS 2 1 rfl rfl hi9 dX9_add_28 (fun H locs hP hD hS => ?_)
    obtain ⟨f3, ef3⟩ : ∃ y : Nat → Int32, y = upd f0_first v0_length.toNatClampNeg p2 := ⟨_, rfl⟩
    have hw := hw f3 ef3
    have hP : va_P (dC, dI) vwCl [(a0, .inr (9, [.ref a0_kinds, .ref a0_first, .ref a0_second, .ref a0_third, z0_heads, z0_rounds, .int v0_length, z0_open, z0_hares, z0_forms, z0_done, z0_refused])), (a0_kinds, .inl (cyI, 50, .inl f2)), (a0_first, .inl (cyI, 50, .inl f3)), (a0_second, .inl (cyI, 50, .inl f0_second)), (a0_third, .inl (cyI, 50, .inl f0_third))] H := by rw [ef3]; exact hP
    have hD : va_D A [(a0, .inr (9, [.ref a0_kinds, .ref a0_first, .ref a0_second, .ref a0_third, z0_heads, z0_rounds, .int v0_length, z0_open, z0_hares, z0_forms, z0_done, z0_refused])), (a0_kinds, .inl (cyI, 50, .inl f2)), (a0_first, .inl (cyI, 50, .inl f3)), (a0_second, .inl (cyI, 50, .inl f0_second)), (a0_third, .inl (cyI, 50, .inl f0_third))] := by rw [ef3]; exact hD
    refine lv_aload_n hx hb dX9_add_29 rfl (lv_at hl 0 rfl) ?_
    refine va_get (D := (dC, dI)) (ci := 9) (v := .ref a0_second) (C := RX9) (T := TX9) (N := 12) hx hb hts ui_X9_add_X9 hown hK hP 0 rfl rfl 2 (by decide) (hts _ uw_X9_add_f18) (fun _ h9 => h9) rfl dX9_add_30 ?_
    refine lv_aload_n hx hb dX9_add_33 rfl (lv_at hl 0 rfl) ?_
    refine va_get (D := (dC, dI)) (ci := 9) (v := .int v0_length) (C := RX9) (T := TX9) (N := 12) hx hb hts ui_X9_add_X9 hown hK hP 0 rfl rfl 6 (by decide) (hts _ uw_X9_add_f37) (fun _ h9 => h9) rfl dX9_add_34 ?_
    refine lv_iload_n hx hb dX9_add_37 rfl (lv_at hl 3 rfl) ?_
    obtain ⟨hi9, hw⟩ := hw
    refine va_iast hx hb hK hP hD hS 3 1 rfl rfl hi9 dX9_add_38 (fun H locs hP hD hS => ?_)
    obtain ⟨f4, ef4⟩ : ∃ y : Nat → Int32, y = upd f0_second v0_length.toNatClampNeg p3 := ⟨_, rfl⟩
    have hw := hw f4 ef4
    have hP : va_P (dC, dI) vwCl [(a0, .inr (9, [.ref a0_kinds, .ref a0_first, .ref a0_second, .ref a0_third, z0_heads, z0_rounds, .int v0_length, z0_open, z0_hares, z0_forms, z0_done, z0_refused])), (a0_kinds, .inl (cyI, 50, .inl f2)), (a0_first, .inl (cyI, 50, .inl f3)), (a0_second, .inl (cyI, 50, .inl f4)), (a0_third, .inl (cyI, 50, .inl f0_third))] H := by rw [ef4]; exact hP
    have hD : va_D A [(a0, .inr (9, [.ref a0_kinds, .ref a0_first, .ref a0_second, .ref a0_third, z0_heads, z0_rounds, .int v0_length, z0_open, z0_hares, z0_forms, z0_done, z0_refused])), (a0_kinds, .inl (cyI, 50, .inl f2)), (a0_first, .inl (cyI, 50, .inl f3)), (a0_second, .inl (cyI, 50, .inl f4)), (a0_third, .inl (cyI, 50, .inl f0_third))] := by rw [ef4]; exact hD
    refine lv_aload_n hx hb dX9_add_39 rfl (lv_at hl 0 rfl) ?_
    refine va_get (D := (dC, dI)) (ci := 9) (v := .ref a0_third) (C := RX9) (T := TX9) (N := 12) hx hb hts ui_X9_add_X9 hown hK hP 0 rfl rfl 3 (by decide) (hts _ uw_X9_add_f21) (fun _ h9 => h9) rfl dX9_add_40 ?_
    refine lv_aload_n hx hb dX9_add_43 rfl (lv_at hl 0 rfl) ?_
    refine va_get (D := (dC, dI)) (ci := 9) (v := .int v0_length) (C := RX9) (T := TX9) (N := 12) hx hb hts ui_X9_add_X9 hown hK hP 0 rfl rfl 6 (by decide) (hts _ uw_X9_add_f37) (fun _ h9 => h9) rfl dX9_add_44 ?_
    refine lv_iload hx hb dX9_add_47 (lv_at hl 4 rfl) ?_
    obtain ⟨hi9, hw⟩ := hw
    refine va_iast hx hb hK hP hD hS 4 1 rfl rfl hi9 dX9_add_49 (fun H locs hP hD hS => ?_)
    obtain ⟨f5, ef5⟩ : ∃ y : Nat → Int32, y = upd f0_third v0_length.toNatClampNeg p4 := ⟨_, rfl⟩
    have hw := hw f5 ef5
    have hP : va_P (dC, dI) vwCl [(a0, .inr (9, [.ref a0_kinds, .ref a0_first, .ref a0_second, .ref a0_third, z0_heads, z0_rounds, .int v0_length, z0_open, z0_hares, z0_forms, z0_done, z0_refused])), (a0_kinds, .inl (cyI, 50, .inl f2)), (a0_first, .inl (cyI, 50, .inl f3)), (a0_second, .inl (cyI, 50, .inl f4)), (a0_third, .inl (cyI, 50, .inl f5))] H := by rw [ef5]; exact hP
    have hD : va_D A [(a0, .inr (9, [.ref a0_kinds, .ref a0_first, .ref a0_second, .ref a0_third, z0_heads, z0_rounds, .int v0_length, z0_open, z0_hares, z0_forms, z0_done, z0_refused])), (a0_kinds, .inl (cyI, 50, .inl f2)), (a0_first, .inl (cyI, 50, .inl f3)), (a0_second, .inl (cyI, 50, .inl f4)), (a0_third, .inl (cyI, 50, .inl f5))] := by rw [ef5]; exact hD
    refine lv_aload_n hx hb dX9_add_50 rfl (lv_at hl 0 rfl) ?_
    refine lv_dup hx hb dX9_add_51 rfl ?_
    refine va_get (D := (dC, dI)) (ci := 9) (v := .int v0_length) (C := RX9) (T := TX9) (N := 12) hx hb hts ui_X9_add_X9 hown hK hP 0 rfl rfl 6 (by decide) (hts _ uw_X9_add_f37) (fun _ h9 => h9) rfl dX9_add_52 ?_
    refine lv_iconst (v := 1) hx hb dX9_add_55 (by decide) ?_
    refine lv_iadd hx hb dX9_add_56 ?_
    refine lv_topi (fun x6 ex6 => ?_)
    have hw := hw x6 ex6
    refine va_put (D := (dC, dI)) (ci := 9) (v := .int x6) (ty := .int) (C := RX9) (T := TX9) (N := 12) hx hb hts ui_X9_add_X9 tyX9 tyX9_ok nmX9 hown hK hP hD hS 0 rfl rfl 6 (by decide) (hts _ uw_X9_add_f37) (fun _ h9 => h9) rfl (by decide +kernel) rfl rfl (Nat.le_of_ble_eq_true rfl) dX9_add_57 (fun H locs hP hD hS => ?_)
    have hP : va_P (dC, dI) vwCl [(a0, .inr (9, [.ref a0_kinds, .ref a0_first, .ref a0_second, .ref a0_third, z0_heads, z0_rounds, .int x6, z0_open, z0_hares, z0_forms, z0_done, z0_refused])), (a0_kinds, .inl (cyI, 50, .inl f2)), (a0_first, .inl (cyI, 50, .inl f3)), (a0_second, .inl (cyI, 50, .inl f4)), (a0_third, .inl (cyI, 50, .inl f5))] H := hP
    have hD : va_D A [(a0, .inr (9, [.ref a0_kinds, .ref a0_first, .ref a0_second, .ref a0_third, z0_heads, z0_rounds, .int x6, z0_open, z0_hares, z0_forms, z0_done, z0_refused])), (a0_kinds, .inl (cyI, 50, .inl f2)), (a0_first, .inl (cyI, 50, .inl f3)), (a0_second, .inl (cyI, 50, .inl f4)), (a0_third, .inl (cyI, 50, .inl f5))] := hD
    exact ((W.vret hx hb hr (fun t ht hW => ⟨⟨(f2, f3, f4, f5, x6), rfl, hw, by rw [ht]; exact hP, va_K.moved hW.alike hK, hD⟩, hS.F ht⟩) hS.2.2 dX9_add_60))
theorem ui_X9_closeLoop_X9 : ∀ w ∈ u_ws RX9 TX9 12, w ∈ wsX9_closeLoop := by decide +kernel
theorem uw_X9_closeLoop_f18 : (.fieldLink RX9 18 "MarchHares$Work" "second" "[I" : Cond) ∈ wsX9_closeLoop := by decide +kernel
theorem uw_X9_closeLoop_f24 : (.fieldLink RX9 24 "MarchHares$Work" "heads" "[I" : Cond) ∈ wsX9_closeLoop := by decide +kernel
theorem uw_X9_closeLoop_f37 : (.fieldLink RX9 37 "MarchHares$Work" "length" "I" : Cond) ∈ wsX9_closeLoop := by decide +kernel
theorem uw_X9_closeLoop_f40 : (.fieldLink RX9 40 "MarchHares$Work" "open" "I" : Cond) ∈ wsX9_closeLoop := by decide +kernel
def wb_X9_closeLoop_36 (f0_heads : Nat → Int32) (Q : Int32 → (Nat → Int32) → (Nat → Int32) → (Nat → Int32) → (Nat → Int32) → Int32 → Prop)  (v0_open : Int32) (f0_second : Nat → Int32) (f0_kinds : Nat → Int32) (f0_first : Nat → Int32) (f0_third : Nat → Int32) (v0_length : Int32) (l1 : Int32) : Prop := wq_X9_add  f0_kinds f0_first f0_second f0_third v0_length 5 l1 0 0 (fun f5 f6 f7 f8 x9 => (Q v0_open f7 f5 f6 f8 x9))
set_option maxHeartbeats 4000000 in
set_option maxRecDepth 100000 in
theorem kb_X9_closeLoop_36 {p : Program} {l : Launch} {e : Env} {s : State} {m : MethodId} {args : Array Value} {below : List Frame} {meth : Method} {c : Code} {A : Nat → Prop} (dC : Nat → ClassId) (dI : Nat → Nat → Nat) (cyB cyI cyJ cyP : ClassId) (a0 a0_heads a0_second a0_kinds a0_first a0_third : Nat) (z0_rounds : Value) (z0_hares : Value) (z0_forms : Value) (z0_done : Value) (z0_refused : Value) (f0_heads : Nat → Int32) (Q : Int32 → (Nat → Int32) → (Nat → Int32) → (Nat → Int32) → (Nat → Int32) → Int32 → Prop)  (C0 : cfx p s m args meth c cX9_closeLoop none wsX9_closeLoop RX9 2 A (dC, dI) (kT cyB cyI cyJ cyP)) : ∀ (H : Heap) (locs : List Loc) (ls : Array Slot) (v0_open : Int32) (f0_second : Nat → Int32) (f0_kinds : Nat → Int32) (f0_first : Nat → Int32) (f0_third : Nat → Int32) (v0_length : Int32) (l1 : Int32), va_P (dC, dI) vwCl [(a0, .inr (9, [.ref a0_kinds, .ref a0_first, .ref a0_second, .ref a0_third, .ref a0_heads, z0_rounds, .int v0_length, .int v0_open, z0_hares, z0_forms, z0_done, z0_refused])), (a0_heads, .inl (cyI, 6, .inl f0_heads)), (a0_second, .inl (cyI, 50, .inl f0_second)), (a0_kinds, .inl (cyI, 50, .inl f0_kinds)), (a0_first, .inl (cyI, 50, .inl f0_first)), (a0_third, .inl (cyI, 50, .inl f0_third))] H → va_D A [(a0, .inr (9, [.ref a0_kinds, .ref a0_first, .ref a0_second, .ref a0_third, .ref a0_heads, z0_rounds, .int v0_length, .int v0_open, z0_hares, z0_forms, z0_done, z0_refused])), (a0_heads, .inl (cyI, 6, .inl f0_heads)), (a0_second, .inl (cyI, 50, .inl f0_second)), (a0_kinds, .inl (cyI, 50, .inl f0_kinds)), (a0_first, .inl (cyI, 50, .inl f0_first)), (a0_third, .inl (cyI, 50, .inl f0_third))] → va_S A s.heap H locs → lv_has ls 2 [(0, .ref a0), (1, .int l1)] → wb_X9_closeLoop_36 f0_heads Q  v0_open f0_second f0_kinds f0_first f0_third v0_length l1 → W p l e (headSpec wsX9_closeLoop ({ frames := 1, cells := 0, slots := 0, locals := 24 })).room s m args below meth c H locs 0 0 (MQ below (va_Qv (fun (u : Int32 × (Nat → Int32) × (Nat → Int32) × (Nat → Int32) × (Nat → Int32) × Int32) => Q u.1 u.2.1 u.2.2.1 u.2.2.2.1 u.2.2.2.2.1 u.2.2.2.2.2) (cB (dC, dI) (kT cyB cyI cyJ cyP) A (fun u : Int32 × (Nat → Int32) × (Nat → Int32) × (Nat → Int32) × (Nat → Int32) × Int32 => ([(a0, .inr (9, [.ref a0_kinds, .ref a0_first, .ref a0_second, .ref a0_third, .ref a0_heads, z0_rounds, .int u.2.2.2.2.2, .int u.1, z0_hares, z0_forms, z0_done, z0_refused])), (a0_heads, .inl (cyI, 6, .inl f0_heads)), (a0_second, .inl (cyI, 50, .inl u.2.1)), (a0_kinds, .inl (cyI, 50, .inl u.2.2.1)), (a0_first, .inl (cyI, 50, .inl u.2.2.2.1)), (a0_third, .inl (cyI, 50, .inl u.2.2.2.2.1))] : va_W))) A) args s 0 0 A) (F0 m 36 ls []) := by
  obtain ⟨hx, hb, hr, hts, hown, hlocks, hml, hA, hK, hNw⟩ := id C0
  intro H locs ls v0_open f0_second f0_kinds f0_first f0_third v0_length l1 hP hD hS hl hw
  refine lv_aload_n hx hb dX9_closeLoop_36 rfl (lv_at hl 0 rfl) ?_
  refine lv_iconst (v := 5) hx hb dX9_closeLoop_37 (by decide) ?_
  refine lv_iload_n hx hb dX9_closeLoop_38 rfl (lv_at hl 1 rfl) ?_
  refine lv_iconst (v := 0) hx hb dX9_closeLoop_39 (by decide) ?_
  refine lv_iconst (v := 0) hx hb dX9_closeLoop_40 (by decide) ?_
  have hPc := hP.sub (ws' := [(a0, .inr (9, [.ref a0_kinds, .ref a0_first, .ref a0_second, .ref a0_third, .ref a0_heads, z0_rounds, .int v0_length, .int v0_open, z0_hares, z0_forms, z0_done, z0_refused])), (a0_kinds, .inl (cyI, 50, .inl f0_kinds)), (a0_first, .inl (cyI, 50, .inl f0_first)), (a0_second, .inl (cyI, 50, .inl f0_second)), (a0_third, .inl (cyI, 50, .inl f0_third))]) [0, 3, 4, 2, 5] rfl
  have hDc := hD.sub (ws' := [(a0, .inr (9, [.ref a0_kinds, .ref a0_first, .ref a0_second, .ref a0_third, .ref a0_heads, z0_rounds, .int v0_length, .int v0_open, z0_hares, z0_forms, z0_done, z0_refused])), (a0_kinds, .inl (cyI, 50, .inl f0_kinds)), (a0_first, .inl (cyI, 50, .inl f0_first)), (a0_second, .inl (cyI, 50, .inl f0_second)), (a0_third, .inl (cyI, 50, .inl f0_third))]) [0, 3, 4, 2, 5] (by decide) rfl
  have hFc := va_free (wc := [(a0, .inr (9, [.ref a0_kinds, .ref a0_first, .ref a0_second, .ref a0_third, .ref a0_heads, z0_rounds, .int v0_length, .int v0_open, z0_hares, z0_forms, z0_done, z0_refused])), (a0_kinds, .inl (cyI, 50, .inl f0_kinds)), (a0_first, .inl (cyI, 50, .inl f0_first)), (a0_second, .inl (cyI, 50, .inl f0_second)), (a0_third, .inl (cyI, 50, .inl f0_third))]) hD hS hA [0, 3, 4, 2, 5] rfl
  refine va_callv (va_runV (As := [.int 5, .int l1, .int 0, .int 0]) (rest := []) ⟨hx, hb, hml, hown, hts⟩ (ck_X9_add l dC dI cyB cyI cyJ cyP a0 a0_kinds a0_first a0_second a0_third H.size (.ref a0_heads) (z0_rounds) (.int v0_open) (z0_hares) (z0_forms) (z0_done) (z0_refused)  f0_kinds f0_first f0_second f0_third v0_length 5 l1 0 0 hw) (cwV 4 hts gX9_closeLoop_X9_add rfl rfl rfl (by decide +kernel) ⟨Nat.le_of_ble_eq_true rfl, Nat.le_of_ble_eq_true rfl⟩) ⟨cPc_blind, va_recv hK hPc (ci := 9) (q0 := 0) rfl rfl, cPc_pre hPc hK hDc hNw⟩ rfl rfl hl.1 rfl (lv_room (Nat.le_of_ble_eq_true rfl)) dX9_closeLoop_41 ⟨Nat.le_of_ble_eq_true rfl, Nat.le_of_ble_eq_true rfl⟩) hS (fun q _ h => hFc q h) hFc (fun u t H1 locs ht hvm hw hB hz1 hk1 hS => ?_)
  obtain ⟨f5, f6, f7, f8, x9⟩ := u
  obtain ⟨hP1, hK1, hD1⟩ := hB
  rw [ht] at hP1
  obtain ⟨hP, hD⟩ := va_join (wr := [(a0_heads, .inl (cyI, 6, .inl f0_heads))]) (w1 := [(a0, .inr (9, [.ref a0_kinds, .ref a0_first, .ref a0_second, .ref a0_third, .ref a0_heads, z0_rounds, .int x9, .int v0_open, z0_hares, z0_forms, z0_done, z0_refused])), (a0_kinds, .inl (cyI, 50, .inl f5)), (a0_first, .inl (cyI, 50, .inl f6)), (a0_second, .inl (cyI, 50, .inl f7)), (a0_third, .inl (cyI, 50, .inl f8))]) hP hD [0, 3, 4, 2, 5] [1] rfl rfl (by decide) (by decide) hk1 hFc hP1 hD1
  have hP : va_P (dC, dI) vwCl [(a0, .inr (9, [.ref a0_kinds, .ref a0_first, .ref a0_second, .ref a0_third, .ref a0_heads, z0_rounds, .int x9, .int v0_open, z0_hares, z0_forms, z0_done, z0_refused])), (a0_heads, .inl (cyI, 6, .inl f0_heads)), (a0_second, .inl (cyI, 50, .inl f7)), (a0_kinds, .inl (cyI, 50, .inl f5)), (a0_first, .inl (cyI, 50, .inl f6)), (a0_third, .inl (cyI, 50, .inl f8))] H1 := hP.sub [1, 0, 4, 2, 3, 5] rfl
  have hD : va_D A [(a0, .inr (9, [.ref a0_kinds, .ref a0_first, .ref a0_second, .ref a0_third, .ref a0_heads, z0_rounds, .int x9, .int v0_open, z0_hares, z0_forms, z0_done, z0_refused])), (a0_heads, .inl (cyI, 6, .inl f0_heads)), (a0_second, .inl (cyI, 50, .inl f7)), (a0_kinds, .inl (cyI, 50, .inl f5)), (a0_first, .inl (cyI, 50, .inl f6)), (a0_third, .inl (cyI, 50, .inl f8))] := hD.sub [1, 0, 4, 2, 3, 5] (by decide) rfl
  generalize H1 = H at hP hS ⊢
  exact ((W.vret hx hb hr (fun t ht hW => ⟨⟨(v0_open, f7, f5, f6, f8, x9), rfl, hw, by rw [ht]; exact hP, va_K.moved hW.alike hK, hD⟩, hS.F ht⟩) hS.2.2 dX9_closeLoop_44))
def wq_X9_closeLoop (f0_heads : Nat → Int32) (v0_open : Int32) (f0_second : Nat → Int32) (f0_kinds : Nat → Int32) (f0_first : Nat → Int32) (f0_third : Nat → Int32) (v0_length : Int32)  (Q : Int32 → (Nat → Int32) → (Nat → Int32) → (Nat → Int32) → (Nat → Int32) → Int32 → Prop) : Prop := ∀ x1 : Int32, x1 = v0_open - 1 → vp_in x1 6 ∧ ∀ x2 : Int32, x2 = f0_heads x1.toNatClampNeg → ((50 ≤ x2 → (wb_X9_closeLoop_36 f0_heads Q  x1 f0_second f0_kinds f0_first f0_third v0_length x2)) ∧ (¬ 50 ≤ x2 → vp_in x2 50 ∧ ∀ f4 : Nat → Int32, f4 = upd f0_second x2.toNatClampNeg v0_length → (wb_X9_closeLoop_36 f0_heads Q  x1 f4 f0_kinds f0_first f0_third v0_length x2)))
set_option maxHeartbeats 4000000 in
set_option maxRecDepth 100000 in
theorem ck_X9_closeLoop (l : Launch) (dC : Nat → ClassId) (dI : Nat → Nat → Nat) (cyB cyI cyJ cyP : ClassId) (a0 a0_heads a0_second a0_kinds a0_first a0_third : Nat) (sz : Nat) (z0_rounds : Value) (z0_hares : Value) (z0_forms : Value) (z0_done : Value) (z0_refused : Value) (f0_heads : Nat → Int32) (v0_open : Int32) (f0_second : Nat → Int32) (f0_kinds : Nat → Int32) (f0_first : Nat → Int32) (f0_third : Nat → Int32) (v0_length : Int32)  {Q : Int32 → (Nat → Int32) → (Nat → Int32) → (Nat → Int32) → (Nat → Int32) → Int32 → Prop} (hw : wq_X9_closeLoop f0_heads v0_open f0_second f0_kinds f0_first f0_third v0_length  Q) : Met l yX9_closeLoop wsX9_closeLoop ({ frames := 1, cells := 0, slots := 0, locals := 24 }) (va_Pc [.ref a0] (cPc (dC, dI) (kT cyB cyI cyJ cyP) [(a0, .inr (9, [.ref a0_kinds, .ref a0_first, .ref a0_second, .ref a0_third, .ref a0_heads, z0_rounds, .int v0_length, .int v0_open, z0_hares, z0_forms, z0_done, z0_refused])), (a0_heads, .inl (cyI, 6, .inl f0_heads)), (a0_second, .inl (cyI, 50, .inl f0_second)), (a0_kinds, .inl (cyI, 50, .inl f0_kinds)), (a0_first, .inl (cyI, 50, .inl f0_first)), (a0_third, .inl (cyI, 50, .inl f0_third))] sz)) (va_Qv (fun (u : Int32 × (Nat → Int32) × (Nat → Int32) × (Nat → Int32) × (Nat → Int32) × Int32) => Q u.1 u.2.1 u.2.2.1 u.2.2.2.1 u.2.2.2.2.1 u.2.2.2.2.2) (cB (dC, dI) (kT cyB cyI cyJ cyP) (va_A [(a0, .inr (9, [.ref a0_kinds, .ref a0_first, .ref a0_second, .ref a0_third, .ref a0_heads, z0_rounds, .int v0_length, .int v0_open, z0_hares, z0_forms, z0_done, z0_refused])), (a0_heads, .inl (cyI, 6, .inl f0_heads)), (a0_second, .inl (cyI, 50, .inl f0_second)), (a0_kinds, .inl (cyI, 50, .inl f0_kinds)), (a0_first, .inl (cyI, 50, .inl f0_first)), (a0_third, .inl (cyI, 50, .inl f0_third))] sz) (fun u : Int32 × (Nat → Int32) × (Nat → Int32) × (Nat → Int32) × (Nat → Int32) × Int32 => ([(a0, .inr (9, [.ref a0_kinds, .ref a0_first, .ref a0_second, .ref a0_third, .ref a0_heads, z0_rounds, .int u.2.2.2.2.2, .int u.1, z0_hares, z0_forms, z0_done, z0_refused])), (a0_heads, .inl (cyI, 6, .inl f0_heads)), (a0_second, .inl (cyI, 50, .inl u.2.1)), (a0_kinds, .inl (cyI, 50, .inl u.2.2.1)), (a0_first, .inl (cyI, 50, .inl u.2.2.2.1)), (a0_third, .inl (cyI, 50, .inl u.2.2.2.2.1))] : va_W))) (va_A [(a0, .inr (9, [.ref a0_kinds, .ref a0_first, .ref a0_second, .ref a0_third, .ref a0_heads, z0_rounds, .int v0_length, .int v0_open, z0_hares, z0_forms, z0_done, z0_refused])), (a0_heads, .inl (cyI, 6, .inl f0_heads)), (a0_second, .inl (cyI, 50, .inl f0_second)), (a0_kinds, .inl (cyI, 50, .inl f0_kinds)), (a0_first, .inl (cyI, 50, .inl f0_first)), (a0_third, .inl (cyI, 50, .inl f0_third))] sz)) 0 0 (va_A [(a0, .inr (9, [.ref a0_kinds, .ref a0_first, .ref a0_second, .ref a0_third, .ref a0_heads, z0_rounds, .int v0_length, .int v0_open, z0_hares, z0_forms, z0_done, z0_refused])), (a0_heads, .inl (cyI, 6, .inl f0_heads)), (a0_second, .inl (cyI, 50, .inl f0_second)), (a0_kinds, .inl (cyI, 50, .inl f0_kinds)), (a0_first, .inl (cyI, 50, .inl f0_first)), (a0_third, .inl (cyI, 50, .inl f0_third))] sz) := by
  refine Met.ofW (cc := cX9_closeLoop) (maxL := 2) (ret := none) (by decide) rfl ?_
  intro p e s m args below meth c s₁ B hml hv
  obtain ⟨rfl, hsz, hP, hK, hD0, hNw⟩ := hv
  have hx := B.exec
  have hb := B.bytes
  have hr := B.returns
  have hts := atoms_spec (ws := wsX9_closeLoop) B.pre
  have hown : s.vm.findClass RX9 = some m.cls := findClass_of_methodNamed B.named
  have hlocks := B.notSynchronized
  subst hsz
  have hD := hD0.self (sz := s.heap.size)
  generalize hAe : va_A [(a0, .inr (9, [.ref a0_kinds, .ref a0_first, .ref a0_second, .ref a0_third, .ref a0_heads, z0_rounds, .int v0_length, .int v0_open, z0_hares, z0_forms, z0_done, z0_refused])), (a0_heads, .inl (cyI, 6, .inl f0_heads)), (a0_second, .inl (cyI, 50, .inl f0_second)), (a0_kinds, .inl (cyI, 50, .inl f0_kinds)), (a0_first, .inl (cyI, 50, .inl f0_first)), (a0_third, .inl (cyI, 50, .inl f0_third))] s.heap.size = A at hD ⊢
  have hA : ∀ q : Nat, s.heap.size ≤ q → A q := fun q h => by rw [← hAe]; exact Or.inr h
  have hS : va_S A s.heap s.heap [] := va_S.rf
  have hP : va_P (dC, dI) vwCl [(a0, .inr (9, [.ref a0_kinds, .ref a0_first, .ref a0_second, .ref a0_third, .ref a0_heads, z0_rounds, .int v0_length, .int v0_open, z0_hares, z0_forms, z0_done, z0_refused])), (a0_heads, .inl (cyI, 6, .inl f0_heads)), (a0_second, .inl (cyI, 50, .inl f0_second)), (a0_kinds, .inl (cyI, 50, .inl f0_kinds)), (a0_first, .inl (cyI, 50, .inl f0_first)), (a0_third, .inl (cyI, 50, .inl f0_third))] s.heap := hP
  have hl := lv_entry ([.ref a0]) (n := 2) (Nat.le_of_ble_eq_true rfl)
  rw [lg_entry_eq]
  generalize (lg_sl ([.ref a0]) ++ List.replicate (2 - (lg_sl ([.ref a0])).length) Slot.unset).toArray = ls at hl ⊢
  have hl : lv_has ls 2 [(0, .ref a0)] := hl
  have C0 : cfx p s m _ meth c cX9_closeLoop none wsX9_closeLoop RX9 2 A (dC, dI) (kT cyB cyI cyJ cyP) := ⟨hx, hb, hr, hts, hown, hlocks, hml, hA, hK, hNw⟩
  clear hAe
  obtain ⟨H, hH⟩ : ∃ H, H = s.heap := ⟨_, rfl⟩
  rw [← hH] at hP ⊢
  have hS : va_S A s.heap H [] := by rw [hH]; exact va_S.rf
  have hS := hS
  refine lv_aload_n hx hb dX9_closeLoop_0 rfl (lv_at hl 0 rfl) ?_
  refine lv_dup hx hb dX9_closeLoop_1 rfl ?_
  refine va_get (D := (dC, dI)) (ci := 9) (v := .int v0_open) (C := RX9) (T := TX9) (N := 12) hx hb hts ui_X9_closeLoop_X9 hown hK hP 0 rfl rfl 7 (by decide) (hts _ uw_X9_closeLoop_f40) (fun _ h9 => h9) rfl dX9_closeLoop_2 ?_
  refine lv_iconst (v := 1) hx hb dX9_closeLoop_5 (by decide) ?_
  refine lv_isub hx hb dX9_closeLoop_6 ?_
  refine lv_topi (fun x1 ex1 => ?_)
  have hw := hw x1 ex1
  refine va_put (D := (dC, dI)) (ci := 9) (v := .int x1) (ty := .int) (C := RX9) (T := TX9) (N := 12) hx hb hts ui_X9_closeLoop_X9 tyX9 tyX9_ok nmX9 hown hK hP hD hS 0 rfl rfl 7 (by decide) (hts _ uw_X9_closeLoop_f40) (fun _ h9 => h9) rfl (by decide +kernel) rfl rfl (Nat.le_of_ble_eq_true rfl) dX9_closeLoop_7 (fun H locs hP hD hS => ?_)
  have hP : va_P (dC, dI) vwCl [(a0, .inr (9, [.ref a0_kinds, .ref a0_first, .ref a0_second, .ref a0_third, .ref a0_heads, z0_rounds, .int v0_length, .int x1, z0_hares, z0_forms, z0_done, z0_refused])), (a0_heads, .inl (cyI, 6, .inl f0_heads)), (a0_second, .inl (cyI, 50, .inl f0_second)), (a0_kinds, .inl (cyI, 50, .inl f0_kinds)), (a0_first, .inl (cyI, 50, .inl f0_first)), (a0_third, .inl (cyI, 50, .inl f0_third))] H := hP
  have hD : va_D A [(a0, .inr (9, [.ref a0_kinds, .ref a0_first, .ref a0_second, .ref a0_third, .ref a0_heads, z0_rounds, .int v0_length, .int x1, z0_hares, z0_forms, z0_done, z0_refused])), (a0_heads, .inl (cyI, 6, .inl f0_heads)), (a0_second, .inl (cyI, 50, .inl f0_second)), (a0_kinds, .inl (cyI, 50, .inl f0_kinds)), (a0_first, .inl (cyI, 50, .inl f0_first)), (a0_third, .inl (cyI, 50, .inl f0_third))] := hD
  refine lv_aload_n hx hb dX9_closeLoop_10 rfl (lv_at hl 0 rfl) ?_
  refine va_get (D := (dC, dI)) (ci := 9) (v := .ref a0_heads) (C := RX9) (T := TX9) (N := 12) hx hb hts ui_X9_closeLoop_X9 hown hK hP 0 rfl rfl 4 (by decide) (hts _ uw_X9_closeLoop_f24) (fun _ h9 => h9) rfl dX9_closeLoop_11 ?_
  refine lv_aload_n hx hb dX9_closeLoop_14 rfl (lv_at hl 0 rfl) ?_
  refine va_get (D := (dC, dI)) (ci := 9) (v := .int x1) (C := RX9) (T := TX9) (N := 12) hx hb hts ui_X9_closeLoop_X9 hown hK hP 0 rfl rfl 7 (by decide) (hts _ uw_X9_closeLoop_f40) (fun _ h9 => h9) rfl dX9_closeLoop_15 ?_
  obtain ⟨hi9, hw⟩ := hw
  refine va_iald hx hb hK hP 1 1 rfl rfl hi9 dX9_closeLoop_18 ?_
  refine lv_topi (fun x2 ex2 => ?_)
  have hw := hw x2 ex2
  refine lv_istore_n (lv' := [(1, .int x2), (0, .ref a0)]) hx hb dX9_closeLoop_19 rfl hl (by decide) rfl (fun ls hl => ?_)
  refine lv_iload_n hx hb dX9_closeLoop_20 rfl (lv_at hl 0 rfl) ?_
  refine lv_bipush (v := 50) hx hb dX9_closeLoop_21 (by decide) ?_
  refine lv_icmp_ge (tgt := 36) hx hb dX9_closeLoop_23 (by decide) (fun c3 => ?_) (fun c3 => ?_)
  · have hw := hw.1 c3
    exact kb_X9_closeLoop_36 dC dI cyB cyI cyJ cyP a0 a0_heads a0_second a0_kinds a0_first a0_third z0_rounds z0_hares z0_forms z0_done z0_refused f0_heads Q  C0 _ _ _ x1 f0_second f0_kinds f0_first f0_third v0_length x2 hP hD hS (lv_sub hl [1, 0] rfl) hw
  · have hw := hw.2 c3
    refine lv_aload_n hx hb dX9_closeLoop_26 rfl (lv_at hl 1 rfl) ?_
    refine va_get (D := (dC, dI)) (ci := 9) (v := .ref a0_second) (C := RX9) (T := TX9) (N := 12) hx hb hts ui_X9_closeLoop_X9 hown hK hP 0 rfl rfl 2 (by decide) (hts _ uw_X9_closeLoop_f18) (fun _ h9 => h9) rfl dX9_closeLoop_27 ?_
    refine lv_iload_n hx hb dX9_closeLoop_30 rfl (lv_at hl 0 rfl) ?_
    refine lv_aload_n hx hb dX9_closeLoop_31 rfl (lv_at hl 1 rfl) ?_
    refine va_get (D := (dC, dI)) (ci := 9) (v := .int v0_length) (C := RX9) (T := TX9) (N := 12) hx hb hts ui_X9_closeLoop_X9 hown hK hP 0 rfl rfl 6 (by decide) (hts _ uw_X9_closeLoop_f37) (fun _ h9 => h9) rfl dX9_closeLoop_32 ?_
    obtain ⟨hi9, hw⟩ := hw
    refine va_iast hx hb hK hP hD hS 2 1 rfl rfl hi9 dX9_closeLoop_35 (fun H locs hP hD hS => ?_)
    obtain ⟨f4, ef4⟩ : ∃ y : Nat → Int32, y = upd f0_second x2.toNatClampNeg v0_length := ⟨_, rfl⟩
    have hw := hw f4 ef4
    have hP : va_P (dC, dI) vwCl [(a0, .inr (9, [.ref a0_kinds, .ref a0_first, .ref a0_second, .ref a0_third, .ref a0_heads, z0_rounds, .int v0_length, .int x1, z0_hares, z0_forms, z0_done, z0_refused])), (a0_heads, .inl (cyI, 6, .inl f0_heads)), (a0_second, .inl (cyI, 50, .inl f4)), (a0_kinds, .inl (cyI, 50, .inl f0_kinds)), (a0_first, .inl (cyI, 50, .inl f0_first)), (a0_third, .inl (cyI, 50, .inl f0_third))] H := by rw [ef4]; exact hP
    have hD : va_D A [(a0, .inr (9, [.ref a0_kinds, .ref a0_first, .ref a0_second, .ref a0_third, .ref a0_heads, z0_rounds, .int v0_length, .int x1, z0_hares, z0_forms, z0_done, z0_refused])), (a0_heads, .inl (cyI, 6, .inl f0_heads)), (a0_second, .inl (cyI, 50, .inl f4)), (a0_kinds, .inl (cyI, 50, .inl f0_kinds)), (a0_first, .inl (cyI, 50, .inl f0_first)), (a0_third, .inl (cyI, 50, .inl f0_third))] := by rw [ef4]; exact hD
    exact kb_X9_closeLoop_36 dC dI cyB cyI cyJ cyP a0 a0_heads a0_second a0_kinds a0_first a0_third z0_rounds z0_hares z0_forms z0_done z0_refused f0_heads Q  C0 _ _ _ x1 f4 f0_kinds f0_first f0_third v0_length x2 hP hD hS (lv_sub hl [1, 0] rfl) hw
theorem ui_X9_openLoop_X9 : ∀ w ∈ u_ws RX9 TX9 12, w ∈ wsX9_openLoop := by decide +kernel
theorem uw_X9_openLoop_f24 : (.fieldLink RX9 24 "MarchHares$Work" "heads" "[I" : Cond) ∈ wsX9_openLoop := by decide +kernel
theorem uw_X9_openLoop_f37 : (.fieldLink RX9 37 "MarchHares$Work" "length" "I" : Cond) ∈ wsX9_openLoop := by decide +kernel
theorem uw_X9_openLoop_f40 : (.fieldLink RX9 40 "MarchHares$Work" "open" "I" : Cond) ∈ wsX9_openLoop := by decide +kernel
def wq_X9_openLoop (v1_length : Int32) (f1_bytes : Nat → Int32) (v1_at : Int32) (v1_fault : Int32) (v1_faultPlace : Int32) (v1_token : Int32) (f0_heads : Nat → Int32) (v0_open : Int32) (f0_kinds : Nat → Int32) (f0_first : Nat → Int32) (f0_second : Nat → Int32) (f0_third : Nat → Int32) (v0_length : Int32)  (Q : Int32 → Int32 → Int32 → Int32 → (Nat → Int32) → Int32 → (Nat → Int32) → (Nat → Int32) → (Nat → Int32) → (Nat → Int32) → Int32 → Prop) : Prop := ((v0_open < 6 → wq_X8_number v1_length f1_bytes v1_at v1_fault v1_faultPlace v1_token 0 40 (fun r6 x2 x3 x4 x5 => wq_X8_needs v1_length f1_bytes x2 x5 x3 x4 91 (fun x7 x8 x9 x10 => vp_in v0_open 6 ∧ ∀ f11 : Nat → Int32, f11 = upd f0_heads v0_open.toNatClampNeg v0_length → ∀ x12 : Int32, x12 = v0_open + 1 → wq_X9_add  f0_kinds f0_first f0_second f0_third v0_length 4 r6 0 0 (fun f13 f14 f15 f16 x17 => (Q x7 x9 x10 x8 f11 x12 f13 f14 f15 f16 x17))))) ∧ (¬ v0_open < 6 → wq_X8_blameToken v1_token v1_fault v1_faultPlace 3 (fun x18 x19 => (Q v1_at x18 x19 v1_token f0_heads v0_open f0_kinds f0_first f0_second f0_third v0_length))))
set_option maxHeartbeats 4000000 in
set_option maxRecDepth 100000 in
theorem ck_X9_openLoop (l : Launch) (dC : Nat → ClassId) (dI : Nat → Nat → Nat) (cyB cyI cyJ cyP : ClassId) (a0 a1 a1_bytes a0_heads a0_kinds a0_first a0_second a0_third : Nat) (sz : Nat) (z0_rounds : Value) (z0_hares : Value) (z0_forms : Value) (z0_done : Value) (z0_refused : Value) (z1_filled : Value) (v1_length : Int32) (f1_bytes : Nat → Int32) (v1_at : Int32) (v1_fault : Int32) (v1_faultPlace : Int32) (v1_token : Int32) (f0_heads : Nat → Int32) (v0_open : Int32) (f0_kinds : Nat → Int32) (f0_first : Nat → Int32) (f0_second : Nat → Int32) (f0_third : Nat → Int32) (v0_length : Int32)  {Q : Int32 → Int32 → Int32 → Int32 → (Nat → Int32) → Int32 → (Nat → Int32) → (Nat → Int32) → (Nat → Int32) → (Nat → Int32) → Int32 → Prop} (hw : wq_X9_openLoop v1_length f1_bytes v1_at v1_fault v1_faultPlace v1_token f0_heads v0_open f0_kinds f0_first f0_second f0_third v0_length  Q) : Met l yX9_openLoop wsX9_openLoop ({ frames := 3, cells := 0, slots := 0, locals := 63 }) (va_Pc [.ref a0, .ref a1] (cPc (dC, dI) (kT cyB cyI cyJ cyP) [(a0, .inr (9, [.ref a0_kinds, .ref a0_first, .ref a0_second, .ref a0_third, .ref a0_heads, z0_rounds, .int v0_length, .int v0_open, z0_hares, z0_forms, z0_done, z0_refused])), (a1, .inr (8, [.ref a1_bytes, .int v1_length, .int v1_at, .int v1_token, z1_filled, .int v1_fault, .int v1_faultPlace])), (a1_bytes, .inl (cyB, 600, .inl f1_bytes)), (a0_heads, .inl (cyI, 6, .inl f0_heads)), (a0_kinds, .inl (cyI, 50, .inl f0_kinds)), (a0_first, .inl (cyI, 50, .inl f0_first)), (a0_second, .inl (cyI, 50, .inl f0_second)), (a0_third, .inl (cyI, 50, .inl f0_third))] sz)) (va_Qv (fun (u : Int32 × Int32 × Int32 × Int32 × (Nat → Int32) × Int32 × (Nat → Int32) × (Nat → Int32) × (Nat → Int32) × (Nat → Int32) × Int32) => Q u.1 u.2.1 u.2.2.1 u.2.2.2.1 u.2.2.2.2.1 u.2.2.2.2.2.1 u.2.2.2.2.2.2.1 u.2.2.2.2.2.2.2.1 u.2.2.2.2.2.2.2.2.1 u.2.2.2.2.2.2.2.2.2.1 u.2.2.2.2.2.2.2.2.2.2) (cB (dC, dI) (kT cyB cyI cyJ cyP) (va_A [(a0, .inr (9, [.ref a0_kinds, .ref a0_first, .ref a0_second, .ref a0_third, .ref a0_heads, z0_rounds, .int v0_length, .int v0_open, z0_hares, z0_forms, z0_done, z0_refused])), (a1, .inr (8, [.ref a1_bytes, .int v1_length, .int v1_at, .int v1_token, z1_filled, .int v1_fault, .int v1_faultPlace])), (a1_bytes, .inl (cyB, 600, .inl f1_bytes)), (a0_heads, .inl (cyI, 6, .inl f0_heads)), (a0_kinds, .inl (cyI, 50, .inl f0_kinds)), (a0_first, .inl (cyI, 50, .inl f0_first)), (a0_second, .inl (cyI, 50, .inl f0_second)), (a0_third, .inl (cyI, 50, .inl f0_third))] sz) (fun u : Int32 × Int32 × Int32 × Int32 × (Nat → Int32) × Int32 × (Nat → Int32) × (Nat → Int32) × (Nat → Int32) × (Nat → Int32) × Int32 => ([(a0, .inr (9, [.ref a0_kinds, .ref a0_first, .ref a0_second, .ref a0_third, .ref a0_heads, z0_rounds, .int u.2.2.2.2.2.2.2.2.2.2, .int u.2.2.2.2.2.1, z0_hares, z0_forms, z0_done, z0_refused])), (a1, .inr (8, [.ref a1_bytes, .int v1_length, .int u.1, .int u.2.2.2.1, z1_filled, .int u.2.1, .int u.2.2.1])), (a1_bytes, .inl (cyB, 600, .inl f1_bytes)), (a0_heads, .inl (cyI, 6, .inl u.2.2.2.2.1)), (a0_kinds, .inl (cyI, 50, .inl u.2.2.2.2.2.2.1)), (a0_first, .inl (cyI, 50, .inl u.2.2.2.2.2.2.2.1)), (a0_second, .inl (cyI, 50, .inl u.2.2.2.2.2.2.2.2.1)), (a0_third, .inl (cyI, 50, .inl u.2.2.2.2.2.2.2.2.2.1))] : va_W))) (va_A [(a0, .inr (9, [.ref a0_kinds, .ref a0_first, .ref a0_second, .ref a0_third, .ref a0_heads, z0_rounds, .int v0_length, .int v0_open, z0_hares, z0_forms, z0_done, z0_refused])), (a1, .inr (8, [.ref a1_bytes, .int v1_length, .int v1_at, .int v1_token, z1_filled, .int v1_fault, .int v1_faultPlace])), (a1_bytes, .inl (cyB, 600, .inl f1_bytes)), (a0_heads, .inl (cyI, 6, .inl f0_heads)), (a0_kinds, .inl (cyI, 50, .inl f0_kinds)), (a0_first, .inl (cyI, 50, .inl f0_first)), (a0_second, .inl (cyI, 50, .inl f0_second)), (a0_third, .inl (cyI, 50, .inl f0_third))] sz)) 0 0 (va_A [(a0, .inr (9, [.ref a0_kinds, .ref a0_first, .ref a0_second, .ref a0_third, .ref a0_heads, z0_rounds, .int v0_length, .int v0_open, z0_hares, z0_forms, z0_done, z0_refused])), (a1, .inr (8, [.ref a1_bytes, .int v1_length, .int v1_at, .int v1_token, z1_filled, .int v1_fault, .int v1_faultPlace])), (a1_bytes, .inl (cyB, 600, .inl f1_bytes)), (a0_heads, .inl (cyI, 6, .inl f0_heads)), (a0_kinds, .inl (cyI, 50, .inl f0_kinds)), (a0_first, .inl (cyI, 50, .inl f0_first)), (a0_second, .inl (cyI, 50, .inl f0_second)), (a0_third, .inl (cyI, 50, .inl f0_third))] sz) := by
  refine Met.ofW (cc := cX9_openLoop) (maxL := 3) (ret := none) (by decide) rfl ?_
  intro p e s m args below meth c s₁ B hml hv
  obtain ⟨rfl, hsz, hP, hK, hD0, hNw⟩ := hv
  have hx := B.exec
  have hb := B.bytes
  have hr := B.returns
  have hts := atoms_spec (ws := wsX9_openLoop) B.pre
  have hown : s.vm.findClass RX9 = some m.cls := findClass_of_methodNamed B.named
  have hlocks := B.notSynchronized
  subst hsz
  have hD := hD0.self (sz := s.heap.size)
  generalize hAe : va_A [(a0, .inr (9, [.ref a0_kinds, .ref a0_first, .ref a0_second, .ref a0_third, .ref a0_heads, z0_rounds, .int v0_length, .int v0_open, z0_hares, z0_forms, z0_done, z0_refused])), (a1, .inr (8, [.ref a1_bytes, .int v1_length, .int v1_at, .int v1_token, z1_filled, .int v1_fault, .int v1_faultPlace])), (a1_bytes, .inl (cyB, 600, .inl f1_bytes)), (a0_heads, .inl (cyI, 6, .inl f0_heads)), (a0_kinds, .inl (cyI, 50, .inl f0_kinds)), (a0_first, .inl (cyI, 50, .inl f0_first)), (a0_second, .inl (cyI, 50, .inl f0_second)), (a0_third, .inl (cyI, 50, .inl f0_third))] s.heap.size = A at hD ⊢
  have hA : ∀ q : Nat, s.heap.size ≤ q → A q := fun q h => by rw [← hAe]; exact Or.inr h
  have hS : va_S A s.heap s.heap [] := va_S.rf
  have hP : va_P (dC, dI) vwCl [(a0, .inr (9, [.ref a0_kinds, .ref a0_first, .ref a0_second, .ref a0_third, .ref a0_heads, z0_rounds, .int v0_length, .int v0_open, z0_hares, z0_forms, z0_done, z0_refused])), (a1, .inr (8, [.ref a1_bytes, .int v1_length, .int v1_at, .int v1_token, z1_filled, .int v1_fault, .int v1_faultPlace])), (a1_bytes, .inl (cyB, 600, .inl f1_bytes)), (a0_heads, .inl (cyI, 6, .inl f0_heads)), (a0_kinds, .inl (cyI, 50, .inl f0_kinds)), (a0_first, .inl (cyI, 50, .inl f0_first)), (a0_second, .inl (cyI, 50, .inl f0_second)), (a0_third, .inl (cyI, 50, .inl f0_third))] s.heap := hP
  have hl := lv_entry ([.ref a0, .ref a1]) (n := 3) (Nat.le_of_ble_eq_true rfl)
  rw [lg_entry_eq]
  generalize (lg_sl ([.ref a0, .ref a1]) ++ List.replicate (3 - (lg_sl ([.ref a0, .ref a1])).length) Slot.unset).toArray = ls at hl ⊢
  have hl : lv_has ls 3 [(0, .ref a0), (1, .ref a1)] := hl
  have C0 : cfx p s m _ meth c cX9_openLoop none wsX9_openLoop RX9 3 A (dC, dI) (kT cyB cyI cyJ cyP) := ⟨hx, hb, hr, hts, hown, hlocks, hml, hA, hK, hNw⟩
  clear hAe
  obtain ⟨H, hH⟩ : ∃ H, H = s.heap := ⟨_, rfl⟩
  rw [← hH] at hP ⊢
  have hS : va_S A s.heap H [] := by rw [hH]; exact va_S.rf
  have hS := hS
  refine lv_aload_n hx hb dX9_openLoop_0 rfl (lv_at hl 0 rfl) ?_
  refine va_get (D := (dC, dI)) (ci := 9) (v := .int v0_open) (C := RX9) (T := TX9) (N := 12) hx hb hts ui_X9_openLoop_X9 hown hK hP 0 rfl rfl 7 (by decide) (hts _ uw_X9_openLoop_f40) (fun _ h9 => h9) rfl dX9_openLoop_1 ?_
  refine lv_bipush (v := 6) hx hb dX9_openLoop_4 (by decide) ?_
  refine lv_icmp_lt (tgt := 15) hx hb dX9_openLoop_6 (by decide) (fun c1 => ?_) (fun c1 => ?_)
  · have hw := hw.1 c1
    refine lv_aload_n hx hb dX9_openLoop_15 rfl (lv_at hl 1 rfl) ?_
    refine lv_iconst (v := 0) hx hb dX9_openLoop_16 (by decide) ?_
    refine lv_bipush (v := 40) hx hb dX9_openLoop_17 (by decide) ?_
    have hPc := hP.sub (ws' := [(a1, .inr (8, [.ref a1_bytes, .int v1_length, .int v1_at, .int v1_token, z1_filled, .int v1_fault, .int v1_faultPlace])), (a1_bytes, .inl (cyB, 600, .inl f1_bytes))]) [1, 2] rfl
    have hDc := hD.sub (ws' := [(a1, .inr (8, [.ref a1_bytes, .int v1_length, .int v1_at, .int v1_token, z1_filled, .int v1_fault, .int v1_faultPlace])), (a1_bytes, .inl (cyB, 600, .inl f1_bytes))]) [1, 2] (by decide) rfl
    have hFc := va_free (wc := [(a1, .inr (8, [.ref a1_bytes, .int v1_length, .int v1_at, .int v1_token, z1_filled, .int v1_fault, .int v1_faultPlace])), (a1_bytes, .inl (cyB, 600, .inl f1_bytes))]) hD hS hA [1, 2] rfl
    refine va_calli (va_runV (As := [.int 0, .int 40]) (rest := []) ⟨hx, hb, hml, hown, hts⟩ (ck_X8_number l dC dI cyB cyI cyJ cyP a1 a1_bytes H.size (z1_filled) v1_length f1_bytes v1_at v1_fault v1_faultPlace v1_token 0 40 hw) (cwV 2 hts gX9_openLoop_X8_number rfl rfl rfl (by decide +kernel) ⟨Nat.le_of_ble_eq_true rfl, Nat.le_of_ble_eq_true rfl⟩) ⟨cPc_blind, va_recv hK hPc (ci := 8) (q0 := 0) rfl rfl, cPc_pre hPc hK hDc hNw⟩ rfl rfl hl.1 rfl (lv_room (Nat.le_of_ble_eq_true rfl)) dX9_openLoop_19 ⟨Nat.le_of_ble_eq_true rfl, Nat.le_of_ble_eq_true rfl⟩) hS (fun q _ h => hFc q h) hFc (fun r6 u t H1 locs ht hvm hw hB hz1 hk1 hS => ?_)
    obtain ⟨x2, x3, x4, x5⟩ := u
    obtain ⟨hP1, hK1, hD1⟩ := hB
    rw [ht] at hP1
    obtain ⟨hP, hD⟩ := va_join (wr := [(a0, .inr (9, [.ref a0_kinds, .ref a0_first, .ref a0_second, .ref a0_third, .ref a0_heads, z0_rounds, .int v0_length, .int v0_open, z0_hares, z0_forms, z0_done, z0_refused])), (a0_heads, .inl (cyI, 6, .inl f0_heads)), (a0_kinds, .inl (cyI, 50, .inl f0_kinds)), (a0_first, .inl (cyI, 50, .inl f0_first)), (a0_second, .inl (cyI, 50, .inl f0_second)), (a0_third, .inl (cyI, 50, .inl f0_third))]) (w1 := [(a1, .inr (8, [.ref a1_bytes, .int v1_length, .int x2, .int x5, z1_filled, .int x3, .int x4])), (a1_bytes, .inl (cyB, 600, .inl f1_bytes))]) hP hD [1, 2] [0, 3, 4, 5, 6, 7] rfl rfl (by decide) (by decide) hk1 hFc hP1 hD1
    have hP : va_P (dC, dI) vwCl [(a0, .inr (9, [.ref a0_kinds, .ref a0_first, .ref a0_second, .ref a0_third, .ref a0_heads, z0_rounds, .int v0_length, .int v0_open, z0_hares, z0_forms, z0_done, z0_refused])), (a1, .inr (8, [.ref a1_bytes, .int v1_length, .int x2, .int x5, z1_filled, .int x3, .int x4])), (a1_bytes, .inl (cyB, 600, .inl f1_bytes)), (a0_heads, .inl (cyI, 6, .inl f0_heads)), (a0_kinds, .inl (cyI, 50, .inl f0_kinds)), (a0_first, .inl (cyI, 50, .inl f0_first)), (a0_second, .inl (cyI, 50, .inl f0_second)), (a0_third, .inl (cyI, 50, .inl f0_third))] H1 := hP.sub [0, 6, 7, 1, 2, 3, 4, 5] rfl
    have hD : va_D A [(a0, .inr (9, [.ref a0_kinds, .ref a0_first, .ref a0_second, .ref a0_third, .ref a0_heads, z0_rounds, .int v0_length, .int v0_open, z0_hares, z0_forms, z0_done, z0_refused])), (a1, .inr (8, [.ref a1_bytes, .int v1_length, .int x2, .int x5, z1_filled, .int x3, .int x4])), (a1_bytes, .inl (cyB, 600, .inl f1_bytes)), (a0_heads, .inl (cyI, 6, .inl f0_heads)), (a0_kinds, .inl (cyI, 50, .inl f0_kinds)), (a0_first, .inl (cyI, 50, .inl f0_first)), (a0_second, .inl (cyI, 50, .inl f0_second)), (a0_third, .inl (cyI, 50, .inl f0_third))] := hD.sub [0, 6, 7, 1, 2, 3, 4, 5] (by decide) rfl
    generalize H1 = H at hP hS ⊢
    refine lv_istore_n (lv' := [(2, .int r6), (0, .ref a0), (1, .ref a1)]) hx hb dX9_openLoop_22 rfl hl (by decide) rfl (fun ls hl => ?_)
    refine lv_aload_n hx hb dX9_openLoop_23 rfl (lv_at hl 2 rfl) ?_
    refine lv_bipush (v := 91) hx hb dX9_openLoop_24 (by decide) ?_
    have hPc := hP.sub (ws' := [(a1, .inr (8, [.ref a1_bytes, .int v1_length, .int x2, .int x5, z1_filled, .int x3, .int x4])), (a1_bytes, .inl (cyB, 600, .inl f1_bytes))]) [1, 2] rfl
    have hDc := hD.sub (ws' := [(a1, .inr (8, [.ref a1_bytes, .int v1_length, .int x2, .int x5, z1_filled, .int x3, .int x4])), (a1_bytes, .inl (cyB, 600, .inl f1_bytes))]) [1, 2] (by decide) rfl
    have hFc := va_free (wc := [(a1, .inr (8, [.ref a1_bytes, .int v1_length, .int x2, .int x5, z1_filled, .int x3, .int x4])), (a1_bytes, .inl (cyB, 600, .inl f1_bytes))]) hD hS hA [1, 2] rfl
    refine va_callv (va_runV (As := [.int 91]) (rest := []) ⟨hx, hb, hml, hown, hts⟩ (ck_X8_needs l dC dI cyB cyI cyJ cyP a1 a1_bytes H.size (z1_filled) v1_length f1_bytes x2 x5 x3 x4 91 hw) (cwV 1 hts gX9_openLoop_X8_needs rfl rfl rfl (by decide +kernel) ⟨Nat.le_of_ble_eq_true rfl, Nat.le_of_ble_eq_true rfl⟩) ⟨cPc_blind, va_recv hK hPc (ci := 8) (q0 := 0) rfl rfl, cPc_pre hPc hK hDc hNw⟩ rfl rfl hl.1 rfl (lv_room (Nat.le_of_ble_eq_true rfl)) dX9_openLoop_26 ⟨Nat.le_of_ble_eq_true rfl, Nat.le_of_ble_eq_true rfl⟩) hS (fun q _ h => hFc q h) hFc (fun u t H1 locs ht hvm hw hB hz1 hk1 hS => ?_)
    obtain ⟨x7, x8, x9, x10⟩ := u
    obtain ⟨hP1, hK1, hD1⟩ := hB
    rw [ht] at hP1
    obtain ⟨hP, hD⟩ := va_join (wr := [(a0, .inr (9, [.ref a0_kinds, .ref a0_first, .ref a0_second, .ref a0_third, .ref a0_heads, z0_rounds, .int v0_length, .int v0_open, z0_hares, z0_forms, z0_done, z0_refused])), (a0_heads, .inl (cyI, 6, .inl f0_heads)), (a0_kinds, .inl (cyI, 50, .inl f0_kinds)), (a0_first, .inl (cyI, 50, .inl f0_first)), (a0_second, .inl (cyI, 50, .inl f0_second)), (a0_third, .inl (cyI, 50, .inl f0_third))]) (w1 := [(a1, .inr (8, [.ref a1_bytes, .int v1_length, .int x7, .int x8, z1_filled, .int x9, .int x10])), (a1_bytes, .inl (cyB, 600, .inl f1_bytes))]) hP hD [1, 2] [0, 3, 4, 5, 6, 7] rfl rfl (by decide) (by decide) hk1 hFc hP1 hD1
    have hP : va_P (dC, dI) vwCl [(a0, .inr (9, [.ref a0_kinds, .ref a0_first, .ref a0_second, .ref a0_third, .ref a0_heads, z0_rounds, .int v0_length, .int v0_open, z0_hares, z0_forms, z0_done, z0_refused])), (a1, .inr (8, [.ref a1_bytes, .int v1_length, .int x7, .int x8, z1_filled, .int x9, .int x10])), (a1_bytes, .inl (cyB, 600, .inl f1_bytes)), (a0_heads, .inl (cyI, 6, .inl f0_heads)), (a0_kinds, .inl (cyI, 50, .inl f0_kinds)), (a0_first, .inl (cyI, 50, .inl f0_first)), (a0_second, .inl (cyI, 50, .inl f0_second)), (a0_third, .inl (cyI, 50, .inl f0_third))] H1 := hP.sub [0, 6, 7, 1, 2, 3, 4, 5] rfl
    have hD : va_D A [(a0, .inr (9, [.ref a0_kinds, .ref a0_first, .ref a0_second, .ref a0_third, .ref a0_heads, z0_rounds, .int v0_length, .int v0_open, z0_hares, z0_forms, z0_done, z0_refused])), (a1, .inr (8, [.ref a1_bytes, .int v1_length, .int x7, .int x8, z1_filled, .int x9, .int x10])), (a1_bytes, .inl (cyB, 600, .inl f1_bytes)), (a0_heads, .inl (cyI, 6, .inl f0_heads)), (a0_kinds, .inl (cyI, 50, .inl f0_kinds)), (a0_first, .inl (cyI, 50, .inl f0_first)), (a0_second, .inl (cyI, 50, .inl f0_second)), (a0_third, .inl (cyI, 50, .inl f0_third))] := hD.sub [0, 6, 7, 1, 2, 3, 4, 5] (by decide) rfl
    generalize H1 = H at hP hS ⊢
    refine lv_aload_n hx hb dX9_openLoop_29 rfl (lv_at hl 1 rfl) ?_
    refine va_get (D := (dC, dI)) (ci := 9) (v := .ref a0_heads) (C := RX9) (T := TX9) (N := 12) hx hb hts ui_X9_openLoop_X9 hown hK hP 0 rfl rfl 4 (by decide) (hts _ uw_X9_openLoop_f24) (fun _ h9 => h9) rfl dX9_openLoop_30 ?_
    refine lv_aload_n hx hb dX9_openLoop_33 rfl (lv_at hl 1 rfl) ?_
    refine va_get (D := (dC, dI)) (ci := 9) (v := .int v0_open) (C := RX9) (T := TX9) (N := 12) hx hb hts ui_X9_openLoop_X9 hown hK hP 0 rfl rfl 7 (by decide) (hts _ uw_X9_openLoop_f40) (fun _ h9 => h9) rfl dX9_openLoop_34 ?_
    refine lv_aload_n hx hb dX9_openLoop_37 rfl (lv_at hl 1 rfl) ?_
    refine va_get (D := (dC, dI)) (ci := 9) (v := .int v0_length) (C := RX9) (T := TX9) (N := 12) hx hb hts ui_X9_openLoop_X9 hown hK hP 0 rfl rfl 6 (by decide) (hts _ uw_X9_openLoop_f37) (fun _ h9 => h9) rfl dX9_openLoop_38 ?_
    obtain ⟨hi9, hw⟩ := hw
    refine va_iast hx hb hK hP hD hS 3 1 rfl rfl hi9 dX9_openLoop_41 (fun H locs hP hD hS => ?_)
    obtain ⟨f11, ef11⟩ : ∃ y : Nat → Int32, y = upd f0_heads v0_open.toNatClampNeg v0_length := ⟨_, rfl⟩
    have hw := hw f11 ef11
    have hP : va_P (dC, dI) vwCl [(a0, .inr (9, [.ref a0_kinds, .ref a0_first, .ref a0_second, .ref a0_third, .ref a0_heads, z0_rounds, .int v0_length, .int v0_open, z0_hares, z0_forms, z0_done, z0_refused])), (a1, .inr (8, [.ref a1_bytes, .int v1_length, .int x7, .int x8, z1_filled, .int x9, .int x10])), (a1_bytes, .inl (cyB, 600, .inl f1_bytes)), (a0_heads, .inl (cyI, 6, .inl f11)), (a0_kinds, .inl (cyI, 50, .inl f0_kinds)), (a0_first, .inl (cyI, 50, .inl f0_first)), (a0_second, .inl (cyI, 50, .inl f0_second)), (a0_third, .inl (cyI, 50, .inl f0_third))] H := by rw [ef11]; exact hP
    have hD : va_D A [(a0, .inr (9, [.ref a0_kinds, .ref a0_first, .ref a0_second, .ref a0_third, .ref a0_heads, z0_rounds, .int v0_length, .int v0_open, z0_hares, z0_forms, z0_done, z0_refused])), (a1, .inr (8, [.ref a1_bytes, .int v1_length, .int x7, .int x8, z1_filled, .int x9, .int x10])), (a1_bytes, .inl (cyB, 600, .inl f1_bytes)), (a0_heads, .inl (cyI, 6, .inl f11)), (a0_kinds, .inl (cyI, 50, .inl f0_kinds)), (a0_first, .inl (cyI, 50, .inl f0_first)), (a0_second, .inl (cyI, 50, .inl f0_second)), (a0_third, .inl (cyI, 50, .inl f0_third))] := by rw [ef11]; exact hD
    refine lv_aload_n hx hb dX9_openLoop_42 rfl (lv_at hl 1 rfl) ?_
    refine lv_dup hx hb dX9_openLoop_43 rfl ?_
    refine va_get (D := (dC, dI)) (ci := 9) (v := .int v0_open) (C := RX9) (T := TX9) (N := 12) hx hb hts ui_X9_openLoop_X9 hown hK hP 0 rfl rfl 7 (by decide) (hts _ uw_X9_openLoop_f40) (fun _ h9 => h9) rfl dX9_openLoop_44 ?_
    refine lv_iconst (v := 1) hx hb dX9_openLoop_47 (by decide) ?_
    refine lv_iadd hx hb dX9_openLoop_48 ?_
    refine lv_topi (fun x12 ex12 => ?_)
    have hw := hw x12 ex12
    refine va_put (D := (dC, dI)) (ci := 9) (v := .int x12) (ty := .int) (C := RX9) (T := TX9) (N := 12) hx hb hts ui_X9_openLoop_X9 tyX9 tyX9_ok nmX9 hown hK hP hD hS 0 rfl rfl 7 (by decide) (hts _ uw_X9_openLoop_f40) (fun _ h9 => h9) rfl (by decide +kernel) rfl rfl (Nat.le_of_ble_eq_true rfl) dX9_openLoop_49 (fun H locs hP hD hS => ?_)
    have hP : va_P (dC, dI) vwCl [(a0, .inr (9, [.ref a0_kinds, .ref a0_first, .ref a0_second, .ref a0_third, .ref a0_heads, z0_rounds, .int v0_length, .int x12, z0_hares, z0_forms, z0_done, z0_refused])), (a1, .inr (8, [.ref a1_bytes, .int v1_length, .int x7, .int x8, z1_filled, .int x9, .int x10])), (a1_bytes, .inl (cyB, 600, .inl f1_bytes)), (a0_heads, .inl (cyI, 6, .inl f11)), (a0_kinds, .inl (cyI, 50, .inl f0_kinds)), (a0_first, .inl (cyI, 50, .inl f0_first)), (a0_second, .inl (cyI, 50, .inl f0_second)), (a0_third, .inl (cyI, 50, .inl f0_third))] H := hP
    have hD : va_D A [(a0, .inr (9, [.ref a0_kinds, .ref a0_first, .ref a0_second, .ref a0_third, .ref a0_heads, z0_rounds, .int v0_length, .int x12, z0_hares, z0_forms, z0_done, z0_refused])), (a1, .inr (8, [.ref a1_bytes, .int v1_length, .int x7, .int x8, z1_filled, .int x9, .int x10])), (a1_bytes, .inl (cyB, 600, .inl f1_bytes)), (a0_heads, .inl (cyI, 6, .inl f11)), (a0_kinds, .inl (cyI, 50, .inl f0_kinds)), (a0_first, .inl (cyI, 50, .inl f0_first)), (a0_second, .inl (cyI, 50, .inl f0_second)), (a0_third, .inl (cyI, 50, .inl f0_third))] := hD
    refine lv_aload_n hx hb dX9_openLoop_52 rfl (lv_at hl 1 rfl) ?_
    refine lv_iconst (v := 4) hx hb dX9_openLoop_53 (by decide) ?_
    refine lv_iload_n hx hb dX9_openLoop_54 rfl (lv_at hl 0 rfl) ?_
    refine lv_iconst (v := 0) hx hb dX9_openLoop_55 (by decide) ?_
    refine lv_iconst (v := 0) hx hb dX9_openLoop_56 (by decide) ?_
    have hPc := hP.sub (ws' := [(a0, .inr (9, [.ref a0_kinds, .ref a0_first, .ref a0_second, .ref a0_third, .ref a0_heads, z0_rounds, .int v0_length, .int x12, z0_hares, z0_forms, z0_done, z0_refused])), (a0_kinds, .inl (cyI, 50, .inl f0_kinds)), (a0_first, .inl (cyI, 50, .inl f0_first)), (a0_second, .inl (cyI, 50, .inl f0_second)), (a0_third, .inl (cyI, 50, .inl f0_third))]) [0, 4, 5, 6, 7] rfl
    have hDc := hD.sub (ws' := [(a0, .inr (9, [.ref a0_kinds, .ref a0_first, .ref a0_second, .ref a0_third, .ref a0_heads, z0_rounds, .int v0_length, .int x12, z0_hares, z0_forms, z0_done, z0_refused])), (a0_kinds, .inl (cyI, 50, .inl f0_kinds)), (a0_first, .inl (cyI, 50, .inl f0_first)), (a0_second, .inl (cyI, 50, .inl f0_second)), (a0_third, .inl (cyI, 50, .inl f0_third))]) [0, 4, 5, 6, 7] (by decide) rfl
    have hFc := va_free (wc := [(a0, .inr (9, [.ref a0_kinds, .ref a0_first, .ref a0_second, .ref a0_third, .ref a0_heads, z0_rounds, .int v0_length, .int x12, z0_hares, z0_forms, z0_done, z0_refused])), (a0_kinds, .inl (cyI, 50, .inl f0_kinds)), (a0_first, .inl (cyI, 50, .inl f0_first)), (a0_second, .inl (cyI, 50, .inl f0_second)), (a0_third, .inl (cyI, 50, .inl f0_third))]) hD hS hA [0, 4, 5, 6, 7] rfl
    refine va_callv (va_runV (As := [.int 4, .int r6, .int 0, .int 0]) (rest := []) ⟨hx, hb, hml, hown, hts⟩ (ck_X9_add l dC dI cyB cyI cyJ cyP a0 a0_kinds a0_first a0_second a0_third H.size (.ref a0_heads) (z0_rounds) (.int x12) (z0_hares) (z0_forms) (z0_done) (z0_refused)  f0_kinds f0_first f0_second f0_third v0_length 4 r6 0 0 hw) (cwV 4 hts gX9_openLoop_X9_add rfl rfl rfl (by decide +kernel) ⟨Nat.le_of_ble_eq_true rfl, Nat.le_of_ble_eq_true rfl⟩) ⟨cPc_blind, va_recv hK hPc (ci := 9) (q0 := 0) rfl rfl, cPc_pre hPc hK hDc hNw⟩ rfl rfl hl.1 rfl (lv_room (Nat.le_of_ble_eq_true rfl)) dX9_openLoop_57 ⟨Nat.le_of_ble_eq_true rfl, Nat.le_of_ble_eq_true rfl⟩) hS (fun q _ h => hFc q h) hFc (fun u t H1 locs ht hvm hw hB hz1 hk1 hS => ?_)
    obtain ⟨f13, f14, f15, f16, x17⟩ := u
    obtain ⟨hP1, hK1, hD1⟩ := hB
    rw [ht] at hP1
    obtain ⟨hP, hD⟩ := va_join (wr := [(a1, .inr (8, [.ref a1_bytes, .int v1_length, .int x7, .int x8, z1_filled, .int x9, .int x10])), (a1_bytes, .inl (cyB, 600, .inl f1_bytes)), (a0_heads, .inl (cyI, 6, .inl f11))]) (w1 := [(a0, .inr (9, [.ref a0_kinds, .ref a0_first, .ref a0_second, .ref a0_third, .ref a0_heads, z0_rounds, .int x17, .int x12, z0_hares, z0_forms, z0_done, z0_refused])), (a0_kinds, .inl (cyI, 50, .inl f13)), (a0_first, .inl (cyI, 50, .inl f14)), (a0_second, .inl (cyI, 50, .inl f15)), (a0_third, .inl (cyI, 50, .inl f16))]) hP hD [0, 4, 5, 6, 7] [1, 2, 3] rfl rfl (by decide) (by decide) hk1 hFc hP1 hD1
    have hP : va_P (dC, dI) vwCl [(a0, .inr (9, [.ref a0_kinds, .ref a0_first, .ref a0_second, .ref a0_third, .ref a0_heads, z0_rounds, .int x17, .int x12, z0_hares, z0_forms, z0_done, z0_refused])), (a1, .inr (8, [.ref a1_bytes, .int v1_length, .int x7, .int x8, z1_filled, .int x9, .int x10])), (a1_bytes, .inl (cyB, 600, .inl f1_bytes)), (a0_heads, .inl (cyI, 6, .inl f11)), (a0_kinds, .inl (cyI, 50, .inl f13)), (a0_first, .inl (cyI, 50, .inl f14)), (a0_second, .inl (cyI, 50, .inl f15)), (a0_third, .inl (cyI, 50, .inl f16))] H1 := hP.sub [3, 0, 1, 2, 4, 5, 6, 7] rfl
    have hD : va_D A [(a0, .inr (9, [.ref a0_kinds, .ref a0_first, .ref a0_second, .ref a0_third, .ref a0_heads, z0_rounds, .int x17, .int x12, z0_hares, z0_forms, z0_done, z0_refused])), (a1, .inr (8, [.ref a1_bytes, .int v1_length, .int x7, .int x8, z1_filled, .int x9, .int x10])), (a1_bytes, .inl (cyB, 600, .inl f1_bytes)), (a0_heads, .inl (cyI, 6, .inl f11)), (a0_kinds, .inl (cyI, 50, .inl f13)), (a0_first, .inl (cyI, 50, .inl f14)), (a0_second, .inl (cyI, 50, .inl f15)), (a0_third, .inl (cyI, 50, .inl f16))] := hD.sub [3, 0, 1, 2, 4, 5, 6, 7] (by decide) rfl
    generalize H1 = H at hP hS ⊢
    exact ((W.vret hx hb hr (fun t ht hW => ⟨⟨(x7, x9, x10, x8, f11, x12, f13, f14, f15, f16, x17), rfl, hw, by rw [ht]; exact hP, va_K.moved hW.alike hK, hD⟩, hS.F ht⟩) hS.2.2 dX9_openLoop_60))
  · have hw := hw.2 c1
    refine lv_aload_n hx hb dX9_openLoop_9 rfl (lv_at hl 1 rfl) ?_
    refine lv_iconst (v := 3) hx hb dX9_openLoop_10 (by decide) ?_
    have hPc := hP.sub (ws' := [(a1, .inr (8, [.ref a1_bytes, .int v1_length, .int v1_at, .int v1_token, z1_filled, .int v1_fault, .int v1_faultPlace]))]) [1] rfl
    have hDc := hD.sub (ws' := [(a1, .inr (8, [.ref a1_bytes, .int v1_length, .int v1_at, .int v1_token, z1_filled, .int v1_fault, .int v1_faultPlace]))]) [1] (by decide) rfl
    have hFc := va_free (wc := [(a1, .inr (8, [.ref a1_bytes, .int v1_length, .int v1_at, .int v1_token, z1_filled, .int v1_fault, .int v1_faultPlace]))]) hD hS hA [1] rfl
    refine va_callv (va_runV (As := [.int 3]) (rest := []) ⟨hx, hb, hml, hown, hts⟩ (ck_X8_blameToken l dC dI cyB cyI cyJ cyP a1 H.size (.ref a1_bytes) (.int v1_length) (.int v1_at) (z1_filled) v1_token v1_fault v1_faultPlace 3 hw) (cwV 1 hts gX9_openLoop_X8_blameToken rfl rfl rfl (by decide +kernel) ⟨Nat.le_of_ble_eq_true rfl, Nat.le_of_ble_eq_true rfl⟩) ⟨cPc_blind, va_recv hK hPc (ci := 8) (q0 := 0) rfl rfl, cPc_pre hPc hK hDc hNw⟩ rfl rfl hl.1 rfl (lv_room (Nat.le_of_ble_eq_true rfl)) dX9_openLoop_11 ⟨Nat.le_of_ble_eq_true rfl, Nat.le_of_ble_eq_true rfl⟩) hS (fun q _ h => hFc q h) hFc (fun u t H1 locs ht hvm hw hB hz1 hk1 hS => ?_)
    obtain ⟨x18, x19⟩ := u
    obtain ⟨hP1, hK1, hD1⟩ := hB
    rw [ht] at hP1
    obtain ⟨hP, hD⟩ := va_join (wr := [(a0, .inr (9, [.ref a0_kinds, .ref a0_first, .ref a0_second, .ref a0_third, .ref a0_heads, z0_rounds, .int v0_length, .int v0_open, z0_hares, z0_forms, z0_done, z0_refused])), (a1_bytes, .inl (cyB, 600, .inl f1_bytes)), (a0_heads, .inl (cyI, 6, .inl f0_heads)), (a0_kinds, .inl (cyI, 50, .inl f0_kinds)), (a0_first, .inl (cyI, 50, .inl f0_first)), (a0_second, .inl (cyI, 50, .inl f0_second)), (a0_third, .inl (cyI, 50, .inl f0_third))]) (w1 := [(a1, .inr (8, [.ref a1_bytes, .int v1_length, .int v1_at, .int v1_token, z1_filled, .int x18, .int x19]))]) hP hD [1] [0, 2, 3, 4, 5, 6, 7] rfl rfl (by decide) (by decide) hk1 hFc hP1 hD1
    have hP : va_P (dC, dI) vwCl [(a0, .inr (9, [.ref a0_kinds, .ref a0_first, .ref a0_second, .ref a0_third, .ref a0_heads, z0_rounds, .int v0_length, .int v0_open, z0_hares, z0_forms, z0_done, z0_refused])), (a1, .inr (8, [.ref a1_bytes, .int v1_length, .int v1_at, .int v1_token, z1_filled, .int x18, .int x19])), (a1_bytes, .inl (cyB, 600, .inl f1_bytes)), (a0_heads, .inl (cyI, 6, .inl f0_heads)), (a0_kinds, .inl (cyI, 50, .inl f0_kinds)), (a0_first, .inl (cyI, 50, .inl f0_first)), (a0_second, .inl (cyI, 50, .inl f0_second)), (a0_third, .inl (cyI, 50, .inl f0_third))] H1 := hP.sub [0, 7, 1, 2, 3, 4, 5, 6] rfl
    have hD : va_D A [(a0, .inr (9, [.ref a0_kinds, .ref a0_first, .ref a0_second, .ref a0_third, .ref a0_heads, z0_rounds, .int v0_length, .int v0_open, z0_hares, z0_forms, z0_done, z0_refused])), (a1, .inr (8, [.ref a1_bytes, .int v1_length, .int v1_at, .int v1_token, z1_filled, .int x18, .int x19])), (a1_bytes, .inl (cyB, 600, .inl f1_bytes)), (a0_heads, .inl (cyI, 6, .inl f0_heads)), (a0_kinds, .inl (cyI, 50, .inl f0_kinds)), (a0_first, .inl (cyI, 50, .inl f0_first)), (a0_second, .inl (cyI, 50, .inl f0_second)), (a0_third, .inl (cyI, 50, .inl f0_third))] := hD.sub [0, 7, 1, 2, 3, 4, 5, 6] (by decide) rfl
    generalize H1 = H at hP hS ⊢
    exact ((W.vret hx hb hr (fun t ht hW => ⟨⟨(v1_at, x18, x19, v1_token, f0_heads, v0_open, f0_kinds, f0_first, f0_second, f0_third, v0_length), rfl, hw, by rw [ht]; exact hP, va_K.moved hW.alike hK, hD⟩, hS.F ht⟩) hS.2.2 dX9_openLoop_14))
theorem ui_X9_readFrom_X9 : ∀ w ∈ u_ws RX9 TX9 12, w ∈ wsX9_readFrom := by decide +kernel
theorem uw_X9_readFrom_f30 : (.fieldLink RX9 30 "MarchHares$Work" "hares" "I" : Cond) ∈ wsX9_readFrom := by decide +kernel
theorem uw_X9_readFrom_f34 : (.fieldLink RX9 34 "MarchHares$Work" "forms" "I" : Cond) ∈ wsX9_readFrom := by decide +kernel
theorem uw_X9_readFrom_f37 : (.fieldLink RX9 37 "MarchHares$Work" "length" "I" : Cond) ∈ wsX9_readFrom := by decide +kernel
theorem uw_X9_readFrom_f40 : (.fieldLink RX9 40 "MarchHares$Work" "open" "I" : Cond) ∈ wsX9_readFrom := by decide +kernel
def wb_X9_readFrom_82 (v1_length : Int32) (f1_bytes : Nat → Int32) (f0_heads : Nat → Int32) (Q : Int32 → Int32 → Int32 → Int32 → Int32 → Int32 → (Nat → Int32) → (Nat → Int32) → (Nat → Int32) → (Nat → Int32) → Int32 → Int32 → Prop) (K23 : Int32 → Int32 → Int32 → Int32 → Int32 → Int32 → (Nat → Int32) → (Nat → Int32) → (Nat → Int32) → (Nat → Int32) → Int32 → Int32 → Int32 → Prop) (v0_hares : Int32) (v0_forms : Int32) (v0_length : Int32) (v0_open : Int32) (v1_at : Int32) (v1_token : Int32) (f0_second : Nat → Int32) (f0_kinds : Nat → Int32) (f0_first : Nat → Int32) (f0_third : Nat → Int32) (v1_fault : Int32) (v1_faultPlace : Int32) (l4 : Int32) : Prop := False
set_option maxHeartbeats 4000000 in
set_option maxRecDepth 100000 in
theorem kb_X9_readFrom_82 {p : Program} {l : Launch} {e : Env} {s : State} {m : MethodId} {args : Array Value} {below : List Frame} {meth : Method} {c : Code} {A : Nat → Prop} (dC : Nat → ClassId) (dI : Nat → Nat → Nat) (cyB cyI cyJ cyP : ClassId) (a0 a1 a1_bytes a0_heads a0_second a0_kinds a0_first a0_third : Nat) (z0_rounds : Value) (z0_done : Value) (z0_refused : Value) (z1_filled : Value) (v1_length : Int32) (f1_bytes : Nat → Int32) (f0_heads : Nat → Int32) (Q : Int32 → Int32 → Int32 → Int32 → Int32 → Int32 → (Nat → Int32) → (Nat → Int32) → (Nat → Int32) → (Nat → Int32) → Int32 → Int32 → Prop) (K23 : Int32 → Int32 → Int32 → Int32 → Int32 → Int32 → (Nat → Int32) → (Nat → Int32) → (Nat → Int32) → (Nat → Int32) → Int32 → Int32 → Int32 → Prop) (hK23 : ∀ (H : Heap) (locs : List Loc) (ls : Array Slot) (v0_hares : Int32) (v0_forms : Int32) (v0_length : Int32) (v0_open : Int32) (v1_at : Int32) (v1_token : Int32) (f0_second : Nat → Int32) (f0_kinds : Nat → Int32) (f0_first : Nat → Int32) (f0_third : Nat → Int32) (v1_fault : Int32) (v1_faultPlace : Int32) (l4 : Int32), va_P (dC, dI) vwCl [(a0, .inr (9, [.ref a0_kinds, .ref a0_first, .ref a0_second, .ref a0_third, .ref a0_heads, z0_rounds, .int v0_length, .int v0_open, .int v0_hares, .int v0_forms, z0_done, z0_refused])), (a1, .inr (8, [.ref a1_bytes, .int v1_length, .int v1_at, .int v1_token, z1_filled, .int v1_fault, .int v1_faultPlace])), (a1_bytes, .inl (cyB, 600, .inl f1_bytes)), (a0_heads, .inl (cyI, 6, .inl f0_heads)), (a0_second, .inl (cyI, 50, .inl f0_second)), (a0_kinds, .inl (cyI, 50, .inl f0_kinds)), (a0_first, .inl (cyI, 50, .inl f0_first)), (a0_third, .inl (cyI, 50, .inl f0_third))] H → va_D A [(a0, .inr (9, [.ref a0_kinds, .ref a0_first, .ref a0_second, .ref a0_third, .ref a0_heads, z0_rounds, .int v0_length, .int v0_open, .int v0_hares, .int v0_forms, z0_done, z0_refused])), (a1, .inr (8, [.ref a1_bytes, .int v1_length, .int v1_at, .int v1_token, z1_filled, .int v1_fault, .int v1_faultPlace])), (a1_bytes, .inl (cyB, 600, .inl f1_bytes)), (a0_heads, .inl (cyI, 6, .inl f0_heads)), (a0_second, .inl (cyI, 50, .inl f0_second)), (a0_kinds, .inl (cyI, 50, .inl f0_kinds)), (a0_first, .inl (cyI, 50, .inl f0_first)), (a0_third, .inl (cyI, 50, .inl f0_third))] → va_S A s.heap H locs → lv_has ls 5 [(0, .ref a0), (1, .ref a1), (4, .int l4)] → K23 v0_hares v0_forms v0_length v0_open v1_at v1_token f0_second f0_kinds f0_first f0_third v1_fault v1_faultPlace l4 → W p l e (headSpec wsX9_readFrom ({ frames := 3, cells := 0, slots := 0, locals := 63 })).room s m args below meth c H locs 0 0 (MQ below (va_Qv (fun (u : Int32 × Int32 × Int32 × Int32 × Int32 × Int32 × (Nat → Int32) × (Nat → Int32) × (Nat → Int32) × (Nat → Int32) × Int32 × Int32) => Q u.1 u.2.1 u.2.2.1 u.2.2.2.1 u.2.2.2.2.1 u.2.2.2.2.2.1 u.2.2.2.2.2.2.1 u.2.2.2.2.2.2.2.1 u.2.2.2.2.2.2.2.2.1 u.2.2.2.2.2.2.2.2.2.1 u.2.2.2.2.2.2.2.2.2.2.1 u.2.2.2.2.2.2.2.2.2.2.2) (cB (dC, dI) (kT cyB cyI cyJ cyP) A (fun u : Int32 × Int32 × Int32 × Int32 × Int32 × Int32 × (Nat → Int32) × (Nat → Int32) × (Nat → Int32) × (Nat → Int32) × Int32 × Int32 => ([(a0, .inr (9, [.ref a0_kinds, .ref a0_first, .ref a0_second, .ref a0_third, .ref a0_heads, z0_rounds, .int u.2.2.1, .int u.2.2.2.1, .int u.1, .int u.2.1, z0_done, z0_refused])), (a1, .inr (8, [.ref a1_bytes, .int v1_length, .int u.2.2.2.2.1, .int u.2.2.2.2.2.1, z1_filled, .int u.2.2.2.2.2.2.2.2.2.2.1, .int u.2.2.2.2.2.2.2.2.2.2.2])), (a1_bytes, .inl (cyB, 600, .inl f1_bytes)), (a0_heads, .inl (cyI, 6, .inl f0_heads)), (a0_second, .inl (cyI, 50, .inl u.2.2.2.2.2.2.1)), (a0_kinds, .inl (cyI, 50, .inl u.2.2.2.2.2.2.2.1)), (a0_first, .inl (cyI, 50, .inl u.2.2.2.2.2.2.2.2.1)), (a0_third, .inl (cyI, 50, .inl u.2.2.2.2.2.2.2.2.2.1))] : va_W))) A) args s 0 0 A) (F0 m 23 ls [])) (C0 : cfx p s m args meth c cX9_readFrom none wsX9_readFrom RX9 5 A (dC, dI) (kT cyB cyI cyJ cyP)) : ∀ (H : Heap) (locs : List Loc) (ls : Array Slot) (v0_hares : Int32) (v0_forms : Int32) (v0_length : Int32) (v0_open : Int32) (v1_at : Int32) (v1_token : Int32) (f0_second : Nat → Int32) (f0_kinds : Nat → Int32) (f0_first : Nat → Int32) (f0_third : Nat → Int32) (v1_fault : Int32) (v1_faultPlace : Int32) (l4 : Int32), va_P (dC, dI) vwCl [(a0, .inr (9, [.ref a0_kinds, .ref a0_first, .ref a0_second, .ref a0_third, .ref a0_heads, z0_rounds, .int v0_length, .int v0_open, .int v0_hares, .int v0_forms, z0_done, z0_refused])), (a1, .inr (8, [.ref a1_bytes, .int v1_length, .int v1_at, .int v1_token, z1_filled, .int v1_fault, .int v1_faultPlace])), (a1_bytes, .inl (cyB, 600, .inl f1_bytes)), (a0_heads, .inl (cyI, 6, .inl f0_heads)), (a0_second, .inl (cyI, 50, .inl f0_second)), (a0_kinds, .inl (cyI, 50, .inl f0_kinds)), (a0_first, .inl (cyI, 50, .inl f0_first)), (a0_third, .inl (cyI, 50, .inl f0_third))] H → va_D A [(a0, .inr (9, [.ref a0_kinds, .ref a0_first, .ref a0_second, .ref a0_third, .ref a0_heads, z0_rounds, .int v0_length, .int v0_open, .int v0_hares, .int v0_forms, z0_done, z0_refused])), (a1, .inr (8, [.ref a1_bytes, .int v1_length, .int v1_at, .int v1_token, z1_filled, .int v1_fault, .int v1_faultPlace])), (a1_bytes, .inl (cyB, 600, .inl f1_bytes)), (a0_heads, .inl (cyI, 6, .inl f0_heads)), (a0_second, .inl (cyI, 50, .inl f0_second)), (a0_kinds, .inl (cyI, 50, .inl f0_kinds)), (a0_first, .inl (cyI, 50, .inl f0_first)), (a0_third, .inl (cyI, 50, .inl f0_third))] → va_S A s.heap H locs → lv_has ls 5 [(0, .ref a0), (1, .ref a1), (4, .int l4)] → wb_X9_readFrom_82 v1_length f1_bytes f0_heads Q K23 v0_hares v0_forms v0_length v0_open v1_at v1_token f0_second f0_kinds f0_first f0_third v1_fault v1_faultPlace l4 → W p l e (headSpec wsX9_readFrom ({ frames := 3, cells := 0, slots := 0, locals := 63 })).room s m args below meth c H locs 0 0 (MQ below (va_Qv (fun (u : Int32 × Int32 × Int32 × Int32 × Int32 × Int32 × (Nat → Int32) × (Nat → Int32) × (Nat → Int32) × (Nat → Int32) × Int32 × Int32) => Q u.1 u.2.1 u.2.2.1 u.2.2.2.1 u.2.2.2.2.1 u.2.2.2.2.2.1 u.2.2.2.2.2.2.1 u.2.2.2.2.2.2.2.1 u.2.2.2.2.2.2.2.2.1 u.2.2.2.2.2.2.2.2.2.1 u.2.2.2.2.2.2.2.2.2.2.1 u.2.2.2.2.2.2.2.2.2.2.2) (cB (dC, dI) (kT cyB cyI cyJ cyP) A (fun u : Int32 × Int32 × Int32 × Int32 × Int32 × Int32 × (Nat → Int32) × (Nat → Int32) × (Nat → Int32) × (Nat → Int32) × Int32 × Int32 => ([(a0, .inr (9, [.ref a0_kinds, .ref a0_first, .ref a0_second, .ref a0_third, .ref a0_heads, z0_rounds, .int u.2.2.1, .int u.2.2.2.1, .int u.1, .int u.2.1, z0_done, z0_refused])), (a1, .inr (8, [.ref a1_bytes, .int v1_length, .int u.2.2.2.2.1, .int u.2.2.2.2.2.1, z1_filled, .int u.2.2.2.2.2.2.2.2.2.2.1, .int u.2.2.2.2.2.2.2.2.2.2.2])), (a1_bytes, .inl (cyB, 600, .inl f1_bytes)), (a0_heads, .inl (cyI, 6, .inl f0_heads)), (a0_second, .inl (cyI, 50, .inl u.2.2.2.2.2.2.1)), (a0_kinds, .inl (cyI, 50, .inl u.2.2.2.2.2.2.2.1)), (a0_first, .inl (cyI, 50, .inl u.2.2.2.2.2.2.2.2.1)), (a0_third, .inl (cyI, 50, .inl u.2.2.2.2.2.2.2.2.2.1))] : va_W))) A) args s 0 0 A) (F0 m 82 ls []) := by
  obtain ⟨hx, hb, hr, hts, hown, hlocks, hml, hA, hK, hNw⟩ := id C0
  intro H locs ls v0_hares v0_forms v0_length v0_open v1_at v1_token f0_second f0_kinds f0_first f0_third v1_fault v1_faultPlace l4 hP hD hS hl hw
  refine lv_aload_n hx hb dX9_readFrom_82 rfl (lv_at hl 0 rfl) ?_
  refine lv_aload_n hx hb dX9_readFrom_83 rfl (lv_at hl 1 rfl) ?_
  exact False.elim hw
def wb_X9_readFrom_87 (v1_length : Int32) (f1_bytes : Nat → Int32) (f0_heads : Nat → Int32) (Q : Int32 → Int32 → Int32 → Int32 → Int32 → Int32 → (Nat → Int32) → (Nat → Int32) → (Nat → Int32) → (Nat → Int32) → Int32 → Int32 → Prop) (K23 : Int32 → Int32 → Int32 → Int32 → Int32 → Int32 → (Nat → Int32) → (Nat → Int32) → (Nat → Int32) → (Nat → Int32) → Int32 → Int32 → Int32 → Prop) (v0_hares : Int32) (v0_forms : Int32) (v0_length : Int32) (v0_open : Int32) (v1_at : Int32) (v1_token : Int32) (f0_second : Nat → Int32) (f0_kinds : Nat → Int32) (f0_first : Nat → Int32) (f0_third : Nat → Int32) (v1_fault : Int32) (v1_faultPlace : Int32) (l4 : Int32) : Prop := ∀ x23 : Int32, x23 = l4 + 1 → (K23 v0_hares v0_forms v0_length v0_open v1_at v1_token f0_second f0_kinds f0_first f0_third v1_fault v1_faultPlace x23)
set_option maxHeartbeats 4000000 in
set_option maxRecDepth 100000 in
theorem kb_X9_readFrom_87 {p : Program} {l : Launch} {e : Env} {s : State} {m : MethodId} {args : Array Value} {below : List Frame} {meth : Method} {c : Code} {A : Nat → Prop} (dC : Nat → ClassId) (dI : Nat → Nat → Nat) (cyB cyI cyJ cyP : ClassId) (a0 a1 a1_bytes a0_heads a0_second a0_kinds a0_first a0_third : Nat) (z0_rounds : Value) (z0_done : Value) (z0_refused : Value) (z1_filled : Value) (v1_length : Int32) (f1_bytes : Nat → Int32) (f0_heads : Nat → Int32) (Q : Int32 → Int32 → Int32 → Int32 → Int32 → Int32 → (Nat → Int32) → (Nat → Int32) → (Nat → Int32) → (Nat → Int32) → Int32 → Int32 → Prop) (K23 : Int32 → Int32 → Int32 → Int32 → Int32 → Int32 → (Nat → Int32) → (Nat → Int32) → (Nat → Int32) → (Nat → Int32) → Int32 → Int32 → Int32 → Prop) (hK23 : ∀ (H : Heap) (locs : List Loc) (ls : Array Slot) (v0_hares : Int32) (v0_forms : Int32) (v0_length : Int32) (v0_open : Int32) (v1_at : Int32) (v1_token : Int32) (f0_second : Nat → Int32) (f0_kinds : Nat → Int32) (f0_first : Nat → Int32) (f0_third : Nat → Int32) (v1_fault : Int32) (v1_faultPlace : Int32) (l4 : Int32), va_P (dC, dI) vwCl [(a0, .inr (9, [.ref a0_kinds, .ref a0_first, .ref a0_second, .ref a0_third, .ref a0_heads, z0_rounds, .int v0_length, .int v0_open, .int v0_hares, .int v0_forms, z0_done, z0_refused])), (a1, .inr (8, [.ref a1_bytes, .int v1_length, .int v1_at, .int v1_token, z1_filled, .int v1_fault, .int v1_faultPlace])), (a1_bytes, .inl (cyB, 600, .inl f1_bytes)), (a0_heads, .inl (cyI, 6, .inl f0_heads)), (a0_second, .inl (cyI, 50, .inl f0_second)), (a0_kinds, .inl (cyI, 50, .inl f0_kinds)), (a0_first, .inl (cyI, 50, .inl f0_first)), (a0_third, .inl (cyI, 50, .inl f0_third))] H → va_D A [(a0, .inr (9, [.ref a0_kinds, .ref a0_first, .ref a0_second, .ref a0_third, .ref a0_heads, z0_rounds, .int v0_length, .int v0_open, .int v0_hares, .int v0_forms, z0_done, z0_refused])), (a1, .inr (8, [.ref a1_bytes, .int v1_length, .int v1_at, .int v1_token, z1_filled, .int v1_fault, .int v1_faultPlace])), (a1_bytes, .inl (cyB, 600, .inl f1_bytes)), (a0_heads, .inl (cyI, 6, .inl f0_heads)), (a0_second, .inl (cyI, 50, .inl f0_second)), (a0_kinds, .inl (cyI, 50, .inl f0_kinds)), (a0_first, .inl (cyI, 50, .inl f0_first)), (a0_third, .inl (cyI, 50, .inl f0_third))] → va_S A s.heap H locs → lv_has ls 5 [(0, .ref a0), (1, .ref a1), (4, .int l4)] → K23 v0_hares v0_forms v0_length v0_open v1_at v1_token f0_second f0_kinds f0_first f0_third v1_fault v1_faultPlace l4 → W p l e (headSpec wsX9_readFrom ({ frames := 3, cells := 0, slots := 0, locals := 63 })).room s m args below meth c H locs 0 0 (MQ below (va_Qv (fun (u : Int32 × Int32 × Int32 × Int32 × Int32 × Int32 × (Nat → Int32) × (Nat → Int32) × (Nat → Int32) × (Nat → Int32) × Int32 × Int32) => Q u.1 u.2.1 u.2.2.1 u.2.2.2.1 u.2.2.2.2.1 u.2.2.2.2.2.1 u.2.2.2.2.2.2.1 u.2.2.2.2.2.2.2.1 u.2.2.2.2.2.2.2.2.1 u.2.2.2.2.2.2.2.2.2.1 u.2.2.2.2.2.2.2.2.2.2.1 u.2.2.2.2.2.2.2.2.2.2.2) (cB (dC, dI) (kT cyB cyI cyJ cyP) A (fun u : Int32 × Int32 × Int32 × Int32 × Int32 × Int32 × (Nat → Int32) × (Nat → Int32) × (Nat → Int32) × (Nat → Int32) × Int32 × Int32 => ([(a0, .inr (9, [.ref a0_kinds, .ref a0_first, .ref a0_second, .ref a0_third, .ref a0_heads, z0_rounds, .int u.2.2.1, .int u.2.2.2.1, .int u.1, .int u.2.1, z0_done, z0_refused])), (a1, .inr (8, [.ref a1_bytes, .int v1_length, .int u.2.2.2.2.1, .int u.2.2.2.2.2.1, z1_filled, .int u.2.2.2.2.2.2.2.2.2.2.1, .int u.2.2.2.2.2.2.2.2.2.2.2])), (a1_bytes, .inl (cyB, 600, .inl f1_bytes)), (a0_heads, .inl (cyI, 6, .inl f0_heads)), (a0_second, .inl (cyI, 50, .inl u.2.2.2.2.2.2.1)), (a0_kinds, .inl (cyI, 50, .inl u.2.2.2.2.2.2.2.1)), (a0_first, .inl (cyI, 50, .inl u.2.2.2.2.2.2.2.2.1)), (a0_third, .inl (cyI, 50, .inl u.2.2.2.2.2.2.2.2.2.1))] : va_W))) A) args s 0 0 A) (F0 m 23 ls [])) (C0 : cfx p s m args meth c cX9_readFrom none wsX9_readFrom RX9 5 A (dC, dI) (kT cyB cyI cyJ cyP)) : ∀ (H : Heap) (locs : List Loc) (ls : Array Slot) (v0_hares : Int32) (v0_forms : Int32) (v0_length : Int32) (v0_open : Int32) (v1_at : Int32) (v1_token : Int32) (f0_second : Nat → Int32) (f0_kinds : Nat → Int32) (f0_first : Nat → Int32) (f0_third : Nat → Int32) (v1_fault : Int32) (v1_faultPlace : Int32) (l4 : Int32), va_P (dC, dI) vwCl [(a0, .inr (9, [.ref a0_kinds, .ref a0_first, .ref a0_second, .ref a0_third, .ref a0_heads, z0_rounds, .int v0_length, .int v0_open, .int v0_hares, .int v0_forms, z0_done, z0_refused])), (a1, .inr (8, [.ref a1_bytes, .int v1_length, .int v1_at, .int v1_token, z1_filled, .int v1_fault, .int v1_faultPlace])), (a1_bytes, .inl (cyB, 600, .inl f1_bytes)), (a0_heads, .inl (cyI, 6, .inl f0_heads)), (a0_second, .inl (cyI, 50, .inl f0_second)), (a0_kinds, .inl (cyI, 50, .inl f0_kinds)), (a0_first, .inl (cyI, 50, .inl f0_first)), (a0_third, .inl (cyI, 50, .inl f0_third))] H → va_D A [(a0, .inr (9, [.ref a0_kinds, .ref a0_first, .ref a0_second, .ref a0_third, .ref a0_heads, z0_rounds, .int v0_length, .int v0_open, .int v0_hares, .int v0_forms, z0_done, z0_refused])), (a1, .inr (8, [.ref a1_bytes, .int v1_length, .int v1_at, .int v1_token, z1_filled, .int v1_fault, .int v1_faultPlace])), (a1_bytes, .inl (cyB, 600, .inl f1_bytes)), (a0_heads, .inl (cyI, 6, .inl f0_heads)), (a0_second, .inl (cyI, 50, .inl f0_second)), (a0_kinds, .inl (cyI, 50, .inl f0_kinds)), (a0_first, .inl (cyI, 50, .inl f0_first)), (a0_third, .inl (cyI, 50, .inl f0_third))] → va_S A s.heap H locs → lv_has ls 5 [(0, .ref a0), (1, .ref a1), (4, .int l4)] → wb_X9_readFrom_87 v1_length f1_bytes f0_heads Q K23 v0_hares v0_forms v0_length v0_open v1_at v1_token f0_second f0_kinds f0_first f0_third v1_fault v1_faultPlace l4 → W p l e (headSpec wsX9_readFrom ({ frames := 3, cells := 0, slots := 0, locals := 63 })).room s m args below meth c H locs 0 0 (MQ below (va_Qv (fun (u : Int32 × Int32 × Int32 × Int32 × Int32 × Int32 × (Nat → Int32) × (Nat → Int32) × (Nat → Int32) × (Nat → Int32) × Int32 × Int32) => Q u.1 u.2.1 u.2.2.1 u.2.2.2.1 u.2.2.2.2.1 u.2.2.2.2.2.1 u.2.2.2.2.2.2.1 u.2.2.2.2.2.2.2.1 u.2.2.2.2.2.2.2.2.1 u.2.2.2.2.2.2.2.2.2.1 u.2.2.2.2.2.2.2.2.2.2.1 u.2.2.2.2.2.2.2.2.2.2.2) (cB (dC, dI) (kT cyB cyI cyJ cyP) A (fun u : Int32 × Int32 × Int32 × Int32 × Int32 × Int32 × (Nat → Int32) × (Nat → Int32) × (Nat → Int32) × (Nat → Int32) × Int32 × Int32 => ([(a0, .inr (9, [.ref a0_kinds, .ref a0_first, .ref a0_second, .ref a0_third, .ref a0_heads, z0_rounds, .int u.2.2.1, .int u.2.2.2.1, .int u.1, .int u.2.1, z0_done, z0_refused])), (a1, .inr (8, [.ref a1_bytes, .int v1_length, .int u.2.2.2.2.1, .int u.2.2.2.2.2.1, z1_filled, .int u.2.2.2.2.2.2.2.2.2.2.1, .int u.2.2.2.2.2.2.2.2.2.2.2])), (a1_bytes, .inl (cyB, 600, .inl f1_bytes)), (a0_heads, .inl (cyI, 6, .inl f0_heads)), (a0_second, .inl (cyI, 50, .inl u.2.2.2.2.2.2.1)), (a0_kinds, .inl (cyI, 50, .inl u.2.2.2.2.2.2.2.1)), (a0_first, .inl (cyI, 50, .inl u.2.2.2.2.2.2.2.2.1)), (a0_third, .inl (cyI, 50, .inl u.2.2.2.2.2.2.2.2.2.1))] : va_W))) A) args s 0 0 A) (F0 m 87 ls []) := by
  obtain ⟨hx, hb, hr, hts, hown, hlocks, hml, hA, hK, hNw⟩ := id C0
  intro H locs ls v0_hares v0_forms v0_length v0_open v1_at v1_token f0_second f0_kinds f0_first f0_third v1_fault v1_faultPlace l4 hP hD hS hl hw
  obtain ⟨x23, ex23⟩ : ∃ y : Int32, y = l4 + 1 := ⟨_, rfl⟩
  have hw := hw x23 ex23
  refine lv_iinc (v := x23) (lv' := [(4, .int x23), (0, .ref a0), (1, .ref a1)]) hx hb dX9_readFrom_87 hl (k := 2) rfl (by rw [ex23]; rfl) (by decide) rfl (fun ls hl => ?_)
  refine lv_goto (tgt := 23) hx hb dX9_readFrom_90 (by decide) ?_
  exact hK23 _ _ _ v0_hares v0_forms v0_length v0_open v1_at v1_token f0_second f0_kinds f0_first f0_third v1_fault v1_faultPlace x23 hP hD hS (lv_sub hl [1, 2, 0] rfl) hw
def wb_X9_readFrom_53 (v1_length : Int32) (f1_bytes : Nat → Int32) (f0_heads : Nat → Int32) (Q : Int32 → Int32 → Int32 → Int32 → Int32 → Int32 → (Nat → Int32) → (Nat → Int32) → (Nat → Int32) → (Nat → Int32) → Int32 → Int32 → Prop) (K23 : Int32 → Int32 → Int32 → Int32 → Int32 → Int32 → (Nat → Int32) → (Nat → Int32) → (Nat → Int32) → (Nat → Int32) → Int32 → Int32 → Int32 → Prop) (v0_hares : Int32) (v0_forms : Int32) (v0_length : Int32) (v0_open : Int32) (v1_at : Int32) (v1_token : Int32) (f0_second : Nat → Int32) (f0_kinds : Nat → Int32) (f0_first : Nat → Int32) (f0_third : Nat → Int32) (v1_fault : Int32) (v1_faultPlace : Int32) (l4 : Int32) : Prop := ((v0_open ≤ 0 → (wb_X9_readFrom_82 v1_length f1_bytes f0_heads Q K23 v0_hares v0_forms v0_length v0_open v1_at v1_token f0_second f0_kinds f0_first f0_third v1_fault v1_faultPlace l4)) ∧ (¬ v0_open ≤ 0 → wq_X8_takes v1_length v1_fault f1_bytes v1_at v1_token 93 (fun r11 x9 x10 => ((r11 = 0 → (wb_X9_readFrom_82 v1_length f1_bytes f0_heads Q K23 v0_hares v0_forms v0_length v0_open x9 x10 f0_second f0_kinds f0_first f0_third v1_fault v1_faultPlace l4)) ∧ (¬ r11 = 0 → wq_X9_closeLoop f0_heads v0_open f0_second f0_kinds f0_first f0_third v0_length  (fun x13 f14 f15 f16 f17 x18 => wq_X8_needs v1_length f1_bytes x9 x10 v1_fault v1_faultPlace 59 (fun x19 x20 x21 x22 => (wb_X9_readFrom_87 v1_length f1_bytes f0_heads Q K23 v0_hares v0_forms x18 x13 x19 x20 f14 f15 f16 f17 x21 x22 l4))))))))
set_option maxHeartbeats 4000000 in
set_option maxRecDepth 100000 in
theorem kb_X9_readFrom_53 {p : Program} {l : Launch} {e : Env} {s : State} {m : MethodId} {args : Array Value} {below : List Frame} {meth : Method} {c : Code} {A : Nat → Prop} (dC : Nat → ClassId) (dI : Nat → Nat → Nat) (cyB cyI cyJ cyP : ClassId) (a0 a1 a1_bytes a0_heads a0_second a0_kinds a0_first a0_third : Nat) (z0_rounds : Value) (z0_done : Value) (z0_refused : Value) (z1_filled : Value) (v1_length : Int32) (f1_bytes : Nat → Int32) (f0_heads : Nat → Int32) (Q : Int32 → Int32 → Int32 → Int32 → Int32 → Int32 → (Nat → Int32) → (Nat → Int32) → (Nat → Int32) → (Nat → Int32) → Int32 → Int32 → Prop) (K23 : Int32 → Int32 → Int32 → Int32 → Int32 → Int32 → (Nat → Int32) → (Nat → Int32) → (Nat → Int32) → (Nat → Int32) → Int32 → Int32 → Int32 → Prop) (hK23 : ∀ (H : Heap) (locs : List Loc) (ls : Array Slot) (v0_hares : Int32) (v0_forms : Int32) (v0_length : Int32) (v0_open : Int32) (v1_at : Int32) (v1_token : Int32) (f0_second : Nat → Int32) (f0_kinds : Nat → Int32) (f0_first : Nat → Int32) (f0_third : Nat → Int32) (v1_fault : Int32) (v1_faultPlace : Int32) (l4 : Int32), va_P (dC, dI) vwCl [(a0, .inr (9, [.ref a0_kinds, .ref a0_first, .ref a0_second, .ref a0_third, .ref a0_heads, z0_rounds, .int v0_length, .int v0_open, .int v0_hares, .int v0_forms, z0_done, z0_refused])), (a1, .inr (8, [.ref a1_bytes, .int v1_length, .int v1_at, .int v1_token, z1_filled, .int v1_fault, .int v1_faultPlace])), (a1_bytes, .inl (cyB, 600, .inl f1_bytes)), (a0_heads, .inl (cyI, 6, .inl f0_heads)), (a0_second, .inl (cyI, 50, .inl f0_second)), (a0_kinds, .inl (cyI, 50, .inl f0_kinds)), (a0_first, .inl (cyI, 50, .inl f0_first)), (a0_third, .inl (cyI, 50, .inl f0_third))] H → va_D A [(a0, .inr (9, [.ref a0_kinds, .ref a0_first, .ref a0_second, .ref a0_third, .ref a0_heads, z0_rounds, .int v0_length, .int v0_open, .int v0_hares, .int v0_forms, z0_done, z0_refused])), (a1, .inr (8, [.ref a1_bytes, .int v1_length, .int v1_at, .int v1_token, z1_filled, .int v1_fault, .int v1_faultPlace])), (a1_bytes, .inl (cyB, 600, .inl f1_bytes)), (a0_heads, .inl (cyI, 6, .inl f0_heads)), (a0_second, .inl (cyI, 50, .inl f0_second)), (a0_kinds, .inl (cyI, 50, .inl f0_kinds)), (a0_first, .inl (cyI, 50, .inl f0_first)), (a0_third, .inl (cyI, 50, .inl f0_third))] → va_S A s.heap H locs → lv_has ls 5 [(0, .ref a0), (1, .ref a1), (4, .int l4)] → K23 v0_hares v0_forms v0_length v0_open v1_at v1_token f0_second f0_kinds f0_first f0_third v1_fault v1_faultPlace l4 → W p l e (headSpec wsX9_readFrom ({ frames := 3, cells := 0, slots := 0, locals := 63 })).room s m args below meth c H locs 0 0 (MQ below (va_Qv (fun (u : Int32 × Int32 × Int32 × Int32 × Int32 × Int32 × (Nat → Int32) × (Nat → Int32) × (Nat → Int32) × (Nat → Int32) × Int32 × Int32) => Q u.1 u.2.1 u.2.2.1 u.2.2.2.1 u.2.2.2.2.1 u.2.2.2.2.2.1 u.2.2.2.2.2.2.1 u.2.2.2.2.2.2.2.1 u.2.2.2.2.2.2.2.2.1 u.2.2.2.2.2.2.2.2.2.1 u.2.2.2.2.2.2.2.2.2.2.1 u.2.2.2.2.2.2.2.2.2.2.2) (cB (dC, dI) (kT cyB cyI cyJ cyP) A (fun u : Int32 × Int32 × Int32 × Int32 × Int32 × Int32 × (Nat → Int32) × (Nat → Int32) × (Nat → Int32) × (Nat → Int32) × Int32 × Int32 => ([(a0, .inr (9, [.ref a0_kinds, .ref a0_first, .ref a0_second, .ref a0_third, .ref a0_heads, z0_rounds, .int u.2.2.1, .int u.2.2.2.1, .int u.1, .int u.2.1, z0_done, z0_refused])), (a1, .inr (8, [.ref a1_bytes, .int v1_length, .int u.2.2.2.2.1, .int u.2.2.2.2.2.1, z1_filled, .int u.2.2.2.2.2.2.2.2.2.2.1, .int u.2.2.2.2.2.2.2.2.2.2.2])), (a1_bytes, .inl (cyB, 600, .inl f1_bytes)), (a0_heads, .inl (cyI, 6, .inl f0_heads)), (a0_second, .inl (cyI, 50, .inl u.2.2.2.2.2.2.1)), (a0_kinds, .inl (cyI, 50, .inl u.2.2.2.2.2.2.2.1)), (a0_first, .inl (cyI, 50, .inl u.2.2.2.2.2.2.2.2.1)), (a0_third, .inl (cyI, 50, .inl u.2.2.2.2.2.2.2.2.2.1))] : va_W))) A) args s 0 0 A) (F0 m 23 ls [])) (C0 : cfx p s m args meth c cX9_readFrom none wsX9_readFrom RX9 5 A (dC, dI) (kT cyB cyI cyJ cyP)) : ∀ (H : Heap) (locs : List Loc) (ls : Array Slot) (v0_hares : Int32) (v0_forms : Int32) (v0_length : Int32) (v0_open : Int32) (v1_at : Int32) (v1_token : Int32) (f0_second : Nat → Int32) (f0_kinds : Nat → Int32) (f0_first : Nat → Int32) (f0_third : Nat → Int32) (v1_fault : Int32) (v1_faultPlace : Int32) (l4 : Int32), va_P (dC, dI) vwCl [(a0, .inr (9, [.ref a0_kinds, .ref a0_first, .ref a0_second, .ref a0_third, .ref a0_heads, z0_rounds, .int v0_length, .int v0_open, .int v0_hares, .int v0_forms, z0_done, z0_refused])), (a1, .inr (8, [.ref a1_bytes, .int v1_length, .int v1_at, .int v1_token, z1_filled, .int v1_fault, .int v1_faultPlace])), (a1_bytes, .inl (cyB, 600, .inl f1_bytes)), (a0_heads, .inl (cyI, 6, .inl f0_heads)), (a0_second, .inl (cyI, 50, .inl f0_second)), (a0_kinds, .inl (cyI, 50, .inl f0_kinds)), (a0_first, .inl (cyI, 50, .inl f0_first)), (a0_third, .inl (cyI, 50, .inl f0_third))] H → va_D A [(a0, .inr (9, [.ref a0_kinds, .ref a0_first, .ref a0_second, .ref a0_third, .ref a0_heads, z0_rounds, .int v0_length, .int v0_open, .int v0_hares, .int v0_forms, z0_done, z0_refused])), (a1, .inr (8, [.ref a1_bytes, .int v1_length, .int v1_at, .int v1_token, z1_filled, .int v1_fault, .int v1_faultPlace])), (a1_bytes, .inl (cyB, 600, .inl f1_bytes)), (a0_heads, .inl (cyI, 6, .inl f0_heads)), (a0_second, .inl (cyI, 50, .inl f0_second)), (a0_kinds, .inl (cyI, 50, .inl f0_kinds)), (a0_first, .inl (cyI, 50, .inl f0_first)), (a0_third, .inl (cyI, 50, .inl f0_third))] → va_S A s.heap H locs → lv_has ls 5 [(0, .ref a0), (1, .ref a1), (4, .int l4)] → wb_X9_readFrom_53 v1_length f1_bytes f0_heads Q K23 v0_hares v0_forms v0_length v0_open v1_at v1_token f0_second f0_kinds f0_first f0_third v1_fault v1_faultPlace l4 → W p l e (headSpec wsX9_readFrom ({ frames := 3, cells := 0, slots := 0, locals := 63 })).room s m args below meth c H locs 0 0 (MQ below (va_Qv (fun (u : Int32 × Int32 × Int32 × Int32 × Int32 × Int32 × (Nat → Int32) × (Nat → Int32) × (Nat → Int32) × (Nat → Int32) × Int32 × Int32) => Q u.1 u.2.1 u.2.2.1 u.2.2.2.1 u.2.2.2.2.1 u.2.2.2.2.2.1 u.2.2.2.2.2.2.1 u.2.2.2.2.2.2.2.1 u.2.2.2.2.2.2.2.2.1 u.2.2.2.2.2.2.2.2.2.1 u.2.2.2.2.2.2.2.2.2.2.1 u.2.2.2.2.2.2.2.2.2.2.2) (cB (dC, dI) (kT cyB cyI cyJ cyP) A (fun u : Int32 × Int32 × Int32 × Int32 × Int32 × Int32 × (Nat → Int32) × (Nat → Int32) × (Nat → Int32) × (Nat → Int32) × Int32 × Int32 => ([(a0, .inr (9, [.ref a0_kinds, .ref a0_first, .ref a0_second, .ref a0_third, .ref a0_heads, z0_rounds, .int u.2.2.1, .int u.2.2.2.1, .int u.1, .int u.2.1, z0_done, z0_refused])), (a1, .inr (8, [.ref a1_bytes, .int v1_length, .int u.2.2.2.2.1, .int u.2.2.2.2.2.1, z1_filled, .int u.2.2.2.2.2.2.2.2.2.2.1, .int u.2.2.2.2.2.2.2.2.2.2.2])), (a1_bytes, .inl (cyB, 600, .inl f1_bytes)), (a0_heads, .inl (cyI, 6, .inl f0_heads)), (a0_second, .inl (cyI, 50, .inl u.2.2.2.2.2.2.1)), (a0_kinds, .inl (cyI, 50, .inl u.2.2.2.2.2.2.2.1)), (a0_first, .inl (cyI, 50, .inl u.2.2.2.2.2.2.2.2.1)), (a0_third, .inl (cyI, 50, .inl u.2.2.2.2.2.2.2.2.2.1))] : va_W))) A) args s 0 0 A) (F0 m 53 ls []) := by
  obtain ⟨hx, hb, hr, hts, hown, hlocks, hml, hA, hK, hNw⟩ := id C0
  intro H locs ls v0_hares v0_forms v0_length v0_open v1_at v1_token f0_second f0_kinds f0_first f0_third v1_fault v1_faultPlace l4 hP hD hS hl hw
  refine lv_aload_n hx hb dX9_readFrom_53 rfl (lv_at hl 0 rfl) ?_
  refine va_get (D := (dC, dI)) (ci := 9) (v := .int v0_open) (C := RX9) (T := TX9) (N := 12) hx hb hts ui_X9_readFrom_X9 hown hK hP 0 rfl rfl 7 (by decide) (hts _ uw_X9_readFrom_f40) (fun _ h9 => h9) rfl dX9_readFrom_54 ?_
  refine lv_if_le (tgt := 82) hx hb dX9_readFrom_57 (by decide) (fun c8 => ?_) (fun c8 => ?_)
  · have hw := hw.1 c8
    exact kb_X9_readFrom_82 dC dI cyB cyI cyJ cyP a0 a1 a1_bytes a0_heads a0_second a0_kinds a0_first a0_third z0_rounds z0_done z0_refused z1_filled v1_length f1_bytes f0_heads Q K23 hK23 C0 _ _ _ v0_hares v0_forms v0_length v0_open v1_at v1_token f0_second f0_kinds f0_first f0_third v1_fault v1_faultPlace l4 hP hD hS (lv_sub hl [0, 1, 2] rfl) hw
  · have hw := hw.2 c8
    refine lv_aload_n hx hb dX9_readFrom_60 rfl (lv_at hl 1 rfl) ?_
    refine lv_bipush (v := 93) hx hb dX9_readFrom_61 (by decide) ?_
    have hPc := hP.sub (ws' := [(a1, .inr (8, [.ref a1_bytes, .int v1_length, .int v1_at, .int v1_token, z1_filled, .int v1_fault, .int v1_faultPlace])), (a1_bytes, .inl (cyB, 600, .inl f1_bytes))]) [1, 2] rfl
    have hDc := hD.sub (ws' := [(a1, .inr (8, [.ref a1_bytes, .int v1_length, .int v1_at, .int v1_token, z1_filled, .int v1_fault, .int v1_faultPlace])), (a1_bytes, .inl (cyB, 600, .inl f1_bytes))]) [1, 2] (by decide) rfl
    have hFc := va_free (wc := [(a1, .inr (8, [.ref a1_bytes, .int v1_length, .int v1_at, .int v1_token, z1_filled, .int v1_fault, .int v1_faultPlace])), (a1_bytes, .inl (cyB, 600, .inl f1_bytes))]) hD hS hA [1, 2] rfl
    refine va_calli (va_runV (As := [.int 93]) (rest := []) ⟨hx, hb, hml, hown, hts⟩ (ck_X8_takes l dC dI cyB cyI cyJ cyP a1 a1_bytes H.size (z1_filled) (.int v1_faultPlace) v1_length v1_fault f1_bytes v1_at v1_token 93 hw) (cwV 1 hts gX9_readFrom_X8_takes rfl rfl rfl (by decide +kernel) ⟨Nat.le_of_ble_eq_true rfl, Nat.le_of_ble_eq_true rfl⟩) ⟨cPc_blind, va_recv hK hPc (ci := 8) (q0 := 0) rfl rfl, cPc_pre hPc hK hDc hNw⟩ rfl rfl hl.1 rfl (lv_room (Nat.le_of_ble_eq_true rfl)) dX9_readFrom_63 ⟨Nat.le_of_ble_eq_true rfl, Nat.le_of_ble_eq_true rfl⟩) hS (fun q _ h => hFc q h) hFc (fun r11 u t H1 locs ht hvm hw hB hz1 hk1 hS => ?_)
    obtain ⟨x9, x10⟩ := u
    obtain ⟨hP1, hK1, hD1⟩ := hB
    rw [ht] at hP1
    obtain ⟨hP, hD⟩ := va_join (wr := [(a0, .inr (9, [.ref a0_kinds, .ref a0_first, .ref a0_second, .ref a0_third, .ref a0_heads, z0_rounds, .int v0_length, .int v0_open, .int v0_hares, .int v0_forms, z0_done, z0_refused])), (a0_heads, .inl (cyI, 6, .inl f0_heads)), (a0_second, .inl (cyI, 50, .inl f0_second)), (a0_kinds, .inl (cyI, 50, .inl f0_kinds)), (a0_first, .inl (cyI, 50, .inl f0_first)), (a0_third, .inl (cyI, 50, .inl f0_third))]) (w1 := [(a1, .inr (8, [.ref a1_bytes, .int v1_length, .int x9, .int x10, z1_filled, .int v1_fault, .int v1_faultPlace])), (a1_bytes, .inl (cyB, 600, .inl f1_bytes))]) hP hD [1, 2] [0, 3, 4, 5, 6, 7] rfl rfl (by decide) (by decide) hk1 hFc hP1 hD1
    have hP : va_P (dC, dI) vwCl [(a0, .inr (9, [.ref a0_kinds, .ref a0_first, .ref a0_second, .ref a0_third, .ref a0_heads, z0_rounds, .int v0_length, .int v0_open, .int v0_hares, .int v0_forms, z0_done, z0_refused])), (a1, .inr (8, [.ref a1_bytes, .int v1_length, .int x9, .int x10, z1_filled, .int v1_fault, .int v1_faultPlace])), (a1_bytes, .inl (cyB, 600, .inl f1_bytes)), (a0_heads, .inl (cyI, 6, .inl f0_heads)), (a0_second, .inl (cyI, 50, .inl f0_second)), (a0_kinds, .inl (cyI, 50, .inl f0_kinds)), (a0_first, .inl (cyI, 50, .inl f0_first)), (a0_third, .inl (cyI, 50, .inl f0_third))] H1 := hP.sub [0, 6, 7, 1, 2, 3, 4, 5] rfl
    have hD : va_D A [(a0, .inr (9, [.ref a0_kinds, .ref a0_first, .ref a0_second, .ref a0_third, .ref a0_heads, z0_rounds, .int v0_length, .int v0_open, .int v0_hares, .int v0_forms, z0_done, z0_refused])), (a1, .inr (8, [.ref a1_bytes, .int v1_length, .int x9, .int x10, z1_filled, .int v1_fault, .int v1_faultPlace])), (a1_bytes, .inl (cyB, 600, .inl f1_bytes)), (a0_heads, .inl (cyI, 6, .inl f0_heads)), (a0_second, .inl (cyI, 50, .inl f0_second)), (a0_kinds, .inl (cyI, 50, .inl f0_kinds)), (a0_first, .inl (cyI, 50, .inl f0_first)), (a0_third, .inl (cyI, 50, .inl f0_third))] := hD.sub [0, 6, 7, 1, 2, 3, 4, 5] (by decide) rfl
    generalize H1 = H at hP hS ⊢
    refine lv_if_eq (tgt := 82) hx hb dX9_readFrom_66 (by decide) (fun c12 => ?_) (fun c12 => ?_)
    · have hw := hw.1 c12
      exact kb_X9_readFrom_82 dC dI cyB cyI cyJ cyP a0 a1 a1_bytes a0_heads a0_second a0_kinds a0_first a0_third z0_rounds z0_done z0_refused z1_filled v1_length f1_bytes f0_heads Q K23 hK23 C0 _ _ _ v0_hares v0_forms v0_length v0_open x9 x10 f0_second f0_kinds f0_first f0_third v1_fault v1_faultPlace l4 hP hD hS (lv_sub hl [0, 1, 2] rfl) hw
    · have hw := hw.2 c12
      refine lv_aload_n hx hb dX9_readFrom_69 rfl (lv_at hl 0 rfl) ?_
      have hPc := hP.sub (ws' := [(a0, .inr (9, [.ref a0_kinds, .ref a0_first, .ref a0_second, .ref a0_third, .ref a0_heads, z0_rounds, .int v0_length, .int v0_open, .int v0_hares, .int v0_forms, z0_done, z0_refused])), (a0_heads, .inl (cyI, 6, .inl f0_heads)), (a0_second, .inl (cyI, 50, .inl f0_second)), (a0_kinds, .inl (cyI, 50, .inl f0_kinds)), (a0_first, .inl (cyI, 50, .inl f0_first)), (a0_third, .inl (cyI, 50, .inl f0_third))]) [0, 3, 4, 5, 6, 7] rfl
      have hDc := hD.sub (ws' := [(a0, .inr (9, [.ref a0_kinds, .ref a0_first, .ref a0_second, .ref a0_third, .ref a0_heads, z0_rounds, .int v0_length, .int v0_open, .int v0_hares, .int v0_forms, z0_done, z0_refused])), (a0_heads, .inl (cyI, 6, .inl f0_heads)), (a0_second, .inl (cyI, 50, .inl f0_second)), (a0_kinds, .inl (cyI, 50, .inl f0_kinds)), (a0_first, .inl (cyI, 50, .inl f0_first)), (a0_third, .inl (cyI, 50, .inl f0_third))]) [0, 3, 4, 5, 6, 7] (by decide) rfl
      have hFc := va_free (wc := [(a0, .inr (9, [.ref a0_kinds, .ref a0_first, .ref a0_second, .ref a0_third, .ref a0_heads, z0_rounds, .int v0_length, .int v0_open, .int v0_hares, .int v0_forms, z0_done, z0_refused])), (a0_heads, .inl (cyI, 6, .inl f0_heads)), (a0_second, .inl (cyI, 50, .inl f0_second)), (a0_kinds, .inl (cyI, 50, .inl f0_kinds)), (a0_first, .inl (cyI, 50, .inl f0_first)), (a0_third, .inl (cyI, 50, .inl f0_third))]) hD hS hA [0, 3, 4, 5, 6, 7] rfl
      refine va_callv (va_runV (As := []) (rest := []) ⟨hx, hb, hml, hown, hts⟩ (ck_X9_closeLoop l dC dI cyB cyI cyJ cyP a0 a0_heads a0_second a0_kinds a0_first a0_third H.size (z0_rounds) (.int v0_hares) (.int v0_forms) (z0_done) (z0_refused) f0_heads v0_open f0_second f0_kinds f0_first f0_third v0_length  hw) (cwV 0 hts gX9_readFrom_X9_closeLoop rfl rfl rfl (by decide +kernel) ⟨Nat.le_of_ble_eq_true rfl, Nat.le_of_ble_eq_true rfl⟩) ⟨cPc_blind, va_recv hK hPc (ci := 9) (q0 := 0) rfl rfl, cPc_pre hPc hK hDc hNw⟩ rfl rfl hl.1 rfl (lv_room (Nat.le_of_ble_eq_true rfl)) dX9_readFrom_70 ⟨Nat.le_of_ble_eq_true rfl, Nat.le_of_ble_eq_true rfl⟩) hS (fun q _ h => hFc q h) hFc (fun u t H1 locs ht hvm hw hB hz1 hk1 hS => ?_)
      obtain ⟨x13, f14, f15, f16, f17, x18⟩ := u
      obtain ⟨hP1, hK1, hD1⟩ := hB
      rw [ht] at hP1
      obtain ⟨hP, hD⟩ := va_join (wr := [(a1, .inr (8, [.ref a1_bytes, .int v1_length, .int x9, .int x10, z1_filled, .int v1_fault, .int v1_faultPlace])), (a1_bytes, .inl (cyB, 600, .inl f1_bytes))]) (w1 := [(a0, .inr (9, [.ref a0_kinds, .ref a0_first, .ref a0_second, .ref a0_third, .ref a0_heads, z0_rounds, .int x18, .int x13, .int v0_hares, .int v0_forms, z0_done, z0_refused])), (a0_heads, .inl (cyI, 6, .inl f0_heads)), (a0_second, .inl (cyI, 50, .inl f14)), (a0_kinds, .inl (cyI, 50, .inl f15)), (a0_first, .inl (cyI, 50, .inl f16)), (a0_third, .inl (cyI, 50, .inl f17))]) hP hD [0, 3, 4, 5, 6, 7] [1, 2] rfl rfl (by decide) (by decide) hk1 hFc hP1 hD1
      have hP : va_P (dC, dI) vwCl [(a0, .inr (9, [.ref a0_kinds, .ref a0_first, .ref a0_second, .ref a0_third, .ref a0_heads, z0_rounds, .int x18, .int x13, .int v0_hares, .int v0_forms, z0_done, z0_refused])), (a1, .inr (8, [.ref a1_bytes, .int v1_length, .int x9, .int x10, z1_filled, .int v1_fault, .int v1_faultPlace])), (a1_bytes, .inl (cyB, 600, .inl f1_bytes)), (a0_heads, .inl (cyI, 6, .inl f0_heads)), (a0_second, .inl (cyI, 50, .inl f14)), (a0_kinds, .inl (cyI, 50, .inl f15)), (a0_first, .inl (cyI, 50, .inl f16)), (a0_third, .inl (cyI, 50, .inl f17))] H1 := hP.sub [2, 0, 1, 3, 4, 5, 6, 7] rfl
      have hD : va_D A [(a0, .inr (9, [.ref a0_kinds, .ref a0_first, .ref a0_second, .ref a0_third, .ref a0_heads, z0_rounds, .int x18, .int x13, .int v0_hares, .int v0_forms, z0_done, z0_refused])), (a1, .inr (8, [.ref a1_bytes, .int v1_length, .int x9, .int x10, z1_filled, .int v1_fault, .int v1_faultPlace])), (a1_bytes, .inl (cyB, 600, .inl f1_bytes)), (a0_heads, .inl (cyI, 6, .inl f0_heads)), (a0_second, .inl (cyI, 50, .inl f14)), (a0_kinds, .inl (cyI, 50, .inl f15)), (a0_first, .inl (cyI, 50, .inl f16)), (a0_third, .inl (cyI, 50, .inl f17))] := hD.sub [2, 0, 1, 3, 4, 5, 6, 7] (by decide) rfl
      generalize H1 = H at hP hS ⊢
      refine lv_aload_n hx hb dX9_readFrom_73 rfl (lv_at hl 1 rfl) ?_
      refine lv_bipush (v := 59) hx hb dX9_readFrom_74 (by decide) ?_
      have hPc := hP.sub (ws' := [(a1, .inr (8, [.ref a1_bytes, .int v1_length, .int x9, .int x10, z1_filled, .int v1_fault, .int v1_faultPlace])), (a1_bytes, .inl (cyB, 600, .inl f1_bytes))]) [1, 2] rfl
      have hDc := hD.sub (ws' := [(a1, .inr (8, [.ref a1_bytes, .int v1_length, .int x9, .int x10, z1_filled, .int v1_fault, .int v1_faultPlace])), (a1_bytes, .inl (cyB, 600, .inl f1_bytes))]) [1, 2] (by decide) rfl
      have hFc := va_free (wc := [(a1, .inr (8, [.ref a1_bytes, .int v1_length, .int x9, .int x10, z1_filled, .int v1_fault, .int v1_faultPlace])), (a1_bytes, .inl (cyB, 600, .inl f1_bytes))]) hD hS hA [1, 2] rfl
      refine va_callv (va_runV (As := [.int 59]) (rest := []) ⟨hx, hb, hml, hown, hts⟩ (ck_X8_needs l dC dI cyB cyI cyJ cyP a1 a1_bytes H.size (z1_filled) v1_length f1_bytes x9 x10 v1_fault v1_faultPlace 59 hw) (cwV 1 hts gX9_readFrom_X8_needs rfl rfl rfl (by decide +kernel) ⟨Nat.le_of_ble_eq_true rfl, Nat.le_of_ble_eq_true rfl⟩) ⟨cPc_blind, va_recv hK hPc (ci := 8) (q0 := 0) rfl rfl, cPc_pre hPc hK hDc hNw⟩ rfl rfl hl.1 rfl (lv_room (Nat.le_of_ble_eq_true rfl)) dX9_readFrom_76 ⟨Nat.le_of_ble_eq_true rfl, Nat.le_of_ble_eq_true rfl⟩) hS (fun q _ h => hFc q h) hFc (fun u t H1 locs ht hvm hw hB hz1 hk1 hS => ?_)
      obtain ⟨x19, x20, x21, x22⟩ := u
      obtain ⟨hP1, hK1, hD1⟩ := hB
      rw [ht] at hP1
      obtain ⟨hP, hD⟩ := va_join (wr := [(a0, .inr (9, [.ref a0_kinds, .ref a0_first, .ref a0_second, .ref a0_third, .ref a0_heads, z0_rounds, .int x18, .int x13, .int v0_hares, .int v0_forms, z0_done, z0_refused])), (a0_heads, .inl (cyI, 6, .inl f0_heads)), (a0_second, .inl (cyI, 50, .inl f14)), (a0_kinds, .inl (cyI, 50, .inl f15)), (a0_first, .inl (cyI, 50, .inl f16)), (a0_third, .inl (cyI, 50, .inl f17))]) (w1 := [(a1, .inr (8, [.ref a1_bytes, .int v1_length, .int x19, .int x20, z1_filled, .int x21, .int x22])), (a1_bytes, .inl (cyB, 600, .inl f1_bytes))]) hP hD [1, 2] [0, 3, 4, 5, 6, 7] rfl rfl (by decide) (by decide) hk1 hFc hP1 hD1
      have hP : va_P (dC, dI) vwCl [(a0, .inr (9, [.ref a0_kinds, .ref a0_first, .ref a0_second, .ref a0_third, .ref a0_heads, z0_rounds, .int x18, .int x13, .int v0_hares, .int v0_forms, z0_done, z0_refused])), (a1, .inr (8, [.ref a1_bytes, .int v1_length, .int x19, .int x20, z1_filled, .int x21, .int x22])), (a1_bytes, .inl (cyB, 600, .inl f1_bytes)), (a0_heads, .inl (cyI, 6, .inl f0_heads)), (a0_second, .inl (cyI, 50, .inl f14)), (a0_kinds, .inl (cyI, 50, .inl f15)), (a0_first, .inl (cyI, 50, .inl f16)), (a0_third, .inl (cyI, 50, .inl f17))] H1 := hP.sub [0, 6, 7, 1, 2, 3, 4, 5] rfl
      have hD : va_D A [(a0, .inr (9, [.ref a0_kinds, .ref a0_first, .ref a0_second, .ref a0_third, .ref a0_heads, z0_rounds, .int x18, .int x13, .int v0_hares, .int v0_forms, z0_done, z0_refused])), (a1, .inr (8, [.ref a1_bytes, .int v1_length, .int x19, .int x20, z1_filled, .int x21, .int x22])), (a1_bytes, .inl (cyB, 600, .inl f1_bytes)), (a0_heads, .inl (cyI, 6, .inl f0_heads)), (a0_second, .inl (cyI, 50, .inl f14)), (a0_kinds, .inl (cyI, 50, .inl f15)), (a0_first, .inl (cyI, 50, .inl f16)), (a0_third, .inl (cyI, 50, .inl f17))] := hD.sub [0, 6, 7, 1, 2, 3, 4, 5] (by decide) rfl
      generalize H1 = H at hP hS ⊢
      refine lv_goto (tgt := 87) hx hb dX9_readFrom_79 (by decide) ?_
      exact kb_X9_readFrom_87 dC dI cyB cyI cyJ cyP a0 a1 a1_bytes a0_heads a0_second a0_kinds a0_first a0_third z0_rounds z0_done z0_refused z1_filled v1_length f1_bytes f0_heads Q K23 hK23 C0 _ _ _ v0_hares v0_forms x18 x13 x19 x20 f14 f15 f16 f17 x21 x22 l4 hP hD hS (lv_sub hl [0, 1, 2] rfl) hw
def wl_X9_readFrom_23 (v1_length : Int32) (f1_bytes : Nat → Int32) (f0_heads : Nat → Int32) (Q : Int32 → Int32 → Int32 → Int32 → Int32 → Int32 → (Nat → Int32) → (Nat → Int32) → (Nat → Int32) → (Nat → Int32) → Int32 → Int32 → Prop)  : Nat → Int32 → Int32 → Int32 → Int32 → Int32 → Int32 → (Nat → Int32) → (Nat → Int32) → (Nat → Int32) → (Nat → Int32) → Int32 → Int32 → Int32 → Prop
  | 0, _, _, _, _, _, _, _, _, _, _, _, _, _ => False
  | n + 1, v0_hares, v0_forms, v0_length, v0_open, v1_at, v1_token, f0_second, f0_kinds, f0_first, f0_third, v1_fault, v1_faultPlace, l4 => ((150 < l4 → (Q v0_hares v0_forms v0_length v0_open v1_at v1_token f0_second f0_kinds f0_first f0_third v1_fault v1_faultPlace)) ∧ (¬ 150 < l4 → wq_X8_isFaulty v1_fault   (fun r2 => ((¬ r2 = 0 → (Q v0_hares v0_forms v0_length v0_open v1_at v1_token f0_second f0_kinds f0_first f0_third v1_fault v1_faultPlace)) ∧ (r2 = 0 → ((¬ v0_open = 0 → (wb_X9_readFrom_53 v1_length f1_bytes f0_heads Q (fun v0_hares v0_forms v0_length v0_open v1_at v1_token f0_second f0_kinds f0_first f0_third v1_fault v1_faultPlace l4 => wl_X9_readFrom_23 v1_length f1_bytes f0_heads Q  n v0_hares v0_forms v0_length v0_open v1_at v1_token f0_second f0_kinds f0_first f0_third v1_fault v1_faultPlace l4) v0_hares v0_forms v0_length v0_open v1_at v1_token f0_second f0_kinds f0_first f0_third v1_fault v1_faultPlace l4)) ∧ (v0_open = 0 → wq_X8_isEnded v1_length f1_bytes v1_at  (fun r6 x5 => ((r6 = 0 → (wb_X9_readFrom_53 v1_length f1_bytes f0_heads Q (fun v0_hares v0_forms v0_length v0_open v1_at v1_token f0_second f0_kinds f0_first f0_third v1_fault v1_faultPlace l4 => wl_X9_readFrom_23 v1_length f1_bytes f0_heads Q  n v0_hares v0_forms v0_length v0_open v1_at v1_token f0_second f0_kinds f0_first f0_third v1_fault v1_faultPlace l4) v0_hares v0_forms v0_length v0_open x5 v1_token f0_second f0_kinds f0_first f0_third v1_fault v1_faultPlace l4)) ∧ (¬ r6 = 0 → (Q v0_hares v0_forms v0_length v0_open x5 v1_token f0_second f0_kinds f0_first f0_third v1_fault v1_faultPlace)))))))))))
set_option maxHeartbeats 4000000 in
set_option maxRecDepth 100000 in
theorem kl_X9_readFrom_23 {p : Program} {l : Launch} {e : Env} {s : State} {m : MethodId} {args : Array Value} {below : List Frame} {meth : Method} {c : Code} {A : Nat → Prop} (dC : Nat → ClassId) (dI : Nat → Nat → Nat) (cyB cyI cyJ cyP : ClassId) (a0 a1 a1_bytes a0_heads a0_second a0_kinds a0_first a0_third : Nat) (z0_rounds : Value) (z0_done : Value) (z0_refused : Value) (z1_filled : Value) (v1_length : Int32) (f1_bytes : Nat → Int32) (f0_heads : Nat → Int32) (Q : Int32 → Int32 → Int32 → Int32 → Int32 → Int32 → (Nat → Int32) → (Nat → Int32) → (Nat → Int32) → (Nat → Int32) → Int32 → Int32 → Prop)  (C0 : cfx p s m args meth c cX9_readFrom none wsX9_readFrom RX9 5 A (dC, dI) (kT cyB cyI cyJ cyP)) : ∀ (n : Nat) (H : Heap) (locs : List Loc) (ls : Array Slot) (v0_hares : Int32) (v0_forms : Int32) (v0_length : Int32) (v0_open : Int32) (v1_at : Int32) (v1_token : Int32) (f0_second : Nat → Int32) (f0_kinds : Nat → Int32) (f0_first : Nat → Int32) (f0_third : Nat → Int32) (v1_fault : Int32) (v1_faultPlace : Int32) (l4 : Int32), va_P (dC, dI) vwCl [(a0, .inr (9, [.ref a0_kinds, .ref a0_first, .ref a0_second, .ref a0_third, .ref a0_heads, z0_rounds, .int v0_length, .int v0_open, .int v0_hares, .int v0_forms, z0_done, z0_refused])), (a1, .inr (8, [.ref a1_bytes, .int v1_length, .int v1_at, .int v1_token, z1_filled, .int v1_fault, .int v1_faultPlace])), (a1_bytes, .inl (cyB, 600, .inl f1_bytes)), (a0_heads, .inl (cyI, 6, .inl f0_heads)), (a0_second, .inl (cyI, 50, .inl f0_second)), (a0_kinds, .inl (cyI, 50, .inl f0_kinds)), (a0_first, .inl (cyI, 50, .inl f0_first)), (a0_third, .inl (cyI, 50, .inl f0_third))] H → va_D A [(a0, .inr (9, [.ref a0_kinds, .ref a0_first, .ref a0_second, .ref a0_third, .ref a0_heads, z0_rounds, .int v0_length, .int v0_open, .int v0_hares, .int v0_forms, z0_done, z0_refused])), (a1, .inr (8, [.ref a1_bytes, .int v1_length, .int v1_at, .int v1_token, z1_filled, .int v1_fault, .int v1_faultPlace])), (a1_bytes, .inl (cyB, 600, .inl f1_bytes)), (a0_heads, .inl (cyI, 6, .inl f0_heads)), (a0_second, .inl (cyI, 50, .inl f0_second)), (a0_kinds, .inl (cyI, 50, .inl f0_kinds)), (a0_first, .inl (cyI, 50, .inl f0_first)), (a0_third, .inl (cyI, 50, .inl f0_third))] → va_S A s.heap H locs → lv_has ls 5 [(0, .ref a0), (1, .ref a1), (4, .int l4)] → wl_X9_readFrom_23 v1_length f1_bytes f0_heads Q  n v0_hares v0_forms v0_length v0_open v1_at v1_token f0_second f0_kinds f0_first f0_third v1_fault v1_faultPlace l4 → W p l e (headSpec wsX9_readFrom ({ frames := 3, cells := 0, slots := 0, locals := 63 })).room s m args below meth c H locs 0 0 (MQ below (va_Qv (fun (u : Int32 × Int32 × Int32 × Int32 × Int32 × Int32 × (Nat → Int32) × (Nat → Int32) × (Nat → Int32) × (Nat → Int32) × Int32 × Int32) => Q u.1 u.2.1 u.2.2.1 u.2.2.2.1 u.2.2.2.2.1 u.2.2.2.2.2.1 u.2.2.2.2.2.2.1 u.2.2.2.2.2.2.2.1 u.2.2.2.2.2.2.2.2.1 u.2.2.2.2.2.2.2.2.2.1 u.2.2.2.2.2.2.2.2.2.2.1 u.2.2.2.2.2.2.2.2.2.2.2) (cB (dC, dI) (kT cyB cyI cyJ cyP) A (fun u : Int32 × Int32 × Int32 × Int32 × Int32 × Int32 × (Nat → Int32) × (Nat → Int32) × (Nat → Int32) × (Nat → Int32) × Int32 × Int32 => ([(a0, .inr (9, [.ref a0_kinds, .ref a0_first, .ref a0_second, .ref a0_third, .ref a0_heads, z0_rounds, .int u.2.2.1, .int u.2.2.2.1, .int u.1, .int u.2.1, z0_done, z0_refused])), (a1, .inr (8, [.ref a1_bytes, .int v1_length, .int u.2.2.2.2.1, .int u.2.2.2.2.2.1, z1_filled, .int u.2.2.2.2.2.2.2.2.2.2.1, .int u.2.2.2.2.2.2.2.2.2.2.2])), (a1_bytes, .inl (cyB, 600, .inl f1_bytes)), (a0_heads, .inl (cyI, 6, .inl f0_heads)), (a0_second, .inl (cyI, 50, .inl u.2.2.2.2.2.2.1)), (a0_kinds, .inl (cyI, 50, .inl u.2.2.2.2.2.2.2.1)), (a0_first, .inl (cyI, 50, .inl u.2.2.2.2.2.2.2.2.1)), (a0_third, .inl (cyI, 50, .inl u.2.2.2.2.2.2.2.2.2.1))] : va_W))) A) args s 0 0 A) (F0 m 23 ls []) := by
  obtain ⟨hx, hb, hr, hts, hown, hlocks, hml, hA, hK, hNw⟩ := id C0
  intro n
  induction n with
  | zero => intro H locs ls v0_hares v0_forms v0_length v0_open v1_at v1_token f0_second f0_kinds f0_first f0_third v1_fault v1_faultPlace l4 hP hD hS hl hw; exact False.elim hw
  | succ n ih =>
    intro H locs ls v0_hares v0_forms v0_length v0_open v1_at v1_token f0_second f0_kinds f0_first f0_third v1_fault v1_faultPlace l4 hP hD hS hl hw
    refine lv_iload hx hb dX9_readFrom_23 (lv_at hl 2 rfl) ?_
    refine lv_sipush (v := 150) hx hb dX9_readFrom_25 (by decide) ?_
    refine lv_icmp_gt (tgt := 93) hx hb dX9_readFrom_28 (by decide) (fun c1 => ?_) (fun c1 => ?_)
    · have hw := hw.1 c1
      exact ((W.vret hx hb hr (fun t ht hW => ⟨⟨(v0_hares, v0_forms, v0_length, v0_open, v1_at, v1_token, f0_second, f0_kinds, f0_first, f0_third, v1_fault, v1_faultPlace), rfl, hw, by rw [ht]; exact hP, va_K.moved hW.alike hK, hD⟩, hS.F ht⟩) hS.2.2 dX9_readFrom_93))
    · have hw := hw.2 c1
      refine lv_aload_n hx hb dX9_readFrom_31 rfl (lv_at hl 1 rfl) ?_
      have hPc := hP.sub (ws' := [(a1, .inr (8, [.ref a1_bytes, .int v1_length, .int v1_at, .int v1_token, z1_filled, .int v1_fault, .int v1_faultPlace]))]) [1] rfl
      have hDc := hD.sub (ws' := [(a1, .inr (8, [.ref a1_bytes, .int v1_length, .int v1_at, .int v1_token, z1_filled, .int v1_fault, .int v1_faultPlace]))]) [1] (by decide) rfl
      have hFc := va_free (wc := [(a1, .inr (8, [.ref a1_bytes, .int v1_length, .int v1_at, .int v1_token, z1_filled, .int v1_fault, .int v1_faultPlace]))]) hD hS hA [1] rfl
      refine va_calli (va_runV (As := []) (rest := []) ⟨hx, hb, hml, hown, hts⟩ (ck_X8_isFaulty l dC dI cyB cyI cyJ cyP a1 H.size (.ref a1_bytes) (.int v1_length) (.int v1_at) (.int v1_token) (z1_filled) (.int v1_faultPlace) v1_fault   hw) (cwV 0 hts gX9_readFrom_X8_isFaulty rfl rfl rfl (by decide +kernel) ⟨Nat.le_of_ble_eq_true rfl, Nat.le_of_ble_eq_true rfl⟩) ⟨cPc_blind, va_recv hK hPc (ci := 8) (q0 := 0) rfl rfl, cPc_pre hPc hK hDc hNw⟩ rfl rfl hl.1 rfl (lv_room (Nat.le_of_ble_eq_true rfl)) dX9_readFrom_32 ⟨Nat.le_of_ble_eq_true rfl, Nat.le_of_ble_eq_true rfl⟩) hS (fun q _ h => hFc q h) hFc (fun r2 u t H1 locs ht hvm hw hB hz1 hk1 hS => ?_)
      obtain ⟨hP1, hK1, hD1⟩ := hB
      rw [ht] at hP1
      obtain ⟨hP, hD⟩ := va_join (wr := [(a0, .inr (9, [.ref a0_kinds, .ref a0_first, .ref a0_second, .ref a0_third, .ref a0_heads, z0_rounds, .int v0_length, .int v0_open, .int v0_hares, .int v0_forms, z0_done, z0_refused])), (a1_bytes, .inl (cyB, 600, .inl f1_bytes)), (a0_heads, .inl (cyI, 6, .inl f0_heads)), (a0_second, .inl (cyI, 50, .inl f0_second)), (a0_kinds, .inl (cyI, 50, .inl f0_kinds)), (a0_first, .inl (cyI, 50, .inl f0_first)), (a0_third, .inl (cyI, 50, .inl f0_third))]) (w1 := [(a1, .inr (8, [.ref a1_bytes, .int v1_length, .int v1_at, .int v1_token, z1_filled, .int v1_fault, .int v1_faultPlace]))]) hP hD [1] [0, 2, 3, 4, 5, 6, 7] rfl rfl (by decide) (by decide) hk1 hFc hP1 hD1
      have hP : va_P (dC, dI) vwCl [(a0, .inr (9, [.ref a0_kinds, .ref a0_first, .ref a0_second, .ref a0_third, .ref a0_heads, z0_rounds, .int v0_length, .int v0_open, .int v0_hares, .int v0_forms, z0_done, z0_refused])), (a1, .inr (8, [.ref a1_bytes, .int v1_length, .int v1_at, .int v1_token, z1_filled, .int v1_fault, .int v1_faultPlace])), (a1_bytes, .inl (cyB, 600, .inl f1_bytes)), (a0_heads, .inl (cyI, 6, .inl f0_heads)), (a0_second, .inl (cyI, 50, .inl f0_second)), (a0_kinds, .inl (cyI, 50, .inl f0_kinds)), (a0_first, .inl (cyI, 50, .inl f0_first)), (a0_third, .inl (cyI, 50, .inl f0_third))] H1 := hP.sub [0, 7, 1, 2, 3, 4, 5, 6] rfl
      have hD : va_D A [(a0, .inr (9, [.ref a0_kinds, .ref a0_first, .ref a0_second, .ref a0_third, .ref a0_heads, z0_rounds, .int v0_length, .int v0_open, .int v0_hares, .int v0_forms, z0_done, z0_refused])), (a1, .inr (8, [.ref a1_bytes, .int v1_length, .int v1_at, .int v1_token, z1_filled, .int v1_fault, .int v1_faultPlace])), (a1_bytes, .inl (cyB, 600, .inl f1_bytes)), (a0_heads, .inl (cyI, 6, .inl f0_heads)), (a0_second, .inl (cyI, 50, .inl f0_second)), (a0_kinds, .inl (cyI, 50, .inl f0_kinds)), (a0_first, .inl (cyI, 50, .inl f0_first)), (a0_third, .inl (cyI, 50, .inl f0_third))] := hD.sub [0, 7, 1, 2, 3, 4, 5, 6] (by decide) rfl
      generalize H1 = H at hP hS ⊢
      refine lv_if_ne (tgt := 93) hx hb dX9_readFrom_35 (by decide) (fun c3 => ?_) (fun c3 => ?_)
      · have hw := hw.1 c3
        exact ((W.vret hx hb hr (fun t ht hW => ⟨⟨(v0_hares, v0_forms, v0_length, v0_open, v1_at, v1_token, f0_second, f0_kinds, f0_first, f0_third, v1_fault, v1_faultPlace), rfl, hw, by rw [ht]; exact hP, va_K.moved hW.alike hK, hD⟩, hS.F ht⟩) hS.2.2 dX9_readFrom_93))
      · have hw := hw.2 c3
        refine lv_aload_n hx hb dX9_readFrom_38 rfl (lv_at hl 0 rfl) ?_
        refine va_get (D := (dC, dI)) (ci := 9) (v := .int v0_open) (C := RX9) (T := TX9) (N := 12) hx hb hts ui_X9_readFrom_X9 hown hK hP 0 rfl rfl 7 (by decide) (hts _ uw_X9_readFrom_f40) (fun _ h9 => h9) rfl dX9_readFrom_39 ?_
        refine lv_if_ne (tgt := 53) hx hb dX9_readFrom_42 (by decide) (fun c4 => ?_) (fun c4 => ?_)
        · have hw := hw.1 c4
          exact kb_X9_readFrom_53 dC dI cyB cyI cyJ cyP a0 a1 a1_bytes a0_heads a0_second a0_kinds a0_first a0_third z0_rounds z0_done z0_refused z1_filled v1_length f1_bytes f0_heads Q (wl_X9_readFrom_23 v1_length f1_bytes f0_heads Q  n) ih C0 _ _ _ v0_hares v0_forms v0_length v0_open v1_at v1_token f0_second f0_kinds f0_first f0_third v1_fault v1_faultPlace l4 hP hD hS (lv_sub hl [0, 1, 2] rfl) hw
        · have hw := hw.2 c4
          refine lv_aload_n hx hb dX9_readFrom_45 rfl (lv_at hl 1 rfl) ?_
          have hPc := hP.sub (ws' := [(a1, .inr (8, [.ref a1_bytes, .int v1_length, .int v1_at, .int v1_token, z1_filled, .int v1_fault, .int v1_faultPlace])), (a1_bytes, .inl (cyB, 600, .inl f1_bytes))]) [1, 2] rfl
          have hDc := hD.sub (ws' := [(a1, .inr (8, [.ref a1_bytes, .int v1_length, .int v1_at, .int v1_token, z1_filled, .int v1_fault, .int v1_faultPlace])), (a1_bytes, .inl (cyB, 600, .inl f1_bytes))]) [1, 2] (by decide) rfl
          have hFc := va_free (wc := [(a1, .inr (8, [.ref a1_bytes, .int v1_length, .int v1_at, .int v1_token, z1_filled, .int v1_fault, .int v1_faultPlace])), (a1_bytes, .inl (cyB, 600, .inl f1_bytes))]) hD hS hA [1, 2] rfl
          refine va_calli (va_runV (As := []) (rest := []) ⟨hx, hb, hml, hown, hts⟩ (ck_X8_isEnded l dC dI cyB cyI cyJ cyP a1 a1_bytes H.size (.int v1_token) (z1_filled) (.int v1_fault) (.int v1_faultPlace) v1_length f1_bytes v1_at  hw) (cwV 0 hts gX9_readFrom_X8_isEnded rfl rfl rfl (by decide +kernel) ⟨Nat.le_of_ble_eq_true rfl, Nat.le_of_ble_eq_true rfl⟩) ⟨cPc_blind, va_recv hK hPc (ci := 8) (q0 := 0) rfl rfl, cPc_pre hPc hK hDc hNw⟩ rfl rfl hl.1 rfl (lv_room (Nat.le_of_ble_eq_true rfl)) dX9_readFrom_46 ⟨Nat.le_of_ble_eq_true rfl, Nat.le_of_ble_eq_true rfl⟩) hS (fun q _ h => hFc q h) hFc (fun r6 u t H1 locs ht hvm hw hB hz1 hk1 hS => ?_)
          obtain ⟨x5, rfl⟩ : ∃ z, z = u := ⟨_, rfl⟩
          obtain ⟨hP1, hK1, hD1⟩ := hB
          rw [ht] at hP1
          obtain ⟨hP, hD⟩ := va_join (wr := [(a0, .inr (9, [.ref a0_kinds, .ref a0_first, .ref a0_second, .ref a0_third, .ref a0_heads, z0_rounds, .int v0_length, .int v0_open, .int v0_hares, .int v0_forms, z0_done, z0_refused])), (a0_heads, .inl (cyI, 6, .inl f0_heads)), (a0_second, .inl (cyI, 50, .inl f0_second)), (a0_kinds, .inl (cyI, 50, .inl f0_kinds)), (a0_first, .inl (cyI, 50, .inl f0_first)), (a0_third, .inl (cyI, 50, .inl f0_third))]) (w1 := [(a1, .inr (8, [.ref a1_bytes, .int v1_length, .int x5, .int v1_token, z1_filled, .int v1_fault, .int v1_faultPlace])), (a1_bytes, .inl (cyB, 600, .inl f1_bytes))]) hP hD [1, 2] [0, 3, 4, 5, 6, 7] rfl rfl (by decide) (by decide) hk1 hFc hP1 hD1
          have hP : va_P (dC, dI) vwCl [(a0, .inr (9, [.ref a0_kinds, .ref a0_first, .ref a0_second, .ref a0_third, .ref a0_heads, z0_rounds, .int v0_length, .int v0_open, .int v0_hares, .int v0_forms, z0_done, z0_refused])), (a1, .inr (8, [.ref a1_bytes, .int v1_length, .int x5, .int v1_token, z1_filled, .int v1_fault, .int v1_faultPlace])), (a1_bytes, .inl (cyB, 600, .inl f1_bytes)), (a0_heads, .inl (cyI, 6, .inl f0_heads)), (a0_second, .inl (cyI, 50, .inl f0_second)), (a0_kinds, .inl (cyI, 50, .inl f0_kinds)), (a0_first, .inl (cyI, 50, .inl f0_first)), (a0_third, .inl (cyI, 50, .inl f0_third))] H1 := hP.sub [0, 6, 7, 1, 2, 3, 4, 5] rfl
          have hD : va_D A [(a0, .inr (9, [.ref a0_kinds, .ref a0_first, .ref a0_second, .ref a0_third, .ref a0_heads, z0_rounds, .int v0_length, .int v0_open, .int v0_hares, .int v0_forms, z0_done, z0_refused])), (a1, .inr (8, [.ref a1_bytes, .int v1_length, .int x5, .int v1_token, z1_filled, .int v1_fault, .int v1_faultPlace])), (a1_bytes, .inl (cyB, 600, .inl f1_bytes)), (a0_heads, .inl (cyI, 6, .inl f0_heads)), (a0_second, .inl (cyI, 50, .inl f0_second)), (a0_kinds, .inl (cyI, 50, .inl f0_kinds)), (a0_first, .inl (cyI, 50, .inl f0_first)), (a0_third, .inl (cyI, 50, .inl f0_third))] := hD.sub [0, 6, 7, 1, 2, 3, 4, 5] (by decide) rfl
          generalize H1 = H at hP hS ⊢
          refine lv_if_eq (tgt := 53) hx hb dX9_readFrom_49 (by decide) (fun c7 => ?_) (fun c7 => ?_)
          · have hw := hw.1 c7
            exact kb_X9_readFrom_53 dC dI cyB cyI cyJ cyP a0 a1 a1_bytes a0_heads a0_second a0_kinds a0_first a0_third z0_rounds z0_done z0_refused z1_filled v1_length f1_bytes f0_heads Q (wl_X9_readFrom_23 v1_length f1_bytes f0_heads Q  n) ih C0 _ _ _ v0_hares v0_forms v0_length v0_open x5 v1_token f0_second f0_kinds f0_first f0_third v1_fault v1_faultPlace l4 hP hD hS (lv_sub hl [0, 1, 2] rfl) hw
          · have hw := hw.2 c7
            exact ((W.vret hx hb hr (fun t ht hW => ⟨⟨(v0_hares, v0_forms, v0_length, v0_open, x5, v1_token, f0_second, f0_kinds, f0_first, f0_third, v1_fault, v1_faultPlace), rfl, hw, by rw [ht]; exact hP, va_K.moved hW.alike hK, hD⟩, hS.F ht⟩) hS.2.2 dX9_readFrom_52))
def wq_X9_readFrom (v1_length : Int32) (f1_bytes : Nat → Int32) (f0_heads : Nat → Int32) (v0_hares : Int32) (v0_forms : Int32) (v0_length : Int32) (v0_open : Int32) (v1_at : Int32) (v1_token : Int32) (f0_second : Nat → Int32) (f0_kinds : Nat → Int32) (f0_first : Nat → Int32) (f0_third : Nat → Int32) (v1_fault : Int32) (v1_faultPlace : Int32) (p2 : Int32) (p3 : Int32) (Q : Int32 → Int32 → Int32 → Int32 → Int32 → Int32 → (Nat → Int32) → (Nat → Int32) → (Nat → Int32) → (Nat → Int32) → Int32 → Int32 → Prop) : Prop := (∃ k9 : Nat, wl_X9_readFrom_23 v1_length f1_bytes f0_heads Q  k9 p2 p3 0 0 v1_at v1_token f0_second f0_kinds f0_first f0_third v1_fault v1_faultPlace 0)
set_option maxHeartbeats 4000000 in
set_option maxRecDepth 100000 in
theorem ck_X9_readFrom (l : Launch) (dC : Nat → ClassId) (dI : Nat → Nat → Nat) (cyB cyI cyJ cyP : ClassId) (a0 a1 a1_bytes a0_heads a0_second a0_kinds a0_first a0_third : Nat) (sz : Nat) (z0_rounds : Value) (z0_done : Value) (z0_refused : Value) (z1_filled : Value) (v1_length : Int32) (f1_bytes : Nat → Int32) (f0_heads : Nat → Int32) (v0_hares : Int32) (v0_forms : Int32) (v0_length : Int32) (v0_open : Int32) (v1_at : Int32) (v1_token : Int32) (f0_second : Nat → Int32) (f0_kinds : Nat → Int32) (f0_first : Nat → Int32) (f0_third : Nat → Int32) (v1_fault : Int32) (v1_faultPlace : Int32) (p2 : Int32) (p3 : Int32) {Q : Int32 → Int32 → Int32 → Int32 → Int32 → Int32 → (Nat → Int32) → (Nat → Int32) → (Nat → Int32) → (Nat → Int32) → Int32 → Int32 → Prop} (hw : wq_X9_readFrom v1_length f1_bytes f0_heads v0_hares v0_forms v0_length v0_open v1_at v1_token f0_second f0_kinds f0_first f0_third v1_fault v1_faultPlace p2 p3 Q) : Met l yX9_readFrom wsX9_readFrom ({ frames := 3, cells := 0, slots := 0, locals := 63 }) (va_Pc [.ref a0, .ref a1, .int p2, .int p3] (cPc (dC, dI) (kT cyB cyI cyJ cyP) [(a0, .inr (9, [.ref a0_kinds, .ref a0_first, .ref a0_second, .ref a0_third, .ref a0_heads, z0_rounds, .int v0_length, .int v0_open, .int v0_hares, .int v0_forms, z0_done, z0_refused])), (a1, .inr (8, [.ref a1_bytes, .int v1_length, .int v1_at, .int v1_token, z1_filled, .int v1_fault, .int v1_faultPlace])), (a1_bytes, .inl (cyB, 600, .inl f1_bytes)), (a0_heads, .inl (cyI, 6, .inl f0_heads)), (a0_second, .inl (cyI, 50, .inl f0_second)), (a0_kinds, .inl (cyI, 50, .inl f0_kinds)), (a0_first, .inl (cyI, 50, .inl f0_first)), (a0_third, .inl (cyI, 50, .inl f0_third))] sz)) (va_Qv (fun (u : Int32 × Int32 × Int32 × Int32 × Int32 × Int32 × (Nat → Int32) × (Nat → Int32) × (Nat → Int32) × (Nat → Int32) × Int32 × Int32) => Q u.1 u.2.1 u.2.2.1 u.2.2.2.1 u.2.2.2.2.1 u.2.2.2.2.2.1 u.2.2.2.2.2.2.1 u.2.2.2.2.2.2.2.1 u.2.2.2.2.2.2.2.2.1 u.2.2.2.2.2.2.2.2.2.1 u.2.2.2.2.2.2.2.2.2.2.1 u.2.2.2.2.2.2.2.2.2.2.2) (cB (dC, dI) (kT cyB cyI cyJ cyP) (va_A [(a0, .inr (9, [.ref a0_kinds, .ref a0_first, .ref a0_second, .ref a0_third, .ref a0_heads, z0_rounds, .int v0_length, .int v0_open, .int v0_hares, .int v0_forms, z0_done, z0_refused])), (a1, .inr (8, [.ref a1_bytes, .int v1_length, .int v1_at, .int v1_token, z1_filled, .int v1_fault, .int v1_faultPlace])), (a1_bytes, .inl (cyB, 600, .inl f1_bytes)), (a0_heads, .inl (cyI, 6, .inl f0_heads)), (a0_second, .inl (cyI, 50, .inl f0_second)), (a0_kinds, .inl (cyI, 50, .inl f0_kinds)), (a0_first, .inl (cyI, 50, .inl f0_first)), (a0_third, .inl (cyI, 50, .inl f0_third))] sz) (fun u : Int32 × Int32 × Int32 × Int32 × Int32 × Int32 × (Nat → Int32) × (Nat → Int32) × (Nat → Int32) × (Nat → Int32) × Int32 × Int32 => ([(a0, .inr (9, [.ref a0_kinds, .ref a0_first, .ref a0_second, .ref a0_third, .ref a0_heads, z0_rounds, .int u.2.2.1, .int u.2.2.2.1, .int u.1, .int u.2.1, z0_done, z0_refused])), (a1, .inr (8, [.ref a1_bytes, .int v1_length, .int u.2.2.2.2.1, .int u.2.2.2.2.2.1, z1_filled, .int u.2.2.2.2.2.2.2.2.2.2.1, .int u.2.2.2.2.2.2.2.2.2.2.2])), (a1_bytes, .inl (cyB, 600, .inl f1_bytes)), (a0_heads, .inl (cyI, 6, .inl f0_heads)), (a0_second, .inl (cyI, 50, .inl u.2.2.2.2.2.2.1)), (a0_kinds, .inl (cyI, 50, .inl u.2.2.2.2.2.2.2.1)), (a0_first, .inl (cyI, 50, .inl u.2.2.2.2.2.2.2.2.1)), (a0_third, .inl (cyI, 50, .inl u.2.2.2.2.2.2.2.2.2.1))] : va_W))) (va_A [(a0, .inr (9, [.ref a0_kinds, .ref a0_first, .ref a0_second, .ref a0_third, .ref a0_heads, z0_rounds, .int v0_length, .int v0_open, .int v0_hares, .int v0_forms, z0_done, z0_refused])), (a1, .inr (8, [.ref a1_bytes, .int v1_length, .int v1_at, .int v1_token, z1_filled, .int v1_fault, .int v1_faultPlace])), (a1_bytes, .inl (cyB, 600, .inl f1_bytes)), (a0_heads, .inl (cyI, 6, .inl f0_heads)), (a0_second, .inl (cyI, 50, .inl f0_second)), (a0_kinds, .inl (cyI, 50, .inl f0_kinds)), (a0_first, .inl (cyI, 50, .inl f0_first)), (a0_third, .inl (cyI, 50, .inl f0_third))] sz)) 0 0 (va_A [(a0, .inr (9, [.ref a0_kinds, .ref a0_first, .ref a0_second, .ref a0_third, .ref a0_heads, z0_rounds, .int v0_length, .int v0_open, .int v0_hares, .int v0_forms, z0_done, z0_refused])), (a1, .inr (8, [.ref a1_bytes, .int v1_length, .int v1_at, .int v1_token, z1_filled, .int v1_fault, .int v1_faultPlace])), (a1_bytes, .inl (cyB, 600, .inl f1_bytes)), (a0_heads, .inl (cyI, 6, .inl f0_heads)), (a0_second, .inl (cyI, 50, .inl f0_second)), (a0_kinds, .inl (cyI, 50, .inl f0_kinds)), (a0_first, .inl (cyI, 50, .inl f0_first)), (a0_third, .inl (cyI, 50, .inl f0_third))] sz) := by
  refine Met.ofW (cc := cX9_readFrom) (maxL := 5) (ret := none) (by decide) rfl ?_
  intro p e s m args below meth c s₁ B hml hv
  obtain ⟨rfl, hsz, hP, hK, hD0, hNw⟩ := hv
  have hx := B.exec
  have hb := B.bytes
  have hr := B.returns
  have hts := atoms_spec (ws := wsX9_readFrom) B.pre
  have hown : s.vm.findClass RX9 = some m.cls := findClass_of_methodNamed B.named
  have hlocks := B.notSynchronized
  subst hsz
  have hD := hD0.self (sz := s.heap.size)
  generalize hAe : va_A [(a0, .inr (9, [.ref a0_kinds, .ref a0_first, .ref a0_second, .ref a0_third, .ref a0_heads, z0_rounds, .int v0_length, .int v0_open, .int v0_hares, .int v0_forms, z0_done, z0_refused])), (a1, .inr (8, [.ref a1_bytes, .int v1_length, .int v1_at, .int v1_token, z1_filled, .int v1_fault, .int v1_faultPlace])), (a1_bytes, .inl (cyB, 600, .inl f1_bytes)), (a0_heads, .inl (cyI, 6, .inl f0_heads)), (a0_second, .inl (cyI, 50, .inl f0_second)), (a0_kinds, .inl (cyI, 50, .inl f0_kinds)), (a0_first, .inl (cyI, 50, .inl f0_first)), (a0_third, .inl (cyI, 50, .inl f0_third))] s.heap.size = A at hD ⊢
  have hA : ∀ q : Nat, s.heap.size ≤ q → A q := fun q h => by rw [← hAe]; exact Or.inr h
  have hS : va_S A s.heap s.heap [] := va_S.rf
  have hP : va_P (dC, dI) vwCl [(a0, .inr (9, [.ref a0_kinds, .ref a0_first, .ref a0_second, .ref a0_third, .ref a0_heads, z0_rounds, .int v0_length, .int v0_open, .int v0_hares, .int v0_forms, z0_done, z0_refused])), (a1, .inr (8, [.ref a1_bytes, .int v1_length, .int v1_at, .int v1_token, z1_filled, .int v1_fault, .int v1_faultPlace])), (a1_bytes, .inl (cyB, 600, .inl f1_bytes)), (a0_heads, .inl (cyI, 6, .inl f0_heads)), (a0_second, .inl (cyI, 50, .inl f0_second)), (a0_kinds, .inl (cyI, 50, .inl f0_kinds)), (a0_first, .inl (cyI, 50, .inl f0_first)), (a0_third, .inl (cyI, 50, .inl f0_third))] s.heap := hP
  have hl := lv_entry ([.ref a0, .ref a1, .int p2, .int p3]) (n := 5) (Nat.le_of_ble_eq_true rfl)
  rw [lg_entry_eq]
  generalize (lg_sl ([.ref a0, .ref a1, .int p2, .int p3]) ++ List.replicate (5 - (lg_sl ([.ref a0, .ref a1, .int p2, .int p3])).length) Slot.unset).toArray = ls at hl ⊢
  have hl : lv_has ls 5 [(0, .ref a0), (1, .ref a1), (2, .int p2), (3, .int p3)] := hl
  have C0 : cfx p s m _ meth c cX9_readFrom none wsX9_readFrom RX9 5 A (dC, dI) (kT cyB cyI cyJ cyP) := ⟨hx, hb, hr, hts, hown, hlocks, hml, hA, hK, hNw⟩
  clear hAe
  obtain ⟨H, hH⟩ : ∃ H, H = s.heap := ⟨_, rfl⟩
  rw [← hH] at hP ⊢
  have hS : va_S A s.heap H [] := by rw [hH]; exact va_S.rf
  have hS := hS
  refine lv_aload_n hx hb dX9_readFrom_0 rfl (lv_at hl 0 rfl) ?_
  refine lv_iload_n hx hb dX9_readFrom_1 rfl (lv_at hl 2 rfl) ?_
  refine va_put (D := (dC, dI)) (ci := 9) (v := .int p2) (ty := .int) (C := RX9) (T := TX9) (N := 12) hx hb hts ui_X9_readFrom_X9 tyX9 tyX9_ok nmX9 hown hK hP hD hS 0 rfl rfl 8 (by decide) (hts _ uw_X9_readFrom_f30) (fun _ h9 => h9) rfl (by decide +kernel) rfl rfl (Nat.le_of_ble_eq_true rfl) dX9_readFrom_2 (fun H locs hP hD hS => ?_)
  have hP : va_P (dC, dI) vwCl [(a0, .inr (9, [.ref a0_kinds, .ref a0_first, .ref a0_second, .ref a0_third, .ref a0_heads, z0_rounds, .int v0_length, .int v0_open, .int p2, .int v0_forms, z0_done, z0_refused])), (a1, .inr (8, [.ref a1_bytes, .int v1_length, .int v1_at, .int v1_token, z1_filled, .int v1_fault, .int v1_faultPlace])), (a1_bytes, .inl (cyB, 600, .inl f1_bytes)), (a0_heads, .inl (cyI, 6, .inl f0_heads)), (a0_second, .inl (cyI, 50, .inl f0_second)), (a0_kinds, .inl (cyI, 50, .inl f0_kinds)), (a0_first, .inl (cyI, 50, .inl f0_first)), (a0_third, .inl (cyI, 50, .inl f0_third))] H := hP
  have hD : va_D A [(a0, .inr (9, [.ref a0_kinds, .ref a0_first, .ref a0_second, .ref a0_third, .ref a0_heads, z0_rounds, .int v0_length, .int v0_open, .int p2, .int v0_forms, z0_done, z0_refused])), (a1, .inr (8, [.ref a1_bytes, .int v1_length, .int v1_at, .int v1_token, z1_filled, .int v1_fault, .int v1_faultPlace])), (a1_bytes, .inl (cyB, 600, .inl f1_bytes)), (a0_heads, .inl (cyI, 6, .inl f0_heads)), (a0_second, .inl (cyI, 50, .inl f0_second)), (a0_kinds, .inl (cyI, 50, .inl f0_kinds)), (a0_first, .inl (cyI, 50, .inl f0_first)), (a0_third, .inl (cyI, 50, .inl f0_third))] := hD
  refine lv_aload_n hx hb dX9_readFrom_5 rfl (lv_at hl 0 rfl) ?_
  refine lv_iload_n hx hb dX9_readFrom_6 rfl (lv_at hl 3 rfl) ?_
  refine va_put (D := (dC, dI)) (ci := 9) (v := .int p3) (ty := .int) (C := RX9) (T := TX9) (N := 12) hx hb hts ui_X9_readFrom_X9 tyX9 tyX9_ok nmX9 hown hK hP hD hS 0 rfl rfl 9 (by decide) (hts _ uw_X9_readFrom_f34) (fun _ h9 => h9) rfl (by decide +kernel) rfl rfl (Nat.le_of_ble_eq_true rfl) dX9_readFrom_7 (fun H locs hP hD hS => ?_)
  have hP : va_P (dC, dI) vwCl [(a0, .inr (9, [.ref a0_kinds, .ref a0_first, .ref a0_second, .ref a0_third, .ref a0_heads, z0_rounds, .int v0_length, .int v0_open, .int p2, .int p3, z0_done, z0_refused])), (a1, .inr (8, [.ref a1_bytes, .int v1_length, .int v1_at, .int v1_token, z1_filled, .int v1_fault, .int v1_faultPlace])), (a1_bytes, .inl (cyB, 600, .inl f1_bytes)), (a0_heads, .inl (cyI, 6, .inl f0_heads)), (a0_second, .inl (cyI, 50, .inl f0_second)), (a0_kinds, .inl (cyI, 50, .inl f0_kinds)), (a0_first, .inl (cyI, 50, .inl f0_first)), (a0_third, .inl (cyI, 50, .inl f0_third))] H := hP
  have hD : va_D A [(a0, .inr (9, [.ref a0_kinds, .ref a0_first, .ref a0_second, .ref a0_third, .ref a0_heads, z0_rounds, .int v0_length, .int v0_open, .int p2, .int p3, z0_done, z0_refused])), (a1, .inr (8, [.ref a1_bytes, .int v1_length, .int v1_at, .int v1_token, z1_filled, .int v1_fault, .int v1_faultPlace])), (a1_bytes, .inl (cyB, 600, .inl f1_bytes)), (a0_heads, .inl (cyI, 6, .inl f0_heads)), (a0_second, .inl (cyI, 50, .inl f0_second)), (a0_kinds, .inl (cyI, 50, .inl f0_kinds)), (a0_first, .inl (cyI, 50, .inl f0_first)), (a0_third, .inl (cyI, 50, .inl f0_third))] := hD
  refine lv_aload_n hx hb dX9_readFrom_10 rfl (lv_at hl 0 rfl) ?_
  refine lv_iconst (v := 0) hx hb dX9_readFrom_11 (by decide) ?_
  refine va_put (D := (dC, dI)) (ci := 9) (v := .int 0) (ty := .int) (C := RX9) (T := TX9) (N := 12) hx hb hts ui_X9_readFrom_X9 tyX9 tyX9_ok nmX9 hown hK hP hD hS 0 rfl rfl 6 (by decide) (hts _ uw_X9_readFrom_f37) (fun _ h9 => h9) rfl (by decide +kernel) rfl rfl (Nat.le_of_ble_eq_true rfl) dX9_readFrom_12 (fun H locs hP hD hS => ?_)
  have hP : va_P (dC, dI) vwCl [(a0, .inr (9, [.ref a0_kinds, .ref a0_first, .ref a0_second, .ref a0_third, .ref a0_heads, z0_rounds, .int 0, .int v0_open, .int p2, .int p3, z0_done, z0_refused])), (a1, .inr (8, [.ref a1_bytes, .int v1_length, .int v1_at, .int v1_token, z1_filled, .int v1_fault, .int v1_faultPlace])), (a1_bytes, .inl (cyB, 600, .inl f1_bytes)), (a0_heads, .inl (cyI, 6, .inl f0_heads)), (a0_second, .inl (cyI, 50, .inl f0_second)), (a0_kinds, .inl (cyI, 50, .inl f0_kinds)), (a0_first, .inl (cyI, 50, .inl f0_first)), (a0_third, .inl (cyI, 50, .inl f0_third))] H := hP
  have hD : va_D A [(a0, .inr (9, [.ref a0_kinds, .ref a0_first, .ref a0_second, .ref a0_third, .ref a0_heads, z0_rounds, .int 0, .int v0_open, .int p2, .int p3, z0_done, z0_refused])), (a1, .inr (8, [.ref a1_bytes, .int v1_length, .int v1_at, .int v1_token, z1_filled, .int v1_fault, .int v1_faultPlace])), (a1_bytes, .inl (cyB, 600, .inl f1_bytes)), (a0_heads, .inl (cyI, 6, .inl f0_heads)), (a0_second, .inl (cyI, 50, .inl f0_second)), (a0_kinds, .inl (cyI, 50, .inl f0_kinds)), (a0_first, .inl (cyI, 50, .inl f0_first)), (a0_third, .inl (cyI, 50, .inl f0_third))] := hD
  refine lv_aload_n hx hb dX9_readFrom_15 rfl (lv_at hl 0 rfl) ?_
  refine lv_iconst (v := 0) hx hb dX9_readFrom_16 (by decide) ?_
  refine va_put (D := (dC, dI)) (ci := 9) (v := .int 0) (ty := .int) (C := RX9) (T := TX9) (N := 12) hx hb hts ui_X9_readFrom_X9 tyX9 tyX9_ok nmX9 hown hK hP hD hS 0 rfl rfl 7 (by decide) (hts _ uw_X9_readFrom_f40) (fun _ h9 => h9) rfl (by decide +kernel) rfl rfl (Nat.le_of_ble_eq_true rfl) dX9_readFrom_17 (fun H locs hP hD hS => ?_)
  have hP : va_P (dC, dI) vwCl [(a0, .inr (9, [.ref a0_kinds, .ref a0_first, .ref a0_second, .ref a0_third, .ref a0_heads, z0_rounds, .int 0, .int 0, .int p2, .int p3, z0_done, z0_refused])), (a1, .inr (8, [.ref a1_bytes, .int v1_length, .int v1_at, .int v1_token, z1_filled, .int v1_fault, .int v1_faultPlace])), (a1_bytes, .inl (cyB, 600, .inl f1_bytes)), (a0_heads, .inl (cyI, 6, .inl f0_heads)), (a0_second, .inl (cyI, 50, .inl f0_second)), (a0_kinds, .inl (cyI, 50, .inl f0_kinds)), (a0_first, .inl (cyI, 50, .inl f0_first)), (a0_third, .inl (cyI, 50, .inl f0_third))] H := hP
  have hD : va_D A [(a0, .inr (9, [.ref a0_kinds, .ref a0_first, .ref a0_second, .ref a0_third, .ref a0_heads, z0_rounds, .int 0, .int 0, .int p2, .int p3, z0_done, z0_refused])), (a1, .inr (8, [.ref a1_bytes, .int v1_length, .int v1_at, .int v1_token, z1_filled, .int v1_fault, .int v1_faultPlace])), (a1_bytes, .inl (cyB, 600, .inl f1_bytes)), (a0_heads, .inl (cyI, 6, .inl f0_heads)), (a0_second, .inl (cyI, 50, .inl f0_second)), (a0_kinds, .inl (cyI, 50, .inl f0_kinds)), (a0_first, .inl (cyI, 50, .inl f0_first)), (a0_third, .inl (cyI, 50, .inl f0_third))] := hD
  refine lv_iconst (v := 0) hx hb dX9_readFrom_20 (by decide) ?_
  refine lv_istore (lv' := [(4, .int 0), (0, .ref a0), (1, .ref a1), (2, .int p2), (3, .int p3)]) hx hb dX9_readFrom_21 hl (by decide) rfl (fun ls hl => ?_)
  obtain ⟨n9, hw⟩ := hw
  exact kl_X9_readFrom_23 dC dI cyB cyI cyJ cyP a0 a1 a1_bytes a0_heads a0_second a0_kinds a0_first a0_third z0_rounds z0_done z0_refused z1_filled v1_length f1_bytes f0_heads Q  C0 n9 _ _ _ p2 p3 0 0 v1_at v1_token f0_second f0_kinds f0_first f0_third v1_fault v1_faultPlace 0 hP hD hS (lv_sub hl [1, 2, 0] rfl) hw
theorem ui_X5_push_X1 : ∀ w ∈ u_ws RX1 TX1 4, w ∈ wsX5_push := by decide +kernel
theorem ui_X5_push_X5 : ∀ w ∈ u_ws RX5 TX5 2, w ∈ wsX5_push := by decide +kernel
theorem uw_X5_push_aci : (.initialized "java/lang/System" : Cond) ∈ wsX5_push := by decide +kernel
theorem uw_X5_push_acn : (.native arraycopyName : Cond) ∈ wsX5_push := by decide +kernel
theorem uw_X5_push_acs : (.static arraycopyName : Cond) ∈ wsX5_push := by decide +kernel
theorem uw_X5_push_f11 : (.fieldLink RX5 11 "MarchHares$Past" "rows" "[I" : Cond) ∈ wsX5_push := by decide +kernel
theorem uw_X5_push_f17 : (.fieldLink RX5 17 "MarchHares$Past" "kept" "I" : Cond) ∈ wsX5_push := by decide +kernel
theorem uw_X5_push_f21 : (.fieldLink RX5 21 "MarchHares$Days" "row" "[I" : Cond) ∈ wsX5_push := by decide +kernel
theorem uw_X5_push_m24 : (.methodLink RX5 24 arraycopyName : Cond) ∈ wsX5_push := by decide +kernel
def wq_X5_push (f1_row : Nat → Int32) (f0_rows : Nat → Int32) (v0_kept : Int32)  (Q : (Nat → Int32) → Int32 → Prop) : Prop := ((16 < v0_kept → (Q f0_rows v0_kept)) ∧ (¬ 16 < v0_kept → ∀ x2 : Int32, x2 = v0_kept * 64 → (¬ x2 < 0) ∧ (x2.toNatClampNeg + (64 : Int32).toNatClampNeg ≤ 1088) ∧ ∀ f3 : Nat → Int32, f3 = va_cpy f1_row f0_rows (0 : Int32).toNatClampNeg x2.toNatClampNeg (64 : Int32).toNatClampNeg → ∀ x4 : Int32, x4 = v0_kept + 1 → (Q f3 x4)))
set_option maxHeartbeats 4000000 in
set_option maxRecDepth 100000 in
theorem ck_X5_push (l : Launch) (dC : Nat → ClassId) (dI : Nat → Nat → Nat) (cyB cyI cyJ cyP : ClassId) (a0 a1 a1_row a0_rows : Nat) (sz : Nat) (z1_owedEach : Value) (z1_down : Value) (z1_law : Value) (f1_row : Nat → Int32) (f0_rows : Nat → Int32) (v0_kept : Int32)  {Q : (Nat → Int32) → Int32 → Prop} (hw : wq_X5_push f1_row f0_rows v0_kept  Q) : Met l yX5_push wsX5_push ({ frames := 1, cells := 0, slots := 0, locals := 40 }) (va_Pc [.ref a0, .ref a1] (cPc (dC, dI) (kT cyB cyI cyJ cyP) [(a0, .inr (5, [.ref a0_rows, .int v0_kept])), (a1, .inr (1, [.ref a1_row, z1_owedEach, z1_down, z1_law])), (a1_row, .inl (cyI, 64, .inl f1_row)), (a0_rows, .inl (cyI, 1088, .inl f0_rows))] sz)) (va_Qv (fun (u : (Nat → Int32) × Int32) => Q u.1 u.2) (cB (dC, dI) (kT cyB cyI cyJ cyP) (va_A [(a0, .inr (5, [.ref a0_rows, .int v0_kept])), (a1, .inr (1, [.ref a1_row, z1_owedEach, z1_down, z1_law])), (a1_row, .inl (cyI, 64, .inl f1_row)), (a0_rows, .inl (cyI, 1088, .inl f0_rows))] sz) (fun u : (Nat → Int32) × Int32 => ([(a0, .inr (5, [.ref a0_rows, .int u.2])), (a1, .inr (1, [.ref a1_row, z1_owedEach, z1_down, z1_law])), (a1_row, .inl (cyI, 64, .inl f1_row)), (a0_rows, .inl (cyI, 1088, .inl u.1))] : va_W))) (va_A [(a0, .inr (5, [.ref a0_rows, .int v0_kept])), (a1, .inr (1, [.ref a1_row, z1_owedEach, z1_down, z1_law])), (a1_row, .inl (cyI, 64, .inl f1_row)), (a0_rows, .inl (cyI, 1088, .inl f0_rows))] sz)) 0 0 (va_A [(a0, .inr (5, [.ref a0_rows, .int v0_kept])), (a1, .inr (1, [.ref a1_row, z1_owedEach, z1_down, z1_law])), (a1_row, .inl (cyI, 64, .inl f1_row)), (a0_rows, .inl (cyI, 1088, .inl f0_rows))] sz) := by
  refine Met.ofW (cc := cX5_push) (maxL := 2) (ret := none) (by decide) rfl ?_
  intro p e s m args below meth c s₁ B hml hv
  obtain ⟨rfl, hsz, hP, hK, hD0, hNw⟩ := hv
  have hx := B.exec
  have hb := B.bytes
  have hr := B.returns
  have hts := atoms_spec (ws := wsX5_push) B.pre
  have hown : s.vm.findClass RX5 = some m.cls := findClass_of_methodNamed B.named
  have hlocks := B.notSynchronized
  subst hsz
  have hD := hD0.self (sz := s.heap.size)
  generalize hAe : va_A [(a0, .inr (5, [.ref a0_rows, .int v0_kept])), (a1, .inr (1, [.ref a1_row, z1_owedEach, z1_down, z1_law])), (a1_row, .inl (cyI, 64, .inl f1_row)), (a0_rows, .inl (cyI, 1088, .inl f0_rows))] s.heap.size = A at hD ⊢
  have hA : ∀ q : Nat, s.heap.size ≤ q → A q := fun q h => by rw [← hAe]; exact Or.inr h
  have hS : va_S A s.heap s.heap [] := va_S.rf
  have hP : va_P (dC, dI) vwCl [(a0, .inr (5, [.ref a0_rows, .int v0_kept])), (a1, .inr (1, [.ref a1_row, z1_owedEach, z1_down, z1_law])), (a1_row, .inl (cyI, 64, .inl f1_row)), (a0_rows, .inl (cyI, 1088, .inl f0_rows))] s.heap := hP
  have hl := lv_entry ([.ref a0, .ref a1]) (n := 2) (Nat.le_of_ble_eq_true rfl)
  rw [lg_entry_eq]
  generalize (lg_sl ([.ref a0, .ref a1]) ++ List.replicate (2 - (lg_sl ([.ref a0, .ref a1])).length) Slot.unset).toArray = ls at hl ⊢
  have hl : lv_has ls 2 [(0, .ref a0), (1, .ref a1)] := hl
  have C0 : cfx p s m _ meth c cX5_push none wsX5_push RX5 2 A (dC, dI) (kT cyB cyI cyJ cyP) := ⟨hx, hb, hr, hts, hown, hlocks, hml, hA, hK, hNw⟩
  clear hAe
  obtain ⟨H, hH⟩ : ∃ H, H = s.heap := ⟨_, rfl⟩
  rw [← hH] at hP ⊢
  have hS : va_S A s.heap H [] := by rw [hH]; exact va_S.rf
  have hS := hS
  refine lv_aload_n hx hb dX5_push_0 rfl (lv_at hl 0 rfl) ?_
  refine va_get (D := (dC, dI)) (ci := 5) (v := .int v0_kept) (C := RX5) (T := TX5) (N := 2) hx hb hts ui_X5_push_X5 hown hK hP 0 rfl rfl 1 (by decide) (hts _ uw_X5_push_f17) (fun _ h9 => h9) rfl dX5_push_1 ?_
  refine lv_bipush (v := 16) hx hb dX5_push_4 (by decide) ?_
  refine lv_icmp_gt (tgt := 40) hx hb dX5_push_6 (by decide) (fun c1 => ?_) (fun c1 => ?_)
  · have hw := hw.1 c1
    exact ((W.vret hx hb hr (fun t ht hW => ⟨⟨(f0_rows, v0_kept), rfl, hw, by rw [ht]; exact hP, va_K.moved hW.alike hK, hD⟩, hS.F ht⟩) hS.2.2 dX5_push_40))
  · have hw := hw.2 c1
    refine lv_aload_n hx hb dX5_push_9 rfl (lv_at hl 1 rfl) ?_
    refine va_get (D := (dC, dI)) (ci := 1) (v := .ref a1_row) (C := RX1) (T := TX1) (N := 4) hx hb hts ui_X5_push_X1 hown hK hP 1 rfl rfl 0 (by decide) (hts _ uw_X5_push_f21) (fun _ h9 => h9) rfl dX5_push_10 ?_
    refine lv_iconst (v := 0) hx hb dX5_push_13 (by decide) ?_
    refine lv_aload_n hx hb dX5_push_14 rfl (lv_at hl 0 rfl) ?_
    refine va_get (D := (dC, dI)) (ci := 5) (v := .ref a0_rows) (C := RX5) (T := TX5) (N := 2) hx hb hts ui_X5_push_X5 hown hK hP 0 rfl rfl 0 (by decide) (hts _ uw_X5_push_f11) (fun _ h9 => h9) rfl dX5_push_15 ?_
    refine lv_aload_n hx hb dX5_push_18 rfl (lv_at hl 0 rfl) ?_
    refine va_get (D := (dC, dI)) (ci := 5) (v := .int v0_kept) (C := RX5) (T := TX5) (N := 2) hx hb hts ui_X5_push_X5 hown hK hP 0 rfl rfl 1 (by decide) (hts _ uw_X5_push_f17) (fun _ h9 => h9) rfl dX5_push_19 ?_
    refine lv_bipush (v := 64) hx hb dX5_push_22 (by decide) ?_
    refine lv_imul hx hb dX5_push_24 ?_
    refine lv_topi (fun x2 ex2 => ?_)
    have hw := hw x2 ex2
    refine lv_bipush (v := 64) hx hb dX5_push_25 (by decide) ?_
    obtain ⟨hc19, hw⟩ := hw
    obtain ⟨hc49, hw⟩ := hw
    refine va_copyi hx hb (by rw [hml]; exact hl.1.symm) hown (hts _ uw_X5_push_m24) (hts _ uw_X5_push_acn) (hts _ uw_X5_push_acs) (hts _ uw_X5_push_aci) hK hP hD hS 2 3 1 1 rfl rfl rfl rfl rfl (by decide) hc19 (by decide) (by decide) hc49 (fun _ _ => rfl) (Nat.le_of_ble_eq_true rfl) (Nat.le_of_ble_eq_true rfl) dX5_push_27 (fun H locs hP hD hS => ?_)
    obtain ⟨f3, ef3⟩ : ∃ y : Nat → Int32, y = va_cpy f1_row f0_rows (0 : Int32).toNatClampNeg x2.toNatClampNeg (64 : Int32).toNatClampNeg := ⟨_, rfl⟩
    have hw := hw f3 ef3
    have hP : va_P (dC, dI) vwCl [(a0, .inr (5, [.ref a0_rows, .int v0_kept])), (a1, .inr (1, [.ref a1_row, z1_owedEach, z1_down, z1_law])), (a1_row, .inl (cyI, 64, .inl f1_row)), (a0_rows, .inl (cyI, 1088, .inl f3))] H := by rw [ef3]; exact hP
    have hD : va_D A [(a0, .inr (5, [.ref a0_rows, .int v0_kept])), (a1, .inr (1, [.ref a1_row, z1_owedEach, z1_down, z1_law])), (a1_row, .inl (cyI, 64, .inl f1_row)), (a0_rows, .inl (cyI, 1088, .inl f3))] := by rw [ef3]; exact hD
    refine lv_aload_n hx hb dX5_push_30 rfl (lv_at hl 0 rfl) ?_
    refine lv_dup hx hb dX5_push_31 rfl ?_
    refine va_get (D := (dC, dI)) (ci := 5) (v := .int v0_kept) (C := RX5) (T := TX5) (N := 2) hx hb hts ui_X5_push_X5 hown hK hP 0 rfl rfl 1 (by decide) (hts _ uw_X5_push_f17) (fun _ h9 => h9) rfl dX5_push_32 ?_
    refine lv_iconst (v := 1) hx hb dX5_push_35 (by decide) ?_
    refine lv_iadd hx hb dX5_push_36 ?_
    refine lv_topi (fun x4 ex4 => ?_)
    have hw := hw x4 ex4
    refine va_put (D := (dC, dI)) (ci := 5) (v := .int x4) (ty := .int) (C := RX5) (T := TX5) (N := 2) hx hb hts ui_X5_push_X5 tyX5 tyX5_ok nmX5 hown hK hP hD hS 0 rfl rfl 1 (by decide) (hts _ uw_X5_push_f17) (fun _ h9 => h9) rfl (by decide +kernel) rfl rfl (Nat.le_of_ble_eq_true rfl) dX5_push_37 (fun H locs hP hD hS => ?_)
    have hP : va_P (dC, dI) vwCl [(a0, .inr (5, [.ref a0_rows, .int x4])), (a1, .inr (1, [.ref a1_row, z1_owedEach, z1_down, z1_law])), (a1_row, .inl (cyI, 64, .inl f1_row)), (a0_rows, .inl (cyI, 1088, .inl f3))] H := hP
    have hD : va_D A [(a0, .inr (5, [.ref a0_rows, .int x4])), (a1, .inr (1, [.ref a1_row, z1_owedEach, z1_down, z1_law])), (a1_row, .inl (cyI, 64, .inl f1_row)), (a0_rows, .inl (cyI, 1088, .inl f3))] := hD
    exact ((W.vret hx hb hr (fun t ht hW => ⟨⟨(f3, x4), rfl, hw, by rw [ht]; exact hP, va_K.moved hW.alike hK, hD⟩, hS.F ht⟩) hS.2.2 dX5_push_40))
theorem ui_X9_behindEnd_X9 : ∀ w ∈ u_ws RX9 TX9 12, w ∈ wsX9_behindEnd := by decide +kernel
theorem uw_X9_behindEnd_f15 : (.fieldLink RX9 15 "MarchHares$Work" "first" "[I" : Cond) ∈ wsX9_behindEnd := by decide +kernel
theorem uw_X9_behindEnd_f27 : (.fieldLink RX9 27 "MarchHares$Work" "rounds" "[I" : Cond) ∈ wsX9_behindEnd := by decide +kernel
theorem uw_X9_behindEnd_f40 : (.fieldLink RX9 40 "MarchHares$Work" "open" "I" : Cond) ∈ wsX9_behindEnd := by decide +kernel
def wq_X9_behindEnd (f0_first : Nat → Int32) (f0_rounds : Nat → Int32) (v0_open : Int32) (p1 : Int32) (Q : Int32 → (Nat → Int32) → Int32 → Prop) : Prop := ((¬ v0_open = 0 → ∀ x2 : Int32, x2 = v0_open - 1 → vp_in x2 6 ∧ ∀ x3 : Int32, x3 = f0_rounds x2.toNatClampNeg → ∀ x4 : Int32, x4 = x3 - 1 → vp_in x2 6 ∧ ∀ f5 : Nat → Int32, f5 = upd f0_rounds x2.toNatClampNeg x4 → ∀ x6 : Int32, x6 = v0_open - 1 → vp_in x6 6 ∧ ∀ x7 : Int32, x7 = f5 x6.toNatClampNeg → ((x7 ≤ 0 → ∀ x9 : Int32, x9 = v0_open - 1 → (Q (p1 + 1) f5 x9)) ∧ (¬ x7 ≤ 0 → vp_in p1 50 ∧ ∀ x10 : Int32, x10 = f0_first p1.toNatClampNeg → (Q (x10 + 1) f5 v0_open)))) ∧ (v0_open = 0 → (Q (p1 + 1) f0_rounds v0_open)))
set_option maxHeartbeats 4000000 in
set_option maxRecDepth 100000 in
theorem ck_X9_behindEnd (l : Launch) (dC : Nat → ClassId) (dI : Nat → Nat → Nat) (cyB cyI cyJ cyP : ClassId) (a0 a0_rounds a0_first : Nat) (sz : Nat) (z0_kinds : Value) (z0_second : Value) (z0_third : Value) (z0_heads : Value) (z0_length : Value) (z0_hares : Value) (z0_forms : Value) (z0_done : Value) (z0_refused : Value) (f0_first : Nat → Int32) (f0_rounds : Nat → Int32) (v0_open : Int32) (p1 : Int32) {Q : Int32 → (Nat → Int32) → Int32 → Prop} (hw : wq_X9_behindEnd f0_first f0_rounds v0_open p1 Q) : Met l yX9_behindEnd wsX9_behindEnd ({ frames := 0, cells := 0, slots := 0, locals := 0 }) (va_Pc [.ref a0, .int p1] (cPc (dC, dI) (kT cyB cyI cyJ cyP) [(a0, .inr (9, [z0_kinds, .ref a0_first, z0_second, z0_third, z0_heads, .ref a0_rounds, z0_length, .int v0_open, z0_hares, z0_forms, z0_done, z0_refused])), (a0_rounds, .inl (cyI, 6, .inl f0_rounds)), (a0_first, .inl (cyI, 50, .inl f0_first))] sz)) (va_Qi (fun (r : Int32) (u : (Nat → Int32) × Int32) => Q r u.1 u.2) (cB (dC, dI) (kT cyB cyI cyJ cyP) (va_A [(a0, .inr (9, [z0_kinds, .ref a0_first, z0_second, z0_third, z0_heads, .ref a0_rounds, z0_length, .int v0_open, z0_hares, z0_forms, z0_done, z0_refused])), (a0_rounds, .inl (cyI, 6, .inl f0_rounds)), (a0_first, .inl (cyI, 50, .inl f0_first))] sz) (fun u : (Nat → Int32) × Int32 => ([(a0, .inr (9, [z0_kinds, .ref a0_first, z0_second, z0_third, z0_heads, .ref a0_rounds, z0_length, .int u.2, z0_hares, z0_forms, z0_done, z0_refused])), (a0_rounds, .inl (cyI, 6, .inl u.1)), (a0_first, .inl (cyI, 50, .inl f0_first))] : va_W))) (va_A [(a0, .inr (9, [z0_kinds, .ref a0_first, z0_second, z0_third, z0_heads, .ref a0_rounds, z0_length, .int v0_open, z0_hares, z0_forms, z0_done, z0_refused])), (a0_rounds, .inl (cyI, 6, .inl f0_rounds)), (a0_first, .inl (cyI, 50, .inl f0_first))] sz)) 0 0 (va_A [(a0, .inr (9, [z0_kinds, .ref a0_first, z0_second, z0_third, z0_heads, .ref a0_rounds, z0_length, .int v0_open, z0_hares, z0_forms, z0_done, z0_refused])), (a0_rounds, .inl (cyI, 6, .inl f0_rounds)), (a0_first, .inl (cyI, 50, .inl f0_first))] sz) := by
  refine Met.ofW (cc := cX9_behindEnd) (maxL := 2) (ret := (some .int)) (by decide) rfl ?_
  intro p e s m args below meth c s₁ B hml hv
  obtain ⟨rfl, hsz, hP, hK, hD0, hNw⟩ := hv
  have hx := B.exec
  have hb := B.bytes
  have hr := B.returns
  have hts := atoms_spec (ws := wsX9_behindEnd) B.pre
  have hown : s.vm.findClass RX9 = some m.cls := findClass_of_methodNamed B.named
  have hlocks := B.notSynchronized
  subst hsz
  have hD := hD0.self (sz := s.heap.size)
  generalize hAe : va_A [(a0, .inr (9, [z0_kinds, .ref a0_first, z0_second, z0_third, z0_heads, .ref a0_rounds, z0_length, .int v0_open, z0_hares, z0_forms, z0_done, z0_refused])), (a0_rounds, .inl (cyI, 6, .inl f0_rounds)), (a0_first, .inl (cyI, 50, .inl f0_first))] s.heap.size = A at hD ⊢
  have hA : ∀ q : Nat, s.heap.size ≤ q → A q := fun q h => by rw [← hAe]; exact Or.inr h
  have hS : va_S A s.heap s.heap [] := va_S.rf
  have hP : va_P (dC, dI) vwCl [(a0, .inr (9, [z0_kinds, .ref a0_first, z0_second, z0_third, z0_heads, .ref a0_rounds, z0_length, .int v0_open, z0_hares, z0_forms, z0_done, z0_refused])), (a0_rounds, .inl (cyI, 6, .inl f0_rounds)), (a0_first, .inl (cyI, 50, .inl f0_first))] s.heap := hP
  have hl := lv_entry ([.ref a0, .int p1]) (n := 2) (Nat.le_of_ble_eq_true rfl)
  rw [lg_entry_eq]
  generalize (lg_sl ([.ref a0, .int p1]) ++ List.replicate (2 - (lg_sl ([.ref a0, .int p1])).length) Slot.unset).toArray = ls at hl ⊢
  have hl : lv_has ls 2 [(0, .ref a0), (1, .int p1)] := hl
  have C0 : cfx p s m _ meth c cX9_behindEnd (some .int) wsX9_behindEnd RX9 2 A (dC, dI) (kT cyB cyI cyJ cyP) := ⟨hx, hb, hr, hts, hown, hlocks, hml, hA, hK, hNw⟩
  clear hAe
  obtain ⟨H, hH⟩ : ∃ H, H = s.heap := ⟨_, rfl⟩
  rw [← hH] at hP ⊢
  have hS : va_S A s.heap H [] := by rw [hH]; exact va_S.rf
  have hS := hS
  refine lv_aload_n hx hb dX9_behindEnd_0 rfl (lv_at hl 0 rfl) ?_
  refine va_get (D := (dC, dI)) (ci := 9) (v := .int v0_open) (C := RX9) (T := TX9) (N := 12) hx hb hts ui_X9_behindEnd_X9 hown hK hP 0 rfl rfl 7 (by decide) (hts _ uw_X9_behindEnd_f40) (fun _ h9 => h9) rfl dX9_behindEnd_1 ?_
  refine lv_if_ne (tgt := 11) hx hb dX9_behindEnd_4 (by decide) (fun c1 => ?_) (fun c1 => ?_)
  · have hw := hw.1 c1
    refine lv_aload_n hx hb dX9_behindEnd_11 rfl (lv_at hl 0 rfl) ?_
    refine va_get (D := (dC, dI)) (ci := 9) (v := .ref a0_rounds) (C := RX9) (T := TX9) (N := 12) hx hb hts ui_X9_behindEnd_X9 hown hK hP 0 rfl rfl 5 (by decide) (hts _ uw_X9_behindEnd_f27) (fun _ h9 => h9) rfl dX9_behindEnd_12 ?_
    refine lv_aload_n hx hb dX9_behindEnd_15 rfl (lv_at hl 0 rfl) ?_
    refine va_get (D := (dC, dI)) (ci := 9) (v := .int v0_open) (C := RX9) (T := TX9) (N := 12) hx hb hts ui_X9_behindEnd_X9 hown hK hP 0 rfl rfl 7 (by decide) (hts _ uw_X9_behindEnd_f40) (fun _ h9 => h9) rfl dX9_behindEnd_16 ?_
    refine lv_iconst (v := 1) hx hb dX9_behindEnd_19 (by decide) ?_
    refine lv_isub hx hb dX9_behindEnd_20 ?_
    refine lv_topi (fun x2 ex2 => ?_)
    have hw := hw x2 ex2
    refine lv_dup2_11 hx hb dX9_behindEnd_21 rfl rfl ?_
    obtain ⟨hi9, hw⟩ := hw
    refine va_iald hx hb hK hP 1 1 rfl rfl hi9 dX9_behindEnd_22 ?_
    refine lv_topi (fun x3 ex3 => ?_)
    have hw := hw x3 ex3
    refine lv_iconst (v := 1) hx hb dX9_behindEnd_23 (by decide) ?_
    refine lv_isub hx hb dX9_behindEnd_24 ?_
    refine lv_topi (fun x4 ex4 => ?_)
    have hw := hw x4 ex4
    obtain ⟨hi9, hw⟩ := hw
    refine va_iast hx hb hK hP hD hS 1 1 rfl rfl hi9 dX9_behindEnd_25 (fun H locs hP hD hS => ?_)
    obtain ⟨f5, ef5⟩ : ∃ y : Nat → Int32, y = upd f0_rounds x2.toNatClampNeg x4 := ⟨_, rfl⟩
    have hw := hw f5 ef5
    have hP : va_P (dC, dI) vwCl [(a0, .inr (9, [z0_kinds, .ref a0_first, z0_second, z0_third, z0_heads, .ref a0_rounds, z0_length, .int v0_open, z0_hares, z0_forms, z0_done, z0_refused])), (a0_rounds, .inl (cyI, 6, .inl f5)), (a0_first, .inl (cyI, 50, .inl f0_first))] H := by rw [ef5]; exact hP
    have hD : va_D A [(a0, .inr (9, [z0_kinds, .ref a0_first, z0_second, z0_third, z0_heads, .ref a0_rounds, z0_length, .int v0_open, z0_hares, z0_forms, z0_done, z0_refused])), (a0_rounds, .inl (cyI, 6, .inl f5)), (a0_first, .inl (cyI, 50, .inl f0_first))] := by rw [ef5]; exact hD
    refine lv_aload_n hx hb dX9_behindEnd_26 rfl (lv_at hl 0 rfl) ?_
    refine va_get (D := (dC, dI)) (ci := 9) (v := .ref a0_rounds) (C := RX9) (T := TX9) (N := 12) hx hb hts ui_X9_behindEnd_X9 hown hK hP 0 rfl rfl 5 (by decide) (hts _ uw_X9_behindEnd_f27) (fun _ h9 => h9) rfl dX9_behindEnd_27 ?_
    refine lv_aload_n hx hb dX9_behindEnd_30 rfl (lv_at hl 0 rfl) ?_
    refine va_get (D := (dC, dI)) (ci := 9) (v := .int v0_open) (C := RX9) (T := TX9) (N := 12) hx hb hts ui_X9_behindEnd_X9 hown hK hP 0 rfl rfl 7 (by decide) (hts _ uw_X9_behindEnd_f40) (fun _ h9 => h9) rfl dX9_behindEnd_31 ?_
    refine lv_iconst (v := 1) hx hb dX9_behindEnd_34 (by decide) ?_
    refine lv_isub hx hb dX9_behindEnd_35 ?_
    refine lv_topi (fun x6 ex6 => ?_)
    have hw := hw x6 ex6
    obtain ⟨hi9, hw⟩ := hw
    refine va_iald hx hb hK hP 1 1 rfl rfl hi9 dX9_behindEnd_36 ?_
    refine lv_topi (fun x7 ex7 => ?_)
    have hw := hw x7 ex7
    refine lv_if_le (tgt := 49) hx hb dX9_behindEnd_37 (by decide) (fun c8 => ?_) (fun c8 => ?_)
    · have hw := hw.1 c8
      refine lv_aload_n hx hb dX9_behindEnd_49 rfl (lv_at hl 0 rfl) ?_
      refine lv_dup hx hb dX9_behindEnd_50 rfl ?_
      refine va_get (D := (dC, dI)) (ci := 9) (v := .int v0_open) (C := RX9) (T := TX9) (N := 12) hx hb hts ui_X9_behindEnd_X9 hown hK hP 0 rfl rfl 7 (by decide) (hts _ uw_X9_behindEnd_f40) (fun _ h9 => h9) rfl dX9_behindEnd_51 ?_
      refine lv_iconst (v := 1) hx hb dX9_behindEnd_54 (by decide) ?_
      refine lv_isub hx hb dX9_behindEnd_55 ?_
      refine lv_topi (fun x9 ex9 => ?_)
      have hw := hw x9 ex9
      refine va_put (D := (dC, dI)) (ci := 9) (v := .int x9) (ty := .int) (C := RX9) (T := TX9) (N := 12) hx hb hts ui_X9_behindEnd_X9 tyX9 tyX9_ok nmX9 hown hK hP hD hS 0 rfl rfl 7 (by decide) (hts _ uw_X9_behindEnd_f40) (fun _ h9 => h9) rfl (by decide +kernel) rfl rfl (Nat.le_of_ble_eq_true rfl) dX9_behindEnd_56 (fun H locs hP hD hS => ?_)
      have hP : va_P (dC, dI) vwCl [(a0, .inr (9, [z0_kinds, .ref a0_first, z0_second, z0_third, z0_heads, .ref a0_rounds, z0_length, .int x9, z0_hares, z0_forms, z0_done, z0_refused])), (a0_rounds, .inl (cyI, 6, .inl f5)), (a0_first, .inl (cyI, 50, .inl f0_first))] H := hP
      have hD : va_D A [(a0, .inr (9, [z0_kinds, .ref a0_first, z0_second, z0_third, z0_heads, .ref a0_rounds, z0_length, .int x9, z0_hares, z0_forms, z0_done, z0_refused])), (a0_rounds, .inl (cyI, 6, .inl f5)), (a0_first, .inl (cyI, 50, .inl f0_first))] := hD
      refine lv_iload_n hx hb dX9_behindEnd_59 rfl (lv_at hl 1 rfl) ?_
      refine lv_iconst (v := 1) hx hb dX9_behindEnd_60 (by decide) ?_
      refine lv_iadd hx hb dX9_behindEnd_61 ?_
      exact ((W.iret (v := (p1 + 1)) hx hb hr (fun t ht hW => ⟨⟨(p1 + 1), (f5, x9), rfl, hw, by rw [ht]; exact hP, va_K.moved hW.alike hK, hD⟩, hS.F ht⟩) hS.2.2 dX9_behindEnd_62))
    · have hw := hw.2 c8
      refine lv_aload_n hx hb dX9_behindEnd_40 rfl (lv_at hl 0 rfl) ?_
      refine va_get (D := (dC, dI)) (ci := 9) (v := .ref a0_first) (C := RX9) (T := TX9) (N := 12) hx hb hts ui_X9_behindEnd_X9 hown hK hP 0 rfl rfl 1 (by decide) (hts _ uw_X9_behindEnd_f15) (fun _ h9 => h9) rfl dX9_behindEnd_41 ?_
      refine lv_iload_n hx hb dX9_behindEnd_44 rfl (lv_at hl 1 rfl) ?_
      obtain ⟨hi9, hw⟩ := hw
      refine va_iald hx hb hK hP 2 1 rfl rfl hi9 dX9_behindEnd_45 ?_
      refine lv_topi (fun x10 ex10 => ?_)
      have hw := hw x10 ex10
      refine lv_iconst (v := 1) hx hb dX9_behindEnd_46 (by decide) ?_
      refine lv_iadd hx hb dX9_behindEnd_47 ?_
      exact ((W.iret (v := (x10 + 1)) hx hb hr (fun t ht hW => ⟨⟨(x10 + 1), (f5, v0_open), rfl, hw, by rw [ht]; exact hP, va_K.moved hW.alike hK, hD⟩, hS.F ht⟩) hS.2.2 dX9_behindEnd_48))
  · have hw := hw.2 c1
    refine lv_iload_n hx hb dX9_behindEnd_7 rfl (lv_at hl 1 rfl) ?_
    refine lv_iconst (v := 1) hx hb dX9_behindEnd_8 (by decide) ?_
    refine lv_iadd hx hb dX9_behindEnd_9 ?_
    exact ((W.iret (v := (p1 + 1)) hx hb hr (fun t ht hW => ⟨⟨(p1 + 1), (f0_rounds, v0_open), rfl, hw, by rw [ht]; exact hP, va_K.moved hW.alike hK, hD⟩, hS.F ht⟩) hS.2.2 dX9_behindEnd_10))
theorem ui_X9_behindAgain_X9 : ∀ w ∈ u_ws RX9 TX9 12, w ∈ wsX9_behindAgain := by decide +kernel
theorem uw_X9_behindAgain_f15 : (.fieldLink RX9 15 "MarchHares$Work" "first" "[I" : Cond) ∈ wsX9_behindAgain := by decide +kernel
theorem uw_X9_behindAgain_f18 : (.fieldLink RX9 18 "MarchHares$Work" "second" "[I" : Cond) ∈ wsX9_behindAgain := by decide +kernel
theorem uw_X9_behindAgain_f27 : (.fieldLink RX9 27 "MarchHares$Work" "rounds" "[I" : Cond) ∈ wsX9_behindAgain := by decide +kernel
theorem uw_X9_behindAgain_f40 : (.fieldLink RX9 40 "MarchHares$Work" "open" "I" : Cond) ∈ wsX9_behindAgain := by decide +kernel
def wb_X9_behindAgain_18 (f0_first : Nat → Int32) (f0_second : Nat → Int32) (Q : Int32 → (Nat → Int32) → Int32 → Prop)  (f0_rounds : Nat → Int32) (v0_open : Int32) (l1 : Int32) : Prop := vp_in l1 50 ∧ ∀ x7 : Int32, x7 = f0_second l1.toNatClampNeg → (Q (x7 + 1) f0_rounds v0_open)
set_option maxHeartbeats 4000000 in
set_option maxRecDepth 100000 in
theorem kb_X9_behindAgain_18 {p : Program} {l : Launch} {e : Env} {s : State} {m : MethodId} {args : Array Value} {below : List Frame} {meth : Method} {c : Code} {A : Nat → Prop} (dC : Nat → ClassId) (dI : Nat → Nat → Nat) (cyB cyI cyJ cyP : ClassId) (a0 a0_first a0_rounds a0_second : Nat) (z0_kinds : Value) (z0_third : Value) (z0_heads : Value) (z0_length : Value) (z0_hares : Value) (z0_forms : Value) (z0_done : Value) (z0_refused : Value) (f0_first : Nat → Int32) (f0_second : Nat → Int32) (Q : Int32 → (Nat → Int32) → Int32 → Prop)  (C0 : cfx p s m args meth c cX9_behindAgain (some .int) wsX9_behindAgain RX9 2 A (dC, dI) (kT cyB cyI cyJ cyP)) : ∀ (H : Heap) (locs : List Loc) (ls : Array Slot) (f0_rounds : Nat → Int32) (v0_open : Int32) (l1 : Int32), va_P (dC, dI) vwCl [(a0, .inr (9, [z0_kinds, .ref a0_first, .ref a0_second, z0_third, z0_heads, .ref a0_rounds, z0_length, .int v0_open, z0_hares, z0_forms, z0_done, z0_refused])), (a0_first, .inl (cyI, 50, .inl f0_first)), (a0_rounds, .inl (cyI, 6, .inl f0_rounds)), (a0_second, .inl (cyI, 50, .inl f0_second))] H → va_D A [(a0, .inr (9, [z0_kinds, .ref a0_first, .ref a0_second, z0_third, z0_heads, .ref a0_rounds, z0_length, .int v0_open, z0_hares, z0_forms, z0_done, z0_refused])), (a0_first, .inl (cyI, 50, .inl f0_first)), (a0_rounds, .inl (cyI, 6, .inl f0_rounds)), (a0_second, .inl (cyI, 50, .inl f0_second))] → va_S A s.heap H locs → lv_has ls 2 [(0, .ref a0), (1, .int l1)] → wb_X9_behindAgain_18 f0_first f0_second Q  f0_rounds v0_open l1 → W p l e (headSpec wsX9_behindAgain ({ frames := 0, cells := 0, slots := 0, locals := 0 })).room s m args below meth c H locs 0 0 (MQ below (va_Qi (fun (r : Int32) (u : (Nat → Int32) × Int32) => Q r u.1 u.2) (cB (dC, dI) (kT cyB cyI cyJ cyP) A (fun u : (Nat → Int32) × Int32 => ([(a0, .inr (9, [z0_kinds, .ref a0_first, .ref a0_second, z0_third, z0_heads, .ref a0_rounds, z0_length, .int u.2, z0_hares, z0_forms, z0_done, z0_refused])), (a0_first, .inl (cyI, 50, .inl f0_first)), (a0_rounds, .inl (cyI, 6, .inl u.1)), (a0_second, .inl (cyI, 50, .inl f0_second))] : va_W))) A) args s 0 0 A) (F0 m 18 ls []) := by
  obtain ⟨hx, hb, hr, hts, hown, hlocks, hml, hA, hK, hNw⟩ := id C0
  intro H locs ls f0_rounds v0_open l1 hP hD hS hl hw
  refine lv_aload_n hx hb dX9_behindAgain_18 rfl (lv_at hl 0 rfl) ?_
  refine va_get (D := (dC, dI)) (ci := 9) (v := .ref a0_second) (C := RX9) (T := TX9) (N := 12) hx hb hts ui_X9_behindAgain_X9 hown hK hP 0 rfl rfl 2 (by decide) (hts _ uw_X9_behindAgain_f18) (fun _ h9 => h9) rfl dX9_behindAgain_19 ?_
  refine lv_iload_n hx hb dX9_behindAgain_22 rfl (lv_at hl 1 rfl) ?_
  obtain ⟨hi9, hw⟩ := hw
  refine va_iald hx hb hK hP 3 1 rfl rfl hi9 dX9_behindAgain_23 ?_
  refine lv_topi (fun x7 ex7 => ?_)
  have hw := hw x7 ex7
  refine lv_iconst (v := 1) hx hb dX9_behindAgain_24 (by decide) ?_
  refine lv_iadd hx hb dX9_behindAgain_25 ?_
  exact ((W.iret (v := (x7 + 1)) hx hb hr (fun t ht hW => ⟨⟨(x7 + 1), (f0_rounds, v0_open), rfl, hw, by rw [ht]; exact hP, va_K.moved hW.alike hK, hD⟩, hS.F ht⟩) hS.2.2 dX9_behindAgain_26))
def wq_X9_behindAgain (f0_first : Nat → Int32) (f0_second : Nat → Int32) (f0_rounds : Nat → Int32) (v0_open : Int32) (p1 : Int32) (Q : Int32 → (Nat → Int32) → Int32 → Prop) : Prop := vp_in p1 50 ∧ ∀ x1 : Int32, x1 = f0_first p1.toNatClampNeg → ((x1 = 0 → (wb_X9_behindAgain_18 f0_first f0_second Q  f0_rounds v0_open p1)) ∧ (¬ x1 = 0 → ((v0_open < 6 → vp_in p1 50 ∧ ∀ x4 : Int32, x4 = f0_first p1.toNatClampNeg → vp_in v0_open 6 ∧ ∀ f5 : Nat → Int32, f5 = upd f0_rounds v0_open.toNatClampNeg x4 → ∀ x6 : Int32, x6 = v0_open + 1 → (Q (p1 + 1) f5 x6)) ∧ (¬ v0_open < 6 → (wb_X9_behindAgain_18 f0_first f0_second Q  f0_rounds v0_open p1)))))
set_option maxHeartbeats 4000000 in
set_option maxRecDepth 100000 in
theorem ck_X9_behindAgain (l : Launch) (dC : Nat → ClassId) (dI : Nat → Nat → Nat) (cyB cyI cyJ cyP : ClassId) (a0 a0_first a0_rounds a0_second : Nat) (sz : Nat) (z0_kinds : Value) (z0_third : Value) (z0_heads : Value) (z0_length : Value) (z0_hares : Value) (z0_forms : Value) (z0_done : Value) (z0_refused : Value) (f0_first : Nat → Int32) (f0_second : Nat → Int32) (f0_rounds : Nat → Int32) (v0_open : Int32) (p1 : Int32) {Q : Int32 → (Nat → Int32) → Int32 → Prop} (hw : wq_X9_behindAgain f0_first f0_second f0_rounds v0_open p1 Q) : Met l yX9_behindAgain wsX9_behindAgain ({ frames := 0, cells := 0, slots := 0, locals := 0 }) (va_Pc [.ref a0, .int p1] (cPc (dC, dI) (kT cyB cyI cyJ cyP) [(a0, .inr (9, [z0_kinds, .ref a0_first, .ref a0_second, z0_third, z0_heads, .ref a0_rounds, z0_length, .int v0_open, z0_hares, z0_forms, z0_done, z0_refused])), (a0_first, .inl (cyI, 50, .inl f0_first)), (a0_rounds, .inl (cyI, 6, .inl f0_rounds)), (a0_second, .inl (cyI, 50, .inl f0_second))] sz)) (va_Qi (fun (r : Int32) (u : (Nat → Int32) × Int32) => Q r u.1 u.2) (cB (dC, dI) (kT cyB cyI cyJ cyP) (va_A [(a0, .inr (9, [z0_kinds, .ref a0_first, .ref a0_second, z0_third, z0_heads, .ref a0_rounds, z0_length, .int v0_open, z0_hares, z0_forms, z0_done, z0_refused])), (a0_first, .inl (cyI, 50, .inl f0_first)), (a0_rounds, .inl (cyI, 6, .inl f0_rounds)), (a0_second, .inl (cyI, 50, .inl f0_second))] sz) (fun u : (Nat → Int32) × Int32 => ([(a0, .inr (9, [z0_kinds, .ref a0_first, .ref a0_second, z0_third, z0_heads, .ref a0_rounds, z0_length, .int u.2, z0_hares, z0_forms, z0_done, z0_refused])), (a0_first, .inl (cyI, 50, .inl f0_first)), (a0_rounds, .inl (cyI, 6, .inl u.1)), (a0_second, .inl (cyI, 50, .inl f0_second))] : va_W))) (va_A [(a0, .inr (9, [z0_kinds, .ref a0_first, .ref a0_second, z0_third, z0_heads, .ref a0_rounds, z0_length, .int v0_open, z0_hares, z0_forms, z0_done, z0_refused])), (a0_first, .inl (cyI, 50, .inl f0_first)), (a0_rounds, .inl (cyI, 6, .inl f0_rounds)), (a0_second, .inl (cyI, 50, .inl f0_second))] sz)) 0 0 (va_A [(a0, .inr (9, [z0_kinds, .ref a0_first, .ref a0_second, z0_third, z0_heads, .ref a0_rounds, z0_length, .int v0_open, z0_hares, z0_forms, z0_done, z0_refused])), (a0_first, .inl (cyI, 50, .inl f0_first)), (a0_rounds, .inl (cyI, 6, .inl f0_rounds)), (a0_second, .inl (cyI, 50, .inl f0_second))] sz) := by
  refine Met.ofW (cc := cX9_behindAgain) (maxL := 2) (ret := (some .int)) (by decide) rfl ?_
  intro p e s m args below meth c s₁ B hml hv
  obtain ⟨rfl, hsz, hP, hK, hD0, hNw⟩ := hv
  have hx := B.exec
  have hb := B.bytes
  have hr := B.returns
  have hts := atoms_spec (ws := wsX9_behindAgain) B.pre
  have hown : s.vm.findClass RX9 = some m.cls := findClass_of_methodNamed B.named
  have hlocks := B.notSynchronized
  subst hsz
  have hD := hD0.self (sz := s.heap.size)
  generalize hAe : va_A [(a0, .inr (9, [z0_kinds, .ref a0_first, .ref a0_second, z0_third, z0_heads, .ref a0_rounds, z0_length, .int v0_open, z0_hares, z0_forms, z0_done, z0_refused])), (a0_first, .inl (cyI, 50, .inl f0_first)), (a0_rounds, .inl (cyI, 6, .inl f0_rounds)), (a0_second, .inl (cyI, 50, .inl f0_second))] s.heap.size = A at hD ⊢
  have hA : ∀ q : Nat, s.heap.size ≤ q → A q := fun q h => by rw [← hAe]; exact Or.inr h
  have hS : va_S A s.heap s.heap [] := va_S.rf
  have hP : va_P (dC, dI) vwCl [(a0, .inr (9, [z0_kinds, .ref a0_first, .ref a0_second, z0_third, z0_heads, .ref a0_rounds, z0_length, .int v0_open, z0_hares, z0_forms, z0_done, z0_refused])), (a0_first, .inl (cyI, 50, .inl f0_first)), (a0_rounds, .inl (cyI, 6, .inl f0_rounds)), (a0_second, .inl (cyI, 50, .inl f0_second))] s.heap := hP
  have hl := lv_entry ([.ref a0, .int p1]) (n := 2) (Nat.le_of_ble_eq_true rfl)
  rw [lg_entry_eq]
  generalize (lg_sl ([.ref a0, .int p1]) ++ List.replicate (2 - (lg_sl ([.ref a0, .int p1])).length) Slot.unset).toArray = ls at hl ⊢
  have hl : lv_has ls 2 [(0, .ref a0), (1, .int p1)] := hl
  have C0 : cfx p s m _ meth c cX9_behindAgain (some .int) wsX9_behindAgain RX9 2 A (dC, dI) (kT cyB cyI cyJ cyP) := ⟨hx, hb, hr, hts, hown, hlocks, hml, hA, hK, hNw⟩
  clear hAe
  obtain ⟨H, hH⟩ : ∃ H, H = s.heap := ⟨_, rfl⟩
  rw [← hH] at hP ⊢
  have hS : va_S A s.heap H [] := by rw [hH]; exact va_S.rf
  have hS := hS
  refine lv_aload_n hx hb dX9_behindAgain_0 rfl (lv_at hl 0 rfl) ?_
  refine va_get (D := (dC, dI)) (ci := 9) (v := .ref a0_first) (C := RX9) (T := TX9) (N := 12) hx hb hts ui_X9_behindAgain_X9 hown hK hP 0 rfl rfl 1 (by decide) (hts _ uw_X9_behindAgain_f15) (fun _ h9 => h9) rfl dX9_behindAgain_1 ?_
  refine lv_iload_n hx hb dX9_behindAgain_4 rfl (lv_at hl 1 rfl) ?_
  obtain ⟨hi9, hw⟩ := hw
  refine va_iald hx hb hK hP 1 1 rfl rfl hi9 dX9_behindAgain_5 ?_
  refine lv_topi (fun x1 ex1 => ?_)
  have hw := hw x1 ex1
  refine lv_if_eq (tgt := 18) hx hb dX9_behindAgain_6 (by decide) (fun c2 => ?_) (fun c2 => ?_)
  · have hw := hw.1 c2
    exact kb_X9_behindAgain_18 dC dI cyB cyI cyJ cyP a0 a0_first a0_rounds a0_second z0_kinds z0_third z0_heads z0_length z0_hares z0_forms z0_done z0_refused f0_first f0_second Q  C0 _ _ _ f0_rounds v0_open p1 hP hD hS (lv_sub hl [0, 1] rfl) hw
  · have hw := hw.2 c2
    refine lv_aload_n hx hb dX9_behindAgain_9 rfl (lv_at hl 0 rfl) ?_
    refine va_get (D := (dC, dI)) (ci := 9) (v := .int v0_open) (C := RX9) (T := TX9) (N := 12) hx hb hts ui_X9_behindAgain_X9 hown hK hP 0 rfl rfl 7 (by decide) (hts _ uw_X9_behindAgain_f40) (fun _ h9 => h9) rfl dX9_behindAgain_10 ?_
    refine lv_bipush (v := 6) hx hb dX9_behindAgain_13 (by decide) ?_
    refine lv_icmp_lt (tgt := 27) hx hb dX9_behindAgain_15 (by decide) (fun c3 => ?_) (fun c3 => ?_)
    · have hw := hw.1 c3
      refine lv_aload_n hx hb dX9_behindAgain_27 rfl (lv_at hl 0 rfl) ?_
      refine va_get (D := (dC, dI)) (ci := 9) (v := .ref a0_rounds) (C := RX9) (T := TX9) (N := 12) hx hb hts ui_X9_behindAgain_X9 hown hK hP 0 rfl rfl 5 (by decide) (hts _ uw_X9_behindAgain_f27) (fun _ h9 => h9) rfl dX9_behindAgain_28 ?_
      refine lv_aload_n hx hb dX9_behindAgain_31 rfl (lv_at hl 0 rfl) ?_
      refine va_get (D := (dC, dI)) (ci := 9) (v := .int v0_open) (C := RX9) (T := TX9) (N := 12) hx hb hts ui_X9_behindAgain_X9 hown hK hP 0 rfl rfl 7 (by decide) (hts _ uw_X9_behindAgain_f40) (fun _ h9 => h9) rfl dX9_behindAgain_32 ?_
      refine lv_aload_n hx hb dX9_behindAgain_35 rfl (lv_at hl 0 rfl) ?_
      refine va_get (D := (dC, dI)) (ci := 9) (v := .ref a0_first) (C := RX9) (T := TX9) (N := 12) hx hb hts ui_X9_behindAgain_X9 hown hK hP 0 rfl rfl 1 (by decide) (hts _ uw_X9_behindAgain_f15) (fun _ h9 => h9) rfl dX9_behindAgain_36 ?_
      refine lv_iload_n hx hb dX9_behindAgain_39 rfl (lv_at hl 1 rfl) ?_
      obtain ⟨hi9, hw⟩ := hw
      refine va_iald hx hb hK hP 1 1 rfl rfl hi9 dX9_behindAgain_40 ?_
      refine lv_topi (fun x4 ex4 => ?_)
      have hw := hw x4 ex4
      obtain ⟨hi9, hw⟩ := hw
      refine va_iast hx hb hK hP hD hS 2 1 rfl rfl hi9 dX9_behindAgain_41 (fun H locs hP hD hS => ?_)
      obtain ⟨f5, ef5⟩ : ∃ y : Nat → Int32, y = upd f0_rounds v0_open.toNatClampNeg x4 := ⟨_, rfl⟩
      have hw := hw f5 ef5
      have hP : va_P (dC, dI) vwCl [(a0, .inr (9, [z0_kinds, .ref a0_first, .ref a0_second, z0_third, z0_heads, .ref a0_rounds, z0_length, .int v0_open, z0_hares, z0_forms, z0_done, z0_refused])), (a0_first, .inl (cyI, 50, .inl f0_first)), (a0_rounds, .inl (cyI, 6, .inl f5)), (a0_second, .inl (cyI, 50, .inl f0_second))] H := by rw [ef5]; exact hP
      have hD : va_D A [(a0, .inr (9, [z0_kinds, .ref a0_first, .ref a0_second, z0_third, z0_heads, .ref a0_rounds, z0_length, .int v0_open, z0_hares, z0_forms, z0_done, z0_refused])), (a0_first, .inl (cyI, 50, .inl f0_first)), (a0_rounds, .inl (cyI, 6, .inl f5)), (a0_second, .inl (cyI, 50, .inl f0_second))] := by rw [ef5]; exact hD
      refine lv_aload_n hx hb dX9_behindAgain_42 rfl (lv_at hl 0 rfl) ?_
      refine lv_dup hx hb dX9_behindAgain_43 rfl ?_
      refine va_get (D := (dC, dI)) (ci := 9) (v := .int v0_open) (C := RX9) (T := TX9) (N := 12) hx hb hts ui_X9_behindAgain_X9 hown hK hP 0 rfl rfl 7 (by decide) (hts _ uw_X9_behindAgain_f40) (fun _ h9 => h9) rfl dX9_behindAgain_44 ?_
      refine lv_iconst (v := 1) hx hb dX9_behindAgain_47 (by decide) ?_
      refine lv_iadd hx hb dX9_behindAgain_48 ?_
      refine lv_topi (fun x6 ex6 => ?_)
      have hw := hw x6 ex6
      refine va_put (D := (dC, dI)) (ci := 9) (v := .int x6) (ty := .int) (C := RX9) (T := TX9) (N := 12) hx hb hts ui_X9_behindAgain_X9 tyX9 tyX9_ok nmX9 hown hK hP hD hS 0 rfl rfl 7 (by decide) (hts _ uw_X9_behindAgain_f40) (fun _ h9 => h9) rfl (by decide +kernel) rfl rfl (Nat.le_of_ble_eq_true rfl) dX9_behindAgain_49 (fun H locs hP hD hS => ?_)
      have hP : va_P (dC, dI) vwCl [(a0, .inr (9, [z0_kinds, .ref a0_first, .ref a0_second, z0_third, z0_heads, .ref a0_rounds, z0_length, .int x6, z0_hares, z0_forms, z0_done, z0_refused])), (a0_first, .inl (cyI, 50, .inl f0_first)), (a0_rounds, .inl (cyI, 6, .inl f5)), (a0_second, .inl (cyI, 50, .inl f0_second))] H := hP
      have hD : va_D A [(a0, .inr (9, [z0_kinds, .ref a0_first, .ref a0_second, z0_third, z0_heads, .ref a0_rounds, z0_length, .int x6, z0_hares, z0_forms, z0_done, z0_refused])), (a0_first, .inl (cyI, 50, .inl f0_first)), (a0_rounds, .inl (cyI, 6, .inl f5)), (a0_second, .inl (cyI, 50, .inl f0_second))] := hD
      refine lv_iload_n hx hb dX9_behindAgain_52 rfl (lv_at hl 1 rfl) ?_
      refine lv_iconst (v := 1) hx hb dX9_behindAgain_53 (by decide) ?_
      refine lv_iadd hx hb dX9_behindAgain_54 ?_
      exact ((W.iret (v := (p1 + 1)) hx hb hr (fun t ht hW => ⟨⟨(p1 + 1), (f5, x6), rfl, hw, by rw [ht]; exact hP, va_K.moved hW.alike hK, hD⟩, hS.F ht⟩) hS.2.2 dX9_behindAgain_55))
    · have hw := hw.2 c3
      exact kb_X9_behindAgain_18 dC dI cyB cyI cyJ cyP a0 a0_first a0_rounds a0_second z0_kinds z0_third z0_heads z0_length z0_hares z0_forms z0_done z0_refused f0_first f0_second Q  C0 _ _ _ f0_rounds v0_open p1 hP hD hS (lv_sub hl [0, 1] rfl) hw
theorem ui_X1_isCaught_X1 : ∀ w ∈ u_ws RX1 TX1 4, w ∈ wsX1_isCaught := by decide +kernel
theorem uw_X1_isCaught_f13 : (.fieldLink RX1 13 "MarchHares$Days" "row" "[I" : Cond) ∈ wsX1_isCaught := by decide +kernel
def wq_X1_isCaught (f0_row : Nat → Int32)  (p1 : Int32) (Q : Int32 → Prop) : Prop := ∀ x1 : Int32, x1 = f0_row (2 : Int32).toNatClampNeg → ((¬ ((x1 >>> (p1 &&& 31)) &&& 1) = 1 → (Q 0)) ∧ (((x1 >>> (p1 &&& 31)) &&& 1) = 1 → (Q 1)))
set_option maxHeartbeats 4000000 in
set_option maxRecDepth 100000 in
theorem ck_X1_isCaught (l : Launch) (dC : Nat → ClassId) (dI : Nat → Nat → Nat) (cyB cyI cyJ cyP : ClassId) (a0 a0_row : Nat) (sz : Nat) (z0_owedEach : Value) (z0_down : Value) (z0_law : Value) (f0_row : Nat → Int32)  (p1 : Int32) {Q : Int32 → Prop} (hw : wq_X1_isCaught f0_row  p1 Q) : Met l yX1_isCaught wsX1_isCaught ({ frames := 0, cells := 0, slots := 0, locals := 0 }) (va_Pc [.ref a0, .int p1] (cPc (dC, dI) (kT cyB cyI cyJ cyP) [(a0, .inr (1, [.ref a0_row, z0_owedEach, z0_down, z0_law])), (a0_row, .inl (cyI, 64, .inl f0_row))] sz)) (va_Qi (fun (r : Int32) (_ : Unit) => Q r ) (cB (dC, dI) (kT cyB cyI cyJ cyP) (va_A [(a0, .inr (1, [.ref a0_row, z0_owedEach, z0_down, z0_law])), (a0_row, .inl (cyI, 64, .inl f0_row))] sz) (fun u : Unit => ([(a0, .inr (1, [.ref a0_row, z0_owedEach, z0_down, z0_law])), (a0_row, .inl (cyI, 64, .inl f0_row))] : va_W))) (va_A [(a0, .inr (1, [.ref a0_row, z0_owedEach, z0_down, z0_law])), (a0_row, .inl (cyI, 64, .inl f0_row))] sz)) 0 0 (va_A [(a0, .inr (1, [.ref a0_row, z0_owedEach, z0_down, z0_law])), (a0_row, .inl (cyI, 64, .inl f0_row))] sz) := by
  refine Met.ofW (cc := cX1_isCaught) (maxL := 2) (ret := (some .boolean)) (by decide) rfl ?_
  intro p e s m args below meth c s₁ B hml hv
  obtain ⟨rfl, hsz, hP, hK, hD0, hNw⟩ := hv
  have hx := B.exec
  have hb := B.bytes
  have hr := B.returns
  have hts := atoms_spec (ws := wsX1_isCaught) B.pre
  have hown : s.vm.findClass RX1 = some m.cls := findClass_of_methodNamed B.named
  have hlocks := B.notSynchronized
  subst hsz
  have hD := hD0.self (sz := s.heap.size)
  generalize hAe : va_A [(a0, .inr (1, [.ref a0_row, z0_owedEach, z0_down, z0_law])), (a0_row, .inl (cyI, 64, .inl f0_row))] s.heap.size = A at hD ⊢
  have hA : ∀ q : Nat, s.heap.size ≤ q → A q := fun q h => by rw [← hAe]; exact Or.inr h
  have hS : va_S A s.heap s.heap [] := va_S.rf
  have hP : va_P (dC, dI) vwCl [(a0, .inr (1, [.ref a0_row, z0_owedEach, z0_down, z0_law])), (a0_row, .inl (cyI, 64, .inl f0_row))] s.heap := hP
  have hl := lv_entry ([.ref a0, .int p1]) (n := 2) (Nat.le_of_ble_eq_true rfl)
  rw [lg_entry_eq]
  generalize (lg_sl ([.ref a0, .int p1]) ++ List.replicate (2 - (lg_sl ([.ref a0, .int p1])).length) Slot.unset).toArray = ls at hl ⊢
  have hl : lv_has ls 2 [(0, .ref a0), (1, .int p1)] := hl
  have C0 : cfx p s m _ meth c cX1_isCaught (some .boolean) wsX1_isCaught RX1 2 A (dC, dI) (kT cyB cyI cyJ cyP) := ⟨hx, hb, hr, hts, hown, hlocks, hml, hA, hK, hNw⟩
  clear hAe
  obtain ⟨H, hH⟩ : ∃ H, H = s.heap := ⟨_, rfl⟩
  rw [← hH] at hP ⊢
  have hS : va_S A s.heap H [] := by rw [hH]; exact va_S.rf
  have hS := hS
  refine lv_aload_n hx hb dX1_isCaught_0 rfl (lv_at hl 0 rfl) ?_
  refine va_get (D := (dC, dI)) (ci := 1) (v := .ref a0_row) (C := RX1) (T := TX1) (N := 4) hx hb hts ui_X1_isCaught_X1 hown hK hP 0 rfl rfl 0 (by decide) (hts _ uw_X1_isCaught_f13) (fun _ h9 => h9) rfl dX1_isCaught_1 ?_
  refine lv_iconst (v := 2) hx hb dX1_isCaught_4 (by decide) ?_
  refine va_iald hx hb hK hP 1 1 rfl rfl (vin (by decide)) dX1_isCaught_5 ?_
  refine lv_topi (fun x1 ex1 => ?_)
  have hw := hw x1 ex1
  refine lv_iload_n hx hb dX1_isCaught_6 rfl (lv_at hl 1 rfl) ?_
  refine lv_ishr hx hb dX1_isCaught_7 ?_
  refine lv_iconst (v := 1) hx hb dX1_isCaught_8 (by decide) ?_
  refine lv_iand hx hb dX1_isCaught_9 ?_
  refine lv_iconst (v := 1) hx hb dX1_isCaught_10 (by decide) ?_
  refine lv_icmp_ne (tgt := 18) hx hb dX1_isCaught_11 (by decide) (fun c2 => ?_) (fun c2 => ?_)
  · have hw := hw.1 c2
    refine lv_iconst (v := 0) hx hb dX1_isCaught_18 (by decide) ?_
    exact ((W.zret (v := 0) hx hb hr rfl (fun t ht hW => ⟨⟨0, (), rfl, hw, by rw [ht]; exact hP, va_K.moved hW.alike hK, hD⟩, hS.F ht⟩) hS.2.2 dX1_isCaught_19))
  · have hw := hw.2 c2
    refine lv_iconst (v := 1) hx hb dX1_isCaught_14 (by decide) ?_
    refine lv_goto (tgt := 19) hx hb dX1_isCaught_15 (by decide) ?_
    exact ((W.zret (v := 1) hx hb hr rfl (fun t ht hW => ⟨⟨1, (), rfl, hw, by rw [ht]; exact hP, va_K.moved hW.alike hK, hD⟩, hS.F ht⟩) hS.2.2 dX1_isCaught_19))
theorem ui_X1_sits_X1 : ∀ w ∈ u_ws RX1 TX1 4, w ∈ wsX1_sits := by decide +kernel
theorem uw_X1_sits_f13 : (.fieldLink RX1 13 "MarchHares$Days" "row" "[I" : Cond) ∈ wsX1_sits := by decide +kernel
def wq_X1_sits (f0_row : Nat → Int32)  (p1 : Int32) (Q : Int32 → Prop) : Prop := ∀ x1 : Int32, x1 = 4 + p1 → vp_in x1 64 ∧ ∀ x2 : Int32, x2 = f0_row x1.toNatClampNeg → (Q x2)
set_option maxHeartbeats 4000000 in
set_option maxRecDepth 100000 in
theorem ck_X1_sits (l : Launch) (dC : Nat → ClassId) (dI : Nat → Nat → Nat) (cyB cyI cyJ cyP : ClassId) (a0 a0_row : Nat) (sz : Nat) (z0_owedEach : Value) (z0_down : Value) (z0_law : Value) (f0_row : Nat → Int32)  (p1 : Int32) {Q : Int32 → Prop} (hw : wq_X1_sits f0_row  p1 Q) : Met l yX1_sits wsX1_sits ({ frames := 0, cells := 0, slots := 0, locals := 0 }) (va_Pc [.ref a0, .int p1] (cPc (dC, dI) (kT cyB cyI cyJ cyP) [(a0, .inr (1, [.ref a0_row, z0_owedEach, z0_down, z0_law])), (a0_row, .inl (cyI, 64, .inl f0_row))] sz)) (va_Qi (fun (r : Int32) (_ : Unit) => Q r ) (cB (dC, dI) (kT cyB cyI cyJ cyP) (va_A [(a0, .inr (1, [.ref a0_row, z0_owedEach, z0_down, z0_law])), (a0_row, .inl (cyI, 64, .inl f0_row))] sz) (fun u : Unit => ([(a0, .inr (1, [.ref a0_row, z0_owedEach, z0_down, z0_law])), (a0_row, .inl (cyI, 64, .inl f0_row))] : va_W))) (va_A [(a0, .inr (1, [.ref a0_row, z0_owedEach, z0_down, z0_law])), (a0_row, .inl (cyI, 64, .inl f0_row))] sz)) 0 0 (va_A [(a0, .inr (1, [.ref a0_row, z0_owedEach, z0_down, z0_law])), (a0_row, .inl (cyI, 64, .inl f0_row))] sz) := by
  refine Met.ofW (cc := cX1_sits) (maxL := 2) (ret := (some .int)) (by decide) rfl ?_
  intro p e s m args below meth c s₁ B hml hv
  obtain ⟨rfl, hsz, hP, hK, hD0, hNw⟩ := hv
  have hx := B.exec
  have hb := B.bytes
  have hr := B.returns
  have hts := atoms_spec (ws := wsX1_sits) B.pre
  have hown : s.vm.findClass RX1 = some m.cls := findClass_of_methodNamed B.named
  have hlocks := B.notSynchronized
  subst hsz
  have hD := hD0.self (sz := s.heap.size)
  generalize hAe : va_A [(a0, .inr (1, [.ref a0_row, z0_owedEach, z0_down, z0_law])), (a0_row, .inl (cyI, 64, .inl f0_row))] s.heap.size = A at hD ⊢
  have hA : ∀ q : Nat, s.heap.size ≤ q → A q := fun q h => by rw [← hAe]; exact Or.inr h
  have hS : va_S A s.heap s.heap [] := va_S.rf
  have hP : va_P (dC, dI) vwCl [(a0, .inr (1, [.ref a0_row, z0_owedEach, z0_down, z0_law])), (a0_row, .inl (cyI, 64, .inl f0_row))] s.heap := hP
  have hl := lv_entry ([.ref a0, .int p1]) (n := 2) (Nat.le_of_ble_eq_true rfl)
  rw [lg_entry_eq]
  generalize (lg_sl ([.ref a0, .int p1]) ++ List.replicate (2 - (lg_sl ([.ref a0, .int p1])).length) Slot.unset).toArray = ls at hl ⊢
  have hl : lv_has ls 2 [(0, .ref a0), (1, .int p1)] := hl
  have C0 : cfx p s m _ meth c cX1_sits (some .int) wsX1_sits RX1 2 A (dC, dI) (kT cyB cyI cyJ cyP) := ⟨hx, hb, hr, hts, hown, hlocks, hml, hA, hK, hNw⟩
  clear hAe
  obtain ⟨H, hH⟩ : ∃ H, H = s.heap := ⟨_, rfl⟩
  rw [← hH] at hP ⊢
  have hS : va_S A s.heap H [] := by rw [hH]; exact va_S.rf
  have hS := hS
  refine lv_aload_n hx hb dX1_sits_0 rfl (lv_at hl 0 rfl) ?_
  refine va_get (D := (dC, dI)) (ci := 1) (v := .ref a0_row) (C := RX1) (T := TX1) (N := 4) hx hb hts ui_X1_sits_X1 hown hK hP 0 rfl rfl 0 (by decide) (hts _ uw_X1_sits_f13) (fun _ h9 => h9) rfl dX1_sits_1 ?_
  refine lv_iconst (v := 4) hx hb dX1_sits_4 (by decide) ?_
  refine lv_iload_n hx hb dX1_sits_5 rfl (lv_at hl 1 rfl) ?_
  refine lv_iadd hx hb dX1_sits_6 ?_
  refine lv_topi (fun x1 ex1 => ?_)
  have hw := hw x1 ex1
  obtain ⟨hi9, hw⟩ := hw
  refine va_iald hx hb hK hP 1 1 rfl rfl hi9 dX1_sits_7 ?_
  refine lv_topi (fun x2 ex2 => ?_)
  have hw := hw x2 ex2
  exact ((W.iret (v := x2) hx hb hr (fun t ht hW => ⟨⟨x2, (), rfl, hw, by rw [ht]; exact hP, va_K.moved hW.alike hK, hD⟩, hS.F ht⟩) hS.2.2 dX1_sits_8))
theorem ui_X2_apart_X2 : ∀ w ∈ u_ws RX2 TX2 12, w ∈ wsX2_apart := by decide +kernel
theorem uw_X2_apart_f15 : (.fieldLink RX2 15 "MarchHares$Down" "formY" "[I" : Cond) ∈ wsX2_apart := by decide +kernel
theorem uw_X2_apart_f9 : (.fieldLink RX2 9 "MarchHares$Down" "formX" "[I" : Cond) ∈ wsX2_apart := by decide +kernel
theorem uw_X2_apart_inim : (.initialized "java/lang/Math" : Cond) ∈ wsX2_apart := by decide +kernel
theorem uw_X2_apart_m108 : (.methodLink RX2 108 Lib.Math.abs.name : Cond) ∈ wsX2_apart := by decide +kernel
theorem uw_X2_apart_mcabs : (.code Lib.Math.abs.name Lib.Math.abs.code 1 (some .int) : Cond) ∈ wsX2_apart := by decide +kernel
theorem uw_X2_apart_msabs : (.static Lib.Math.abs.name : Cond) ∈ wsX2_apart := by decide +kernel
def wq_X2_apart (f0_formX : Nat → Int32) (f0_formY : Nat → Int32)  (p1 : Int32) (p2 : Int32) (Q : Int32 → Prop) : Prop := vp_in p1 8 ∧ ∀ x1 : Int32, x1 = f0_formX p1.toNatClampNeg → vp_in p2 8 ∧ ∀ x2 : Int32, x2 = f0_formX p2.toNatClampNeg → ∀ x3 : Int32, x3 = (if 0 ≤ x1 - x2 then x1 - x2 else 0 - (x1 - x2)) → vp_in p1 8 ∧ ∀ x4 : Int32, x4 = f0_formY p1.toNatClampNeg → vp_in p2 8 ∧ ∀ x5 : Int32, x5 = f0_formY p2.toNatClampNeg → ∀ x6 : Int32, x6 = (if 0 ≤ x4 - x5 then x4 - x5 else 0 - (x4 - x5)) → (Q (x3 + x6))
set_option maxHeartbeats 4000000 in
set_option maxRecDepth 100000 in
theorem ck_X2_apart (l : Launch) (dC : Nat → ClassId) (dI : Nat → Nat → Nat) (cyB cyI cyJ cyP : ClassId) (a0 a0_formX a0_formY : Nat) (sz : Nat) (z0_foxX : Value) (z0_foxY : Value) (z0_seat : Value) (z0_strength : Value) (z0_debts : Value) (z0_near : Value) (z0_forms : Value) (z0_hares : Value) (z0_foxes : Value) (z0_safe : Value) (f0_formX : Nat → Int32) (f0_formY : Nat → Int32)  (p1 : Int32) (p2 : Int32) {Q : Int32 → Prop} (hw : wq_X2_apart f0_formX f0_formY  p1 p2 Q) : Met l yX2_apart wsX2_apart ({ frames := 1, cells := 0, slots := 0, locals := 32 }) (va_Pc [.ref a0, .int p1, .int p2] (cPc (dC, dI) (kT cyB cyI cyJ cyP) [(a0, .inr (2, [.ref a0_formX, .ref a0_formY, z0_foxX, z0_foxY, z0_seat, z0_strength, z0_debts, z0_near, z0_forms, z0_hares, z0_foxes, z0_safe])), (a0_formX, .inl (cyI, 8, .inl f0_formX)), (a0_formY, .inl (cyI, 8, .inl f0_formY))] sz)) (va_Qi (fun (r : Int32) (_ : Unit) => Q r ) (cB (dC, dI) (kT cyB cyI cyJ cyP) (va_A [(a0, .inr (2, [.ref a0_formX, .ref a0_formY, z0_foxX, z0_foxY, z0_seat, z0_strength, z0_debts, z0_near, z0_forms, z0_hares, z0_foxes, z0_safe])), (a0_formX, .inl (cyI, 8, .inl f0_formX)), (a0_formY, .inl (cyI, 8, .inl f0_formY))] sz) (fun u : Unit => ([(a0, .inr (2, [.ref a0_formX, .ref a0_formY, z0_foxX, z0_foxY, z0_seat, z0_strength, z0_debts, z0_near, z0_forms, z0_hares, z0_foxes, z0_safe])), (a0_formX, .inl (cyI, 8, .inl f0_formX)), (a0_formY, .inl (cyI, 8, .inl f0_formY))] : va_W))) (va_A [(a0, .inr (2, [.ref a0_formX, .ref a0_formY, z0_foxX, z0_foxY, z0_seat, z0_strength, z0_debts, z0_near, z0_forms, z0_hares, z0_foxes, z0_safe])), (a0_formX, .inl (cyI, 8, .inl f0_formX)), (a0_formY, .inl (cyI, 8, .inl f0_formY))] sz)) 0 0 (va_A [(a0, .inr (2, [.ref a0_formX, .ref a0_formY, z0_foxX, z0_foxY, z0_seat, z0_strength, z0_debts, z0_near, z0_forms, z0_hares, z0_foxes, z0_safe])), (a0_formX, .inl (cyI, 8, .inl f0_formX)), (a0_formY, .inl (cyI, 8, .inl f0_formY))] sz) := by
  refine Met.ofW (cc := cX2_apart) (maxL := 3) (ret := (some .int)) (by decide) rfl ?_
  intro p e s m args below meth c s₁ B hml hv
  obtain ⟨rfl, hsz, hP, hK, hD0, hNw⟩ := hv
  have hx := B.exec
  have hb := B.bytes
  have hr := B.returns
  have hts := atoms_spec (ws := wsX2_apart) B.pre
  have hown : s.vm.findClass RX2 = some m.cls := findClass_of_methodNamed B.named
  have hlocks := B.notSynchronized
  subst hsz
  have hD := hD0.self (sz := s.heap.size)
  generalize hAe : va_A [(a0, .inr (2, [.ref a0_formX, .ref a0_formY, z0_foxX, z0_foxY, z0_seat, z0_strength, z0_debts, z0_near, z0_forms, z0_hares, z0_foxes, z0_safe])), (a0_formX, .inl (cyI, 8, .inl f0_formX)), (a0_formY, .inl (cyI, 8, .inl f0_formY))] s.heap.size = A at hD ⊢
  have hA : ∀ q : Nat, s.heap.size ≤ q → A q := fun q h => by rw [← hAe]; exact Or.inr h
  have hS : va_S A s.heap s.heap [] := va_S.rf
  have hP : va_P (dC, dI) vwCl [(a0, .inr (2, [.ref a0_formX, .ref a0_formY, z0_foxX, z0_foxY, z0_seat, z0_strength, z0_debts, z0_near, z0_forms, z0_hares, z0_foxes, z0_safe])), (a0_formX, .inl (cyI, 8, .inl f0_formX)), (a0_formY, .inl (cyI, 8, .inl f0_formY))] s.heap := hP
  have hl := lv_entry ([.ref a0, .int p1, .int p2]) (n := 3) (Nat.le_of_ble_eq_true rfl)
  rw [lg_entry_eq]
  generalize (lg_sl ([.ref a0, .int p1, .int p2]) ++ List.replicate (3 - (lg_sl ([.ref a0, .int p1, .int p2])).length) Slot.unset).toArray = ls at hl ⊢
  have hl : lv_has ls 3 [(0, .ref a0), (1, .int p1), (2, .int p2)] := hl
  have C0 : cfx p s m _ meth c cX2_apart (some .int) wsX2_apart RX2 3 A (dC, dI) (kT cyB cyI cyJ cyP) := ⟨hx, hb, hr, hts, hown, hlocks, hml, hA, hK, hNw⟩
  clear hAe
  obtain ⟨H, hH⟩ : ∃ H, H = s.heap := ⟨_, rfl⟩
  rw [← hH] at hP ⊢
  have hS : va_S A s.heap H [] := by rw [hH]; exact va_S.rf
  have hS := hS
  refine lv_aload_n hx hb dX2_apart_0 rfl (lv_at hl 0 rfl) ?_
  refine va_get (D := (dC, dI)) (ci := 2) (v := .ref a0_formX) (C := RX2) (T := TX2) (N := 12) hx hb hts ui_X2_apart_X2 hown hK hP 0 rfl rfl 0 (by decide) (hts _ uw_X2_apart_f9) (fun _ h9 => h9) rfl dX2_apart_1 ?_
  refine lv_iload_n hx hb dX2_apart_4 rfl (lv_at hl 1 rfl) ?_
  obtain ⟨hi9, hw⟩ := hw
  refine va_iald hx hb hK hP 1 1 rfl rfl hi9 dX2_apart_5 ?_
  refine lv_topi (fun x1 ex1 => ?_)
  have hw := hw x1 ex1
  refine lv_aload_n hx hb dX2_apart_6 rfl (lv_at hl 0 rfl) ?_
  refine va_get (D := (dC, dI)) (ci := 2) (v := .ref a0_formX) (C := RX2) (T := TX2) (N := 12) hx hb hts ui_X2_apart_X2 hown hK hP 0 rfl rfl 0 (by decide) (hts _ uw_X2_apart_f9) (fun _ h9 => h9) rfl dX2_apart_7 ?_
  refine lv_iload_n hx hb dX2_apart_10 rfl (lv_at hl 2 rfl) ?_
  obtain ⟨hi9, hw⟩ := hw
  refine va_iald hx hb hK hP 1 1 rfl rfl hi9 dX2_apart_11 ?_
  refine lv_topi (fun x2 ex2 => ?_)
  have hw := hw x2 ex2
  refine lv_isub hx hb dX2_apart_12 ?_
  refine va_mabs hx hb (by rw [hml]; exact hl.1.symm) hown (hts _ uw_X2_apart_m108) (hts _ uw_X2_apart_msabs) (hts _ uw_X2_apart_inim) (hts _ uw_X2_apart_mcabs) (Nat.le_of_ble_eq_true rfl) (Nat.le_of_ble_eq_true rfl) (Nat.le_of_ble_eq_true rfl) (Nat.le_of_ble_eq_true rfl) dX2_apart_13 ?_
  refine lv_topi (fun x3 ex3 => ?_)
  have hw := hw x3 ex3
  refine lv_aload_n hx hb dX2_apart_16 rfl (lv_at hl 0 rfl) ?_
  refine va_get (D := (dC, dI)) (ci := 2) (v := .ref a0_formY) (C := RX2) (T := TX2) (N := 12) hx hb hts ui_X2_apart_X2 hown hK hP 0 rfl rfl 1 (by decide) (hts _ uw_X2_apart_f15) (fun _ h9 => h9) rfl dX2_apart_17 ?_
  refine lv_iload_n hx hb dX2_apart_20 rfl (lv_at hl 1 rfl) ?_
  obtain ⟨hi9, hw⟩ := hw
  refine va_iald hx hb hK hP 2 1 rfl rfl hi9 dX2_apart_21 ?_
  refine lv_topi (fun x4 ex4 => ?_)
  have hw := hw x4 ex4
  refine lv_aload_n hx hb dX2_apart_22 rfl (lv_at hl 0 rfl) ?_
  refine va_get (D := (dC, dI)) (ci := 2) (v := .ref a0_formY) (C := RX2) (T := TX2) (N := 12) hx hb hts ui_X2_apart_X2 hown hK hP 0 rfl rfl 1 (by decide) (hts _ uw_X2_apart_f15) (fun _ h9 => h9) rfl dX2_apart_23 ?_
  refine lv_iload_n hx hb dX2_apart_26 rfl (lv_at hl 2 rfl) ?_
  obtain ⟨hi9, hw⟩ := hw
  refine va_iald hx hb hK hP 2 1 rfl rfl hi9 dX2_apart_27 ?_
  refine lv_topi (fun x5 ex5 => ?_)
  have hw := hw x5 ex5
  refine lv_isub hx hb dX2_apart_28 ?_
  refine va_mabs hx hb (by rw [hml]; exact hl.1.symm) hown (hts _ uw_X2_apart_m108) (hts _ uw_X2_apart_msabs) (hts _ uw_X2_apart_inim) (hts _ uw_X2_apart_mcabs) (Nat.le_of_ble_eq_true rfl) (Nat.le_of_ble_eq_true rfl) (Nat.le_of_ble_eq_true rfl) (Nat.le_of_ble_eq_true rfl) dX2_apart_29 ?_
  refine lv_topi (fun x6 ex6 => ?_)
  have hw := hw x6 ex6
  refine lv_iadd hx hb dX2_apart_32 ?_
  exact ((W.iret (v := (x3 + x6)) hx hb hr (fun t ht hW => ⟨⟨(x3 + x6), (), rfl, hw, by rw [ht]; exact hP, va_K.moved hW.alike hK, hD⟩, hS.F ht⟩) hS.2.2 dX2_apart_33))
theorem ui_X1_seatedIn_X1 : ∀ w ∈ u_ws RX1 TX1 4, w ∈ wsX1_seatedIn := by decide +kernel
theorem ui_X1_seatedIn_X2 : ∀ w ∈ u_ws RX2 TX2 12, w ∈ wsX1_seatedIn := by decide +kernel
theorem uw_X1_seatedIn_f24 : (.fieldLink RX1 24 "MarchHares$Days" "down" "LMarchHares$Down;" : Cond) ∈ wsX1_seatedIn := by decide +kernel
theorem uw_X1_seatedIn_f32 : (.fieldLink RX1 32 "MarchHares$Down" "hares" "I" : Cond) ∈ wsX1_seatedIn := by decide +kernel
def wb_X1_seatedIn_38 (v0_down_hares : Int32) (f0_row : Nat → Int32) (Q : Int32 → Prop) (K4 : Int32 → Int32 → Int32 → Prop) (l1 : Int32) (l2 : Int32) (l3 : Int32) : Prop := ∀ x7 : Int32, x7 = l3 + 1 → (K4 l1 l2 x7)
set_option maxHeartbeats 4000000 in
set_option maxRecDepth 100000 in
theorem kb_X1_seatedIn_38 {p : Program} {l : Launch} {e : Env} {s : State} {m : MethodId} {args : Array Value} {below : List Frame} {meth : Method} {c : Code} {A : Nat → Prop} (dC : Nat → ClassId) (dI : Nat → Nat → Nat) (cyB cyI cyJ cyP : ClassId) (a0 a0_down a0_row : Nat) (z0_owedEach : Value) (z0_law : Value) (z0_down_formX : Value) (z0_down_formY : Value) (z0_down_foxX : Value) (z0_down_foxY : Value) (z0_down_seat : Value) (z0_down_strength : Value) (z0_down_debts : Value) (z0_down_near : Value) (z0_down_forms : Value) (z0_down_foxes : Value) (z0_down_safe : Value) (v0_down_hares : Int32) (f0_row : Nat → Int32) (Q : Int32 → Prop) (K4 : Int32 → Int32 → Int32 → Prop) (hK4 : ∀ (H : Heap) (locs : List Loc) (ls : Array Slot) (l1 : Int32) (l2 : Int32) (l3 : Int32), va_P (dC, dI) vwCl [(a0, .inr (1, [.ref a0_row, z0_owedEach, .ref a0_down, z0_law])), (a0_down, .inr (2, [z0_down_formX, z0_down_formY, z0_down_foxX, z0_down_foxY, z0_down_seat, z0_down_strength, z0_down_debts, z0_down_near, z0_down_forms, .int v0_down_hares, z0_down_foxes, z0_down_safe])), (a0_row, .inl (cyI, 64, .inl f0_row))] H → va_D A [(a0, .inr (1, [.ref a0_row, z0_owedEach, .ref a0_down, z0_law])), (a0_down, .inr (2, [z0_down_formX, z0_down_formY, z0_down_foxX, z0_down_foxY, z0_down_seat, z0_down_strength, z0_down_debts, z0_down_near, z0_down_forms, .int v0_down_hares, z0_down_foxes, z0_down_safe])), (a0_row, .inl (cyI, 64, .inl f0_row))] → va_S A s.heap H locs → lv_has ls 4 [(0, .ref a0), (1, .int l1), (2, .int l2), (3, .int l3)] → K4 l1 l2 l3 → W p l e (headSpec wsX1_seatedIn ({ frames := 1, cells := 0, slots := 0, locals := 21 })).room s m args below meth c H locs 0 0 (MQ below (va_Qi (fun (r : Int32) (_ : Unit) => Q r ) (cB (dC, dI) (kT cyB cyI cyJ cyP) A (fun u : Unit => ([(a0, .inr (1, [.ref a0_row, z0_owedEach, .ref a0_down, z0_law])), (a0_down, .inr (2, [z0_down_formX, z0_down_formY, z0_down_foxX, z0_down_foxY, z0_down_seat, z0_down_strength, z0_down_debts, z0_down_near, z0_down_forms, .int v0_down_hares, z0_down_foxes, z0_down_safe])), (a0_row, .inl (cyI, 64, .inl f0_row))] : va_W))) A) args s 0 0 A) (F0 m 4 ls [])) (C0 : cfx p s m args meth c cX1_seatedIn (some .int) wsX1_seatedIn RX1 4 A (dC, dI) (kT cyB cyI cyJ cyP)) : ∀ (H : Heap) (locs : List Loc) (ls : Array Slot) (l1 : Int32) (l2 : Int32) (l3 : Int32), va_P (dC, dI) vwCl [(a0, .inr (1, [.ref a0_row, z0_owedEach, .ref a0_down, z0_law])), (a0_down, .inr (2, [z0_down_formX, z0_down_formY, z0_down_foxX, z0_down_foxY, z0_down_seat, z0_down_strength, z0_down_debts, z0_down_near, z0_down_forms, .int v0_down_hares, z0_down_foxes, z0_down_safe])), (a0_row, .inl (cyI, 64, .inl f0_row))] H → va_D A [(a0, .inr (1, [.ref a0_row, z0_owedEach, .ref a0_down, z0_law])), (a0_down, .inr (2, [z0_down_formX, z0_down_formY, z0_down_foxX, z0_down_foxY, z0_down_seat, z0_down_strength, z0_down_debts, z0_down_near, z0_down_forms, .int v0_down_hares, z0_down_foxes, z0_down_safe])), (a0_row, .inl (cyI, 64, .inl f0_row))] → va_S A s.heap H locs → lv_has ls 4 [(0, .ref a0), (1, .int l1), (2, .int l2), (3, .int l3)] → wb_X1_seatedIn_38 v0_down_hares f0_row Q K4 l1 l2 l3 → W p l e (headSpec wsX1_seatedIn ({ frames := 1, cells := 0, slots := 0, locals := 21 })).room s m args below meth c H locs 0 0 (MQ below (va_Qi (fun (r : Int32) (_ : Unit) => Q r ) (cB (dC, dI) (kT cyB cyI cyJ cyP) A (fun u : Unit => ([(a0, .inr (1, [.ref a0_row, z0_owedEach, .ref a0_down, z0_law])), (a0_down, .inr (2, [z0_down_formX, z0_down_formY, z0_down_foxX, z0_down_foxY, z0_down_seat, z0_down_strength, z0_down_debts, z0_down_near, z0_down_forms, .int v0_down_hares, z0_down_foxes, z0_down_safe])), (a0_row, .inl (cyI, 64, .inl f0_row))] : va_W))) A) args s 0 0 A) (F0 m 38 ls []) := by
  obtain ⟨hx, hb, hr, hts, hown, hlocks, hml, hA, hK, hNw⟩ := id C0
  intro H locs ls l1 l2 l3 hP hD hS hl hw
  obtain ⟨x7, ex7⟩ : ∃ y : Int32, y = l3 + 1 := ⟨_, rfl⟩
  have hw := hw x7 ex7
  refine lv_iinc (v := x7) (lv' := [(3, .int x7), (0, .ref a0), (1, .int l1), (2, .int l2)]) hx hb dX1_seatedIn_38 hl (k := 3) rfl (by rw [ex7]; rfl) (by decide) rfl (fun ls hl => ?_)
  refine lv_goto (tgt := 4) hx hb dX1_seatedIn_41 (by decide) ?_
  exact hK4 _ _ _ l1 l2 x7 hP hD hS (lv_sub hl [1, 2, 3, 0] rfl) hw
def wl_X1_seatedIn_4 (v0_down_hares : Int32) (f0_row : Nat → Int32) (Q : Int32 → Prop)  : Nat → Int32 → Int32 → Int32 → Prop
  | 0, _, _, _ => False
  | n + 1, l1, l2, l3 => ((v0_down_hares ≤ l3 → (Q l2)) ∧ (¬ v0_down_hares ≤ l3 → wq_X1_isCaught f0_row  l3 (fun r2 => ((¬ r2 = 0 → (wb_X1_seatedIn_38 v0_down_hares f0_row Q (fun l1 l2 l3 => wl_X1_seatedIn_4 v0_down_hares f0_row Q  n l1 l2 l3) l1 l2 l3)) ∧ (r2 = 0 → wq_X1_sits f0_row  l3 (fun r4 => ((¬ r4 = l1 → (wb_X1_seatedIn_38 v0_down_hares f0_row Q (fun l1 l2 l3 => wl_X1_seatedIn_4 v0_down_hares f0_row Q  n l1 l2 l3) l1 l2 l3)) ∧ (r4 = l1 → ∀ x6 : Int32, x6 = l2 ||| (1 <<< (l3 &&& 31)) → (wb_X1_seatedIn_38 v0_down_hares f0_row Q (fun l1 l2 l3 => wl_X1_seatedIn_4 v0_down_hares f0_row Q  n l1 l2 l3) l1 x6 l3)))))))))
set_option maxHeartbeats 4000000 in
set_option maxRecDepth 100000 in
theorem kl_X1_seatedIn_4 {p : Program} {l : Launch} {e : Env} {s : State} {m : MethodId} {args : Array Value} {below : List Frame} {meth : Method} {c : Code} {A : Nat → Prop} (dC : Nat → ClassId) (dI : Nat → Nat → Nat) (cyB cyI cyJ cyP : ClassId) (a0 a0_down a0_row : Nat) (z0_owedEach : Value) (z0_law : Value) (z0_down_formX : Value) (z0_down_formY : Value) (z0_down_foxX : Value) (z0_down_foxY : Value) (z0_down_seat : Value) (z0_down_strength : Value) (z0_down_debts : Value) (z0_down_near : Value) (z0_down_forms : Value) (z0_down_foxes : Value) (z0_down_safe : Value) (v0_down_hares : Int32) (f0_row : Nat → Int32) (Q : Int32 → Prop)  (C0 : cfx p s m args meth c cX1_seatedIn (some .int) wsX1_seatedIn RX1 4 A (dC, dI) (kT cyB cyI cyJ cyP)) : ∀ (n : Nat) (H : Heap) (locs : List Loc) (ls : Array Slot) (l1 : Int32) (l2 : Int32) (l3 : Int32), va_P (dC, dI) vwCl [(a0, .inr (1, [.ref a0_row, z0_owedEach, .ref a0_down, z0_law])), (a0_down, .inr (2, [z0_down_formX, z0_down_formY, z0_down_foxX, z0_down_foxY, z0_down_seat, z0_down_strength, z0_down_debts, z0_down_near, z0_down_forms, .int v0_down_hares, z0_down_foxes, z0_down_safe])), (a0_row, .inl (cyI, 64, .inl f0_row))] H → va_D A [(a0, .inr (1, [.ref a0_row, z0_owedEach, .ref a0_down, z0_law])), (a0_down, .inr (2, [z0_down_formX, z0_down_formY, z0_down_foxX, z0_down_foxY, z0_down_seat, z0_down_strength, z0_down_debts, z0_down_near, z0_down_forms, .int v0_down_hares, z0_down_foxes, z0_down_safe])), (a0_row, .inl (cyI, 64, .inl f0_row))] → va_S A s.heap H locs → lv_has ls 4 [(0, .ref a0), (1, .int l1), (2, .int l2), (3, .int l3)] → wl_X1_seatedIn_4 v0_down_hares f0_row Q  n l1 l2 l3 → W p l e (headSpec wsX1_seatedIn ({ frames := 1, cells := 0, slots := 0, locals := 21 })).room s m args below meth c H locs 0 0 (MQ below (va_Qi (fun (r : Int32) (_ : Unit) => Q r ) (cB (dC, dI) (kT cyB cyI cyJ cyP) A (fun u : Unit => ([(a0, .inr (1, [.ref a0_row, z0_owedEach, .ref a0_down, z0_law])), (a0_down, .inr (2, [z0_down_formX, z0_down_formY, z0_down_foxX, z0_down_foxY, z0_down_seat, z0_down_strength, z0_down_debts, z0_down_near, z0_down_forms, .int v0_down_hares, z0_down_foxes, z0_down_safe])), (a0_row, .inl (cyI, 64, .inl f0_row))] : va_W))) A) args s 0 0 A) (F0 m 4 ls []) := by
  obtain ⟨hx, hb, hr, hts, hown, hlocks, hml, hA, hK, hNw⟩ := id C0
  intro n
  induction n with
  | zero => intro H locs ls l1 l2 l3 hP hD hS hl hw; exact False.elim hw
  | succ n ih =>
    intro H locs ls l1 l2 l3 hP hD hS hl hw
    refine lv_iload_n hx hb dX1_seatedIn_4 rfl (lv_at hl 3 rfl) ?_
    refine lv_aload_n hx hb dX1_seatedIn_5 rfl (lv_at hl 0 rfl) ?_
    refine va_get (D := (dC, dI)) (ci := 1) (v := .ref a0_down) (C := RX1) (T := TX1) (N := 4) hx hb hts ui_X1_seatedIn_X1 hown hK hP 0 rfl rfl 2 (by decide) (hts _ uw_X1_seatedIn_f24) (fun _ h9 => h9) rfl dX1_seatedIn_6 ?_
    refine va_get (D := (dC, dI)) (ci := 2) (v := .int v0_down_hares) (C := RX2) (T := TX2) (N := 12) hx hb hts ui_X1_seatedIn_X2 hown hK hP 1 rfl rfl 9 (by decide) (hts _ uw_X1_seatedIn_f32) (fun _ h9 => h9) rfl dX1_seatedIn_9 ?_
    refine lv_icmp_ge (tgt := 44) hx hb dX1_seatedIn_12 (by decide) (fun c1 => ?_) (fun c1 => ?_)
    · have hw := hw.1 c1
      refine lv_iload_n hx hb dX1_seatedIn_44 rfl (lv_at hl 2 rfl) ?_
      exact ((W.iret (v := l2) hx hb hr (fun t ht hW => ⟨⟨l2, (), rfl, hw, by rw [ht]; exact hP, va_K.moved hW.alike hK, hD⟩, hS.F ht⟩) hS.2.2 dX1_seatedIn_45))
    · have hw := hw.2 c1
      refine lv_aload_n hx hb dX1_seatedIn_15 rfl (lv_at hl 0 rfl) ?_
      refine lv_iload_n hx hb dX1_seatedIn_16 rfl (lv_at hl 3 rfl) ?_
      have hPc := hP.sub (ws' := [(a0, .inr (1, [.ref a0_row, z0_owedEach, .ref a0_down, z0_law])), (a0_row, .inl (cyI, 64, .inl f0_row))]) [0, 2] rfl
      have hDc := hD.sub (ws' := [(a0, .inr (1, [.ref a0_row, z0_owedEach, .ref a0_down, z0_law])), (a0_row, .inl (cyI, 64, .inl f0_row))]) [0, 2] (by decide) rfl
      have hFc := va_free (wc := [(a0, .inr (1, [.ref a0_row, z0_owedEach, .ref a0_down, z0_law])), (a0_row, .inl (cyI, 64, .inl f0_row))]) hD hS hA [0, 2] rfl
      refine va_calli (va_runV (As := [.int l3]) (rest := []) ⟨hx, hb, hml, hown, hts⟩ (ck_X1_isCaught l dC dI cyB cyI cyJ cyP a0 a0_row H.size (z0_owedEach) (.ref a0_down) (z0_law) f0_row  l3 hw) (cwV 1 hts gX1_seatedIn_X1_isCaught rfl rfl rfl (by decide +kernel) ⟨Nat.le_of_ble_eq_true rfl, Nat.le_of_ble_eq_true rfl⟩) ⟨cPc_blind, va_recv hK hPc (ci := 1) (q0 := 0) rfl rfl, cPc_pre hPc hK hDc hNw⟩ rfl rfl hl.1 rfl (lv_room (Nat.le_of_ble_eq_true rfl)) dX1_seatedIn_17 ⟨Nat.le_of_ble_eq_true rfl, Nat.le_of_ble_eq_true rfl⟩) hS (fun q _ h => hFc q h) hFc (fun r2 u t H1 locs ht hvm hw hB hz1 hk1 hS => ?_)
      obtain ⟨hP1, hK1, hD1⟩ := hB
      rw [ht] at hP1
      obtain ⟨hP, hD⟩ := va_join (wr := [(a0_down, .inr (2, [z0_down_formX, z0_down_formY, z0_down_foxX, z0_down_foxY, z0_down_seat, z0_down_strength, z0_down_debts, z0_down_near, z0_down_forms, .int v0_down_hares, z0_down_foxes, z0_down_safe]))]) (w1 := [(a0, .inr (1, [.ref a0_row, z0_owedEach, .ref a0_down, z0_law])), (a0_row, .inl (cyI, 64, .inl f0_row))]) hP hD [0, 2] [1] rfl rfl (by decide) (by decide) hk1 hFc hP1 hD1
      have hP : va_P (dC, dI) vwCl [(a0, .inr (1, [.ref a0_row, z0_owedEach, .ref a0_down, z0_law])), (a0_down, .inr (2, [z0_down_formX, z0_down_formY, z0_down_foxX, z0_down_foxY, z0_down_seat, z0_down_strength, z0_down_debts, z0_down_near, z0_down_forms, .int v0_down_hares, z0_down_foxes, z0_down_safe])), (a0_row, .inl (cyI, 64, .inl f0_row))] H1 := hP.sub [1, 0, 2] rfl
      have hD : va_D A [(a0, .inr (1, [.ref a0_row, z0_owedEach, .ref a0_down, z0_law])), (a0_down, .inr (2, [z0_down_formX, z0_down_formY, z0_down_foxX, z0_down_foxY, z0_down_seat, z0_down_strength, z0_down_debts, z0_down_near, z0_down_forms, .int v0_down_hares, z0_down_foxes, z0_down_safe])), (a0_row, .inl (cyI, 64, .inl f0_row))] := hD.sub [1, 0, 2] (by decide) rfl
      generalize H1 = H at hP hS ⊢
      refine lv_if_ne (tgt := 38) hx hb dX1_seatedIn_20 (by decide) (fun c3 => ?_) (fun c3 => ?_)
      · have hw := hw.1 c3
        exact kb_X1_seatedIn_38 dC dI cyB cyI cyJ cyP a0 a0_down a0_row z0_owedEach z0_law z0_down_formX z0_down_formY z0_down_foxX z0_down_foxY z0_down_seat z0_down_strength z0_down_debts z0_down_near z0_down_forms z0_down_foxes z0_down_safe v0_down_hares f0_row Q (wl_X1_seatedIn_4 v0_down_hares f0_row Q  n) ih C0 _ _ _ l1 l2 l3 hP hD hS (lv_sub hl [0, 1, 2, 3] rfl) hw
      · have hw := hw.2 c3
        refine lv_aload_n hx hb dX1_seatedIn_23 rfl (lv_at hl 0 rfl) ?_
        refine lv_iload_n hx hb dX1_seatedIn_24 rfl (lv_at hl 3 rfl) ?_
        have hPc := hP.sub (ws' := [(a0, .inr (1, [.ref a0_row, z0_owedEach, .ref a0_down, z0_law])), (a0_row, .inl (cyI, 64, .inl f0_row))]) [0, 2] rfl
        have hDc := hD.sub (ws' := [(a0, .inr (1, [.ref a0_row, z0_owedEach, .ref a0_down, z0_law])), (a0_row, .inl (cyI, 64, .inl f0_row))]) [0, 2] (by decide) rfl
        have hFc := va_free (wc := [(a0, .inr (1, [.ref a0_row, z0_owedEach, .ref a0_down, z0_law])), (a0_row, .inl (cyI, 64, .inl f0_row))]) hD hS hA [0, 2] rfl
        refine va_calli (va_runV (As := [.int l3]) (rest := []) ⟨hx, hb, hml, hown, hts⟩ (ck_X1_sits l dC dI cyB cyI cyJ cyP a0 a0_row H.size (z0_owedEach) (.ref a0_down) (z0_law) f0_row  l3 hw) (cwV 1 hts gX1_seatedIn_X1_sits rfl rfl rfl (by decide +kernel) ⟨Nat.le_of_ble_eq_true rfl, Nat.le_of_ble_eq_true rfl⟩) ⟨cPc_blind, va_recv hK hPc (ci := 1) (q0 := 0) rfl rfl, cPc_pre hPc hK hDc hNw⟩ rfl rfl hl.1 rfl (lv_room (Nat.le_of_ble_eq_true rfl)) dX1_seatedIn_25 ⟨Nat.le_of_ble_eq_true rfl, Nat.le_of_ble_eq_true rfl⟩) hS (fun q _ h => hFc q h) hFc (fun r4 u t H1 locs ht hvm hw hB hz1 hk1 hS => ?_)
        obtain ⟨hP1, hK1, hD1⟩ := hB
        rw [ht] at hP1
        obtain ⟨hP, hD⟩ := va_join (wr := [(a0_down, .inr (2, [z0_down_formX, z0_down_formY, z0_down_foxX, z0_down_foxY, z0_down_seat, z0_down_strength, z0_down_debts, z0_down_near, z0_down_forms, .int v0_down_hares, z0_down_foxes, z0_down_safe]))]) (w1 := [(a0, .inr (1, [.ref a0_row, z0_owedEach, .ref a0_down, z0_law])), (a0_row, .inl (cyI, 64, .inl f0_row))]) hP hD [0, 2] [1] rfl rfl (by decide) (by decide) hk1 hFc hP1 hD1
        have hP : va_P (dC, dI) vwCl [(a0, .inr (1, [.ref a0_row, z0_owedEach, .ref a0_down, z0_law])), (a0_down, .inr (2, [z0_down_formX, z0_down_formY, z0_down_foxX, z0_down_foxY, z0_down_seat, z0_down_strength, z0_down_debts, z0_down_near, z0_down_forms, .int v0_down_hares, z0_down_foxes, z0_down_safe])), (a0_row, .inl (cyI, 64, .inl f0_row))] H1 := hP.sub [1, 0, 2] rfl
        have hD : va_D A [(a0, .inr (1, [.ref a0_row, z0_owedEach, .ref a0_down, z0_law])), (a0_down, .inr (2, [z0_down_formX, z0_down_formY, z0_down_foxX, z0_down_foxY, z0_down_seat, z0_down_strength, z0_down_debts, z0_down_near, z0_down_forms, .int v0_down_hares, z0_down_foxes, z0_down_safe])), (a0_row, .inl (cyI, 64, .inl f0_row))] := hD.sub [1, 0, 2] (by decide) rfl
        generalize H1 = H at hP hS ⊢
        refine lv_iload_n hx hb dX1_seatedIn_28 rfl (lv_at hl 1 rfl) ?_
        refine lv_icmp_ne (tgt := 38) hx hb dX1_seatedIn_29 (by decide) (fun c5 => ?_) (fun c5 => ?_)
        · have hw := hw.1 c5
          exact kb_X1_seatedIn_38 dC dI cyB cyI cyJ cyP a0 a0_down a0_row z0_owedEach z0_law z0_down_formX z0_down_formY z0_down_foxX z0_down_foxY z0_down_seat z0_down_strength z0_down_debts z0_down_near z0_down_forms z0_down_foxes z0_down_safe v0_down_hares f0_row Q (wl_X1_seatedIn_4 v0_down_hares f0_row Q  n) ih C0 _ _ _ l1 l2 l3 hP hD hS (lv_sub hl [0, 1, 2, 3] rfl) hw
        · have hw := hw.2 c5
          refine lv_iload_n hx hb dX1_seatedIn_32 rfl (lv_at hl 2 rfl) ?_
          refine lv_iconst (v := 1) hx hb dX1_seatedIn_33 (by decide) ?_
          refine lv_iload_n hx hb dX1_seatedIn_34 rfl (lv_at hl 3 rfl) ?_
          refine lv_ishl hx hb dX1_seatedIn_35 ?_
          refine lv_ior hx hb dX1_seatedIn_36 ?_
          refine lv_topi (fun x6 ex6 => ?_)
          have hw := hw x6 ex6
          refine lv_istore_n (lv' := [(2, .int x6), (0, .ref a0), (1, .int l1), (3, .int l3)]) hx hb dX1_seatedIn_37 rfl hl (by decide) rfl (fun ls hl => ?_)
          exact kb_X1_seatedIn_38 dC dI cyB cyI cyJ cyP a0 a0_down a0_row z0_owedEach z0_law z0_down_formX z0_down_formY z0_down_foxX z0_down_foxY z0_down_seat z0_down_strength z0_down_debts z0_down_near z0_down_forms z0_down_foxes z0_down_safe v0_down_hares f0_row Q (wl_X1_seatedIn_4 v0_down_hares f0_row Q  n) ih C0 _ _ _ l1 x6 l3 hP hD hS (lv_sub hl [1, 2, 0, 3] rfl) hw
def wq_X1_seatedIn (v0_down_hares : Int32) (f0_row : Nat → Int32)  (p1 : Int32) (Q : Int32 → Prop) : Prop := (∃ k9 : Nat, wl_X1_seatedIn_4 v0_down_hares f0_row Q  k9 p1 0 0)
set_option maxHeartbeats 4000000 in
set_option maxRecDepth 100000 in
theorem ck_X1_seatedIn (l : Launch) (dC : Nat → ClassId) (dI : Nat → Nat → Nat) (cyB cyI cyJ cyP : ClassId) (a0 a0_down a0_row : Nat) (sz : Nat) (z0_owedEach : Value) (z0_law : Value) (z0_down_formX : Value) (z0_down_formY : Value) (z0_down_foxX : Value) (z0_down_foxY : Value) (z0_down_seat : Value) (z0_down_strength : Value) (z0_down_debts : Value) (z0_down_near : Value) (z0_down_forms : Value) (z0_down_foxes : Value) (z0_down_safe : Value) (v0_down_hares : Int32) (f0_row : Nat → Int32)  (p1 : Int32) {Q : Int32 → Prop} (hw : wq_X1_seatedIn v0_down_hares f0_row  p1 Q) : Met l yX1_seatedIn wsX1_seatedIn ({ frames := 1, cells := 0, slots := 0, locals := 21 }) (va_Pc [.ref a0, .int p1] (cPc (dC, dI) (kT cyB cyI cyJ cyP) [(a0, .inr (1, [.ref a0_row, z0_owedEach, .ref a0_down, z0_law])), (a0_down, .inr (2, [z0_down_formX, z0_down_formY, z0_down_foxX, z0_down_foxY, z0_down_seat, z0_down_strength, z0_down_debts, z0_down_near, z0_down_forms, .int v0_down_hares, z0_down_foxes, z0_down_safe])), (a0_row, .inl (cyI, 64, .inl f0_row))] sz)) (va_Qi (fun (r : Int32) (_ : Unit) => Q r ) (cB (dC, dI) (kT cyB cyI cyJ cyP) (va_A [(a0, .inr (1, [.ref a0_row, z0_owedEach, .ref a0_down, z0_law])), (a0_down, .inr (2, [z0_down_formX, z0_down_formY, z0_down_foxX, z0_down_foxY, z0_down_seat, z0_down_strength, z0_down_debts, z0_down_near, z0_down_forms, .int v0_down_hares, z0_down_foxes, z0_down_safe])), (a0_row, .inl (cyI, 64, .inl f0_row))] sz) (fun u : Unit => ([(a0, .inr (1, [.ref a0_row, z0_owedEach, .ref a0_down, z0_law])), (a0_down, .inr (2, [z0_down_formX, z0_down_formY, z0_down_foxX, z0_down_foxY, z0_down_seat, z0_down_strength, z0_down_debts, z0_down_near, z0_down_forms, .int v0_down_hares, z0_down_foxes, z0_down_safe])), (a0_row, .inl (cyI, 64, .inl f0_row))] : va_W))) (va_A [(a0, .inr (1, [.ref a0_row, z0_owedEach, .ref a0_down, z0_law])), (a0_down, .inr (2, [z0_down_formX, z0_down_formY, z0_down_foxX, z0_down_foxY, z0_down_seat, z0_down_strength, z0_down_debts, z0_down_near, z0_down_forms, .int v0_down_hares, z0_down_foxes, z0_down_safe])), (a0_row, .inl (cyI, 64, .inl f0_row))] sz)) 0 0 (va_A [(a0, .inr (1, [.ref a0_row, z0_owedEach, .ref a0_down, z0_law])), (a0_down, .inr (2, [z0_down_formX, z0_down_formY, z0_down_foxX, z0_down_foxY, z0_down_seat, z0_down_strength, z0_down_debts, z0_down_near, z0_down_forms, .int v0_down_hares, z0_down_foxes, z0_down_safe])), (a0_row, .inl (cyI, 64, .inl f0_row))] sz) := by
  refine Met.ofW (cc := cX1_seatedIn) (maxL := 4) (ret := (some .int)) (by decide) rfl ?_
  intro p e s m args below meth c s₁ B hml hv
  obtain ⟨rfl, hsz, hP, hK, hD0, hNw⟩ := hv
  have hx := B.exec
  have hb := B.bytes
  have hr := B.returns
  have hts := atoms_spec (ws := wsX1_seatedIn) B.pre
  have hown : s.vm.findClass RX1 = some m.cls := findClass_of_methodNamed B.named
  have hlocks := B.notSynchronized
  subst hsz
  have hD := hD0.self (sz := s.heap.size)
  generalize hAe : va_A [(a0, .inr (1, [.ref a0_row, z0_owedEach, .ref a0_down, z0_law])), (a0_down, .inr (2, [z0_down_formX, z0_down_formY, z0_down_foxX, z0_down_foxY, z0_down_seat, z0_down_strength, z0_down_debts, z0_down_near, z0_down_forms, .int v0_down_hares, z0_down_foxes, z0_down_safe])), (a0_row, .inl (cyI, 64, .inl f0_row))] s.heap.size = A at hD ⊢
  have hA : ∀ q : Nat, s.heap.size ≤ q → A q := fun q h => by rw [← hAe]; exact Or.inr h
  have hS : va_S A s.heap s.heap [] := va_S.rf
  have hP : va_P (dC, dI) vwCl [(a0, .inr (1, [.ref a0_row, z0_owedEach, .ref a0_down, z0_law])), (a0_down, .inr (2, [z0_down_formX, z0_down_formY, z0_down_foxX, z0_down_foxY, z0_down_seat, z0_down_strength, z0_down_debts, z0_down_near, z0_down_forms, .int v0_down_hares, z0_down_foxes, z0_down_safe])), (a0_row, .inl (cyI, 64, .inl f0_row))] s.heap := hP
  have hl := lv_entry ([.ref a0, .int p1]) (n := 4) (Nat.le_of_ble_eq_true rfl)
  rw [lg_entry_eq]
  generalize (lg_sl ([.ref a0, .int p1]) ++ List.replicate (4 - (lg_sl ([.ref a0, .int p1])).length) Slot.unset).toArray = ls at hl ⊢
  have hl : lv_has ls 4 [(0, .ref a0), (1, .int p1)] := hl
  have C0 : cfx p s m _ meth c cX1_seatedIn (some .int) wsX1_seatedIn RX1 4 A (dC, dI) (kT cyB cyI cyJ cyP) := ⟨hx, hb, hr, hts, hown, hlocks, hml, hA, hK, hNw⟩
  clear hAe
  obtain ⟨H, hH⟩ : ∃ H, H = s.heap := ⟨_, rfl⟩
  rw [← hH] at hP ⊢
  have hS : va_S A s.heap H [] := by rw [hH]; exact va_S.rf
  have hS := hS
  refine lv_iconst (v := 0) hx hb dX1_seatedIn_0 (by decide) ?_
  refine lv_istore_n (lv' := [(2, .int 0), (0, .ref a0), (1, .int p1)]) hx hb dX1_seatedIn_1 rfl hl (by decide) rfl (fun ls hl => ?_)
  refine lv_iconst (v := 0) hx hb dX1_seatedIn_2 (by decide) ?_
  refine lv_istore_n (lv' := [(3, .int 0), (2, .int 0), (0, .ref a0), (1, .int p1)]) hx hb dX1_seatedIn_3 rfl hl (by decide) rfl (fun ls hl => ?_)
  obtain ⟨n9, hw⟩ := hw
  exact kl_X1_seatedIn_4 dC dI cyB cyI cyJ cyP a0 a0_down a0_row z0_owedEach z0_law z0_down_formX z0_down_formY z0_down_foxX z0_down_foxY z0_down_seat z0_down_strength z0_down_debts z0_down_near z0_down_forms z0_down_foxes z0_down_safe v0_down_hares f0_row Q  C0 n9 _ _ _ p1 0 0 hP hD hS (lv_sub hl [2, 3, 1, 0] rfl) hw
theorem ui_X1_strong_X1 : ∀ w ∈ u_ws RX1 TX1 4, w ∈ wsX1_strong := by decide +kernel
theorem uw_X1_strong_f13 : (.fieldLink RX1 13 "MarchHares$Days" "row" "[I" : Cond) ∈ wsX1_strong := by decide +kernel
def wq_X1_strong (f0_row : Nat → Int32)  (p1 : Int32) (Q : Int32 → Prop) : Prop := ∀ x1 : Int32, x1 = 10 + p1 → vp_in x1 64 ∧ ∀ x2 : Int32, x2 = f0_row x1.toNatClampNeg → (Q x2)
set_option maxHeartbeats 4000000 in
set_option maxRecDepth 100000 in
theorem ck_X1_strong (l : Launch) (dC : Nat → ClassId) (dI : Nat → Nat → Nat) (cyB cyI cyJ cyP : ClassId) (a0 a0_row : Nat) (sz : Nat) (z0_owedEach : Value) (z0_down : Value) (z0_law : Value) (f0_row : Nat → Int32)  (p1 : Int32) {Q : Int32 → Prop} (hw : wq_X1_strong f0_row  p1 Q) : Met l yX1_strong wsX1_strong ({ frames := 0, cells := 0, slots := 0, locals := 0 }) (va_Pc [.ref a0, .int p1] (cPc (dC, dI) (kT cyB cyI cyJ cyP) [(a0, .inr (1, [.ref a0_row, z0_owedEach, z0_down, z0_law])), (a0_row, .inl (cyI, 64, .inl f0_row))] sz)) (va_Qi (fun (r : Int32) (_ : Unit) => Q r ) (cB (dC, dI) (kT cyB cyI cyJ cyP) (va_A [(a0, .inr (1, [.ref a0_row, z0_owedEach, z0_down, z0_law])), (a0_row, .inl (cyI, 64, .inl f0_row))] sz) (fun u : Unit => ([(a0, .inr (1, [.ref a0_row, z0_owedEach, z0_down, z0_law])), (a0_row, .inl (cyI, 64, .inl f0_row))] : va_W))) (va_A [(a0, .inr (1, [.ref a0_row, z0_owedEach, z0_down, z0_law])), (a0_row, .inl (cyI, 64, .inl f0_row))] sz)) 0 0 (va_A [(a0, .inr (1, [.ref a0_row, z0_owedEach, z0_down, z0_law])), (a0_row, .inl (cyI, 64, .inl f0_row))] sz) := by
  refine Met.ofW (cc := cX1_strong) (maxL := 2) (ret := (some .int)) (by decide) rfl ?_
  intro p e s m args below meth c s₁ B hml hv
  obtain ⟨rfl, hsz, hP, hK, hD0, hNw⟩ := hv
  have hx := B.exec
  have hb := B.bytes
  have hr := B.returns
  have hts := atoms_spec (ws := wsX1_strong) B.pre
  have hown : s.vm.findClass RX1 = some m.cls := findClass_of_methodNamed B.named
  have hlocks := B.notSynchronized
  subst hsz
  have hD := hD0.self (sz := s.heap.size)
  generalize hAe : va_A [(a0, .inr (1, [.ref a0_row, z0_owedEach, z0_down, z0_law])), (a0_row, .inl (cyI, 64, .inl f0_row))] s.heap.size = A at hD ⊢
  have hA : ∀ q : Nat, s.heap.size ≤ q → A q := fun q h => by rw [← hAe]; exact Or.inr h
  have hS : va_S A s.heap s.heap [] := va_S.rf
  have hP : va_P (dC, dI) vwCl [(a0, .inr (1, [.ref a0_row, z0_owedEach, z0_down, z0_law])), (a0_row, .inl (cyI, 64, .inl f0_row))] s.heap := hP
  have hl := lv_entry ([.ref a0, .int p1]) (n := 2) (Nat.le_of_ble_eq_true rfl)
  rw [lg_entry_eq]
  generalize (lg_sl ([.ref a0, .int p1]) ++ List.replicate (2 - (lg_sl ([.ref a0, .int p1])).length) Slot.unset).toArray = ls at hl ⊢
  have hl : lv_has ls 2 [(0, .ref a0), (1, .int p1)] := hl
  have C0 : cfx p s m _ meth c cX1_strong (some .int) wsX1_strong RX1 2 A (dC, dI) (kT cyB cyI cyJ cyP) := ⟨hx, hb, hr, hts, hown, hlocks, hml, hA, hK, hNw⟩
  clear hAe
  obtain ⟨H, hH⟩ : ∃ H, H = s.heap := ⟨_, rfl⟩
  rw [← hH] at hP ⊢
  have hS : va_S A s.heap H [] := by rw [hH]; exact va_S.rf
  have hS := hS
  refine lv_aload_n hx hb dX1_strong_0 rfl (lv_at hl 0 rfl) ?_
  refine va_get (D := (dC, dI)) (ci := 1) (v := .ref a0_row) (C := RX1) (T := TX1) (N := 4) hx hb hts ui_X1_strong_X1 hown hK hP 0 rfl rfl 0 (by decide) (hts _ uw_X1_strong_f13) (fun _ h9 => h9) rfl dX1_strong_1 ?_
  refine lv_bipush (v := 10) hx hb dX1_strong_4 (by decide) ?_
  refine lv_iload_n hx hb dX1_strong_6 rfl (lv_at hl 1 rfl) ?_
  refine lv_iadd hx hb dX1_strong_7 ?_
  refine lv_topi (fun x1 ex1 => ?_)
  have hw := hw x1 ex1
  obtain ⟨hi9, hw⟩ := hw
  refine va_iald hx hb hK hP 1 1 rfl rfl hi9 dX1_strong_8 ?_
  refine lv_topi (fun x2 ex2 => ?_)
  have hw := hw x2 ex2
  exact ((W.iret (v := x2) hx hb hr (fun t ht hW => ⟨⟨x2, (), rfl, hw, by rw [ht]; exact hP, va_K.moved hW.alike hK, hD⟩, hS.F ht⟩) hS.2.2 dX1_strong_9))
theorem ui_X1_still_X1 : ∀ w ∈ u_ws RX1 TX1 4, w ∈ wsX1_still := by decide +kernel
theorem uw_X1_still_f13 : (.fieldLink RX1 13 "MarchHares$Days" "row" "[I" : Cond) ∈ wsX1_still := by decide +kernel
def wq_X1_still (f0_row : Nat → Int32)  (p1 : Int32) (Q : Int32 → Prop) : Prop := ∀ x1 : Int32, x1 = 16 + p1 → vp_in x1 64 ∧ ∀ x2 : Int32, x2 = f0_row x1.toNatClampNeg → (Q x2)
set_option maxHeartbeats 4000000 in
set_option maxRecDepth 100000 in
theorem ck_X1_still (l : Launch) (dC : Nat → ClassId) (dI : Nat → Nat → Nat) (cyB cyI cyJ cyP : ClassId) (a0 a0_row : Nat) (sz : Nat) (z0_owedEach : Value) (z0_down : Value) (z0_law : Value) (f0_row : Nat → Int32)  (p1 : Int32) {Q : Int32 → Prop} (hw : wq_X1_still f0_row  p1 Q) : Met l yX1_still wsX1_still ({ frames := 0, cells := 0, slots := 0, locals := 0 }) (va_Pc [.ref a0, .int p1] (cPc (dC, dI) (kT cyB cyI cyJ cyP) [(a0, .inr (1, [.ref a0_row, z0_owedEach, z0_down, z0_law])), (a0_row, .inl (cyI, 64, .inl f0_row))] sz)) (va_Qi (fun (r : Int32) (_ : Unit) => Q r ) (cB (dC, dI) (kT cyB cyI cyJ cyP) (va_A [(a0, .inr (1, [.ref a0_row, z0_owedEach, z0_down, z0_law])), (a0_row, .inl (cyI, 64, .inl f0_row))] sz) (fun u : Unit => ([(a0, .inr (1, [.ref a0_row, z0_owedEach, z0_down, z0_law])), (a0_row, .inl (cyI, 64, .inl f0_row))] : va_W))) (va_A [(a0, .inr (1, [.ref a0_row, z0_owedEach, z0_down, z0_law])), (a0_row, .inl (cyI, 64, .inl f0_row))] sz)) 0 0 (va_A [(a0, .inr (1, [.ref a0_row, z0_owedEach, z0_down, z0_law])), (a0_row, .inl (cyI, 64, .inl f0_row))] sz) := by
  refine Met.ofW (cc := cX1_still) (maxL := 2) (ret := (some .int)) (by decide) rfl ?_
  intro p e s m args below meth c s₁ B hml hv
  obtain ⟨rfl, hsz, hP, hK, hD0, hNw⟩ := hv
  have hx := B.exec
  have hb := B.bytes
  have hr := B.returns
  have hts := atoms_spec (ws := wsX1_still) B.pre
  have hown : s.vm.findClass RX1 = some m.cls := findClass_of_methodNamed B.named
  have hlocks := B.notSynchronized
  subst hsz
  have hD := hD0.self (sz := s.heap.size)
  generalize hAe : va_A [(a0, .inr (1, [.ref a0_row, z0_owedEach, z0_down, z0_law])), (a0_row, .inl (cyI, 64, .inl f0_row))] s.heap.size = A at hD ⊢
  have hA : ∀ q : Nat, s.heap.size ≤ q → A q := fun q h => by rw [← hAe]; exact Or.inr h
  have hS : va_S A s.heap s.heap [] := va_S.rf
  have hP : va_P (dC, dI) vwCl [(a0, .inr (1, [.ref a0_row, z0_owedEach, z0_down, z0_law])), (a0_row, .inl (cyI, 64, .inl f0_row))] s.heap := hP
  have hl := lv_entry ([.ref a0, .int p1]) (n := 2) (Nat.le_of_ble_eq_true rfl)
  rw [lg_entry_eq]
  generalize (lg_sl ([.ref a0, .int p1]) ++ List.replicate (2 - (lg_sl ([.ref a0, .int p1])).length) Slot.unset).toArray = ls at hl ⊢
  have hl : lv_has ls 2 [(0, .ref a0), (1, .int p1)] := hl
  have C0 : cfx p s m _ meth c cX1_still (some .int) wsX1_still RX1 2 A (dC, dI) (kT cyB cyI cyJ cyP) := ⟨hx, hb, hr, hts, hown, hlocks, hml, hA, hK, hNw⟩
  clear hAe
  obtain ⟨H, hH⟩ : ∃ H, H = s.heap := ⟨_, rfl⟩
  rw [← hH] at hP ⊢
  have hS : va_S A s.heap H [] := by rw [hH]; exact va_S.rf
  have hS := hS
  refine lv_aload_n hx hb dX1_still_0 rfl (lv_at hl 0 rfl) ?_
  refine va_get (D := (dC, dI)) (ci := 1) (v := .ref a0_row) (C := RX1) (T := TX1) (N := 4) hx hb hts ui_X1_still_X1 hown hK hP 0 rfl rfl 0 (by decide) (hts _ uw_X1_still_f13) (fun _ h9 => h9) rfl dX1_still_1 ?_
  refine lv_bipush (v := 16) hx hb dX1_still_4 (by decide) ?_
  refine lv_iload_n hx hb dX1_still_6 rfl (lv_at hl 1 rfl) ?_
  refine lv_iadd hx hb dX1_still_7 ?_
  refine lv_topi (fun x1 ex1 => ?_)
  have hw := hw x1 ex1
  obtain ⟨hi9, hw⟩ := hw
  refine va_iald hx hb hK hP 1 1 rfl rfl hi9 dX1_still_8 ?_
  refine lv_topi (fun x2 ex2 => ?_)
  have hw := hw x2 ex2
  exact ((W.iret (v := x2) hx hb hr (fun t ht hW => ⟨⟨x2, (), rfl, hw, by rw [ht]; exact hP, va_K.moved hW.alike hK, hD⟩, hS.F ht⟩) hS.2.2 dX1_still_9))
theorem ui_X1_owesTo_X1 : ∀ w ∈ u_ws RX1 TX1 4, w ∈ wsX1_owesTo := by decide +kernel
theorem uw_X1_owesTo_f13 : (.fieldLink RX1 13 "MarchHares$Days" "row" "[I" : Cond) ∈ wsX1_owesTo := by decide +kernel
def wq_X1_owesTo (f0_row : Nat → Int32)  (p1 : Int32) (p2 : Int32) (Q : Int32 → Prop) : Prop := ∀ x1 : Int32, x1 = 28 + (p1 * 6) → ∀ x2 : Int32, x2 = x1 + p2 → vp_in x2 64 ∧ ∀ x3 : Int32, x3 = f0_row x2.toNatClampNeg → (Q x3)
set_option maxHeartbeats 4000000 in
set_option maxRecDepth 100000 in
theorem ck_X1_owesTo (l : Launch) (dC : Nat → ClassId) (dI : Nat → Nat → Nat) (cyB cyI cyJ cyP : ClassId) (a0 a0_row : Nat) (sz : Nat) (z0_owedEach : Value) (z0_down : Value) (z0_law : Value) (f0_row : Nat → Int32)  (p1 : Int32) (p2 : Int32) {Q : Int32 → Prop} (hw : wq_X1_owesTo f0_row  p1 p2 Q) : Met l yX1_owesTo wsX1_owesTo ({ frames := 0, cells := 0, slots := 0, locals := 0 }) (va_Pc [.ref a0, .int p1, .int p2] (cPc (dC, dI) (kT cyB cyI cyJ cyP) [(a0, .inr (1, [.ref a0_row, z0_owedEach, z0_down, z0_law])), (a0_row, .inl (cyI, 64, .inl f0_row))] sz)) (va_Qi (fun (r : Int32) (_ : Unit) => Q r ) (cB (dC, dI) (kT cyB cyI cyJ cyP) (va_A [(a0, .inr (1, [.ref a0_row, z0_owedEach, z0_down, z0_law])), (a0_row, .inl (cyI, 64, .inl f0_row))] sz) (fun u : Unit => ([(a0, .inr (1, [.ref a0_row, z0_owedEach, z0_down, z0_law])), (a0_row, .inl (cyI, 64, .inl f0_row))] : va_W))) (va_A [(a0, .inr (1, [.ref a0_row, z0_owedEach, z0_down, z0_law])), (a0_row, .inl (cyI, 64, .inl f0_row))] sz)) 0 0 (va_A [(a0, .inr (1, [.ref a0_row, z0_owedEach, z0_down, z0_law])), (a0_row, .inl (cyI, 64, .inl f0_row))] sz) := by
  refine Met.ofW (cc := cX1_owesTo) (maxL := 3) (ret := (some .int)) (by decide) rfl ?_
  intro p e s m args below meth c s₁ B hml hv
  obtain ⟨rfl, hsz, hP, hK, hD0, hNw⟩ := hv
  have hx := B.exec
  have hb := B.bytes
  have hr := B.returns
  have hts := atoms_spec (ws := wsX1_owesTo) B.pre
  have hown : s.vm.findClass RX1 = some m.cls := findClass_of_methodNamed B.named
  have hlocks := B.notSynchronized
  subst hsz
  have hD := hD0.self (sz := s.heap.size)
  generalize hAe : va_A [(a0, .inr (1, [.ref a0_row, z0_owedEach, z0_down, z0_law])), (a0_row, .inl (cyI, 64, .inl f0_row))] s.heap.size = A at hD ⊢
  have hA : ∀ q : Nat, s.heap.size ≤ q → A q := fun q h => by rw [← hAe]; exact Or.inr h
  have hS : va_S A s.heap s.heap [] := va_S.rf
  have hP : va_P (dC, dI) vwCl [(a0, .inr (1, [.ref a0_row, z0_owedEach, z0_down, z0_law])), (a0_row, .inl (cyI, 64, .inl f0_row))] s.heap := hP
  have hl := lv_entry ([.ref a0, .int p1, .int p2]) (n := 3) (Nat.le_of_ble_eq_true rfl)
  rw [lg_entry_eq]
  generalize (lg_sl ([.ref a0, .int p1, .int p2]) ++ List.replicate (3 - (lg_sl ([.ref a0, .int p1, .int p2])).length) Slot.unset).toArray = ls at hl ⊢
  have hl : lv_has ls 3 [(0, .ref a0), (1, .int p1), (2, .int p2)] := hl
  have C0 : cfx p s m _ meth c cX1_owesTo (some .int) wsX1_owesTo RX1 3 A (dC, dI) (kT cyB cyI cyJ cyP) := ⟨hx, hb, hr, hts, hown, hlocks, hml, hA, hK, hNw⟩
  clear hAe
  obtain ⟨H, hH⟩ : ∃ H, H = s.heap := ⟨_, rfl⟩
  rw [← hH] at hP ⊢
  have hS : va_S A s.heap H [] := by rw [hH]; exact va_S.rf
  have hS := hS
  refine lv_aload_n hx hb dX1_owesTo_0 rfl (lv_at hl 0 rfl) ?_
  refine va_get (D := (dC, dI)) (ci := 1) (v := .ref a0_row) (C := RX1) (T := TX1) (N := 4) hx hb hts ui_X1_owesTo_X1 hown hK hP 0 rfl rfl 0 (by decide) (hts _ uw_X1_owesTo_f13) (fun _ h9 => h9) rfl dX1_owesTo_1 ?_
  refine lv_bipush (v := 28) hx hb dX1_owesTo_4 (by decide) ?_
  refine lv_iload_n hx hb dX1_owesTo_6 rfl (lv_at hl 1 rfl) ?_
  refine lv_bipush (v := 6) hx hb dX1_owesTo_7 (by decide) ?_
  refine lv_imul hx hb dX1_owesTo_9 ?_
  refine lv_iadd hx hb dX1_owesTo_10 ?_
  refine lv_topi (fun x1 ex1 => ?_)
  have hw := hw x1 ex1
  refine lv_iload_n hx hb dX1_owesTo_11 rfl (lv_at hl 2 rfl) ?_
  refine lv_iadd hx hb dX1_owesTo_12 ?_
  refine lv_topi (fun x2 ex2 => ?_)
  have hw := hw x2 ex2
  obtain ⟨hi9, hw⟩ := hw
  refine va_iald hx hb hK hP 1 1 rfl rfl hi9 dX1_owesTo_13 ?_
  refine lv_topi (fun x3 ex3 => ?_)
  have hw := hw x3 ex3
  exact ((W.iret (v := x3) hx hb hr (fun t ht hW => ⟨⟨x3, (), rfl, hw, by rw [ht]; exact hP, va_K.moved hW.alike hK, hD⟩, hS.F ht⟩) hS.2.2 dX1_owesTo_14))
theorem ui_X1_owes_X1 : ∀ w ∈ u_ws RX1 TX1 4, w ∈ wsX1_owes := by decide +kernel
theorem ui_X1_owes_X2 : ∀ w ∈ u_ws RX2 TX2 12, w ∈ wsX1_owes := by decide +kernel
theorem uw_X1_owes_f24 : (.fieldLink RX1 24 "MarchHares$Days" "down" "LMarchHares$Down;" : Cond) ∈ wsX1_owes := by decide +kernel
theorem uw_X1_owes_f32 : (.fieldLink RX1 32 "MarchHares$Down" "hares" "I" : Cond) ∈ wsX1_owes := by decide +kernel
def wl_X1_owes_4 (v0_down_hares : Int32) (f0_row : Nat → Int32) (Q : Int32 → Prop)  : Nat → Int32 → Int32 → Int32 → Prop
  | 0, _, _, _ => False
  | n + 1, l1, l2, l3 => ((v0_down_hares ≤ l3 → (Q l2)) ∧ (¬ v0_down_hares ≤ l3 → wq_X1_owesTo f0_row  l1 l3 (fun r2 => ∀ x3 : Int32, x3 = l2 + r2 → ∀ x4 : Int32, x4 = l3 + 1 → (wl_X1_owes_4 v0_down_hares f0_row Q  n l1 x3 x4))))
set_option maxHeartbeats 4000000 in
set_option maxRecDepth 100000 in
theorem kl_X1_owes_4 {p : Program} {l : Launch} {e : Env} {s : State} {m : MethodId} {args : Array Value} {below : List Frame} {meth : Method} {c : Code} {A : Nat → Prop} (dC : Nat → ClassId) (dI : Nat → Nat → Nat) (cyB cyI cyJ cyP : ClassId) (a0 a0_down a0_row : Nat) (z0_owedEach : Value) (z0_law : Value) (z0_down_formX : Value) (z0_down_formY : Value) (z0_down_foxX : Value) (z0_down_foxY : Value) (z0_down_seat : Value) (z0_down_strength : Value) (z0_down_debts : Value) (z0_down_near : Value) (z0_down_forms : Value) (z0_down_foxes : Value) (z0_down_safe : Value) (v0_down_hares : Int32) (f0_row : Nat → Int32) (Q : Int32 → Prop)  (C0 : cfx p s m args meth c cX1_owes (some .int) wsX1_owes RX1 4 A (dC, dI) (kT cyB cyI cyJ cyP)) : ∀ (n : Nat) (H : Heap) (locs : List Loc) (ls : Array Slot) (l1 : Int32) (l2 : Int32) (l3 : Int32), va_P (dC, dI) vwCl [(a0, .inr (1, [.ref a0_row, z0_owedEach, .ref a0_down, z0_law])), (a0_down, .inr (2, [z0_down_formX, z0_down_formY, z0_down_foxX, z0_down_foxY, z0_down_seat, z0_down_strength, z0_down_debts, z0_down_near, z0_down_forms, .int v0_down_hares, z0_down_foxes, z0_down_safe])), (a0_row, .inl (cyI, 64, .inl f0_row))] H → va_D A [(a0, .inr (1, [.ref a0_row, z0_owedEach, .ref a0_down, z0_law])), (a0_down, .inr (2, [z0_down_formX, z0_down_formY, z0_down_foxX, z0_down_foxY, z0_down_seat, z0_down_strength, z0_down_debts, z0_down_near, z0_down_forms, .int v0_down_hares, z0_down_foxes, z0_down_safe])), (a0_row, .inl (cyI, 64, .inl f0_row))] → va_S A s.heap H locs → lv_has ls 4 [(0, .ref a0), (1, .int l1), (2, .int l2), (3, .int l3)] → wl_X1_owes_4 v0_down_hares f0_row Q  n l1 l2 l3 → W p l e (headSpec wsX1_owes ({ frames := 1, cells := 0, slots := 0, locals := 22 })).room s m args below meth c H locs 0 0 (MQ below (va_Qi (fun (r : Int32) (_ : Unit) => Q r ) (cB (dC, dI) (kT cyB cyI cyJ cyP) A (fun u : Unit => ([(a0, .inr (1, [.ref a0_row, z0_owedEach, .ref a0_down, z0_law])), (a0_down, .inr (2, [z0_down_formX, z0_down_formY, z0_down_foxX, z0_down_foxY, z0_down_seat, z0_down_strength, z0_down_debts, z0_down_near, z0_down_forms, .int v0_down_hares, z0_down_foxes, z0_down_safe])), (a0_row, .inl (cyI, 64, .inl f0_row))] : va_W))) A) args s 0 0 A) (F0 m 4 ls []) := by
  obtain ⟨hx, hb, hr, hts, hown, hlocks, hml, hA, hK, hNw⟩ := id C0
  intro n
  induction n with
  | zero => intro H locs ls l1 l2 l3 hP hD hS hl hw; exact False.elim hw
  | succ n ih =>
    intro H locs ls l1 l2 l3 hP hD hS hl hw
    refine lv_iload_n hx hb dX1_owes_4 rfl (lv_at hl 3 rfl) ?_
    refine lv_aload_n hx hb dX1_owes_5 rfl (lv_at hl 0 rfl) ?_
    refine va_get (D := (dC, dI)) (ci := 1) (v := .ref a0_down) (C := RX1) (T := TX1) (N := 4) hx hb hts ui_X1_owes_X1 hown hK hP 0 rfl rfl 2 (by decide) (hts _ uw_X1_owes_f24) (fun _ h9 => h9) rfl dX1_owes_6 ?_
    refine va_get (D := (dC, dI)) (ci := 2) (v := .int v0_down_hares) (C := RX2) (T := TX2) (N := 12) hx hb hts ui_X1_owes_X2 hown hK hP 1 rfl rfl 9 (by decide) (hts _ uw_X1_owes_f32) (fun _ h9 => h9) rfl dX1_owes_9 ?_
    refine lv_icmp_ge (tgt := 30) hx hb dX1_owes_12 (by decide) (fun c1 => ?_) (fun c1 => ?_)
    · have hw := hw.1 c1
      refine lv_iload_n hx hb dX1_owes_30 rfl (lv_at hl 2 rfl) ?_
      exact ((W.iret (v := l2) hx hb hr (fun t ht hW => ⟨⟨l2, (), rfl, hw, by rw [ht]; exact hP, va_K.moved hW.alike hK, hD⟩, hS.F ht⟩) hS.2.2 dX1_owes_31))
    · have hw := hw.2 c1
      refine lv_iload_n hx hb dX1_owes_15 rfl (lv_at hl 2 rfl) ?_
      refine lv_aload_n hx hb dX1_owes_16 rfl (lv_at hl 0 rfl) ?_
      refine lv_iload_n hx hb dX1_owes_17 rfl (lv_at hl 1 rfl) ?_
      refine lv_iload_n hx hb dX1_owes_18 rfl (lv_at hl 3 rfl) ?_
      have hPc := hP.sub (ws' := [(a0, .inr (1, [.ref a0_row, z0_owedEach, .ref a0_down, z0_law])), (a0_row, .inl (cyI, 64, .inl f0_row))]) [0, 2] rfl
      have hDc := hD.sub (ws' := [(a0, .inr (1, [.ref a0_row, z0_owedEach, .ref a0_down, z0_law])), (a0_row, .inl (cyI, 64, .inl f0_row))]) [0, 2] (by decide) rfl
      have hFc := va_free (wc := [(a0, .inr (1, [.ref a0_row, z0_owedEach, .ref a0_down, z0_law])), (a0_row, .inl (cyI, 64, .inl f0_row))]) hD hS hA [0, 2] rfl
      refine va_calli (va_runV (As := [.int l1, .int l3]) (rest := [.int l2]) ⟨hx, hb, hml, hown, hts⟩ (ck_X1_owesTo l dC dI cyB cyI cyJ cyP a0 a0_row H.size (z0_owedEach) (.ref a0_down) (z0_law) f0_row  l1 l3 hw) (cwV 2 hts gX1_owes_X1_owesTo rfl rfl rfl (by decide +kernel) ⟨Nat.le_of_ble_eq_true rfl, Nat.le_of_ble_eq_true rfl⟩) ⟨cPc_blind, va_recv hK hPc (ci := 1) (q0 := 0) rfl rfl, cPc_pre hPc hK hDc hNw⟩ rfl rfl hl.1 rfl (lv_room (Nat.le_of_ble_eq_true rfl)) dX1_owes_19 ⟨Nat.le_of_ble_eq_true rfl, Nat.le_of_ble_eq_true rfl⟩) hS (fun q _ h => hFc q h) hFc (fun r2 u t H1 locs ht hvm hw hB hz1 hk1 hS => ?_)
      obtain ⟨hP1, hK1, hD1⟩ := hB
      rw [ht] at hP1
      obtain ⟨hP, hD⟩ := va_join (wr := [(a0_down, .inr (2, [z0_down_formX, z0_down_formY, z0_down_foxX, z0_down_foxY, z0_down_seat, z0_down_strength, z0_down_debts, z0_down_near, z0_down_forms, .int v0_down_hares, z0_down_foxes, z0_down_safe]))]) (w1 := [(a0, .inr (1, [.ref a0_row, z0_owedEach, .ref a0_down, z0_law])), (a0_row, .inl (cyI, 64, .inl f0_row))]) hP hD [0, 2] [1] rfl rfl (by decide) (by decide) hk1 hFc hP1 hD1
      have hP : va_P (dC, dI) vwCl [(a0, .inr (1, [.ref a0_row, z0_owedEach, .ref a0_down, z0_law])), (a0_down, .inr (2, [z0_down_formX, z0_down_formY, z0_down_foxX, z0_down_foxY, z0_down_seat, z0_down_strength, z0_down_debts, z0_down_near, z0_down_forms, .int v0_down_hares, z0_down_foxes, z0_down_safe])), (a0_row, .inl (cyI, 64, .inl f0_row))] H1 := hP.sub [1, 0, 2] rfl
      have hD : va_D A [(a0, .inr (1, [.ref a0_row, z0_owedEach, .ref a0_down, z0_law])), (a0_down, .inr (2, [z0_down_formX, z0_down_formY, z0_down_foxX, z0_down_foxY, z0_down_seat, z0_down_strength, z0_down_debts, z0_down_near, z0_down_forms, .int v0_down_hares, z0_down_foxes, z0_down_safe])), (a0_row, .inl (cyI, 64, .inl f0_row))] := hD.sub [1, 0, 2] (by decide) rfl
      generalize H1 = H at hP hS ⊢
      refine lv_iadd hx hb dX1_owes_22 ?_
      refine lv_topi (fun x3 ex3 => ?_)
      have hw := hw x3 ex3
      refine lv_istore_n (lv' := [(2, .int x3), (0, .ref a0), (1, .int l1), (3, .int l3)]) hx hb dX1_owes_23 rfl hl (by decide) rfl (fun ls hl => ?_)
      obtain ⟨x4, ex4⟩ : ∃ y : Int32, y = l3 + 1 := ⟨_, rfl⟩
      have hw := hw x4 ex4
      refine lv_iinc (v := x4) (lv' := [(3, .int x4), (2, .int x3), (0, .ref a0), (1, .int l1)]) hx hb dX1_owes_24 hl (k := 3) rfl (by rw [ex4]; rfl) (by decide) rfl (fun ls hl => ?_)
      refine lv_goto (tgt := 4) hx hb dX1_owes_27 (by decide) ?_
      exact ih _ _ _ l1 x3 x4 hP hD hS (lv_sub hl [2, 3, 1, 0] rfl) hw
def wq_X1_owes (v0_down_hares : Int32) (f0_row : Nat → Int32)  (p1 : Int32) (Q : Int32 → Prop) : Prop := (∃ k9 : Nat, wl_X1_owes_4 v0_down_hares f0_row Q  k9 p1 0 0)
set_option maxHeartbeats 4000000 in
set_option maxRecDepth 100000 in
theorem ck_X1_owes (l : Launch) (dC : Nat → ClassId) (dI : Nat → Nat → Nat) (cyB cyI cyJ cyP : ClassId) (a0 a0_down a0_row : Nat) (sz : Nat) (z0_owedEach : Value) (z0_law : Value) (z0_down_formX : Value) (z0_down_formY : Value) (z0_down_foxX : Value) (z0_down_foxY : Value) (z0_down_seat : Value) (z0_down_strength : Value) (z0_down_debts : Value) (z0_down_near : Value) (z0_down_forms : Value) (z0_down_foxes : Value) (z0_down_safe : Value) (v0_down_hares : Int32) (f0_row : Nat → Int32)  (p1 : Int32) {Q : Int32 → Prop} (hw : wq_X1_owes v0_down_hares f0_row  p1 Q) : Met l yX1_owes wsX1_owes ({ frames := 1, cells := 0, slots := 0, locals := 22 }) (va_Pc [.ref a0, .int p1] (cPc (dC, dI) (kT cyB cyI cyJ cyP) [(a0, .inr (1, [.ref a0_row, z0_owedEach, .ref a0_down, z0_law])), (a0_down, .inr (2, [z0_down_formX, z0_down_formY, z0_down_foxX, z0_down_foxY, z0_down_seat, z0_down_strength, z0_down_debts, z0_down_near, z0_down_forms, .int v0_down_hares, z0_down_foxes, z0_down_safe])), (a0_row, .inl (cyI, 64, .inl f0_row))] sz)) (va_Qi (fun (r : Int32) (_ : Unit) => Q r ) (cB (dC, dI) (kT cyB cyI cyJ cyP) (va_A [(a0, .inr (1, [.ref a0_row, z0_owedEach, .ref a0_down, z0_law])), (a0_down, .inr (2, [z0_down_formX, z0_down_formY, z0_down_foxX, z0_down_foxY, z0_down_seat, z0_down_strength, z0_down_debts, z0_down_near, z0_down_forms, .int v0_down_hares, z0_down_foxes, z0_down_safe])), (a0_row, .inl (cyI, 64, .inl f0_row))] sz) (fun u : Unit => ([(a0, .inr (1, [.ref a0_row, z0_owedEach, .ref a0_down, z0_law])), (a0_down, .inr (2, [z0_down_formX, z0_down_formY, z0_down_foxX, z0_down_foxY, z0_down_seat, z0_down_strength, z0_down_debts, z0_down_near, z0_down_forms, .int v0_down_hares, z0_down_foxes, z0_down_safe])), (a0_row, .inl (cyI, 64, .inl f0_row))] : va_W))) (va_A [(a0, .inr (1, [.ref a0_row, z0_owedEach, .ref a0_down, z0_law])), (a0_down, .inr (2, [z0_down_formX, z0_down_formY, z0_down_foxX, z0_down_foxY, z0_down_seat, z0_down_strength, z0_down_debts, z0_down_near, z0_down_forms, .int v0_down_hares, z0_down_foxes, z0_down_safe])), (a0_row, .inl (cyI, 64, .inl f0_row))] sz)) 0 0 (va_A [(a0, .inr (1, [.ref a0_row, z0_owedEach, .ref a0_down, z0_law])), (a0_down, .inr (2, [z0_down_formX, z0_down_formY, z0_down_foxX, z0_down_foxY, z0_down_seat, z0_down_strength, z0_down_debts, z0_down_near, z0_down_forms, .int v0_down_hares, z0_down_foxes, z0_down_safe])), (a0_row, .inl (cyI, 64, .inl f0_row))] sz) := by
  refine Met.ofW (cc := cX1_owes) (maxL := 4) (ret := (some .int)) (by decide) rfl ?_
  intro p e s m args below meth c s₁ B hml hv
  obtain ⟨rfl, hsz, hP, hK, hD0, hNw⟩ := hv
  have hx := B.exec
  have hb := B.bytes
  have hr := B.returns
  have hts := atoms_spec (ws := wsX1_owes) B.pre
  have hown : s.vm.findClass RX1 = some m.cls := findClass_of_methodNamed B.named
  have hlocks := B.notSynchronized
  subst hsz
  have hD := hD0.self (sz := s.heap.size)
  generalize hAe : va_A [(a0, .inr (1, [.ref a0_row, z0_owedEach, .ref a0_down, z0_law])), (a0_down, .inr (2, [z0_down_formX, z0_down_formY, z0_down_foxX, z0_down_foxY, z0_down_seat, z0_down_strength, z0_down_debts, z0_down_near, z0_down_forms, .int v0_down_hares, z0_down_foxes, z0_down_safe])), (a0_row, .inl (cyI, 64, .inl f0_row))] s.heap.size = A at hD ⊢
  have hA : ∀ q : Nat, s.heap.size ≤ q → A q := fun q h => by rw [← hAe]; exact Or.inr h
  have hS : va_S A s.heap s.heap [] := va_S.rf
  have hP : va_P (dC, dI) vwCl [(a0, .inr (1, [.ref a0_row, z0_owedEach, .ref a0_down, z0_law])), (a0_down, .inr (2, [z0_down_formX, z0_down_formY, z0_down_foxX, z0_down_foxY, z0_down_seat, z0_down_strength, z0_down_debts, z0_down_near, z0_down_forms, .int v0_down_hares, z0_down_foxes, z0_down_safe])), (a0_row, .inl (cyI, 64, .inl f0_row))] s.heap := hP
  have hl := lv_entry ([.ref a0, .int p1]) (n := 4) (Nat.le_of_ble_eq_true rfl)
  rw [lg_entry_eq]
  generalize (lg_sl ([.ref a0, .int p1]) ++ List.replicate (4 - (lg_sl ([.ref a0, .int p1])).length) Slot.unset).toArray = ls at hl ⊢
  have hl : lv_has ls 4 [(0, .ref a0), (1, .int p1)] := hl
  have C0 : cfx p s m _ meth c cX1_owes (some .int) wsX1_owes RX1 4 A (dC, dI) (kT cyB cyI cyJ cyP) := ⟨hx, hb, hr, hts, hown, hlocks, hml, hA, hK, hNw⟩
  clear hAe
  obtain ⟨H, hH⟩ : ∃ H, H = s.heap := ⟨_, rfl⟩
  rw [← hH] at hP ⊢
  have hS : va_S A s.heap H [] := by rw [hH]; exact va_S.rf
  have hS := hS
  refine lv_iconst (v := 0) hx hb dX1_owes_0 (by decide) ?_
  refine lv_istore_n (lv' := [(2, .int 0), (0, .ref a0), (1, .int p1)]) hx hb dX1_owes_1 rfl hl (by decide) rfl (fun ls hl => ?_)
  refine lv_iconst (v := 0) hx hb dX1_owes_2 (by decide) ?_
  refine lv_istore_n (lv' := [(3, .int 0), (2, .int 0), (0, .ref a0), (1, .int p1)]) hx hb dX1_owes_3 rfl hl (by decide) rfl (fun ls hl => ?_)
  obtain ⟨n9, hw⟩ := hw
  exact kl_X1_owes_4 dC dI cyB cyI cyJ cyP a0 a0_down a0_row z0_owedEach z0_law z0_down_formX z0_down_formY z0_down_foxX z0_down_foxY z0_down_seat z0_down_strength z0_down_debts z0_down_near z0_down_forms z0_down_foxes z0_down_safe v0_down_hares f0_row Q  C0 n9 _ _ _ p1 0 0 hP hD hS (lv_sub hl [2, 3, 1, 0] rfl) hw
theorem ui_X1_owed_X1 : ∀ w ∈ u_ws RX1 TX1 4, w ∈ wsX1_owed := by decide +kernel
theorem ui_X1_owed_X2 : ∀ w ∈ u_ws RX2 TX2 12, w ∈ wsX1_owed := by decide +kernel
theorem uw_X1_owed_f24 : (.fieldLink RX1 24 "MarchHares$Days" "down" "LMarchHares$Down;" : Cond) ∈ wsX1_owed := by decide +kernel
theorem uw_X1_owed_f32 : (.fieldLink RX1 32 "MarchHares$Down" "hares" "I" : Cond) ∈ wsX1_owed := by decide +kernel
def wl_X1_owed_4 (v0_down_hares : Int32) (f0_row : Nat → Int32) (Q : Int32 → Prop)  : Nat → Int32 → Int32 → Int32 → Prop
  | 0, _, _, _ => False
  | n + 1, l1, l2, l3 => ((v0_down_hares ≤ l3 → (Q l2)) ∧ (¬ v0_down_hares ≤ l3 → wq_X1_owesTo f0_row  l3 l1 (fun r2 => ∀ x3 : Int32, x3 = l2 + r2 → ∀ x4 : Int32, x4 = l3 + 1 → (wl_X1_owed_4 v0_down_hares f0_row Q  n l1 x3 x4))))
set_option maxHeartbeats 4000000 in
set_option maxRecDepth 100000 in
theorem kl_X1_owed_4 {p : Program} {l : Launch} {e : Env} {s : State} {m : MethodId} {args : Array Value} {below : List Frame} {meth : Method} {c : Code} {A : Nat → Prop} (dC : Nat → ClassId) (dI : Nat → Nat → Nat) (cyB cyI cyJ cyP : ClassId) (a0 a0_down a0_row : Nat) (z0_owedEach : Value) (z0_law : Value) (z0_down_formX : Value) (z0_down_formY : Value) (z0_down_foxX : Value) (z0_down_foxY : Value) (z0_down_seat : Value) (z0_down_strength : Value) (z0_down_debts : Value) (z0_down_near : Value) (z0_down_forms : Value) (z0_down_foxes : Value) (z0_down_safe : Value) (v0_down_hares : Int32) (f0_row : Nat → Int32) (Q : Int32 → Prop)  (C0 : cfx p s m args meth c cX1_owed (some .int) wsX1_owed RX1 4 A (dC, dI) (kT cyB cyI cyJ cyP)) : ∀ (n : Nat) (H : Heap) (locs : List Loc) (ls : Array Slot) (l1 : Int32) (l2 : Int32) (l3 : Int32), va_P (dC, dI) vwCl [(a0, .inr (1, [.ref a0_row, z0_owedEach, .ref a0_down, z0_law])), (a0_down, .inr (2, [z0_down_formX, z0_down_formY, z0_down_foxX, z0_down_foxY, z0_down_seat, z0_down_strength, z0_down_debts, z0_down_near, z0_down_forms, .int v0_down_hares, z0_down_foxes, z0_down_safe])), (a0_row, .inl (cyI, 64, .inl f0_row))] H → va_D A [(a0, .inr (1, [.ref a0_row, z0_owedEach, .ref a0_down, z0_law])), (a0_down, .inr (2, [z0_down_formX, z0_down_formY, z0_down_foxX, z0_down_foxY, z0_down_seat, z0_down_strength, z0_down_debts, z0_down_near, z0_down_forms, .int v0_down_hares, z0_down_foxes, z0_down_safe])), (a0_row, .inl (cyI, 64, .inl f0_row))] → va_S A s.heap H locs → lv_has ls 4 [(0, .ref a0), (1, .int l1), (2, .int l2), (3, .int l3)] → wl_X1_owed_4 v0_down_hares f0_row Q  n l1 l2 l3 → W p l e (headSpec wsX1_owed ({ frames := 1, cells := 0, slots := 0, locals := 22 })).room s m args below meth c H locs 0 0 (MQ below (va_Qi (fun (r : Int32) (_ : Unit) => Q r ) (cB (dC, dI) (kT cyB cyI cyJ cyP) A (fun u : Unit => ([(a0, .inr (1, [.ref a0_row, z0_owedEach, .ref a0_down, z0_law])), (a0_down, .inr (2, [z0_down_formX, z0_down_formY, z0_down_foxX, z0_down_foxY, z0_down_seat, z0_down_strength, z0_down_debts, z0_down_near, z0_down_forms, .int v0_down_hares, z0_down_foxes, z0_down_safe])), (a0_row, .inl (cyI, 64, .inl f0_row))] : va_W))) A) args s 0 0 A) (F0 m 4 ls []) := by
  obtain ⟨hx, hb, hr, hts, hown, hlocks, hml, hA, hK, hNw⟩ := id C0
  intro n
  induction n with
  | zero => intro H locs ls l1 l2 l3 hP hD hS hl hw; exact False.elim hw
  | succ n ih =>
    intro H locs ls l1 l2 l3 hP hD hS hl hw
    refine lv_iload_n hx hb dX1_owed_4 rfl (lv_at hl 3 rfl) ?_
    refine lv_aload_n hx hb dX1_owed_5 rfl (lv_at hl 0 rfl) ?_
    refine va_get (D := (dC, dI)) (ci := 1) (v := .ref a0_down) (C := RX1) (T := TX1) (N := 4) hx hb hts ui_X1_owed_X1 hown hK hP 0 rfl rfl 2 (by decide) (hts _ uw_X1_owed_f24) (fun _ h9 => h9) rfl dX1_owed_6 ?_
    refine va_get (D := (dC, dI)) (ci := 2) (v := .int v0_down_hares) (C := RX2) (T := TX2) (N := 12) hx hb hts ui_X1_owed_X2 hown hK hP 1 rfl rfl 9 (by decide) (hts _ uw_X1_owed_f32) (fun _ h9 => h9) rfl dX1_owed_9 ?_
    refine lv_icmp_ge (tgt := 30) hx hb dX1_owed_12 (by decide) (fun c1 => ?_) (fun c1 => ?_)
    · have hw := hw.1 c1
      refine lv_iload_n hx hb dX1_owed_30 rfl (lv_at hl 2 rfl) ?_
      exact ((W.iret (v := l2) hx hb hr (fun t ht hW => ⟨⟨l2, (), rfl, hw, by rw [ht]; exact hP, va_K.moved hW.alike hK, hD⟩, hS.F ht⟩) hS.2.2 dX1_owed_31))
    · have hw := hw.2 c1
      refine lv_iload_n hx hb dX1_owed_15 rfl (lv_at hl 2 rfl) ?_
      refine lv_aload_n hx hb dX1_owed_16 rfl (lv_at hl 0 rfl) ?_
      refine lv_iload_n hx hb dX1_owed_17 rfl (lv_at hl 3 rfl) ?_
      refine lv_iload_n hx hb dX1_owed_18 rfl (lv_at hl 1 rfl) ?_
      have hPc := hP.sub (ws' := [(a0, .inr (1, [.ref a0_row, z0_owedEach, .ref a0_down, z0_law])), (a0_row, .inl (cyI, 64, .inl f0_row))]) [0, 2] rfl
      have hDc := hD.sub (ws' := [(a0, .inr (1, [.ref a0_row, z0_owedEach, .ref a0_down, z0_law])), (a0_row, .inl (cyI, 64, .inl f0_row))]) [0, 2] (by decide) rfl
      have hFc := va_free (wc := [(a0, .inr (1, [.ref a0_row, z0_owedEach, .ref a0_down, z0_law])), (a0_row, .inl (cyI, 64, .inl f0_row))]) hD hS hA [0, 2] rfl
      refine va_calli (va_runV (As := [.int l3, .int l1]) (rest := [.int l2]) ⟨hx, hb, hml, hown, hts⟩ (ck_X1_owesTo l dC dI cyB cyI cyJ cyP a0 a0_row H.size (z0_owedEach) (.ref a0_down) (z0_law) f0_row  l3 l1 hw) (cwV 2 hts gX1_owed_X1_owesTo rfl rfl rfl (by decide +kernel) ⟨Nat.le_of_ble_eq_true rfl, Nat.le_of_ble_eq_true rfl⟩) ⟨cPc_blind, va_recv hK hPc (ci := 1) (q0 := 0) rfl rfl, cPc_pre hPc hK hDc hNw⟩ rfl rfl hl.1 rfl (lv_room (Nat.le_of_ble_eq_true rfl)) dX1_owed_19 ⟨Nat.le_of_ble_eq_true rfl, Nat.le_of_ble_eq_true rfl⟩) hS (fun q _ h => hFc q h) hFc (fun r2 u t H1 locs ht hvm hw hB hz1 hk1 hS => ?_)
      obtain ⟨hP1, hK1, hD1⟩ := hB
      rw [ht] at hP1
      obtain ⟨hP, hD⟩ := va_join (wr := [(a0_down, .inr (2, [z0_down_formX, z0_down_formY, z0_down_foxX, z0_down_foxY, z0_down_seat, z0_down_strength, z0_down_debts, z0_down_near, z0_down_forms, .int v0_down_hares, z0_down_foxes, z0_down_safe]))]) (w1 := [(a0, .inr (1, [.ref a0_row, z0_owedEach, .ref a0_down, z0_law])), (a0_row, .inl (cyI, 64, .inl f0_row))]) hP hD [0, 2] [1] rfl rfl (by decide) (by decide) hk1 hFc hP1 hD1
      have hP : va_P (dC, dI) vwCl [(a0, .inr (1, [.ref a0_row, z0_owedEach, .ref a0_down, z0_law])), (a0_down, .inr (2, [z0_down_formX, z0_down_formY, z0_down_foxX, z0_down_foxY, z0_down_seat, z0_down_strength, z0_down_debts, z0_down_near, z0_down_forms, .int v0_down_hares, z0_down_foxes, z0_down_safe])), (a0_row, .inl (cyI, 64, .inl f0_row))] H1 := hP.sub [1, 0, 2] rfl
      have hD : va_D A [(a0, .inr (1, [.ref a0_row, z0_owedEach, .ref a0_down, z0_law])), (a0_down, .inr (2, [z0_down_formX, z0_down_formY, z0_down_foxX, z0_down_foxY, z0_down_seat, z0_down_strength, z0_down_debts, z0_down_near, z0_down_forms, .int v0_down_hares, z0_down_foxes, z0_down_safe])), (a0_row, .inl (cyI, 64, .inl f0_row))] := hD.sub [1, 0, 2] (by decide) rfl
      generalize H1 = H at hP hS ⊢
      refine lv_iadd hx hb dX1_owed_22 ?_
      refine lv_topi (fun x3 ex3 => ?_)
      have hw := hw x3 ex3
      refine lv_istore_n (lv' := [(2, .int x3), (0, .ref a0), (1, .int l1), (3, .int l3)]) hx hb dX1_owed_23 rfl hl (by decide) rfl (fun ls hl => ?_)
      obtain ⟨x4, ex4⟩ : ∃ y : Int32, y = l3 + 1 := ⟨_, rfl⟩
      have hw := hw x4 ex4
      refine lv_iinc (v := x4) (lv' := [(3, .int x4), (2, .int x3), (0, .ref a0), (1, .int l1)]) hx hb dX1_owed_24 hl (k := 3) rfl (by rw [ex4]; rfl) (by decide) rfl (fun ls hl => ?_)
      refine lv_goto (tgt := 4) hx hb dX1_owed_27 (by decide) ?_
      exact ih _ _ _ l1 x3 x4 hP hD hS (lv_sub hl [2, 3, 1, 0] rfl) hw
def wq_X1_owed (v0_down_hares : Int32) (f0_row : Nat → Int32)  (p1 : Int32) (Q : Int32 → Prop) : Prop := (∃ k9 : Nat, wl_X1_owed_4 v0_down_hares f0_row Q  k9 p1 0 0)
set_option maxHeartbeats 4000000 in
set_option maxRecDepth 100000 in
theorem ck_X1_owed (l : Launch) (dC : Nat → ClassId) (dI : Nat → Nat → Nat) (cyB cyI cyJ cyP : ClassId) (a0 a0_down a0_row : Nat) (sz : Nat) (z0_owedEach : Value) (z0_law : Value) (z0_down_formX : Value) (z0_down_formY : Value) (z0_down_foxX : Value) (z0_down_foxY : Value) (z0_down_seat : Value) (z0_down_strength : Value) (z0_down_debts : Value) (z0_down_near : Value) (z0_down_forms : Value) (z0_down_foxes : Value) (z0_down_safe : Value) (v0_down_hares : Int32) (f0_row : Nat → Int32)  (p1 : Int32) {Q : Int32 → Prop} (hw : wq_X1_owed v0_down_hares f0_row  p1 Q) : Met l yX1_owed wsX1_owed ({ frames := 1, cells := 0, slots := 0, locals := 22 }) (va_Pc [.ref a0, .int p1] (cPc (dC, dI) (kT cyB cyI cyJ cyP) [(a0, .inr (1, [.ref a0_row, z0_owedEach, .ref a0_down, z0_law])), (a0_down, .inr (2, [z0_down_formX, z0_down_formY, z0_down_foxX, z0_down_foxY, z0_down_seat, z0_down_strength, z0_down_debts, z0_down_near, z0_down_forms, .int v0_down_hares, z0_down_foxes, z0_down_safe])), (a0_row, .inl (cyI, 64, .inl f0_row))] sz)) (va_Qi (fun (r : Int32) (_ : Unit) => Q r ) (cB (dC, dI) (kT cyB cyI cyJ cyP) (va_A [(a0, .inr (1, [.ref a0_row, z0_owedEach, .ref a0_down, z0_law])), (a0_down, .inr (2, [z0_down_formX, z0_down_formY, z0_down_foxX, z0_down_foxY, z0_down_seat, z0_down_strength, z0_down_debts, z0_down_near, z0_down_forms, .int v0_down_hares, z0_down_foxes, z0_down_safe])), (a0_row, .inl (cyI, 64, .inl f0_row))] sz) (fun u : Unit => ([(a0, .inr (1, [.ref a0_row, z0_owedEach, .ref a0_down, z0_law])), (a0_down, .inr (2, [z0_down_formX, z0_down_formY, z0_down_foxX, z0_down_foxY, z0_down_seat, z0_down_strength, z0_down_debts, z0_down_near, z0_down_forms, .int v0_down_hares, z0_down_foxes, z0_down_safe])), (a0_row, .inl (cyI, 64, .inl f0_row))] : va_W))) (va_A [(a0, .inr (1, [.ref a0_row, z0_owedEach, .ref a0_down, z0_law])), (a0_down, .inr (2, [z0_down_formX, z0_down_formY, z0_down_foxX, z0_down_foxY, z0_down_seat, z0_down_strength, z0_down_debts, z0_down_near, z0_down_forms, .int v0_down_hares, z0_down_foxes, z0_down_safe])), (a0_row, .inl (cyI, 64, .inl f0_row))] sz)) 0 0 (va_A [(a0, .inr (1, [.ref a0_row, z0_owedEach, .ref a0_down, z0_law])), (a0_down, .inr (2, [z0_down_formX, z0_down_formY, z0_down_foxX, z0_down_foxY, z0_down_seat, z0_down_strength, z0_down_debts, z0_down_near, z0_down_forms, .int v0_down_hares, z0_down_foxes, z0_down_safe])), (a0_row, .inl (cyI, 64, .inl f0_row))] sz) := by
  refine Met.ofW (cc := cX1_owed) (maxL := 4) (ret := (some .int)) (by decide) rfl ?_
  intro p e s m args below meth c s₁ B hml hv
  obtain ⟨rfl, hsz, hP, hK, hD0, hNw⟩ := hv
  have hx := B.exec
  have hb := B.bytes
  have hr := B.returns
  have hts := atoms_spec (ws := wsX1_owed) B.pre
  have hown : s.vm.findClass RX1 = some m.cls := findClass_of_methodNamed B.named
  have hlocks := B.notSynchronized
  subst hsz
  have hD := hD0.self (sz := s.heap.size)
  generalize hAe : va_A [(a0, .inr (1, [.ref a0_row, z0_owedEach, .ref a0_down, z0_law])), (a0_down, .inr (2, [z0_down_formX, z0_down_formY, z0_down_foxX, z0_down_foxY, z0_down_seat, z0_down_strength, z0_down_debts, z0_down_near, z0_down_forms, .int v0_down_hares, z0_down_foxes, z0_down_safe])), (a0_row, .inl (cyI, 64, .inl f0_row))] s.heap.size = A at hD ⊢
  have hA : ∀ q : Nat, s.heap.size ≤ q → A q := fun q h => by rw [← hAe]; exact Or.inr h
  have hS : va_S A s.heap s.heap [] := va_S.rf
  have hP : va_P (dC, dI) vwCl [(a0, .inr (1, [.ref a0_row, z0_owedEach, .ref a0_down, z0_law])), (a0_down, .inr (2, [z0_down_formX, z0_down_formY, z0_down_foxX, z0_down_foxY, z0_down_seat, z0_down_strength, z0_down_debts, z0_down_near, z0_down_forms, .int v0_down_hares, z0_down_foxes, z0_down_safe])), (a0_row, .inl (cyI, 64, .inl f0_row))] s.heap := hP
  have hl := lv_entry ([.ref a0, .int p1]) (n := 4) (Nat.le_of_ble_eq_true rfl)
  rw [lg_entry_eq]
  generalize (lg_sl ([.ref a0, .int p1]) ++ List.replicate (4 - (lg_sl ([.ref a0, .int p1])).length) Slot.unset).toArray = ls at hl ⊢
  have hl : lv_has ls 4 [(0, .ref a0), (1, .int p1)] := hl
  have C0 : cfx p s m _ meth c cX1_owed (some .int) wsX1_owed RX1 4 A (dC, dI) (kT cyB cyI cyJ cyP) := ⟨hx, hb, hr, hts, hown, hlocks, hml, hA, hK, hNw⟩
  clear hAe
  obtain ⟨H, hH⟩ : ∃ H, H = s.heap := ⟨_, rfl⟩
  rw [← hH] at hP ⊢
  have hS : va_S A s.heap H [] := by rw [hH]; exact va_S.rf
  have hS := hS
  refine lv_iconst (v := 0) hx hb dX1_owed_0 (by decide) ?_
  refine lv_istore_n (lv' := [(2, .int 0), (0, .ref a0), (1, .int p1)]) hx hb dX1_owed_1 rfl hl (by decide) rfl (fun ls hl => ?_)
  refine lv_iconst (v := 0) hx hb dX1_owed_2 (by decide) ?_
  refine lv_istore_n (lv' := [(3, .int 0), (2, .int 0), (0, .ref a0), (1, .int p1)]) hx hb dX1_owed_3 rfl hl (by decide) rfl (fun ls hl => ?_)
  obtain ⟨n9, hw⟩ := hw
  exact kl_X1_owed_4 dC dI cyB cyI cyJ cyP a0 a0_down a0_row z0_owedEach z0_law z0_down_formX z0_down_formY z0_down_foxX z0_down_foxY z0_down_seat z0_down_strength z0_down_debts z0_down_near z0_down_forms z0_down_foxes z0_down_safe v0_down_hares f0_row Q  C0 n9 _ _ _ p1 0 0 hP hD hS (lv_sub hl [2, 3, 1, 0] rfl) hw
theorem ui_X4_setFacts_X4 : ∀ w ∈ u_ws RX4 TX4 5, w ∈ wsX4_setFacts := by decide +kernel
theorem uw_X4_setFacts_f21 : (.fieldLink RX4 21 "MarchHares$Law" "facts" "[I" : Cond) ∈ wsX4_setFacts := by decide +kernel
def wq_X4_setFacts  (f0_facts : Nat → Int32) (p1 : Int32) (p2 : Int32) (p3 : Int32) (p4 : Int32) (p5 : Int32) (Q : (Nat → Int32) → Prop) : Prop := ∀ f1 : Nat → Int32, f1 = upd f0_facts (0 : Int32).toNatClampNeg p1 → ∀ f2 : Nat → Int32, f2 = upd f1 (1 : Int32).toNatClampNeg p2 → ∀ f3 : Nat → Int32, f3 = upd f2 (2 : Int32).toNatClampNeg p3 → ∀ f4 : Nat → Int32, f4 = upd f3 (3 : Int32).toNatClampNeg p4 → ∀ f5 : Nat → Int32, f5 = upd f4 (4 : Int32).toNatClampNeg p5 → (Q f5)
set_option maxHeartbeats 4000000 in
set_option maxRecDepth 100000 in
theorem ck_X4_setFacts (l : Launch) (dC : Nat → ClassId) (dI : Nat → Nat → Nat) (cyB cyI cyJ cyP : ClassId) (a0 a0_facts : Nat) (sz : Nat) (z0_kinds : Value) (z0_values : Value) (z0_pile : Value) (z0_length : Value)  (f0_facts : Nat → Int32) (p1 : Int32) (p2 : Int32) (p3 : Int32) (p4 : Int32) (p5 : Int32) {Q : (Nat → Int32) → Prop} (hw : wq_X4_setFacts  f0_facts p1 p2 p3 p4 p5 Q) : Met l yX4_setFacts wsX4_setFacts ({ frames := 0, cells := 0, slots := 0, locals := 0 }) (va_Pc [.ref a0, .int p1, .int p2, .int p3, .int p4, .int p5] (cPc (dC, dI) (kT cyB cyI cyJ cyP) [(a0, .inr (4, [z0_kinds, z0_values, z0_pile, .ref a0_facts, z0_length])), (a0_facts, .inl (cyI, 8, .inl f0_facts))] sz)) (va_Qv (fun (u : (Nat → Int32)) => Q u) (cB (dC, dI) (kT cyB cyI cyJ cyP) (va_A [(a0, .inr (4, [z0_kinds, z0_values, z0_pile, .ref a0_facts, z0_length])), (a0_facts, .inl (cyI, 8, .inl f0_facts))] sz) (fun u : (Nat → Int32) => ([(a0, .inr (4, [z0_kinds, z0_values, z0_pile, .ref a0_facts, z0_length])), (a0_facts, .inl (cyI, 8, .inl u))] : va_W))) (va_A [(a0, .inr (4, [z0_kinds, z0_values, z0_pile, .ref a0_facts, z0_length])), (a0_facts, .inl (cyI, 8, .inl f0_facts))] sz)) 0 0 (va_A [(a0, .inr (4, [z0_kinds, z0_values, z0_pile, .ref a0_facts, z0_length])), (a0_facts, .inl (cyI, 8, .inl f0_facts))] sz) := by
  refine Met.ofW (cc := cX4_setFacts) (maxL := 6) (ret := none) (by decide) rfl ?_
  intro p e s m args below meth c s₁ B hml hv
  obtain ⟨rfl, hsz, hP, hK, hD0, hNw⟩ := hv
  have hx := B.exec
  have hb := B.bytes
  have hr := B.returns
  have hts := atoms_spec (ws := wsX4_setFacts) B.pre
  have hown : s.vm.findClass RX4 = some m.cls := findClass_of_methodNamed B.named
  have hlocks := B.notSynchronized
  subst hsz
  have hD := hD0.self (sz := s.heap.size)
  generalize hAe : va_A [(a0, .inr (4, [z0_kinds, z0_values, z0_pile, .ref a0_facts, z0_length])), (a0_facts, .inl (cyI, 8, .inl f0_facts))] s.heap.size = A at hD ⊢
  have hA : ∀ q : Nat, s.heap.size ≤ q → A q := fun q h => by rw [← hAe]; exact Or.inr h
  have hS : va_S A s.heap s.heap [] := va_S.rf
  have hP : va_P (dC, dI) vwCl [(a0, .inr (4, [z0_kinds, z0_values, z0_pile, .ref a0_facts, z0_length])), (a0_facts, .inl (cyI, 8, .inl f0_facts))] s.heap := hP
  have hl := lv_entry ([.ref a0, .int p1, .int p2, .int p3, .int p4, .int p5]) (n := 6) (Nat.le_of_ble_eq_true rfl)
  rw [lg_entry_eq]
  generalize (lg_sl ([.ref a0, .int p1, .int p2, .int p3, .int p4, .int p5]) ++ List.replicate (6 - (lg_sl ([.ref a0, .int p1, .int p2, .int p3, .int p4, .int p5])).length) Slot.unset).toArray = ls at hl ⊢
  have hl : lv_has ls 6 [(0, .ref a0), (1, .int p1), (2, .int p2), (3, .int p3), (4, .int p4), (5, .int p5)] := hl
  have C0 : cfx p s m _ meth c cX4_setFacts none wsX4_setFacts RX4 6 A (dC, dI) (kT cyB cyI cyJ cyP) := ⟨hx, hb, hr, hts, hown, hlocks, hml, hA, hK, hNw⟩
  clear hAe
  obtain ⟨H, hH⟩ : ∃ H, H = s.heap := ⟨_, rfl⟩
  rw [← hH] at hP ⊢
  have hS : va_S A s.heap H [] := by rw [hH]; exact va_S.rf
  have hS := hS
  refine lv_aload_n hx hb dX4_setFacts_0 rfl (lv_at hl 0 rfl) ?_
  refine va_get (D := (dC, dI)) (ci := 4) (v := .ref a0_facts) (C := RX4) (T := TX4) (N := 5) hx hb hts ui_X4_setFacts_X4 hown hK hP 0 rfl rfl 3 (by decide) (hts _ uw_X4_setFacts_f21) (fun _ h9 => h9) rfl dX4_setFacts_1 ?_
  refine lv_iconst (v := 0) hx hb dX4_setFacts_4 (by decide) ?_
  refine lv_iload_n hx hb dX4_setFacts_5 rfl (lv_at hl 1 rfl) ?_
  refine va_iast hx hb hK hP hD hS 1 1 rfl rfl (vin (by decide)) dX4_setFacts_6 (fun H locs hP hD hS => ?_)
  obtain ⟨f1, ef1⟩ : ∃ y : Nat → Int32, y = upd f0_facts (0 : Int32).toNatClampNeg p1 := ⟨_, rfl⟩
  have hw := hw f1 ef1
  have hP : va_P (dC, dI) vwCl [(a0, .inr (4, [z0_kinds, z0_values, z0_pile, .ref a0_facts, z0_length])), (a0_facts, .inl (cyI, 8, .inl f1))] H := by rw [ef1]; exact hP
  have hD : va_D A [(a0, .inr (4, [z0_kinds, z0_values, z0_pile, .ref a0_facts, z0_length])), (a0_facts, .inl (cyI, 8, .inl f1))] := by rw [ef1]; exact hD
  refine lv_aload_n hx hb dX4_setFacts_7 rfl (lv_at hl 0 rfl) ?_
  refine va_get (D := (dC, dI)) (ci := 4) (v := .ref a0_facts) (C := RX4) (T := TX4) (N := 5) hx hb hts ui_X4_setFacts_X4 hown hK hP 0 rfl rfl 3 (by decide) (hts _ uw_X4_setFacts_f21) (fun _ h9 => h9) rfl dX4_setFacts_8 ?_
  refine lv_iconst (v := 1) hx hb dX4_setFacts_11 (by decide) ?_
  refine lv_iload_n hx hb dX4_setFacts_12 rfl (lv_at hl 2 rfl) ?_
  refine va_iast hx hb hK hP hD hS 1 1 rfl rfl (vin (by decide)) dX4_setFacts_13 (fun H locs hP hD hS => ?_)
  obtain ⟨f2, ef2⟩ : ∃ y : Nat → Int32, y = upd f1 (1 : Int32).toNatClampNeg p2 := ⟨_, rfl⟩
  have hw := hw f2 ef2
  have hP : va_P (dC, dI) vwCl [(a0, .inr (4, [z0_kinds, z0_values, z0_pile, .ref a0_facts, z0_length])), (a0_facts, .inl (cyI, 8, .inl f2))] H := by rw [ef2]; exact hP
  have hD : va_D A [(a0, .inr (4, [z0_kinds, z0_values, z0_pile, .ref a0_facts, z0_length])), (a0_facts, .inl (cyI, 8, .inl f2))] := by rw [ef2]; exact hD
  refine lv_aload_n hx hb dX4_setFacts_14 rfl (lv_at hl 0 rfl) ?_
  refine va_get (D := (dC, dI)) (ci := 4) (v := .ref a0_facts) (C := RX4) (T := TX4) (N := 5) hx hb hts ui_X4_setFacts_X4 hown hK hP 0 rfl rfl 3 (by decide) (hts _ uw_X4_setFacts_f21) (fun _ h9 => h9) rfl dX4_setFacts_15 ?_
  refine lv_iconst (v := 2) hx hb dX4_setFacts_18 (by decide) ?_
  refine lv_iload_n hx hb dX4_setFacts_19 rfl (lv_at hl 3 rfl) ?_
  refine va_iast hx hb hK hP hD hS 1 1 rfl rfl (vin (by decide)) dX4_setFacts_20 (fun H locs hP hD hS => ?_)
  obtain ⟨f3, ef3⟩ : ∃ y : Nat → Int32, y = upd f2 (2 : Int32).toNatClampNeg p3 := ⟨_, rfl⟩
  have hw := hw f3 ef3
  have hP : va_P (dC, dI) vwCl [(a0, .inr (4, [z0_kinds, z0_values, z0_pile, .ref a0_facts, z0_length])), (a0_facts, .inl (cyI, 8, .inl f3))] H := by rw [ef3]; exact hP
  have hD : va_D A [(a0, .inr (4, [z0_kinds, z0_values, z0_pile, .ref a0_facts, z0_length])), (a0_facts, .inl (cyI, 8, .inl f3))] := by rw [ef3]; exact hD
  refine lv_aload_n hx hb dX4_setFacts_21 rfl (lv_at hl 0 rfl) ?_
  refine va_get (D := (dC, dI)) (ci := 4) (v := .ref a0_facts) (C := RX4) (T := TX4) (N := 5) hx hb hts ui_X4_setFacts_X4 hown hK hP 0 rfl rfl 3 (by decide) (hts _ uw_X4_setFacts_f21) (fun _ h9 => h9) rfl dX4_setFacts_22 ?_
  refine lv_iconst (v := 3) hx hb dX4_setFacts_25 (by decide) ?_
  refine lv_iload hx hb dX4_setFacts_26 (lv_at hl 4 rfl) ?_
  refine va_iast hx hb hK hP hD hS 1 1 rfl rfl (vin (by decide)) dX4_setFacts_28 (fun H locs hP hD hS => ?_)
  obtain ⟨f4, ef4⟩ : ∃ y : Nat → Int32, y = upd f3 (3 : Int32).toNatClampNeg p4 := ⟨_, rfl⟩
  have hw := hw f4 ef4
  have hP : va_P (dC, dI) vwCl [(a0, .inr (4, [z0_kinds, z0_values, z0_pile, .ref a0_facts, z0_length])), (a0_facts, .inl (cyI, 8, .inl f4))] H := by rw [ef4]; exact hP
  have hD : va_D A [(a0, .inr (4, [z0_kinds, z0_values, z0_pile, .ref a0_facts, z0_length])), (a0_facts, .inl (cyI, 8, .inl f4))] := by rw [ef4]; exact hD
  refine lv_aload_n hx hb dX4_setFacts_29 rfl (lv_at hl 0 rfl) ?_
  refine va_get (D := (dC, dI)) (ci := 4) (v := .ref a0_facts) (C := RX4) (T := TX4) (N := 5) hx hb hts ui_X4_setFacts_X4 hown hK hP 0 rfl rfl 3 (by decide) (hts _ uw_X4_setFacts_f21) (fun _ h9 => h9) rfl dX4_setFacts_30 ?_
  refine lv_iconst (v := 4) hx hb dX4_setFacts_33 (by decide) ?_
  refine lv_iload hx hb dX4_setFacts_34 (lv_at hl 5 rfl) ?_
  refine va_iast hx hb hK hP hD hS 1 1 rfl rfl (vin (by decide)) dX4_setFacts_36 (fun H locs hP hD hS => ?_)
  obtain ⟨f5, ef5⟩ : ∃ y : Nat → Int32, y = upd f4 (4 : Int32).toNatClampNeg p5 := ⟨_, rfl⟩
  have hw := hw f5 ef5
  have hP : va_P (dC, dI) vwCl [(a0, .inr (4, [z0_kinds, z0_values, z0_pile, .ref a0_facts, z0_length])), (a0_facts, .inl (cyI, 8, .inl f5))] H := by rw [ef5]; exact hP
  have hD : va_D A [(a0, .inr (4, [z0_kinds, z0_values, z0_pile, .ref a0_facts, z0_length])), (a0_facts, .inl (cyI, 8, .inl f5))] := by rw [ef5]; exact hD
  exact ((W.vret hx hb hr (fun t ht hW => ⟨⟨(f5), rfl, hw, by rw [ht]; exact hP, va_K.moved hW.alike hK, hD⟩, hS.F ht⟩) hS.2.2 dX4_setFacts_37))
theorem ui_X1_day_X1 : ∀ w ∈ u_ws RX1 TX1 4, w ∈ wsX1_day := by decide +kernel
theorem uw_X1_day_f13 : (.fieldLink RX1 13 "MarchHares$Days" "row" "[I" : Cond) ∈ wsX1_day := by decide +kernel
def wq_X1_day (f0_row : Nat → Int32)   (Q : Int32 → Prop) : Prop := ∀ x1 : Int32, x1 = f0_row (0 : Int32).toNatClampNeg → (Q x1)
set_option maxHeartbeats 4000000 in
set_option maxRecDepth 100000 in
theorem ck_X1_day (l : Launch) (dC : Nat → ClassId) (dI : Nat → Nat → Nat) (cyB cyI cyJ cyP : ClassId) (a0 a0_row : Nat) (sz : Nat) (z0_owedEach : Value) (z0_down : Value) (z0_law : Value) (f0_row : Nat → Int32)   {Q : Int32 → Prop} (hw : wq_X1_day f0_row   Q) : Met l yX1_day wsX1_day ({ frames := 0, cells := 0, slots := 0, locals := 0 }) (va_Pc [.ref a0] (cPc (dC, dI) (kT cyB cyI cyJ cyP) [(a0, .inr (1, [.ref a0_row, z0_owedEach, z0_down, z0_law])), (a0_row, .inl (cyI, 64, .inl f0_row))] sz)) (va_Qi (fun (r : Int32) (_ : Unit) => Q r ) (cB (dC, dI) (kT cyB cyI cyJ cyP) (va_A [(a0, .inr (1, [.ref a0_row, z0_owedEach, z0_down, z0_law])), (a0_row, .inl (cyI, 64, .inl f0_row))] sz) (fun u : Unit => ([(a0, .inr (1, [.ref a0_row, z0_owedEach, z0_down, z0_law])), (a0_row, .inl (cyI, 64, .inl f0_row))] : va_W))) (va_A [(a0, .inr (1, [.ref a0_row, z0_owedEach, z0_down, z0_law])), (a0_row, .inl (cyI, 64, .inl f0_row))] sz)) 0 0 (va_A [(a0, .inr (1, [.ref a0_row, z0_owedEach, z0_down, z0_law])), (a0_row, .inl (cyI, 64, .inl f0_row))] sz) := by
  refine Met.ofW (cc := cX1_day) (maxL := 1) (ret := (some .int)) (by decide) rfl ?_
  intro p e s m args below meth c s₁ B hml hv
  obtain ⟨rfl, hsz, hP, hK, hD0, hNw⟩ := hv
  have hx := B.exec
  have hb := B.bytes
  have hr := B.returns
  have hts := atoms_spec (ws := wsX1_day) B.pre
  have hown : s.vm.findClass RX1 = some m.cls := findClass_of_methodNamed B.named
  have hlocks := B.notSynchronized
  subst hsz
  have hD := hD0.self (sz := s.heap.size)
  generalize hAe : va_A [(a0, .inr (1, [.ref a0_row, z0_owedEach, z0_down, z0_law])), (a0_row, .inl (cyI, 64, .inl f0_row))] s.heap.size = A at hD ⊢
  have hA : ∀ q : Nat, s.heap.size ≤ q → A q := fun q h => by rw [← hAe]; exact Or.inr h
  have hS : va_S A s.heap s.heap [] := va_S.rf
  have hP : va_P (dC, dI) vwCl [(a0, .inr (1, [.ref a0_row, z0_owedEach, z0_down, z0_law])), (a0_row, .inl (cyI, 64, .inl f0_row))] s.heap := hP
  have hl := lv_entry ([.ref a0]) (n := 1) (Nat.le_of_ble_eq_true rfl)
  rw [lg_entry_eq]
  generalize (lg_sl ([.ref a0]) ++ List.replicate (1 - (lg_sl ([.ref a0])).length) Slot.unset).toArray = ls at hl ⊢
  have hl : lv_has ls 1 [(0, .ref a0)] := hl
  have C0 : cfx p s m _ meth c cX1_day (some .int) wsX1_day RX1 1 A (dC, dI) (kT cyB cyI cyJ cyP) := ⟨hx, hb, hr, hts, hown, hlocks, hml, hA, hK, hNw⟩
  clear hAe
  obtain ⟨H, hH⟩ : ∃ H, H = s.heap := ⟨_, rfl⟩
  rw [← hH] at hP ⊢
  have hS : va_S A s.heap H [] := by rw [hH]; exact va_S.rf
  have hS := hS
  refine lv_aload_n hx hb dX1_day_0 rfl (lv_at hl 0 rfl) ?_
  refine va_get (D := (dC, dI)) (ci := 1) (v := .ref a0_row) (C := RX1) (T := TX1) (N := 4) hx hb hts ui_X1_day_X1 hown hK hP 0 rfl rfl 0 (by decide) (hts _ uw_X1_day_f13) (fun _ h9 => h9) rfl dX1_day_1 ?_
  refine lv_iconst (v := 0) hx hb dX1_day_4 (by decide) ?_
  refine va_iald hx hb hK hP 1 1 rfl rfl (vin (by decide)) dX1_day_5 ?_
  refine lv_topi (fun x1 ex1 => ?_)
  have hw := hw x1 ex1
  exact ((W.iret (v := x1) hx hb hr (fun t ht hW => ⟨⟨x1, (), rfl, hw, by rw [ht]; exact hP, va_K.moved hW.alike hK, hD⟩, hS.F ht⟩) hS.2.2 dX1_day_6))
theorem ui_X1_leaps_X1 : ∀ w ∈ u_ws RX1 TX1 4, w ∈ wsX1_leaps := by decide +kernel
theorem uw_X1_leaps_f13 : (.fieldLink RX1 13 "MarchHares$Days" "row" "[I" : Cond) ∈ wsX1_leaps := by decide +kernel
def wq_X1_leaps (f0_row : Nat → Int32)  (p1 : Int32) (Q : Int32 → Prop) : Prop := ∀ x1 : Int32, x1 = 22 + p1 → vp_in x1 64 ∧ ∀ x2 : Int32, x2 = f0_row x1.toNatClampNeg → (Q x2)
set_option maxHeartbeats 4000000 in
set_option maxRecDepth 100000 in
theorem ck_X1_leaps (l : Launch) (dC : Nat → ClassId) (dI : Nat → Nat → Nat) (cyB cyI cyJ cyP : ClassId) (a0 a0_row : Nat) (sz : Nat) (z0_owedEach : Value) (z0_down : Value) (z0_law : Value) (f0_row : Nat → Int32)  (p1 : Int32) {Q : Int32 → Prop} (hw : wq_X1_leaps f0_row  p1 Q) : Met l yX1_leaps wsX1_leaps ({ frames := 0, cells := 0, slots := 0, locals := 0 }) (va_Pc [.ref a0, .int p1] (cPc (dC, dI) (kT cyB cyI cyJ cyP) [(a0, .inr (1, [.ref a0_row, z0_owedEach, z0_down, z0_law])), (a0_row, .inl (cyI, 64, .inl f0_row))] sz)) (va_Qi (fun (r : Int32) (_ : Unit) => Q r ) (cB (dC, dI) (kT cyB cyI cyJ cyP) (va_A [(a0, .inr (1, [.ref a0_row, z0_owedEach, z0_down, z0_law])), (a0_row, .inl (cyI, 64, .inl f0_row))] sz) (fun u : Unit => ([(a0, .inr (1, [.ref a0_row, z0_owedEach, z0_down, z0_law])), (a0_row, .inl (cyI, 64, .inl f0_row))] : va_W))) (va_A [(a0, .inr (1, [.ref a0_row, z0_owedEach, z0_down, z0_law])), (a0_row, .inl (cyI, 64, .inl f0_row))] sz)) 0 0 (va_A [(a0, .inr (1, [.ref a0_row, z0_owedEach, z0_down, z0_law])), (a0_row, .inl (cyI, 64, .inl f0_row))] sz) := by
  refine Met.ofW (cc := cX1_leaps) (maxL := 2) (ret := (some .int)) (by decide) rfl ?_
  intro p e s m args below meth c s₁ B hml hv
  obtain ⟨rfl, hsz, hP, hK, hD0, hNw⟩ := hv
  have hx := B.exec
  have hb := B.bytes
  have hr := B.returns
  have hts := atoms_spec (ws := wsX1_leaps) B.pre
  have hown : s.vm.findClass RX1 = some m.cls := findClass_of_methodNamed B.named
  have hlocks := B.notSynchronized
  subst hsz
  have hD := hD0.self (sz := s.heap.size)
  generalize hAe : va_A [(a0, .inr (1, [.ref a0_row, z0_owedEach, z0_down, z0_law])), (a0_row, .inl (cyI, 64, .inl f0_row))] s.heap.size = A at hD ⊢
  have hA : ∀ q : Nat, s.heap.size ≤ q → A q := fun q h => by rw [← hAe]; exact Or.inr h
  have hS : va_S A s.heap s.heap [] := va_S.rf
  have hP : va_P (dC, dI) vwCl [(a0, .inr (1, [.ref a0_row, z0_owedEach, z0_down, z0_law])), (a0_row, .inl (cyI, 64, .inl f0_row))] s.heap := hP
  have hl := lv_entry ([.ref a0, .int p1]) (n := 2) (Nat.le_of_ble_eq_true rfl)
  rw [lg_entry_eq]
  generalize (lg_sl ([.ref a0, .int p1]) ++ List.replicate (2 - (lg_sl ([.ref a0, .int p1])).length) Slot.unset).toArray = ls at hl ⊢
  have hl : lv_has ls 2 [(0, .ref a0), (1, .int p1)] := hl
  have C0 : cfx p s m _ meth c cX1_leaps (some .int) wsX1_leaps RX1 2 A (dC, dI) (kT cyB cyI cyJ cyP) := ⟨hx, hb, hr, hts, hown, hlocks, hml, hA, hK, hNw⟩
  clear hAe
  obtain ⟨H, hH⟩ : ∃ H, H = s.heap := ⟨_, rfl⟩
  rw [← hH] at hP ⊢
  have hS : va_S A s.heap H [] := by rw [hH]; exact va_S.rf
  have hS := hS
  refine lv_aload_n hx hb dX1_leaps_0 rfl (lv_at hl 0 rfl) ?_
  refine va_get (D := (dC, dI)) (ci := 1) (v := .ref a0_row) (C := RX1) (T := TX1) (N := 4) hx hb hts ui_X1_leaps_X1 hown hK hP 0 rfl rfl 0 (by decide) (hts _ uw_X1_leaps_f13) (fun _ h9 => h9) rfl dX1_leaps_1 ?_
  refine lv_bipush (v := 22) hx hb dX1_leaps_4 (by decide) ?_
  refine lv_iload_n hx hb dX1_leaps_6 rfl (lv_at hl 1 rfl) ?_
  refine lv_iadd hx hb dX1_leaps_7 ?_
  refine lv_topi (fun x1 ex1 => ?_)
  have hw := hw x1 ex1
  obtain ⟨hi9, hw⟩ := hw
  refine va_iald hx hb hK hP 1 1 rfl rfl hi9 dX1_leaps_8 ?_
  refine lv_topi (fun x2 ex2 => ?_)
  have hw := hw x2 ex2
  exact ((W.iret (v := x2) hx hb hr (fun t ht hW => ⟨⟨x2, (), rfl, hw, by rw [ht]; exact hP, va_K.moved hW.alike hK, hD⟩, hS.F ht⟩) hS.2.2 dX1_leaps_9))
theorem ui_X4_setTimes_X4 : ∀ w ∈ u_ws RX4 TX4 5, w ∈ wsX4_setTimes := by decide +kernel
theorem uw_X4_setTimes_f21 : (.fieldLink RX4 21 "MarchHares$Law" "facts" "[I" : Cond) ∈ wsX4_setTimes := by decide +kernel
def wq_X4_setTimes  (f0_facts : Nat → Int32) (p1 : Int32) (p2 : Int32) (p3 : Int32) (Q : (Nat → Int32) → Prop) : Prop := ∀ f1 : Nat → Int32, f1 = upd f0_facts (5 : Int32).toNatClampNeg p1 → ∀ f2 : Nat → Int32, f2 = upd f1 (6 : Int32).toNatClampNeg p2 → ∀ f3 : Nat → Int32, f3 = upd f2 (7 : Int32).toNatClampNeg p3 → (Q f3)
set_option maxHeartbeats 4000000 in
set_option maxRecDepth 100000 in
theorem ck_X4_setTimes (l : Launch) (dC : Nat → ClassId) (dI : Nat → Nat → Nat) (cyB cyI cyJ cyP : ClassId) (a0 a0_facts : Nat) (sz : Nat) (z0_kinds : Value) (z0_values : Value) (z0_pile : Value) (z0_length : Value)  (f0_facts : Nat → Int32) (p1 : Int32) (p2 : Int32) (p3 : Int32) {Q : (Nat → Int32) → Prop} (hw : wq_X4_setTimes  f0_facts p1 p2 p3 Q) : Met l yX4_setTimes wsX4_setTimes ({ frames := 0, cells := 0, slots := 0, locals := 0 }) (va_Pc [.ref a0, .int p1, .int p2, .int p3] (cPc (dC, dI) (kT cyB cyI cyJ cyP) [(a0, .inr (4, [z0_kinds, z0_values, z0_pile, .ref a0_facts, z0_length])), (a0_facts, .inl (cyI, 8, .inl f0_facts))] sz)) (va_Qv (fun (u : (Nat → Int32)) => Q u) (cB (dC, dI) (kT cyB cyI cyJ cyP) (va_A [(a0, .inr (4, [z0_kinds, z0_values, z0_pile, .ref a0_facts, z0_length])), (a0_facts, .inl (cyI, 8, .inl f0_facts))] sz) (fun u : (Nat → Int32) => ([(a0, .inr (4, [z0_kinds, z0_values, z0_pile, .ref a0_facts, z0_length])), (a0_facts, .inl (cyI, 8, .inl u))] : va_W))) (va_A [(a0, .inr (4, [z0_kinds, z0_values, z0_pile, .ref a0_facts, z0_length])), (a0_facts, .inl (cyI, 8, .inl f0_facts))] sz)) 0 0 (va_A [(a0, .inr (4, [z0_kinds, z0_values, z0_pile, .ref a0_facts, z0_length])), (a0_facts, .inl (cyI, 8, .inl f0_facts))] sz) := by
  refine Met.ofW (cc := cX4_setTimes) (maxL := 4) (ret := none) (by decide) rfl ?_
  intro p e s m args below meth c s₁ B hml hv
  obtain ⟨rfl, hsz, hP, hK, hD0, hNw⟩ := hv
  have hx := B.exec
  have hb := B.bytes
  have hr := B.returns
  have hts := atoms_spec (ws := wsX4_setTimes) B.pre
  have hown : s.vm.findClass RX4 = some m.cls := findClass_of_methodNamed B.named
  have hlocks := B.notSynchronized
  subst hsz
  have hD := hD0.self (sz := s.heap.size)
  generalize hAe : va_A [(a0, .inr (4, [z0_kinds, z0_values, z0_pile, .ref a0_facts, z0_length])), (a0_facts, .inl (cyI, 8, .inl f0_facts))] s.heap.size = A at hD ⊢
  have hA : ∀ q : Nat, s.heap.size ≤ q → A q := fun q h => by rw [← hAe]; exact Or.inr h
  have hS : va_S A s.heap s.heap [] := va_S.rf
  have hP : va_P (dC, dI) vwCl [(a0, .inr (4, [z0_kinds, z0_values, z0_pile, .ref a0_facts, z0_length])), (a0_facts, .inl (cyI, 8, .inl f0_facts))] s.heap := hP
  have hl := lv_entry ([.ref a0, .int p1, .int p2, .int p3]) (n := 4) (Nat.le_of_ble_eq_true rfl)
  rw [lg_entry_eq]
  generalize (lg_sl ([.ref a0, .int p1, .int p2, .int p3]) ++ List.replicate (4 - (lg_sl ([.ref a0, .int p1, .int p2, .int p3])).length) Slot.unset).toArray = ls at hl ⊢
  have hl : lv_has ls 4 [(0, .ref a0), (1, .int p1), (2, .int p2), (3, .int p3)] := hl
  have C0 : cfx p s m _ meth c cX4_setTimes none wsX4_setTimes RX4 4 A (dC, dI) (kT cyB cyI cyJ cyP) := ⟨hx, hb, hr, hts, hown, hlocks, hml, hA, hK, hNw⟩
  clear hAe
  obtain ⟨H, hH⟩ : ∃ H, H = s.heap := ⟨_, rfl⟩
  rw [← hH] at hP ⊢
  have hS : va_S A s.heap H [] := by rw [hH]; exact va_S.rf
  have hS := hS
  refine lv_aload_n hx hb dX4_setTimes_0 rfl (lv_at hl 0 rfl) ?_
  refine va_get (D := (dC, dI)) (ci := 4) (v := .ref a0_facts) (C := RX4) (T := TX4) (N := 5) hx hb hts ui_X4_setTimes_X4 hown hK hP 0 rfl rfl 3 (by decide) (hts _ uw_X4_setTimes_f21) (fun _ h9 => h9) rfl dX4_setTimes_1 ?_
  refine lv_iconst (v := 5) hx hb dX4_setTimes_4 (by decide) ?_
  refine lv_iload_n hx hb dX4_setTimes_5 rfl (lv_at hl 1 rfl) ?_
  refine va_iast hx hb hK hP hD hS 1 1 rfl rfl (vin (by decide)) dX4_setTimes_6 (fun H locs hP hD hS => ?_)
  obtain ⟨f1, ef1⟩ : ∃ y : Nat → Int32, y = upd f0_facts (5 : Int32).toNatClampNeg p1 := ⟨_, rfl⟩
  have hw := hw f1 ef1
  have hP : va_P (dC, dI) vwCl [(a0, .inr (4, [z0_kinds, z0_values, z0_pile, .ref a0_facts, z0_length])), (a0_facts, .inl (cyI, 8, .inl f1))] H := by rw [ef1]; exact hP
  have hD : va_D A [(a0, .inr (4, [z0_kinds, z0_values, z0_pile, .ref a0_facts, z0_length])), (a0_facts, .inl (cyI, 8, .inl f1))] := by rw [ef1]; exact hD
  refine lv_aload_n hx hb dX4_setTimes_7 rfl (lv_at hl 0 rfl) ?_
  refine va_get (D := (dC, dI)) (ci := 4) (v := .ref a0_facts) (C := RX4) (T := TX4) (N := 5) hx hb hts ui_X4_setTimes_X4 hown hK hP 0 rfl rfl 3 (by decide) (hts _ uw_X4_setTimes_f21) (fun _ h9 => h9) rfl dX4_setTimes_8 ?_
  refine lv_bipush (v := 6) hx hb dX4_setTimes_11 (by decide) ?_
  refine lv_iload_n hx hb dX4_setTimes_13 rfl (lv_at hl 2 rfl) ?_
  refine va_iast hx hb hK hP hD hS 1 1 rfl rfl (vin (by decide)) dX4_setTimes_14 (fun H locs hP hD hS => ?_)
  obtain ⟨f2, ef2⟩ : ∃ y : Nat → Int32, y = upd f1 (6 : Int32).toNatClampNeg p2 := ⟨_, rfl⟩
  have hw := hw f2 ef2
  have hP : va_P (dC, dI) vwCl [(a0, .inr (4, [z0_kinds, z0_values, z0_pile, .ref a0_facts, z0_length])), (a0_facts, .inl (cyI, 8, .inl f2))] H := by rw [ef2]; exact hP
  have hD : va_D A [(a0, .inr (4, [z0_kinds, z0_values, z0_pile, .ref a0_facts, z0_length])), (a0_facts, .inl (cyI, 8, .inl f2))] := by rw [ef2]; exact hD
  refine lv_aload_n hx hb dX4_setTimes_15 rfl (lv_at hl 0 rfl) ?_
  refine va_get (D := (dC, dI)) (ci := 4) (v := .ref a0_facts) (C := RX4) (T := TX4) (N := 5) hx hb hts ui_X4_setTimes_X4 hown hK hP 0 rfl rfl 3 (by decide) (hts _ uw_X4_setTimes_f21) (fun _ h9 => h9) rfl dX4_setTimes_16 ?_
  refine lv_bipush (v := 7) hx hb dX4_setTimes_19 (by decide) ?_
  refine lv_iload_n hx hb dX4_setTimes_21 rfl (lv_at hl 3 rfl) ?_
  refine va_iast hx hb hK hP hD hS 1 1 rfl rfl (vin (by decide)) dX4_setTimes_22 (fun H locs hP hD hS => ?_)
  obtain ⟨f3, ef3⟩ : ∃ y : Nat → Int32, y = upd f2 (7 : Int32).toNatClampNeg p3 := ⟨_, rfl⟩
  have hw := hw f3 ef3
  have hP : va_P (dC, dI) vwCl [(a0, .inr (4, [z0_kinds, z0_values, z0_pile, .ref a0_facts, z0_length])), (a0_facts, .inl (cyI, 8, .inl f3))] H := by rw [ef3]; exact hP
  have hD : va_D A [(a0, .inr (4, [z0_kinds, z0_values, z0_pile, .ref a0_facts, z0_length])), (a0_facts, .inl (cyI, 8, .inl f3))] := by rw [ef3]; exact hD
  exact ((W.vret hx hb hr (fun t ht hW => ⟨⟨(f3), rfl, hw, by rw [ht]; exact hP, va_K.moved hW.alike hK, hD⟩, hS.F ht⟩) hS.2.2 dX4_setTimes_23))
theorem tsw_2_7 {x : Int32} (h : ¬ (x.toInt < 2 ∨ 7 < x.toInt)) : x = 2 ∨ x = 3 ∨ x = 4 ∨ x = 5 ∨ x = 6 ∨ x = 7 := by
  obtain ⟨j, hj, e⟩ := nI_of (x := x) (fun h0 => h (Or.inl (Int.lt_of_lt_of_le (by simpa using (Int32.lt_iff_toInt_lt.mp h0)) (by decide : (0 : Int) ≤ 2))))
  have h2 : (j : Int) ≤ 7 ∧ 2 ≤ (j : Int) := by
    have := nI_toInt hj
    rw [e] at h
    omega
  have h3 : j = 2 ∨ j = 3 ∨ j = 4 ∨ j = 5 ∨ j = 6 ∨ j = 7 := by omega
  rw [e]
  rcases h3 with rfl | rfl | rfl | rfl | rfl | rfl <;> decide
def wq_X4_joined   (p0 : Int32) (p1 : Int32) (p2 : Int32) (Q : Int32 → Prop) : Prop := (((p0.toInt < 2 ∨ 7 < p0.toInt) → ((p1 ≤ p2 → (Q p2)) ∧ (¬ p1 ≤ p2 → (Q p1)))) ∧ (p0 = 2 → (Q (p1 + p2))) ∧ (p0 = 3 → (Q (p1 - p2))) ∧ (p0 = 4 → (Q (p1 * p2))) ∧ (p0 = 5 → ((¬ p2 = 0 → ¬ p2 = 0 ∧ ∀ x4 : Int32, x4 = p1 / p2 → (Q x4)) ∧ (p2 = 0 → (Q 0)))) ∧ (p0 = 6 → ((¬ p2 = 0 → ¬ p2 = 0 ∧ ∀ x6 : Int32, x6 = p1 - p1 / p2 * p2 → (Q x6)) ∧ (p2 = 0 → (Q 0)))) ∧ (p0 = 7 → ((p2 ≤ p1 → (Q p2)) ∧ (¬ p2 ≤ p1 → (Q p1)))))
set_option maxHeartbeats 4000000 in
set_option maxRecDepth 100000 in
theorem ck_X4_joined (l : Launch) (dC : Nat → ClassId) (dI : Nat → Nat → Nat) (cyB cyI cyJ cyP : ClassId) (sz : Nat)    (p0 : Int32) (p1 : Int32) (p2 : Int32) {Q : Int32 → Prop} (hw : wq_X4_joined   p0 p1 p2 Q) : Met l yX4_joined wsX4_joined ({ frames := 0, cells := 0, slots := 0, locals := 0 }) (va_Pc [.int p0, .int p1, .int p2] (cPc (dC, dI) (kT cyB cyI cyJ cyP) [] sz)) (va_Qi (fun (r : Int32) (_ : Unit) => Q r ) (cB (dC, dI) (kT cyB cyI cyJ cyP) (va_A [] sz) (fun u : Unit => ([] : va_W))) (va_A [] sz)) 0 0 (va_A [] sz) := by
  refine Met.ofW (cc := cX4_joined) (maxL := 3) (ret := (some .int)) (by decide) rfl ?_
  intro p e s m args below meth c s₁ B hml hv
  obtain ⟨rfl, hsz, hP, hK, hD0, hNw⟩ := hv
  have hx := B.exec
  have hb := B.bytes
  have hr := B.returns
  have hts := atoms_spec (ws := wsX4_joined) B.pre
  have hown : s.vm.findClass RX4 = some m.cls := findClass_of_methodNamed B.named
  have hlocks := B.notSynchronized
  subst hsz
  have hD := hD0.self (sz := s.heap.size)
  generalize hAe : va_A [] s.heap.size = A at hD ⊢
  have hA : ∀ q : Nat, s.heap.size ≤ q → A q := fun q h => by rw [← hAe]; exact Or.inr h
  have hS : va_S A s.heap s.heap [] := va_S.rf
  have hP : va_P (dC, dI) vwCl [] s.heap := hP
  have hl := lv_entry ([.int p0, .int p1, .int p2]) (n := 3) (Nat.le_of_ble_eq_true rfl)
  rw [lg_entry_eq]
  generalize (lg_sl ([.int p0, .int p1, .int p2]) ++ List.replicate (3 - (lg_sl ([.int p0, .int p1, .int p2])).length) Slot.unset).toArray = ls at hl ⊢
  have hl : lv_has ls 3 [(0, .int p0), (1, .int p1), (2, .int p2)] := hl
  have C0 : cfx p s m _ meth c cX4_joined (some .int) wsX4_joined RX4 3 A (dC, dI) (kT cyB cyI cyJ cyP) := ⟨hx, hb, hr, hts, hown, hlocks, hml, hA, hK, hNw⟩
  clear hAe
  obtain ⟨H, hH⟩ : ∃ H, H = s.heap := ⟨_, rfl⟩
  rw [← hH] at hP ⊢
  have hS : va_S A s.heap H [] := by rw [hH]; exact va_S.rf
  have hS := hS
  refine lv_iload_n hx hb dX4_joined_0 rfl (lv_at hl 0 rfl) ?_
  by_cases c1 : p0.toInt < 2 ∨ 7 < p0.toInt
  · have hw := hw.1 c1
    refine lv_tableOut (tgt := 87) hx hb dX4_joined_1 c1 (by decide) ?_
    refine lv_iload_n hx hb dX4_joined_87 rfl (lv_at hl 1 rfl) ?_
    refine lv_iload_n hx hb dX4_joined_88 rfl (lv_at hl 2 rfl) ?_
    refine lv_icmp_le (tgt := 96) hx hb dX4_joined_89 (by decide) (fun c2 => ?_) (fun c2 => ?_)
    · have hw := hw.1 c2
      refine lv_iload_n hx hb dX4_joined_96 rfl (lv_at hl 2 rfl) ?_
      exact ((W.iret (v := p2) hx hb hr (fun t ht hW => ⟨⟨p2, (), rfl, hw, by rw [ht]; exact hP, va_K.moved hW.alike hK, hD⟩, hS.F ht⟩) hS.2.2 dX4_joined_97))
    · have hw := hw.2 c2
      refine lv_iload_n hx hb dX4_joined_92 rfl (lv_at hl 1 rfl) ?_
      refine lv_goto (tgt := 97) hx hb dX4_joined_93 (by decide) ?_
      exact ((W.iret (v := p1) hx hb hr (fun t ht hW => ⟨⟨p1, (), rfl, hw, by rw [ht]; exact hP, va_K.moved hW.alike hK, hD⟩, hS.F ht⟩) hS.2.2 dX4_joined_97))
  · have hw := hw.2
    rcases tsw_2_7 c1 with c1 | c1 | c1 | c1 | c1 | c1
    · have hw := hw.1 c1
      refine lv_tableIn (tgt := 40) (off := 39) hx hb dX4_joined_1 (by rw [c1]; decide) (by rw [c1]; decide) (by rw [c1]; decide) (by decide) ?_
      refine lv_iload_n hx hb dX4_joined_40 rfl (lv_at hl 1 rfl) ?_
      refine lv_iload_n hx hb dX4_joined_41 rfl (lv_at hl 2 rfl) ?_
      refine lv_iadd hx hb dX4_joined_42 ?_
      exact ((W.iret (v := (p1 + p2)) hx hb hr (fun t ht hW => ⟨⟨(p1 + p2), (), rfl, hw, by rw [ht]; exact hP, va_K.moved hW.alike hK, hD⟩, hS.F ht⟩) hS.2.2 dX4_joined_43))
    · have hw := hw.2.1 c1
      refine lv_tableIn (tgt := 44) (off := 43) hx hb dX4_joined_1 (by rw [c1]; decide) (by rw [c1]; decide) (by rw [c1]; decide) (by decide) ?_
      refine lv_iload_n hx hb dX4_joined_44 rfl (lv_at hl 1 rfl) ?_
      refine lv_iload_n hx hb dX4_joined_45 rfl (lv_at hl 2 rfl) ?_
      refine lv_isub hx hb dX4_joined_46 ?_
      exact ((W.iret (v := (p1 - p2)) hx hb hr (fun t ht hW => ⟨⟨(p1 - p2), (), rfl, hw, by rw [ht]; exact hP, va_K.moved hW.alike hK, hD⟩, hS.F ht⟩) hS.2.2 dX4_joined_47))
    · have hw := hw.2.2.1 c1
      refine lv_tableIn (tgt := 48) (off := 47) hx hb dX4_joined_1 (by rw [c1]; decide) (by rw [c1]; decide) (by rw [c1]; decide) (by decide) ?_
      refine lv_iload_n hx hb dX4_joined_48 rfl (lv_at hl 1 rfl) ?_
      refine lv_iload_n hx hb dX4_joined_49 rfl (lv_at hl 2 rfl) ?_
      refine lv_imul hx hb dX4_joined_50 ?_
      exact ((W.iret (v := (p1 * p2)) hx hb hr (fun t ht hW => ⟨⟨(p1 * p2), (), rfl, hw, by rw [ht]; exact hP, va_K.moved hW.alike hK, hD⟩, hS.F ht⟩) hS.2.2 dX4_joined_51))
    · have hw := hw.2.2.2.1 c1
      refine lv_tableIn (tgt := 52) (off := 51) hx hb dX4_joined_1 (by rw [c1]; decide) (by rw [c1]; decide) (by rw [c1]; decide) (by decide) ?_
      refine lv_iload_n hx hb dX4_joined_52 rfl (lv_at hl 2 rfl) ?_
      refine lv_if_ne (tgt := 60) hx hb dX4_joined_53 (by decide) (fun c3 => ?_) (fun c3 => ?_)
      · have hw := hw.1 c3
        refine lv_iload_n hx hb dX4_joined_60 rfl (lv_at hl 1 rfl) ?_
        refine lv_iload_n hx hb dX4_joined_61 rfl (lv_at hl 2 rfl) ?_
        obtain ⟨hz9, hw⟩ := hw
        refine lv_idiv hx hb dX4_joined_62 hz9 ?_
        refine lv_topi (fun x4 ex4 => ?_)
        have hw := hw x4 ex4
        exact ((W.iret (v := x4) hx hb hr (fun t ht hW => ⟨⟨x4, (), rfl, hw, by rw [ht]; exact hP, va_K.moved hW.alike hK, hD⟩, hS.F ht⟩) hS.2.2 dX4_joined_63))
      · have hw := hw.2 c3
        refine lv_iconst (v := 0) hx hb dX4_joined_56 (by decide) ?_
        refine lv_goto (tgt := 63) hx hb dX4_joined_57 (by decide) ?_
        exact ((W.iret (v := 0) hx hb hr (fun t ht hW => ⟨⟨0, (), rfl, hw, by rw [ht]; exact hP, va_K.moved hW.alike hK, hD⟩, hS.F ht⟩) hS.2.2 dX4_joined_63))
    · have hw := hw.2.2.2.2.1 c1
      refine lv_tableIn (tgt := 64) (off := 63) hx hb dX4_joined_1 (by rw [c1]; decide) (by rw [c1]; decide) (by rw [c1]; decide) (by decide) ?_
      refine lv_iload_n hx hb dX4_joined_64 rfl (lv_at hl 2 rfl) ?_
      refine lv_if_ne (tgt := 72) hx hb dX4_joined_65 (by decide) (fun c5 => ?_) (fun c5 => ?_)
      · have hw := hw.1 c5
        refine lv_iload_n hx hb dX4_joined_72 rfl (lv_at hl 1 rfl) ?_
        refine lv_iload_n hx hb dX4_joined_73 rfl (lv_at hl 2 rfl) ?_
        obtain ⟨hz9, hw⟩ := hw
        refine lv_irem hx hb dX4_joined_74 hz9 ?_
        refine lv_topi (fun x6 ex6 => ?_)
        have hw := hw x6 ex6
        exact ((W.iret (v := x6) hx hb hr (fun t ht hW => ⟨⟨x6, (), rfl, hw, by rw [ht]; exact hP, va_K.moved hW.alike hK, hD⟩, hS.F ht⟩) hS.2.2 dX4_joined_75))
      · have hw := hw.2 c5
        refine lv_iconst (v := 0) hx hb dX4_joined_68 (by decide) ?_
        refine lv_goto (tgt := 75) hx hb dX4_joined_69 (by decide) ?_
        exact ((W.iret (v := 0) hx hb hr (fun t ht hW => ⟨⟨0, (), rfl, hw, by rw [ht]; exact hP, va_K.moved hW.alike hK, hD⟩, hS.F ht⟩) hS.2.2 dX4_joined_75))
    · have hw := hw.2.2.2.2.2 c1
      refine lv_tableIn (tgt := 76) (off := 75) hx hb dX4_joined_1 (by rw [c1]; decide) (by rw [c1]; decide) (by rw [c1]; decide) (by decide) ?_
      refine lv_iload_n hx hb dX4_joined_76 rfl (lv_at hl 1 rfl) ?_
      refine lv_iload_n hx hb dX4_joined_77 rfl (lv_at hl 2 rfl) ?_
      refine lv_icmp_ge (tgt := 85) hx hb dX4_joined_78 (by decide) (fun c7 => ?_) (fun c7 => ?_)
      · have hw := hw.1 c7
        refine lv_iload_n hx hb dX4_joined_85 rfl (lv_at hl 2 rfl) ?_
        exact ((W.iret (v := p2) hx hb hr (fun t ht hW => ⟨⟨p2, (), rfl, hw, by rw [ht]; exact hP, va_K.moved hW.alike hK, hD⟩, hS.F ht⟩) hS.2.2 dX4_joined_86))
      · have hw := hw.2 c7
        refine lv_iload_n hx hb dX4_joined_81 rfl (lv_at hl 1 rfl) ?_
        refine lv_goto (tgt := 86) hx hb dX4_joined_82 (by decide) ?_
        exact ((W.iret (v := p1) hx hb hr (fun t ht hW => ⟨⟨p1, (), rfl, hw, by rw [ht]; exact hP, va_K.moved hW.alike hK, hD⟩, hS.F ht⟩) hS.2.2 dX4_joined_86))
theorem ui_X4_reach_X4 : ∀ w ∈ u_ws RX4 TX4 5, w ∈ wsX4_reach := by decide +kernel
theorem uw_X4_reach_f15 : (.fieldLink RX4 15 "MarchHares$Law" "values" "[I" : Cond) ∈ wsX4_reach := by decide +kernel
theorem uw_X4_reach_f18 : (.fieldLink RX4 18 "MarchHares$Law" "pile" "[I" : Cond) ∈ wsX4_reach := by decide +kernel
theorem uw_X4_reach_f21 : (.fieldLink RX4 21 "MarchHares$Law" "facts" "[I" : Cond) ∈ wsX4_reach := by decide +kernel
theorem uw_X4_reach_f27 : (.fieldLink RX4 27 "MarchHares$Law" "length" "I" : Cond) ∈ wsX4_reach := by decide +kernel
theorem uw_X4_reach_f9 : (.fieldLink RX4 9 "MarchHares$Law" "kinds" "[I" : Cond) ∈ wsX4_reach := by decide +kernel
theorem uw_X4_reach_inim : (.initialized "java/lang/Math" : Cond) ∈ wsX4_reach := by decide +kernel
theorem uw_X4_reach_m115 : (.methodLink RX4 115 Lib.Math.min.name : Cond) ∈ wsX4_reach := by decide +kernel
theorem uw_X4_reach_m120 : (.methodLink RX4 120 Lib.Math.max.name : Cond) ∈ wsX4_reach := by decide +kernel
theorem uw_X4_reach_mcmax : (.code Lib.Math.max.name Lib.Math.max.code 2 (some .int) : Cond) ∈ wsX4_reach := by decide +kernel
theorem uw_X4_reach_mcmin : (.code Lib.Math.min.name Lib.Math.min.code 2 (some .int) : Cond) ∈ wsX4_reach := by decide +kernel
theorem uw_X4_reach_msmax : (.static Lib.Math.max.name : Cond) ∈ wsX4_reach := by decide +kernel
theorem uw_X4_reach_msmin : (.static Lib.Math.min.name : Cond) ∈ wsX4_reach := by decide +kernel
def wb_X4_reach_98 (v0_length : Int32) (f0_kinds : Nat → Int32) (f0_values : Nat → Int32) (f0_facts : Nat → Int32) (Q : Int32 → (Nat → Int32) → Prop) (K4 : (Nat → Int32) → Int32 → Int32 → Prop) (f0_pile : Nat → Int32) (l1 : Int32) (l2 : Int32) : Prop := ∀ x21 : Int32, x21 = l2 + 1 → (K4 f0_pile l1 x21)
set_option maxHeartbeats 4000000 in
set_option maxRecDepth 100000 in
theorem kb_X4_reach_98 {p : Program} {l : Launch} {e : Env} {s : State} {m : MethodId} {args : Array Value} {below : List Frame} {meth : Method} {c : Code} {A : Nat → Prop} (dC : Nat → ClassId) (dI : Nat → Nat → Nat) (cyB cyI cyJ cyP : ClassId) (a0 a0_pile a0_kinds a0_facts a0_values : Nat)  (v0_length : Int32) (f0_kinds : Nat → Int32) (f0_values : Nat → Int32) (f0_facts : Nat → Int32) (Q : Int32 → (Nat → Int32) → Prop) (K4 : (Nat → Int32) → Int32 → Int32 → Prop) (hK4 : ∀ (H : Heap) (locs : List Loc) (ls : Array Slot) (f0_pile : Nat → Int32) (l1 : Int32) (l2 : Int32), va_P (dC, dI) vwCl [(a0, .inr (4, [.ref a0_kinds, .ref a0_values, .ref a0_pile, .ref a0_facts, .int v0_length])), (a0_pile, .inl (cyI, 150, .inl f0_pile)), (a0_kinds, .inl (cyI, 150, .inl f0_kinds)), (a0_values, .inl (cyI, 150, .inl f0_values)), (a0_facts, .inl (cyI, 8, .inl f0_facts))] H → va_D A [(a0, .inr (4, [.ref a0_kinds, .ref a0_values, .ref a0_pile, .ref a0_facts, .int v0_length])), (a0_pile, .inl (cyI, 150, .inl f0_pile)), (a0_kinds, .inl (cyI, 150, .inl f0_kinds)), (a0_values, .inl (cyI, 150, .inl f0_values)), (a0_facts, .inl (cyI, 8, .inl f0_facts))] → va_S A s.heap H locs → lv_has ls 4 [(0, .ref a0), (1, .int l1), (2, .int l2)] → K4 f0_pile l1 l2 → W p l e (headSpec wsX4_reach ({ frames := 1, cells := 0, slots := 0, locals := 32 })).room s m args below meth c H locs 0 0 (MQ below (va_Qi (fun (r : Int32) (u : (Nat → Int32)) => Q r u) (cB (dC, dI) (kT cyB cyI cyJ cyP) A (fun u : (Nat → Int32) => ([(a0, .inr (4, [.ref a0_kinds, .ref a0_values, .ref a0_pile, .ref a0_facts, .int v0_length])), (a0_pile, .inl (cyI, 150, .inl u)), (a0_kinds, .inl (cyI, 150, .inl f0_kinds)), (a0_values, .inl (cyI, 150, .inl f0_values)), (a0_facts, .inl (cyI, 8, .inl f0_facts))] : va_W))) A) args s 0 0 A) (F0 m 4 ls [])) (C0 : cfx p s m args meth c cX4_reach (some .int) wsX4_reach RX4 4 A (dC, dI) (kT cyB cyI cyJ cyP)) : ∀ (H : Heap) (locs : List Loc) (ls : Array Slot) (f0_pile : Nat → Int32) (l1 : Int32) (l2 : Int32), va_P (dC, dI) vwCl [(a0, .inr (4, [.ref a0_kinds, .ref a0_values, .ref a0_pile, .ref a0_facts, .int v0_length])), (a0_pile, .inl (cyI, 150, .inl f0_pile)), (a0_kinds, .inl (cyI, 150, .inl f0_kinds)), (a0_values, .inl (cyI, 150, .inl f0_values)), (a0_facts, .inl (cyI, 8, .inl f0_facts))] H → va_D A [(a0, .inr (4, [.ref a0_kinds, .ref a0_values, .ref a0_pile, .ref a0_facts, .int v0_length])), (a0_pile, .inl (cyI, 150, .inl f0_pile)), (a0_kinds, .inl (cyI, 150, .inl f0_kinds)), (a0_values, .inl (cyI, 150, .inl f0_values)), (a0_facts, .inl (cyI, 8, .inl f0_facts))] → va_S A s.heap H locs → lv_has ls 4 [(0, .ref a0), (1, .int l1), (2, .int l2)] → wb_X4_reach_98 v0_length f0_kinds f0_values f0_facts Q K4 f0_pile l1 l2 → W p l e (headSpec wsX4_reach ({ frames := 1, cells := 0, slots := 0, locals := 32 })).room s m args below meth c H locs 0 0 (MQ below (va_Qi (fun (r : Int32) (u : (Nat → Int32)) => Q r u) (cB (dC, dI) (kT cyB cyI cyJ cyP) A (fun u : (Nat → Int32) => ([(a0, .inr (4, [.ref a0_kinds, .ref a0_values, .ref a0_pile, .ref a0_facts, .int v0_length])), (a0_pile, .inl (cyI, 150, .inl u)), (a0_kinds, .inl (cyI, 150, .inl f0_kinds)), (a0_values, .inl (cyI, 150, .inl f0_values)), (a0_facts, .inl (cyI, 8, .inl f0_facts))] : va_W))) A) args s 0 0 A) (F0 m 98 ls []) := by
  obtain ⟨hx, hb, hr, hts, hown, hlocks, hml, hA, hK, hNw⟩ := id C0
  intro H locs ls f0_pile l1 l2 hP hD hS hl hw
  obtain ⟨x21, ex21⟩ : ∃ y : Int32, y = l2 + 1 := ⟨_, rfl⟩
  have hw := hw x21 ex21
  refine lv_iinc (v := x21) (lv' := [(2, .int x21), (0, .ref a0), (1, .int l1)]) hx hb dX4_reach_98 hl (k := 2) rfl (by rw [ex21]; rfl) (by decide) rfl (fun ls hl => ?_)
  refine lv_goto (tgt := 4) hx hb dX4_reach_101 (by decide) ?_
  exact hK4 _ _ _ f0_pile l1 x21 hP hD hS (lv_sub hl [1, 2, 0] rfl) hw
def wb_X4_reach_57 (v0_length : Int32) (f0_kinds : Nat → Int32) (f0_values : Nat → Int32) (f0_facts : Nat → Int32) (Q : Int32 → (Nat → Int32) → Prop) (K4 : (Nat → Int32) → Int32 → Int32 → Prop) (f0_pile : Nat → Int32) (l1 : Int32) (l2 : Int32) (s1 : Int32) (s2 : Int32) : Prop := vp_in s1 150 ∧ ∀ f22 : Nat → Int32, f22 = upd f0_pile s1.toNatClampNeg s2 → ∀ x23 : Int32, x23 = l1 + 1 → (wb_X4_reach_98 v0_length f0_kinds f0_values f0_facts Q K4 f22 x23 l2)
set_option maxHeartbeats 4000000 in
set_option maxRecDepth 100000 in
theorem kb_X4_reach_57 {p : Program} {l : Launch} {e : Env} {s : State} {m : MethodId} {args : Array Value} {below : List Frame} {meth : Method} {c : Code} {A : Nat → Prop} (dC : Nat → ClassId) (dI : Nat → Nat → Nat) (cyB cyI cyJ cyP : ClassId) (a0 a0_pile a0_kinds a0_facts a0_values : Nat)  (v0_length : Int32) (f0_kinds : Nat → Int32) (f0_values : Nat → Int32) (f0_facts : Nat → Int32) (Q : Int32 → (Nat → Int32) → Prop) (K4 : (Nat → Int32) → Int32 → Int32 → Prop) (hK4 : ∀ (H : Heap) (locs : List Loc) (ls : Array Slot) (f0_pile : Nat → Int32) (l1 : Int32) (l2 : Int32), va_P (dC, dI) vwCl [(a0, .inr (4, [.ref a0_kinds, .ref a0_values, .ref a0_pile, .ref a0_facts, .int v0_length])), (a0_pile, .inl (cyI, 150, .inl f0_pile)), (a0_kinds, .inl (cyI, 150, .inl f0_kinds)), (a0_values, .inl (cyI, 150, .inl f0_values)), (a0_facts, .inl (cyI, 8, .inl f0_facts))] H → va_D A [(a0, .inr (4, [.ref a0_kinds, .ref a0_values, .ref a0_pile, .ref a0_facts, .int v0_length])), (a0_pile, .inl (cyI, 150, .inl f0_pile)), (a0_kinds, .inl (cyI, 150, .inl f0_kinds)), (a0_values, .inl (cyI, 150, .inl f0_values)), (a0_facts, .inl (cyI, 8, .inl f0_facts))] → va_S A s.heap H locs → lv_has ls 4 [(0, .ref a0), (1, .int l1), (2, .int l2)] → K4 f0_pile l1 l2 → W p l e (headSpec wsX4_reach ({ frames := 1, cells := 0, slots := 0, locals := 32 })).room s m args below meth c H locs 0 0 (MQ below (va_Qi (fun (r : Int32) (u : (Nat → Int32)) => Q r u) (cB (dC, dI) (kT cyB cyI cyJ cyP) A (fun u : (Nat → Int32) => ([(a0, .inr (4, [.ref a0_kinds, .ref a0_values, .ref a0_pile, .ref a0_facts, .int v0_length])), (a0_pile, .inl (cyI, 150, .inl u)), (a0_kinds, .inl (cyI, 150, .inl f0_kinds)), (a0_values, .inl (cyI, 150, .inl f0_values)), (a0_facts, .inl (cyI, 8, .inl f0_facts))] : va_W))) A) args s 0 0 A) (F0 m 4 ls [])) (C0 : cfx p s m args meth c cX4_reach (some .int) wsX4_reach RX4 4 A (dC, dI) (kT cyB cyI cyJ cyP)) : ∀ (H : Heap) (locs : List Loc) (ls : Array Slot) (f0_pile : Nat → Int32) (l1 : Int32) (l2 : Int32) (s1 : Int32) (s2 : Int32), va_P (dC, dI) vwCl [(a0, .inr (4, [.ref a0_kinds, .ref a0_values, .ref a0_pile, .ref a0_facts, .int v0_length])), (a0_pile, .inl (cyI, 150, .inl f0_pile)), (a0_kinds, .inl (cyI, 150, .inl f0_kinds)), (a0_values, .inl (cyI, 150, .inl f0_values)), (a0_facts, .inl (cyI, 8, .inl f0_facts))] H → va_D A [(a0, .inr (4, [.ref a0_kinds, .ref a0_values, .ref a0_pile, .ref a0_facts, .int v0_length])), (a0_pile, .inl (cyI, 150, .inl f0_pile)), (a0_kinds, .inl (cyI, 150, .inl f0_kinds)), (a0_values, .inl (cyI, 150, .inl f0_values)), (a0_facts, .inl (cyI, 8, .inl f0_facts))] → va_S A s.heap H locs → lv_has ls 4 [(0, .ref a0), (1, .int l1), (2, .int l2)] → wb_X4_reach_57 v0_length f0_kinds f0_values f0_facts Q K4 f0_pile l1 l2 s1 s2 → W p l e (headSpec wsX4_reach ({ frames := 1, cells := 0, slots := 0, locals := 32 })).room s m args below meth c H locs 0 0 (MQ below (va_Qi (fun (r : Int32) (u : (Nat → Int32)) => Q r u) (cB (dC, dI) (kT cyB cyI cyJ cyP) A (fun u : (Nat → Int32) => ([(a0, .inr (4, [.ref a0_kinds, .ref a0_values, .ref a0_pile, .ref a0_facts, .int v0_length])), (a0_pile, .inl (cyI, 150, .inl u)), (a0_kinds, .inl (cyI, 150, .inl f0_kinds)), (a0_values, .inl (cyI, 150, .inl f0_values)), (a0_facts, .inl (cyI, 8, .inl f0_facts))] : va_W))) A) args s 0 0 A) (F0 m 57 ls [.int s2, .int s1, .ref a0_pile]) := by
  obtain ⟨hx, hb, hr, hts, hown, hlocks, hml, hA, hK, hNw⟩ := id C0
  intro H locs ls f0_pile l1 l2 s1 s2 hP hD hS hl hw
  obtain ⟨hi9, hw⟩ := hw
  refine va_iast hx hb hK hP hD hS 1 1 rfl rfl hi9 dX4_reach_57 (fun H locs hP hD hS => ?_)
  obtain ⟨f22, ef22⟩ : ∃ y : Nat → Int32, y = upd f0_pile s1.toNatClampNeg s2 := ⟨_, rfl⟩
  have hw := hw f22 ef22
  have hP : va_P (dC, dI) vwCl [(a0, .inr (4, [.ref a0_kinds, .ref a0_values, .ref a0_pile, .ref a0_facts, .int v0_length])), (a0_pile, .inl (cyI, 150, .inl f22)), (a0_kinds, .inl (cyI, 150, .inl f0_kinds)), (a0_values, .inl (cyI, 150, .inl f0_values)), (a0_facts, .inl (cyI, 8, .inl f0_facts))] H := by rw [ef22]; exact hP
  have hD : va_D A [(a0, .inr (4, [.ref a0_kinds, .ref a0_values, .ref a0_pile, .ref a0_facts, .int v0_length])), (a0_pile, .inl (cyI, 150, .inl f22)), (a0_kinds, .inl (cyI, 150, .inl f0_kinds)), (a0_values, .inl (cyI, 150, .inl f0_values)), (a0_facts, .inl (cyI, 8, .inl f0_facts))] := by rw [ef22]; exact hD
  obtain ⟨x23, ex23⟩ : ∃ y : Int32, y = l1 + 1 := ⟨_, rfl⟩
  have hw := hw x23 ex23
  refine lv_iinc (v := x23) (lv' := [(1, .int x23), (0, .ref a0), (2, .int l2)]) hx hb dX4_reach_58 hl (k := 1) rfl (by rw [ex23]; rfl) (by decide) rfl (fun ls hl => ?_)
  refine lv_goto (tgt := 98) hx hb dX4_reach_61 (by decide) ?_
  exact kb_X4_reach_98 dC dI cyB cyI cyJ cyP a0 a0_pile a0_kinds a0_facts a0_values  v0_length f0_kinds f0_values f0_facts Q K4 hK4 C0 _ _ _ f22 x23 l2 hP hD hS (lv_sub hl [1, 0, 2] rfl) hw
def wb_X4_reach_28 (v0_length : Int32) (f0_kinds : Nat → Int32) (f0_values : Nat → Int32) (f0_facts : Nat → Int32) (Q : Int32 → (Nat → Int32) → Prop) (K4 : (Nat → Int32) → Int32 → Int32 → Prop) (f0_pile : Nat → Int32) (l1 : Int32) (l2 : Int32) (l3 : Int32) : Prop := ((¬ l3 = 0 → vp_in l2 150 ∧ ∀ x18 : Int32, x18 = f0_values l2.toNatClampNeg → vp_in x18 8 ∧ ∀ x19 : Int32, x19 = f0_facts x18.toNatClampNeg → (wb_X4_reach_57 v0_length f0_kinds f0_values f0_facts Q K4 f0_pile l1 l2 l1 x19)) ∧ (l3 = 0 → vp_in l2 150 ∧ ∀ x20 : Int32, x20 = f0_values l2.toNatClampNeg → (wb_X4_reach_57 v0_length f0_kinds f0_values f0_facts Q K4 f0_pile l1 l2 l1 x20)))
set_option maxHeartbeats 4000000 in
set_option maxRecDepth 100000 in
theorem kb_X4_reach_28 {p : Program} {l : Launch} {e : Env} {s : State} {m : MethodId} {args : Array Value} {below : List Frame} {meth : Method} {c : Code} {A : Nat → Prop} (dC : Nat → ClassId) (dI : Nat → Nat → Nat) (cyB cyI cyJ cyP : ClassId) (a0 a0_pile a0_kinds a0_facts a0_values : Nat)  (v0_length : Int32) (f0_kinds : Nat → Int32) (f0_values : Nat → Int32) (f0_facts : Nat → Int32) (Q : Int32 → (Nat → Int32) → Prop) (K4 : (Nat → Int32) → Int32 → Int32 → Prop) (hK4 : ∀ (H : Heap) (locs : List Loc) (ls : Array Slot) (f0_pile : Nat → Int32) (l1 : Int32) (l2 : Int32), va_P (dC, dI) vwCl [(a0, .inr (4, [.ref a0_kinds, .ref a0_values, .ref a0_pile, .ref a0_facts, .int v0_length])), (a0_pile, .inl (cyI, 150, .inl f0_pile)), (a0_kinds, .inl (cyI, 150, .inl f0_kinds)), (a0_values, .inl (cyI, 150, .inl f0_values)), (a0_facts, .inl (cyI, 8, .inl f0_facts))] H → va_D A [(a0, .inr (4, [.ref a0_kinds, .ref a0_values, .ref a0_pile, .ref a0_facts, .int v0_length])), (a0_pile, .inl (cyI, 150, .inl f0_pile)), (a0_kinds, .inl (cyI, 150, .inl f0_kinds)), (a0_values, .inl (cyI, 150, .inl f0_values)), (a0_facts, .inl (cyI, 8, .inl f0_facts))] → va_S A s.heap H locs → lv_has ls 4 [(0, .ref a0), (1, .int l1), (2, .int l2)] → K4 f0_pile l1 l2 → W p l e (headSpec wsX4_reach ({ frames := 1, cells := 0, slots := 0, locals := 32 })).room s m args below meth c H locs 0 0 (MQ below (va_Qi (fun (r : Int32) (u : (Nat → Int32)) => Q r u) (cB (dC, dI) (kT cyB cyI cyJ cyP) A (fun u : (Nat → Int32) => ([(a0, .inr (4, [.ref a0_kinds, .ref a0_values, .ref a0_pile, .ref a0_facts, .int v0_length])), (a0_pile, .inl (cyI, 150, .inl u)), (a0_kinds, .inl (cyI, 150, .inl f0_kinds)), (a0_values, .inl (cyI, 150, .inl f0_values)), (a0_facts, .inl (cyI, 8, .inl f0_facts))] : va_W))) A) args s 0 0 A) (F0 m 4 ls [])) (C0 : cfx p s m args meth c cX4_reach (some .int) wsX4_reach RX4 4 A (dC, dI) (kT cyB cyI cyJ cyP)) : ∀ (H : Heap) (locs : List Loc) (ls : Array Slot) (f0_pile : Nat → Int32) (l1 : Int32) (l2 : Int32) (l3 : Int32), va_P (dC, dI) vwCl [(a0, .inr (4, [.ref a0_kinds, .ref a0_values, .ref a0_pile, .ref a0_facts, .int v0_length])), (a0_pile, .inl (cyI, 150, .inl f0_pile)), (a0_kinds, .inl (cyI, 150, .inl f0_kinds)), (a0_values, .inl (cyI, 150, .inl f0_values)), (a0_facts, .inl (cyI, 8, .inl f0_facts))] H → va_D A [(a0, .inr (4, [.ref a0_kinds, .ref a0_values, .ref a0_pile, .ref a0_facts, .int v0_length])), (a0_pile, .inl (cyI, 150, .inl f0_pile)), (a0_kinds, .inl (cyI, 150, .inl f0_kinds)), (a0_values, .inl (cyI, 150, .inl f0_values)), (a0_facts, .inl (cyI, 8, .inl f0_facts))] → va_S A s.heap H locs → lv_has ls 4 [(0, .ref a0), (1, .int l1), (2, .int l2), (3, .int l3)] → wb_X4_reach_28 v0_length f0_kinds f0_values f0_facts Q K4 f0_pile l1 l2 l3 → W p l e (headSpec wsX4_reach ({ frames := 1, cells := 0, slots := 0, locals := 32 })).room s m args below meth c H locs 0 0 (MQ below (va_Qi (fun (r : Int32) (u : (Nat → Int32)) => Q r u) (cB (dC, dI) (kT cyB cyI cyJ cyP) A (fun u : (Nat → Int32) => ([(a0, .inr (4, [.ref a0_kinds, .ref a0_values, .ref a0_pile, .ref a0_facts, .int v0_length])), (a0_pile, .inl (cyI, 150, .inl u)), (a0_kinds, .inl (cyI, 150, .inl f0_kinds)), (a0_values, .inl (cyI, 150, .inl f0_values)), (a0_facts, .inl (cyI, 8, .inl f0_facts))] : va_W))) A) args s 0 0 A) (F0 m 28 ls []) := by
  obtain ⟨hx, hb, hr, hts, hown, hlocks, hml, hA, hK, hNw⟩ := id C0
  intro H locs ls f0_pile l1 l2 l3 hP hD hS hl hw
  refine lv_aload_n hx hb dX4_reach_28 rfl (lv_at hl 0 rfl) ?_
  refine va_get (D := (dC, dI)) (ci := 4) (v := .ref a0_pile) (C := RX4) (T := TX4) (N := 5) hx hb hts ui_X4_reach_X4 hown hK hP 0 rfl rfl 2 (by decide) (hts _ uw_X4_reach_f18) (fun _ h9 => h9) rfl dX4_reach_29 ?_
  refine lv_iload_n hx hb dX4_reach_32 rfl (lv_at hl 1 rfl) ?_
  refine lv_iload_n hx hb dX4_reach_33 rfl (lv_at hl 3 rfl) ?_
  refine lv_if_ne (tgt := 46) hx hb dX4_reach_34 (by decide) (fun c17 => ?_) (fun c17 => ?_)
  · have hw := hw.1 c17
    refine lv_aload_n hx hb dX4_reach_46 rfl (lv_at hl 0 rfl) ?_
    refine va_get (D := (dC, dI)) (ci := 4) (v := .ref a0_facts) (C := RX4) (T := TX4) (N := 5) hx hb hts ui_X4_reach_X4 hown hK hP 0 rfl rfl 3 (by decide) (hts _ uw_X4_reach_f21) (fun _ h9 => h9) rfl dX4_reach_47 ?_
    refine lv_aload_n hx hb dX4_reach_50 rfl (lv_at hl 0 rfl) ?_
    refine va_get (D := (dC, dI)) (ci := 4) (v := .ref a0_values) (C := RX4) (T := TX4) (N := 5) hx hb hts ui_X4_reach_X4 hown hK hP 0 rfl rfl 1 (by decide) (hts _ uw_X4_reach_f15) (fun _ h9 => h9) rfl dX4_reach_51 ?_
    refine lv_iload_n hx hb dX4_reach_54 rfl (lv_at hl 2 rfl) ?_
    obtain ⟨hi9, hw⟩ := hw
    refine va_iald hx hb hK hP 3 1 rfl rfl hi9 dX4_reach_55 ?_
    refine lv_topi (fun x18 ex18 => ?_)
    have hw := hw x18 ex18
    obtain ⟨hi9, hw⟩ := hw
    refine va_iald hx hb hK hP 4 1 rfl rfl hi9 dX4_reach_56 ?_
    refine lv_topi (fun x19 ex19 => ?_)
    have hw := hw x19 ex19
    exact kb_X4_reach_57 dC dI cyB cyI cyJ cyP a0 a0_pile a0_kinds a0_facts a0_values  v0_length f0_kinds f0_values f0_facts Q K4 hK4 C0 _ _ _ f0_pile l1 l2 l1 x19 hP hD hS (lv_sub hl [0, 1, 2] rfl) hw
  · have hw := hw.2 c17
    refine lv_aload_n hx hb dX4_reach_37 rfl (lv_at hl 0 rfl) ?_
    refine va_get (D := (dC, dI)) (ci := 4) (v := .ref a0_values) (C := RX4) (T := TX4) (N := 5) hx hb hts ui_X4_reach_X4 hown hK hP 0 rfl rfl 1 (by decide) (hts _ uw_X4_reach_f15) (fun _ h9 => h9) rfl dX4_reach_38 ?_
    refine lv_iload_n hx hb dX4_reach_41 rfl (lv_at hl 2 rfl) ?_
    obtain ⟨hi9, hw⟩ := hw
    refine va_iald hx hb hK hP 3 1 rfl rfl hi9 dX4_reach_42 ?_
    refine lv_topi (fun x20 ex20 => ?_)
    have hw := hw x20 ex20
    refine lv_goto (tgt := 57) hx hb dX4_reach_43 (by decide) ?_
    exact kb_X4_reach_57 dC dI cyB cyI cyJ cyP a0 a0_pile a0_kinds a0_facts a0_values  v0_length f0_kinds f0_values f0_facts Q K4 hK4 C0 _ _ _ f0_pile l1 l2 l1 x20 hP hD hS (lv_sub hl [0, 1, 2] rfl) hw
def wb_X4_reach_118 (v0_length : Int32) (f0_kinds : Nat → Int32) (f0_values : Nat → Int32) (f0_facts : Nat → Int32) (Q : Int32 → (Nat → Int32) → Prop)  (f0_pile : Nat → Int32) (s0 : Int32) : Prop := ∀ x15 : Int32, x15 = (if s0 < 60 then s0 else 60) → ∀ x16 : Int32, x16 = (if 0 < x15 then x15 else 0) → (Q x16 f0_pile)
set_option maxHeartbeats 4000000 in
set_option maxRecDepth 100000 in
theorem kb_X4_reach_118 {p : Program} {l : Launch} {e : Env} {s : State} {m : MethodId} {args : Array Value} {below : List Frame} {meth : Method} {c : Code} {A : Nat → Prop} (dC : Nat → ClassId) (dI : Nat → Nat → Nat) (cyB cyI cyJ cyP : ClassId) (a0 a0_pile a0_kinds a0_facts a0_values : Nat)  (v0_length : Int32) (f0_kinds : Nat → Int32) (f0_values : Nat → Int32) (f0_facts : Nat → Int32) (Q : Int32 → (Nat → Int32) → Prop)  (C0 : cfx p s m args meth c cX4_reach (some .int) wsX4_reach RX4 4 A (dC, dI) (kT cyB cyI cyJ cyP)) : ∀ (H : Heap) (locs : List Loc) (ls : Array Slot) (f0_pile : Nat → Int32) (s0 : Int32), va_P (dC, dI) vwCl [(a0, .inr (4, [.ref a0_kinds, .ref a0_values, .ref a0_pile, .ref a0_facts, .int v0_length])), (a0_pile, .inl (cyI, 150, .inl f0_pile)), (a0_kinds, .inl (cyI, 150, .inl f0_kinds)), (a0_values, .inl (cyI, 150, .inl f0_values)), (a0_facts, .inl (cyI, 8, .inl f0_facts))] H → va_D A [(a0, .inr (4, [.ref a0_kinds, .ref a0_values, .ref a0_pile, .ref a0_facts, .int v0_length])), (a0_pile, .inl (cyI, 150, .inl f0_pile)), (a0_kinds, .inl (cyI, 150, .inl f0_kinds)), (a0_values, .inl (cyI, 150, .inl f0_values)), (a0_facts, .inl (cyI, 8, .inl f0_facts))] → va_S A s.heap H locs → lv_has ls 4 [] → wb_X4_reach_118 v0_length f0_kinds f0_values f0_facts Q  f0_pile s0 → W p l e (headSpec wsX4_reach ({ frames := 1, cells := 0, slots := 0, locals := 32 })).room s m args below meth c H locs 0 0 (MQ below (va_Qi (fun (r : Int32) (u : (Nat → Int32)) => Q r u) (cB (dC, dI) (kT cyB cyI cyJ cyP) A (fun u : (Nat → Int32) => ([(a0, .inr (4, [.ref a0_kinds, .ref a0_values, .ref a0_pile, .ref a0_facts, .int v0_length])), (a0_pile, .inl (cyI, 150, .inl u)), (a0_kinds, .inl (cyI, 150, .inl f0_kinds)), (a0_values, .inl (cyI, 150, .inl f0_values)), (a0_facts, .inl (cyI, 8, .inl f0_facts))] : va_W))) A) args s 0 0 A) (F0 m 118 ls [.int s0]) := by
  obtain ⟨hx, hb, hr, hts, hown, hlocks, hml, hA, hK, hNw⟩ := id C0
  intro H locs ls f0_pile s0 hP hD hS hl hw
  refine lv_istore_n (lv' := [(2, .int s0)]) hx hb dX4_reach_118 rfl hl (by decide) rfl (fun ls hl => ?_)
  refine lv_iconst (v := 0) hx hb dX4_reach_119 (by decide) ?_
  refine lv_bipush (v := 60) hx hb dX4_reach_120 (by decide) ?_
  refine lv_iload_n hx hb dX4_reach_122 rfl (lv_at hl 0 rfl) ?_
  refine va_mmin hx hb (by rw [hml]; exact hl.1.symm) hown (hts _ uw_X4_reach_m115) (hts _ uw_X4_reach_msmin) (hts _ uw_X4_reach_inim) (hts _ uw_X4_reach_mcmin) (Nat.le_of_ble_eq_true rfl) (Nat.le_of_ble_eq_true rfl) (Nat.le_of_ble_eq_true rfl) (Nat.le_of_ble_eq_true rfl) dX4_reach_123 ?_
  refine lv_topi (fun x15 ex15 => ?_)
  have hw := hw x15 ex15
  refine va_mmax hx hb (by rw [hml]; exact hl.1.symm) hown (hts _ uw_X4_reach_m120) (hts _ uw_X4_reach_msmax) (hts _ uw_X4_reach_inim) (hts _ uw_X4_reach_mcmax) (Nat.le_of_ble_eq_true rfl) (Nat.le_of_ble_eq_true rfl) (Nat.le_of_ble_eq_true rfl) (Nat.le_of_ble_eq_true rfl) dX4_reach_126 ?_
  refine lv_topi (fun x16 ex16 => ?_)
  have hw := hw x16 ex16
  exact ((W.iret (v := x16) hx hb hr (fun t ht hW => ⟨⟨x16, (f0_pile), rfl, hw, by rw [ht]; exact hP, va_K.moved hW.alike hK, hD⟩, hS.F ht⟩) hS.2.2 dX4_reach_129))
def wl_X4_reach_4 (v0_length : Int32) (f0_kinds : Nat → Int32) (f0_values : Nat → Int32) (f0_facts : Nat → Int32) (Q : Int32 → (Nat → Int32) → Prop)  : Nat → (Nat → Int32) → Int32 → Int32 → Prop
  | 0, _, _, _ => False
  | n + 1, f0_pile, l1, l2 => ((v0_length ≤ l2 → ((l1 ≤ 0 → (wb_X4_reach_118 v0_length f0_kinds f0_values f0_facts Q  f0_pile 0)) ∧ (¬ l1 ≤ 0 → ∀ x3 : Int32, x3 = f0_pile (0 : Int32).toNatClampNeg → (wb_X4_reach_118 v0_length f0_kinds f0_values f0_facts Q  f0_pile x3)))) ∧ (¬ v0_length ≤ l2 → vp_in l2 150 ∧ ∀ x4 : Int32, x4 = f0_kinds l2.toNatClampNeg → ((x4 = 0 → (wb_X4_reach_28 v0_length f0_kinds f0_values f0_facts Q (fun f0_pile l1 l2 => wl_X4_reach_4 v0_length f0_kinds f0_values f0_facts Q  n f0_pile l1 l2) f0_pile l1 l2 x4)) ∧ (¬ x4 = 0 → ((¬ x4 = 1 → ((l1 < 2 → (wb_X4_reach_98 v0_length f0_kinds f0_values f0_facts Q (fun f0_pile l1 l2 => wl_X4_reach_4 v0_length f0_kinds f0_values f0_facts Q  n f0_pile l1 l2) f0_pile l1 l2)) ∧ (¬ l1 < 2 → ∀ x8 : Int32, x8 = l1 + (-1) → ∀ x9 : Int32, x9 = x8 - 1 → ∀ x10 : Int32, x10 = x8 - 1 → vp_in x10 150 ∧ ∀ x11 : Int32, x11 = f0_pile x10.toNatClampNeg → vp_in x8 150 ∧ ∀ x12 : Int32, x12 = f0_pile x8.toNatClampNeg → wq_X4_joined   x4 x11 x12 (fun r13 => vp_in x9 150 ∧ ∀ f14 : Nat → Int32, f14 = upd f0_pile x9.toNatClampNeg r13 → (wb_X4_reach_98 v0_length f0_kinds f0_values f0_facts Q (fun f0_pile l1 l2 => wl_X4_reach_4 v0_length f0_kinds f0_values f0_facts Q  n f0_pile l1 l2) f14 x8 l2))))) ∧ (x4 = 1 → (wb_X4_reach_28 v0_length f0_kinds f0_values f0_facts Q (fun f0_pile l1 l2 => wl_X4_reach_4 v0_length f0_kinds f0_values f0_facts Q  n f0_pile l1 l2) f0_pile l1 l2 x4)))))))
set_option maxHeartbeats 4000000 in
set_option maxRecDepth 100000 in
theorem kl_X4_reach_4 {p : Program} {l : Launch} {e : Env} {s : State} {m : MethodId} {args : Array Value} {below : List Frame} {meth : Method} {c : Code} {A : Nat → Prop} (dC : Nat → ClassId) (dI : Nat → Nat → Nat) (cyB cyI cyJ cyP : ClassId) (a0 a0_pile a0_kinds a0_facts a0_values : Nat)  (v0_length : Int32) (f0_kinds : Nat → Int32) (f0_values : Nat → Int32) (f0_facts : Nat → Int32) (Q : Int32 → (Nat → Int32) → Prop)  (C0 : cfx p s m args meth c cX4_reach (some .int) wsX4_reach RX4 4 A (dC, dI) (kT cyB cyI cyJ cyP)) : ∀ (n : Nat) (H : Heap) (locs : List Loc) (ls : Array Slot) (f0_pile : Nat → Int32) (l1 : Int32) (l2 : Int32), va_P (dC, dI) vwCl [(a0, .inr (4, [.ref a0_kinds, .ref a0_values, .ref a0_pile, .ref a0_facts, .int v0_length])), (a0_pile, .inl (cyI, 150, .inl f0_pile)), (a0_kinds, .inl (cyI, 150, .inl f0_kinds)), (a0_values, .inl (cyI, 150, .inl f0_values)), (a0_facts, .inl (cyI, 8, .inl f0_facts))] H → va_D A [(a0, .inr (4, [.ref a0_kinds, .ref a0_values, .ref a0_pile, .ref a0_facts, .int v0_length])), (a0_pile, .inl (cyI, 150, .inl f0_pile)), (a0_kinds, .inl (cyI, 150, .inl f0_kinds)), (a0_values, .inl (cyI, 150, .inl f0_values)), (a0_facts, .inl (cyI, 8, .inl f0_facts))] → va_S A s.heap H locs → lv_has ls 4 [(0, .ref a0), (1, .int l1), (2, .int l2)] → wl_X4_reach_4 v0_length f0_kinds f0_values f0_facts Q  n f0_pile l1 l2 → W p l e (headSpec wsX4_reach ({ frames := 1, cells := 0, slots := 0, locals := 32 })).room s m args below meth c H locs 0 0 (MQ below (va_Qi (fun (r : Int32) (u : (Nat → Int32)) => Q r u) (cB (dC, dI) (kT cyB cyI cyJ cyP) A (fun u : (Nat → Int32) => ([(a0, .inr (4, [.ref a0_kinds, .ref a0_values, .ref a0_pile, .ref a0_facts, .int v0_length])), (a0_pile, .inl (cyI, 150, .inl u)), (a0_kinds, .inl (cyI, 150, .inl f0_kinds)), (a0_values, .inl (cyI, 150, .inl f0_values)), (a0_facts, .inl (cyI, 8, .inl f0_facts))] : va_W))) A) args s 0 0 A) (F0 m 4 ls []) := by
  obtain ⟨hx, hb, hr, hts, hown, hlocks, hml, hA, hK, hNw⟩ := id C0
  intro n
  induction n with
  | zero => intro H locs ls f0_pile l1 l2 hP hD hS hl hw; exact False.elim hw
  | succ n ih =>
    intro H locs ls f0_pile l1 l2 hP hD hS hl hw
    refine lv_iload_n hx hb dX4_reach_4 rfl (lv_at hl 2 rfl) ?_
    refine lv_aload_n hx hb dX4_reach_5 rfl (lv_at hl 0 rfl) ?_
    refine va_get (D := (dC, dI)) (ci := 4) (v := .int v0_length) (C := RX4) (T := TX4) (N := 5) hx hb hts ui_X4_reach_X4 hown hK hP 0 rfl rfl 4 (by decide) (hts _ uw_X4_reach_f27) (fun _ h9 => h9) rfl dX4_reach_6 ?_
    refine lv_icmp_ge (tgt := 104) hx hb dX4_reach_9 (by decide) (fun c1 => ?_) (fun c1 => ?_)
    · have hw := hw.1 c1
      refine lv_iload_n hx hb dX4_reach_104 rfl (lv_at hl 1 rfl) ?_
      refine lv_if_le (tgt := 117) hx hb dX4_reach_105 (by decide) (fun c2 => ?_) (fun c2 => ?_)
      · have hw := hw.1 c2
        refine lv_iconst (v := 0) hx hb dX4_reach_117 (by decide) ?_
        exact kb_X4_reach_118 dC dI cyB cyI cyJ cyP a0 a0_pile a0_kinds a0_facts a0_values  v0_length f0_kinds f0_values f0_facts Q  C0 _ _ _ f0_pile 0 hP hD hS (lv_sub hl [] rfl) hw
      · have hw := hw.2 c2
        refine lv_aload_n hx hb dX4_reach_108 rfl (lv_at hl 0 rfl) ?_
        refine va_get (D := (dC, dI)) (ci := 4) (v := .ref a0_pile) (C := RX4) (T := TX4) (N := 5) hx hb hts ui_X4_reach_X4 hown hK hP 0 rfl rfl 2 (by decide) (hts _ uw_X4_reach_f18) (fun _ h9 => h9) rfl dX4_reach_109 ?_
        refine lv_iconst (v := 0) hx hb dX4_reach_112 (by decide) ?_
        refine va_iald hx hb hK hP 1 1 rfl rfl (vin (by decide)) dX4_reach_113 ?_
        refine lv_topi (fun x3 ex3 => ?_)
        have hw := hw x3 ex3
        refine lv_goto (tgt := 118) hx hb dX4_reach_114 (by decide) ?_
        exact kb_X4_reach_118 dC dI cyB cyI cyJ cyP a0 a0_pile a0_kinds a0_facts a0_values  v0_length f0_kinds f0_values f0_facts Q  C0 _ _ _ f0_pile x3 hP hD hS (lv_sub hl [] rfl) hw
    · have hw := hw.2 c1
      refine lv_aload_n hx hb dX4_reach_12 rfl (lv_at hl 0 rfl) ?_
      refine va_get (D := (dC, dI)) (ci := 4) (v := .ref a0_kinds) (C := RX4) (T := TX4) (N := 5) hx hb hts ui_X4_reach_X4 hown hK hP 0 rfl rfl 0 (by decide) (hts _ uw_X4_reach_f9) (fun _ h9 => h9) rfl dX4_reach_13 ?_
      refine lv_iload_n hx hb dX4_reach_16 rfl (lv_at hl 2 rfl) ?_
      obtain ⟨hi9, hw⟩ := hw
      refine va_iald hx hb hK hP 2 1 rfl rfl hi9 dX4_reach_17 ?_
      refine lv_topi (fun x4 ex4 => ?_)
      have hw := hw x4 ex4
      refine lv_istore_n (lv' := [(3, .int x4), (0, .ref a0), (1, .int l1), (2, .int l2)]) hx hb dX4_reach_18 rfl hl (by decide) rfl (fun ls hl => ?_)
      refine lv_iload_n hx hb dX4_reach_19 rfl (lv_at hl 0 rfl) ?_
      refine lv_if_eq (tgt := 28) hx hb dX4_reach_20 (by decide) (fun c5 => ?_) (fun c5 => ?_)
      · have hw := hw.1 c5
        exact kb_X4_reach_28 dC dI cyB cyI cyJ cyP a0 a0_pile a0_kinds a0_facts a0_values  v0_length f0_kinds f0_values f0_facts Q (wl_X4_reach_4 v0_length f0_kinds f0_values f0_facts Q  n) ih C0 _ _ _ f0_pile l1 l2 x4 hP hD hS (lv_sub hl [1, 2, 3, 0] rfl) hw
      · have hw := hw.2 c5
        refine lv_iload_n hx hb dX4_reach_23 rfl (lv_at hl 0 rfl) ?_
        refine lv_iconst (v := 1) hx hb dX4_reach_24 (by decide) ?_
        refine lv_icmp_ne (tgt := 64) hx hb dX4_reach_25 (by decide) (fun c6 => ?_) (fun c6 => ?_)
        · have hw := hw.1 c6
          refine lv_iload_n hx hb dX4_reach_64 rfl (lv_at hl 2 rfl) ?_
          refine lv_iconst (v := 2) hx hb dX4_reach_65 (by decide) ?_
          refine lv_icmp_lt (tgt := 98) hx hb dX4_reach_66 (by decide) (fun c7 => ?_) (fun c7 => ?_)
          · have hw := hw.1 c7
            exact kb_X4_reach_98 dC dI cyB cyI cyJ cyP a0 a0_pile a0_kinds a0_facts a0_values  v0_length f0_kinds f0_values f0_facts Q (wl_X4_reach_4 v0_length f0_kinds f0_values f0_facts Q  n) ih C0 _ _ _ f0_pile l1 l2 hP hD hS (lv_sub hl [1, 2, 3] rfl) hw
          · have hw := hw.2 c7
            obtain ⟨x8, ex8⟩ : ∃ y : Int32, y = l1 + (-1) := ⟨_, rfl⟩
            have hw := hw x8 ex8
            refine lv_iinc (v := x8) (lv' := [(1, .int x8), (3, .int x4), (0, .ref a0), (2, .int l2)]) hx hb dX4_reach_69 hl (k := 2) rfl (by rw [ex8]; rfl) (by decide) rfl (fun ls hl => ?_)
            refine lv_aload_n hx hb dX4_reach_72 rfl (lv_at hl 2 rfl) ?_
            refine va_get (D := (dC, dI)) (ci := 4) (v := .ref a0_pile) (C := RX4) (T := TX4) (N := 5) hx hb hts ui_X4_reach_X4 hown hK hP 0 rfl rfl 2 (by decide) (hts _ uw_X4_reach_f18) (fun _ h9 => h9) rfl dX4_reach_73 ?_
            refine lv_iload_n hx hb dX4_reach_76 rfl (lv_at hl 0 rfl) ?_
            refine lv_iconst (v := 1) hx hb dX4_reach_77 (by decide) ?_
            refine lv_isub hx hb dX4_reach_78 ?_
            refine lv_topi (fun x9 ex9 => ?_)
            have hw := hw x9 ex9
            refine lv_iload_n hx hb dX4_reach_79 rfl (lv_at hl 1 rfl) ?_
            refine lv_aload_n hx hb dX4_reach_80 rfl (lv_at hl 2 rfl) ?_
            refine va_get (D := (dC, dI)) (ci := 4) (v := .ref a0_pile) (C := RX4) (T := TX4) (N := 5) hx hb hts ui_X4_reach_X4 hown hK hP 0 rfl rfl 2 (by decide) (hts _ uw_X4_reach_f18) (fun _ h9 => h9) rfl dX4_reach_81 ?_
            refine lv_iload_n hx hb dX4_reach_84 rfl (lv_at hl 0 rfl) ?_
            refine lv_iconst (v := 1) hx hb dX4_reach_85 (by decide) ?_
            refine lv_isub hx hb dX4_reach_86 ?_
            refine lv_topi (fun x10 ex10 => ?_)
            have hw := hw x10 ex10
            obtain ⟨hi9, hw⟩ := hw
            refine va_iald hx hb hK hP 1 1 rfl rfl hi9 dX4_reach_87 ?_
            refine lv_topi (fun x11 ex11 => ?_)
            have hw := hw x11 ex11
            refine lv_aload_n hx hb dX4_reach_88 rfl (lv_at hl 2 rfl) ?_
            refine va_get (D := (dC, dI)) (ci := 4) (v := .ref a0_pile) (C := RX4) (T := TX4) (N := 5) hx hb hts ui_X4_reach_X4 hown hK hP 0 rfl rfl 2 (by decide) (hts _ uw_X4_reach_f18) (fun _ h9 => h9) rfl dX4_reach_89 ?_
            refine lv_iload_n hx hb dX4_reach_92 rfl (lv_at hl 0 rfl) ?_
            obtain ⟨hi9, hw⟩ := hw
            refine va_iald hx hb hK hP 1 1 rfl rfl hi9 dX4_reach_93 ?_
            refine lv_topi (fun x12 ex12 => ?_)
            have hw := hw x12 ex12
            have hPc := hP.sub (ws' := []) [] rfl
            have hDc := hD.sub (ws' := []) [] (by decide) rfl
            have hFc := va_free (wc := []) hD hS hA [] rfl
            refine va_calli (va_runS (As := [.int x4, .int x11, .int x12]) (rest := [.int x9, .ref a0_pile]) ⟨hx, hb, hml, hown, hts⟩ (ck_X4_joined l dC dI cyB cyI cyJ cyP  H.size    x4 x11 x12 hw) (va_cwS 3 hts gX4_reach_X4_joined rfl rfl rfl (by decide +kernel) ⟨Nat.le_of_ble_eq_true rfl, Nat.le_of_ble_eq_true rfl⟩) ⟨cPc_blind, cPc_pre hPc hK hDc hNw⟩ rfl rfl hl.1 rfl (lv_room (Nat.le_of_ble_eq_true rfl)) dX4_reach_94 ⟨Nat.le_of_ble_eq_true rfl, Nat.le_of_ble_eq_true rfl⟩) hS (fun q _ h => hFc q h) hFc (fun r13 u t H1 locs ht hvm hw hB hz1 hk1 hS => ?_)
            obtain ⟨hP1, hK1, hD1⟩ := hB
            rw [ht] at hP1
            obtain ⟨hP, hD⟩ := va_join (wr := [(a0, .inr (4, [.ref a0_kinds, .ref a0_values, .ref a0_pile, .ref a0_facts, .int v0_length])), (a0_pile, .inl (cyI, 150, .inl f0_pile)), (a0_kinds, .inl (cyI, 150, .inl f0_kinds)), (a0_values, .inl (cyI, 150, .inl f0_values)), (a0_facts, .inl (cyI, 8, .inl f0_facts))]) (w1 := []) hP hD [] [0, 1, 2, 3, 4] rfl rfl (by decide) (by decide) hk1 hFc hP1 hD1
            have hP : va_P (dC, dI) vwCl [(a0, .inr (4, [.ref a0_kinds, .ref a0_values, .ref a0_pile, .ref a0_facts, .int v0_length])), (a0_pile, .inl (cyI, 150, .inl f0_pile)), (a0_kinds, .inl (cyI, 150, .inl f0_kinds)), (a0_values, .inl (cyI, 150, .inl f0_values)), (a0_facts, .inl (cyI, 8, .inl f0_facts))] H1 := hP
            have hD : va_D A [(a0, .inr (4, [.ref a0_kinds, .ref a0_values, .ref a0_pile, .ref a0_facts, .int v0_length])), (a0_pile, .inl (cyI, 150, .inl f0_pile)), (a0_kinds, .inl (cyI, 150, .inl f0_kinds)), (a0_values, .inl (cyI, 150, .inl f0_values)), (a0_facts, .inl (cyI, 8, .inl f0_facts))] := hD
            generalize H1 = H at hP hS ⊢
            obtain ⟨hi9, hw⟩ := hw
            refine va_iast hx hb hK hP hD hS 1 1 rfl rfl hi9 dX4_reach_97 (fun H locs hP hD hS => ?_)
            obtain ⟨f14, ef14⟩ : ∃ y : Nat → Int32, y = upd f0_pile x9.toNatClampNeg r13 := ⟨_, rfl⟩
            have hw := hw f14 ef14
            have hP : va_P (dC, dI) vwCl [(a0, .inr (4, [.ref a0_kinds, .ref a0_values, .ref a0_pile, .ref a0_facts, .int v0_length])), (a0_pile, .inl (cyI, 150, .inl f14)), (a0_kinds, .inl (cyI, 150, .inl f0_kinds)), (a0_values, .inl (cyI, 150, .inl f0_values)), (a0_facts, .inl (cyI, 8, .inl f0_facts))] H := by rw [ef14]; exact hP
            have hD : va_D A [(a0, .inr (4, [.ref a0_kinds, .ref a0_values, .ref a0_pile, .ref a0_facts, .int v0_length])), (a0_pile, .inl (cyI, 150, .inl f14)), (a0_kinds, .inl (cyI, 150, .inl f0_kinds)), (a0_values, .inl (cyI, 150, .inl f0_values)), (a0_facts, .inl (cyI, 8, .inl f0_facts))] := by rw [ef14]; exact hD
            exact kb_X4_reach_98 dC dI cyB cyI cyJ cyP a0 a0_pile a0_kinds a0_facts a0_values  v0_length f0_kinds f0_values f0_facts Q (wl_X4_reach_4 v0_length f0_kinds f0_values f0_facts Q  n) ih C0 _ _ _ f14 x8 l2 hP hD hS (lv_sub hl [2, 0, 3] rfl) hw
        · have hw := hw.2 c6
          exact kb_X4_reach_28 dC dI cyB cyI cyJ cyP a0 a0_pile a0_kinds a0_facts a0_values  v0_length f0_kinds f0_values f0_facts Q (wl_X4_reach_4 v0_length f0_kinds f0_values f0_facts Q  n) ih C0 _ _ _ f0_pile l1 l2 x4 hP hD hS (lv_sub hl [1, 2, 3, 0] rfl) hw
def wq_X4_reach (v0_length : Int32) (f0_kinds : Nat → Int32) (f0_values : Nat → Int32) (f0_facts : Nat → Int32) (f0_pile : Nat → Int32)  (Q : Int32 → (Nat → Int32) → Prop) : Prop := (∃ k9 : Nat, wl_X4_reach_4 v0_length f0_kinds f0_values f0_facts Q  k9 f0_pile 0 0)
set_option maxHeartbeats 4000000 in
set_option maxRecDepth 100000 in
theorem ck_X4_reach (l : Launch) (dC : Nat → ClassId) (dI : Nat → Nat → Nat) (cyB cyI cyJ cyP : ClassId) (a0 a0_pile a0_kinds a0_facts a0_values : Nat) (sz : Nat)  (v0_length : Int32) (f0_kinds : Nat → Int32) (f0_values : Nat → Int32) (f0_facts : Nat → Int32) (f0_pile : Nat → Int32)  {Q : Int32 → (Nat → Int32) → Prop} (hw : wq_X4_reach v0_length f0_kinds f0_values f0_facts f0_pile  Q) : Met l yX4_reach wsX4_reach ({ frames := 1, cells := 0, slots := 0, locals := 32 }) (va_Pc [.ref a0] (cPc (dC, dI) (kT cyB cyI cyJ cyP) [(a0, .inr (4, [.ref a0_kinds, .ref a0_values, .ref a0_pile, .ref a0_facts, .int v0_length])), (a0_pile, .inl (cyI, 150, .inl f0_pile)), (a0_kinds, .inl (cyI, 150, .inl f0_kinds)), (a0_values, .inl (cyI, 150, .inl f0_values)), (a0_facts, .inl (cyI, 8, .inl f0_facts))] sz)) (va_Qi (fun (r : Int32) (u : (Nat → Int32)) => Q r u) (cB (dC, dI) (kT cyB cyI cyJ cyP) (va_A [(a0, .inr (4, [.ref a0_kinds, .ref a0_values, .ref a0_pile, .ref a0_facts, .int v0_length])), (a0_pile, .inl (cyI, 150, .inl f0_pile)), (a0_kinds, .inl (cyI, 150, .inl f0_kinds)), (a0_values, .inl (cyI, 150, .inl f0_values)), (a0_facts, .inl (cyI, 8, .inl f0_facts))] sz) (fun u : (Nat → Int32) => ([(a0, .inr (4, [.ref a0_kinds, .ref a0_values, .ref a0_pile, .ref a0_facts, .int v0_length])), (a0_pile, .inl (cyI, 150, .inl u)), (a0_kinds, .inl (cyI, 150, .inl f0_kinds)), (a0_values, .inl (cyI, 150, .inl f0_values)), (a0_facts, .inl (cyI, 8, .inl f0_facts))] : va_W))) (va_A [(a0, .inr (4, [.ref a0_kinds, .ref a0_values, .ref a0_pile, .ref a0_facts, .int v0_length])), (a0_pile, .inl (cyI, 150, .inl f0_pile)), (a0_kinds, .inl (cyI, 150, .inl f0_kinds)), (a0_values, .inl (cyI, 150, .inl f0_values)), (a0_facts, .inl (cyI, 8, .inl f0_facts))] sz)) 0 0 (va_A [(a0, .inr (4, [.ref a0_kinds, .ref a0_values, .ref a0_pile, .ref a0_facts, .int v0_length])), (a0_pile, .inl (cyI, 150, .inl f0_pile)), (a0_kinds, .inl (cyI, 150, .inl f0_kinds)), (a0_values, .inl (cyI, 150, .inl f0_values)), (a0_facts, .inl (cyI, 8, .inl f0_facts))] sz) := by
  refine Met.ofW (cc := cX4_reach) (maxL := 4) (ret := (some .int)) (by decide) rfl ?_
  intro p e s m args below meth c s₁ B hml hv
  obtain ⟨rfl, hsz, hP, hK, hD0, hNw⟩ := hv
  have hx := B.exec
  have hb := B.bytes
  have hr := B.returns
  have hts := atoms_spec (ws := wsX4_reach) B.pre
  have hown : s.vm.findClass RX4 = some m.cls := findClass_of_methodNamed B.named
  have hlocks := B.notSynchronized
  subst hsz
  have hD := hD0.self (sz := s.heap.size)
  generalize hAe : va_A [(a0, .inr (4, [.ref a0_kinds, .ref a0_values, .ref a0_pile, .ref a0_facts, .int v0_length])), (a0_pile, .inl (cyI, 150, .inl f0_pile)), (a0_kinds, .inl (cyI, 150, .inl f0_kinds)), (a0_values, .inl (cyI, 150, .inl f0_values)), (a0_facts, .inl (cyI, 8, .inl f0_facts))] s.heap.size = A at hD ⊢
  have hA : ∀ q : Nat, s.heap.size ≤ q → A q := fun q h => by rw [← hAe]; exact Or.inr h
  have hS : va_S A s.heap s.heap [] := va_S.rf
  have hP : va_P (dC, dI) vwCl [(a0, .inr (4, [.ref a0_kinds, .ref a0_values, .ref a0_pile, .ref a0_facts, .int v0_length])), (a0_pile, .inl (cyI, 150, .inl f0_pile)), (a0_kinds, .inl (cyI, 150, .inl f0_kinds)), (a0_values, .inl (cyI, 150, .inl f0_values)), (a0_facts, .inl (cyI, 8, .inl f0_facts))] s.heap := hP
  have hl := lv_entry ([.ref a0]) (n := 4) (Nat.le_of_ble_eq_true rfl)
  rw [lg_entry_eq]
  generalize (lg_sl ([.ref a0]) ++ List.replicate (4 - (lg_sl ([.ref a0])).length) Slot.unset).toArray = ls at hl ⊢
  have hl : lv_has ls 4 [(0, .ref a0)] := hl
  have C0 : cfx p s m _ meth c cX4_reach (some .int) wsX4_reach RX4 4 A (dC, dI) (kT cyB cyI cyJ cyP) := ⟨hx, hb, hr, hts, hown, hlocks, hml, hA, hK, hNw⟩
  clear hAe
  obtain ⟨H, hH⟩ : ∃ H, H = s.heap := ⟨_, rfl⟩
  rw [← hH] at hP ⊢
  have hS : va_S A s.heap H [] := by rw [hH]; exact va_S.rf
  have hS := hS
  refine lv_iconst (v := 0) hx hb dX4_reach_0 (by decide) ?_
  refine lv_istore_n (lv' := [(1, .int 0), (0, .ref a0)]) hx hb dX4_reach_1 rfl hl (by decide) rfl (fun ls hl => ?_)
  refine lv_iconst (v := 0) hx hb dX4_reach_2 (by decide) ?_
  refine lv_istore_n (lv' := [(2, .int 0), (1, .int 0), (0, .ref a0)]) hx hb dX4_reach_3 rfl hl (by decide) rfl (fun ls hl => ?_)
  obtain ⟨n9, hw⟩ := hw
  exact kl_X4_reach_4 dC dI cyB cyI cyJ cyP a0 a0_pile a0_kinds a0_facts a0_values  v0_length f0_kinds f0_values f0_facts Q  C0 n9 _ _ _ f0_pile 0 0 hP hD hS (lv_sub hl [2, 1, 0] rfl) hw
theorem ui_X1_reach_X1 : ∀ w ∈ u_ws RX1 TX1 4, w ∈ wsX1_reach := by decide +kernel
theorem uw_X1_reach_f28 : (.fieldLink RX1 28 "MarchHares$Days" "law" "LMarchHares$Law;" : Cond) ∈ wsX1_reach := by decide +kernel
def wq_X1_reach (f0_row : Nat → Int32) (v0_down_hares : Int32) (v0_law_length : Int32) (f0_law_kinds : Nat → Int32) (f0_law_values : Nat → Int32) (f0_law_facts : Nat → Int32) (f0_law_pile : Nat → Int32) (p1 : Int32) (Q : Int32 → (Nat → Int32) → (Nat → Int32) → Prop) : Prop := wq_X1_sits f0_row  p1 (fun r1 => wq_X1_seatedIn v0_down_hares f0_row  r1 (fun r2 => wq_J6_bitCount_0f7a4   (r2 &&& ((1 <<< (p1 &&& 31)) ^^^ (-1))) (fun r3 => wq_X1_strong f0_row  p1 (fun r4 => wq_X1_still f0_row  p1 (fun r5 => wq_X1_owes v0_down_hares f0_row  p1 (fun r6 => wq_X1_owed v0_down_hares f0_row  p1 (fun r7 => wq_X4_setFacts  f0_law_facts r4 r5 r6 r7 r3 (fun f8 => wq_X1_day f0_row   (fun r9 => wq_X1_leaps f0_row  p1 (fun r10 => wq_X4_setTimes  f8 r9 p1 r10 (fun f11 => wq_X4_reach v0_law_length f0_law_kinds f0_law_values f11 f0_law_pile  (fun r13 f12 => (Q r13 f11 f12)))))))))))))
set_option maxHeartbeats 4000000 in
set_option maxRecDepth 100000 in
theorem ck_X1_reach (l : Launch) (dC : Nat → ClassId) (dI : Nat → Nat → Nat) (cyB cyI cyJ cyP : ClassId) (a0 a0_row a0_down a0_law a0_law_facts a0_law_pile a0_law_kinds a0_law_values : Nat) (sz : Nat) (z0_owedEach : Value) (z0_down_formX : Value) (z0_down_formY : Value) (z0_down_foxX : Value) (z0_down_foxY : Value) (z0_down_seat : Value) (z0_down_strength : Value) (z0_down_debts : Value) (z0_down_near : Value) (z0_down_forms : Value) (z0_down_foxes : Value) (z0_down_safe : Value) (f0_row : Nat → Int32) (v0_down_hares : Int32) (v0_law_length : Int32) (f0_law_kinds : Nat → Int32) (f0_law_values : Nat → Int32) (f0_law_facts : Nat → Int32) (f0_law_pile : Nat → Int32) (p1 : Int32) {Q : Int32 → (Nat → Int32) → (Nat → Int32) → Prop} (hw : wq_X1_reach f0_row v0_down_hares v0_law_length f0_law_kinds f0_law_values f0_law_facts f0_law_pile p1 Q) : Met l yX1_reach wsX1_reach ({ frames := 2, cells := 0, slots := 0, locals := 55 }) (va_Pc [.ref a0, .int p1] (cPc (dC, dI) (kT cyB cyI cyJ cyP) [(a0, .inr (1, [.ref a0_row, z0_owedEach, .ref a0_down, .ref a0_law])), (a0_row, .inl (cyI, 64, .inl f0_row)), (a0_down, .inr (2, [z0_down_formX, z0_down_formY, z0_down_foxX, z0_down_foxY, z0_down_seat, z0_down_strength, z0_down_debts, z0_down_near, z0_down_forms, .int v0_down_hares, z0_down_foxes, z0_down_safe])), (a0_law, .inr (4, [.ref a0_law_kinds, .ref a0_law_values, .ref a0_law_pile, .ref a0_law_facts, .int v0_law_length])), (a0_law_facts, .inl (cyI, 8, .inl f0_law_facts)), (a0_law_pile, .inl (cyI, 150, .inl f0_law_pile)), (a0_law_kinds, .inl (cyI, 150, .inl f0_law_kinds)), (a0_law_values, .inl (cyI, 150, .inl f0_law_values))] sz)) (va_Qi (fun (r : Int32) (u : (Nat → Int32) × (Nat → Int32)) => Q r u.1 u.2) (cB (dC, dI) (kT cyB cyI cyJ cyP) (va_A [(a0, .inr (1, [.ref a0_row, z0_owedEach, .ref a0_down, .ref a0_law])), (a0_row, .inl (cyI, 64, .inl f0_row)), (a0_down, .inr (2, [z0_down_formX, z0_down_formY, z0_down_foxX, z0_down_foxY, z0_down_seat, z0_down_strength, z0_down_debts, z0_down_near, z0_down_forms, .int v0_down_hares, z0_down_foxes, z0_down_safe])), (a0_law, .inr (4, [.ref a0_law_kinds, .ref a0_law_values, .ref a0_law_pile, .ref a0_law_facts, .int v0_law_length])), (a0_law_facts, .inl (cyI, 8, .inl f0_law_facts)), (a0_law_pile, .inl (cyI, 150, .inl f0_law_pile)), (a0_law_kinds, .inl (cyI, 150, .inl f0_law_kinds)), (a0_law_values, .inl (cyI, 150, .inl f0_law_values))] sz) (fun u : (Nat → Int32) × (Nat → Int32) => ([(a0, .inr (1, [.ref a0_row, z0_owedEach, .ref a0_down, .ref a0_law])), (a0_row, .inl (cyI, 64, .inl f0_row)), (a0_down, .inr (2, [z0_down_formX, z0_down_formY, z0_down_foxX, z0_down_foxY, z0_down_seat, z0_down_strength, z0_down_debts, z0_down_near, z0_down_forms, .int v0_down_hares, z0_down_foxes, z0_down_safe])), (a0_law, .inr (4, [.ref a0_law_kinds, .ref a0_law_values, .ref a0_law_pile, .ref a0_law_facts, .int v0_law_length])), (a0_law_facts, .inl (cyI, 8, .inl u.1)), (a0_law_pile, .inl (cyI, 150, .inl u.2)), (a0_law_kinds, .inl (cyI, 150, .inl f0_law_kinds)), (a0_law_values, .inl (cyI, 150, .inl f0_law_values))] : va_W))) (va_A [(a0, .inr (1, [.ref a0_row, z0_owedEach, .ref a0_down, .ref a0_law])), (a0_row, .inl (cyI, 64, .inl f0_row)), (a0_down, .inr (2, [z0_down_formX, z0_down_formY, z0_down_foxX, z0_down_foxY, z0_down_seat, z0_down_strength, z0_down_debts, z0_down_near, z0_down_forms, .int v0_down_hares, z0_down_foxes, z0_down_safe])), (a0_law, .inr (4, [.ref a0_law_kinds, .ref a0_law_values, .ref a0_law_pile, .ref a0_law_facts, .int v0_law_length])), (a0_law_facts, .inl (cyI, 8, .inl f0_law_facts)), (a0_law_pile, .inl (cyI, 150, .inl f0_law_pile)), (a0_law_kinds, .inl (cyI, 150, .inl f0_law_kinds)), (a0_law_values, .inl (cyI, 150, .inl f0_law_values))] sz)) 0 0 (va_A [(a0, .inr (1, [.ref a0_row, z0_owedEach, .ref a0_down, .ref a0_law])), (a0_row, .inl (cyI, 64, .inl f0_row)), (a0_down, .inr (2, [z0_down_formX, z0_down_formY, z0_down_foxX, z0_down_foxY, z0_down_seat, z0_down_strength, z0_down_debts, z0_down_near, z0_down_forms, .int v0_down_hares, z0_down_foxes, z0_down_safe])), (a0_law, .inr (4, [.ref a0_law_kinds, .ref a0_law_values, .ref a0_law_pile, .ref a0_law_facts, .int v0_law_length])), (a0_law_facts, .inl (cyI, 8, .inl f0_law_facts)), (a0_law_pile, .inl (cyI, 150, .inl f0_law_pile)), (a0_law_kinds, .inl (cyI, 150, .inl f0_law_kinds)), (a0_law_values, .inl (cyI, 150, .inl f0_law_values))] sz) := by
  refine Met.ofW (cc := cX1_reach) (maxL := 3) (ret := (some .int)) (by decide) rfl ?_
  intro p e s m args below meth c s₁ B hml hv
  obtain ⟨rfl, hsz, hP, hK, hD0, hNw⟩ := hv
  have hx := B.exec
  have hb := B.bytes
  have hr := B.returns
  have hts := atoms_spec (ws := wsX1_reach) B.pre
  have hown : s.vm.findClass RX1 = some m.cls := findClass_of_methodNamed B.named
  have hlocks := B.notSynchronized
  subst hsz
  have hD := hD0.self (sz := s.heap.size)
  generalize hAe : va_A [(a0, .inr (1, [.ref a0_row, z0_owedEach, .ref a0_down, .ref a0_law])), (a0_row, .inl (cyI, 64, .inl f0_row)), (a0_down, .inr (2, [z0_down_formX, z0_down_formY, z0_down_foxX, z0_down_foxY, z0_down_seat, z0_down_strength, z0_down_debts, z0_down_near, z0_down_forms, .int v0_down_hares, z0_down_foxes, z0_down_safe])), (a0_law, .inr (4, [.ref a0_law_kinds, .ref a0_law_values, .ref a0_law_pile, .ref a0_law_facts, .int v0_law_length])), (a0_law_facts, .inl (cyI, 8, .inl f0_law_facts)), (a0_law_pile, .inl (cyI, 150, .inl f0_law_pile)), (a0_law_kinds, .inl (cyI, 150, .inl f0_law_kinds)), (a0_law_values, .inl (cyI, 150, .inl f0_law_values))] s.heap.size = A at hD ⊢
  have hA : ∀ q : Nat, s.heap.size ≤ q → A q := fun q h => by rw [← hAe]; exact Or.inr h
  have hS : va_S A s.heap s.heap [] := va_S.rf
  have hP : va_P (dC, dI) vwCl [(a0, .inr (1, [.ref a0_row, z0_owedEach, .ref a0_down, .ref a0_law])), (a0_row, .inl (cyI, 64, .inl f0_row)), (a0_down, .inr (2, [z0_down_formX, z0_down_formY, z0_down_foxX, z0_down_foxY, z0_down_seat, z0_down_strength, z0_down_debts, z0_down_near, z0_down_forms, .int v0_down_hares, z0_down_foxes, z0_down_safe])), (a0_law, .inr (4, [.ref a0_law_kinds, .ref a0_law_values, .ref a0_law_pile, .ref a0_law_facts, .int v0_law_length])), (a0_law_facts, .inl (cyI, 8, .inl f0_law_facts)), (a0_law_pile, .inl (cyI, 150, .inl f0_law_pile)), (a0_law_kinds, .inl (cyI, 150, .inl f0_law_kinds)), (a0_law_values, .inl (cyI, 150, .inl f0_law_values))] s.heap := hP
  have hl := lv_entry ([.ref a0, .int p1]) (n := 3) (Nat.le_of_ble_eq_true rfl)
  rw [lg_entry_eq]
  generalize (lg_sl ([.ref a0, .int p1]) ++ List.replicate (3 - (lg_sl ([.ref a0, .int p1])).length) Slot.unset).toArray = ls at hl ⊢
  have hl : lv_has ls 3 [(0, .ref a0), (1, .int p1)] := hl
  have C0 : cfx p s m _ meth c cX1_reach (some .int) wsX1_reach RX1 3 A (dC, dI) (kT cyB cyI cyJ cyP) := ⟨hx, hb, hr, hts, hown, hlocks, hml, hA, hK, hNw⟩
  clear hAe
  obtain ⟨H, hH⟩ : ∃ H, H = s.heap := ⟨_, rfl⟩
  rw [← hH] at hP ⊢
  have hS : va_S A s.heap H [] := by rw [hH]; exact va_S.rf
  have hS := hS
  refine lv_aload_n hx hb dX1_reach_0 rfl (lv_at hl 0 rfl) ?_
  refine lv_aload_n hx hb dX1_reach_1 rfl (lv_at hl 0 rfl) ?_
  refine lv_iload_n hx hb dX1_reach_2 rfl (lv_at hl 1 rfl) ?_
  have hPc := hP.sub (ws' := [(a0, .inr (1, [.ref a0_row, z0_owedEach, .ref a0_down, .ref a0_law])), (a0_row, .inl (cyI, 64, .inl f0_row))]) [0, 1] rfl
  have hDc := hD.sub (ws' := [(a0, .inr (1, [.ref a0_row, z0_owedEach, .ref a0_down, .ref a0_law])), (a0_row, .inl (cyI, 64, .inl f0_row))]) [0, 1] (by decide) rfl
  have hFc := va_free (wc := [(a0, .inr (1, [.ref a0_row, z0_owedEach, .ref a0_down, .ref a0_law])), (a0_row, .inl (cyI, 64, .inl f0_row))]) hD hS hA [0, 1] rfl
  refine va_calli (va_runV (As := [.int p1]) (rest := [.ref a0]) ⟨hx, hb, hml, hown, hts⟩ (ck_X1_sits l dC dI cyB cyI cyJ cyP a0 a0_row H.size (z0_owedEach) (.ref a0_down) (.ref a0_law) f0_row  p1 hw) (cwV 1 hts gX1_reach_X1_sits rfl rfl rfl (by decide +kernel) ⟨Nat.le_of_ble_eq_true rfl, Nat.le_of_ble_eq_true rfl⟩) ⟨cPc_blind, va_recv hK hPc (ci := 1) (q0 := 0) rfl rfl, cPc_pre hPc hK hDc hNw⟩ rfl rfl hl.1 rfl (lv_room (Nat.le_of_ble_eq_true rfl)) dX1_reach_3 ⟨Nat.le_of_ble_eq_true rfl, Nat.le_of_ble_eq_true rfl⟩) hS (fun q _ h => hFc q h) hFc (fun r1 u t H1 locs ht hvm hw hB hz1 hk1 hS => ?_)
  obtain ⟨hP1, hK1, hD1⟩ := hB
  rw [ht] at hP1
  obtain ⟨hP, hD⟩ := va_join (wr := [(a0_down, .inr (2, [z0_down_formX, z0_down_formY, z0_down_foxX, z0_down_foxY, z0_down_seat, z0_down_strength, z0_down_debts, z0_down_near, z0_down_forms, .int v0_down_hares, z0_down_foxes, z0_down_safe])), (a0_law, .inr (4, [.ref a0_law_kinds, .ref a0_law_values, .ref a0_law_pile, .ref a0_law_facts, .int v0_law_length])), (a0_law_facts, .inl (cyI, 8, .inl f0_law_facts)), (a0_law_pile, .inl (cyI, 150, .inl f0_law_pile)), (a0_law_kinds, .inl (cyI, 150, .inl f0_law_kinds)), (a0_law_values, .inl (cyI, 150, .inl f0_law_values))]) (w1 := [(a0, .inr (1, [.ref a0_row, z0_owedEach, .ref a0_down, .ref a0_law])), (a0_row, .inl (cyI, 64, .inl f0_row))]) hP hD [0, 1] [2, 3, 4, 5, 6, 7] rfl rfl (by decide) (by decide) hk1 hFc hP1 hD1
  have hP : va_P (dC, dI) vwCl [(a0, .inr (1, [.ref a0_row, z0_owedEach, .ref a0_down, .ref a0_law])), (a0_row, .inl (cyI, 64, .inl f0_row)), (a0_down, .inr (2, [z0_down_formX, z0_down_formY, z0_down_foxX, z0_down_foxY, z0_down_seat, z0_down_strength, z0_down_debts, z0_down_near, z0_down_forms, .int v0_down_hares, z0_down_foxes, z0_down_safe])), (a0_law, .inr (4, [.ref a0_law_kinds, .ref a0_law_values, .ref a0_law_pile, .ref a0_law_facts, .int v0_law_length])), (a0_law_facts, .inl (cyI, 8, .inl f0_law_facts)), (a0_law_pile, .inl (cyI, 150, .inl f0_law_pile)), (a0_law_kinds, .inl (cyI, 150, .inl f0_law_kinds)), (a0_law_values, .inl (cyI, 150, .inl f0_law_values))] H1 := hP.sub [6, 7, 0, 1, 2, 3, 4, 5] rfl
  have hD : va_D A [(a0, .inr (1, [.ref a0_row, z0_owedEach, .ref a0_down, .ref a0_law])), (a0_row, .inl (cyI, 64, .inl f0_row)), (a0_down, .inr (2, [z0_down_formX, z0_down_formY, z0_down_foxX, z0_down_foxY, z0_down_seat, z0_down_strength, z0_down_debts, z0_down_near, z0_down_forms, .int v0_down_hares, z0_down_foxes, z0_down_safe])), (a0_law, .inr (4, [.ref a0_law_kinds, .ref a0_law_values, .ref a0_law_pile, .ref a0_law_facts, .int v0_law_length])), (a0_law_facts, .inl (cyI, 8, .inl f0_law_facts)), (a0_law_pile, .inl (cyI, 150, .inl f0_law_pile)), (a0_law_kinds, .inl (cyI, 150, .inl f0_law_kinds)), (a0_law_values, .inl (cyI, 150, .inl f0_law_values))] := hD.sub [6, 7, 0, 1, 2, 3, 4, 5] (by decide) rfl
  generalize H1 = H at hP hS ⊢
  have hPc := hP.sub (ws' := [(a0, .inr (1, [.ref a0_row, z0_owedEach, .ref a0_down, .ref a0_law])), (a0_down, .inr (2, [z0_down_formX, z0_down_formY, z0_down_foxX, z0_down_foxY, z0_down_seat, z0_down_strength, z0_down_debts, z0_down_near, z0_down_forms, .int v0_down_hares, z0_down_foxes, z0_down_safe])), (a0_row, .inl (cyI, 64, .inl f0_row))]) [0, 2, 1] rfl
  have hDc := hD.sub (ws' := [(a0, .inr (1, [.ref a0_row, z0_owedEach, .ref a0_down, .ref a0_law])), (a0_down, .inr (2, [z0_down_formX, z0_down_formY, z0_down_foxX, z0_down_foxY, z0_down_seat, z0_down_strength, z0_down_debts, z0_down_near, z0_down_forms, .int v0_down_hares, z0_down_foxes, z0_down_safe])), (a0_row, .inl (cyI, 64, .inl f0_row))]) [0, 2, 1] (by decide) rfl
  have hFc := va_free (wc := [(a0, .inr (1, [.ref a0_row, z0_owedEach, .ref a0_down, .ref a0_law])), (a0_down, .inr (2, [z0_down_formX, z0_down_formY, z0_down_foxX, z0_down_foxY, z0_down_seat, z0_down_strength, z0_down_debts, z0_down_near, z0_down_forms, .int v0_down_hares, z0_down_foxes, z0_down_safe])), (a0_row, .inl (cyI, 64, .inl f0_row))]) hD hS hA [0, 2, 1] rfl
  refine va_calli (va_runV (As := [.int r1]) (rest := []) ⟨hx, hb, hml, hown, hts⟩ (ck_X1_seatedIn l dC dI cyB cyI cyJ cyP a0 a0_down a0_row H.size (z0_owedEach) (.ref a0_law) (z0_down_formX) (z0_down_formY) (z0_down_foxX) (z0_down_foxY) (z0_down_seat) (z0_down_strength) (z0_down_debts) (z0_down_near) (z0_down_forms) (z0_down_foxes) (z0_down_safe) v0_down_hares f0_row  r1 hw) (cwV 1 hts gX1_reach_X1_seatedIn rfl rfl rfl (by decide +kernel) ⟨Nat.le_of_ble_eq_true rfl, Nat.le_of_ble_eq_true rfl⟩) ⟨cPc_blind, va_recv hK hPc (ci := 1) (q0 := 0) rfl rfl, cPc_pre hPc hK hDc hNw⟩ rfl rfl hl.1 rfl (lv_room (Nat.le_of_ble_eq_true rfl)) dX1_reach_6 ⟨Nat.le_of_ble_eq_true rfl, Nat.le_of_ble_eq_true rfl⟩) hS (fun q _ h => hFc q h) hFc (fun r2 u t H1 locs ht hvm hw hB hz1 hk1 hS => ?_)
  obtain ⟨hP1, hK1, hD1⟩ := hB
  rw [ht] at hP1
  obtain ⟨hP, hD⟩ := va_join (wr := [(a0_law, .inr (4, [.ref a0_law_kinds, .ref a0_law_values, .ref a0_law_pile, .ref a0_law_facts, .int v0_law_length])), (a0_law_facts, .inl (cyI, 8, .inl f0_law_facts)), (a0_law_pile, .inl (cyI, 150, .inl f0_law_pile)), (a0_law_kinds, .inl (cyI, 150, .inl f0_law_kinds)), (a0_law_values, .inl (cyI, 150, .inl f0_law_values))]) (w1 := [(a0, .inr (1, [.ref a0_row, z0_owedEach, .ref a0_down, .ref a0_law])), (a0_down, .inr (2, [z0_down_formX, z0_down_formY, z0_down_foxX, z0_down_foxY, z0_down_seat, z0_down_strength, z0_down_debts, z0_down_near, z0_down_forms, .int v0_down_hares, z0_down_foxes, z0_down_safe])), (a0_row, .inl (cyI, 64, .inl f0_row))]) hP hD [0, 2, 1] [3, 4, 5, 6, 7] rfl rfl (by decide) (by decide) hk1 hFc hP1 hD1
  have hP : va_P (dC, dI) vwCl [(a0, .inr (1, [.ref a0_row, z0_owedEach, .ref a0_down, .ref a0_law])), (a0_row, .inl (cyI, 64, .inl f0_row)), (a0_down, .inr (2, [z0_down_formX, z0_down_formY, z0_down_foxX, z0_down_foxY, z0_down_seat, z0_down_strength, z0_down_debts, z0_down_near, z0_down_forms, .int v0_down_hares, z0_down_foxes, z0_down_safe])), (a0_law, .inr (4, [.ref a0_law_kinds, .ref a0_law_values, .ref a0_law_pile, .ref a0_law_facts, .int v0_law_length])), (a0_law_facts, .inl (cyI, 8, .inl f0_law_facts)), (a0_law_pile, .inl (cyI, 150, .inl f0_law_pile)), (a0_law_kinds, .inl (cyI, 150, .inl f0_law_kinds)), (a0_law_values, .inl (cyI, 150, .inl f0_law_values))] H1 := hP.sub [5, 7, 6, 0, 1, 2, 3, 4] rfl
  have hD : va_D A [(a0, .inr (1, [.ref a0_row, z0_owedEach, .ref a0_down, .ref a0_law])), (a0_row, .inl (cyI, 64, .inl f0_row)), (a0_down, .inr (2, [z0_down_formX, z0_down_formY, z0_down_foxX, z0_down_foxY, z0_down_seat, z0_down_strength, z0_down_debts, z0_down_near, z0_down_forms, .int v0_down_hares, z0_down_foxes, z0_down_safe])), (a0_law, .inr (4, [.ref a0_law_kinds, .ref a0_law_values, .ref a0_law_pile, .ref a0_law_facts, .int v0_law_length])), (a0_law_facts, .inl (cyI, 8, .inl f0_law_facts)), (a0_law_pile, .inl (cyI, 150, .inl f0_law_pile)), (a0_law_kinds, .inl (cyI, 150, .inl f0_law_kinds)), (a0_law_values, .inl (cyI, 150, .inl f0_law_values))] := hD.sub [5, 7, 6, 0, 1, 2, 3, 4] (by decide) rfl
  generalize H1 = H at hP hS ⊢
  refine lv_iconst (v := 1) hx hb dX1_reach_9 (by decide) ?_
  refine lv_iload_n hx hb dX1_reach_10 rfl (lv_at hl 1 rfl) ?_
  refine lv_ishl hx hb dX1_reach_11 ?_
  refine lv_iconst (v := (-1)) hx hb dX1_reach_12 (by decide) ?_
  refine lv_ixor hx hb dX1_reach_13 ?_
  refine lv_iand hx hb dX1_reach_14 ?_
  have hPc := hP.sub (ws' := []) [] rfl
  have hDc := hD.sub (ws' := []) [] (by decide) rfl
  have hFc := va_free (wc := []) hD hS hA [] rfl
  refine va_calli (va_runS (As := [.int (r2 &&& ((1 <<< (p1 &&& 31)) ^^^ (-1)))]) (rest := []) ⟨hx, hb, hml, hown, hts⟩ (ck_J6_bitCount_0f7a4 l dC dI cyB cyI cyJ cyP  H.size    (r2 &&& ((1 <<< (p1 &&& 31)) ^^^ (-1))) hw) (va_cwS 1 hts gX1_reach_J6_bitCount_0f7a4 rfl rfl rfl (by decide +kernel) ⟨Nat.le_of_ble_eq_true rfl, Nat.le_of_ble_eq_true rfl⟩) ⟨cPc_blind, cPc_pre hPc hK hDc hNw⟩ rfl rfl hl.1 rfl (lv_room (Nat.le_of_ble_eq_true rfl)) dX1_reach_15 ⟨Nat.le_of_ble_eq_true rfl, Nat.le_of_ble_eq_true rfl⟩) hS (fun q _ h => hFc q h) hFc (fun r3 u t H1 locs ht hvm hw hB hz1 hk1 hS => ?_)
  obtain ⟨hP1, hK1, hD1⟩ := hB
  rw [ht] at hP1
  obtain ⟨hP, hD⟩ := va_join (wr := [(a0, .inr (1, [.ref a0_row, z0_owedEach, .ref a0_down, .ref a0_law])), (a0_row, .inl (cyI, 64, .inl f0_row)), (a0_down, .inr (2, [z0_down_formX, z0_down_formY, z0_down_foxX, z0_down_foxY, z0_down_seat, z0_down_strength, z0_down_debts, z0_down_near, z0_down_forms, .int v0_down_hares, z0_down_foxes, z0_down_safe])), (a0_law, .inr (4, [.ref a0_law_kinds, .ref a0_law_values, .ref a0_law_pile, .ref a0_law_facts, .int v0_law_length])), (a0_law_facts, .inl (cyI, 8, .inl f0_law_facts)), (a0_law_pile, .inl (cyI, 150, .inl f0_law_pile)), (a0_law_kinds, .inl (cyI, 150, .inl f0_law_kinds)), (a0_law_values, .inl (cyI, 150, .inl f0_law_values))]) (w1 := []) hP hD [] [0, 1, 2, 3, 4, 5, 6, 7] rfl rfl (by decide) (by decide) hk1 hFc hP1 hD1
  have hP : va_P (dC, dI) vwCl [(a0, .inr (1, [.ref a0_row, z0_owedEach, .ref a0_down, .ref a0_law])), (a0_row, .inl (cyI, 64, .inl f0_row)), (a0_down, .inr (2, [z0_down_formX, z0_down_formY, z0_down_foxX, z0_down_foxY, z0_down_seat, z0_down_strength, z0_down_debts, z0_down_near, z0_down_forms, .int v0_down_hares, z0_down_foxes, z0_down_safe])), (a0_law, .inr (4, [.ref a0_law_kinds, .ref a0_law_values, .ref a0_law_pile, .ref a0_law_facts, .int v0_law_length])), (a0_law_facts, .inl (cyI, 8, .inl f0_law_facts)), (a0_law_pile, .inl (cyI, 150, .inl f0_law_pile)), (a0_law_kinds, .inl (cyI, 150, .inl f0_law_kinds)), (a0_law_values, .inl (cyI, 150, .inl f0_law_values))] H1 := hP
  have hD : va_D A [(a0, .inr (1, [.ref a0_row, z0_owedEach, .ref a0_down, .ref a0_law])), (a0_row, .inl (cyI, 64, .inl f0_row)), (a0_down, .inr (2, [z0_down_formX, z0_down_formY, z0_down_foxX, z0_down_foxY, z0_down_seat, z0_down_strength, z0_down_debts, z0_down_near, z0_down_forms, .int v0_down_hares, z0_down_foxes, z0_down_safe])), (a0_law, .inr (4, [.ref a0_law_kinds, .ref a0_law_values, .ref a0_law_pile, .ref a0_law_facts, .int v0_law_length])), (a0_law_facts, .inl (cyI, 8, .inl f0_law_facts)), (a0_law_pile, .inl (cyI, 150, .inl f0_law_pile)), (a0_law_kinds, .inl (cyI, 150, .inl f0_law_kinds)), (a0_law_values, .inl (cyI, 150, .inl f0_law_values))] := hD
  generalize H1 = H at hP hS ⊢
  refine lv_istore_n (lv' := [(2, .int r3), (0, .ref a0), (1, .int p1)]) hx hb dX1_reach_18 rfl hl (by decide) rfl (fun ls hl => ?_)
  refine lv_aload_n hx hb dX1_reach_19 rfl (lv_at hl 1 rfl) ?_
  refine va_get (D := (dC, dI)) (ci := 1) (v := .ref a0_law) (C := RX1) (T := TX1) (N := 4) hx hb hts ui_X1_reach_X1 hown hK hP 0 rfl rfl 3 (by decide) (hts _ uw_X1_reach_f28) (fun _ h9 => h9) rfl dX1_reach_20 ?_
  refine lv_aload_n hx hb dX1_reach_23 rfl (lv_at hl 1 rfl) ?_
  refine lv_iload_n hx hb dX1_reach_24 rfl (lv_at hl 2 rfl) ?_
  have hPc := hP.sub (ws' := [(a0, .inr (1, [.ref a0_row, z0_owedEach, .ref a0_down, .ref a0_law])), (a0_row, .inl (cyI, 64, .inl f0_row))]) [0, 1] rfl
  have hDc := hD.sub (ws' := [(a0, .inr (1, [.ref a0_row, z0_owedEach, .ref a0_down, .ref a0_law])), (a0_row, .inl (cyI, 64, .inl f0_row))]) [0, 1] (by decide) rfl
  have hFc := va_free (wc := [(a0, .inr (1, [.ref a0_row, z0_owedEach, .ref a0_down, .ref a0_law])), (a0_row, .inl (cyI, 64, .inl f0_row))]) hD hS hA [0, 1] rfl
  refine va_calli (va_runV (As := [.int p1]) (rest := [.ref a0_law]) ⟨hx, hb, hml, hown, hts⟩ (ck_X1_strong l dC dI cyB cyI cyJ cyP a0 a0_row H.size (z0_owedEach) (.ref a0_down) (.ref a0_law) f0_row  p1 hw) (cwV 1 hts gX1_reach_X1_strong rfl rfl rfl (by decide +kernel) ⟨Nat.le_of_ble_eq_true rfl, Nat.le_of_ble_eq_true rfl⟩) ⟨cPc_blind, va_recv hK hPc (ci := 1) (q0 := 0) rfl rfl, cPc_pre hPc hK hDc hNw⟩ rfl rfl hl.1 rfl (lv_room (Nat.le_of_ble_eq_true rfl)) dX1_reach_25 ⟨Nat.le_of_ble_eq_true rfl, Nat.le_of_ble_eq_true rfl⟩) hS (fun q _ h => hFc q h) hFc (fun r4 u t H1 locs ht hvm hw hB hz1 hk1 hS => ?_)
  obtain ⟨hP1, hK1, hD1⟩ := hB
  rw [ht] at hP1
  obtain ⟨hP, hD⟩ := va_join (wr := [(a0_down, .inr (2, [z0_down_formX, z0_down_formY, z0_down_foxX, z0_down_foxY, z0_down_seat, z0_down_strength, z0_down_debts, z0_down_near, z0_down_forms, .int v0_down_hares, z0_down_foxes, z0_down_safe])), (a0_law, .inr (4, [.ref a0_law_kinds, .ref a0_law_values, .ref a0_law_pile, .ref a0_law_facts, .int v0_law_length])), (a0_law_facts, .inl (cyI, 8, .inl f0_law_facts)), (a0_law_pile, .inl (cyI, 150, .inl f0_law_pile)), (a0_law_kinds, .inl (cyI, 150, .inl f0_law_kinds)), (a0_law_values, .inl (cyI, 150, .inl f0_law_values))]) (w1 := [(a0, .inr (1, [.ref a0_row, z0_owedEach, .ref a0_down, .ref a0_law])), (a0_row, .inl (cyI, 64, .inl f0_row))]) hP hD [0, 1] [2, 3, 4, 5, 6, 7] rfl rfl (by decide) (by decide) hk1 hFc hP1 hD1
  have hP : va_P (dC, dI) vwCl [(a0, .inr (1, [.ref a0_row, z0_owedEach, .ref a0_down, .ref a0_law])), (a0_row, .inl (cyI, 64, .inl f0_row)), (a0_down, .inr (2, [z0_down_formX, z0_down_formY, z0_down_foxX, z0_down_foxY, z0_down_seat, z0_down_strength, z0_down_debts, z0_down_near, z0_down_forms, .int v0_down_hares, z0_down_foxes, z0_down_safe])), (a0_law, .inr (4, [.ref a0_law_kinds, .ref a0_law_values, .ref a0_law_pile, .ref a0_law_facts, .int v0_law_length])), (a0_law_facts, .inl (cyI, 8, .inl f0_law_facts)), (a0_law_pile, .inl (cyI, 150, .inl f0_law_pile)), (a0_law_kinds, .inl (cyI, 150, .inl f0_law_kinds)), (a0_law_values, .inl (cyI, 150, .inl f0_law_values))] H1 := hP.sub [6, 7, 0, 1, 2, 3, 4, 5] rfl
  have hD : va_D A [(a0, .inr (1, [.ref a0_row, z0_owedEach, .ref a0_down, .ref a0_law])), (a0_row, .inl (cyI, 64, .inl f0_row)), (a0_down, .inr (2, [z0_down_formX, z0_down_formY, z0_down_foxX, z0_down_foxY, z0_down_seat, z0_down_strength, z0_down_debts, z0_down_near, z0_down_forms, .int v0_down_hares, z0_down_foxes, z0_down_safe])), (a0_law, .inr (4, [.ref a0_law_kinds, .ref a0_law_values, .ref a0_law_pile, .ref a0_law_facts, .int v0_law_length])), (a0_law_facts, .inl (cyI, 8, .inl f0_law_facts)), (a0_law_pile, .inl (cyI, 150, .inl f0_law_pile)), (a0_law_kinds, .inl (cyI, 150, .inl f0_law_kinds)), (a0_law_values, .inl (cyI, 150, .inl f0_law_values))] := hD.sub [6, 7, 0, 1, 2, 3, 4, 5] (by decide) rfl
  generalize H1 = H at hP hS ⊢
  refine lv_aload_n hx hb dX1_reach_28 rfl (lv_at hl 1 rfl) ?_
  refine lv_iload_n hx hb dX1_reach_29 rfl (lv_at hl 2 rfl) ?_
  have hPc := hP.sub (ws' := [(a0, .inr (1, [.ref a0_row, z0_owedEach, .ref a0_down, .ref a0_law])), (a0_row, .inl (cyI, 64, .inl f0_row))]) [0, 1] rfl
  have hDc := hD.sub (ws' := [(a0, .inr (1, [.ref a0_row, z0_owedEach, .ref a0_down, .ref a0_law])), (a0_row, .inl (cyI, 64, .inl f0_row))]) [0, 1] (by decide) rfl
  have hFc := va_free (wc := [(a0, .inr (1, [.ref a0_row, z0_owedEach, .ref a0_down, .ref a0_law])), (a0_row, .inl (cyI, 64, .inl f0_row))]) hD hS hA [0, 1] rfl
  refine va_calli (va_runV (As := [.int p1]) (rest := [.int r4, .ref a0_law]) ⟨hx, hb, hml, hown, hts⟩ (ck_X1_still l dC dI cyB cyI cyJ cyP a0 a0_row H.size (z0_owedEach) (.ref a0_down) (.ref a0_law) f0_row  p1 hw) (cwV 1 hts gX1_reach_X1_still rfl rfl rfl (by decide +kernel) ⟨Nat.le_of_ble_eq_true rfl, Nat.le_of_ble_eq_true rfl⟩) ⟨cPc_blind, va_recv hK hPc (ci := 1) (q0 := 0) rfl rfl, cPc_pre hPc hK hDc hNw⟩ rfl rfl hl.1 rfl (lv_room (Nat.le_of_ble_eq_true rfl)) dX1_reach_30 ⟨Nat.le_of_ble_eq_true rfl, Nat.le_of_ble_eq_true rfl⟩) hS (fun q _ h => hFc q h) hFc (fun r5 u t H1 locs ht hvm hw hB hz1 hk1 hS => ?_)
  obtain ⟨hP1, hK1, hD1⟩ := hB
  rw [ht] at hP1
  obtain ⟨hP, hD⟩ := va_join (wr := [(a0_down, .inr (2, [z0_down_formX, z0_down_formY, z0_down_foxX, z0_down_foxY, z0_down_seat, z0_down_strength, z0_down_debts, z0_down_near, z0_down_forms, .int v0_down_hares, z0_down_foxes, z0_down_safe])), (a0_law, .inr (4, [.ref a0_law_kinds, .ref a0_law_values, .ref a0_law_pile, .ref a0_law_facts, .int v0_law_length])), (a0_law_facts, .inl (cyI, 8, .inl f0_law_facts)), (a0_law_pile, .inl (cyI, 150, .inl f0_law_pile)), (a0_law_kinds, .inl (cyI, 150, .inl f0_law_kinds)), (a0_law_values, .inl (cyI, 150, .inl f0_law_values))]) (w1 := [(a0, .inr (1, [.ref a0_row, z0_owedEach, .ref a0_down, .ref a0_law])), (a0_row, .inl (cyI, 64, .inl f0_row))]) hP hD [0, 1] [2, 3, 4, 5, 6, 7] rfl rfl (by decide) (by decide) hk1 hFc hP1 hD1
  have hP : va_P (dC, dI) vwCl [(a0, .inr (1, [.ref a0_row, z0_owedEach, .ref a0_down, .ref a0_law])), (a0_row, .inl (cyI, 64, .inl f0_row)), (a0_down, .inr (2, [z0_down_formX, z0_down_formY, z0_down_foxX, z0_down_foxY, z0_down_seat, z0_down_strength, z0_down_debts, z0_down_near, z0_down_forms, .int v0_down_hares, z0_down_foxes, z0_down_safe])), (a0_law, .inr (4, [.ref a0_law_kinds, .ref a0_law_values, .ref a0_law_pile, .ref a0_law_facts, .int v0_law_length])), (a0_law_facts, .inl (cyI, 8, .inl f0_law_facts)), (a0_law_pile, .inl (cyI, 150, .inl f0_law_pile)), (a0_law_kinds, .inl (cyI, 150, .inl f0_law_kinds)), (a0_law_values, .inl (cyI, 150, .inl f0_law_values))] H1 := hP.sub [6, 7, 0, 1, 2, 3, 4, 5] rfl
  have hD : va_D A [(a0, .inr (1, [.ref a0_row, z0_owedEach, .ref a0_down, .ref a0_law])), (a0_row, .inl (cyI, 64, .inl f0_row)), (a0_down, .inr (2, [z0_down_formX, z0_down_formY, z0_down_foxX, z0_down_foxY, z0_down_seat, z0_down_strength, z0_down_debts, z0_down_near, z0_down_forms, .int v0_down_hares, z0_down_foxes, z0_down_safe])), (a0_law, .inr (4, [.ref a0_law_kinds, .ref a0_law_values, .ref a0_law_pile, .ref a0_law_facts, .int v0_law_length])), (a0_law_facts, .inl (cyI, 8, .inl f0_law_facts)), (a0_law_pile, .inl (cyI, 150, .inl f0_law_pile)), (a0_law_kinds, .inl (cyI, 150, .inl f0_law_kinds)), (a0_law_values, .inl (cyI, 150, .inl f0_law_values))] := hD.sub [6, 7, 0, 1, 2, 3, 4, 5] (by decide) rfl
  generalize H1 = H at hP hS ⊢
  refine lv_aload_n hx hb dX1_reach_33 rfl (lv_at hl 1 rfl) ?_
  refine lv_iload_n hx hb dX1_reach_34 rfl (lv_at hl 2 rfl) ?_
  have hPc := hP.sub (ws' := [(a0, .inr (1, [.ref a0_row, z0_owedEach, .ref a0_down, .ref a0_law])), (a0_down, .inr (2, [z0_down_formX, z0_down_formY, z0_down_foxX, z0_down_foxY, z0_down_seat, z0_down_strength, z0_down_debts, z0_down_near, z0_down_forms, .int v0_down_hares, z0_down_foxes, z0_down_safe])), (a0_row, .inl (cyI, 64, .inl f0_row))]) [0, 2, 1] rfl
  have hDc := hD.sub (ws' := [(a0, .inr (1, [.ref a0_row, z0_owedEach, .ref a0_down, .ref a0_law])), (a0_down, .inr (2, [z0_down_formX, z0_down_formY, z0_down_foxX, z0_down_foxY, z0_down_seat, z0_down_strength, z0_down_debts, z0_down_near, z0_down_forms, .int v0_down_hares, z0_down_foxes, z0_down_safe])), (a0_row, .inl (cyI, 64, .inl f0_row))]) [0, 2, 1] (by decide) rfl
  have hFc := va_free (wc := [(a0, .inr (1, [.ref a0_row, z0_owedEach, .ref a0_down, .ref a0_law])), (a0_down, .inr (2, [z0_down_formX, z0_down_formY, z0_down_foxX, z0_down_foxY, z0_down_seat, z0_down_strength, z0_down_debts, z0_down_near, z0_down_forms, .int v0_down_hares, z0_down_foxes, z0_down_safe])), (a0_row, .inl (cyI, 64, .inl f0_row))]) hD hS hA [0, 2, 1] rfl
  refine va_calli (va_runV (As := [.int p1]) (rest := [.int r5, .int r4, .ref a0_law]) ⟨hx, hb, hml, hown, hts⟩ (ck_X1_owes l dC dI cyB cyI cyJ cyP a0 a0_down a0_row H.size (z0_owedEach) (.ref a0_law) (z0_down_formX) (z0_down_formY) (z0_down_foxX) (z0_down_foxY) (z0_down_seat) (z0_down_strength) (z0_down_debts) (z0_down_near) (z0_down_forms) (z0_down_foxes) (z0_down_safe) v0_down_hares f0_row  p1 hw) (cwV 1 hts gX1_reach_X1_owes rfl rfl rfl (by decide +kernel) ⟨Nat.le_of_ble_eq_true rfl, Nat.le_of_ble_eq_true rfl⟩) ⟨cPc_blind, va_recv hK hPc (ci := 1) (q0 := 0) rfl rfl, cPc_pre hPc hK hDc hNw⟩ rfl rfl hl.1 rfl (lv_room (Nat.le_of_ble_eq_true rfl)) dX1_reach_35 ⟨Nat.le_of_ble_eq_true rfl, Nat.le_of_ble_eq_true rfl⟩) hS (fun q _ h => hFc q h) hFc (fun r6 u t H1 locs ht hvm hw hB hz1 hk1 hS => ?_)
  obtain ⟨hP1, hK1, hD1⟩ := hB
  rw [ht] at hP1
  obtain ⟨hP, hD⟩ := va_join (wr := [(a0_law, .inr (4, [.ref a0_law_kinds, .ref a0_law_values, .ref a0_law_pile, .ref a0_law_facts, .int v0_law_length])), (a0_law_facts, .inl (cyI, 8, .inl f0_law_facts)), (a0_law_pile, .inl (cyI, 150, .inl f0_law_pile)), (a0_law_kinds, .inl (cyI, 150, .inl f0_law_kinds)), (a0_law_values, .inl (cyI, 150, .inl f0_law_values))]) (w1 := [(a0, .inr (1, [.ref a0_row, z0_owedEach, .ref a0_down, .ref a0_law])), (a0_down, .inr (2, [z0_down_formX, z0_down_formY, z0_down_foxX, z0_down_foxY, z0_down_seat, z0_down_strength, z0_down_debts, z0_down_near, z0_down_forms, .int v0_down_hares, z0_down_foxes, z0_down_safe])), (a0_row, .inl (cyI, 64, .inl f0_row))]) hP hD [0, 2, 1] [3, 4, 5, 6, 7] rfl rfl (by decide) (by decide) hk1 hFc hP1 hD1
  have hP : va_P (dC, dI) vwCl [(a0, .inr (1, [.ref a0_row, z0_owedEach, .ref a0_down, .ref a0_law])), (a0_row, .inl (cyI, 64, .inl f0_row)), (a0_down, .inr (2, [z0_down_formX, z0_down_formY, z0_down_foxX, z0_down_foxY, z0_down_seat, z0_down_strength, z0_down_debts, z0_down_near, z0_down_forms, .int v0_down_hares, z0_down_foxes, z0_down_safe])), (a0_law, .inr (4, [.ref a0_law_kinds, .ref a0_law_values, .ref a0_law_pile, .ref a0_law_facts, .int v0_law_length])), (a0_law_facts, .inl (cyI, 8, .inl f0_law_facts)), (a0_law_pile, .inl (cyI, 150, .inl f0_law_pile)), (a0_law_kinds, .inl (cyI, 150, .inl f0_law_kinds)), (a0_law_values, .inl (cyI, 150, .inl f0_law_values))] H1 := hP.sub [5, 7, 6, 0, 1, 2, 3, 4] rfl
  have hD : va_D A [(a0, .inr (1, [.ref a0_row, z0_owedEach, .ref a0_down, .ref a0_law])), (a0_row, .inl (cyI, 64, .inl f0_row)), (a0_down, .inr (2, [z0_down_formX, z0_down_formY, z0_down_foxX, z0_down_foxY, z0_down_seat, z0_down_strength, z0_down_debts, z0_down_near, z0_down_forms, .int v0_down_hares, z0_down_foxes, z0_down_safe])), (a0_law, .inr (4, [.ref a0_law_kinds, .ref a0_law_values, .ref a0_law_pile, .ref a0_law_facts, .int v0_law_length])), (a0_law_facts, .inl (cyI, 8, .inl f0_law_facts)), (a0_law_pile, .inl (cyI, 150, .inl f0_law_pile)), (a0_law_kinds, .inl (cyI, 150, .inl f0_law_kinds)), (a0_law_values, .inl (cyI, 150, .inl f0_law_values))] := hD.sub [5, 7, 6, 0, 1, 2, 3, 4] (by decide) rfl
  generalize H1 = H at hP hS ⊢
  refine lv_aload_n hx hb dX1_reach_38 rfl (lv_at hl 1 rfl) ?_
  refine lv_iload_n hx hb dX1_reach_39 rfl (lv_at hl 2 rfl) ?_
  have hPc := hP.sub (ws' := [(a0, .inr (1, [.ref a0_row, z0_owedEach, .ref a0_down, .ref a0_law])), (a0_down, .inr (2, [z0_down_formX, z0_down_formY, z0_down_foxX, z0_down_foxY, z0_down_seat, z0_down_strength, z0_down_debts, z0_down_near, z0_down_forms, .int v0_down_hares, z0_down_foxes, z0_down_safe])), (a0_row, .inl (cyI, 64, .inl f0_row))]) [0, 2, 1] rfl
  have hDc := hD.sub (ws' := [(a0, .inr (1, [.ref a0_row, z0_owedEach, .ref a0_down, .ref a0_law])), (a0_down, .inr (2, [z0_down_formX, z0_down_formY, z0_down_foxX, z0_down_foxY, z0_down_seat, z0_down_strength, z0_down_debts, z0_down_near, z0_down_forms, .int v0_down_hares, z0_down_foxes, z0_down_safe])), (a0_row, .inl (cyI, 64, .inl f0_row))]) [0, 2, 1] (by decide) rfl
  have hFc := va_free (wc := [(a0, .inr (1, [.ref a0_row, z0_owedEach, .ref a0_down, .ref a0_law])), (a0_down, .inr (2, [z0_down_formX, z0_down_formY, z0_down_foxX, z0_down_foxY, z0_down_seat, z0_down_strength, z0_down_debts, z0_down_near, z0_down_forms, .int v0_down_hares, z0_down_foxes, z0_down_safe])), (a0_row, .inl (cyI, 64, .inl f0_row))]) hD hS hA [0, 2, 1] rfl
  refine va_calli (va_runV (As := [.int p1]) (rest := [.int r6, .int r5, .int r4, .ref a0_law]) ⟨hx, hb, hml, hown, hts⟩ (ck_X1_owed l dC dI cyB cyI cyJ cyP a0 a0_down a0_row H.size (z0_owedEach) (.ref a0_law) (z0_down_formX) (z0_down_formY) (z0_down_foxX) (z0_down_foxY) (z0_down_seat) (z0_down_strength) (z0_down_debts) (z0_down_near) (z0_down_forms) (z0_down_foxes) (z0_down_safe) v0_down_hares f0_row  p1 hw) (cwV 1 hts gX1_reach_X1_owed rfl rfl rfl (by decide +kernel) ⟨Nat.le_of_ble_eq_true rfl, Nat.le_of_ble_eq_true rfl⟩) ⟨cPc_blind, va_recv hK hPc (ci := 1) (q0 := 0) rfl rfl, cPc_pre hPc hK hDc hNw⟩ rfl rfl hl.1 rfl (lv_room (Nat.le_of_ble_eq_true rfl)) dX1_reach_40 ⟨Nat.le_of_ble_eq_true rfl, Nat.le_of_ble_eq_true rfl⟩) hS (fun q _ h => hFc q h) hFc (fun r7 u t H1 locs ht hvm hw hB hz1 hk1 hS => ?_)
  obtain ⟨hP1, hK1, hD1⟩ := hB
  rw [ht] at hP1
  obtain ⟨hP, hD⟩ := va_join (wr := [(a0_law, .inr (4, [.ref a0_law_kinds, .ref a0_law_values, .ref a0_law_pile, .ref a0_law_facts, .int v0_law_length])), (a0_law_facts, .inl (cyI, 8, .inl f0_law_facts)), (a0_law_pile, .inl (cyI, 150, .inl f0_law_pile)), (a0_law_kinds, .inl (cyI, 150, .inl f0_law_kinds)), (a0_law_values, .inl (cyI, 150, .inl f0_law_values))]) (w1 := [(a0, .inr (1, [.ref a0_row, z0_owedEach, .ref a0_down, .ref a0_law])), (a0_down, .inr (2, [z0_down_formX, z0_down_formY, z0_down_foxX, z0_down_foxY, z0_down_seat, z0_down_strength, z0_down_debts, z0_down_near, z0_down_forms, .int v0_down_hares, z0_down_foxes, z0_down_safe])), (a0_row, .inl (cyI, 64, .inl f0_row))]) hP hD [0, 2, 1] [3, 4, 5, 6, 7] rfl rfl (by decide) (by decide) hk1 hFc hP1 hD1
  have hP : va_P (dC, dI) vwCl [(a0, .inr (1, [.ref a0_row, z0_owedEach, .ref a0_down, .ref a0_law])), (a0_row, .inl (cyI, 64, .inl f0_row)), (a0_down, .inr (2, [z0_down_formX, z0_down_formY, z0_down_foxX, z0_down_foxY, z0_down_seat, z0_down_strength, z0_down_debts, z0_down_near, z0_down_forms, .int v0_down_hares, z0_down_foxes, z0_down_safe])), (a0_law, .inr (4, [.ref a0_law_kinds, .ref a0_law_values, .ref a0_law_pile, .ref a0_law_facts, .int v0_law_length])), (a0_law_facts, .inl (cyI, 8, .inl f0_law_facts)), (a0_law_pile, .inl (cyI, 150, .inl f0_law_pile)), (a0_law_kinds, .inl (cyI, 150, .inl f0_law_kinds)), (a0_law_values, .inl (cyI, 150, .inl f0_law_values))] H1 := hP.sub [5, 7, 6, 0, 1, 2, 3, 4] rfl
  have hD : va_D A [(a0, .inr (1, [.ref a0_row, z0_owedEach, .ref a0_down, .ref a0_law])), (a0_row, .inl (cyI, 64, .inl f0_row)), (a0_down, .inr (2, [z0_down_formX, z0_down_formY, z0_down_foxX, z0_down_foxY, z0_down_seat, z0_down_strength, z0_down_debts, z0_down_near, z0_down_forms, .int v0_down_hares, z0_down_foxes, z0_down_safe])), (a0_law, .inr (4, [.ref a0_law_kinds, .ref a0_law_values, .ref a0_law_pile, .ref a0_law_facts, .int v0_law_length])), (a0_law_facts, .inl (cyI, 8, .inl f0_law_facts)), (a0_law_pile, .inl (cyI, 150, .inl f0_law_pile)), (a0_law_kinds, .inl (cyI, 150, .inl f0_law_kinds)), (a0_law_values, .inl (cyI, 150, .inl f0_law_values))] := hD.sub [5, 7, 6, 0, 1, 2, 3, 4] (by decide) rfl
  generalize H1 = H at hP hS ⊢
  refine lv_iload_n hx hb dX1_reach_43 rfl (lv_at hl 0 rfl) ?_
  have hPc := hP.sub (ws' := [(a0_law, .inr (4, [.ref a0_law_kinds, .ref a0_law_values, .ref a0_law_pile, .ref a0_law_facts, .int v0_law_length])), (a0_law_facts, .inl (cyI, 8, .inl f0_law_facts))]) [3, 4] rfl
  have hDc := hD.sub (ws' := [(a0_law, .inr (4, [.ref a0_law_kinds, .ref a0_law_values, .ref a0_law_pile, .ref a0_law_facts, .int v0_law_length])), (a0_law_facts, .inl (cyI, 8, .inl f0_law_facts))]) [3, 4] (by decide) rfl
  have hFc := va_free (wc := [(a0_law, .inr (4, [.ref a0_law_kinds, .ref a0_law_values, .ref a0_law_pile, .ref a0_law_facts, .int v0_law_length])), (a0_law_facts, .inl (cyI, 8, .inl f0_law_facts))]) hD hS hA [3, 4] rfl
  refine va_callv (va_runV (As := [.int r4, .int r5, .int r6, .int r7, .int r3]) (rest := []) ⟨hx, hb, hml, hown, hts⟩ (ck_X4_setFacts l dC dI cyB cyI cyJ cyP a0_law a0_law_facts H.size (.ref a0_law_kinds) (.ref a0_law_values) (.ref a0_law_pile) (.int v0_law_length)  f0_law_facts r4 r5 r6 r7 r3 hw) (cwV 5 hts gX1_reach_X4_setFacts rfl rfl rfl (by decide +kernel) ⟨Nat.le_of_ble_eq_true rfl, Nat.le_of_ble_eq_true rfl⟩) ⟨cPc_blind, va_recv hK hPc (ci := 4) (q0 := 0) rfl rfl, cPc_pre hPc hK hDc hNw⟩ rfl rfl hl.1 rfl (lv_room (Nat.le_of_ble_eq_true rfl)) dX1_reach_44 ⟨Nat.le_of_ble_eq_true rfl, Nat.le_of_ble_eq_true rfl⟩) hS (fun q _ h => hFc q h) hFc (fun u t H1 locs ht hvm hw hB hz1 hk1 hS => ?_)
  obtain ⟨f8, rfl⟩ : ∃ z, z = u := ⟨_, rfl⟩
  obtain ⟨hP1, hK1, hD1⟩ := hB
  rw [ht] at hP1
  obtain ⟨hP, hD⟩ := va_join (wr := [(a0, .inr (1, [.ref a0_row, z0_owedEach, .ref a0_down, .ref a0_law])), (a0_row, .inl (cyI, 64, .inl f0_row)), (a0_down, .inr (2, [z0_down_formX, z0_down_formY, z0_down_foxX, z0_down_foxY, z0_down_seat, z0_down_strength, z0_down_debts, z0_down_near, z0_down_forms, .int v0_down_hares, z0_down_foxes, z0_down_safe])), (a0_law_pile, .inl (cyI, 150, .inl f0_law_pile)), (a0_law_kinds, .inl (cyI, 150, .inl f0_law_kinds)), (a0_law_values, .inl (cyI, 150, .inl f0_law_values))]) (w1 := [(a0_law, .inr (4, [.ref a0_law_kinds, .ref a0_law_values, .ref a0_law_pile, .ref a0_law_facts, .int v0_law_length])), (a0_law_facts, .inl (cyI, 8, .inl f8))]) hP hD [3, 4] [0, 1, 2, 5, 6, 7] rfl rfl (by decide) (by decide) hk1 hFc hP1 hD1
  have hP : va_P (dC, dI) vwCl [(a0, .inr (1, [.ref a0_row, z0_owedEach, .ref a0_down, .ref a0_law])), (a0_row, .inl (cyI, 64, .inl f0_row)), (a0_down, .inr (2, [z0_down_formX, z0_down_formY, z0_down_foxX, z0_down_foxY, z0_down_seat, z0_down_strength, z0_down_debts, z0_down_near, z0_down_forms, .int v0_down_hares, z0_down_foxes, z0_down_safe])), (a0_law, .inr (4, [.ref a0_law_kinds, .ref a0_law_values, .ref a0_law_pile, .ref a0_law_facts, .int v0_law_length])), (a0_law_facts, .inl (cyI, 8, .inl f8)), (a0_law_pile, .inl (cyI, 150, .inl f0_law_pile)), (a0_law_kinds, .inl (cyI, 150, .inl f0_law_kinds)), (a0_law_values, .inl (cyI, 150, .inl f0_law_values))] H1 := hP.sub [0, 1, 2, 6, 7, 3, 4, 5] rfl
  have hD : va_D A [(a0, .inr (1, [.ref a0_row, z0_owedEach, .ref a0_down, .ref a0_law])), (a0_row, .inl (cyI, 64, .inl f0_row)), (a0_down, .inr (2, [z0_down_formX, z0_down_formY, z0_down_foxX, z0_down_foxY, z0_down_seat, z0_down_strength, z0_down_debts, z0_down_near, z0_down_forms, .int v0_down_hares, z0_down_foxes, z0_down_safe])), (a0_law, .inr (4, [.ref a0_law_kinds, .ref a0_law_values, .ref a0_law_pile, .ref a0_law_facts, .int v0_law_length])), (a0_law_facts, .inl (cyI, 8, .inl f8)), (a0_law_pile, .inl (cyI, 150, .inl f0_law_pile)), (a0_law_kinds, .inl (cyI, 150, .inl f0_law_kinds)), (a0_law_values, .inl (cyI, 150, .inl f0_law_values))] := hD.sub [0, 1, 2, 6, 7, 3, 4, 5] (by decide) rfl
  generalize H1 = H at hP hS ⊢
  refine lv_aload_n hx hb dX1_reach_47 rfl (lv_at hl 1 rfl) ?_
  refine va_get (D := (dC, dI)) (ci := 1) (v := .ref a0_law) (C := RX1) (T := TX1) (N := 4) hx hb hts ui_X1_reach_X1 hown hK hP 0 rfl rfl 3 (by decide) (hts _ uw_X1_reach_f28) (fun _ h9 => h9) rfl dX1_reach_48 ?_
  refine lv_aload_n hx hb dX1_reach_51 rfl (lv_at hl 1 rfl) ?_
  have hPc := hP.sub (ws' := [(a0, .inr (1, [.ref a0_row, z0_owedEach, .ref a0_down, .ref a0_law])), (a0_row, .inl (cyI, 64, .inl f0_row))]) [0, 1] rfl
  have hDc := hD.sub (ws' := [(a0, .inr (1, [.ref a0_row, z0_owedEach, .ref a0_down, .ref a0_law])), (a0_row, .inl (cyI, 64, .inl f0_row))]) [0, 1] (by decide) rfl
  have hFc := va_free (wc := [(a0, .inr (1, [.ref a0_row, z0_owedEach, .ref a0_down, .ref a0_law])), (a0_row, .inl (cyI, 64, .inl f0_row))]) hD hS hA [0, 1] rfl
  refine va_calli (va_runV (As := []) (rest := [.ref a0_law]) ⟨hx, hb, hml, hown, hts⟩ (ck_X1_day l dC dI cyB cyI cyJ cyP a0 a0_row H.size (z0_owedEach) (.ref a0_down) (.ref a0_law) f0_row   hw) (cwV 0 hts gX1_reach_X1_day rfl rfl rfl (by decide +kernel) ⟨Nat.le_of_ble_eq_true rfl, Nat.le_of_ble_eq_true rfl⟩) ⟨cPc_blind, va_recv hK hPc (ci := 1) (q0 := 0) rfl rfl, cPc_pre hPc hK hDc hNw⟩ rfl rfl hl.1 rfl (lv_room (Nat.le_of_ble_eq_true rfl)) dX1_reach_52 ⟨Nat.le_of_ble_eq_true rfl, Nat.le_of_ble_eq_true rfl⟩) hS (fun q _ h => hFc q h) hFc (fun r9 u t H1 locs ht hvm hw hB hz1 hk1 hS => ?_)
  obtain ⟨hP1, hK1, hD1⟩ := hB
  rw [ht] at hP1
  obtain ⟨hP, hD⟩ := va_join (wr := [(a0_down, .inr (2, [z0_down_formX, z0_down_formY, z0_down_foxX, z0_down_foxY, z0_down_seat, z0_down_strength, z0_down_debts, z0_down_near, z0_down_forms, .int v0_down_hares, z0_down_foxes, z0_down_safe])), (a0_law, .inr (4, [.ref a0_law_kinds, .ref a0_law_values, .ref a0_law_pile, .ref a0_law_facts, .int v0_law_length])), (a0_law_facts, .inl (cyI, 8, .inl f8)), (a0_law_pile, .inl (cyI, 150, .inl f0_law_pile)), (a0_law_kinds, .inl (cyI, 150, .inl f0_law_kinds)), (a0_law_values, .inl (cyI, 150, .inl f0_law_values))]) (w1 := [(a0, .inr (1, [.ref a0_row, z0_owedEach, .ref a0_down, .ref a0_law])), (a0_row, .inl (cyI, 64, .inl f0_row))]) hP hD [0, 1] [2, 3, 4, 5, 6, 7] rfl rfl (by decide) (by decide) hk1 hFc hP1 hD1
  have hP : va_P (dC, dI) vwCl [(a0, .inr (1, [.ref a0_row, z0_owedEach, .ref a0_down, .ref a0_law])), (a0_row, .inl (cyI, 64, .inl f0_row)), (a0_down, .inr (2, [z0_down_formX, z0_down_formY, z0_down_foxX, z0_down_foxY, z0_down_seat, z0_down_strength, z0_down_debts, z0_down_near, z0_down_forms, .int v0_down_hares, z0_down_foxes, z0_down_safe])), (a0_law, .inr (4, [.ref a0_law_kinds, .ref a0_law_values, .ref a0_law_pile, .ref a0_law_facts, .int v0_law_length])), (a0_law_facts, .inl (cyI, 8, .inl f8)), (a0_law_pile, .inl (cyI, 150, .inl f0_law_pile)), (a0_law_kinds, .inl (cyI, 150, .inl f0_law_kinds)), (a0_law_values, .inl (cyI, 150, .inl f0_law_values))] H1 := hP.sub [6, 7, 0, 1, 2, 3, 4, 5] rfl
  have hD : va_D A [(a0, .inr (1, [.ref a0_row, z0_owedEach, .ref a0_down, .ref a0_law])), (a0_row, .inl (cyI, 64, .inl f0_row)), (a0_down, .inr (2, [z0_down_formX, z0_down_formY, z0_down_foxX, z0_down_foxY, z0_down_seat, z0_down_strength, z0_down_debts, z0_down_near, z0_down_forms, .int v0_down_hares, z0_down_foxes, z0_down_safe])), (a0_law, .inr (4, [.ref a0_law_kinds, .ref a0_law_values, .ref a0_law_pile, .ref a0_law_facts, .int v0_law_length])), (a0_law_facts, .inl (cyI, 8, .inl f8)), (a0_law_pile, .inl (cyI, 150, .inl f0_law_pile)), (a0_law_kinds, .inl (cyI, 150, .inl f0_law_kinds)), (a0_law_values, .inl (cyI, 150, .inl f0_law_values))] := hD.sub [6, 7, 0, 1, 2, 3, 4, 5] (by decide) rfl
  generalize H1 = H at hP hS ⊢
  refine lv_iload_n hx hb dX1_reach_55 rfl (lv_at hl 2 rfl) ?_
  refine lv_aload_n hx hb dX1_reach_56 rfl (lv_at hl 1 rfl) ?_
  refine lv_iload_n hx hb dX1_reach_57 rfl (lv_at hl 2 rfl) ?_
  have hPc := hP.sub (ws' := [(a0, .inr (1, [.ref a0_row, z0_owedEach, .ref a0_down, .ref a0_law])), (a0_row, .inl (cyI, 64, .inl f0_row))]) [0, 1] rfl
  have hDc := hD.sub (ws' := [(a0, .inr (1, [.ref a0_row, z0_owedEach, .ref a0_down, .ref a0_law])), (a0_row, .inl (cyI, 64, .inl f0_row))]) [0, 1] (by decide) rfl
  have hFc := va_free (wc := [(a0, .inr (1, [.ref a0_row, z0_owedEach, .ref a0_down, .ref a0_law])), (a0_row, .inl (cyI, 64, .inl f0_row))]) hD hS hA [0, 1] rfl
  refine va_calli (va_runV (As := [.int p1]) (rest := [.int p1, .int r9, .ref a0_law]) ⟨hx, hb, hml, hown, hts⟩ (ck_X1_leaps l dC dI cyB cyI cyJ cyP a0 a0_row H.size (z0_owedEach) (.ref a0_down) (.ref a0_law) f0_row  p1 hw) (cwV 1 hts gX1_reach_X1_leaps rfl rfl rfl (by decide +kernel) ⟨Nat.le_of_ble_eq_true rfl, Nat.le_of_ble_eq_true rfl⟩) ⟨cPc_blind, va_recv hK hPc (ci := 1) (q0 := 0) rfl rfl, cPc_pre hPc hK hDc hNw⟩ rfl rfl hl.1 rfl (lv_room (Nat.le_of_ble_eq_true rfl)) dX1_reach_58 ⟨Nat.le_of_ble_eq_true rfl, Nat.le_of_ble_eq_true rfl⟩) hS (fun q _ h => hFc q h) hFc (fun r10 u t H1 locs ht hvm hw hB hz1 hk1 hS => ?_)
  obtain ⟨hP1, hK1, hD1⟩ := hB
  rw [ht] at hP1
  obtain ⟨hP, hD⟩ := va_join (wr := [(a0_down, .inr (2, [z0_down_formX, z0_down_formY, z0_down_foxX, z0_down_foxY, z0_down_seat, z0_down_strength, z0_down_debts, z0_down_near, z0_down_forms, .int v0_down_hares, z0_down_foxes, z0_down_safe])), (a0_law, .inr (4, [.ref a0_law_kinds, .ref a0_law_values, .ref a0_law_pile, .ref a0_law_facts, .int v0_law_length])), (a0_law_facts, .inl (cyI, 8, .inl f8)), (a0_law_pile, .inl (cyI, 150, .inl f0_law_pile)), (a0_law_kinds, .inl (cyI, 150, .inl f0_law_kinds)), (a0_law_values, .inl (cyI, 150, .inl f0_law_values))]) (w1 := [(a0, .inr (1, [.ref a0_row, z0_owedEach, .ref a0_down, .ref a0_law])), (a0_row, .inl (cyI, 64, .inl f0_row))]) hP hD [0, 1] [2, 3, 4, 5, 6, 7] rfl rfl (by decide) (by decide) hk1 hFc hP1 hD1
  have hP : va_P (dC, dI) vwCl [(a0, .inr (1, [.ref a0_row, z0_owedEach, .ref a0_down, .ref a0_law])), (a0_row, .inl (cyI, 64, .inl f0_row)), (a0_down, .inr (2, [z0_down_formX, z0_down_formY, z0_down_foxX, z0_down_foxY, z0_down_seat, z0_down_strength, z0_down_debts, z0_down_near, z0_down_forms, .int v0_down_hares, z0_down_foxes, z0_down_safe])), (a0_law, .inr (4, [.ref a0_law_kinds, .ref a0_law_values, .ref a0_law_pile, .ref a0_law_facts, .int v0_law_length])), (a0_law_facts, .inl (cyI, 8, .inl f8)), (a0_law_pile, .inl (cyI, 150, .inl f0_law_pile)), (a0_law_kinds, .inl (cyI, 150, .inl f0_law_kinds)), (a0_law_values, .inl (cyI, 150, .inl f0_law_values))] H1 := hP.sub [6, 7, 0, 1, 2, 3, 4, 5] rfl
  have hD : va_D A [(a0, .inr (1, [.ref a0_row, z0_owedEach, .ref a0_down, .ref a0_law])), (a0_row, .inl (cyI, 64, .inl f0_row)), (a0_down, .inr (2, [z0_down_formX, z0_down_formY, z0_down_foxX, z0_down_foxY, z0_down_seat, z0_down_strength, z0_down_debts, z0_down_near, z0_down_forms, .int v0_down_hares, z0_down_foxes, z0_down_safe])), (a0_law, .inr (4, [.ref a0_law_kinds, .ref a0_law_values, .ref a0_law_pile, .ref a0_law_facts, .int v0_law_length])), (a0_law_facts, .inl (cyI, 8, .inl f8)), (a0_law_pile, .inl (cyI, 150, .inl f0_law_pile)), (a0_law_kinds, .inl (cyI, 150, .inl f0_law_kinds)), (a0_law_values, .inl (cyI, 150, .inl f0_law_values))] := hD.sub [6, 7, 0, 1, 2, 3, 4, 5] (by decide) rfl
  generalize H1 = H at hP hS ⊢
  have hPc := hP.sub (ws' := [(a0_law, .inr (4, [.ref a0_law_kinds, .ref a0_law_values, .ref a0_law_pile, .ref a0_law_facts, .int v0_law_length])), (a0_law_facts, .inl (cyI, 8, .inl f8))]) [3, 4] rfl
  have hDc := hD.sub (ws' := [(a0_law, .inr (4, [.ref a0_law_kinds, .ref a0_law_values, .ref a0_law_pile, .ref a0_law_facts, .int v0_law_length])), (a0_law_facts, .inl (cyI, 8, .inl f8))]) [3, 4] (by decide) rfl
  have hFc := va_free (wc := [(a0_law, .inr (4, [.ref a0_law_kinds, .ref a0_law_values, .ref a0_law_pile, .ref a0_law_facts, .int v0_law_length])), (a0_law_facts, .inl (cyI, 8, .inl f8))]) hD hS hA [3, 4] rfl
  refine va_callv (va_runV (As := [.int r9, .int p1, .int r10]) (rest := []) ⟨hx, hb, hml, hown, hts⟩ (ck_X4_setTimes l dC dI cyB cyI cyJ cyP a0_law a0_law_facts H.size (.ref a0_law_kinds) (.ref a0_law_values) (.ref a0_law_pile) (.int v0_law_length)  f8 r9 p1 r10 hw) (cwV 3 hts gX1_reach_X4_setTimes rfl rfl rfl (by decide +kernel) ⟨Nat.le_of_ble_eq_true rfl, Nat.le_of_ble_eq_true rfl⟩) ⟨cPc_blind, va_recv hK hPc (ci := 4) (q0 := 0) rfl rfl, cPc_pre hPc hK hDc hNw⟩ rfl rfl hl.1 rfl (lv_room (Nat.le_of_ble_eq_true rfl)) dX1_reach_61 ⟨Nat.le_of_ble_eq_true rfl, Nat.le_of_ble_eq_true rfl⟩) hS (fun q _ h => hFc q h) hFc (fun u t H1 locs ht hvm hw hB hz1 hk1 hS => ?_)
  obtain ⟨f11, rfl⟩ : ∃ z, z = u := ⟨_, rfl⟩
  obtain ⟨hP1, hK1, hD1⟩ := hB
  rw [ht] at hP1
  obtain ⟨hP, hD⟩ := va_join (wr := [(a0, .inr (1, [.ref a0_row, z0_owedEach, .ref a0_down, .ref a0_law])), (a0_row, .inl (cyI, 64, .inl f0_row)), (a0_down, .inr (2, [z0_down_formX, z0_down_formY, z0_down_foxX, z0_down_foxY, z0_down_seat, z0_down_strength, z0_down_debts, z0_down_near, z0_down_forms, .int v0_down_hares, z0_down_foxes, z0_down_safe])), (a0_law_pile, .inl (cyI, 150, .inl f0_law_pile)), (a0_law_kinds, .inl (cyI, 150, .inl f0_law_kinds)), (a0_law_values, .inl (cyI, 150, .inl f0_law_values))]) (w1 := [(a0_law, .inr (4, [.ref a0_law_kinds, .ref a0_law_values, .ref a0_law_pile, .ref a0_law_facts, .int v0_law_length])), (a0_law_facts, .inl (cyI, 8, .inl f11))]) hP hD [3, 4] [0, 1, 2, 5, 6, 7] rfl rfl (by decide) (by decide) hk1 hFc hP1 hD1
  have hP : va_P (dC, dI) vwCl [(a0, .inr (1, [.ref a0_row, z0_owedEach, .ref a0_down, .ref a0_law])), (a0_row, .inl (cyI, 64, .inl f0_row)), (a0_down, .inr (2, [z0_down_formX, z0_down_formY, z0_down_foxX, z0_down_foxY, z0_down_seat, z0_down_strength, z0_down_debts, z0_down_near, z0_down_forms, .int v0_down_hares, z0_down_foxes, z0_down_safe])), (a0_law, .inr (4, [.ref a0_law_kinds, .ref a0_law_values, .ref a0_law_pile, .ref a0_law_facts, .int v0_law_length])), (a0_law_facts, .inl (cyI, 8, .inl f11)), (a0_law_pile, .inl (cyI, 150, .inl f0_law_pile)), (a0_law_kinds, .inl (cyI, 150, .inl f0_law_kinds)), (a0_law_values, .inl (cyI, 150, .inl f0_law_values))] H1 := hP.sub [0, 1, 2, 6, 7, 3, 4, 5] rfl
  have hD : va_D A [(a0, .inr (1, [.ref a0_row, z0_owedEach, .ref a0_down, .ref a0_law])), (a0_row, .inl (cyI, 64, .inl f0_row)), (a0_down, .inr (2, [z0_down_formX, z0_down_formY, z0_down_foxX, z0_down_foxY, z0_down_seat, z0_down_strength, z0_down_debts, z0_down_near, z0_down_forms, .int v0_down_hares, z0_down_foxes, z0_down_safe])), (a0_law, .inr (4, [.ref a0_law_kinds, .ref a0_law_values, .ref a0_law_pile, .ref a0_law_facts, .int v0_law_length])), (a0_law_facts, .inl (cyI, 8, .inl f11)), (a0_law_pile, .inl (cyI, 150, .inl f0_law_pile)), (a0_law_kinds, .inl (cyI, 150, .inl f0_law_kinds)), (a0_law_values, .inl (cyI, 150, .inl f0_law_values))] := hD.sub [0, 1, 2, 6, 7, 3, 4, 5] (by decide) rfl
  generalize H1 = H at hP hS ⊢
  refine lv_aload_n hx hb dX1_reach_64 rfl (lv_at hl 1 rfl) ?_
  refine va_get (D := (dC, dI)) (ci := 1) (v := .ref a0_law) (C := RX1) (T := TX1) (N := 4) hx hb hts ui_X1_reach_X1 hown hK hP 0 rfl rfl 3 (by decide) (hts _ uw_X1_reach_f28) (fun _ h9 => h9) rfl dX1_reach_65 ?_
  have hPc := hP.sub (ws' := [(a0_law, .inr (4, [.ref a0_law_kinds, .ref a0_law_values, .ref a0_law_pile, .ref a0_law_facts, .int v0_law_length])), (a0_law_pile, .inl (cyI, 150, .inl f0_law_pile)), (a0_law_kinds, .inl (cyI, 150, .inl f0_law_kinds)), (a0_law_values, .inl (cyI, 150, .inl f0_law_values)), (a0_law_facts, .inl (cyI, 8, .inl f11))]) [3, 5, 6, 7, 4] rfl
  have hDc := hD.sub (ws' := [(a0_law, .inr (4, [.ref a0_law_kinds, .ref a0_law_values, .ref a0_law_pile, .ref a0_law_facts, .int v0_law_length])), (a0_law_pile, .inl (cyI, 150, .inl f0_law_pile)), (a0_law_kinds, .inl (cyI, 150, .inl f0_law_kinds)), (a0_law_values, .inl (cyI, 150, .inl f0_law_values)), (a0_law_facts, .inl (cyI, 8, .inl f11))]) [3, 5, 6, 7, 4] (by decide) rfl
  have hFc := va_free (wc := [(a0_law, .inr (4, [.ref a0_law_kinds, .ref a0_law_values, .ref a0_law_pile, .ref a0_law_facts, .int v0_law_length])), (a0_law_pile, .inl (cyI, 150, .inl f0_law_pile)), (a0_law_kinds, .inl (cyI, 150, .inl f0_law_kinds)), (a0_law_values, .inl (cyI, 150, .inl f0_law_values)), (a0_law_facts, .inl (cyI, 8, .inl f11))]) hD hS hA [3, 5, 6, 7, 4] rfl
  refine va_calli (va_runV (As := []) (rest := []) ⟨hx, hb, hml, hown, hts⟩ (ck_X4_reach l dC dI cyB cyI cyJ cyP a0_law a0_law_pile a0_law_kinds a0_law_facts a0_law_values H.size  v0_law_length f0_law_kinds f0_law_values f11 f0_law_pile  hw) (cwV 0 hts gX1_reach_X4_reach rfl rfl rfl (by decide +kernel) ⟨Nat.le_of_ble_eq_true rfl, Nat.le_of_ble_eq_true rfl⟩) ⟨cPc_blind, va_recv hK hPc (ci := 4) (q0 := 0) rfl rfl, cPc_pre hPc hK hDc hNw⟩ rfl rfl hl.1 rfl (lv_room (Nat.le_of_ble_eq_true rfl)) dX1_reach_68 ⟨Nat.le_of_ble_eq_true rfl, Nat.le_of_ble_eq_true rfl⟩) hS (fun q _ h => hFc q h) hFc (fun r13 u t H1 locs ht hvm hw hB hz1 hk1 hS => ?_)
  obtain ⟨f12, rfl⟩ : ∃ z, z = u := ⟨_, rfl⟩
  obtain ⟨hP1, hK1, hD1⟩ := hB
  rw [ht] at hP1
  obtain ⟨hP, hD⟩ := va_join (wr := [(a0, .inr (1, [.ref a0_row, z0_owedEach, .ref a0_down, .ref a0_law])), (a0_row, .inl (cyI, 64, .inl f0_row)), (a0_down, .inr (2, [z0_down_formX, z0_down_formY, z0_down_foxX, z0_down_foxY, z0_down_seat, z0_down_strength, z0_down_debts, z0_down_near, z0_down_forms, .int v0_down_hares, z0_down_foxes, z0_down_safe]))]) (w1 := [(a0_law, .inr (4, [.ref a0_law_kinds, .ref a0_law_values, .ref a0_law_pile, .ref a0_law_facts, .int v0_law_length])), (a0_law_pile, .inl (cyI, 150, .inl f12)), (a0_law_kinds, .inl (cyI, 150, .inl f0_law_kinds)), (a0_law_values, .inl (cyI, 150, .inl f0_law_values)), (a0_law_facts, .inl (cyI, 8, .inl f11))]) hP hD [3, 5, 6, 7, 4] [0, 1, 2] rfl rfl (by decide) (by decide) hk1 hFc hP1 hD1
  have hP : va_P (dC, dI) vwCl [(a0, .inr (1, [.ref a0_row, z0_owedEach, .ref a0_down, .ref a0_law])), (a0_row, .inl (cyI, 64, .inl f0_row)), (a0_down, .inr (2, [z0_down_formX, z0_down_formY, z0_down_foxX, z0_down_foxY, z0_down_seat, z0_down_strength, z0_down_debts, z0_down_near, z0_down_forms, .int v0_down_hares, z0_down_foxes, z0_down_safe])), (a0_law, .inr (4, [.ref a0_law_kinds, .ref a0_law_values, .ref a0_law_pile, .ref a0_law_facts, .int v0_law_length])), (a0_law_facts, .inl (cyI, 8, .inl f11)), (a0_law_pile, .inl (cyI, 150, .inl f12)), (a0_law_kinds, .inl (cyI, 150, .inl f0_law_kinds)), (a0_law_values, .inl (cyI, 150, .inl f0_law_values))] H1 := hP.sub [0, 1, 2, 3, 7, 4, 5, 6] rfl
  have hD : va_D A [(a0, .inr (1, [.ref a0_row, z0_owedEach, .ref a0_down, .ref a0_law])), (a0_row, .inl (cyI, 64, .inl f0_row)), (a0_down, .inr (2, [z0_down_formX, z0_down_formY, z0_down_foxX, z0_down_foxY, z0_down_seat, z0_down_strength, z0_down_debts, z0_down_near, z0_down_forms, .int v0_down_hares, z0_down_foxes, z0_down_safe])), (a0_law, .inr (4, [.ref a0_law_kinds, .ref a0_law_values, .ref a0_law_pile, .ref a0_law_facts, .int v0_law_length])), (a0_law_facts, .inl (cyI, 8, .inl f11)), (a0_law_pile, .inl (cyI, 150, .inl f12)), (a0_law_kinds, .inl (cyI, 150, .inl f0_law_kinds)), (a0_law_values, .inl (cyI, 150, .inl f0_law_values))] := hD.sub [0, 1, 2, 3, 7, 4, 5, 6] (by decide) rfl
  generalize H1 = H at hP hS ⊢
  exact ((W.iret (v := r13) hx hb hr (fun t ht hW => ⟨⟨r13, (f11, f12), rfl, hw, by rw [ht]; exact hP, va_K.moved hW.alike hK, hD⟩, hS.F ht⟩) hS.2.2 dX1_reach_71))
theorem ui_X1_couldLeap_X1 : ∀ w ∈ u_ws RX1 TX1 4, w ∈ wsX1_couldLeap := by decide +kernel
theorem uw_X1_couldLeap_f24 : (.fieldLink RX1 24 "MarchHares$Days" "down" "LMarchHares$Down;" : Cond) ∈ wsX1_couldLeap := by decide +kernel
def wq_X1_couldLeap (f0_row : Nat → Int32) (v0_down_hares : Int32) (f0_down_formX : Nat → Int32) (f0_down_formY : Nat → Int32) (v0_law_length : Int32) (f0_law_kinds : Nat → Int32) (f0_law_values : Nat → Int32) (f0_law_facts : Nat → Int32) (f0_law_pile : Nat → Int32) (p1 : Int32) (p2 : Int32) (Q : Int32 → (Nat → Int32) → (Nat → Int32) → Prop) : Prop := wq_X1_isCaught f0_row  p1 (fun r1 => ((¬ r1 = 0 → (Q 0 f0_law_facts f0_law_pile)) ∧ (r1 = 0 → wq_X1_sits f0_row  p1 (fun r3 => ((r3 = p2 → (Q 0 f0_law_facts f0_law_pile)) ∧ (¬ r3 = p2 → wq_X1_sits f0_row  p1 (fun r5 => wq_X2_apart f0_down_formX f0_down_formY  r5 p2 (fun r6 => wq_X1_reach f0_row v0_down_hares v0_law_length f0_law_kinds f0_law_values f0_law_facts f0_law_pile p1 (fun r9 f7 f8 => ((r9 < r6 → (Q 0 f7 f8)) ∧ (¬ r9 < r6 → (Q 1 f7 f8))))))))))))
set_option maxHeartbeats 4000000 in
set_option maxRecDepth 100000 in
theorem ck_X1_couldLeap (l : Launch) (dC : Nat → ClassId) (dI : Nat → Nat → Nat) (cyB cyI cyJ cyP : ClassId) (a0 a0_row a0_down a0_down_formX a0_down_formY a0_law a0_law_facts a0_law_pile a0_law_kinds a0_law_values : Nat) (sz : Nat) (z0_owedEach : Value) (z0_down_foxX : Value) (z0_down_foxY : Value) (z0_down_seat : Value) (z0_down_strength : Value) (z0_down_debts : Value) (z0_down_near : Value) (z0_down_forms : Value) (z0_down_foxes : Value) (z0_down_safe : Value) (f0_row : Nat → Int32) (v0_down_hares : Int32) (f0_down_formX : Nat → Int32) (f0_down_formY : Nat → Int32) (v0_law_length : Int32) (f0_law_kinds : Nat → Int32) (f0_law_values : Nat → Int32) (f0_law_facts : Nat → Int32) (f0_law_pile : Nat → Int32) (p1 : Int32) (p2 : Int32) {Q : Int32 → (Nat → Int32) → (Nat → Int32) → Prop} (hw : wq_X1_couldLeap f0_row v0_down_hares f0_down_formX f0_down_formY v0_law_length f0_law_kinds f0_law_values f0_law_facts f0_law_pile p1 p2 Q) : Met l yX1_couldLeap wsX1_couldLeap ({ frames := 3, cells := 0, slots := 0, locals := 77 }) (va_Pc [.ref a0, .int p1, .int p2] (cPc (dC, dI) (kT cyB cyI cyJ cyP) [(a0, .inr (1, [.ref a0_row, z0_owedEach, .ref a0_down, .ref a0_law])), (a0_row, .inl (cyI, 64, .inl f0_row)), (a0_down, .inr (2, [.ref a0_down_formX, .ref a0_down_formY, z0_down_foxX, z0_down_foxY, z0_down_seat, z0_down_strength, z0_down_debts, z0_down_near, z0_down_forms, .int v0_down_hares, z0_down_foxes, z0_down_safe])), (a0_down_formX, .inl (cyI, 8, .inl f0_down_formX)), (a0_down_formY, .inl (cyI, 8, .inl f0_down_formY)), (a0_law, .inr (4, [.ref a0_law_kinds, .ref a0_law_values, .ref a0_law_pile, .ref a0_law_facts, .int v0_law_length])), (a0_law_facts, .inl (cyI, 8, .inl f0_law_facts)), (a0_law_pile, .inl (cyI, 150, .inl f0_law_pile)), (a0_law_kinds, .inl (cyI, 150, .inl f0_law_kinds)), (a0_law_values, .inl (cyI, 150, .inl f0_law_values))] sz)) (va_Qi (fun (r : Int32) (u : (Nat → Int32) × (Nat → Int32)) => Q r u.1 u.2) (cB (dC, dI) (kT cyB cyI cyJ cyP) (va_A [(a0, .inr (1, [.ref a0_row, z0_owedEach, .ref a0_down, .ref a0_law])), (a0_row, .inl (cyI, 64, .inl f0_row)), (a0_down, .inr (2, [.ref a0_down_formX, .ref a0_down_formY, z0_down_foxX, z0_down_foxY, z0_down_seat, z0_down_strength, z0_down_debts, z0_down_near, z0_down_forms, .int v0_down_hares, z0_down_foxes, z0_down_safe])), (a0_down_formX, .inl (cyI, 8, .inl f0_down_formX)), (a0_down_formY, .inl (cyI, 8, .inl f0_down_formY)), (a0_law, .inr (4, [.ref a0_law_kinds, .ref a0_law_values, .ref a0_law_pile, .ref a0_law_facts, .int v0_law_length])), (a0_law_facts, .inl (cyI, 8, .inl f0_law_facts)), (a0_law_pile, .inl (cyI, 150, .inl f0_law_pile)), (a0_law_kinds, .inl (cyI, 150, .inl f0_law_kinds)), (a0_law_values, .inl (cyI, 150, .inl f0_law_values))] sz) (fun u : (Nat → Int32) × (Nat → Int32) => ([(a0, .inr (1, [.ref a0_row, z0_owedEach, .ref a0_down, .ref a0_law])), (a0_row, .inl (cyI, 64, .inl f0_row)), (a0_down, .inr (2, [.ref a0_down_formX, .ref a0_down_formY, z0_down_foxX, z0_down_foxY, z0_down_seat, z0_down_strength, z0_down_debts, z0_down_near, z0_down_forms, .int v0_down_hares, z0_down_foxes, z0_down_safe])), (a0_down_formX, .inl (cyI, 8, .inl f0_down_formX)), (a0_down_formY, .inl (cyI, 8, .inl f0_down_formY)), (a0_law, .inr (4, [.ref a0_law_kinds, .ref a0_law_values, .ref a0_law_pile, .ref a0_law_facts, .int v0_law_length])), (a0_law_facts, .inl (cyI, 8, .inl u.1)), (a0_law_pile, .inl (cyI, 150, .inl u.2)), (a0_law_kinds, .inl (cyI, 150, .inl f0_law_kinds)), (a0_law_values, .inl (cyI, 150, .inl f0_law_values))] : va_W))) (va_A [(a0, .inr (1, [.ref a0_row, z0_owedEach, .ref a0_down, .ref a0_law])), (a0_row, .inl (cyI, 64, .inl f0_row)), (a0_down, .inr (2, [.ref a0_down_formX, .ref a0_down_formY, z0_down_foxX, z0_down_foxY, z0_down_seat, z0_down_strength, z0_down_debts, z0_down_near, z0_down_forms, .int v0_down_hares, z0_down_foxes, z0_down_safe])), (a0_down_formX, .inl (cyI, 8, .inl f0_down_formX)), (a0_down_formY, .inl (cyI, 8, .inl f0_down_formY)), (a0_law, .inr (4, [.ref a0_law_kinds, .ref a0_law_values, .ref a0_law_pile, .ref a0_law_facts, .int v0_law_length])), (a0_law_facts, .inl (cyI, 8, .inl f0_law_facts)), (a0_law_pile, .inl (cyI, 150, .inl f0_law_pile)), (a0_law_kinds, .inl (cyI, 150, .inl f0_law_kinds)), (a0_law_values, .inl (cyI, 150, .inl f0_law_values))] sz)) 0 0 (va_A [(a0, .inr (1, [.ref a0_row, z0_owedEach, .ref a0_down, .ref a0_law])), (a0_row, .inl (cyI, 64, .inl f0_row)), (a0_down, .inr (2, [.ref a0_down_formX, .ref a0_down_formY, z0_down_foxX, z0_down_foxY, z0_down_seat, z0_down_strength, z0_down_debts, z0_down_near, z0_down_forms, .int v0_down_hares, z0_down_foxes, z0_down_safe])), (a0_down_formX, .inl (cyI, 8, .inl f0_down_formX)), (a0_down_formY, .inl (cyI, 8, .inl f0_down_formY)), (a0_law, .inr (4, [.ref a0_law_kinds, .ref a0_law_values, .ref a0_law_pile, .ref a0_law_facts, .int v0_law_length])), (a0_law_facts, .inl (cyI, 8, .inl f0_law_facts)), (a0_law_pile, .inl (cyI, 150, .inl f0_law_pile)), (a0_law_kinds, .inl (cyI, 150, .inl f0_law_kinds)), (a0_law_values, .inl (cyI, 150, .inl f0_law_values))] sz) := by
  refine Met.ofW (cc := cX1_couldLeap) (maxL := 3) (ret := (some .boolean)) (by decide) rfl ?_
  intro p e s m args below meth c s₁ B hml hv
  obtain ⟨rfl, hsz, hP, hK, hD0, hNw⟩ := hv
  have hx := B.exec
  have hb := B.bytes
  have hr := B.returns
  have hts := atoms_spec (ws := wsX1_couldLeap) B.pre
  have hown : s.vm.findClass RX1 = some m.cls := findClass_of_methodNamed B.named
  have hlocks := B.notSynchronized
  subst hsz
  have hD := hD0.self (sz := s.heap.size)
  generalize hAe : va_A [(a0, .inr (1, [.ref a0_row, z0_owedEach, .ref a0_down, .ref a0_law])), (a0_row, .inl (cyI, 64, .inl f0_row)), (a0_down, .inr (2, [.ref a0_down_formX, .ref a0_down_formY, z0_down_foxX, z0_down_foxY, z0_down_seat, z0_down_strength, z0_down_debts, z0_down_near, z0_down_forms, .int v0_down_hares, z0_down_foxes, z0_down_safe])), (a0_down_formX, .inl (cyI, 8, .inl f0_down_formX)), (a0_down_formY, .inl (cyI, 8, .inl f0_down_formY)), (a0_law, .inr (4, [.ref a0_law_kinds, .ref a0_law_values, .ref a0_law_pile, .ref a0_law_facts, .int v0_law_length])), (a0_law_facts, .inl (cyI, 8, .inl f0_law_facts)), (a0_law_pile, .inl (cyI, 150, .inl f0_law_pile)), (a0_law_kinds, .inl (cyI, 150, .inl f0_law_kinds)), (a0_law_values, .inl (cyI, 150, .inl f0_law_values))] s.heap.size = A at hD ⊢
  have hA : ∀ q : Nat, s.heap.size ≤ q → A q := fun q h => by rw [← hAe]; exact Or.inr h
  have hS : va_S A s.heap s.heap [] := va_S.rf
  have hP : va_P (dC, dI) vwCl [(a0, .inr (1, [.ref a0_row, z0_owedEach, .ref a0_down, .ref a0_law])), (a0_row, .inl (cyI, 64, .inl f0_row)), (a0_down, .inr (2, [.ref a0_down_formX, .ref a0_down_formY, z0_down_foxX, z0_down_foxY, z0_down_seat, z0_down_strength, z0_down_debts, z0_down_near, z0_down_forms, .int v0_down_hares, z0_down_foxes, z0_down_safe])), (a0_down_formX, .inl (cyI, 8, .inl f0_down_formX)), (a0_down_formY, .inl (cyI, 8, .inl f0_down_formY)), (a0_law, .inr (4, [.ref a0_law_kinds, .ref a0_law_values, .ref a0_law_pile, .ref a0_law_facts, .int v0_law_length])), (a0_law_facts, .inl (cyI, 8, .inl f0_law_facts)), (a0_law_pile, .inl (cyI, 150, .inl f0_law_pile)), (a0_law_kinds, .inl (cyI, 150, .inl f0_law_kinds)), (a0_law_values, .inl (cyI, 150, .inl f0_law_values))] s.heap := hP
  have hl := lv_entry ([.ref a0, .int p1, .int p2]) (n := 3) (Nat.le_of_ble_eq_true rfl)
  rw [lg_entry_eq]
  generalize (lg_sl ([.ref a0, .int p1, .int p2]) ++ List.replicate (3 - (lg_sl ([.ref a0, .int p1, .int p2])).length) Slot.unset).toArray = ls at hl ⊢
  have hl : lv_has ls 3 [(0, .ref a0), (1, .int p1), (2, .int p2)] := hl
  have C0 : cfx p s m _ meth c cX1_couldLeap (some .boolean) wsX1_couldLeap RX1 3 A (dC, dI) (kT cyB cyI cyJ cyP) := ⟨hx, hb, hr, hts, hown, hlocks, hml, hA, hK, hNw⟩
  clear hAe
  obtain ⟨H, hH⟩ : ∃ H, H = s.heap := ⟨_, rfl⟩
  rw [← hH] at hP ⊢
  have hS : va_S A s.heap H [] := by rw [hH]; exact va_S.rf
  have hS := hS
  refine lv_aload_n hx hb dX1_couldLeap_0 rfl (lv_at hl 0 rfl) ?_
  refine lv_iload_n hx hb dX1_couldLeap_1 rfl (lv_at hl 1 rfl) ?_
  have hPc := hP.sub (ws' := [(a0, .inr (1, [.ref a0_row, z0_owedEach, .ref a0_down, .ref a0_law])), (a0_row, .inl (cyI, 64, .inl f0_row))]) [0, 1] rfl
  have hDc := hD.sub (ws' := [(a0, .inr (1, [.ref a0_row, z0_owedEach, .ref a0_down, .ref a0_law])), (a0_row, .inl (cyI, 64, .inl f0_row))]) [0, 1] (by decide) rfl
  have hFc := va_free (wc := [(a0, .inr (1, [.ref a0_row, z0_owedEach, .ref a0_down, .ref a0_law])), (a0_row, .inl (cyI, 64, .inl f0_row))]) hD hS hA [0, 1] rfl
  refine va_calli (va_runV (As := [.int p1]) (rest := []) ⟨hx, hb, hml, hown, hts⟩ (ck_X1_isCaught l dC dI cyB cyI cyJ cyP a0 a0_row H.size (z0_owedEach) (.ref a0_down) (.ref a0_law) f0_row  p1 hw) (cwV 1 hts gX1_couldLeap_X1_isCaught rfl rfl rfl (by decide +kernel) ⟨Nat.le_of_ble_eq_true rfl, Nat.le_of_ble_eq_true rfl⟩) ⟨cPc_blind, va_recv hK hPc (ci := 1) (q0 := 0) rfl rfl, cPc_pre hPc hK hDc hNw⟩ rfl rfl hl.1 rfl (lv_room (Nat.le_of_ble_eq_true rfl)) dX1_couldLeap_2 ⟨Nat.le_of_ble_eq_true rfl, Nat.le_of_ble_eq_true rfl⟩) hS (fun q _ h => hFc q h) hFc (fun r1 u t H1 locs ht hvm hw hB hz1 hk1 hS => ?_)
  obtain ⟨hP1, hK1, hD1⟩ := hB
  rw [ht] at hP1
  obtain ⟨hP, hD⟩ := va_join (wr := [(a0_down, .inr (2, [.ref a0_down_formX, .ref a0_down_formY, z0_down_foxX, z0_down_foxY, z0_down_seat, z0_down_strength, z0_down_debts, z0_down_near, z0_down_forms, .int v0_down_hares, z0_down_foxes, z0_down_safe])), (a0_down_formX, .inl (cyI, 8, .inl f0_down_formX)), (a0_down_formY, .inl (cyI, 8, .inl f0_down_formY)), (a0_law, .inr (4, [.ref a0_law_kinds, .ref a0_law_values, .ref a0_law_pile, .ref a0_law_facts, .int v0_law_length])), (a0_law_facts, .inl (cyI, 8, .inl f0_law_facts)), (a0_law_pile, .inl (cyI, 150, .inl f0_law_pile)), (a0_law_kinds, .inl (cyI, 150, .inl f0_law_kinds)), (a0_law_values, .inl (cyI, 150, .inl f0_law_values))]) (w1 := [(a0, .inr (1, [.ref a0_row, z0_owedEach, .ref a0_down, .ref a0_law])), (a0_row, .inl (cyI, 64, .inl f0_row))]) hP hD [0, 1] [2, 3, 4, 5, 6, 7, 8, 9] rfl rfl (by decide) (by decide) hk1 hFc hP1 hD1
  have hP : va_P (dC, dI) vwCl [(a0, .inr (1, [.ref a0_row, z0_owedEach, .ref a0_down, .ref a0_law])), (a0_row, .inl (cyI, 64, .inl f0_row)), (a0_down, .inr (2, [.ref a0_down_formX, .ref a0_down_formY, z0_down_foxX, z0_down_foxY, z0_down_seat, z0_down_strength, z0_down_debts, z0_down_near, z0_down_forms, .int v0_down_hares, z0_down_foxes, z0_down_safe])), (a0_down_formX, .inl (cyI, 8, .inl f0_down_formX)), (a0_down_formY, .inl (cyI, 8, .inl f0_down_formY)), (a0_law, .inr (4, [.ref a0_law_kinds, .ref a0_law_values, .ref a0_law_pile, .ref a0_law_facts, .int v0_law_length])), (a0_law_facts, .inl (cyI, 8, .inl f0_law_facts)), (a0_law_pile, .inl (cyI, 150, .inl f0_law_pile)), (a0_law_kinds, .inl (cyI, 150, .inl f0_law_kinds)), (a0_law_values, .inl (cyI, 150, .inl f0_law_values))] H1 := hP.sub [8, 9, 0, 1, 2, 3, 4, 5, 6, 7] rfl
  have hD : va_D A [(a0, .inr (1, [.ref a0_row, z0_owedEach, .ref a0_down, .ref a0_law])), (a0_row, .inl (cyI, 64, .inl f0_row)), (a0_down, .inr (2, [.ref a0_down_formX, .ref a0_down_formY, z0_down_foxX, z0_down_foxY, z0_down_seat, z0_down_strength, z0_down_debts, z0_down_near, z0_down_forms, .int v0_down_hares, z0_down_foxes, z0_down_safe])), (a0_down_formX, .inl (cyI, 8, .inl f0_down_formX)), (a0_down_formY, .inl (cyI, 8, .inl f0_down_formY)), (a0_law, .inr (4, [.ref a0_law_kinds, .ref a0_law_values, .ref a0_law_pile, .ref a0_law_facts, .int v0_law_length])), (a0_law_facts, .inl (cyI, 8, .inl f0_law_facts)), (a0_law_pile, .inl (cyI, 150, .inl f0_law_pile)), (a0_law_kinds, .inl (cyI, 150, .inl f0_law_kinds)), (a0_law_values, .inl (cyI, 150, .inl f0_law_values))] := hD.sub [8, 9, 0, 1, 2, 3, 4, 5, 6, 7] (by decide) rfl
  generalize H1 = H at hP hS ⊢
  refine lv_if_ne (tgt := 42) hx hb dX1_couldLeap_5 (by decide) (fun c2 => ?_) (fun c2 => ?_)
  · have hw := hw.1 c2
    refine lv_iconst (v := 0) hx hb dX1_couldLeap_42 (by decide) ?_
    exact ((W.zret (v := 0) hx hb hr rfl (fun t ht hW => ⟨⟨0, (f0_law_facts, f0_law_pile), rfl, hw, by rw [ht]; exact hP, va_K.moved hW.alike hK, hD⟩, hS.F ht⟩) hS.2.2 dX1_couldLeap_43))
  · have hw := hw.2 c2
    refine lv_aload_n hx hb dX1_couldLeap_8 rfl (lv_at hl 0 rfl) ?_
    refine lv_iload_n hx hb dX1_couldLeap_9 rfl (lv_at hl 1 rfl) ?_
    have hPc := hP.sub (ws' := [(a0, .inr (1, [.ref a0_row, z0_owedEach, .ref a0_down, .ref a0_law])), (a0_row, .inl (cyI, 64, .inl f0_row))]) [0, 1] rfl
    have hDc := hD.sub (ws' := [(a0, .inr (1, [.ref a0_row, z0_owedEach, .ref a0_down, .ref a0_law])), (a0_row, .inl (cyI, 64, .inl f0_row))]) [0, 1] (by decide) rfl
    have hFc := va_free (wc := [(a0, .inr (1, [.ref a0_row, z0_owedEach, .ref a0_down, .ref a0_law])), (a0_row, .inl (cyI, 64, .inl f0_row))]) hD hS hA [0, 1] rfl
    refine va_calli (va_runV (As := [.int p1]) (rest := []) ⟨hx, hb, hml, hown, hts⟩ (ck_X1_sits l dC dI cyB cyI cyJ cyP a0 a0_row H.size (z0_owedEach) (.ref a0_down) (.ref a0_law) f0_row  p1 hw) (cwV 1 hts gX1_couldLeap_X1_sits rfl rfl rfl (by decide +kernel) ⟨Nat.le_of_ble_eq_true rfl, Nat.le_of_ble_eq_true rfl⟩) ⟨cPc_blind, va_recv hK hPc (ci := 1) (q0 := 0) rfl rfl, cPc_pre hPc hK hDc hNw⟩ rfl rfl hl.1 rfl (lv_room (Nat.le_of_ble_eq_true rfl)) dX1_couldLeap_10 ⟨Nat.le_of_ble_eq_true rfl, Nat.le_of_ble_eq_true rfl⟩) hS (fun q _ h => hFc q h) hFc (fun r3 u t H1 locs ht hvm hw hB hz1 hk1 hS => ?_)
    obtain ⟨hP1, hK1, hD1⟩ := hB
    rw [ht] at hP1
    obtain ⟨hP, hD⟩ := va_join (wr := [(a0_down, .inr (2, [.ref a0_down_formX, .ref a0_down_formY, z0_down_foxX, z0_down_foxY, z0_down_seat, z0_down_strength, z0_down_debts, z0_down_near, z0_down_forms, .int v0_down_hares, z0_down_foxes, z0_down_safe])), (a0_down_formX, .inl (cyI, 8, .inl f0_down_formX)), (a0_down_formY, .inl (cyI, 8, .inl f0_down_formY)), (a0_law, .inr (4, [.ref a0_law_kinds, .ref a0_law_values, .ref a0_law_pile, .ref a0_law_facts, .int v0_law_length])), (a0_law_facts, .inl (cyI, 8, .inl f0_law_facts)), (a0_law_pile, .inl (cyI, 150, .inl f0_law_pile)), (a0_law_kinds, .inl (cyI, 150, .inl f0_law_kinds)), (a0_law_values, .inl (cyI, 150, .inl f0_law_values))]) (w1 := [(a0, .inr (1, [.ref a0_row, z0_owedEach, .ref a0_down, .ref a0_law])), (a0_row, .inl (cyI, 64, .inl f0_row))]) hP hD [0, 1] [2, 3, 4, 5, 6, 7, 8, 9] rfl rfl (by decide) (by decide) hk1 hFc hP1 hD1
    have hP : va_P (dC, dI) vwCl [(a0, .inr (1, [.ref a0_row, z0_owedEach, .ref a0_down, .ref a0_law])), (a0_row, .inl (cyI, 64, .inl f0_row)), (a0_down, .inr (2, [.ref a0_down_formX, .ref a0_down_formY, z0_down_foxX, z0_down_foxY, z0_down_seat, z0_down_strength, z0_down_debts, z0_down_near, z0_down_forms, .int v0_down_hares, z0_down_foxes, z0_down_safe])), (a0_down_formX, .inl (cyI, 8, .inl f0_down_formX)), (a0_down_formY, .inl (cyI, 8, .inl f0_down_formY)), (a0_law, .inr (4, [.ref a0_law_kinds, .ref a0_law_values, .ref a0_law_pile, .ref a0_law_facts, .int v0_law_length])), (a0_law_facts, .inl (cyI, 8, .inl f0_law_facts)), (a0_law_pile, .inl (cyI, 150, .inl f0_law_pile)), (a0_law_kinds, .inl (cyI, 150, .inl f0_law_kinds)), (a0_law_values, .inl (cyI, 150, .inl f0_law_values))] H1 := hP.sub [8, 9, 0, 1, 2, 3, 4, 5, 6, 7] rfl
    have hD : va_D A [(a0, .inr (1, [.ref a0_row, z0_owedEach, .ref a0_down, .ref a0_law])), (a0_row, .inl (cyI, 64, .inl f0_row)), (a0_down, .inr (2, [.ref a0_down_formX, .ref a0_down_formY, z0_down_foxX, z0_down_foxY, z0_down_seat, z0_down_strength, z0_down_debts, z0_down_near, z0_down_forms, .int v0_down_hares, z0_down_foxes, z0_down_safe])), (a0_down_formX, .inl (cyI, 8, .inl f0_down_formX)), (a0_down_formY, .inl (cyI, 8, .inl f0_down_formY)), (a0_law, .inr (4, [.ref a0_law_kinds, .ref a0_law_values, .ref a0_law_pile, .ref a0_law_facts, .int v0_law_length])), (a0_law_facts, .inl (cyI, 8, .inl f0_law_facts)), (a0_law_pile, .inl (cyI, 150, .inl f0_law_pile)), (a0_law_kinds, .inl (cyI, 150, .inl f0_law_kinds)), (a0_law_values, .inl (cyI, 150, .inl f0_law_values))] := hD.sub [8, 9, 0, 1, 2, 3, 4, 5, 6, 7] (by decide) rfl
    generalize H1 = H at hP hS ⊢
    refine lv_iload_n hx hb dX1_couldLeap_13 rfl (lv_at hl 2 rfl) ?_
    refine lv_icmp_eq (tgt := 42) hx hb dX1_couldLeap_14 (by decide) (fun c4 => ?_) (fun c4 => ?_)
    · have hw := hw.1 c4
      refine lv_iconst (v := 0) hx hb dX1_couldLeap_42 (by decide) ?_
      exact ((W.zret (v := 0) hx hb hr rfl (fun t ht hW => ⟨⟨0, (f0_law_facts, f0_law_pile), rfl, hw, by rw [ht]; exact hP, va_K.moved hW.alike hK, hD⟩, hS.F ht⟩) hS.2.2 dX1_couldLeap_43))
    · have hw := hw.2 c4
      refine lv_aload_n hx hb dX1_couldLeap_17 rfl (lv_at hl 0 rfl) ?_
      refine va_get (D := (dC, dI)) (ci := 1) (v := .ref a0_down) (C := RX1) (T := TX1) (N := 4) hx hb hts ui_X1_couldLeap_X1 hown hK hP 0 rfl rfl 2 (by decide) (hts _ uw_X1_couldLeap_f24) (fun _ h9 => h9) rfl dX1_couldLeap_18 ?_
      refine lv_aload_n hx hb dX1_couldLeap_21 rfl (lv_at hl 0 rfl) ?_
      refine lv_iload_n hx hb dX1_couldLeap_22 rfl (lv_at hl 1 rfl) ?_
      have hPc := hP.sub (ws' := [(a0, .inr (1, [.ref a0_row, z0_owedEach, .ref a0_down, .ref a0_law])), (a0_row, .inl (cyI, 64, .inl f0_row))]) [0, 1] rfl
      have hDc := hD.sub (ws' := [(a0, .inr (1, [.ref a0_row, z0_owedEach, .ref a0_down, .ref a0_law])), (a0_row, .inl (cyI, 64, .inl f0_row))]) [0, 1] (by decide) rfl
      have hFc := va_free (wc := [(a0, .inr (1, [.ref a0_row, z0_owedEach, .ref a0_down, .ref a0_law])), (a0_row, .inl (cyI, 64, .inl f0_row))]) hD hS hA [0, 1] rfl
      refine va_calli (va_runV (As := [.int p1]) (rest := [.ref a0_down]) ⟨hx, hb, hml, hown, hts⟩ (ck_X1_sits l dC dI cyB cyI cyJ cyP a0 a0_row H.size (z0_owedEach) (.ref a0_down) (.ref a0_law) f0_row  p1 hw) (cwV 1 hts gX1_couldLeap_X1_sits rfl rfl rfl (by decide +kernel) ⟨Nat.le_of_ble_eq_true rfl, Nat.le_of_ble_eq_true rfl⟩) ⟨cPc_blind, va_recv hK hPc (ci := 1) (q0 := 0) rfl rfl, cPc_pre hPc hK hDc hNw⟩ rfl rfl hl.1 rfl (lv_room (Nat.le_of_ble_eq_true rfl)) dX1_couldLeap_23 ⟨Nat.le_of_ble_eq_true rfl, Nat.le_of_ble_eq_true rfl⟩) hS (fun q _ h => hFc q h) hFc (fun r5 u t H1 locs ht hvm hw hB hz1 hk1 hS => ?_)
      obtain ⟨hP1, hK1, hD1⟩ := hB
      rw [ht] at hP1
      obtain ⟨hP, hD⟩ := va_join (wr := [(a0_down, .inr (2, [.ref a0_down_formX, .ref a0_down_formY, z0_down_foxX, z0_down_foxY, z0_down_seat, z0_down_strength, z0_down_debts, z0_down_near, z0_down_forms, .int v0_down_hares, z0_down_foxes, z0_down_safe])), (a0_down_formX, .inl (cyI, 8, .inl f0_down_formX)), (a0_down_formY, .inl (cyI, 8, .inl f0_down_formY)), (a0_law, .inr (4, [.ref a0_law_kinds, .ref a0_law_values, .ref a0_law_pile, .ref a0_law_facts, .int v0_law_length])), (a0_law_facts, .inl (cyI, 8, .inl f0_law_facts)), (a0_law_pile, .inl (cyI, 150, .inl f0_law_pile)), (a0_law_kinds, .inl (cyI, 150, .inl f0_law_kinds)), (a0_law_values, .inl (cyI, 150, .inl f0_law_values))]) (w1 := [(a0, .inr (1, [.ref a0_row, z0_owedEach, .ref a0_down, .ref a0_law])), (a0_row, .inl (cyI, 64, .inl f0_row))]) hP hD [0, 1] [2, 3, 4, 5, 6, 7, 8, 9] rfl rfl (by decide) (by decide) hk1 hFc hP1 hD1
      have hP : va_P (dC, dI) vwCl [(a0, .inr (1, [.ref a0_row, z0_owedEach, .ref a0_down, .ref a0_law])), (a0_row, .inl (cyI, 64, .inl f0_row)), (a0_down, .inr (2, [.ref a0_down_formX, .ref a0_down_formY, z0_down_foxX, z0_down_foxY, z0_down_seat, z0_down_strength, z0_down_debts, z0_down_near, z0_down_forms, .int v0_down_hares, z0_down_foxes, z0_down_safe])), (a0_down_formX, .inl (cyI, 8, .inl f0_down_formX)), (a0_down_formY, .inl (cyI, 8, .inl f0_down_formY)), (a0_law, .inr (4, [.ref a0_law_kinds, .ref a0_law_values, .ref a0_law_pile, .ref a0_law_facts, .int v0_law_length])), (a0_law_facts, .inl (cyI, 8, .inl f0_law_facts)), (a0_law_pile, .inl (cyI, 150, .inl f0_law_pile)), (a0_law_kinds, .inl (cyI, 150, .inl f0_law_kinds)), (a0_law_values, .inl (cyI, 150, .inl f0_law_values))] H1 := hP.sub [8, 9, 0, 1, 2, 3, 4, 5, 6, 7] rfl
      have hD : va_D A [(a0, .inr (1, [.ref a0_row, z0_owedEach, .ref a0_down, .ref a0_law])), (a0_row, .inl (cyI, 64, .inl f0_row)), (a0_down, .inr (2, [.ref a0_down_formX, .ref a0_down_formY, z0_down_foxX, z0_down_foxY, z0_down_seat, z0_down_strength, z0_down_debts, z0_down_near, z0_down_forms, .int v0_down_hares, z0_down_foxes, z0_down_safe])), (a0_down_formX, .inl (cyI, 8, .inl f0_down_formX)), (a0_down_formY, .inl (cyI, 8, .inl f0_down_formY)), (a0_law, .inr (4, [.ref a0_law_kinds, .ref a0_law_values, .ref a0_law_pile, .ref a0_law_facts, .int v0_law_length])), (a0_law_facts, .inl (cyI, 8, .inl f0_law_facts)), (a0_law_pile, .inl (cyI, 150, .inl f0_law_pile)), (a0_law_kinds, .inl (cyI, 150, .inl f0_law_kinds)), (a0_law_values, .inl (cyI, 150, .inl f0_law_values))] := hD.sub [8, 9, 0, 1, 2, 3, 4, 5, 6, 7] (by decide) rfl
      generalize H1 = H at hP hS ⊢
      refine lv_iload_n hx hb dX1_couldLeap_26 rfl (lv_at hl 2 rfl) ?_
      have hPc := hP.sub (ws' := [(a0_down, .inr (2, [.ref a0_down_formX, .ref a0_down_formY, z0_down_foxX, z0_down_foxY, z0_down_seat, z0_down_strength, z0_down_debts, z0_down_near, z0_down_forms, .int v0_down_hares, z0_down_foxes, z0_down_safe])), (a0_down_formX, .inl (cyI, 8, .inl f0_down_formX)), (a0_down_formY, .inl (cyI, 8, .inl f0_down_formY))]) [2, 3, 4] rfl
      have hDc := hD.sub (ws' := [(a0_down, .inr (2, [.ref a0_down_formX, .ref a0_down_formY, z0_down_foxX, z0_down_foxY, z0_down_seat, z0_down_strength, z0_down_debts, z0_down_near, z0_down_forms, .int v0_down_hares, z0_down_foxes, z0_down_safe])), (a0_down_formX, .inl (cyI, 8, .inl f0_down_formX)), (a0_down_formY, .inl (cyI, 8, .inl f0_down_formY))]) [2, 3, 4] (by decide) rfl
      have hFc := va_free (wc := [(a0_down, .inr (2, [.ref a0_down_formX, .ref a0_down_formY, z0_down_foxX, z0_down_foxY, z0_down_seat, z0_down_strength, z0_down_debts, z0_down_near, z0_down_forms, .int v0_down_hares, z0_down_foxes, z0_down_safe])), (a0_down_formX, .inl (cyI, 8, .inl f0_down_formX)), (a0_down_formY, .inl (cyI, 8, .inl f0_down_formY))]) hD hS hA [2, 3, 4] rfl
      refine va_calli (va_runV (As := [.int r5, .int p2]) (rest := []) ⟨hx, hb, hml, hown, hts⟩ (ck_X2_apart l dC dI cyB cyI cyJ cyP a0_down a0_down_formX a0_down_formY H.size (z0_down_foxX) (z0_down_foxY) (z0_down_seat) (z0_down_strength) (z0_down_debts) (z0_down_near) (z0_down_forms) (.int v0_down_hares) (z0_down_foxes) (z0_down_safe) f0_down_formX f0_down_formY  r5 p2 hw) (cwV 2 hts gX1_couldLeap_X2_apart rfl rfl rfl (by decide +kernel) ⟨Nat.le_of_ble_eq_true rfl, Nat.le_of_ble_eq_true rfl⟩) ⟨cPc_blind, va_recv hK hPc (ci := 2) (q0 := 0) rfl rfl, cPc_pre hPc hK hDc hNw⟩ rfl rfl hl.1 rfl (lv_room (Nat.le_of_ble_eq_true rfl)) dX1_couldLeap_27 ⟨Nat.le_of_ble_eq_true rfl, Nat.le_of_ble_eq_true rfl⟩) hS (fun q _ h => hFc q h) hFc (fun r6 u t H1 locs ht hvm hw hB hz1 hk1 hS => ?_)
      obtain ⟨hP1, hK1, hD1⟩ := hB
      rw [ht] at hP1
      obtain ⟨hP, hD⟩ := va_join (wr := [(a0, .inr (1, [.ref a0_row, z0_owedEach, .ref a0_down, .ref a0_law])), (a0_row, .inl (cyI, 64, .inl f0_row)), (a0_law, .inr (4, [.ref a0_law_kinds, .ref a0_law_values, .ref a0_law_pile, .ref a0_law_facts, .int v0_law_length])), (a0_law_facts, .inl (cyI, 8, .inl f0_law_facts)), (a0_law_pile, .inl (cyI, 150, .inl f0_law_pile)), (a0_law_kinds, .inl (cyI, 150, .inl f0_law_kinds)), (a0_law_values, .inl (cyI, 150, .inl f0_law_values))]) (w1 := [(a0_down, .inr (2, [.ref a0_down_formX, .ref a0_down_formY, z0_down_foxX, z0_down_foxY, z0_down_seat, z0_down_strength, z0_down_debts, z0_down_near, z0_down_forms, .int v0_down_hares, z0_down_foxes, z0_down_safe])), (a0_down_formX, .inl (cyI, 8, .inl f0_down_formX)), (a0_down_formY, .inl (cyI, 8, .inl f0_down_formY))]) hP hD [2, 3, 4] [0, 1, 5, 6, 7, 8, 9] rfl rfl (by decide) (by decide) hk1 hFc hP1 hD1
      have hP : va_P (dC, dI) vwCl [(a0, .inr (1, [.ref a0_row, z0_owedEach, .ref a0_down, .ref a0_law])), (a0_row, .inl (cyI, 64, .inl f0_row)), (a0_down, .inr (2, [.ref a0_down_formX, .ref a0_down_formY, z0_down_foxX, z0_down_foxY, z0_down_seat, z0_down_strength, z0_down_debts, z0_down_near, z0_down_forms, .int v0_down_hares, z0_down_foxes, z0_down_safe])), (a0_down_formX, .inl (cyI, 8, .inl f0_down_formX)), (a0_down_formY, .inl (cyI, 8, .inl f0_down_formY)), (a0_law, .inr (4, [.ref a0_law_kinds, .ref a0_law_values, .ref a0_law_pile, .ref a0_law_facts, .int v0_law_length])), (a0_law_facts, .inl (cyI, 8, .inl f0_law_facts)), (a0_law_pile, .inl (cyI, 150, .inl f0_law_pile)), (a0_law_kinds, .inl (cyI, 150, .inl f0_law_kinds)), (a0_law_values, .inl (cyI, 150, .inl f0_law_values))] H1 := hP.sub [0, 1, 7, 8, 9, 2, 3, 4, 5, 6] rfl
      have hD : va_D A [(a0, .inr (1, [.ref a0_row, z0_owedEach, .ref a0_down, .ref a0_law])), (a0_row, .inl (cyI, 64, .inl f0_row)), (a0_down, .inr (2, [.ref a0_down_formX, .ref a0_down_formY, z0_down_foxX, z0_down_foxY, z0_down_seat, z0_down_strength, z0_down_debts, z0_down_near, z0_down_forms, .int v0_down_hares, z0_down_foxes, z0_down_safe])), (a0_down_formX, .inl (cyI, 8, .inl f0_down_formX)), (a0_down_formY, .inl (cyI, 8, .inl f0_down_formY)), (a0_law, .inr (4, [.ref a0_law_kinds, .ref a0_law_values, .ref a0_law_pile, .ref a0_law_facts, .int v0_law_length])), (a0_law_facts, .inl (cyI, 8, .inl f0_law_facts)), (a0_law_pile, .inl (cyI, 150, .inl f0_law_pile)), (a0_law_kinds, .inl (cyI, 150, .inl f0_law_kinds)), (a0_law_values, .inl (cyI, 150, .inl f0_law_values))] := hD.sub [0, 1, 7, 8, 9, 2, 3, 4, 5, 6] (by decide) rfl
      generalize H1 = H at hP hS ⊢
      refine lv_aload_n hx hb dX1_couldLeap_30 rfl (lv_at hl 0 rfl) ?_
      refine lv_iload_n hx hb dX1_couldLeap_31 rfl (lv_at hl 1 rfl) ?_
      have hPc := hP.sub (ws' := [(a0, .inr (1, [.ref a0_row, z0_owedEach, .ref a0_down, .ref a0_law])), (a0_row, .inl (cyI, 64, .inl f0_row)), (a0_down, .inr (2, [.ref a0_down_formX, .ref a0_down_formY, z0_down_foxX, z0_down_foxY, z0_down_seat, z0_down_strength, z0_down_debts, z0_down_near, z0_down_forms, .int v0_down_hares, z0_down_foxes, z0_down_safe])), (a0_law, .inr (4, [.ref a0_law_kinds, .ref a0_law_values, .ref a0_law_pile, .ref a0_law_facts, .int v0_law_length])), (a0_law_facts, .inl (cyI, 8, .inl f0_law_facts)), (a0_law_pile, .inl (cyI, 150, .inl f0_law_pile)), (a0_law_kinds, .inl (cyI, 150, .inl f0_law_kinds)), (a0_law_values, .inl (cyI, 150, .inl f0_law_values))]) [0, 1, 2, 5, 6, 7, 8, 9] rfl
      have hDc := hD.sub (ws' := [(a0, .inr (1, [.ref a0_row, z0_owedEach, .ref a0_down, .ref a0_law])), (a0_row, .inl (cyI, 64, .inl f0_row)), (a0_down, .inr (2, [.ref a0_down_formX, .ref a0_down_formY, z0_down_foxX, z0_down_foxY, z0_down_seat, z0_down_strength, z0_down_debts, z0_down_near, z0_down_forms, .int v0_down_hares, z0_down_foxes, z0_down_safe])), (a0_law, .inr (4, [.ref a0_law_kinds, .ref a0_law_values, .ref a0_law_pile, .ref a0_law_facts, .int v0_law_length])), (a0_law_facts, .inl (cyI, 8, .inl f0_law_facts)), (a0_law_pile, .inl (cyI, 150, .inl f0_law_pile)), (a0_law_kinds, .inl (cyI, 150, .inl f0_law_kinds)), (a0_law_values, .inl (cyI, 150, .inl f0_law_values))]) [0, 1, 2, 5, 6, 7, 8, 9] (by decide) rfl
      have hFc := va_free (wc := [(a0, .inr (1, [.ref a0_row, z0_owedEach, .ref a0_down, .ref a0_law])), (a0_row, .inl (cyI, 64, .inl f0_row)), (a0_down, .inr (2, [.ref a0_down_formX, .ref a0_down_formY, z0_down_foxX, z0_down_foxY, z0_down_seat, z0_down_strength, z0_down_debts, z0_down_near, z0_down_forms, .int v0_down_hares, z0_down_foxes, z0_down_safe])), (a0_law, .inr (4, [.ref a0_law_kinds, .ref a0_law_values, .ref a0_law_pile, .ref a0_law_facts, .int v0_law_length])), (a0_law_facts, .inl (cyI, 8, .inl f0_law_facts)), (a0_law_pile, .inl (cyI, 150, .inl f0_law_pile)), (a0_law_kinds, .inl (cyI, 150, .inl f0_law_kinds)), (a0_law_values, .inl (cyI, 150, .inl f0_law_values))]) hD hS hA [0, 1, 2, 5, 6, 7, 8, 9] rfl
      refine va_calli (va_runV (As := [.int p1]) (rest := [.int r6]) ⟨hx, hb, hml, hown, hts⟩ (ck_X1_reach l dC dI cyB cyI cyJ cyP a0 a0_row a0_down a0_law a0_law_facts a0_law_pile a0_law_kinds a0_law_values H.size (z0_owedEach) (.ref a0_down_formX) (.ref a0_down_formY) (z0_down_foxX) (z0_down_foxY) (z0_down_seat) (z0_down_strength) (z0_down_debts) (z0_down_near) (z0_down_forms) (z0_down_foxes) (z0_down_safe) f0_row v0_down_hares v0_law_length f0_law_kinds f0_law_values f0_law_facts f0_law_pile p1 hw) (cwV 1 hts gX1_couldLeap_X1_reach rfl rfl rfl (by decide +kernel) ⟨Nat.le_of_ble_eq_true rfl, Nat.le_of_ble_eq_true rfl⟩) ⟨cPc_blind, va_recv hK hPc (ci := 1) (q0 := 0) rfl rfl, cPc_pre hPc hK hDc hNw⟩ rfl rfl hl.1 rfl (lv_room (Nat.le_of_ble_eq_true rfl)) dX1_couldLeap_32 ⟨Nat.le_of_ble_eq_true rfl, Nat.le_of_ble_eq_true rfl⟩) hS (fun q _ h => hFc q h) hFc (fun r9 u t H1 locs ht hvm hw hB hz1 hk1 hS => ?_)
      obtain ⟨f7, f8⟩ := u
      obtain ⟨hP1, hK1, hD1⟩ := hB
      rw [ht] at hP1
      obtain ⟨hP, hD⟩ := va_join (wr := [(a0_down_formX, .inl (cyI, 8, .inl f0_down_formX)), (a0_down_formY, .inl (cyI, 8, .inl f0_down_formY))]) (w1 := [(a0, .inr (1, [.ref a0_row, z0_owedEach, .ref a0_down, .ref a0_law])), (a0_row, .inl (cyI, 64, .inl f0_row)), (a0_down, .inr (2, [.ref a0_down_formX, .ref a0_down_formY, z0_down_foxX, z0_down_foxY, z0_down_seat, z0_down_strength, z0_down_debts, z0_down_near, z0_down_forms, .int v0_down_hares, z0_down_foxes, z0_down_safe])), (a0_law, .inr (4, [.ref a0_law_kinds, .ref a0_law_values, .ref a0_law_pile, .ref a0_law_facts, .int v0_law_length])), (a0_law_facts, .inl (cyI, 8, .inl f7)), (a0_law_pile, .inl (cyI, 150, .inl f8)), (a0_law_kinds, .inl (cyI, 150, .inl f0_law_kinds)), (a0_law_values, .inl (cyI, 150, .inl f0_law_values))]) hP hD [0, 1, 2, 5, 6, 7, 8, 9] [3, 4] rfl rfl (by decide) (by decide) hk1 hFc hP1 hD1
      have hP : va_P (dC, dI) vwCl [(a0, .inr (1, [.ref a0_row, z0_owedEach, .ref a0_down, .ref a0_law])), (a0_row, .inl (cyI, 64, .inl f0_row)), (a0_down, .inr (2, [.ref a0_down_formX, .ref a0_down_formY, z0_down_foxX, z0_down_foxY, z0_down_seat, z0_down_strength, z0_down_debts, z0_down_near, z0_down_forms, .int v0_down_hares, z0_down_foxes, z0_down_safe])), (a0_down_formX, .inl (cyI, 8, .inl f0_down_formX)), (a0_down_formY, .inl (cyI, 8, .inl f0_down_formY)), (a0_law, .inr (4, [.ref a0_law_kinds, .ref a0_law_values, .ref a0_law_pile, .ref a0_law_facts, .int v0_law_length])), (a0_law_facts, .inl (cyI, 8, .inl f7)), (a0_law_pile, .inl (cyI, 150, .inl f8)), (a0_law_kinds, .inl (cyI, 150, .inl f0_law_kinds)), (a0_law_values, .inl (cyI, 150, .inl f0_law_values))] H1 := hP.sub [2, 3, 4, 0, 1, 5, 6, 7, 8, 9] rfl
      have hD : va_D A [(a0, .inr (1, [.ref a0_row, z0_owedEach, .ref a0_down, .ref a0_law])), (a0_row, .inl (cyI, 64, .inl f0_row)), (a0_down, .inr (2, [.ref a0_down_formX, .ref a0_down_formY, z0_down_foxX, z0_down_foxY, z0_down_seat, z0_down_strength, z0_down_debts, z0_down_near, z0_down_forms, .int v0_down_hares, z0_down_foxes, z0_down_safe])), (a0_down_formX, .inl (cyI, 8, .inl f0_down_formX)), (a0_down_formY, .inl (cyI, 8, .inl f0_down_formY)), (a0_law, .inr (4, [.ref a0_law_kinds, .ref a0_law_values, .ref a0_law_pile, .ref a0_law_facts, .int v0_law_length])), (a0_law_facts, .inl (cyI, 8, .inl f7)), (a0_law_pile, .inl (cyI, 150, .inl f8)), (a0_law_kinds, .inl (cyI, 150, .inl f0_law_kinds)), (a0_law_values, .inl (cyI, 150, .inl f0_law_values))] := hD.sub [2, 3, 4, 0, 1, 5, 6, 7, 8, 9] (by decide) rfl
      generalize H1 = H at hP hS ⊢
      refine lv_icmp_gt (tgt := 42) hx hb dX1_couldLeap_35 (by decide) (fun c10 => ?_) (fun c10 => ?_)
      · have hw := hw.1 c10
        refine lv_iconst (v := 0) hx hb dX1_couldLeap_42 (by decide) ?_
        exact ((W.zret (v := 0) hx hb hr rfl (fun t ht hW => ⟨⟨0, (f7, f8), rfl, hw, by rw [ht]; exact hP, va_K.moved hW.alike hK, hD⟩, hS.F ht⟩) hS.2.2 dX1_couldLeap_43))
      · have hw := hw.2 c10
        refine lv_iconst (v := 1) hx hb dX1_couldLeap_38 (by decide) ?_
        refine lv_goto (tgt := 43) hx hb dX1_couldLeap_39 (by decide) ?_
        exact ((W.zret (v := 1) hx hb hr rfl (fun t ht hW => ⟨⟨1, (f7, f8), rfl, hw, by rw [ht]; exact hP, va_K.moved hW.alike hK, hD⟩, hS.F ht⟩) hS.2.2 dX1_couldLeap_43))
def wq_X1_couldFight (f0_row : Nat → Int32)  (p1 : Int32) (p2 : Int32) (Q : Int32 → Prop) : Prop := ((p1 = p2 → (Q 0)) ∧ (¬ p1 = p2 → wq_X1_isCaught f0_row  p1 (fun r2 => ((¬ r2 = 0 → (Q 0)) ∧ (r2 = 0 → wq_X1_isCaught f0_row  p2 (fun r4 => ((¬ r4 = 0 → (Q 0)) ∧ (r4 = 0 → wq_X1_sits f0_row  p1 (fun r6 => wq_X1_sits f0_row  p2 (fun r7 => ((¬ r6 = r7 → (Q 0)) ∧ (r6 = r7 → (Q 1)))))))))))))
set_option maxHeartbeats 4000000 in
set_option maxRecDepth 100000 in
theorem ck_X1_couldFight (l : Launch) (dC : Nat → ClassId) (dI : Nat → Nat → Nat) (cyB cyI cyJ cyP : ClassId) (a0 a0_row : Nat) (sz : Nat) (z0_owedEach : Value) (z0_down : Value) (z0_law : Value) (f0_row : Nat → Int32)  (p1 : Int32) (p2 : Int32) {Q : Int32 → Prop} (hw : wq_X1_couldFight f0_row  p1 p2 Q) : Met l yX1_couldFight wsX1_couldFight ({ frames := 1, cells := 0, slots := 0, locals := 21 }) (va_Pc [.ref a0, .int p1, .int p2] (cPc (dC, dI) (kT cyB cyI cyJ cyP) [(a0, .inr (1, [.ref a0_row, z0_owedEach, z0_down, z0_law])), (a0_row, .inl (cyI, 64, .inl f0_row))] sz)) (va_Qi (fun (r : Int32) (_ : Unit) => Q r ) (cB (dC, dI) (kT cyB cyI cyJ cyP) (va_A [(a0, .inr (1, [.ref a0_row, z0_owedEach, z0_down, z0_law])), (a0_row, .inl (cyI, 64, .inl f0_row))] sz) (fun u : Unit => ([(a0, .inr (1, [.ref a0_row, z0_owedEach, z0_down, z0_law])), (a0_row, .inl (cyI, 64, .inl f0_row))] : va_W))) (va_A [(a0, .inr (1, [.ref a0_row, z0_owedEach, z0_down, z0_law])), (a0_row, .inl (cyI, 64, .inl f0_row))] sz)) 0 0 (va_A [(a0, .inr (1, [.ref a0_row, z0_owedEach, z0_down, z0_law])), (a0_row, .inl (cyI, 64, .inl f0_row))] sz) := by
  refine Met.ofW (cc := cX1_couldFight) (maxL := 3) (ret := (some .boolean)) (by decide) rfl ?_
  intro p e s m args below meth c s₁ B hml hv
  obtain ⟨rfl, hsz, hP, hK, hD0, hNw⟩ := hv
  have hx := B.exec
  have hb := B.bytes
  have hr := B.returns
  have hts := atoms_spec (ws := wsX1_couldFight) B.pre
  have hown : s.vm.findClass RX1 = some m.cls := findClass_of_methodNamed B.named
  have hlocks := B.notSynchronized
  subst hsz
  have hD := hD0.self (sz := s.heap.size)
  generalize hAe : va_A [(a0, .inr (1, [.ref a0_row, z0_owedEach, z0_down, z0_law])), (a0_row, .inl (cyI, 64, .inl f0_row))] s.heap.size = A at hD ⊢
  have hA : ∀ q : Nat, s.heap.size ≤ q → A q := fun q h => by rw [← hAe]; exact Or.inr h
  have hS : va_S A s.heap s.heap [] := va_S.rf
  have hP : va_P (dC, dI) vwCl [(a0, .inr (1, [.ref a0_row, z0_owedEach, z0_down, z0_law])), (a0_row, .inl (cyI, 64, .inl f0_row))] s.heap := hP
  have hl := lv_entry ([.ref a0, .int p1, .int p2]) (n := 3) (Nat.le_of_ble_eq_true rfl)
  rw [lg_entry_eq]
  generalize (lg_sl ([.ref a0, .int p1, .int p2]) ++ List.replicate (3 - (lg_sl ([.ref a0, .int p1, .int p2])).length) Slot.unset).toArray = ls at hl ⊢
  have hl : lv_has ls 3 [(0, .ref a0), (1, .int p1), (2, .int p2)] := hl
  have C0 : cfx p s m _ meth c cX1_couldFight (some .boolean) wsX1_couldFight RX1 3 A (dC, dI) (kT cyB cyI cyJ cyP) := ⟨hx, hb, hr, hts, hown, hlocks, hml, hA, hK, hNw⟩
  clear hAe
  obtain ⟨H, hH⟩ : ∃ H, H = s.heap := ⟨_, rfl⟩
  rw [← hH] at hP ⊢
  have hS : va_S A s.heap H [] := by rw [hH]; exact va_S.rf
  have hS := hS
  refine lv_iload_n hx hb dX1_couldFight_0 rfl (lv_at hl 1 rfl) ?_
  refine lv_iload_n hx hb dX1_couldFight_1 rfl (lv_at hl 2 rfl) ?_
  refine lv_icmp_eq (tgt := 38) hx hb dX1_couldFight_2 (by decide) (fun c1 => ?_) (fun c1 => ?_)
  · have hw := hw.1 c1
    refine lv_iconst (v := 0) hx hb dX1_couldFight_38 (by decide) ?_
    exact ((W.zret (v := 0) hx hb hr rfl (fun t ht hW => ⟨⟨0, (), rfl, hw, by rw [ht]; exact hP, va_K.moved hW.alike hK, hD⟩, hS.F ht⟩) hS.2.2 dX1_couldFight_39))
  · have hw := hw.2 c1
    refine lv_aload_n hx hb dX1_couldFight_5 rfl (lv_at hl 0 rfl) ?_
    refine lv_iload_n hx hb dX1_couldFight_6 rfl (lv_at hl 1 rfl) ?_
    have hPc := hP.sub (ws' := [(a0, .inr (1, [.ref a0_row, z0_owedEach, z0_down, z0_law])), (a0_row, .inl (cyI, 64, .inl f0_row))]) [0, 1] rfl
    have hDc := hD.sub (ws' := [(a0, .inr (1, [.ref a0_row, z0_owedEach, z0_down, z0_law])), (a0_row, .inl (cyI, 64, .inl f0_row))]) [0, 1] (by decide) rfl
    have hFc := va_free (wc := [(a0, .inr (1, [.ref a0_row, z0_owedEach, z0_down, z0_law])), (a0_row, .inl (cyI, 64, .inl f0_row))]) hD hS hA [0, 1] rfl
    refine va_calli (va_runV (As := [.int p1]) (rest := []) ⟨hx, hb, hml, hown, hts⟩ (ck_X1_isCaught l dC dI cyB cyI cyJ cyP a0 a0_row H.size (z0_owedEach) (z0_down) (z0_law) f0_row  p1 hw) (cwV 1 hts gX1_couldFight_X1_isCaught rfl rfl rfl (by decide +kernel) ⟨Nat.le_of_ble_eq_true rfl, Nat.le_of_ble_eq_true rfl⟩) ⟨cPc_blind, va_recv hK hPc (ci := 1) (q0 := 0) rfl rfl, cPc_pre hPc hK hDc hNw⟩ rfl rfl hl.1 rfl (lv_room (Nat.le_of_ble_eq_true rfl)) dX1_couldFight_7 ⟨Nat.le_of_ble_eq_true rfl, Nat.le_of_ble_eq_true rfl⟩) hS (fun q _ h => hFc q h) hFc (fun r2 u t H1 locs ht hvm hw hB hz1 hk1 hS => ?_)
    obtain ⟨hP1, hK1, hD1⟩ := hB
    rw [ht] at hP1
    obtain ⟨hP, hD⟩ := va_join (wr := []) (w1 := [(a0, .inr (1, [.ref a0_row, z0_owedEach, z0_down, z0_law])), (a0_row, .inl (cyI, 64, .inl f0_row))]) hP hD [0, 1] [] rfl rfl (by decide) (by decide) hk1 hFc hP1 hD1
    have hP : va_P (dC, dI) vwCl [(a0, .inr (1, [.ref a0_row, z0_owedEach, z0_down, z0_law])), (a0_row, .inl (cyI, 64, .inl f0_row))] H1 := hP
    have hD : va_D A [(a0, .inr (1, [.ref a0_row, z0_owedEach, z0_down, z0_law])), (a0_row, .inl (cyI, 64, .inl f0_row))] := hD
    generalize H1 = H at hP hS ⊢
    refine lv_if_ne (tgt := 38) hx hb dX1_couldFight_10 (by decide) (fun c3 => ?_) (fun c3 => ?_)
    · have hw := hw.1 c3
      refine lv_iconst (v := 0) hx hb dX1_couldFight_38 (by decide) ?_
      exact ((W.zret (v := 0) hx hb hr rfl (fun t ht hW => ⟨⟨0, (), rfl, hw, by rw [ht]; exact hP, va_K.moved hW.alike hK, hD⟩, hS.F ht⟩) hS.2.2 dX1_couldFight_39))
    · have hw := hw.2 c3
      refine lv_aload_n hx hb dX1_couldFight_13 rfl (lv_at hl 0 rfl) ?_
      refine lv_iload_n hx hb dX1_couldFight_14 rfl (lv_at hl 2 rfl) ?_
      have hPc := hP.sub (ws' := [(a0, .inr (1, [.ref a0_row, z0_owedEach, z0_down, z0_law])), (a0_row, .inl (cyI, 64, .inl f0_row))]) [0, 1] rfl
      have hDc := hD.sub (ws' := [(a0, .inr (1, [.ref a0_row, z0_owedEach, z0_down, z0_law])), (a0_row, .inl (cyI, 64, .inl f0_row))]) [0, 1] (by decide) rfl
      have hFc := va_free (wc := [(a0, .inr (1, [.ref a0_row, z0_owedEach, z0_down, z0_law])), (a0_row, .inl (cyI, 64, .inl f0_row))]) hD hS hA [0, 1] rfl
      refine va_calli (va_runV (As := [.int p2]) (rest := []) ⟨hx, hb, hml, hown, hts⟩ (ck_X1_isCaught l dC dI cyB cyI cyJ cyP a0 a0_row H.size (z0_owedEach) (z0_down) (z0_law) f0_row  p2 hw) (cwV 1 hts gX1_couldFight_X1_isCaught rfl rfl rfl (by decide +kernel) ⟨Nat.le_of_ble_eq_true rfl, Nat.le_of_ble_eq_true rfl⟩) ⟨cPc_blind, va_recv hK hPc (ci := 1) (q0 := 0) rfl rfl, cPc_pre hPc hK hDc hNw⟩ rfl rfl hl.1 rfl (lv_room (Nat.le_of_ble_eq_true rfl)) dX1_couldFight_15 ⟨Nat.le_of_ble_eq_true rfl, Nat.le_of_ble_eq_true rfl⟩) hS (fun q _ h => hFc q h) hFc (fun r4 u t H1 locs ht hvm hw hB hz1 hk1 hS => ?_)
      obtain ⟨hP1, hK1, hD1⟩ := hB
      rw [ht] at hP1
      obtain ⟨hP, hD⟩ := va_join (wr := []) (w1 := [(a0, .inr (1, [.ref a0_row, z0_owedEach, z0_down, z0_law])), (a0_row, .inl (cyI, 64, .inl f0_row))]) hP hD [0, 1] [] rfl rfl (by decide) (by decide) hk1 hFc hP1 hD1
      have hP : va_P (dC, dI) vwCl [(a0, .inr (1, [.ref a0_row, z0_owedEach, z0_down, z0_law])), (a0_row, .inl (cyI, 64, .inl f0_row))] H1 := hP
      have hD : va_D A [(a0, .inr (1, [.ref a0_row, z0_owedEach, z0_down, z0_law])), (a0_row, .inl (cyI, 64, .inl f0_row))] := hD
      generalize H1 = H at hP hS ⊢
      refine lv_if_ne (tgt := 38) hx hb dX1_couldFight_18 (by decide) (fun c5 => ?_) (fun c5 => ?_)
      · have hw := hw.1 c5
        refine lv_iconst (v := 0) hx hb dX1_couldFight_38 (by decide) ?_
        exact ((W.zret (v := 0) hx hb hr rfl (fun t ht hW => ⟨⟨0, (), rfl, hw, by rw [ht]; exact hP, va_K.moved hW.alike hK, hD⟩, hS.F ht⟩) hS.2.2 dX1_couldFight_39))
      · have hw := hw.2 c5
        refine lv_aload_n hx hb dX1_couldFight_21 rfl (lv_at hl 0 rfl) ?_
        refine lv_iload_n hx hb dX1_couldFight_22 rfl (lv_at hl 1 rfl) ?_
        have hPc := hP.sub (ws' := [(a0, .inr (1, [.ref a0_row, z0_owedEach, z0_down, z0_law])), (a0_row, .inl (cyI, 64, .inl f0_row))]) [0, 1] rfl
        have hDc := hD.sub (ws' := [(a0, .inr (1, [.ref a0_row, z0_owedEach, z0_down, z0_law])), (a0_row, .inl (cyI, 64, .inl f0_row))]) [0, 1] (by decide) rfl
        have hFc := va_free (wc := [(a0, .inr (1, [.ref a0_row, z0_owedEach, z0_down, z0_law])), (a0_row, .inl (cyI, 64, .inl f0_row))]) hD hS hA [0, 1] rfl
        refine va_calli (va_runV (As := [.int p1]) (rest := []) ⟨hx, hb, hml, hown, hts⟩ (ck_X1_sits l dC dI cyB cyI cyJ cyP a0 a0_row H.size (z0_owedEach) (z0_down) (z0_law) f0_row  p1 hw) (cwV 1 hts gX1_couldFight_X1_sits rfl rfl rfl (by decide +kernel) ⟨Nat.le_of_ble_eq_true rfl, Nat.le_of_ble_eq_true rfl⟩) ⟨cPc_blind, va_recv hK hPc (ci := 1) (q0 := 0) rfl rfl, cPc_pre hPc hK hDc hNw⟩ rfl rfl hl.1 rfl (lv_room (Nat.le_of_ble_eq_true rfl)) dX1_couldFight_23 ⟨Nat.le_of_ble_eq_true rfl, Nat.le_of_ble_eq_true rfl⟩) hS (fun q _ h => hFc q h) hFc (fun r6 u t H1 locs ht hvm hw hB hz1 hk1 hS => ?_)
        obtain ⟨hP1, hK1, hD1⟩ := hB
        rw [ht] at hP1
        obtain ⟨hP, hD⟩ := va_join (wr := []) (w1 := [(a0, .inr (1, [.ref a0_row, z0_owedEach, z0_down, z0_law])), (a0_row, .inl (cyI, 64, .inl f0_row))]) hP hD [0, 1] [] rfl rfl (by decide) (by decide) hk1 hFc hP1 hD1
        have hP : va_P (dC, dI) vwCl [(a0, .inr (1, [.ref a0_row, z0_owedEach, z0_down, z0_law])), (a0_row, .inl (cyI, 64, .inl f0_row))] H1 := hP
        have hD : va_D A [(a0, .inr (1, [.ref a0_row, z0_owedEach, z0_down, z0_law])), (a0_row, .inl (cyI, 64, .inl f0_row))] := hD
        generalize H1 = H at hP hS ⊢
        refine lv_aload_n hx hb dX1_couldFight_26 rfl (lv_at hl 0 rfl) ?_
        refine lv_iload_n hx hb dX1_couldFight_27 rfl (lv_at hl 2 rfl) ?_
        have hPc := hP.sub (ws' := [(a0, .inr (1, [.ref a0_row, z0_owedEach, z0_down, z0_law])), (a0_row, .inl (cyI, 64, .inl f0_row))]) [0, 1] rfl
        have hDc := hD.sub (ws' := [(a0, .inr (1, [.ref a0_row, z0_owedEach, z0_down, z0_law])), (a0_row, .inl (cyI, 64, .inl f0_row))]) [0, 1] (by decide) rfl
        have hFc := va_free (wc := [(a0, .inr (1, [.ref a0_row, z0_owedEach, z0_down, z0_law])), (a0_row, .inl (cyI, 64, .inl f0_row))]) hD hS hA [0, 1] rfl
        refine va_calli (va_runV (As := [.int p2]) (rest := [.int r6]) ⟨hx, hb, hml, hown, hts⟩ (ck_X1_sits l dC dI cyB cyI cyJ cyP a0 a0_row H.size (z0_owedEach) (z0_down) (z0_law) f0_row  p2 hw) (cwV 1 hts gX1_couldFight_X1_sits rfl rfl rfl (by decide +kernel) ⟨Nat.le_of_ble_eq_true rfl, Nat.le_of_ble_eq_true rfl⟩) ⟨cPc_blind, va_recv hK hPc (ci := 1) (q0 := 0) rfl rfl, cPc_pre hPc hK hDc hNw⟩ rfl rfl hl.1 rfl (lv_room (Nat.le_of_ble_eq_true rfl)) dX1_couldFight_28 ⟨Nat.le_of_ble_eq_true rfl, Nat.le_of_ble_eq_true rfl⟩) hS (fun q _ h => hFc q h) hFc (fun r7 u t H1 locs ht hvm hw hB hz1 hk1 hS => ?_)
        obtain ⟨hP1, hK1, hD1⟩ := hB
        rw [ht] at hP1
        obtain ⟨hP, hD⟩ := va_join (wr := []) (w1 := [(a0, .inr (1, [.ref a0_row, z0_owedEach, z0_down, z0_law])), (a0_row, .inl (cyI, 64, .inl f0_row))]) hP hD [0, 1] [] rfl rfl (by decide) (by decide) hk1 hFc hP1 hD1
        have hP : va_P (dC, dI) vwCl [(a0, .inr (1, [.ref a0_row, z0_owedEach, z0_down, z0_law])), (a0_row, .inl (cyI, 64, .inl f0_row))] H1 := hP
        have hD : va_D A [(a0, .inr (1, [.ref a0_row, z0_owedEach, z0_down, z0_law])), (a0_row, .inl (cyI, 64, .inl f0_row))] := hD
        generalize H1 = H at hP hS ⊢
        refine lv_icmp_ne (tgt := 38) hx hb dX1_couldFight_31 (by decide) (fun c8 => ?_) (fun c8 => ?_)
        · have hw := hw.1 c8
          refine lv_iconst (v := 0) hx hb dX1_couldFight_38 (by decide) ?_
          exact ((W.zret (v := 0) hx hb hr rfl (fun t ht hW => ⟨⟨0, (), rfl, hw, by rw [ht]; exact hP, va_K.moved hW.alike hK, hD⟩, hS.F ht⟩) hS.2.2 dX1_couldFight_39))
        · have hw := hw.2 c8
          refine lv_iconst (v := 1) hx hb dX1_couldFight_34 (by decide) ?_
          refine lv_goto (tgt := 39) hx hb dX1_couldFight_35 (by decide) ?_
          exact ((W.zret (v := 1) hx hb hr rfl (fun t ht hW => ⟨⟨1, (), rfl, hw, by rw [ht]; exact hP, va_K.moved hW.alike hK, hD⟩, hS.F ht⟩) hS.2.2 dX1_couldFight_39))
def wq_X1_couldPay (f0_row : Nat → Int32)  (p1 : Int32) (p2 : Int32) (p3 : Int32) (Q : Int32 → Prop) : Prop := wq_X1_isCaught f0_row  p1 (fun r1 => ((¬ r1 = 0 → (Q 0)) ∧ (r1 = 0 → wq_X1_isCaught f0_row  p2 (fun r3 => ((¬ r3 = 0 → (Q 0)) ∧ (r3 = 0 → wq_X1_owesTo f0_row  p1 p2 (fun r5 => ((r5 < p3 → (Q 0)) ∧ (¬ r5 < p3 → (Q 1))))))))))
set_option maxHeartbeats 4000000 in
set_option maxRecDepth 100000 in
theorem ck_X1_couldPay (l : Launch) (dC : Nat → ClassId) (dI : Nat → Nat → Nat) (cyB cyI cyJ cyP : ClassId) (a0 a0_row : Nat) (sz : Nat) (z0_owedEach : Value) (z0_down : Value) (z0_law : Value) (f0_row : Nat → Int32)  (p1 : Int32) (p2 : Int32) (p3 : Int32) {Q : Int32 → Prop} (hw : wq_X1_couldPay f0_row  p1 p2 p3 Q) : Met l yX1_couldPay wsX1_couldPay ({ frames := 1, cells := 0, slots := 0, locals := 22 }) (va_Pc [.ref a0, .int p1, .int p2, .int p3] (cPc (dC, dI) (kT cyB cyI cyJ cyP) [(a0, .inr (1, [.ref a0_row, z0_owedEach, z0_down, z0_law])), (a0_row, .inl (cyI, 64, .inl f0_row))] sz)) (va_Qi (fun (r : Int32) (_ : Unit) => Q r ) (cB (dC, dI) (kT cyB cyI cyJ cyP) (va_A [(a0, .inr (1, [.ref a0_row, z0_owedEach, z0_down, z0_law])), (a0_row, .inl (cyI, 64, .inl f0_row))] sz) (fun u : Unit => ([(a0, .inr (1, [.ref a0_row, z0_owedEach, z0_down, z0_law])), (a0_row, .inl (cyI, 64, .inl f0_row))] : va_W))) (va_A [(a0, .inr (1, [.ref a0_row, z0_owedEach, z0_down, z0_law])), (a0_row, .inl (cyI, 64, .inl f0_row))] sz)) 0 0 (va_A [(a0, .inr (1, [.ref a0_row, z0_owedEach, z0_down, z0_law])), (a0_row, .inl (cyI, 64, .inl f0_row))] sz) := by
  refine Met.ofW (cc := cX1_couldPay) (maxL := 4) (ret := (some .boolean)) (by decide) rfl ?_
  intro p e s m args below meth c s₁ B hml hv
  obtain ⟨rfl, hsz, hP, hK, hD0, hNw⟩ := hv
  have hx := B.exec
  have hb := B.bytes
  have hr := B.returns
  have hts := atoms_spec (ws := wsX1_couldPay) B.pre
  have hown : s.vm.findClass RX1 = some m.cls := findClass_of_methodNamed B.named
  have hlocks := B.notSynchronized
  subst hsz
  have hD := hD0.self (sz := s.heap.size)
  generalize hAe : va_A [(a0, .inr (1, [.ref a0_row, z0_owedEach, z0_down, z0_law])), (a0_row, .inl (cyI, 64, .inl f0_row))] s.heap.size = A at hD ⊢
  have hA : ∀ q : Nat, s.heap.size ≤ q → A q := fun q h => by rw [← hAe]; exact Or.inr h
  have hS : va_S A s.heap s.heap [] := va_S.rf
  have hP : va_P (dC, dI) vwCl [(a0, .inr (1, [.ref a0_row, z0_owedEach, z0_down, z0_law])), (a0_row, .inl (cyI, 64, .inl f0_row))] s.heap := hP
  have hl := lv_entry ([.ref a0, .int p1, .int p2, .int p3]) (n := 4) (Nat.le_of_ble_eq_true rfl)
  rw [lg_entry_eq]
  generalize (lg_sl ([.ref a0, .int p1, .int p2, .int p3]) ++ List.replicate (4 - (lg_sl ([.ref a0, .int p1, .int p2, .int p3])).length) Slot.unset).toArray = ls at hl ⊢
  have hl : lv_has ls 4 [(0, .ref a0), (1, .int p1), (2, .int p2), (3, .int p3)] := hl
  have C0 : cfx p s m _ meth c cX1_couldPay (some .boolean) wsX1_couldPay RX1 4 A (dC, dI) (kT cyB cyI cyJ cyP) := ⟨hx, hb, hr, hts, hown, hlocks, hml, hA, hK, hNw⟩
  clear hAe
  obtain ⟨H, hH⟩ : ∃ H, H = s.heap := ⟨_, rfl⟩
  rw [← hH] at hP ⊢
  have hS : va_S A s.heap H [] := by rw [hH]; exact va_S.rf
  have hS := hS
  refine lv_aload_n hx hb dX1_couldPay_0 rfl (lv_at hl 0 rfl) ?_
  refine lv_iload_n hx hb dX1_couldPay_1 rfl (lv_at hl 1 rfl) ?_
  have hPc := hP.sub (ws' := [(a0, .inr (1, [.ref a0_row, z0_owedEach, z0_down, z0_law])), (a0_row, .inl (cyI, 64, .inl f0_row))]) [0, 1] rfl
  have hDc := hD.sub (ws' := [(a0, .inr (1, [.ref a0_row, z0_owedEach, z0_down, z0_law])), (a0_row, .inl (cyI, 64, .inl f0_row))]) [0, 1] (by decide) rfl
  have hFc := va_free (wc := [(a0, .inr (1, [.ref a0_row, z0_owedEach, z0_down, z0_law])), (a0_row, .inl (cyI, 64, .inl f0_row))]) hD hS hA [0, 1] rfl
  refine va_calli (va_runV (As := [.int p1]) (rest := []) ⟨hx, hb, hml, hown, hts⟩ (ck_X1_isCaught l dC dI cyB cyI cyJ cyP a0 a0_row H.size (z0_owedEach) (z0_down) (z0_law) f0_row  p1 hw) (cwV 1 hts gX1_couldPay_X1_isCaught rfl rfl rfl (by decide +kernel) ⟨Nat.le_of_ble_eq_true rfl, Nat.le_of_ble_eq_true rfl⟩) ⟨cPc_blind, va_recv hK hPc (ci := 1) (q0 := 0) rfl rfl, cPc_pre hPc hK hDc hNw⟩ rfl rfl hl.1 rfl (lv_room (Nat.le_of_ble_eq_true rfl)) dX1_couldPay_2 ⟨Nat.le_of_ble_eq_true rfl, Nat.le_of_ble_eq_true rfl⟩) hS (fun q _ h => hFc q h) hFc (fun r1 u t H1 locs ht hvm hw hB hz1 hk1 hS => ?_)
  obtain ⟨hP1, hK1, hD1⟩ := hB
  rw [ht] at hP1
  obtain ⟨hP, hD⟩ := va_join (wr := []) (w1 := [(a0, .inr (1, [.ref a0_row, z0_owedEach, z0_down, z0_law])), (a0_row, .inl (cyI, 64, .inl f0_row))]) hP hD [0, 1] [] rfl rfl (by decide) (by decide) hk1 hFc hP1 hD1
  have hP : va_P (dC, dI) vwCl [(a0, .inr (1, [.ref a0_row, z0_owedEach, z0_down, z0_law])), (a0_row, .inl (cyI, 64, .inl f0_row))] H1 := hP
  have hD : va_D A [(a0, .inr (1, [.ref a0_row, z0_owedEach, z0_down, z0_law])), (a0_row, .inl (cyI, 64, .inl f0_row))] := hD
  generalize H1 = H at hP hS ⊢
  refine lv_if_ne (tgt := 30) hx hb dX1_couldPay_5 (by decide) (fun c2 => ?_) (fun c2 => ?_)
  · have hw := hw.1 c2
    refine lv_iconst (v := 0) hx hb dX1_couldPay_30 (by decide) ?_
    exact ((W.zret (v := 0) hx hb hr rfl (fun t ht hW => ⟨⟨0, (), rfl, hw, by rw [ht]; exact hP, va_K.moved hW.alike hK, hD⟩, hS.F ht⟩) hS.2.2 dX1_couldPay_31))
  · have hw := hw.2 c2
    refine lv_aload_n hx hb dX1_couldPay_8 rfl (lv_at hl 0 rfl) ?_
    refine lv_iload_n hx hb dX1_couldPay_9 rfl (lv_at hl 2 rfl) ?_
    have hPc := hP.sub (ws' := [(a0, .inr (1, [.ref a0_row, z0_owedEach, z0_down, z0_law])), (a0_row, .inl (cyI, 64, .inl f0_row))]) [0, 1] rfl
    have hDc := hD.sub (ws' := [(a0, .inr (1, [.ref a0_row, z0_owedEach, z0_down, z0_law])), (a0_row, .inl (cyI, 64, .inl f0_row))]) [0, 1] (by decide) rfl
    have hFc := va_free (wc := [(a0, .inr (1, [.ref a0_row, z0_owedEach, z0_down, z0_law])), (a0_row, .inl (cyI, 64, .inl f0_row))]) hD hS hA [0, 1] rfl
    refine va_calli (va_runV (As := [.int p2]) (rest := []) ⟨hx, hb, hml, hown, hts⟩ (ck_X1_isCaught l dC dI cyB cyI cyJ cyP a0 a0_row H.size (z0_owedEach) (z0_down) (z0_law) f0_row  p2 hw) (cwV 1 hts gX1_couldPay_X1_isCaught rfl rfl rfl (by decide +kernel) ⟨Nat.le_of_ble_eq_true rfl, Nat.le_of_ble_eq_true rfl⟩) ⟨cPc_blind, va_recv hK hPc (ci := 1) (q0 := 0) rfl rfl, cPc_pre hPc hK hDc hNw⟩ rfl rfl hl.1 rfl (lv_room (Nat.le_of_ble_eq_true rfl)) dX1_couldPay_10 ⟨Nat.le_of_ble_eq_true rfl, Nat.le_of_ble_eq_true rfl⟩) hS (fun q _ h => hFc q h) hFc (fun r3 u t H1 locs ht hvm hw hB hz1 hk1 hS => ?_)
    obtain ⟨hP1, hK1, hD1⟩ := hB
    rw [ht] at hP1
    obtain ⟨hP, hD⟩ := va_join (wr := []) (w1 := [(a0, .inr (1, [.ref a0_row, z0_owedEach, z0_down, z0_law])), (a0_row, .inl (cyI, 64, .inl f0_row))]) hP hD [0, 1] [] rfl rfl (by decide) (by decide) hk1 hFc hP1 hD1
    have hP : va_P (dC, dI) vwCl [(a0, .inr (1, [.ref a0_row, z0_owedEach, z0_down, z0_law])), (a0_row, .inl (cyI, 64, .inl f0_row))] H1 := hP
    have hD : va_D A [(a0, .inr (1, [.ref a0_row, z0_owedEach, z0_down, z0_law])), (a0_row, .inl (cyI, 64, .inl f0_row))] := hD
    generalize H1 = H at hP hS ⊢
    refine lv_if_ne (tgt := 30) hx hb dX1_couldPay_13 (by decide) (fun c4 => ?_) (fun c4 => ?_)
    · have hw := hw.1 c4
      refine lv_iconst (v := 0) hx hb dX1_couldPay_30 (by decide) ?_
      exact ((W.zret (v := 0) hx hb hr rfl (fun t ht hW => ⟨⟨0, (), rfl, hw, by rw [ht]; exact hP, va_K.moved hW.alike hK, hD⟩, hS.F ht⟩) hS.2.2 dX1_couldPay_31))
    · have hw := hw.2 c4
      refine lv_aload_n hx hb dX1_couldPay_16 rfl (lv_at hl 0 rfl) ?_
      refine lv_iload_n hx hb dX1_couldPay_17 rfl (lv_at hl 1 rfl) ?_
      refine lv_iload_n hx hb dX1_couldPay_18 rfl (lv_at hl 2 rfl) ?_
      have hPc := hP.sub (ws' := [(a0, .inr (1, [.ref a0_row, z0_owedEach, z0_down, z0_law])), (a0_row, .inl (cyI, 64, .inl f0_row))]) [0, 1] rfl
      have hDc := hD.sub (ws' := [(a0, .inr (1, [.ref a0_row, z0_owedEach, z0_down, z0_law])), (a0_row, .inl (cyI, 64, .inl f0_row))]) [0, 1] (by decide) rfl
      have hFc := va_free (wc := [(a0, .inr (1, [.ref a0_row, z0_owedEach, z0_down, z0_law])), (a0_row, .inl (cyI, 64, .inl f0_row))]) hD hS hA [0, 1] rfl
      refine va_calli (va_runV (As := [.int p1, .int p2]) (rest := []) ⟨hx, hb, hml, hown, hts⟩ (ck_X1_owesTo l dC dI cyB cyI cyJ cyP a0 a0_row H.size (z0_owedEach) (z0_down) (z0_law) f0_row  p1 p2 hw) (cwV 2 hts gX1_couldPay_X1_owesTo rfl rfl rfl (by decide +kernel) ⟨Nat.le_of_ble_eq_true rfl, Nat.le_of_ble_eq_true rfl⟩) ⟨cPc_blind, va_recv hK hPc (ci := 1) (q0 := 0) rfl rfl, cPc_pre hPc hK hDc hNw⟩ rfl rfl hl.1 rfl (lv_room (Nat.le_of_ble_eq_true rfl)) dX1_couldPay_19 ⟨Nat.le_of_ble_eq_true rfl, Nat.le_of_ble_eq_true rfl⟩) hS (fun q _ h => hFc q h) hFc (fun r5 u t H1 locs ht hvm hw hB hz1 hk1 hS => ?_)
      obtain ⟨hP1, hK1, hD1⟩ := hB
      rw [ht] at hP1
      obtain ⟨hP, hD⟩ := va_join (wr := []) (w1 := [(a0, .inr (1, [.ref a0_row, z0_owedEach, z0_down, z0_law])), (a0_row, .inl (cyI, 64, .inl f0_row))]) hP hD [0, 1] [] rfl rfl (by decide) (by decide) hk1 hFc hP1 hD1
      have hP : va_P (dC, dI) vwCl [(a0, .inr (1, [.ref a0_row, z0_owedEach, z0_down, z0_law])), (a0_row, .inl (cyI, 64, .inl f0_row))] H1 := hP
      have hD : va_D A [(a0, .inr (1, [.ref a0_row, z0_owedEach, z0_down, z0_law])), (a0_row, .inl (cyI, 64, .inl f0_row))] := hD
      generalize H1 = H at hP hS ⊢
      refine lv_iload_n hx hb dX1_couldPay_22 rfl (lv_at hl 3 rfl) ?_
      refine lv_icmp_lt (tgt := 30) hx hb dX1_couldPay_23 (by decide) (fun c6 => ?_) (fun c6 => ?_)
      · have hw := hw.1 c6
        refine lv_iconst (v := 0) hx hb dX1_couldPay_30 (by decide) ?_
        exact ((W.zret (v := 0) hx hb hr rfl (fun t ht hW => ⟨⟨0, (), rfl, hw, by rw [ht]; exact hP, va_K.moved hW.alike hK, hD⟩, hS.F ht⟩) hS.2.2 dX1_couldPay_31))
      · have hw := hw.2 c6
        refine lv_iconst (v := 1) hx hb dX1_couldPay_26 (by decide) ?_
        refine lv_goto (tgt := 31) hx hb dX1_couldPay_27 (by decide) ?_
        exact ((W.zret (v := 1) hx hb hr rfl (fun t ht hW => ⟨⟨1, (), rfl, hw, by rw [ht]; exact hP, va_K.moved hW.alike hK, hD⟩, hS.F ht⟩) hS.2.2 dX1_couldPay_31))
theorem ui_X1_year_X1 : ∀ w ∈ u_ws RX1 TX1 4, w ∈ wsX1_year := by decide +kernel
theorem uw_X1_year_f13 : (.fieldLink RX1 13 "MarchHares$Days" "row" "[I" : Cond) ∈ wsX1_year := by decide +kernel
def wq_X1_year (f0_row : Nat → Int32)   (Q : Int32 → Prop) : Prop := ∀ x1 : Int32, x1 = f0_row (1 : Int32).toNatClampNeg → (Q x1)
set_option maxHeartbeats 4000000 in
set_option maxRecDepth 100000 in
theorem ck_X1_year (l : Launch) (dC : Nat → ClassId) (dI : Nat → Nat → Nat) (cyB cyI cyJ cyP : ClassId) (a0 a0_row : Nat) (sz : Nat) (z0_owedEach : Value) (z0_down : Value) (z0_law : Value) (f0_row : Nat → Int32)   {Q : Int32 → Prop} (hw : wq_X1_year f0_row   Q) : Met l yX1_year wsX1_year ({ frames := 0, cells := 0, slots := 0, locals := 0 }) (va_Pc [.ref a0] (cPc (dC, dI) (kT cyB cyI cyJ cyP) [(a0, .inr (1, [.ref a0_row, z0_owedEach, z0_down, z0_law])), (a0_row, .inl (cyI, 64, .inl f0_row))] sz)) (va_Qi (fun (r : Int32) (_ : Unit) => Q r ) (cB (dC, dI) (kT cyB cyI cyJ cyP) (va_A [(a0, .inr (1, [.ref a0_row, z0_owedEach, z0_down, z0_law])), (a0_row, .inl (cyI, 64, .inl f0_row))] sz) (fun u : Unit => ([(a0, .inr (1, [.ref a0_row, z0_owedEach, z0_down, z0_law])), (a0_row, .inl (cyI, 64, .inl f0_row))] : va_W))) (va_A [(a0, .inr (1, [.ref a0_row, z0_owedEach, z0_down, z0_law])), (a0_row, .inl (cyI, 64, .inl f0_row))] sz)) 0 0 (va_A [(a0, .inr (1, [.ref a0_row, z0_owedEach, z0_down, z0_law])), (a0_row, .inl (cyI, 64, .inl f0_row))] sz) := by
  refine Met.ofW (cc := cX1_year) (maxL := 1) (ret := (some .int)) (by decide) rfl ?_
  intro p e s m args below meth c s₁ B hml hv
  obtain ⟨rfl, hsz, hP, hK, hD0, hNw⟩ := hv
  have hx := B.exec
  have hb := B.bytes
  have hr := B.returns
  have hts := atoms_spec (ws := wsX1_year) B.pre
  have hown : s.vm.findClass RX1 = some m.cls := findClass_of_methodNamed B.named
  have hlocks := B.notSynchronized
  subst hsz
  have hD := hD0.self (sz := s.heap.size)
  generalize hAe : va_A [(a0, .inr (1, [.ref a0_row, z0_owedEach, z0_down, z0_law])), (a0_row, .inl (cyI, 64, .inl f0_row))] s.heap.size = A at hD ⊢
  have hA : ∀ q : Nat, s.heap.size ≤ q → A q := fun q h => by rw [← hAe]; exact Or.inr h
  have hS : va_S A s.heap s.heap [] := va_S.rf
  have hP : va_P (dC, dI) vwCl [(a0, .inr (1, [.ref a0_row, z0_owedEach, z0_down, z0_law])), (a0_row, .inl (cyI, 64, .inl f0_row))] s.heap := hP
  have hl := lv_entry ([.ref a0]) (n := 1) (Nat.le_of_ble_eq_true rfl)
  rw [lg_entry_eq]
  generalize (lg_sl ([.ref a0]) ++ List.replicate (1 - (lg_sl ([.ref a0])).length) Slot.unset).toArray = ls at hl ⊢
  have hl : lv_has ls 1 [(0, .ref a0)] := hl
  have C0 : cfx p s m _ meth c cX1_year (some .int) wsX1_year RX1 1 A (dC, dI) (kT cyB cyI cyJ cyP) := ⟨hx, hb, hr, hts, hown, hlocks, hml, hA, hK, hNw⟩
  clear hAe
  obtain ⟨H, hH⟩ : ∃ H, H = s.heap := ⟨_, rfl⟩
  rw [← hH] at hP ⊢
  have hS : va_S A s.heap H [] := by rw [hH]; exact va_S.rf
  have hS := hS
  refine lv_aload_n hx hb dX1_year_0 rfl (lv_at hl 0 rfl) ?_
  refine va_get (D := (dC, dI)) (ci := 1) (v := .ref a0_row) (C := RX1) (T := TX1) (N := 4) hx hb hts ui_X1_year_X1 hown hK hP 0 rfl rfl 0 (by decide) (hts _ uw_X1_year_f13) (fun _ h9 => h9) rfl dX1_year_1 ?_
  refine lv_iconst (v := 1) hx hb dX1_year_4 (by decide) ?_
  refine va_iald hx hb hK hP 1 1 rfl rfl (vin (by decide)) dX1_year_5 ?_
  refine lv_topi (fun x1 ex1 => ?_)
  have hw := hw x1 ex1
  exact ((W.iret (v := x1) hx hb hr (fun t ht hW => ⟨⟨x1, (), rfl, hw, by rw [ht]; exact hP, va_K.moved hW.alike hK, hD⟩, hS.F ht⟩) hS.2.2 dX1_year_6))
theorem ui_X9_isAllowed_X9 : ∀ w ∈ u_ws RX9 TX9 12, w ∈ wsX9_isAllowed := by decide +kernel
theorem uw_X9_isAllowed_f11 : (.fieldLink RX9 11 "MarchHares$Work" "kinds" "[I" : Cond) ∈ wsX9_isAllowed := by decide +kernel
theorem uw_X9_isAllowed_f15 : (.fieldLink RX9 15 "MarchHares$Work" "first" "[I" : Cond) ∈ wsX9_isAllowed := by decide +kernel
theorem uw_X9_isAllowed_f18 : (.fieldLink RX9 18 "MarchHares$Work" "second" "[I" : Cond) ∈ wsX9_isAllowed := by decide +kernel
theorem uw_X9_isAllowed_f21 : (.fieldLink RX9 21 "MarchHares$Work" "third" "[I" : Cond) ∈ wsX9_isAllowed := by decide +kernel
def wq_X9_isAllowed (f0_kinds : Nat → Int32) (f2_row : Nat → Int32) (f0_first : Nat → Int32) (f0_second : Nat → Int32) (v2_down_hares : Int32) (f2_down_formX : Nat → Int32) (f2_down_formY : Nat → Int32) (v2_law_length : Int32) (f2_law_kinds : Nat → Int32) (f2_law_values : Nat → Int32) (f0_third : Nat → Int32) (f2_law_facts : Nat → Int32) (f2_law_pile : Nat → Int32) (p1 : Int32) (Q : Int32 → (Nat → Int32) → (Nat → Int32) → Prop) : Prop := vp_in p1 50 ∧ ∀ x1 : Int32, x1 = f0_kinds p1.toNatClampNeg → (((x1.toInt < 0 ∨ 2 < x1.toInt) → wq_X1_year f2_row   (fun r3 => ((40 ≤ r3 → (Q 0 f2_law_facts f2_law_pile)) ∧ (¬ 40 ≤ r3 → (Q 1 f2_law_facts f2_law_pile))))) ∧ (x1 = 0 → vp_in p1 50 ∧ ∀ x5 : Int32, x5 = f0_first p1.toNatClampNeg → vp_in p1 50 ∧ ∀ x6 : Int32, x6 = f0_second p1.toNatClampNeg → wq_X1_couldLeap f2_row v2_down_hares f2_down_formX f2_down_formY v2_law_length f2_law_kinds f2_law_values f2_law_facts f2_law_pile x5 x6 (fun r9 f7 f8 => narrow .boolean (.int r9) = .int r9 ∧ (Q r9 f7 f8))) ∧ (x1 = 1 → vp_in p1 50 ∧ ∀ x10 : Int32, x10 = f0_first p1.toNatClampNeg → vp_in p1 50 ∧ ∀ x11 : Int32, x11 = f0_second p1.toNatClampNeg → wq_X1_couldFight f2_row  x10 x11 (fun r12 => narrow .boolean (.int r12) = .int r12 ∧ (Q r12 f2_law_facts f2_law_pile))) ∧ (x1 = 2 → vp_in p1 50 ∧ ∀ x13 : Int32, x13 = f0_first p1.toNatClampNeg → vp_in p1 50 ∧ ∀ x14 : Int32, x14 = f0_second p1.toNatClampNeg → vp_in p1 50 ∧ ∀ x15 : Int32, x15 = f0_third p1.toNatClampNeg → wq_X1_couldPay f2_row  x13 x14 x15 (fun r16 => narrow .boolean (.int r16) = .int r16 ∧ (Q r16 f2_law_facts f2_law_pile))))
set_option maxHeartbeats 4000000 in
set_option maxRecDepth 100000 in
theorem ck_X9_isAllowed (l : Launch) (dC : Nat → ClassId) (dI : Nat → Nat → Nat) (cyB cyI cyJ cyP : ClassId) (a0 a2 a0_kinds a2_row a0_first a0_second a2_down a2_down_formX a2_down_formY a2_law a2_law_facts a2_law_pile a2_law_kinds a2_law_values a0_third : Nat) (sz : Nat) (z0_heads : Value) (z0_rounds : Value) (z0_length : Value) (z0_open : Value) (z0_hares : Value) (z0_forms : Value) (z0_done : Value) (z0_refused : Value) (z2_owedEach : Value) (z2_down_foxX : Value) (z2_down_foxY : Value) (z2_down_seat : Value) (z2_down_strength : Value) (z2_down_debts : Value) (z2_down_near : Value) (z2_down_forms : Value) (z2_down_foxes : Value) (z2_down_safe : Value) (f0_kinds : Nat → Int32) (f2_row : Nat → Int32) (f0_first : Nat → Int32) (f0_second : Nat → Int32) (v2_down_hares : Int32) (f2_down_formX : Nat → Int32) (f2_down_formY : Nat → Int32) (v2_law_length : Int32) (f2_law_kinds : Nat → Int32) (f2_law_values : Nat → Int32) (f0_third : Nat → Int32) (f2_law_facts : Nat → Int32) (f2_law_pile : Nat → Int32) (p1 : Int32) {Q : Int32 → (Nat → Int32) → (Nat → Int32) → Prop} (hw : wq_X9_isAllowed f0_kinds f2_row f0_first f0_second v2_down_hares f2_down_formX f2_down_formY v2_law_length f2_law_kinds f2_law_values f0_third f2_law_facts f2_law_pile p1 Q) : Met l yX9_isAllowed wsX9_isAllowed ({ frames := 4, cells := 0, slots := 0, locals := 99 }) (va_Pc [.ref a0, .int p1, .ref a2] (cPc (dC, dI) (kT cyB cyI cyJ cyP) [(a0, .inr (9, [.ref a0_kinds, .ref a0_first, .ref a0_second, .ref a0_third, z0_heads, z0_rounds, z0_length, z0_open, z0_hares, z0_forms, z0_done, z0_refused])), (a0_kinds, .inl (cyI, 50, .inl f0_kinds)), (a2, .inr (1, [.ref a2_row, z2_owedEach, .ref a2_down, .ref a2_law])), (a2_row, .inl (cyI, 64, .inl f2_row)), (a0_first, .inl (cyI, 50, .inl f0_first)), (a0_second, .inl (cyI, 50, .inl f0_second)), (a2_down, .inr (2, [.ref a2_down_formX, .ref a2_down_formY, z2_down_foxX, z2_down_foxY, z2_down_seat, z2_down_strength, z2_down_debts, z2_down_near, z2_down_forms, .int v2_down_hares, z2_down_foxes, z2_down_safe])), (a2_down_formX, .inl (cyI, 8, .inl f2_down_formX)), (a2_down_formY, .inl (cyI, 8, .inl f2_down_formY)), (a2_law, .inr (4, [.ref a2_law_kinds, .ref a2_law_values, .ref a2_law_pile, .ref a2_law_facts, .int v2_law_length])), (a2_law_facts, .inl (cyI, 8, .inl f2_law_facts)), (a2_law_pile, .inl (cyI, 150, .inl f2_law_pile)), (a2_law_kinds, .inl (cyI, 150, .inl f2_law_kinds)), (a2_law_values, .inl (cyI, 150, .inl f2_law_values)), (a0_third, .inl (cyI, 50, .inl f0_third))] sz)) (va_Qi (fun (r : Int32) (u : (Nat → Int32) × (Nat → Int32)) => Q r u.1 u.2) (cB (dC, dI) (kT cyB cyI cyJ cyP) (va_A [(a0, .inr (9, [.ref a0_kinds, .ref a0_first, .ref a0_second, .ref a0_third, z0_heads, z0_rounds, z0_length, z0_open, z0_hares, z0_forms, z0_done, z0_refused])), (a0_kinds, .inl (cyI, 50, .inl f0_kinds)), (a2, .inr (1, [.ref a2_row, z2_owedEach, .ref a2_down, .ref a2_law])), (a2_row, .inl (cyI, 64, .inl f2_row)), (a0_first, .inl (cyI, 50, .inl f0_first)), (a0_second, .inl (cyI, 50, .inl f0_second)), (a2_down, .inr (2, [.ref a2_down_formX, .ref a2_down_formY, z2_down_foxX, z2_down_foxY, z2_down_seat, z2_down_strength, z2_down_debts, z2_down_near, z2_down_forms, .int v2_down_hares, z2_down_foxes, z2_down_safe])), (a2_down_formX, .inl (cyI, 8, .inl f2_down_formX)), (a2_down_formY, .inl (cyI, 8, .inl f2_down_formY)), (a2_law, .inr (4, [.ref a2_law_kinds, .ref a2_law_values, .ref a2_law_pile, .ref a2_law_facts, .int v2_law_length])), (a2_law_facts, .inl (cyI, 8, .inl f2_law_facts)), (a2_law_pile, .inl (cyI, 150, .inl f2_law_pile)), (a2_law_kinds, .inl (cyI, 150, .inl f2_law_kinds)), (a2_law_values, .inl (cyI, 150, .inl f2_law_values)), (a0_third, .inl (cyI, 50, .inl f0_third))] sz) (fun u : (Nat → Int32) × (Nat → Int32) => ([(a0, .inr (9, [.ref a0_kinds, .ref a0_first, .ref a0_second, .ref a0_third, z0_heads, z0_rounds, z0_length, z0_open, z0_hares, z0_forms, z0_done, z0_refused])), (a0_kinds, .inl (cyI, 50, .inl f0_kinds)), (a2, .inr (1, [.ref a2_row, z2_owedEach, .ref a2_down, .ref a2_law])), (a2_row, .inl (cyI, 64, .inl f2_row)), (a0_first, .inl (cyI, 50, .inl f0_first)), (a0_second, .inl (cyI, 50, .inl f0_second)), (a2_down, .inr (2, [.ref a2_down_formX, .ref a2_down_formY, z2_down_foxX, z2_down_foxY, z2_down_seat, z2_down_strength, z2_down_debts, z2_down_near, z2_down_forms, .int v2_down_hares, z2_down_foxes, z2_down_safe])), (a2_down_formX, .inl (cyI, 8, .inl f2_down_formX)), (a2_down_formY, .inl (cyI, 8, .inl f2_down_formY)), (a2_law, .inr (4, [.ref a2_law_kinds, .ref a2_law_values, .ref a2_law_pile, .ref a2_law_facts, .int v2_law_length])), (a2_law_facts, .inl (cyI, 8, .inl u.1)), (a2_law_pile, .inl (cyI, 150, .inl u.2)), (a2_law_kinds, .inl (cyI, 150, .inl f2_law_kinds)), (a2_law_values, .inl (cyI, 150, .inl f2_law_values)), (a0_third, .inl (cyI, 50, .inl f0_third))] : va_W))) (va_A [(a0, .inr (9, [.ref a0_kinds, .ref a0_first, .ref a0_second, .ref a0_third, z0_heads, z0_rounds, z0_length, z0_open, z0_hares, z0_forms, z0_done, z0_refused])), (a0_kinds, .inl (cyI, 50, .inl f0_kinds)), (a2, .inr (1, [.ref a2_row, z2_owedEach, .ref a2_down, .ref a2_law])), (a2_row, .inl (cyI, 64, .inl f2_row)), (a0_first, .inl (cyI, 50, .inl f0_first)), (a0_second, .inl (cyI, 50, .inl f0_second)), (a2_down, .inr (2, [.ref a2_down_formX, .ref a2_down_formY, z2_down_foxX, z2_down_foxY, z2_down_seat, z2_down_strength, z2_down_debts, z2_down_near, z2_down_forms, .int v2_down_hares, z2_down_foxes, z2_down_safe])), (a2_down_formX, .inl (cyI, 8, .inl f2_down_formX)), (a2_down_formY, .inl (cyI, 8, .inl f2_down_formY)), (a2_law, .inr (4, [.ref a2_law_kinds, .ref a2_law_values, .ref a2_law_pile, .ref a2_law_facts, .int v2_law_length])), (a2_law_facts, .inl (cyI, 8, .inl f2_law_facts)), (a2_law_pile, .inl (cyI, 150, .inl f2_law_pile)), (a2_law_kinds, .inl (cyI, 150, .inl f2_law_kinds)), (a2_law_values, .inl (cyI, 150, .inl f2_law_values)), (a0_third, .inl (cyI, 50, .inl f0_third))] sz)) 0 0 (va_A [(a0, .inr (9, [.ref a0_kinds, .ref a0_first, .ref a0_second, .ref a0_third, z0_heads, z0_rounds, z0_length, z0_open, z0_hares, z0_forms, z0_done, z0_refused])), (a0_kinds, .inl (cyI, 50, .inl f0_kinds)), (a2, .inr (1, [.ref a2_row, z2_owedEach, .ref a2_down, .ref a2_law])), (a2_row, .inl (cyI, 64, .inl f2_row)), (a0_first, .inl (cyI, 50, .inl f0_first)), (a0_second, .inl (cyI, 50, .inl f0_second)), (a2_down, .inr (2, [.ref a2_down_formX, .ref a2_down_formY, z2_down_foxX, z2_down_foxY, z2_down_seat, z2_down_strength, z2_down_debts, z2_down_near, z2_down_forms, .int v2_down_hares, z2_down_foxes, z2_down_safe])), (a2_down_formX, .inl (cyI, 8, .inl f2_down_formX)), (a2_down_formY, .inl (cyI, 8, .inl f2_down_formY)), (a2_law, .inr (4, [.ref a2_law_kinds, .ref a2_law_values, .ref a2_law_pile, .ref a2_law_facts, .int v2_law_length])), (a2_law_facts, .inl (cyI, 8, .inl f2_law_facts)), (a2_law_pile, .inl (cyI, 150, .inl f2_law_pile)), (a2_law_kinds, .inl (cyI, 150, .inl f2_law_kinds)), (a2_law_values, .inl (cyI, 150, .inl f2_law_values)), (a0_third, .inl (cyI, 50, .inl f0_third))] sz) := by
  refine Met.ofW (cc := cX9_isAllowed) (maxL := 3) (ret := (some .boolean)) (by decide) rfl ?_
  intro p e s m args below meth c s₁ B hml hv
  obtain ⟨rfl, hsz, hP, hK, hD0, hNw⟩ := hv
  have hx := B.exec
  have hb := B.bytes
  have hr := B.returns
  have hts := atoms_spec (ws := wsX9_isAllowed) B.pre
  have hown : s.vm.findClass RX9 = some m.cls := findClass_of_methodNamed B.named
  have hlocks := B.notSynchronized
  subst hsz
  have hD := hD0.self (sz := s.heap.size)
  generalize hAe : va_A [(a0, .inr (9, [.ref a0_kinds, .ref a0_first, .ref a0_second, .ref a0_third, z0_heads, z0_rounds, z0_length, z0_open, z0_hares, z0_forms, z0_done, z0_refused])), (a0_kinds, .inl (cyI, 50, .inl f0_kinds)), (a2, .inr (1, [.ref a2_row, z2_owedEach, .ref a2_down, .ref a2_law])), (a2_row, .inl (cyI, 64, .inl f2_row)), (a0_first, .inl (cyI, 50, .inl f0_first)), (a0_second, .inl (cyI, 50, .inl f0_second)), (a2_down, .inr (2, [.ref a2_down_formX, .ref a2_down_formY, z2_down_foxX, z2_down_foxY, z2_down_seat, z2_down_strength, z2_down_debts, z2_down_near, z2_down_forms, .int v2_down_hares, z2_down_foxes, z2_down_safe])), (a2_down_formX, .inl (cyI, 8, .inl f2_down_formX)), (a2_down_formY, .inl (cyI, 8, .inl f2_down_formY)), (a2_law, .inr (4, [.ref a2_law_kinds, .ref a2_law_values, .ref a2_law_pile, .ref a2_law_facts, .int v2_law_length])), (a2_law_facts, .inl (cyI, 8, .inl f2_law_facts)), (a2_law_pile, .inl (cyI, 150, .inl f2_law_pile)), (a2_law_kinds, .inl (cyI, 150, .inl f2_law_kinds)), (a2_law_values, .inl (cyI, 150, .inl f2_law_values)), (a0_third, .inl (cyI, 50, .inl f0_third))] s.heap.size = A at hD ⊢
  have hA : ∀ q : Nat, s.heap.size ≤ q → A q := fun q h => by rw [← hAe]; exact Or.inr h
  have hS : va_S A s.heap s.heap [] := va_S.rf
  have hP : va_P (dC, dI) vwCl [(a0, .inr (9, [.ref a0_kinds, .ref a0_first, .ref a0_second, .ref a0_third, z0_heads, z0_rounds, z0_length, z0_open, z0_hares, z0_forms, z0_done, z0_refused])), (a0_kinds, .inl (cyI, 50, .inl f0_kinds)), (a2, .inr (1, [.ref a2_row, z2_owedEach, .ref a2_down, .ref a2_law])), (a2_row, .inl (cyI, 64, .inl f2_row)), (a0_first, .inl (cyI, 50, .inl f0_first)), (a0_second, .inl (cyI, 50, .inl f0_second)), (a2_down, .inr (2, [.ref a2_down_formX, .ref a2_down_formY, z2_down_foxX, z2_down_foxY, z2_down_seat, z2_down_strength, z2_down_debts, z2_down_near, z2_down_forms, .int v2_down_hares, z2_down_foxes, z2_down_safe])), (a2_down_formX, .inl (cyI, 8, .inl f2_down_formX)), (a2_down_formY, .inl (cyI, 8, .inl f2_down_formY)), (a2_law, .inr (4, [.ref a2_law_kinds, .ref a2_law_values, .ref a2_law_pile, .ref a2_law_facts, .int v2_law_length])), (a2_law_facts, .inl (cyI, 8, .inl f2_law_facts)), (a2_law_pile, .inl (cyI, 150, .inl f2_law_pile)), (a2_law_kinds, .inl (cyI, 150, .inl f2_law_kinds)), (a2_law_values, .inl (cyI, 150, .inl f2_law_values)), (a0_third, .inl (cyI, 50, .inl f0_third))] s.heap := hP
  have hl := lv_entry ([.ref a0, .int p1, .ref a2]) (n := 3) (Nat.le_of_ble_eq_true rfl)
  rw [lg_entry_eq]
  generalize (lg_sl ([.ref a0, .int p1, .ref a2]) ++ List.replicate (3 - (lg_sl ([.ref a0, .int p1, .ref a2])).length) Slot.unset).toArray = ls at hl ⊢
  have hl : lv_has ls 3 [(0, .ref a0), (1, .int p1), (2, .ref a2)] := hl
  have C0 : cfx p s m _ meth c cX9_isAllowed (some .boolean) wsX9_isAllowed RX9 3 A (dC, dI) (kT cyB cyI cyJ cyP) := ⟨hx, hb, hr, hts, hown, hlocks, hml, hA, hK, hNw⟩
  clear hAe
  obtain ⟨H, hH⟩ : ∃ H, H = s.heap := ⟨_, rfl⟩
  rw [← hH] at hP ⊢
  have hS : va_S A s.heap H [] := by rw [hH]; exact va_S.rf
  have hS := hS
  refine lv_aload_n hx hb dX9_isAllowed_0 rfl (lv_at hl 0 rfl) ?_
  refine va_get (D := (dC, dI)) (ci := 9) (v := .ref a0_kinds) (C := RX9) (T := TX9) (N := 12) hx hb hts ui_X9_isAllowed_X9 hown hK hP 0 rfl rfl 0 (by decide) (hts _ uw_X9_isAllowed_f11) (fun _ h9 => h9) rfl dX9_isAllowed_1 ?_
  refine lv_iload_n hx hb dX9_isAllowed_4 rfl (lv_at hl 1 rfl) ?_
  obtain ⟨hi9, hw⟩ := hw
  refine va_iald hx hb hK hP 1 1 rfl rfl hi9 dX9_isAllowed_5 ?_
  refine lv_topi (fun x1 ex1 => ?_)
  have hw := hw x1 ex1
  by_cases c2 : x1.toInt < 0 ∨ 2 < x1.toInt
  · have hw := hw.1 c2
    refine lv_tableOut (tgt := 89) hx hb dX9_isAllowed_6 c2 (by decide) ?_
    refine lv_aload_n hx hb dX9_isAllowed_89 rfl (lv_at hl 2 rfl) ?_
    have hPc := hP.sub (ws' := [(a2, .inr (1, [.ref a2_row, z2_owedEach, .ref a2_down, .ref a2_law])), (a2_row, .inl (cyI, 64, .inl f2_row))]) [2, 3] rfl
    have hDc := hD.sub (ws' := [(a2, .inr (1, [.ref a2_row, z2_owedEach, .ref a2_down, .ref a2_law])), (a2_row, .inl (cyI, 64, .inl f2_row))]) [2, 3] (by decide) rfl
    have hFc := va_free (wc := [(a2, .inr (1, [.ref a2_row, z2_owedEach, .ref a2_down, .ref a2_law])), (a2_row, .inl (cyI, 64, .inl f2_row))]) hD hS hA [2, 3] rfl
    refine va_calli (va_runV (As := []) (rest := []) ⟨hx, hb, hml, hown, hts⟩ (ck_X1_year l dC dI cyB cyI cyJ cyP a2 a2_row H.size (z2_owedEach) (.ref a2_down) (.ref a2_law) f2_row   hw) (cwV 0 hts gX9_isAllowed_X1_year rfl rfl rfl (by decide +kernel) ⟨Nat.le_of_ble_eq_true rfl, Nat.le_of_ble_eq_true rfl⟩) ⟨cPc_blind, va_recv hK hPc (ci := 1) (q0 := 0) rfl rfl, cPc_pre hPc hK hDc hNw⟩ rfl rfl hl.1 rfl (lv_room (Nat.le_of_ble_eq_true rfl)) dX9_isAllowed_90 ⟨Nat.le_of_ble_eq_true rfl, Nat.le_of_ble_eq_true rfl⟩) hS (fun q _ h => hFc q h) hFc (fun r3 u t H1 locs ht hvm hw hB hz1 hk1 hS => ?_)
    obtain ⟨hP1, hK1, hD1⟩ := hB
    rw [ht] at hP1
    obtain ⟨hP, hD⟩ := va_join (wr := [(a0, .inr (9, [.ref a0_kinds, .ref a0_first, .ref a0_second, .ref a0_third, z0_heads, z0_rounds, z0_length, z0_open, z0_hares, z0_forms, z0_done, z0_refused])), (a0_kinds, .inl (cyI, 50, .inl f0_kinds)), (a0_first, .inl (cyI, 50, .inl f0_first)), (a0_second, .inl (cyI, 50, .inl f0_second)), (a2_down, .inr (2, [.ref a2_down_formX, .ref a2_down_formY, z2_down_foxX, z2_down_foxY, z2_down_seat, z2_down_strength, z2_down_debts, z2_down_near, z2_down_forms, .int v2_down_hares, z2_down_foxes, z2_down_safe])), (a2_down_formX, .inl (cyI, 8, .inl f2_down_formX)), (a2_down_formY, .inl (cyI, 8, .inl f2_down_formY)), (a2_law, .inr (4, [.ref a2_law_kinds, .ref a2_law_values, .ref a2_law_pile, .ref a2_law_facts, .int v2_law_length])), (a2_law_facts, .inl (cyI, 8, .inl f2_law_facts)), (a2_law_pile, .inl (cyI, 150, .inl f2_law_pile)), (a2_law_kinds, .inl (cyI, 150, .inl f2_law_kinds)), (a2_law_values, .inl (cyI, 150, .inl f2_law_values)), (a0_third, .inl (cyI, 50, .inl f0_third))]) (w1 := [(a2, .inr (1, [.ref a2_row, z2_owedEach, .ref a2_down, .ref a2_law])), (a2_row, .inl (cyI, 64, .inl f2_row))]) hP hD [2, 3] [0, 1, 4, 5, 6, 7, 8, 9, 10, 11, 12, 13, 14] rfl rfl (by decide) (by decide) hk1 hFc hP1 hD1
    have hP : va_P (dC, dI) vwCl [(a0, .inr (9, [.ref a0_kinds, .ref a0_first, .ref a0_second, .ref a0_third, z0_heads, z0_rounds, z0_length, z0_open, z0_hares, z0_forms, z0_done, z0_refused])), (a0_kinds, .inl (cyI, 50, .inl f0_kinds)), (a2, .inr (1, [.ref a2_row, z2_owedEach, .ref a2_down, .ref a2_law])), (a2_row, .inl (cyI, 64, .inl f2_row)), (a0_first, .inl (cyI, 50, .inl f0_first)), (a0_second, .inl (cyI, 50, .inl f0_second)), (a2_down, .inr (2, [.ref a2_down_formX, .ref a2_down_formY, z2_down_foxX, z2_down_foxY, z2_down_seat, z2_down_strength, z2_down_debts, z2_down_near, z2_down_forms, .int v2_down_hares, z2_down_foxes, z2_down_safe])), (a2_down_formX, .inl (cyI, 8, .inl f2_down_formX)), (a2_down_formY, .inl (cyI, 8, .inl f2_down_formY)), (a2_law, .inr (4, [.ref a2_law_kinds, .ref a2_law_values, .ref a2_law_pile, .ref a2_law_facts, .int v2_law_length])), (a2_law_facts, .inl (cyI, 8, .inl f2_law_facts)), (a2_law_pile, .inl (cyI, 150, .inl f2_law_pile)), (a2_law_kinds, .inl (cyI, 150, .inl f2_law_kinds)), (a2_law_values, .inl (cyI, 150, .inl f2_law_values)), (a0_third, .inl (cyI, 50, .inl f0_third))] H1 := hP.sub [0, 1, 13, 14, 2, 3, 4, 5, 6, 7, 8, 9, 10, 11, 12] rfl
    have hD : va_D A [(a0, .inr (9, [.ref a0_kinds, .ref a0_first, .ref a0_second, .ref a0_third, z0_heads, z0_rounds, z0_length, z0_open, z0_hares, z0_forms, z0_done, z0_refused])), (a0_kinds, .inl (cyI, 50, .inl f0_kinds)), (a2, .inr (1, [.ref a2_row, z2_owedEach, .ref a2_down, .ref a2_law])), (a2_row, .inl (cyI, 64, .inl f2_row)), (a0_first, .inl (cyI, 50, .inl f0_first)), (a0_second, .inl (cyI, 50, .inl f0_second)), (a2_down, .inr (2, [.ref a2_down_formX, .ref a2_down_formY, z2_down_foxX, z2_down_foxY, z2_down_seat, z2_down_strength, z2_down_debts, z2_down_near, z2_down_forms, .int v2_down_hares, z2_down_foxes, z2_down_safe])), (a2_down_formX, .inl (cyI, 8, .inl f2_down_formX)), (a2_down_formY, .inl (cyI, 8, .inl f2_down_formY)), (a2_law, .inr (4, [.ref a2_law_kinds, .ref a2_law_values, .ref a2_law_pile, .ref a2_law_facts, .int v2_law_length])), (a2_law_facts, .inl (cyI, 8, .inl f2_law_facts)), (a2_law_pile, .inl (cyI, 150, .inl f2_law_pile)), (a2_law_kinds, .inl (cyI, 150, .inl f2_law_kinds)), (a2_law_values, .inl (cyI, 150, .inl f2_law_values)), (a0_third, .inl (cyI, 50, .inl f0_third))] := hD.sub [0, 1, 13, 14, 2, 3, 4, 5, 6, 7, 8, 9, 10, 11, 12] (by decide) rfl
    generalize H1 = H at hP hS ⊢
    refine lv_bipush (v := 40) hx hb dX9_isAllowed_93 (by decide) ?_
    refine lv_icmp_ge (tgt := 102) hx hb dX9_isAllowed_95 (by decide) (fun c4 => ?_) (fun c4 => ?_)
    · have hw := hw.1 c4
      refine lv_iconst (v := 0) hx hb dX9_isAllowed_102 (by decide) ?_
      exact ((W.zret (v := 0) hx hb hr rfl (fun t ht hW => ⟨⟨0, (f2_law_facts, f2_law_pile), rfl, hw, by rw [ht]; exact hP, va_K.moved hW.alike hK, hD⟩, hS.F ht⟩) hS.2.2 dX9_isAllowed_103))
    · have hw := hw.2 c4
      refine lv_iconst (v := 1) hx hb dX9_isAllowed_98 (by decide) ?_
      refine lv_goto (tgt := 103) hx hb dX9_isAllowed_99 (by decide) ?_
      exact ((W.zret (v := 1) hx hb hr rfl (fun t ht hW => ⟨⟨1, (f2_law_facts, f2_law_pile), rfl, hw, by rw [ht]; exact hP, va_K.moved hW.alike hK, hD⟩, hS.F ht⟩) hS.2.2 dX9_isAllowed_103))
  · have hw := hw.2
    rcases tsw_0_2 c2 with c2 | c2 | c2
    · have hw := hw.1 c2
      refine lv_tableIn (tgt := 32) (off := 26) hx hb dX9_isAllowed_6 (by rw [c2]; decide) (by rw [c2]; decide) (by rw [c2]; decide) (by decide) ?_
      refine lv_aload_n hx hb dX9_isAllowed_32 rfl (lv_at hl 2 rfl) ?_
      refine lv_aload_n hx hb dX9_isAllowed_33 rfl (lv_at hl 0 rfl) ?_
      refine va_get (D := (dC, dI)) (ci := 9) (v := .ref a0_first) (C := RX9) (T := TX9) (N := 12) hx hb hts ui_X9_isAllowed_X9 hown hK hP 0 rfl rfl 1 (by decide) (hts _ uw_X9_isAllowed_f15) (fun _ h9 => h9) rfl dX9_isAllowed_34 ?_
      refine lv_iload_n hx hb dX9_isAllowed_37 rfl (lv_at hl 1 rfl) ?_
      obtain ⟨hi9, hw⟩ := hw
      refine va_iald hx hb hK hP 4 1 rfl rfl hi9 dX9_isAllowed_38 ?_
      refine lv_topi (fun x5 ex5 => ?_)
      have hw := hw x5 ex5
      refine lv_aload_n hx hb dX9_isAllowed_39 rfl (lv_at hl 0 rfl) ?_
      refine va_get (D := (dC, dI)) (ci := 9) (v := .ref a0_second) (C := RX9) (T := TX9) (N := 12) hx hb hts ui_X9_isAllowed_X9 hown hK hP 0 rfl rfl 2 (by decide) (hts _ uw_X9_isAllowed_f18) (fun _ h9 => h9) rfl dX9_isAllowed_40 ?_
      refine lv_iload_n hx hb dX9_isAllowed_43 rfl (lv_at hl 1 rfl) ?_
      obtain ⟨hi9, hw⟩ := hw
      refine va_iald hx hb hK hP 5 1 rfl rfl hi9 dX9_isAllowed_44 ?_
      refine lv_topi (fun x6 ex6 => ?_)
      have hw := hw x6 ex6
      have hPc := hP.sub (ws' := [(a2, .inr (1, [.ref a2_row, z2_owedEach, .ref a2_down, .ref a2_law])), (a2_row, .inl (cyI, 64, .inl f2_row)), (a2_down, .inr (2, [.ref a2_down_formX, .ref a2_down_formY, z2_down_foxX, z2_down_foxY, z2_down_seat, z2_down_strength, z2_down_debts, z2_down_near, z2_down_forms, .int v2_down_hares, z2_down_foxes, z2_down_safe])), (a2_down_formX, .inl (cyI, 8, .inl f2_down_formX)), (a2_down_formY, .inl (cyI, 8, .inl f2_down_formY)), (a2_law, .inr (4, [.ref a2_law_kinds, .ref a2_law_values, .ref a2_law_pile, .ref a2_law_facts, .int v2_law_length])), (a2_law_facts, .inl (cyI, 8, .inl f2_law_facts)), (a2_law_pile, .inl (cyI, 150, .inl f2_law_pile)), (a2_law_kinds, .inl (cyI, 150, .inl f2_law_kinds)), (a2_law_values, .inl (cyI, 150, .inl f2_law_values))]) [2, 3, 6, 7, 8, 9, 10, 11, 12, 13] rfl
      have hDc := hD.sub (ws' := [(a2, .inr (1, [.ref a2_row, z2_owedEach, .ref a2_down, .ref a2_law])), (a2_row, .inl (cyI, 64, .inl f2_row)), (a2_down, .inr (2, [.ref a2_down_formX, .ref a2_down_formY, z2_down_foxX, z2_down_foxY, z2_down_seat, z2_down_strength, z2_down_debts, z2_down_near, z2_down_forms, .int v2_down_hares, z2_down_foxes, z2_down_safe])), (a2_down_formX, .inl (cyI, 8, .inl f2_down_formX)), (a2_down_formY, .inl (cyI, 8, .inl f2_down_formY)), (a2_law, .inr (4, [.ref a2_law_kinds, .ref a2_law_values, .ref a2_law_pile, .ref a2_law_facts, .int v2_law_length])), (a2_law_facts, .inl (cyI, 8, .inl f2_law_facts)), (a2_law_pile, .inl (cyI, 150, .inl f2_law_pile)), (a2_law_kinds, .inl (cyI, 150, .inl f2_law_kinds)), (a2_law_values, .inl (cyI, 150, .inl f2_law_values))]) [2, 3, 6, 7, 8, 9, 10, 11, 12, 13] (by decide) rfl
      have hFc := va_free (wc := [(a2, .inr (1, [.ref a2_row, z2_owedEach, .ref a2_down, .ref a2_law])), (a2_row, .inl (cyI, 64, .inl f2_row)), (a2_down, .inr (2, [.ref a2_down_formX, .ref a2_down_formY, z2_down_foxX, z2_down_foxY, z2_down_seat, z2_down_strength, z2_down_debts, z2_down_near, z2_down_forms, .int v2_down_hares, z2_down_foxes, z2_down_safe])), (a2_down_formX, .inl (cyI, 8, .inl f2_down_formX)), (a2_down_formY, .inl (cyI, 8, .inl f2_down_formY)), (a2_law, .inr (4, [.ref a2_law_kinds, .ref a2_law_values, .ref a2_law_pile, .ref a2_law_facts, .int v2_law_length])), (a2_law_facts, .inl (cyI, 8, .inl f2_law_facts)), (a2_law_pile, .inl (cyI, 150, .inl f2_law_pile)), (a2_law_kinds, .inl (cyI, 150, .inl f2_law_kinds)), (a2_law_values, .inl (cyI, 150, .inl f2_law_values))]) hD hS hA [2, 3, 6, 7, 8, 9, 10, 11, 12, 13] rfl
      refine va_calli (va_runV (As := [.int x5, .int x6]) (rest := []) ⟨hx, hb, hml, hown, hts⟩ (ck_X1_couldLeap l dC dI cyB cyI cyJ cyP a2 a2_row a2_down a2_down_formX a2_down_formY a2_law a2_law_facts a2_law_pile a2_law_kinds a2_law_values H.size (z2_owedEach) (z2_down_foxX) (z2_down_foxY) (z2_down_seat) (z2_down_strength) (z2_down_debts) (z2_down_near) (z2_down_forms) (z2_down_foxes) (z2_down_safe) f2_row v2_down_hares f2_down_formX f2_down_formY v2_law_length f2_law_kinds f2_law_values f2_law_facts f2_law_pile x5 x6 hw) (cwV 2 hts gX9_isAllowed_X1_couldLeap rfl rfl rfl (by decide +kernel) ⟨Nat.le_of_ble_eq_true rfl, Nat.le_of_ble_eq_true rfl⟩) ⟨cPc_blind, va_recv hK hPc (ci := 1) (q0 := 0) rfl rfl, cPc_pre hPc hK hDc hNw⟩ rfl rfl hl.1 rfl (lv_room (Nat.le_of_ble_eq_true rfl)) dX9_isAllowed_45 ⟨Nat.le_of_ble_eq_true rfl, Nat.le_of_ble_eq_true rfl⟩) hS (fun q _ h => hFc q h) hFc (fun r9 u t H1 locs ht hvm hw hB hz1 hk1 hS => ?_)
      obtain ⟨f7, f8⟩ := u
      obtain ⟨hP1, hK1, hD1⟩ := hB
      rw [ht] at hP1
      obtain ⟨hP, hD⟩ := va_join (wr := [(a0, .inr (9, [.ref a0_kinds, .ref a0_first, .ref a0_second, .ref a0_third, z0_heads, z0_rounds, z0_length, z0_open, z0_hares, z0_forms, z0_done, z0_refused])), (a0_kinds, .inl (cyI, 50, .inl f0_kinds)), (a0_first, .inl (cyI, 50, .inl f0_first)), (a0_second, .inl (cyI, 50, .inl f0_second)), (a0_third, .inl (cyI, 50, .inl f0_third))]) (w1 := [(a2, .inr (1, [.ref a2_row, z2_owedEach, .ref a2_down, .ref a2_law])), (a2_row, .inl (cyI, 64, .inl f2_row)), (a2_down, .inr (2, [.ref a2_down_formX, .ref a2_down_formY, z2_down_foxX, z2_down_foxY, z2_down_seat, z2_down_strength, z2_down_debts, z2_down_near, z2_down_forms, .int v2_down_hares, z2_down_foxes, z2_down_safe])), (a2_down_formX, .inl (cyI, 8, .inl f2_down_formX)), (a2_down_formY, .inl (cyI, 8, .inl f2_down_formY)), (a2_law, .inr (4, [.ref a2_law_kinds, .ref a2_law_values, .ref a2_law_pile, .ref a2_law_facts, .int v2_law_length])), (a2_law_facts, .inl (cyI, 8, .inl f7)), (a2_law_pile, .inl (cyI, 150, .inl f8)), (a2_law_kinds, .inl (cyI, 150, .inl f2_law_kinds)), (a2_law_values, .inl (cyI, 150, .inl f2_law_values))]) hP hD [2, 3, 6, 7, 8, 9, 10, 11, 12, 13] [0, 1, 4, 5, 14] rfl rfl (by decide) (by decide) hk1 hFc hP1 hD1
      have hP : va_P (dC, dI) vwCl [(a0, .inr (9, [.ref a0_kinds, .ref a0_first, .ref a0_second, .ref a0_third, z0_heads, z0_rounds, z0_length, z0_open, z0_hares, z0_forms, z0_done, z0_refused])), (a0_kinds, .inl (cyI, 50, .inl f0_kinds)), (a2, .inr (1, [.ref a2_row, z2_owedEach, .ref a2_down, .ref a2_law])), (a2_row, .inl (cyI, 64, .inl f2_row)), (a0_first, .inl (cyI, 50, .inl f0_first)), (a0_second, .inl (cyI, 50, .inl f0_second)), (a2_down, .inr (2, [.ref a2_down_formX, .ref a2_down_formY, z2_down_foxX, z2_down_foxY, z2_down_seat, z2_down_strength, z2_down_debts, z2_down_near, z2_down_forms, .int v2_down_hares, z2_down_foxes, z2_down_safe])), (a2_down_formX, .inl (cyI, 8, .inl f2_down_formX)), (a2_down_formY, .inl (cyI, 8, .inl f2_down_formY)), (a2_law, .inr (4, [.ref a2_law_kinds, .ref a2_law_values, .ref a2_law_pile, .ref a2_law_facts, .int v2_law_length])), (a2_law_facts, .inl (cyI, 8, .inl f7)), (a2_law_pile, .inl (cyI, 150, .inl f8)), (a2_law_kinds, .inl (cyI, 150, .inl f2_law_kinds)), (a2_law_values, .inl (cyI, 150, .inl f2_law_values)), (a0_third, .inl (cyI, 50, .inl f0_third))] H1 := hP.sub [0, 1, 5, 6, 2, 3, 7, 8, 9, 10, 11, 12, 13, 14, 4] rfl
      have hD : va_D A [(a0, .inr (9, [.ref a0_kinds, .ref a0_first, .ref a0_second, .ref a0_third, z0_heads, z0_rounds, z0_length, z0_open, z0_hares, z0_forms, z0_done, z0_refused])), (a0_kinds, .inl (cyI, 50, .inl f0_kinds)), (a2, .inr (1, [.ref a2_row, z2_owedEach, .ref a2_down, .ref a2_law])), (a2_row, .inl (cyI, 64, .inl f2_row)), (a0_first, .inl (cyI, 50, .inl f0_first)), (a0_second, .inl (cyI, 50, .inl f0_second)), (a2_down, .inr (2, [.ref a2_down_formX, .ref a2_down_formY, z2_down_foxX, z2_down_foxY, z2_down_seat, z2_down_strength, z2_down_debts, z2_down_near, z2_down_forms, .int v2_down_hares, z2_down_foxes, z2_down_safe])), (a2_down_formX, .inl (cyI, 8, .inl f2_down_formX)), (a2_down_formY, .inl (cyI, 8, .inl f2_down_formY)), (a2_law, .inr (4, [.ref a2_law_kinds, .ref a2_law_values, .ref a2_law_pile, .ref a2_law_facts, .int v2_law_length])), (a2_law_facts, .inl (cyI, 8, .inl f7)), (a2_law_pile, .inl (cyI, 150, .inl f8)), (a2_law_kinds, .inl (cyI, 150, .inl f2_law_kinds)), (a2_law_values, .inl (cyI, 150, .inl f2_law_values)), (a0_third, .inl (cyI, 50, .inl f0_third))] := hD.sub [0, 1, 5, 6, 2, 3, 7, 8, 9, 10, 11, 12, 13, 14, 4] (by decide) rfl
      generalize H1 = H at hP hS ⊢
      obtain ⟨hn9, hw⟩ := hw
      exact ((W.zret (v := r9) hx hb hr hn9 (fun t ht hW => ⟨⟨r9, (f7, f8), rfl, hw, by rw [ht]; exact hP, va_K.moved hW.alike hK, hD⟩, hS.F ht⟩) hS.2.2 dX9_isAllowed_48))
    · have hw := hw.2.1 c2
      refine lv_tableIn (tgt := 49) (off := 43) hx hb dX9_isAllowed_6 (by rw [c2]; decide) (by rw [c2]; decide) (by rw [c2]; decide) (by decide) ?_
      refine lv_aload_n hx hb dX9_isAllowed_49 rfl (lv_at hl 2 rfl) ?_
      refine lv_aload_n hx hb dX9_isAllowed_50 rfl (lv_at hl 0 rfl) ?_
      refine va_get (D := (dC, dI)) (ci := 9) (v := .ref a0_first) (C := RX9) (T := TX9) (N := 12) hx hb hts ui_X9_isAllowed_X9 hown hK hP 0 rfl rfl 1 (by decide) (hts _ uw_X9_isAllowed_f15) (fun _ h9 => h9) rfl dX9_isAllowed_51 ?_
      refine lv_iload_n hx hb dX9_isAllowed_54 rfl (lv_at hl 1 rfl) ?_
      obtain ⟨hi9, hw⟩ := hw
      refine va_iald hx hb hK hP 4 1 rfl rfl hi9 dX9_isAllowed_55 ?_
      refine lv_topi (fun x10 ex10 => ?_)
      have hw := hw x10 ex10
      refine lv_aload_n hx hb dX9_isAllowed_56 rfl (lv_at hl 0 rfl) ?_
      refine va_get (D := (dC, dI)) (ci := 9) (v := .ref a0_second) (C := RX9) (T := TX9) (N := 12) hx hb hts ui_X9_isAllowed_X9 hown hK hP 0 rfl rfl 2 (by decide) (hts _ uw_X9_isAllowed_f18) (fun _ h9 => h9) rfl dX9_isAllowed_57 ?_
      refine lv_iload_n hx hb dX9_isAllowed_60 rfl (lv_at hl 1 rfl) ?_
      obtain ⟨hi9, hw⟩ := hw
      refine va_iald hx hb hK hP 5 1 rfl rfl hi9 dX9_isAllowed_61 ?_
      refine lv_topi (fun x11 ex11 => ?_)
      have hw := hw x11 ex11
      have hPc := hP.sub (ws' := [(a2, .inr (1, [.ref a2_row, z2_owedEach, .ref a2_down, .ref a2_law])), (a2_row, .inl (cyI, 64, .inl f2_row))]) [2, 3] rfl
      have hDc := hD.sub (ws' := [(a2, .inr (1, [.ref a2_row, z2_owedEach, .ref a2_down, .ref a2_law])), (a2_row, .inl (cyI, 64, .inl f2_row))]) [2, 3] (by decide) rfl
      have hFc := va_free (wc := [(a2, .inr (1, [.ref a2_row, z2_owedEach, .ref a2_down, .ref a2_law])), (a2_row, .inl (cyI, 64, .inl f2_row))]) hD hS hA [2, 3] rfl
      refine va_calli (va_runV (As := [.int x10, .int x11]) (rest := []) ⟨hx, hb, hml, hown, hts⟩ (ck_X1_couldFight l dC dI cyB cyI cyJ cyP a2 a2_row H.size (z2_owedEach) (.ref a2_down) (.ref a2_law) f2_row  x10 x11 hw) (cwV 2 hts gX9_isAllowed_X1_couldFight rfl rfl rfl (by decide +kernel) ⟨Nat.le_of_ble_eq_true rfl, Nat.le_of_ble_eq_true rfl⟩) ⟨cPc_blind, va_recv hK hPc (ci := 1) (q0 := 0) rfl rfl, cPc_pre hPc hK hDc hNw⟩ rfl rfl hl.1 rfl (lv_room (Nat.le_of_ble_eq_true rfl)) dX9_isAllowed_62 ⟨Nat.le_of_ble_eq_true rfl, Nat.le_of_ble_eq_true rfl⟩) hS (fun q _ h => hFc q h) hFc (fun r12 u t H1 locs ht hvm hw hB hz1 hk1 hS => ?_)
      obtain ⟨hP1, hK1, hD1⟩ := hB
      rw [ht] at hP1
      obtain ⟨hP, hD⟩ := va_join (wr := [(a0, .inr (9, [.ref a0_kinds, .ref a0_first, .ref a0_second, .ref a0_third, z0_heads, z0_rounds, z0_length, z0_open, z0_hares, z0_forms, z0_done, z0_refused])), (a0_kinds, .inl (cyI, 50, .inl f0_kinds)), (a0_first, .inl (cyI, 50, .inl f0_first)), (a0_second, .inl (cyI, 50, .inl f0_second)), (a2_down, .inr (2, [.ref a2_down_formX, .ref a2_down_formY, z2_down_foxX, z2_down_foxY, z2_down_seat, z2_down_strength, z2_down_debts, z2_down_near, z2_down_forms, .int v2_down_hares, z2_down_foxes, z2_down_safe])), (a2_down_formX, .inl (cyI, 8, .inl f2_down_formX)), (a2_down_formY, .inl (cyI, 8, .inl f2_down_formY)), (a2_law, .inr (4, [.ref a2_law_kinds, .ref a2_law_values, .ref a2_law_pile, .ref a2_law_facts, .int v2_law_length])), (a2_law_facts, .inl (cyI, 8, .inl f2_law_facts)), (a2_law_pile, .inl (cyI, 150, .inl f2_law_pile)), (a2_law_kinds, .inl (cyI, 150, .inl f2_law_kinds)), (a2_law_values, .inl (cyI, 150, .inl f2_law_values)), (a0_third, .inl (cyI, 50, .inl f0_third))]) (w1 := [(a2, .inr (1, [.ref a2_row, z2_owedEach, .ref a2_down, .ref a2_law])), (a2_row, .inl (cyI, 64, .inl f2_row))]) hP hD [2, 3] [0, 1, 4, 5, 6, 7, 8, 9, 10, 11, 12, 13, 14] rfl rfl (by decide) (by decide) hk1 hFc hP1 hD1
      have hP : va_P (dC, dI) vwCl [(a0, .inr (9, [.ref a0_kinds, .ref a0_first, .ref a0_second, .ref a0_third, z0_heads, z0_rounds, z0_length, z0_open, z0_hares, z0_forms, z0_done, z0_refused])), (a0_kinds, .inl (cyI, 50, .inl f0_kinds)), (a2, .inr (1, [.ref a2_row, z2_owedEach, .ref a2_down, .ref a2_law])), (a2_row, .inl (cyI, 64, .inl f2_row)), (a0_first, .inl (cyI, 50, .inl f0_first)), (a0_second, .inl (cyI, 50, .inl f0_second)), (a2_down, .inr (2, [.ref a2_down_formX, .ref a2_down_formY, z2_down_foxX, z2_down_foxY, z2_down_seat, z2_down_strength, z2_down_debts, z2_down_near, z2_down_forms, .int v2_down_hares, z2_down_foxes, z2_down_safe])), (a2_down_formX, .inl (cyI, 8, .inl f2_down_formX)), (a2_down_formY, .inl (cyI, 8, .inl f2_down_formY)), (a2_law, .inr (4, [.ref a2_law_kinds, .ref a2_law_values, .ref a2_law_pile, .ref a2_law_facts, .int v2_law_length])), (a2_law_facts, .inl (cyI, 8, .inl f2_law_facts)), (a2_law_pile, .inl (cyI, 150, .inl f2_law_pile)), (a2_law_kinds, .inl (cyI, 150, .inl f2_law_kinds)), (a2_law_values, .inl (cyI, 150, .inl f2_law_values)), (a0_third, .inl (cyI, 50, .inl f0_third))] H1 := hP.sub [0, 1, 13, 14, 2, 3, 4, 5, 6, 7, 8, 9, 10, 11, 12] rfl
      have hD : va_D A [(a0, .inr (9, [.ref a0_kinds, .ref a0_first, .ref a0_second, .ref a0_third, z0_heads, z0_rounds, z0_length, z0_open, z0_hares, z0_forms, z0_done, z0_refused])), (a0_kinds, .inl (cyI, 50, .inl f0_kinds)), (a2, .inr (1, [.ref a2_row, z2_owedEach, .ref a2_down, .ref a2_law])), (a2_row, .inl (cyI, 64, .inl f2_row)), (a0_first, .inl (cyI, 50, .inl f0_first)), (a0_second, .inl (cyI, 50, .inl f0_second)), (a2_down, .inr (2, [.ref a2_down_formX, .ref a2_down_formY, z2_down_foxX, z2_down_foxY, z2_down_seat, z2_down_strength, z2_down_debts, z2_down_near, z2_down_forms, .int v2_down_hares, z2_down_foxes, z2_down_safe])), (a2_down_formX, .inl (cyI, 8, .inl f2_down_formX)), (a2_down_formY, .inl (cyI, 8, .inl f2_down_formY)), (a2_law, .inr (4, [.ref a2_law_kinds, .ref a2_law_values, .ref a2_law_pile, .ref a2_law_facts, .int v2_law_length])), (a2_law_facts, .inl (cyI, 8, .inl f2_law_facts)), (a2_law_pile, .inl (cyI, 150, .inl f2_law_pile)), (a2_law_kinds, .inl (cyI, 150, .inl f2_law_kinds)), (a2_law_values, .inl (cyI, 150, .inl f2_law_values)), (a0_third, .inl (cyI, 50, .inl f0_third))] := hD.sub [0, 1, 13, 14, 2, 3, 4, 5, 6, 7, 8, 9, 10, 11, 12] (by decide) rfl
      generalize H1 = H at hP hS ⊢
      obtain ⟨hn9, hw⟩ := hw
      exact ((W.zret (v := r12) hx hb hr hn9 (fun t ht hW => ⟨⟨r12, (f2_law_facts, f2_law_pile), rfl, hw, by rw [ht]; exact hP, va_K.moved hW.alike hK, hD⟩, hS.F ht⟩) hS.2.2 dX9_isAllowed_65))
    · have hw := hw.2.2 c2
      refine lv_tableIn (tgt := 66) (off := 60) hx hb dX9_isAllowed_6 (by rw [c2]; decide) (by rw [c2]; decide) (by rw [c2]; decide) (by decide) ?_
      refine lv_aload_n hx hb dX9_isAllowed_66 rfl (lv_at hl 2 rfl) ?_
      refine lv_aload_n hx hb dX9_isAllowed_67 rfl (lv_at hl 0 rfl) ?_
      refine va_get (D := (dC, dI)) (ci := 9) (v := .ref a0_first) (C := RX9) (T := TX9) (N := 12) hx hb hts ui_X9_isAllowed_X9 hown hK hP 0 rfl rfl 1 (by decide) (hts _ uw_X9_isAllowed_f15) (fun _ h9 => h9) rfl dX9_isAllowed_68 ?_
      refine lv_iload_n hx hb dX9_isAllowed_71 rfl (lv_at hl 1 rfl) ?_
      obtain ⟨hi9, hw⟩ := hw
      refine va_iald hx hb hK hP 4 1 rfl rfl hi9 dX9_isAllowed_72 ?_
      refine lv_topi (fun x13 ex13 => ?_)
      have hw := hw x13 ex13
      refine lv_aload_n hx hb dX9_isAllowed_73 rfl (lv_at hl 0 rfl) ?_
      refine va_get (D := (dC, dI)) (ci := 9) (v := .ref a0_second) (C := RX9) (T := TX9) (N := 12) hx hb hts ui_X9_isAllowed_X9 hown hK hP 0 rfl rfl 2 (by decide) (hts _ uw_X9_isAllowed_f18) (fun _ h9 => h9) rfl dX9_isAllowed_74 ?_
      refine lv_iload_n hx hb dX9_isAllowed_77 rfl (lv_at hl 1 rfl) ?_
      obtain ⟨hi9, hw⟩ := hw
      refine va_iald hx hb hK hP 5 1 rfl rfl hi9 dX9_isAllowed_78 ?_
      refine lv_topi (fun x14 ex14 => ?_)
      have hw := hw x14 ex14
      refine lv_aload_n hx hb dX9_isAllowed_79 rfl (lv_at hl 0 rfl) ?_
      refine va_get (D := (dC, dI)) (ci := 9) (v := .ref a0_third) (C := RX9) (T := TX9) (N := 12) hx hb hts ui_X9_isAllowed_X9 hown hK hP 0 rfl rfl 3 (by decide) (hts _ uw_X9_isAllowed_f21) (fun _ h9 => h9) rfl dX9_isAllowed_80 ?_
      refine lv_iload_n hx hb dX9_isAllowed_83 rfl (lv_at hl 1 rfl) ?_
      obtain ⟨hi9, hw⟩ := hw
      refine va_iald hx hb hK hP 14 1 rfl rfl hi9 dX9_isAllowed_84 ?_
      refine lv_topi (fun x15 ex15 => ?_)
      have hw := hw x15 ex15
      have hPc := hP.sub (ws' := [(a2, .inr (1, [.ref a2_row, z2_owedEach, .ref a2_down, .ref a2_law])), (a2_row, .inl (cyI, 64, .inl f2_row))]) [2, 3] rfl
      have hDc := hD.sub (ws' := [(a2, .inr (1, [.ref a2_row, z2_owedEach, .ref a2_down, .ref a2_law])), (a2_row, .inl (cyI, 64, .inl f2_row))]) [2, 3] (by decide) rfl
      have hFc := va_free (wc := [(a2, .inr (1, [.ref a2_row, z2_owedEach, .ref a2_down, .ref a2_law])), (a2_row, .inl (cyI, 64, .inl f2_row))]) hD hS hA [2, 3] rfl
      refine va_calli (va_runV (As := [.int x13, .int x14, .int x15]) (rest := []) ⟨hx, hb, hml, hown, hts⟩ (ck_X1_couldPay l dC dI cyB cyI cyJ cyP a2 a2_row H.size (z2_owedEach) (.ref a2_down) (.ref a2_law) f2_row  x13 x14 x15 hw) (cwV 3 hts gX9_isAllowed_X1_couldPay rfl rfl rfl (by decide +kernel) ⟨Nat.le_of_ble_eq_true rfl, Nat.le_of_ble_eq_true rfl⟩) ⟨cPc_blind, va_recv hK hPc (ci := 1) (q0 := 0) rfl rfl, cPc_pre hPc hK hDc hNw⟩ rfl rfl hl.1 rfl (lv_room (Nat.le_of_ble_eq_true rfl)) dX9_isAllowed_85 ⟨Nat.le_of_ble_eq_true rfl, Nat.le_of_ble_eq_true rfl⟩) hS (fun q _ h => hFc q h) hFc (fun r16 u t H1 locs ht hvm hw hB hz1 hk1 hS => ?_)
      obtain ⟨hP1, hK1, hD1⟩ := hB
      rw [ht] at hP1
      obtain ⟨hP, hD⟩ := va_join (wr := [(a0, .inr (9, [.ref a0_kinds, .ref a0_first, .ref a0_second, .ref a0_third, z0_heads, z0_rounds, z0_length, z0_open, z0_hares, z0_forms, z0_done, z0_refused])), (a0_kinds, .inl (cyI, 50, .inl f0_kinds)), (a0_first, .inl (cyI, 50, .inl f0_first)), (a0_second, .inl (cyI, 50, .inl f0_second)), (a2_down, .inr (2, [.ref a2_down_formX, .ref a2_down_formY, z2_down_foxX, z2_down_foxY, z2_down_seat, z2_down_strength, z2_down_debts, z2_down_near, z2_down_forms, .int v2_down_hares, z2_down_foxes, z2_down_safe])), (a2_down_formX, .inl (cyI, 8, .inl f2_down_formX)), (a2_down_formY, .inl (cyI, 8, .inl f2_down_formY)), (a2_law, .inr (4, [.ref a2_law_kinds, .ref a2_law_values, .ref a2_law_pile, .ref a2_law_facts, .int v2_law_length])), (a2_law_facts, .inl (cyI, 8, .inl f2_law_facts)), (a2_law_pile, .inl (cyI, 150, .inl f2_law_pile)), (a2_law_kinds, .inl (cyI, 150, .inl f2_law_kinds)), (a2_law_values, .inl (cyI, 150, .inl f2_law_values)), (a0_third, .inl (cyI, 50, .inl f0_third))]) (w1 := [(a2, .inr (1, [.ref a2_row, z2_owedEach, .ref a2_down, .ref a2_law])), (a2_row, .inl (cyI, 64, .inl f2_row))]) hP hD [2, 3] [0, 1, 4, 5, 6, 7, 8, 9, 10, 11, 12, 13, 14] rfl rfl (by decide) (by decide) hk1 hFc hP1 hD1
      have hP : va_P (dC, dI) vwCl [(a0, .inr (9, [.ref a0_kinds, .ref a0_first, .ref a0_second, .ref a0_third, z0_heads, z0_rounds, z0_length, z0_open, z0_hares, z0_forms, z0_done, z0_refused])), (a0_kinds, .inl (cyI, 50, .inl f0_kinds)), (a2, .inr (1, [.ref a2_row, z2_owedEach, .ref a2_down, .ref a2_law])), (a2_row, .inl (cyI, 64, .inl f2_row)), (a0_first, .inl (cyI, 50, .inl f0_first)), (a0_second, .inl (cyI, 50, .inl f0_second)), (a2_down, .inr (2, [.ref a2_down_formX, .ref a2_down_formY, z2_down_foxX, z2_down_foxY, z2_down_seat, z2_down_strength, z2_down_debts, z2_down_near, z2_down_forms, .int v2_down_hares, z2_down_foxes, z2_down_safe])), (a2_down_formX, .inl (cyI, 8, .inl f2_down_formX)), (a2_down_formY, .inl (cyI, 8, .inl f2_down_formY)), (a2_law, .inr (4, [.ref a2_law_kinds, .ref a2_law_values, .ref a2_law_pile, .ref a2_law_facts, .int v2_law_length])), (a2_law_facts, .inl (cyI, 8, .inl f2_law_facts)), (a2_law_pile, .inl (cyI, 150, .inl f2_law_pile)), (a2_law_kinds, .inl (cyI, 150, .inl f2_law_kinds)), (a2_law_values, .inl (cyI, 150, .inl f2_law_values)), (a0_third, .inl (cyI, 50, .inl f0_third))] H1 := hP.sub [0, 1, 13, 14, 2, 3, 4, 5, 6, 7, 8, 9, 10, 11, 12] rfl
      have hD : va_D A [(a0, .inr (9, [.ref a0_kinds, .ref a0_first, .ref a0_second, .ref a0_third, z0_heads, z0_rounds, z0_length, z0_open, z0_hares, z0_forms, z0_done, z0_refused])), (a0_kinds, .inl (cyI, 50, .inl f0_kinds)), (a2, .inr (1, [.ref a2_row, z2_owedEach, .ref a2_down, .ref a2_law])), (a2_row, .inl (cyI, 64, .inl f2_row)), (a0_first, .inl (cyI, 50, .inl f0_first)), (a0_second, .inl (cyI, 50, .inl f0_second)), (a2_down, .inr (2, [.ref a2_down_formX, .ref a2_down_formY, z2_down_foxX, z2_down_foxY, z2_down_seat, z2_down_strength, z2_down_debts, z2_down_near, z2_down_forms, .int v2_down_hares, z2_down_foxes, z2_down_safe])), (a2_down_formX, .inl (cyI, 8, .inl f2_down_formX)), (a2_down_formY, .inl (cyI, 8, .inl f2_down_formY)), (a2_law, .inr (4, [.ref a2_law_kinds, .ref a2_law_values, .ref a2_law_pile, .ref a2_law_facts, .int v2_law_length])), (a2_law_facts, .inl (cyI, 8, .inl f2_law_facts)), (a2_law_pile, .inl (cyI, 150, .inl f2_law_pile)), (a2_law_kinds, .inl (cyI, 150, .inl f2_law_kinds)), (a2_law_values, .inl (cyI, 150, .inl f2_law_values)), (a0_third, .inl (cyI, 50, .inl f0_third))] := hD.sub [0, 1, 13, 14, 2, 3, 4, 5, 6, 7, 8, 9, 10, 11, 12] (by decide) rfl
      generalize H1 = H at hP hS ⊢
      obtain ⟨hn9, hw⟩ := hw
      exact ((W.zret (v := r16) hx hb hr hn9 (fun t ht hW => ⟨⟨r16, (f2_law_facts, f2_law_pile), rfl, hw, by rw [ht]; exact hP, va_K.moved hW.alike hK, hD⟩, hS.F ht⟩) hS.2.2 dX9_isAllowed_88))
theorem ui_X1_stir_X1 : ∀ w ∈ u_ws RX1 TX1 4, w ∈ wsX1_stir := by decide +kernel
theorem uw_X1_stir_f13 : (.fieldLink RX1 13 "MarchHares$Days" "row" "[I" : Cond) ∈ wsX1_stir := by decide +kernel
def wq_X1_stir  (f0_row : Nat → Int32) (p1 : Int32) (Q : (Nat → Int32) → Prop) : Prop := ∀ x1 : Int32, x1 = 16 + p1 → vp_in x1 64 ∧ ∀ f2 : Nat → Int32, f2 = upd f0_row x1.toNatClampNeg 0 → ∀ x3 : Int32, x3 = f2 (3 : Int32).toNatClampNeg → ∀ x4 : Int32, x4 = x3 ||| (1 <<< (p1 &&& 31)) → ∀ f5 : Nat → Int32, f5 = upd f2 (3 : Int32).toNatClampNeg x4 → (Q f5)
set_option maxHeartbeats 4000000 in
set_option maxRecDepth 100000 in
theorem ck_X1_stir (l : Launch) (dC : Nat → ClassId) (dI : Nat → Nat → Nat) (cyB cyI cyJ cyP : ClassId) (a0 a0_row : Nat) (sz : Nat) (z0_owedEach : Value) (z0_down : Value) (z0_law : Value)  (f0_row : Nat → Int32) (p1 : Int32) {Q : (Nat → Int32) → Prop} (hw : wq_X1_stir  f0_row p1 Q) : Met l yX1_stir wsX1_stir ({ frames := 0, cells := 0, slots := 0, locals := 0 }) (va_Pc [.ref a0, .int p1] (cPc (dC, dI) (kT cyB cyI cyJ cyP) [(a0, .inr (1, [.ref a0_row, z0_owedEach, z0_down, z0_law])), (a0_row, .inl (cyI, 64, .inl f0_row))] sz)) (va_Qv (fun (u : (Nat → Int32)) => Q u) (cB (dC, dI) (kT cyB cyI cyJ cyP) (va_A [(a0, .inr (1, [.ref a0_row, z0_owedEach, z0_down, z0_law])), (a0_row, .inl (cyI, 64, .inl f0_row))] sz) (fun u : (Nat → Int32) => ([(a0, .inr (1, [.ref a0_row, z0_owedEach, z0_down, z0_law])), (a0_row, .inl (cyI, 64, .inl u))] : va_W))) (va_A [(a0, .inr (1, [.ref a0_row, z0_owedEach, z0_down, z0_law])), (a0_row, .inl (cyI, 64, .inl f0_row))] sz)) 0 0 (va_A [(a0, .inr (1, [.ref a0_row, z0_owedEach, z0_down, z0_law])), (a0_row, .inl (cyI, 64, .inl f0_row))] sz) := by
  refine Met.ofW (cc := cX1_stir) (maxL := 2) (ret := none) (by decide) rfl ?_
  intro p e s m args below meth c s₁ B hml hv
  obtain ⟨rfl, hsz, hP, hK, hD0, hNw⟩ := hv
  have hx := B.exec
  have hb := B.bytes
  have hr := B.returns
  have hts := atoms_spec (ws := wsX1_stir) B.pre
  have hown : s.vm.findClass RX1 = some m.cls := findClass_of_methodNamed B.named
  have hlocks := B.notSynchronized
  subst hsz
  have hD := hD0.self (sz := s.heap.size)
  generalize hAe : va_A [(a0, .inr (1, [.ref a0_row, z0_owedEach, z0_down, z0_law])), (a0_row, .inl (cyI, 64, .inl f0_row))] s.heap.size = A at hD ⊢
  have hA : ∀ q : Nat, s.heap.size ≤ q → A q := fun q h => by rw [← hAe]; exact Or.inr h
  have hS : va_S A s.heap s.heap [] := va_S.rf
  have hP : va_P (dC, dI) vwCl [(a0, .inr (1, [.ref a0_row, z0_owedEach, z0_down, z0_law])), (a0_row, .inl (cyI, 64, .inl f0_row))] s.heap := hP
  have hl := lv_entry ([.ref a0, .int p1]) (n := 2) (Nat.le_of_ble_eq_true rfl)
  rw [lg_entry_eq]
  generalize (lg_sl ([.ref a0, .int p1]) ++ List.replicate (2 - (lg_sl ([.ref a0, .int p1])).length) Slot.unset).toArray = ls at hl ⊢
  have hl : lv_has ls 2 [(0, .ref a0), (1, .int p1)] := hl
  have C0 : cfx p s m _ meth c cX1_stir none wsX1_stir RX1 2 A (dC, dI) (kT cyB cyI cyJ cyP) := ⟨hx, hb, hr, hts, hown, hlocks, hml, hA, hK, hNw⟩
  clear hAe
  obtain ⟨H, hH⟩ : ∃ H, H = s.heap := ⟨_, rfl⟩
  rw [← hH] at hP ⊢
  have hS : va_S A s.heap H [] := by rw [hH]; exact va_S.rf
  have hS := hS
  refine lv_aload_n hx hb dX1_stir_0 rfl (lv_at hl 0 rfl) ?_
  refine va_get (D := (dC, dI)) (ci := 1) (v := .ref a0_row) (C := RX1) (T := TX1) (N := 4) hx hb hts ui_X1_stir_X1 hown hK hP 0 rfl rfl 0 (by decide) (hts _ uw_X1_stir_f13) (fun _ h9 => h9) rfl dX1_stir_1 ?_
  refine lv_bipush (v := 16) hx hb dX1_stir_4 (by decide) ?_
  refine lv_iload_n hx hb dX1_stir_6 rfl (lv_at hl 1 rfl) ?_
  refine lv_iadd hx hb dX1_stir_7 ?_
  refine lv_topi (fun x1 ex1 => ?_)
  have hw := hw x1 ex1
  refine lv_iconst (v := 0) hx hb dX1_stir_8 (by decide) ?_
  obtain ⟨hi9, hw⟩ := hw
  refine va_iast hx hb hK hP hD hS 1 1 rfl rfl hi9 dX1_stir_9 (fun H locs hP hD hS => ?_)
  obtain ⟨f2, ef2⟩ : ∃ y : Nat → Int32, y = upd f0_row x1.toNatClampNeg 0 := ⟨_, rfl⟩
  have hw := hw f2 ef2
  have hP : va_P (dC, dI) vwCl [(a0, .inr (1, [.ref a0_row, z0_owedEach, z0_down, z0_law])), (a0_row, .inl (cyI, 64, .inl f2))] H := by rw [ef2]; exact hP
  have hD : va_D A [(a0, .inr (1, [.ref a0_row, z0_owedEach, z0_down, z0_law])), (a0_row, .inl (cyI, 64, .inl f2))] := by rw [ef2]; exact hD
  refine lv_aload_n hx hb dX1_stir_10 rfl (lv_at hl 0 rfl) ?_
  refine va_get (D := (dC, dI)) (ci := 1) (v := .ref a0_row) (C := RX1) (T := TX1) (N := 4) hx hb hts ui_X1_stir_X1 hown hK hP 0 rfl rfl 0 (by decide) (hts _ uw_X1_stir_f13) (fun _ h9 => h9) rfl dX1_stir_11 ?_
  refine lv_iconst (v := 3) hx hb dX1_stir_14 (by decide) ?_
  refine lv_dup2_11 hx hb dX1_stir_15 rfl rfl ?_
  refine va_iald hx hb hK hP 1 1 rfl rfl (vin (by decide)) dX1_stir_16 ?_
  refine lv_topi (fun x3 ex3 => ?_)
  have hw := hw x3 ex3
  refine lv_iconst (v := 1) hx hb dX1_stir_17 (by decide) ?_
  refine lv_iload_n hx hb dX1_stir_18 rfl (lv_at hl 1 rfl) ?_
  refine lv_ishl hx hb dX1_stir_19 ?_
  refine lv_ior hx hb dX1_stir_20 ?_
  refine lv_topi (fun x4 ex4 => ?_)
  have hw := hw x4 ex4
  refine va_iast hx hb hK hP hD hS 1 1 rfl rfl (vin (by decide)) dX1_stir_21 (fun H locs hP hD hS => ?_)
  obtain ⟨f5, ef5⟩ : ∃ y : Nat → Int32, y = upd f2 (3 : Int32).toNatClampNeg x4 := ⟨_, rfl⟩
  have hw := hw f5 ef5
  have hP : va_P (dC, dI) vwCl [(a0, .inr (1, [.ref a0_row, z0_owedEach, z0_down, z0_law])), (a0_row, .inl (cyI, 64, .inl f5))] H := by rw [ef5]; exact hP
  have hD : va_D A [(a0, .inr (1, [.ref a0_row, z0_owedEach, z0_down, z0_law])), (a0_row, .inl (cyI, 64, .inl f5))] := by rw [ef5]; exact hD
  exact ((W.vret hx hb hr (fun t ht hW => ⟨⟨(f5), rfl, hw, by rw [ht]; exact hP, va_K.moved hW.alike hK, hD⟩, hS.F ht⟩) hS.2.2 dX1_stir_22))
theorem ui_X1_leapTo_X1 : ∀ w ∈ u_ws RX1 TX1 4, w ∈ wsX1_leapTo := by decide +kernel
theorem uw_X1_leapTo_f13 : (.fieldLink RX1 13 "MarchHares$Days" "row" "[I" : Cond) ∈ wsX1_leapTo := by decide +kernel
def wq_X1_leapTo  (f0_row : Nat → Int32) (p1 : Int32) (p2 : Int32) (Q : (Nat → Int32) → Prop) : Prop := ∀ x1 : Int32, x1 = 4 + p1 → vp_in x1 64 ∧ ∀ f2 : Nat → Int32, f2 = upd f0_row x1.toNatClampNeg p2 → ∀ x3 : Int32, x3 = 22 + p1 → vp_in x3 64 ∧ ∀ x4 : Int32, x4 = f2 x3.toNatClampNeg → ∀ x5 : Int32, x5 = x4 + 1 → vp_in x3 64 ∧ ∀ f6 : Nat → Int32, f6 = upd f2 x3.toNatClampNeg x5 → wq_X1_stir  f6 p1 (fun f7 => (Q f7))
set_option maxHeartbeats 4000000 in
set_option maxRecDepth 100000 in
theorem ck_X1_leapTo (l : Launch) (dC : Nat → ClassId) (dI : Nat → Nat → Nat) (cyB cyI cyJ cyP : ClassId) (a0 a0_row : Nat) (sz : Nat) (z0_owedEach : Value) (z0_down : Value) (z0_law : Value)  (f0_row : Nat → Int32) (p1 : Int32) (p2 : Int32) {Q : (Nat → Int32) → Prop} (hw : wq_X1_leapTo  f0_row p1 p2 Q) : Met l yX1_leapTo wsX1_leapTo ({ frames := 1, cells := 0, slots := 0, locals := 21 }) (va_Pc [.ref a0, .int p1, .int p2] (cPc (dC, dI) (kT cyB cyI cyJ cyP) [(a0, .inr (1, [.ref a0_row, z0_owedEach, z0_down, z0_law])), (a0_row, .inl (cyI, 64, .inl f0_row))] sz)) (va_Qv (fun (u : (Nat → Int32)) => Q u) (cB (dC, dI) (kT cyB cyI cyJ cyP) (va_A [(a0, .inr (1, [.ref a0_row, z0_owedEach, z0_down, z0_law])), (a0_row, .inl (cyI, 64, .inl f0_row))] sz) (fun u : (Nat → Int32) => ([(a0, .inr (1, [.ref a0_row, z0_owedEach, z0_down, z0_law])), (a0_row, .inl (cyI, 64, .inl u))] : va_W))) (va_A [(a0, .inr (1, [.ref a0_row, z0_owedEach, z0_down, z0_law])), (a0_row, .inl (cyI, 64, .inl f0_row))] sz)) 0 0 (va_A [(a0, .inr (1, [.ref a0_row, z0_owedEach, z0_down, z0_law])), (a0_row, .inl (cyI, 64, .inl f0_row))] sz) := by
  refine Met.ofW (cc := cX1_leapTo) (maxL := 3) (ret := none) (by decide) rfl ?_
  intro p e s m args below meth c s₁ B hml hv
  obtain ⟨rfl, hsz, hP, hK, hD0, hNw⟩ := hv
  have hx := B.exec
  have hb := B.bytes
  have hr := B.returns
  have hts := atoms_spec (ws := wsX1_leapTo) B.pre
  have hown : s.vm.findClass RX1 = some m.cls := findClass_of_methodNamed B.named
  have hlocks := B.notSynchronized
  subst hsz
  have hD := hD0.self (sz := s.heap.size)
  generalize hAe : va_A [(a0, .inr (1, [.ref a0_row, z0_owedEach, z0_down, z0_law])), (a0_row, .inl (cyI, 64, .inl f0_row))] s.heap.size = A at hD ⊢
  have hA : ∀ q : Nat, s.heap.size ≤ q → A q := fun q h => by rw [← hAe]; exact Or.inr h
  have hS : va_S A s.heap s.heap [] := va_S.rf
  have hP : va_P (dC, dI) vwCl [(a0, .inr (1, [.ref a0_row, z0_owedEach, z0_down, z0_law])), (a0_row, .inl (cyI, 64, .inl f0_row))] s.heap := hP
  have hl := lv_entry ([.ref a0, .int p1, .int p2]) (n := 3) (Nat.le_of_ble_eq_true rfl)
  rw [lg_entry_eq]
  generalize (lg_sl ([.ref a0, .int p1, .int p2]) ++ List.replicate (3 - (lg_sl ([.ref a0, .int p1, .int p2])).length) Slot.unset).toArray = ls at hl ⊢
  have hl : lv_has ls 3 [(0, .ref a0), (1, .int p1), (2, .int p2)] := hl
  have C0 : cfx p s m _ meth c cX1_leapTo none wsX1_leapTo RX1 3 A (dC, dI) (kT cyB cyI cyJ cyP) := ⟨hx, hb, hr, hts, hown, hlocks, hml, hA, hK, hNw⟩
  clear hAe
  obtain ⟨H, hH⟩ : ∃ H, H = s.heap := ⟨_, rfl⟩
  rw [← hH] at hP ⊢
  have hS : va_S A s.heap H [] := by rw [hH]; exact va_S.rf
  have hS := hS
  refine lv_aload_n hx hb dX1_leapTo_0 rfl (lv_at hl 0 rfl) ?_
  refine va_get (D := (dC, dI)) (ci := 1) (v := .ref a0_row) (C := RX1) (T := TX1) (N := 4) hx hb hts ui_X1_leapTo_X1 hown hK hP 0 rfl rfl 0 (by decide) (hts _ uw_X1_leapTo_f13) (fun _ h9 => h9) rfl dX1_leapTo_1 ?_
  refine lv_iconst (v := 4) hx hb dX1_leapTo_4 (by decide) ?_
  refine lv_iload_n hx hb dX1_leapTo_5 rfl (lv_at hl 1 rfl) ?_
  refine lv_iadd hx hb dX1_leapTo_6 ?_
  refine lv_topi (fun x1 ex1 => ?_)
  have hw := hw x1 ex1
  refine lv_iload_n hx hb dX1_leapTo_7 rfl (lv_at hl 2 rfl) ?_
  obtain ⟨hi9, hw⟩ := hw
  refine va_iast hx hb hK hP hD hS 1 1 rfl rfl hi9 dX1_leapTo_8 (fun H locs hP hD hS => ?_)
  obtain ⟨f2, ef2⟩ : ∃ y : Nat → Int32, y = upd f0_row x1.toNatClampNeg p2 := ⟨_, rfl⟩
  have hw := hw f2 ef2
  have hP : va_P (dC, dI) vwCl [(a0, .inr (1, [.ref a0_row, z0_owedEach, z0_down, z0_law])), (a0_row, .inl (cyI, 64, .inl f2))] H := by rw [ef2]; exact hP
  have hD : va_D A [(a0, .inr (1, [.ref a0_row, z0_owedEach, z0_down, z0_law])), (a0_row, .inl (cyI, 64, .inl f2))] := by rw [ef2]; exact hD
  refine lv_aload_n hx hb dX1_leapTo_9 rfl (lv_at hl 0 rfl) ?_
  refine va_get (D := (dC, dI)) (ci := 1) (v := .ref a0_row) (C := RX1) (T := TX1) (N := 4) hx hb hts ui_X1_leapTo_X1 hown hK hP 0 rfl rfl 0 (by decide) (hts _ uw_X1_leapTo_f13) (fun _ h9 => h9) rfl dX1_leapTo_10 ?_
  refine lv_bipush (v := 22) hx hb dX1_leapTo_13 (by decide) ?_
  refine lv_iload_n hx hb dX1_leapTo_15 rfl (lv_at hl 1 rfl) ?_
  refine lv_iadd hx hb dX1_leapTo_16 ?_
  refine lv_topi (fun x3 ex3 => ?_)
  have hw := hw x3 ex3
  refine lv_dup2_11 hx hb dX1_leapTo_17 rfl rfl ?_
  obtain ⟨hi9, hw⟩ := hw
  refine va_iald hx hb hK hP 1 1 rfl rfl hi9 dX1_leapTo_18 ?_
  refine lv_topi (fun x4 ex4 => ?_)
  have hw := hw x4 ex4
  refine lv_iconst (v := 1) hx hb dX1_leapTo_19 (by decide) ?_
  refine lv_iadd hx hb dX1_leapTo_20 ?_
  refine lv_topi (fun x5 ex5 => ?_)
  have hw := hw x5 ex5
  obtain ⟨hi9, hw⟩ := hw
  refine va_iast hx hb hK hP hD hS 1 1 rfl rfl hi9 dX1_leapTo_21 (fun H locs hP hD hS => ?_)
  obtain ⟨f6, ef6⟩ : ∃ y : Nat → Int32, y = upd f2 x3.toNatClampNeg x5 := ⟨_, rfl⟩
  have hw := hw f6 ef6
  have hP : va_P (dC, dI) vwCl [(a0, .inr (1, [.ref a0_row, z0_owedEach, z0_down, z0_law])), (a0_row, .inl (cyI, 64, .inl f6))] H := by rw [ef6]; exact hP
  have hD : va_D A [(a0, .inr (1, [.ref a0_row, z0_owedEach, z0_down, z0_law])), (a0_row, .inl (cyI, 64, .inl f6))] := by rw [ef6]; exact hD
  refine lv_aload_n hx hb dX1_leapTo_22 rfl (lv_at hl 0 rfl) ?_
  refine lv_iload_n hx hb dX1_leapTo_23 rfl (lv_at hl 1 rfl) ?_
  have hPc := hP.sub (ws' := [(a0, .inr (1, [.ref a0_row, z0_owedEach, z0_down, z0_law])), (a0_row, .inl (cyI, 64, .inl f6))]) [0, 1] rfl
  have hDc := hD.sub (ws' := [(a0, .inr (1, [.ref a0_row, z0_owedEach, z0_down, z0_law])), (a0_row, .inl (cyI, 64, .inl f6))]) [0, 1] (by decide) rfl
  have hFc := va_free (wc := [(a0, .inr (1, [.ref a0_row, z0_owedEach, z0_down, z0_law])), (a0_row, .inl (cyI, 64, .inl f6))]) hD hS hA [0, 1] rfl
  refine va_callv (va_runV (As := [.int p1]) (rest := []) ⟨hx, hb, hml, hown, hts⟩ (ck_X1_stir l dC dI cyB cyI cyJ cyP a0 a0_row H.size (z0_owedEach) (z0_down) (z0_law)  f6 p1 hw) (cwV 1 hts gX1_leapTo_X1_stir rfl rfl rfl (by decide +kernel) ⟨Nat.le_of_ble_eq_true rfl, Nat.le_of_ble_eq_true rfl⟩) ⟨cPc_blind, va_recv hK hPc (ci := 1) (q0 := 0) rfl rfl, cPc_pre hPc hK hDc hNw⟩ rfl rfl hl.1 rfl (lv_room (Nat.le_of_ble_eq_true rfl)) dX1_leapTo_24 ⟨Nat.le_of_ble_eq_true rfl, Nat.le_of_ble_eq_true rfl⟩) hS (fun q _ h => hFc q h) hFc (fun u t H1 locs ht hvm hw hB hz1 hk1 hS => ?_)
  obtain ⟨f7, rfl⟩ : ∃ z, z = u := ⟨_, rfl⟩
  obtain ⟨hP1, hK1, hD1⟩ := hB
  rw [ht] at hP1
  obtain ⟨hP, hD⟩ := va_join (wr := []) (w1 := [(a0, .inr (1, [.ref a0_row, z0_owedEach, z0_down, z0_law])), (a0_row, .inl (cyI, 64, .inl f7))]) hP hD [0, 1] [] rfl rfl (by decide) (by decide) hk1 hFc hP1 hD1
  have hP : va_P (dC, dI) vwCl [(a0, .inr (1, [.ref a0_row, z0_owedEach, z0_down, z0_law])), (a0_row, .inl (cyI, 64, .inl f7))] H1 := hP
  have hD : va_D A [(a0, .inr (1, [.ref a0_row, z0_owedEach, z0_down, z0_law])), (a0_row, .inl (cyI, 64, .inl f7))] := hD
  generalize H1 = H at hP hS ⊢
  exact ((W.vret hx hb hr (fun t ht hW => ⟨⟨(f7), rfl, hw, by rw [ht]; exact hP, va_K.moved hW.alike hK, hD⟩, hS.F ht⟩) hS.2.2 dX1_leapTo_27))
theorem ui_X1_fight_X1 : ∀ w ∈ u_ws RX1 TX1 4, w ∈ wsX1_fight := by decide +kernel
theorem uw_X1_fight_f13 : (.fieldLink RX1 13 "MarchHares$Days" "row" "[I" : Cond) ∈ wsX1_fight := by decide +kernel
theorem uw_X1_fight_inim : (.initialized "java/lang/Math" : Cond) ∈ wsX1_fight := by decide +kernel
theorem uw_X1_fight_m115 : (.methodLink RX1 115 Lib.Math.max.name : Cond) ∈ wsX1_fight := by decide +kernel
theorem uw_X1_fight_mcmax : (.code Lib.Math.max.name Lib.Math.max.code 2 (some .int) : Cond) ∈ wsX1_fight := by decide +kernel
theorem uw_X1_fight_msmax : (.static Lib.Math.max.name : Cond) ∈ wsX1_fight := by decide +kernel
def wb_X1_fight_18  (Q : (Nat → Int32) → Prop)  (f0_row : Nat → Int32) (l1 : Int32) (l2 : Int32) (s0 : Int32) : Prop := ∀ x4 : Int32, x4 = 10 + s0 → wq_X1_strong f0_row  s0 (fun r5 => ∀ x6 : Int32, x6 = (if 0 < (r5 - 1) then (r5 - 1) else 0) → vp_in x4 64 ∧ ∀ f7 : Nat → Int32, f7 = upd f0_row x4.toNatClampNeg x6 → wq_X1_stir  f7 l1 (fun f8 => wq_X1_stir  f8 l2 (fun f9 => (Q f9))))
set_option maxHeartbeats 4000000 in
set_option maxRecDepth 100000 in
theorem kb_X1_fight_18 {p : Program} {l : Launch} {e : Env} {s : State} {m : MethodId} {args : Array Value} {below : List Frame} {meth : Method} {c : Code} {A : Nat → Prop} (dC : Nat → ClassId) (dI : Nat → Nat → Nat) (cyB cyI cyJ cyP : ClassId) (a0 a0_row : Nat) (z0_owedEach : Value) (z0_down : Value) (z0_law : Value)  (Q : (Nat → Int32) → Prop)  (C0 : cfx p s m args meth c cX1_fight none wsX1_fight RX1 4 A (dC, dI) (kT cyB cyI cyJ cyP)) : ∀ (H : Heap) (locs : List Loc) (ls : Array Slot) (f0_row : Nat → Int32) (l1 : Int32) (l2 : Int32) (s0 : Int32), va_P (dC, dI) vwCl [(a0, .inr (1, [.ref a0_row, z0_owedEach, z0_down, z0_law])), (a0_row, .inl (cyI, 64, .inl f0_row))] H → va_D A [(a0, .inr (1, [.ref a0_row, z0_owedEach, z0_down, z0_law])), (a0_row, .inl (cyI, 64, .inl f0_row))] → va_S A s.heap H locs → lv_has ls 4 [(0, .ref a0), (1, .int l1), (2, .int l2)] → wb_X1_fight_18  Q  f0_row l1 l2 s0 → W p l e (headSpec wsX1_fight ({ frames := 1, cells := 0, slots := 0, locals := 32 })).room s m args below meth c H locs 0 0 (MQ below (va_Qv (fun (u : (Nat → Int32)) => Q u) (cB (dC, dI) (kT cyB cyI cyJ cyP) A (fun u : (Nat → Int32) => ([(a0, .inr (1, [.ref a0_row, z0_owedEach, z0_down, z0_law])), (a0_row, .inl (cyI, 64, .inl u))] : va_W))) A) args s 0 0 A) (F0 m 18 ls [.int s0]) := by
  obtain ⟨hx, hb, hr, hts, hown, hlocks, hml, hA, hK, hNw⟩ := id C0
  intro H locs ls f0_row l1 l2 s0 hP hD hS hl hw
  refine lv_istore_n (lv' := [(3, .int s0), (0, .ref a0), (1, .int l1), (2, .int l2)]) hx hb dX1_fight_18 rfl hl (by decide) rfl (fun ls hl => ?_)
  refine lv_aload_n hx hb dX1_fight_19 rfl (lv_at hl 1 rfl) ?_
  refine va_get (D := (dC, dI)) (ci := 1) (v := .ref a0_row) (C := RX1) (T := TX1) (N := 4) hx hb hts ui_X1_fight_X1 hown hK hP 0 rfl rfl 0 (by decide) (hts _ uw_X1_fight_f13) (fun _ h9 => h9) rfl dX1_fight_20 ?_
  refine lv_bipush (v := 10) hx hb dX1_fight_23 (by decide) ?_
  refine lv_iload_n hx hb dX1_fight_25 rfl (lv_at hl 0 rfl) ?_
  refine lv_iadd hx hb dX1_fight_26 ?_
  refine lv_topi (fun x4 ex4 => ?_)
  have hw := hw x4 ex4
  refine lv_iconst (v := 0) hx hb dX1_fight_27 (by decide) ?_
  refine lv_aload_n hx hb dX1_fight_28 rfl (lv_at hl 1 rfl) ?_
  refine lv_iload_n hx hb dX1_fight_29 rfl (lv_at hl 0 rfl) ?_
  have hPc := hP.sub (ws' := [(a0, .inr (1, [.ref a0_row, z0_owedEach, z0_down, z0_law])), (a0_row, .inl (cyI, 64, .inl f0_row))]) [0, 1] rfl
  have hDc := hD.sub (ws' := [(a0, .inr (1, [.ref a0_row, z0_owedEach, z0_down, z0_law])), (a0_row, .inl (cyI, 64, .inl f0_row))]) [0, 1] (by decide) rfl
  have hFc := va_free (wc := [(a0, .inr (1, [.ref a0_row, z0_owedEach, z0_down, z0_law])), (a0_row, .inl (cyI, 64, .inl f0_row))]) hD hS hA [0, 1] rfl
  refine va_calli (va_runV (As := [.int s0]) (rest := [.int 0, .int x4, .ref a0_row]) ⟨hx, hb, hml, hown, hts⟩ (ck_X1_strong l dC dI cyB cyI cyJ cyP a0 a0_row H.size (z0_owedEach) (z0_down) (z0_law) f0_row  s0 hw) (cwV 1 hts gX1_fight_X1_strong rfl rfl rfl (by decide +kernel) ⟨Nat.le_of_ble_eq_true rfl, Nat.le_of_ble_eq_true rfl⟩) ⟨cPc_blind, va_recv hK hPc (ci := 1) (q0 := 0) rfl rfl, cPc_pre hPc hK hDc hNw⟩ rfl rfl hl.1 rfl (lv_room (Nat.le_of_ble_eq_true rfl)) dX1_fight_30 ⟨Nat.le_of_ble_eq_true rfl, Nat.le_of_ble_eq_true rfl⟩) hS (fun q _ h => hFc q h) hFc (fun r5 u t H1 locs ht hvm hw hB hz1 hk1 hS => ?_)
  obtain ⟨hP1, hK1, hD1⟩ := hB
  rw [ht] at hP1
  obtain ⟨hP, hD⟩ := va_join (wr := []) (w1 := [(a0, .inr (1, [.ref a0_row, z0_owedEach, z0_down, z0_law])), (a0_row, .inl (cyI, 64, .inl f0_row))]) hP hD [0, 1] [] rfl rfl (by decide) (by decide) hk1 hFc hP1 hD1
  have hP : va_P (dC, dI) vwCl [(a0, .inr (1, [.ref a0_row, z0_owedEach, z0_down, z0_law])), (a0_row, .inl (cyI, 64, .inl f0_row))] H1 := hP
  have hD : va_D A [(a0, .inr (1, [.ref a0_row, z0_owedEach, z0_down, z0_law])), (a0_row, .inl (cyI, 64, .inl f0_row))] := hD
  generalize H1 = H at hP hS ⊢
  refine lv_iconst (v := 1) hx hb dX1_fight_33 (by decide) ?_
  refine lv_isub hx hb dX1_fight_34 ?_
  refine va_mmax hx hb (by rw [hml]; exact hl.1.symm) hown (hts _ uw_X1_fight_m115) (hts _ uw_X1_fight_msmax) (hts _ uw_X1_fight_inim) (hts _ uw_X1_fight_mcmax) (Nat.le_of_ble_eq_true rfl) (Nat.le_of_ble_eq_true rfl) (Nat.le_of_ble_eq_true rfl) (Nat.le_of_ble_eq_true rfl) dX1_fight_35 ?_
  refine lv_topi (fun x6 ex6 => ?_)
  have hw := hw x6 ex6
  obtain ⟨hi9, hw⟩ := hw
  refine va_iast hx hb hK hP hD hS 1 1 rfl rfl hi9 dX1_fight_38 (fun H locs hP hD hS => ?_)
  obtain ⟨f7, ef7⟩ : ∃ y : Nat → Int32, y = upd f0_row x4.toNatClampNeg x6 := ⟨_, rfl⟩
  have hw := hw f7 ef7
  have hP : va_P (dC, dI) vwCl [(a0, .inr (1, [.ref a0_row, z0_owedEach, z0_down, z0_law])), (a0_row, .inl (cyI, 64, .inl f7))] H := by rw [ef7]; exact hP
  have hD : va_D A [(a0, .inr (1, [.ref a0_row, z0_owedEach, z0_down, z0_law])), (a0_row, .inl (cyI, 64, .inl f7))] := by rw [ef7]; exact hD
  refine lv_aload_n hx hb dX1_fight_39 rfl (lv_at hl 1 rfl) ?_
  refine lv_iload_n hx hb dX1_fight_40 rfl (lv_at hl 2 rfl) ?_
  have hPc := hP.sub (ws' := [(a0, .inr (1, [.ref a0_row, z0_owedEach, z0_down, z0_law])), (a0_row, .inl (cyI, 64, .inl f7))]) [0, 1] rfl
  have hDc := hD.sub (ws' := [(a0, .inr (1, [.ref a0_row, z0_owedEach, z0_down, z0_law])), (a0_row, .inl (cyI, 64, .inl f7))]) [0, 1] (by decide) rfl
  have hFc := va_free (wc := [(a0, .inr (1, [.ref a0_row, z0_owedEach, z0_down, z0_law])), (a0_row, .inl (cyI, 64, .inl f7))]) hD hS hA [0, 1] rfl
  refine va_callv (va_runV (As := [.int l1]) (rest := []) ⟨hx, hb, hml, hown, hts⟩ (ck_X1_stir l dC dI cyB cyI cyJ cyP a0 a0_row H.size (z0_owedEach) (z0_down) (z0_law)  f7 l1 hw) (cwV 1 hts gX1_fight_X1_stir rfl rfl rfl (by decide +kernel) ⟨Nat.le_of_ble_eq_true rfl, Nat.le_of_ble_eq_true rfl⟩) ⟨cPc_blind, va_recv hK hPc (ci := 1) (q0 := 0) rfl rfl, cPc_pre hPc hK hDc hNw⟩ rfl rfl hl.1 rfl (lv_room (Nat.le_of_ble_eq_true rfl)) dX1_fight_41 ⟨Nat.le_of_ble_eq_true rfl, Nat.le_of_ble_eq_true rfl⟩) hS (fun q _ h => hFc q h) hFc (fun u t H1 locs ht hvm hw hB hz1 hk1 hS => ?_)
  obtain ⟨f8, rfl⟩ : ∃ z, z = u := ⟨_, rfl⟩
  obtain ⟨hP1, hK1, hD1⟩ := hB
  rw [ht] at hP1
  obtain ⟨hP, hD⟩ := va_join (wr := []) (w1 := [(a0, .inr (1, [.ref a0_row, z0_owedEach, z0_down, z0_law])), (a0_row, .inl (cyI, 64, .inl f8))]) hP hD [0, 1] [] rfl rfl (by decide) (by decide) hk1 hFc hP1 hD1
  have hP : va_P (dC, dI) vwCl [(a0, .inr (1, [.ref a0_row, z0_owedEach, z0_down, z0_law])), (a0_row, .inl (cyI, 64, .inl f8))] H1 := hP
  have hD : va_D A [(a0, .inr (1, [.ref a0_row, z0_owedEach, z0_down, z0_law])), (a0_row, .inl (cyI, 64, .inl f8))] := hD
  generalize H1 = H at hP hS ⊢
  refine lv_aload_n hx hb dX1_fight_44 rfl (lv_at hl 1 rfl) ?_
  refine lv_iload_n hx hb dX1_fight_45 rfl (lv_at hl 3 rfl) ?_
  have hPc := hP.sub (ws' := [(a0, .inr (1, [.ref a0_row, z0_owedEach, z0_down, z0_law])), (a0_row, .inl (cyI, 64, .inl f8))]) [0, 1] rfl
  have hDc := hD.sub (ws' := [(a0, .inr (1, [.ref a0_row, z0_owedEach, z0_down, z0_law])), (a0_row, .inl (cyI, 64, .inl f8))]) [0, 1] (by decide) rfl
  have hFc := va_free (wc := [(a0, .inr (1, [.ref a0_row, z0_owedEach, z0_down, z0_law])), (a0_row, .inl (cyI, 64, .inl f8))]) hD hS hA [0, 1] rfl
  refine va_callv (va_runV (As := [.int l2]) (rest := []) ⟨hx, hb, hml, hown, hts⟩ (ck_X1_stir l dC dI cyB cyI cyJ cyP a0 a0_row H.size (z0_owedEach) (z0_down) (z0_law)  f8 l2 hw) (cwV 1 hts gX1_fight_X1_stir rfl rfl rfl (by decide +kernel) ⟨Nat.le_of_ble_eq_true rfl, Nat.le_of_ble_eq_true rfl⟩) ⟨cPc_blind, va_recv hK hPc (ci := 1) (q0 := 0) rfl rfl, cPc_pre hPc hK hDc hNw⟩ rfl rfl hl.1 rfl (lv_room (Nat.le_of_ble_eq_true rfl)) dX1_fight_46 ⟨Nat.le_of_ble_eq_true rfl, Nat.le_of_ble_eq_true rfl⟩) hS (fun q _ h => hFc q h) hFc (fun u t H1 locs ht hvm hw hB hz1 hk1 hS => ?_)
  obtain ⟨f9, rfl⟩ : ∃ z, z = u := ⟨_, rfl⟩
  obtain ⟨hP1, hK1, hD1⟩ := hB
  rw [ht] at hP1
  obtain ⟨hP, hD⟩ := va_join (wr := []) (w1 := [(a0, .inr (1, [.ref a0_row, z0_owedEach, z0_down, z0_law])), (a0_row, .inl (cyI, 64, .inl f9))]) hP hD [0, 1] [] rfl rfl (by decide) (by decide) hk1 hFc hP1 hD1
  have hP : va_P (dC, dI) vwCl [(a0, .inr (1, [.ref a0_row, z0_owedEach, z0_down, z0_law])), (a0_row, .inl (cyI, 64, .inl f9))] H1 := hP
  have hD : va_D A [(a0, .inr (1, [.ref a0_row, z0_owedEach, z0_down, z0_law])), (a0_row, .inl (cyI, 64, .inl f9))] := hD
  generalize H1 = H at hP hS ⊢
  exact ((W.vret hx hb hr (fun t ht hW => ⟨⟨(f9), rfl, hw, by rw [ht]; exact hP, va_K.moved hW.alike hK, hD⟩, hS.F ht⟩) hS.2.2 dX1_fight_49))
def wq_X1_fight  (f0_row : Nat → Int32) (p1 : Int32) (p2 : Int32) (Q : (Nat → Int32) → Prop) : Prop := wq_X1_strong f0_row  p1 (fun r1 => wq_X1_strong f0_row  p2 (fun r2 => ((r1 < r2 → (wb_X1_fight_18  Q  f0_row p1 p2 p1)) ∧ (¬ r1 < r2 → (wb_X1_fight_18  Q  f0_row p1 p2 p2)))))
set_option maxHeartbeats 4000000 in
set_option maxRecDepth 100000 in
theorem ck_X1_fight (l : Launch) (dC : Nat → ClassId) (dI : Nat → Nat → Nat) (cyB cyI cyJ cyP : ClassId) (a0 a0_row : Nat) (sz : Nat) (z0_owedEach : Value) (z0_down : Value) (z0_law : Value)  (f0_row : Nat → Int32) (p1 : Int32) (p2 : Int32) {Q : (Nat → Int32) → Prop} (hw : wq_X1_fight  f0_row p1 p2 Q) : Met l yX1_fight wsX1_fight ({ frames := 1, cells := 0, slots := 0, locals := 32 }) (va_Pc [.ref a0, .int p1, .int p2] (cPc (dC, dI) (kT cyB cyI cyJ cyP) [(a0, .inr (1, [.ref a0_row, z0_owedEach, z0_down, z0_law])), (a0_row, .inl (cyI, 64, .inl f0_row))] sz)) (va_Qv (fun (u : (Nat → Int32)) => Q u) (cB (dC, dI) (kT cyB cyI cyJ cyP) (va_A [(a0, .inr (1, [.ref a0_row, z0_owedEach, z0_down, z0_law])), (a0_row, .inl (cyI, 64, .inl f0_row))] sz) (fun u : (Nat → Int32) => ([(a0, .inr (1, [.ref a0_row, z0_owedEach, z0_down, z0_law])), (a0_row, .inl (cyI, 64, .inl u))] : va_W))) (va_A [(a0, .inr (1, [.ref a0_row, z0_owedEach, z0_down, z0_law])), (a0_row, .inl (cyI, 64, .inl f0_row))] sz)) 0 0 (va_A [(a0, .inr (1, [.ref a0_row, z0_owedEach, z0_down, z0_law])), (a0_row, .inl (cyI, 64, .inl f0_row))] sz) := by
  refine Met.ofW (cc := cX1_fight) (maxL := 4) (ret := none) (by decide) rfl ?_
  intro p e s m args below meth c s₁ B hml hv
  obtain ⟨rfl, hsz, hP, hK, hD0, hNw⟩ := hv
  have hx := B.exec
  have hb := B.bytes
  have hr := B.returns
  have hts := atoms_spec (ws := wsX1_fight) B.pre
  have hown : s.vm.findClass RX1 = some m.cls := findClass_of_methodNamed B.named
  have hlocks := B.notSynchronized
  subst hsz
  have hD := hD0.self (sz := s.heap.size)
  generalize hAe : va_A [(a0, .inr (1, [.ref a0_row, z0_owedEach, z0_down, z0_law])), (a0_row, .inl (cyI, 64, .inl f0_row))] s.heap.size = A at hD ⊢
  have hA : ∀ q : Nat, s.heap.size ≤ q → A q := fun q h => by rw [← hAe]; exact Or.inr h
  have hS : va_S A s.heap s.heap [] := va_S.rf
  have hP : va_P (dC, dI) vwCl [(a0, .inr (1, [.ref a0_row, z0_owedEach, z0_down, z0_law])), (a0_row, .inl (cyI, 64, .inl f0_row))] s.heap := hP
  have hl := lv_entry ([.ref a0, .int p1, .int p2]) (n := 4) (Nat.le_of_ble_eq_true rfl)
  rw [lg_entry_eq]
  generalize (lg_sl ([.ref a0, .int p1, .int p2]) ++ List.replicate (4 - (lg_sl ([.ref a0, .int p1, .int p2])).length) Slot.unset).toArray = ls at hl ⊢
  have hl : lv_has ls 4 [(0, .ref a0), (1, .int p1), (2, .int p2)] := hl
  have C0 : cfx p s m _ meth c cX1_fight none wsX1_fight RX1 4 A (dC, dI) (kT cyB cyI cyJ cyP) := ⟨hx, hb, hr, hts, hown, hlocks, hml, hA, hK, hNw⟩
  clear hAe
  obtain ⟨H, hH⟩ : ∃ H, H = s.heap := ⟨_, rfl⟩
  rw [← hH] at hP ⊢
  have hS : va_S A s.heap H [] := by rw [hH]; exact va_S.rf
  have hS := hS
  refine lv_aload_n hx hb dX1_fight_0 rfl (lv_at hl 0 rfl) ?_
  refine lv_iload_n hx hb dX1_fight_1 rfl (lv_at hl 1 rfl) ?_
  have hPc := hP.sub (ws' := [(a0, .inr (1, [.ref a0_row, z0_owedEach, z0_down, z0_law])), (a0_row, .inl (cyI, 64, .inl f0_row))]) [0, 1] rfl
  have hDc := hD.sub (ws' := [(a0, .inr (1, [.ref a0_row, z0_owedEach, z0_down, z0_law])), (a0_row, .inl (cyI, 64, .inl f0_row))]) [0, 1] (by decide) rfl
  have hFc := va_free (wc := [(a0, .inr (1, [.ref a0_row, z0_owedEach, z0_down, z0_law])), (a0_row, .inl (cyI, 64, .inl f0_row))]) hD hS hA [0, 1] rfl
  refine va_calli (va_runV (As := [.int p1]) (rest := []) ⟨hx, hb, hml, hown, hts⟩ (ck_X1_strong l dC dI cyB cyI cyJ cyP a0 a0_row H.size (z0_owedEach) (z0_down) (z0_law) f0_row  p1 hw) (cwV 1 hts gX1_fight_X1_strong rfl rfl rfl (by decide +kernel) ⟨Nat.le_of_ble_eq_true rfl, Nat.le_of_ble_eq_true rfl⟩) ⟨cPc_blind, va_recv hK hPc (ci := 1) (q0 := 0) rfl rfl, cPc_pre hPc hK hDc hNw⟩ rfl rfl hl.1 rfl (lv_room (Nat.le_of_ble_eq_true rfl)) dX1_fight_2 ⟨Nat.le_of_ble_eq_true rfl, Nat.le_of_ble_eq_true rfl⟩) hS (fun q _ h => hFc q h) hFc (fun r1 u t H1 locs ht hvm hw hB hz1 hk1 hS => ?_)
  obtain ⟨hP1, hK1, hD1⟩ := hB
  rw [ht] at hP1
  obtain ⟨hP, hD⟩ := va_join (wr := []) (w1 := [(a0, .inr (1, [.ref a0_row, z0_owedEach, z0_down, z0_law])), (a0_row, .inl (cyI, 64, .inl f0_row))]) hP hD [0, 1] [] rfl rfl (by decide) (by decide) hk1 hFc hP1 hD1
  have hP : va_P (dC, dI) vwCl [(a0, .inr (1, [.ref a0_row, z0_owedEach, z0_down, z0_law])), (a0_row, .inl (cyI, 64, .inl f0_row))] H1 := hP
  have hD : va_D A [(a0, .inr (1, [.ref a0_row, z0_owedEach, z0_down, z0_law])), (a0_row, .inl (cyI, 64, .inl f0_row))] := hD
  generalize H1 = H at hP hS ⊢
  refine lv_aload_n hx hb dX1_fight_5 rfl (lv_at hl 0 rfl) ?_
  refine lv_iload_n hx hb dX1_fight_6 rfl (lv_at hl 2 rfl) ?_
  have hPc := hP.sub (ws' := [(a0, .inr (1, [.ref a0_row, z0_owedEach, z0_down, z0_law])), (a0_row, .inl (cyI, 64, .inl f0_row))]) [0, 1] rfl
  have hDc := hD.sub (ws' := [(a0, .inr (1, [.ref a0_row, z0_owedEach, z0_down, z0_law])), (a0_row, .inl (cyI, 64, .inl f0_row))]) [0, 1] (by decide) rfl
  have hFc := va_free (wc := [(a0, .inr (1, [.ref a0_row, z0_owedEach, z0_down, z0_law])), (a0_row, .inl (cyI, 64, .inl f0_row))]) hD hS hA [0, 1] rfl
  refine va_calli (va_runV (As := [.int p2]) (rest := [.int r1]) ⟨hx, hb, hml, hown, hts⟩ (ck_X1_strong l dC dI cyB cyI cyJ cyP a0 a0_row H.size (z0_owedEach) (z0_down) (z0_law) f0_row  p2 hw) (cwV 1 hts gX1_fight_X1_strong rfl rfl rfl (by decide +kernel) ⟨Nat.le_of_ble_eq_true rfl, Nat.le_of_ble_eq_true rfl⟩) ⟨cPc_blind, va_recv hK hPc (ci := 1) (q0 := 0) rfl rfl, cPc_pre hPc hK hDc hNw⟩ rfl rfl hl.1 rfl (lv_room (Nat.le_of_ble_eq_true rfl)) dX1_fight_7 ⟨Nat.le_of_ble_eq_true rfl, Nat.le_of_ble_eq_true rfl⟩) hS (fun q _ h => hFc q h) hFc (fun r2 u t H1 locs ht hvm hw hB hz1 hk1 hS => ?_)
  obtain ⟨hP1, hK1, hD1⟩ := hB
  rw [ht] at hP1
  obtain ⟨hP, hD⟩ := va_join (wr := []) (w1 := [(a0, .inr (1, [.ref a0_row, z0_owedEach, z0_down, z0_law])), (a0_row, .inl (cyI, 64, .inl f0_row))]) hP hD [0, 1] [] rfl rfl (by decide) (by decide) hk1 hFc hP1 hD1
  have hP : va_P (dC, dI) vwCl [(a0, .inr (1, [.ref a0_row, z0_owedEach, z0_down, z0_law])), (a0_row, .inl (cyI, 64, .inl f0_row))] H1 := hP
  have hD : va_D A [(a0, .inr (1, [.ref a0_row, z0_owedEach, z0_down, z0_law])), (a0_row, .inl (cyI, 64, .inl f0_row))] := hD
  generalize H1 = H at hP hS ⊢
  refine lv_icmp_lt (tgt := 17) hx hb dX1_fight_10 (by decide) (fun c3 => ?_) (fun c3 => ?_)
  · have hw := hw.1 c3
    refine lv_iload_n hx hb dX1_fight_17 rfl (lv_at hl 1 rfl) ?_
    exact kb_X1_fight_18 dC dI cyB cyI cyJ cyP a0 a0_row z0_owedEach z0_down z0_law  Q  C0 _ _ _ f0_row p1 p2 p1 hP hD hS (lv_sub hl [0, 1, 2] rfl) hw
  · have hw := hw.2 c3
    refine lv_iload_n hx hb dX1_fight_13 rfl (lv_at hl 2 rfl) ?_
    refine lv_goto (tgt := 18) hx hb dX1_fight_14 (by decide) ?_
    exact kb_X1_fight_18 dC dI cyB cyI cyJ cyP a0 a0_row z0_owedEach z0_down z0_law  Q  C0 _ _ _ f0_row p1 p2 p2 hP hD hS (lv_sub hl [0, 1, 2] rfl) hw
theorem ui_X1_payBack_X1 : ∀ w ∈ u_ws RX1 TX1 4, w ∈ wsX1_payBack := by decide +kernel
theorem uw_X1_payBack_f13 : (.fieldLink RX1 13 "MarchHares$Days" "row" "[I" : Cond) ∈ wsX1_payBack := by decide +kernel
def wq_X1_payBack  (f0_row : Nat → Int32) (p1 : Int32) (p2 : Int32) (p3 : Int32) (Q : (Nat → Int32) → Prop) : Prop := ∀ x1 : Int32, x1 = 28 + (p1 * 6) → ∀ x2 : Int32, x2 = x1 + p2 → vp_in x2 64 ∧ ∀ x3 : Int32, x3 = f0_row x2.toNatClampNeg → ∀ x4 : Int32, x4 = x3 - p3 → vp_in x2 64 ∧ ∀ f5 : Nat → Int32, f5 = upd f0_row x2.toNatClampNeg x4 → (Q f5)
set_option maxHeartbeats 4000000 in
set_option maxRecDepth 100000 in
theorem ck_X1_payBack (l : Launch) (dC : Nat → ClassId) (dI : Nat → Nat → Nat) (cyB cyI cyJ cyP : ClassId) (a0 a0_row : Nat) (sz : Nat) (z0_owedEach : Value) (z0_down : Value) (z0_law : Value)  (f0_row : Nat → Int32) (p1 : Int32) (p2 : Int32) (p3 : Int32) {Q : (Nat → Int32) → Prop} (hw : wq_X1_payBack  f0_row p1 p2 p3 Q) : Met l yX1_payBack wsX1_payBack ({ frames := 0, cells := 0, slots := 0, locals := 0 }) (va_Pc [.ref a0, .int p1, .int p2, .int p3] (cPc (dC, dI) (kT cyB cyI cyJ cyP) [(a0, .inr (1, [.ref a0_row, z0_owedEach, z0_down, z0_law])), (a0_row, .inl (cyI, 64, .inl f0_row))] sz)) (va_Qv (fun (u : (Nat → Int32)) => Q u) (cB (dC, dI) (kT cyB cyI cyJ cyP) (va_A [(a0, .inr (1, [.ref a0_row, z0_owedEach, z0_down, z0_law])), (a0_row, .inl (cyI, 64, .inl f0_row))] sz) (fun u : (Nat → Int32) => ([(a0, .inr (1, [.ref a0_row, z0_owedEach, z0_down, z0_law])), (a0_row, .inl (cyI, 64, .inl u))] : va_W))) (va_A [(a0, .inr (1, [.ref a0_row, z0_owedEach, z0_down, z0_law])), (a0_row, .inl (cyI, 64, .inl f0_row))] sz)) 0 0 (va_A [(a0, .inr (1, [.ref a0_row, z0_owedEach, z0_down, z0_law])), (a0_row, .inl (cyI, 64, .inl f0_row))] sz) := by
  refine Met.ofW (cc := cX1_payBack) (maxL := 4) (ret := none) (by decide) rfl ?_
  intro p e s m args below meth c s₁ B hml hv
  obtain ⟨rfl, hsz, hP, hK, hD0, hNw⟩ := hv
  have hx := B.exec
  have hb := B.bytes
  have hr := B.returns
  have hts := atoms_spec (ws := wsX1_payBack) B.pre
  have hown : s.vm.findClass RX1 = some m.cls := findClass_of_methodNamed B.named
  have hlocks := B.notSynchronized
  subst hsz
  have hD := hD0.self (sz := s.heap.size)
  generalize hAe : va_A [(a0, .inr (1, [.ref a0_row, z0_owedEach, z0_down, z0_law])), (a0_row, .inl (cyI, 64, .inl f0_row))] s.heap.size = A at hD ⊢
  have hA : ∀ q : Nat, s.heap.size ≤ q → A q := fun q h => by rw [← hAe]; exact Or.inr h
  have hS : va_S A s.heap s.heap [] := va_S.rf
  have hP : va_P (dC, dI) vwCl [(a0, .inr (1, [.ref a0_row, z0_owedEach, z0_down, z0_law])), (a0_row, .inl (cyI, 64, .inl f0_row))] s.heap := hP
  have hl := lv_entry ([.ref a0, .int p1, .int p2, .int p3]) (n := 4) (Nat.le_of_ble_eq_true rfl)
  rw [lg_entry_eq]
  generalize (lg_sl ([.ref a0, .int p1, .int p2, .int p3]) ++ List.replicate (4 - (lg_sl ([.ref a0, .int p1, .int p2, .int p3])).length) Slot.unset).toArray = ls at hl ⊢
  have hl : lv_has ls 4 [(0, .ref a0), (1, .int p1), (2, .int p2), (3, .int p3)] := hl
  have C0 : cfx p s m _ meth c cX1_payBack none wsX1_payBack RX1 4 A (dC, dI) (kT cyB cyI cyJ cyP) := ⟨hx, hb, hr, hts, hown, hlocks, hml, hA, hK, hNw⟩
  clear hAe
  obtain ⟨H, hH⟩ : ∃ H, H = s.heap := ⟨_, rfl⟩
  rw [← hH] at hP ⊢
  have hS : va_S A s.heap H [] := by rw [hH]; exact va_S.rf
  have hS := hS
  refine lv_aload_n hx hb dX1_payBack_0 rfl (lv_at hl 0 rfl) ?_
  refine va_get (D := (dC, dI)) (ci := 1) (v := .ref a0_row) (C := RX1) (T := TX1) (N := 4) hx hb hts ui_X1_payBack_X1 hown hK hP 0 rfl rfl 0 (by decide) (hts _ uw_X1_payBack_f13) (fun _ h9 => h9) rfl dX1_payBack_1 ?_
  refine lv_bipush (v := 28) hx hb dX1_payBack_4 (by decide) ?_
  refine lv_iload_n hx hb dX1_payBack_6 rfl (lv_at hl 1 rfl) ?_
  refine lv_bipush (v := 6) hx hb dX1_payBack_7 (by decide) ?_
  refine lv_imul hx hb dX1_payBack_9 ?_
  refine lv_iadd hx hb dX1_payBack_10 ?_
  refine lv_topi (fun x1 ex1 => ?_)
  have hw := hw x1 ex1
  refine lv_iload_n hx hb dX1_payBack_11 rfl (lv_at hl 2 rfl) ?_
  refine lv_iadd hx hb dX1_payBack_12 ?_
  refine lv_topi (fun x2 ex2 => ?_)
  have hw := hw x2 ex2
  refine lv_dup2_11 hx hb dX1_payBack_13 rfl rfl ?_
  obtain ⟨hi9, hw⟩ := hw
  refine va_iald hx hb hK hP 1 1 rfl rfl hi9 dX1_payBack_14 ?_
  refine lv_topi (fun x3 ex3 => ?_)
  have hw := hw x3 ex3
  refine lv_iload_n hx hb dX1_payBack_15 rfl (lv_at hl 3 rfl) ?_
  refine lv_isub hx hb dX1_payBack_16 ?_
  refine lv_topi (fun x4 ex4 => ?_)
  have hw := hw x4 ex4
  obtain ⟨hi9, hw⟩ := hw
  refine va_iast hx hb hK hP hD hS 1 1 rfl rfl hi9 dX1_payBack_17 (fun H locs hP hD hS => ?_)
  obtain ⟨f5, ef5⟩ : ∃ y : Nat → Int32, y = upd f0_row x2.toNatClampNeg x4 := ⟨_, rfl⟩
  have hw := hw f5 ef5
  have hP : va_P (dC, dI) vwCl [(a0, .inr (1, [.ref a0_row, z0_owedEach, z0_down, z0_law])), (a0_row, .inl (cyI, 64, .inl f5))] H := by rw [ef5]; exact hP
  have hD : va_D A [(a0, .inr (1, [.ref a0_row, z0_owedEach, z0_down, z0_law])), (a0_row, .inl (cyI, 64, .inl f5))] := by rw [ef5]; exact hD
  exact ((W.vret hx hb hr (fun t ht hW => ⟨⟨(f5), rfl, hw, by rw [ht]; exact hP, va_K.moved hW.alike hK, hD⟩, hS.F ht⟩) hS.2.2 dX1_payBack_18))
def wq_X10_holds   (p0 : Int32) (p1 : Int32) (Q : Int32 → Prop) : Prop := ((¬ ((p0 >>> (p1 &&& 31)) &&& 1) = 1 → (Q 0)) ∧ (((p0 >>> (p1 &&& 31)) &&& 1) = 1 → (Q 1)))
set_option maxHeartbeats 4000000 in
set_option maxRecDepth 100000 in
theorem ck_X10_holds (l : Launch) (dC : Nat → ClassId) (dI : Nat → Nat → Nat) (cyB cyI cyJ cyP : ClassId) (sz : Nat)    (p0 : Int32) (p1 : Int32) {Q : Int32 → Prop} (hw : wq_X10_holds   p0 p1 Q) : Met l yX10_holds wsX10_holds ({ frames := 0, cells := 0, slots := 0, locals := 0 }) (va_Pc [.int p0, .int p1] (cPc (dC, dI) (kT cyB cyI cyJ cyP) [] sz)) (va_Qi (fun (r : Int32) (_ : Unit) => Q r ) (cB (dC, dI) (kT cyB cyI cyJ cyP) (va_A [] sz) (fun u : Unit => ([] : va_W))) (va_A [] sz)) 0 0 (va_A [] sz) := by
  refine Met.ofW (cc := cX10_holds) (maxL := 2) (ret := (some .boolean)) (by decide) rfl ?_
  intro p e s m args below meth c s₁ B hml hv
  obtain ⟨rfl, hsz, hP, hK, hD0, hNw⟩ := hv
  have hx := B.exec
  have hb := B.bytes
  have hr := B.returns
  have hts := atoms_spec (ws := wsX10_holds) B.pre
  have hown : s.vm.findClass RX10 = some m.cls := findClass_of_methodNamed B.named
  have hlocks := B.notSynchronized
  subst hsz
  have hD := hD0.self (sz := s.heap.size)
  generalize hAe : va_A [] s.heap.size = A at hD ⊢
  have hA : ∀ q : Nat, s.heap.size ≤ q → A q := fun q h => by rw [← hAe]; exact Or.inr h
  have hS : va_S A s.heap s.heap [] := va_S.rf
  have hP : va_P (dC, dI) vwCl [] s.heap := hP
  have hl := lv_entry ([.int p0, .int p1]) (n := 2) (Nat.le_of_ble_eq_true rfl)
  rw [lg_entry_eq]
  generalize (lg_sl ([.int p0, .int p1]) ++ List.replicate (2 - (lg_sl ([.int p0, .int p1])).length) Slot.unset).toArray = ls at hl ⊢
  have hl : lv_has ls 2 [(0, .int p0), (1, .int p1)] := hl
  have C0 : cfx p s m _ meth c cX10_holds (some .boolean) wsX10_holds RX10 2 A (dC, dI) (kT cyB cyI cyJ cyP) := ⟨hx, hb, hr, hts, hown, hlocks, hml, hA, hK, hNw⟩
  clear hAe
  obtain ⟨H, hH⟩ : ∃ H, H = s.heap := ⟨_, rfl⟩
  rw [← hH] at hP ⊢
  have hS : va_S A s.heap H [] := by rw [hH]; exact va_S.rf
  have hS := hS
  refine lv_iload_n hx hb dX10_holds_0 rfl (lv_at hl 0 rfl) ?_
  refine lv_iload_n hx hb dX10_holds_1 rfl (lv_at hl 1 rfl) ?_
  refine lv_ishr hx hb dX10_holds_2 ?_
  refine lv_iconst (v := 1) hx hb dX10_holds_3 (by decide) ?_
  refine lv_iand hx hb dX10_holds_4 ?_
  refine lv_iconst (v := 1) hx hb dX10_holds_5 (by decide) ?_
  refine lv_icmp_ne (tgt := 13) hx hb dX10_holds_6 (by decide) (fun c1 => ?_) (fun c1 => ?_)
  · have hw := hw.1 c1
    refine lv_iconst (v := 0) hx hb dX10_holds_13 (by decide) ?_
    exact ((W.zret (v := 0) hx hb hr rfl (fun t ht hW => ⟨⟨0, (), rfl, hw, by rw [ht]; exact hP, va_K.moved hW.alike hK, hD⟩, hS.F ht⟩) hS.2.2 dX10_holds_14))
  · have hw := hw.2 c1
    refine lv_iconst (v := 1) hx hb dX10_holds_9 (by decide) ?_
    refine lv_goto (tgt := 14) hx hb dX10_holds_10 (by decide) ?_
    exact ((W.zret (v := 1) hx hb hr rfl (fun t ht hW => ⟨⟨1, (), rfl, hw, by rw [ht]; exact hP, va_K.moved hW.alike hK, hD⟩, hS.F ht⟩) hS.2.2 dX10_holds_14))
theorem ui_X2_isSafe_X2 : ∀ w ∈ u_ws RX2 TX2 12, w ∈ wsX2_isSafe := by decide +kernel
theorem uw_X2_isSafe_f101 : (.fieldLink RX2 101 "MarchHares$Down" "safe" "I" : Cond) ∈ wsX2_isSafe := by decide +kernel
theorem uw_X2_isSafe_iniRX10 : (.initialized RX10 : Cond) ∈ wsX2_isSafe := by decide +kernel
theorem uw_X2_isSafe_stX10_holds : (.static yX10_holds : Cond) ∈ wsX2_isSafe := by decide +kernel
def wq_X2_isSafe (v0_safe : Int32)  (p1 : Int32) (Q : Int32 → Prop) : Prop := wq_X10_holds   v0_safe p1 (fun r1 => narrow .boolean (.int r1) = .int r1 ∧ (Q r1))
set_option maxHeartbeats 4000000 in
set_option maxRecDepth 100000 in
theorem ck_X2_isSafe (l : Launch) (dC : Nat → ClassId) (dI : Nat → Nat → Nat) (cyB cyI cyJ cyP : ClassId) (a0 : Nat) (sz : Nat) (z0_formX : Value) (z0_formY : Value) (z0_foxX : Value) (z0_foxY : Value) (z0_seat : Value) (z0_strength : Value) (z0_debts : Value) (z0_near : Value) (z0_forms : Value) (z0_hares : Value) (z0_foxes : Value) (v0_safe : Int32)  (p1 : Int32) {Q : Int32 → Prop} (hw : wq_X2_isSafe v0_safe  p1 Q) : Met l yX2_isSafe wsX2_isSafe ({ frames := 1, cells := 0, slots := 0, locals := 21 }) (va_Pc [.ref a0, .int p1] (cPc (dC, dI) (kT cyB cyI cyJ cyP) [(a0, .inr (2, [z0_formX, z0_formY, z0_foxX, z0_foxY, z0_seat, z0_strength, z0_debts, z0_near, z0_forms, z0_hares, z0_foxes, .int v0_safe]))] sz)) (va_Qi (fun (r : Int32) (_ : Unit) => Q r ) (cB (dC, dI) (kT cyB cyI cyJ cyP) (va_A [(a0, .inr (2, [z0_formX, z0_formY, z0_foxX, z0_foxY, z0_seat, z0_strength, z0_debts, z0_near, z0_forms, z0_hares, z0_foxes, .int v0_safe]))] sz) (fun u : Unit => ([(a0, .inr (2, [z0_formX, z0_formY, z0_foxX, z0_foxY, z0_seat, z0_strength, z0_debts, z0_near, z0_forms, z0_hares, z0_foxes, .int v0_safe]))] : va_W))) (va_A [(a0, .inr (2, [z0_formX, z0_formY, z0_foxX, z0_foxY, z0_seat, z0_strength, z0_debts, z0_near, z0_forms, z0_hares, z0_foxes, .int v0_safe]))] sz)) 0 0 (va_A [(a0, .inr (2, [z0_formX, z0_formY, z0_foxX, z0_foxY, z0_seat, z0_strength, z0_debts, z0_near, z0_forms, z0_hares, z0_foxes, .int v0_safe]))] sz) := by
  refine Met.ofW (cc := cX2_isSafe) (maxL := 2) (ret := (some .boolean)) (by decide) rfl ?_
  intro p e s m args below meth c s₁ B hml hv
  obtain ⟨rfl, hsz, hP, hK, hD0, hNw⟩ := hv
  have hx := B.exec
  have hb := B.bytes
  have hr := B.returns
  have hts := atoms_spec (ws := wsX2_isSafe) B.pre
  have hown : s.vm.findClass RX2 = some m.cls := findClass_of_methodNamed B.named
  have hlocks := B.notSynchronized
  subst hsz
  have hD := hD0.self (sz := s.heap.size)
  generalize hAe : va_A [(a0, .inr (2, [z0_formX, z0_formY, z0_foxX, z0_foxY, z0_seat, z0_strength, z0_debts, z0_near, z0_forms, z0_hares, z0_foxes, .int v0_safe]))] s.heap.size = A at hD ⊢
  have hA : ∀ q : Nat, s.heap.size ≤ q → A q := fun q h => by rw [← hAe]; exact Or.inr h
  have hS : va_S A s.heap s.heap [] := va_S.rf
  have hP : va_P (dC, dI) vwCl [(a0, .inr (2, [z0_formX, z0_formY, z0_foxX, z0_foxY, z0_seat, z0_strength, z0_debts, z0_near, z0_forms, z0_hares, z0_foxes, .int v0_safe]))] s.heap := hP
  have hl := lv_entry ([.ref a0, .int p1]) (n := 2) (Nat.le_of_ble_eq_true rfl)
  rw [lg_entry_eq]
  generalize (lg_sl ([.ref a0, .int p1]) ++ List.replicate (2 - (lg_sl ([.ref a0, .int p1])).length) Slot.unset).toArray = ls at hl ⊢
  have hl : lv_has ls 2 [(0, .ref a0), (1, .int p1)] := hl
  have C0 : cfx p s m _ meth c cX2_isSafe (some .boolean) wsX2_isSafe RX2 2 A (dC, dI) (kT cyB cyI cyJ cyP) := ⟨hx, hb, hr, hts, hown, hlocks, hml, hA, hK, hNw⟩
  clear hAe
  obtain ⟨H, hH⟩ : ∃ H, H = s.heap := ⟨_, rfl⟩
  rw [← hH] at hP ⊢
  have hS : va_S A s.heap H [] := by rw [hH]; exact va_S.rf
  have hS := hS
  refine lv_aload_n hx hb dX2_isSafe_0 rfl (lv_at hl 0 rfl) ?_
  refine va_get (D := (dC, dI)) (ci := 2) (v := .int v0_safe) (C := RX2) (T := TX2) (N := 12) hx hb hts ui_X2_isSafe_X2 hown hK hP 0 rfl rfl 11 (by decide) (hts _ uw_X2_isSafe_f101) (fun _ h9 => h9) rfl dX2_isSafe_1 ?_
  refine lv_iload_n hx hb dX2_isSafe_4 rfl (lv_at hl 1 rfl) ?_
  have hPc := hP.sub (ws' := []) [] rfl
  have hDc := hD.sub (ws' := []) [] (by decide) rfl
  have hFc := va_free (wc := []) hD hS hA [] rfl
  refine va_calli (va_runSN (As := [.int v0_safe, .int p1]) (rest := []) ⟨hx, hb, hml, hown, hts⟩ (ck_X10_holds l dC dI cyB cyI cyJ cyP  H.size    v0_safe p1 hw) ⟨(va_cnB 2 hts gX2_isSafe_X10_holds_n114 rfl rfl rfl (hNw.1 _ (List.mem_of_getElem? (i := 10) rfl)) (hts _ uw_X2_isSafe_iniRX10) (by decide +kernel) ⟨Nat.le_of_ble_eq_true rfl, Nat.le_of_ble_eq_true rfl⟩), (hts _ uw_X2_isSafe_stX10_holds), trivial⟩ ⟨cPc_blind, cPc_pre hPc hK hDc hNw⟩ rfl rfl hl.1 rfl (lv_room (Nat.le_of_ble_eq_true rfl)) dX2_isSafe_5 ⟨Nat.le_of_ble_eq_true rfl, Nat.le_of_ble_eq_true rfl⟩) hS (fun q _ h => hFc q h) hFc (fun r1 u t H1 locs ht hvm hw hB hz1 hk1 hS => ?_)
  obtain ⟨hP1, hK1, hD1⟩ := hB
  rw [ht] at hP1
  obtain ⟨hP, hD⟩ := va_join (wr := [(a0, .inr (2, [z0_formX, z0_formY, z0_foxX, z0_foxY, z0_seat, z0_strength, z0_debts, z0_near, z0_forms, z0_hares, z0_foxes, .int v0_safe]))]) (w1 := []) hP hD [] [0] rfl rfl (by decide) (by decide) hk1 hFc hP1 hD1
  have hP : va_P (dC, dI) vwCl [(a0, .inr (2, [z0_formX, z0_formY, z0_foxX, z0_foxY, z0_seat, z0_strength, z0_debts, z0_near, z0_forms, z0_hares, z0_foxes, .int v0_safe]))] H1 := hP
  have hD : va_D A [(a0, .inr (2, [z0_formX, z0_formY, z0_foxX, z0_foxY, z0_seat, z0_strength, z0_debts, z0_near, z0_forms, z0_hares, z0_foxes, .int v0_safe]))] := hD
  generalize H1 = H at hP hS ⊢
  obtain ⟨hn9, hw⟩ := hw
  exact ((W.zret (v := r1) hx hb hr hn9 (fun t ht hW => ⟨⟨r1, (), rfl, hw, by rw [ht]; exact hP, va_K.moved hW.alike hK, hD⟩, hS.F ht⟩) hS.2.2 dX2_isSafe_8))
theorem ui_X1_endangered_X1 : ∀ w ∈ u_ws RX1 TX1 4, w ∈ wsX1_endangered := by decide +kernel
theorem ui_X1_endangered_X2 : ∀ w ∈ u_ws RX2 TX2 12, w ∈ wsX1_endangered := by decide +kernel
theorem uw_X1_endangered_f24 : (.fieldLink RX1 24 "MarchHares$Days" "down" "LMarchHares$Down;" : Cond) ∈ wsX1_endangered := by decide +kernel
theorem uw_X1_endangered_f32 : (.fieldLink RX1 32 "MarchHares$Down" "hares" "I" : Cond) ∈ wsX1_endangered := by decide +kernel
def wb_X1_endangered_53 (v0_down_hares : Int32) (v0_down_safe : Int32) (f0_row : Nat → Int32) (Q : Int32 → Prop) (K4 : Int32 → Int32 → Prop) (l1 : Int32) (l2 : Int32) : Prop := ∀ x10 : Int32, x10 = l2 + 1 → (K4 l1 x10)
set_option maxHeartbeats 4000000 in
set_option maxRecDepth 100000 in
theorem kb_X1_endangered_53 {p : Program} {l : Launch} {e : Env} {s : State} {m : MethodId} {args : Array Value} {below : List Frame} {meth : Method} {c : Code} {A : Nat → Prop} (dC : Nat → ClassId) (dI : Nat → Nat → Nat) (cyB cyI cyJ cyP : ClassId) (a0 a0_down a0_row : Nat) (z0_owedEach : Value) (z0_law : Value) (z0_down_formX : Value) (z0_down_formY : Value) (z0_down_foxX : Value) (z0_down_foxY : Value) (z0_down_seat : Value) (z0_down_strength : Value) (z0_down_debts : Value) (z0_down_near : Value) (z0_down_forms : Value) (z0_down_foxes : Value) (v0_down_hares : Int32) (v0_down_safe : Int32) (f0_row : Nat → Int32) (Q : Int32 → Prop) (K4 : Int32 → Int32 → Prop) (hK4 : ∀ (H : Heap) (locs : List Loc) (ls : Array Slot) (l1 : Int32) (l2 : Int32), va_P (dC, dI) vwCl [(a0, .inr (1, [.ref a0_row, z0_owedEach, .ref a0_down, z0_law])), (a0_down, .inr (2, [z0_down_formX, z0_down_formY, z0_down_foxX, z0_down_foxY, z0_down_seat, z0_down_strength, z0_down_debts, z0_down_near, z0_down_forms, .int v0_down_hares, z0_down_foxes, .int v0_down_safe])), (a0_row, .inl (cyI, 64, .inl f0_row))] H → va_D A [(a0, .inr (1, [.ref a0_row, z0_owedEach, .ref a0_down, z0_law])), (a0_down, .inr (2, [z0_down_formX, z0_down_formY, z0_down_foxX, z0_down_foxY, z0_down_seat, z0_down_strength, z0_down_debts, z0_down_near, z0_down_forms, .int v0_down_hares, z0_down_foxes, .int v0_down_safe])), (a0_row, .inl (cyI, 64, .inl f0_row))] → va_S A s.heap H locs → lv_has ls 3 [(0, .ref a0), (1, .int l1), (2, .int l2)] → K4 l1 l2 → W p l e (headSpec wsX1_endangered ({ frames := 2, cells := 0, slots := 0, locals := 42 })).room s m args below meth c H locs 0 0 (MQ below (va_Qi (fun (r : Int32) (_ : Unit) => Q r ) (cB (dC, dI) (kT cyB cyI cyJ cyP) A (fun u : Unit => ([(a0, .inr (1, [.ref a0_row, z0_owedEach, .ref a0_down, z0_law])), (a0_down, .inr (2, [z0_down_formX, z0_down_formY, z0_down_foxX, z0_down_foxY, z0_down_seat, z0_down_strength, z0_down_debts, z0_down_near, z0_down_forms, .int v0_down_hares, z0_down_foxes, .int v0_down_safe])), (a0_row, .inl (cyI, 64, .inl f0_row))] : va_W))) A) args s 0 0 A) (F0 m 4 ls [])) (C0 : cfx p s m args meth c cX1_endangered (some .int) wsX1_endangered RX1 3 A (dC, dI) (kT cyB cyI cyJ cyP)) : ∀ (H : Heap) (locs : List Loc) (ls : Array Slot) (l1 : Int32) (l2 : Int32), va_P (dC, dI) vwCl [(a0, .inr (1, [.ref a0_row, z0_owedEach, .ref a0_down, z0_law])), (a0_down, .inr (2, [z0_down_formX, z0_down_formY, z0_down_foxX, z0_down_foxY, z0_down_seat, z0_down_strength, z0_down_debts, z0_down_near, z0_down_forms, .int v0_down_hares, z0_down_foxes, .int v0_down_safe])), (a0_row, .inl (cyI, 64, .inl f0_row))] H → va_D A [(a0, .inr (1, [.ref a0_row, z0_owedEach, .ref a0_down, z0_law])), (a0_down, .inr (2, [z0_down_formX, z0_down_formY, z0_down_foxX, z0_down_foxY, z0_down_seat, z0_down_strength, z0_down_debts, z0_down_near, z0_down_forms, .int v0_down_hares, z0_down_foxes, .int v0_down_safe])), (a0_row, .inl (cyI, 64, .inl f0_row))] → va_S A s.heap H locs → lv_has ls 3 [(0, .ref a0), (1, .int l1), (2, .int l2)] → wb_X1_endangered_53 v0_down_hares v0_down_safe f0_row Q K4 l1 l2 → W p l e (headSpec wsX1_endangered ({ frames := 2, cells := 0, slots := 0, locals := 42 })).room s m args below meth c H locs 0 0 (MQ below (va_Qi (fun (r : Int32) (_ : Unit) => Q r ) (cB (dC, dI) (kT cyB cyI cyJ cyP) A (fun u : Unit => ([(a0, .inr (1, [.ref a0_row, z0_owedEach, .ref a0_down, z0_law])), (a0_down, .inr (2, [z0_down_formX, z0_down_formY, z0_down_foxX, z0_down_foxY, z0_down_seat, z0_down_strength, z0_down_debts, z0_down_near, z0_down_forms, .int v0_down_hares, z0_down_foxes, .int v0_down_safe])), (a0_row, .inl (cyI, 64, .inl f0_row))] : va_W))) A) args s 0 0 A) (F0 m 53 ls []) := by
  obtain ⟨hx, hb, hr, hts, hown, hlocks, hml, hA, hK, hNw⟩ := id C0
  intro H locs ls l1 l2 hP hD hS hl hw
  obtain ⟨x10, ex10⟩ : ∃ y : Int32, y = l2 + 1 := ⟨_, rfl⟩
  have hw := hw x10 ex10
  refine lv_iinc (v := x10) (lv' := [(2, .int x10), (0, .ref a0), (1, .int l1)]) hx hb dX1_endangered_53 hl (k := 2) rfl (by rw [ex10]; rfl) (by decide) rfl (fun ls hl => ?_)
  refine lv_goto (tgt := 4) hx hb dX1_endangered_56 (by decide) ?_
  exact hK4 _ _ _ l1 x10 hP hD hS (lv_sub hl [1, 2, 0] rfl) hw
def wl_X1_endangered_4 (v0_down_hares : Int32) (v0_down_safe : Int32) (f0_row : Nat → Int32) (Q : Int32 → Prop)  : Nat → Int32 → Int32 → Prop
  | 0, _, _ => False
  | n + 1, l1, l2 => ((v0_down_hares ≤ l2 → (Q l1)) ∧ (¬ v0_down_hares ≤ l2 → wq_X1_isCaught f0_row  l2 (fun r2 => ((¬ r2 = 0 → (wb_X1_endangered_53 v0_down_hares v0_down_safe f0_row Q (fun l1 l2 => wl_X1_endangered_4 v0_down_hares v0_down_safe f0_row Q  n l1 l2) l1 l2)) ∧ (r2 = 0 → wq_X1_sits f0_row  l2 (fun r4 => wq_X2_isSafe v0_down_safe  r4 (fun r5 => ((¬ r5 = 0 → (wb_X1_endangered_53 v0_down_hares v0_down_safe f0_row Q (fun l1 l2 => wl_X1_endangered_4 v0_down_hares v0_down_safe f0_row Q  n l1 l2) l1 l2)) ∧ (r5 = 0 → wq_X1_still f0_row  l2 (fun r7 => ((3 ≤ r7 → (wb_X1_endangered_53 v0_down_hares v0_down_safe f0_row Q (fun l1 l2 => wl_X1_endangered_4 v0_down_hares v0_down_safe f0_row Q  n l1 l2) l1 l2)) ∧ (¬ 3 ≤ r7 → ∀ x9 : Int32, x9 = l1 ||| (1 <<< (l2 &&& 31)) → (wb_X1_endangered_53 v0_down_hares v0_down_safe f0_row Q (fun l1 l2 => wl_X1_endangered_4 v0_down_hares v0_down_safe f0_row Q  n l1 l2) x9 l2)))))))))))))
set_option maxHeartbeats 4000000 in
set_option maxRecDepth 100000 in
theorem kl_X1_endangered_4 {p : Program} {l : Launch} {e : Env} {s : State} {m : MethodId} {args : Array Value} {below : List Frame} {meth : Method} {c : Code} {A : Nat → Prop} (dC : Nat → ClassId) (dI : Nat → Nat → Nat) (cyB cyI cyJ cyP : ClassId) (a0 a0_down a0_row : Nat) (z0_owedEach : Value) (z0_law : Value) (z0_down_formX : Value) (z0_down_formY : Value) (z0_down_foxX : Value) (z0_down_foxY : Value) (z0_down_seat : Value) (z0_down_strength : Value) (z0_down_debts : Value) (z0_down_near : Value) (z0_down_forms : Value) (z0_down_foxes : Value) (v0_down_hares : Int32) (v0_down_safe : Int32) (f0_row : Nat → Int32) (Q : Int32 → Prop)  (C0 : cfx p s m args meth c cX1_endangered (some .int) wsX1_endangered RX1 3 A (dC, dI) (kT cyB cyI cyJ cyP)) : ∀ (n : Nat) (H : Heap) (locs : List Loc) (ls : Array Slot) (l1 : Int32) (l2 : Int32), va_P (dC, dI) vwCl [(a0, .inr (1, [.ref a0_row, z0_owedEach, .ref a0_down, z0_law])), (a0_down, .inr (2, [z0_down_formX, z0_down_formY, z0_down_foxX, z0_down_foxY, z0_down_seat, z0_down_strength, z0_down_debts, z0_down_near, z0_down_forms, .int v0_down_hares, z0_down_foxes, .int v0_down_safe])), (a0_row, .inl (cyI, 64, .inl f0_row))] H → va_D A [(a0, .inr (1, [.ref a0_row, z0_owedEach, .ref a0_down, z0_law])), (a0_down, .inr (2, [z0_down_formX, z0_down_formY, z0_down_foxX, z0_down_foxY, z0_down_seat, z0_down_strength, z0_down_debts, z0_down_near, z0_down_forms, .int v0_down_hares, z0_down_foxes, .int v0_down_safe])), (a0_row, .inl (cyI, 64, .inl f0_row))] → va_S A s.heap H locs → lv_has ls 3 [(0, .ref a0), (1, .int l1), (2, .int l2)] → wl_X1_endangered_4 v0_down_hares v0_down_safe f0_row Q  n l1 l2 → W p l e (headSpec wsX1_endangered ({ frames := 2, cells := 0, slots := 0, locals := 42 })).room s m args below meth c H locs 0 0 (MQ below (va_Qi (fun (r : Int32) (_ : Unit) => Q r ) (cB (dC, dI) (kT cyB cyI cyJ cyP) A (fun u : Unit => ([(a0, .inr (1, [.ref a0_row, z0_owedEach, .ref a0_down, z0_law])), (a0_down, .inr (2, [z0_down_formX, z0_down_formY, z0_down_foxX, z0_down_foxY, z0_down_seat, z0_down_strength, z0_down_debts, z0_down_near, z0_down_forms, .int v0_down_hares, z0_down_foxes, .int v0_down_safe])), (a0_row, .inl (cyI, 64, .inl f0_row))] : va_W))) A) args s 0 0 A) (F0 m 4 ls []) := by
  obtain ⟨hx, hb, hr, hts, hown, hlocks, hml, hA, hK, hNw⟩ := id C0
  intro n
  induction n with
  | zero => intro H locs ls l1 l2 hP hD hS hl hw; exact False.elim hw
  | succ n ih =>
    intro H locs ls l1 l2 hP hD hS hl hw
    refine lv_iload_n hx hb dX1_endangered_4 rfl (lv_at hl 2 rfl) ?_
    refine lv_aload_n hx hb dX1_endangered_5 rfl (lv_at hl 0 rfl) ?_
    refine va_get (D := (dC, dI)) (ci := 1) (v := .ref a0_down) (C := RX1) (T := TX1) (N := 4) hx hb hts ui_X1_endangered_X1 hown hK hP 0 rfl rfl 2 (by decide) (hts _ uw_X1_endangered_f24) (fun _ h9 => h9) rfl dX1_endangered_6 ?_
    refine va_get (D := (dC, dI)) (ci := 2) (v := .int v0_down_hares) (C := RX2) (T := TX2) (N := 12) hx hb hts ui_X1_endangered_X2 hown hK hP 1 rfl rfl 9 (by decide) (hts _ uw_X1_endangered_f32) (fun _ h9 => h9) rfl dX1_endangered_9 ?_
    refine lv_icmp_ge (tgt := 59) hx hb dX1_endangered_12 (by decide) (fun c1 => ?_) (fun c1 => ?_)
    · have hw := hw.1 c1
      refine lv_iload_n hx hb dX1_endangered_59 rfl (lv_at hl 1 rfl) ?_
      exact ((W.iret (v := l1) hx hb hr (fun t ht hW => ⟨⟨l1, (), rfl, hw, by rw [ht]; exact hP, va_K.moved hW.alike hK, hD⟩, hS.F ht⟩) hS.2.2 dX1_endangered_60))
    · have hw := hw.2 c1
      refine lv_aload_n hx hb dX1_endangered_15 rfl (lv_at hl 0 rfl) ?_
      refine lv_iload_n hx hb dX1_endangered_16 rfl (lv_at hl 2 rfl) ?_
      have hPc := hP.sub (ws' := [(a0, .inr (1, [.ref a0_row, z0_owedEach, .ref a0_down, z0_law])), (a0_row, .inl (cyI, 64, .inl f0_row))]) [0, 2] rfl
      have hDc := hD.sub (ws' := [(a0, .inr (1, [.ref a0_row, z0_owedEach, .ref a0_down, z0_law])), (a0_row, .inl (cyI, 64, .inl f0_row))]) [0, 2] (by decide) rfl
      have hFc := va_free (wc := [(a0, .inr (1, [.ref a0_row, z0_owedEach, .ref a0_down, z0_law])), (a0_row, .inl (cyI, 64, .inl f0_row))]) hD hS hA [0, 2] rfl
      refine va_calli (va_runV (As := [.int l2]) (rest := []) ⟨hx, hb, hml, hown, hts⟩ (ck_X1_isCaught l dC dI cyB cyI cyJ cyP a0 a0_row H.size (z0_owedEach) (.ref a0_down) (z0_law) f0_row  l2 hw) (cwV 1 hts gX1_endangered_X1_isCaught rfl rfl rfl (by decide +kernel) ⟨Nat.le_of_ble_eq_true rfl, Nat.le_of_ble_eq_true rfl⟩) ⟨cPc_blind, va_recv hK hPc (ci := 1) (q0 := 0) rfl rfl, cPc_pre hPc hK hDc hNw⟩ rfl rfl hl.1 rfl (lv_room (Nat.le_of_ble_eq_true rfl)) dX1_endangered_17 ⟨Nat.le_of_ble_eq_true rfl, Nat.le_of_ble_eq_true rfl⟩) hS (fun q _ h => hFc q h) hFc (fun r2 u t H1 locs ht hvm hw hB hz1 hk1 hS => ?_)
      obtain ⟨hP1, hK1, hD1⟩ := hB
      rw [ht] at hP1
      obtain ⟨hP, hD⟩ := va_join (wr := [(a0_down, .inr (2, [z0_down_formX, z0_down_formY, z0_down_foxX, z0_down_foxY, z0_down_seat, z0_down_strength, z0_down_debts, z0_down_near, z0_down_forms, .int v0_down_hares, z0_down_foxes, .int v0_down_safe]))]) (w1 := [(a0, .inr (1, [.ref a0_row, z0_owedEach, .ref a0_down, z0_law])), (a0_row, .inl (cyI, 64, .inl f0_row))]) hP hD [0, 2] [1] rfl rfl (by decide) (by decide) hk1 hFc hP1 hD1
      have hP : va_P (dC, dI) vwCl [(a0, .inr (1, [.ref a0_row, z0_owedEach, .ref a0_down, z0_law])), (a0_down, .inr (2, [z0_down_formX, z0_down_formY, z0_down_foxX, z0_down_foxY, z0_down_seat, z0_down_strength, z0_down_debts, z0_down_near, z0_down_forms, .int v0_down_hares, z0_down_foxes, .int v0_down_safe])), (a0_row, .inl (cyI, 64, .inl f0_row))] H1 := hP.sub [1, 0, 2] rfl
      have hD : va_D A [(a0, .inr (1, [.ref a0_row, z0_owedEach, .ref a0_down, z0_law])), (a0_down, .inr (2, [z0_down_formX, z0_down_formY, z0_down_foxX, z0_down_foxY, z0_down_seat, z0_down_strength, z0_down_debts, z0_down_near, z0_down_forms, .int v0_down_hares, z0_down_foxes, .int v0_down_safe])), (a0_row, .inl (cyI, 64, .inl f0_row))] := hD.sub [1, 0, 2] (by decide) rfl
      generalize H1 = H at hP hS ⊢
      refine lv_if_ne (tgt := 53) hx hb dX1_endangered_20 (by decide) (fun c3 => ?_) (fun c3 => ?_)
      · have hw := hw.1 c3
        exact kb_X1_endangered_53 dC dI cyB cyI cyJ cyP a0 a0_down a0_row z0_owedEach z0_law z0_down_formX z0_down_formY z0_down_foxX z0_down_foxY z0_down_seat z0_down_strength z0_down_debts z0_down_near z0_down_forms z0_down_foxes v0_down_hares v0_down_safe f0_row Q (wl_X1_endangered_4 v0_down_hares v0_down_safe f0_row Q  n) ih C0 _ _ _ l1 l2 hP hD hS (lv_sub hl [0, 1, 2] rfl) hw
      · have hw := hw.2 c3
        refine lv_aload_n hx hb dX1_endangered_23 rfl (lv_at hl 0 rfl) ?_
        refine va_get (D := (dC, dI)) (ci := 1) (v := .ref a0_down) (C := RX1) (T := TX1) (N := 4) hx hb hts ui_X1_endangered_X1 hown hK hP 0 rfl rfl 2 (by decide) (hts _ uw_X1_endangered_f24) (fun _ h9 => h9) rfl dX1_endangered_24 ?_
        refine lv_aload_n hx hb dX1_endangered_27 rfl (lv_at hl 0 rfl) ?_
        refine lv_iload_n hx hb dX1_endangered_28 rfl (lv_at hl 2 rfl) ?_
        have hPc := hP.sub (ws' := [(a0, .inr (1, [.ref a0_row, z0_owedEach, .ref a0_down, z0_law])), (a0_row, .inl (cyI, 64, .inl f0_row))]) [0, 2] rfl
        have hDc := hD.sub (ws' := [(a0, .inr (1, [.ref a0_row, z0_owedEach, .ref a0_down, z0_law])), (a0_row, .inl (cyI, 64, .inl f0_row))]) [0, 2] (by decide) rfl
        have hFc := va_free (wc := [(a0, .inr (1, [.ref a0_row, z0_owedEach, .ref a0_down, z0_law])), (a0_row, .inl (cyI, 64, .inl f0_row))]) hD hS hA [0, 2] rfl
        refine va_calli (va_runV (As := [.int l2]) (rest := [.ref a0_down]) ⟨hx, hb, hml, hown, hts⟩ (ck_X1_sits l dC dI cyB cyI cyJ cyP a0 a0_row H.size (z0_owedEach) (.ref a0_down) (z0_law) f0_row  l2 hw) (cwV 1 hts gX1_endangered_X1_sits rfl rfl rfl (by decide +kernel) ⟨Nat.le_of_ble_eq_true rfl, Nat.le_of_ble_eq_true rfl⟩) ⟨cPc_blind, va_recv hK hPc (ci := 1) (q0 := 0) rfl rfl, cPc_pre hPc hK hDc hNw⟩ rfl rfl hl.1 rfl (lv_room (Nat.le_of_ble_eq_true rfl)) dX1_endangered_29 ⟨Nat.le_of_ble_eq_true rfl, Nat.le_of_ble_eq_true rfl⟩) hS (fun q _ h => hFc q h) hFc (fun r4 u t H1 locs ht hvm hw hB hz1 hk1 hS => ?_)
        obtain ⟨hP1, hK1, hD1⟩ := hB
        rw [ht] at hP1
        obtain ⟨hP, hD⟩ := va_join (wr := [(a0_down, .inr (2, [z0_down_formX, z0_down_formY, z0_down_foxX, z0_down_foxY, z0_down_seat, z0_down_strength, z0_down_debts, z0_down_near, z0_down_forms, .int v0_down_hares, z0_down_foxes, .int v0_down_safe]))]) (w1 := [(a0, .inr (1, [.ref a0_row, z0_owedEach, .ref a0_down, z0_law])), (a0_row, .inl (cyI, 64, .inl f0_row))]) hP hD [0, 2] [1] rfl rfl (by decide) (by decide) hk1 hFc hP1 hD1
        have hP : va_P (dC, dI) vwCl [(a0, .inr (1, [.ref a0_row, z0_owedEach, .ref a0_down, z0_law])), (a0_down, .inr (2, [z0_down_formX, z0_down_formY, z0_down_foxX, z0_down_foxY, z0_down_seat, z0_down_strength, z0_down_debts, z0_down_near, z0_down_forms, .int v0_down_hares, z0_down_foxes, .int v0_down_safe])), (a0_row, .inl (cyI, 64, .inl f0_row))] H1 := hP.sub [1, 0, 2] rfl
        have hD : va_D A [(a0, .inr (1, [.ref a0_row, z0_owedEach, .ref a0_down, z0_law])), (a0_down, .inr (2, [z0_down_formX, z0_down_formY, z0_down_foxX, z0_down_foxY, z0_down_seat, z0_down_strength, z0_down_debts, z0_down_near, z0_down_forms, .int v0_down_hares, z0_down_foxes, .int v0_down_safe])), (a0_row, .inl (cyI, 64, .inl f0_row))] := hD.sub [1, 0, 2] (by decide) rfl
        generalize H1 = H at hP hS ⊢
        have hPc := hP.sub (ws' := [(a0_down, .inr (2, [z0_down_formX, z0_down_formY, z0_down_foxX, z0_down_foxY, z0_down_seat, z0_down_strength, z0_down_debts, z0_down_near, z0_down_forms, .int v0_down_hares, z0_down_foxes, .int v0_down_safe]))]) [1] rfl
        have hDc := hD.sub (ws' := [(a0_down, .inr (2, [z0_down_formX, z0_down_formY, z0_down_foxX, z0_down_foxY, z0_down_seat, z0_down_strength, z0_down_debts, z0_down_near, z0_down_forms, .int v0_down_hares, z0_down_foxes, .int v0_down_safe]))]) [1] (by decide) rfl
        have hFc := va_free (wc := [(a0_down, .inr (2, [z0_down_formX, z0_down_formY, z0_down_foxX, z0_down_foxY, z0_down_seat, z0_down_strength, z0_down_debts, z0_down_near, z0_down_forms, .int v0_down_hares, z0_down_foxes, .int v0_down_safe]))]) hD hS hA [1] rfl
        refine va_calli (va_runV (As := [.int r4]) (rest := []) ⟨hx, hb, hml, hown, hts⟩ (ck_X2_isSafe l dC dI cyB cyI cyJ cyP a0_down H.size (z0_down_formX) (z0_down_formY) (z0_down_foxX) (z0_down_foxY) (z0_down_seat) (z0_down_strength) (z0_down_debts) (z0_down_near) (z0_down_forms) (.int v0_down_hares) (z0_down_foxes) v0_down_safe  r4 hw) (cwV 1 hts gX1_endangered_X2_isSafe rfl rfl rfl (by decide +kernel) ⟨Nat.le_of_ble_eq_true rfl, Nat.le_of_ble_eq_true rfl⟩) ⟨cPc_blind, va_recv hK hPc (ci := 2) (q0 := 0) rfl rfl, cPc_pre hPc hK hDc hNw⟩ rfl rfl hl.1 rfl (lv_room (Nat.le_of_ble_eq_true rfl)) dX1_endangered_32 ⟨Nat.le_of_ble_eq_true rfl, Nat.le_of_ble_eq_true rfl⟩) hS (fun q _ h => hFc q h) hFc (fun r5 u t H1 locs ht hvm hw hB hz1 hk1 hS => ?_)
        obtain ⟨hP1, hK1, hD1⟩ := hB
        rw [ht] at hP1
        obtain ⟨hP, hD⟩ := va_join (wr := [(a0, .inr (1, [.ref a0_row, z0_owedEach, .ref a0_down, z0_law])), (a0_row, .inl (cyI, 64, .inl f0_row))]) (w1 := [(a0_down, .inr (2, [z0_down_formX, z0_down_formY, z0_down_foxX, z0_down_foxY, z0_down_seat, z0_down_strength, z0_down_debts, z0_down_near, z0_down_forms, .int v0_down_hares, z0_down_foxes, .int v0_down_safe]))]) hP hD [1] [0, 2] rfl rfl (by decide) (by decide) hk1 hFc hP1 hD1
        have hP : va_P (dC, dI) vwCl [(a0, .inr (1, [.ref a0_row, z0_owedEach, .ref a0_down, z0_law])), (a0_down, .inr (2, [z0_down_formX, z0_down_formY, z0_down_foxX, z0_down_foxY, z0_down_seat, z0_down_strength, z0_down_debts, z0_down_near, z0_down_forms, .int v0_down_hares, z0_down_foxes, .int v0_down_safe])), (a0_row, .inl (cyI, 64, .inl f0_row))] H1 := hP.sub [0, 2, 1] rfl
        have hD : va_D A [(a0, .inr (1, [.ref a0_row, z0_owedEach, .ref a0_down, z0_law])), (a0_down, .inr (2, [z0_down_formX, z0_down_formY, z0_down_foxX, z0_down_foxY, z0_down_seat, z0_down_strength, z0_down_debts, z0_down_near, z0_down_forms, .int v0_down_hares, z0_down_foxes, .int v0_down_safe])), (a0_row, .inl (cyI, 64, .inl f0_row))] := hD.sub [0, 2, 1] (by decide) rfl
        generalize H1 = H at hP hS ⊢
        refine lv_if_ne (tgt := 53) hx hb dX1_endangered_35 (by decide) (fun c6 => ?_) (fun c6 => ?_)
        · have hw := hw.1 c6
          exact kb_X1_endangered_53 dC dI cyB cyI cyJ cyP a0 a0_down a0_row z0_owedEach z0_law z0_down_formX z0_down_formY z0_down_foxX z0_down_foxY z0_down_seat z0_down_strength z0_down_debts z0_down_near z0_down_forms z0_down_foxes v0_down_hares v0_down_safe f0_row Q (wl_X1_endangered_4 v0_down_hares v0_down_safe f0_row Q  n) ih C0 _ _ _ l1 l2 hP hD hS (lv_sub hl [0, 1, 2] rfl) hw
        · have hw := hw.2 c6
          refine lv_aload_n hx hb dX1_endangered_38 rfl (lv_at hl 0 rfl) ?_
          refine lv_iload_n hx hb dX1_endangered_39 rfl (lv_at hl 2 rfl) ?_
          have hPc := hP.sub (ws' := [(a0, .inr (1, [.ref a0_row, z0_owedEach, .ref a0_down, z0_law])), (a0_row, .inl (cyI, 64, .inl f0_row))]) [0, 2] rfl
          have hDc := hD.sub (ws' := [(a0, .inr (1, [.ref a0_row, z0_owedEach, .ref a0_down, z0_law])), (a0_row, .inl (cyI, 64, .inl f0_row))]) [0, 2] (by decide) rfl
          have hFc := va_free (wc := [(a0, .inr (1, [.ref a0_row, z0_owedEach, .ref a0_down, z0_law])), (a0_row, .inl (cyI, 64, .inl f0_row))]) hD hS hA [0, 2] rfl
          refine va_calli (va_runV (As := [.int l2]) (rest := []) ⟨hx, hb, hml, hown, hts⟩ (ck_X1_still l dC dI cyB cyI cyJ cyP a0 a0_row H.size (z0_owedEach) (.ref a0_down) (z0_law) f0_row  l2 hw) (cwV 1 hts gX1_endangered_X1_still rfl rfl rfl (by decide +kernel) ⟨Nat.le_of_ble_eq_true rfl, Nat.le_of_ble_eq_true rfl⟩) ⟨cPc_blind, va_recv hK hPc (ci := 1) (q0 := 0) rfl rfl, cPc_pre hPc hK hDc hNw⟩ rfl rfl hl.1 rfl (lv_room (Nat.le_of_ble_eq_true rfl)) dX1_endangered_40 ⟨Nat.le_of_ble_eq_true rfl, Nat.le_of_ble_eq_true rfl⟩) hS (fun q _ h => hFc q h) hFc (fun r7 u t H1 locs ht hvm hw hB hz1 hk1 hS => ?_)
          obtain ⟨hP1, hK1, hD1⟩ := hB
          rw [ht] at hP1
          obtain ⟨hP, hD⟩ := va_join (wr := [(a0_down, .inr (2, [z0_down_formX, z0_down_formY, z0_down_foxX, z0_down_foxY, z0_down_seat, z0_down_strength, z0_down_debts, z0_down_near, z0_down_forms, .int v0_down_hares, z0_down_foxes, .int v0_down_safe]))]) (w1 := [(a0, .inr (1, [.ref a0_row, z0_owedEach, .ref a0_down, z0_law])), (a0_row, .inl (cyI, 64, .inl f0_row))]) hP hD [0, 2] [1] rfl rfl (by decide) (by decide) hk1 hFc hP1 hD1
          have hP : va_P (dC, dI) vwCl [(a0, .inr (1, [.ref a0_row, z0_owedEach, .ref a0_down, z0_law])), (a0_down, .inr (2, [z0_down_formX, z0_down_formY, z0_down_foxX, z0_down_foxY, z0_down_seat, z0_down_strength, z0_down_debts, z0_down_near, z0_down_forms, .int v0_down_hares, z0_down_foxes, .int v0_down_safe])), (a0_row, .inl (cyI, 64, .inl f0_row))] H1 := hP.sub [1, 0, 2] rfl
          have hD : va_D A [(a0, .inr (1, [.ref a0_row, z0_owedEach, .ref a0_down, z0_law])), (a0_down, .inr (2, [z0_down_formX, z0_down_formY, z0_down_foxX, z0_down_foxY, z0_down_seat, z0_down_strength, z0_down_debts, z0_down_near, z0_down_forms, .int v0_down_hares, z0_down_foxes, .int v0_down_safe])), (a0_row, .inl (cyI, 64, .inl f0_row))] := hD.sub [1, 0, 2] (by decide) rfl
          generalize H1 = H at hP hS ⊢
          refine lv_iconst (v := 3) hx hb dX1_endangered_43 (by decide) ?_
          refine lv_icmp_ge (tgt := 53) hx hb dX1_endangered_44 (by decide) (fun c8 => ?_) (fun c8 => ?_)
          · have hw := hw.1 c8
            exact kb_X1_endangered_53 dC dI cyB cyI cyJ cyP a0 a0_down a0_row z0_owedEach z0_law z0_down_formX z0_down_formY z0_down_foxX z0_down_foxY z0_down_seat z0_down_strength z0_down_debts z0_down_near z0_down_forms z0_down_foxes v0_down_hares v0_down_safe f0_row Q (wl_X1_endangered_4 v0_down_hares v0_down_safe f0_row Q  n) ih C0 _ _ _ l1 l2 hP hD hS (lv_sub hl [0, 1, 2] rfl) hw
          · have hw := hw.2 c8
            refine lv_iload_n hx hb dX1_endangered_47 rfl (lv_at hl 1 rfl) ?_
            refine lv_iconst (v := 1) hx hb dX1_endangered_48 (by decide) ?_
            refine lv_iload_n hx hb dX1_endangered_49 rfl (lv_at hl 2 rfl) ?_
            refine lv_ishl hx hb dX1_endangered_50 ?_
            refine lv_ior hx hb dX1_endangered_51 ?_
            refine lv_topi (fun x9 ex9 => ?_)
            have hw := hw x9 ex9
            refine lv_istore_n (lv' := [(1, .int x9), (0, .ref a0), (2, .int l2)]) hx hb dX1_endangered_52 rfl hl (by decide) rfl (fun ls hl => ?_)
            exact kb_X1_endangered_53 dC dI cyB cyI cyJ cyP a0 a0_down a0_row z0_owedEach z0_law z0_down_formX z0_down_formY z0_down_foxX z0_down_foxY z0_down_seat z0_down_strength z0_down_debts z0_down_near z0_down_forms z0_down_foxes v0_down_hares v0_down_safe f0_row Q (wl_X1_endangered_4 v0_down_hares v0_down_safe f0_row Q  n) ih C0 _ _ _ x9 l2 hP hD hS (lv_sub hl [1, 0, 2] rfl) hw
def wq_X1_endangered (v0_down_hares : Int32) (v0_down_safe : Int32) (f0_row : Nat → Int32)   (Q : Int32 → Prop) : Prop := (∃ k9 : Nat, wl_X1_endangered_4 v0_down_hares v0_down_safe f0_row Q  k9 0 0)
set_option maxHeartbeats 4000000 in
set_option maxRecDepth 100000 in
theorem ck_X1_endangered (l : Launch) (dC : Nat → ClassId) (dI : Nat → Nat → Nat) (cyB cyI cyJ cyP : ClassId) (a0 a0_down a0_row : Nat) (sz : Nat) (z0_owedEach : Value) (z0_law : Value) (z0_down_formX : Value) (z0_down_formY : Value) (z0_down_foxX : Value) (z0_down_foxY : Value) (z0_down_seat : Value) (z0_down_strength : Value) (z0_down_debts : Value) (z0_down_near : Value) (z0_down_forms : Value) (z0_down_foxes : Value) (v0_down_hares : Int32) (v0_down_safe : Int32) (f0_row : Nat → Int32)   {Q : Int32 → Prop} (hw : wq_X1_endangered v0_down_hares v0_down_safe f0_row   Q) : Met l yX1_endangered wsX1_endangered ({ frames := 2, cells := 0, slots := 0, locals := 42 }) (va_Pc [.ref a0] (cPc (dC, dI) (kT cyB cyI cyJ cyP) [(a0, .inr (1, [.ref a0_row, z0_owedEach, .ref a0_down, z0_law])), (a0_down, .inr (2, [z0_down_formX, z0_down_formY, z0_down_foxX, z0_down_foxY, z0_down_seat, z0_down_strength, z0_down_debts, z0_down_near, z0_down_forms, .int v0_down_hares, z0_down_foxes, .int v0_down_safe])), (a0_row, .inl (cyI, 64, .inl f0_row))] sz)) (va_Qi (fun (r : Int32) (_ : Unit) => Q r ) (cB (dC, dI) (kT cyB cyI cyJ cyP) (va_A [(a0, .inr (1, [.ref a0_row, z0_owedEach, .ref a0_down, z0_law])), (a0_down, .inr (2, [z0_down_formX, z0_down_formY, z0_down_foxX, z0_down_foxY, z0_down_seat, z0_down_strength, z0_down_debts, z0_down_near, z0_down_forms, .int v0_down_hares, z0_down_foxes, .int v0_down_safe])), (a0_row, .inl (cyI, 64, .inl f0_row))] sz) (fun u : Unit => ([(a0, .inr (1, [.ref a0_row, z0_owedEach, .ref a0_down, z0_law])), (a0_down, .inr (2, [z0_down_formX, z0_down_formY, z0_down_foxX, z0_down_foxY, z0_down_seat, z0_down_strength, z0_down_debts, z0_down_near, z0_down_forms, .int v0_down_hares, z0_down_foxes, .int v0_down_safe])), (a0_row, .inl (cyI, 64, .inl f0_row))] : va_W))) (va_A [(a0, .inr (1, [.ref a0_row, z0_owedEach, .ref a0_down, z0_law])), (a0_down, .inr (2, [z0_down_formX, z0_down_formY, z0_down_foxX, z0_down_foxY, z0_down_seat, z0_down_strength, z0_down_debts, z0_down_near, z0_down_forms, .int v0_down_hares, z0_down_foxes, .int v0_down_safe])), (a0_row, .inl (cyI, 64, .inl f0_row))] sz)) 0 0 (va_A [(a0, .inr (1, [.ref a0_row, z0_owedEach, .ref a0_down, z0_law])), (a0_down, .inr (2, [z0_down_formX, z0_down_formY, z0_down_foxX, z0_down_foxY, z0_down_seat, z0_down_strength, z0_down_debts, z0_down_near, z0_down_forms, .int v0_down_hares, z0_down_foxes, .int v0_down_safe])), (a0_row, .inl (cyI, 64, .inl f0_row))] sz) := by
  refine Met.ofW (cc := cX1_endangered) (maxL := 3) (ret := (some .int)) (by decide) rfl ?_
  intro p e s m args below meth c s₁ B hml hv
  obtain ⟨rfl, hsz, hP, hK, hD0, hNw⟩ := hv
  have hx := B.exec
  have hb := B.bytes
  have hr := B.returns
  have hts := atoms_spec (ws := wsX1_endangered) B.pre
  have hown : s.vm.findClass RX1 = some m.cls := findClass_of_methodNamed B.named
  have hlocks := B.notSynchronized
  subst hsz
  have hD := hD0.self (sz := s.heap.size)
  generalize hAe : va_A [(a0, .inr (1, [.ref a0_row, z0_owedEach, .ref a0_down, z0_law])), (a0_down, .inr (2, [z0_down_formX, z0_down_formY, z0_down_foxX, z0_down_foxY, z0_down_seat, z0_down_strength, z0_down_debts, z0_down_near, z0_down_forms, .int v0_down_hares, z0_down_foxes, .int v0_down_safe])), (a0_row, .inl (cyI, 64, .inl f0_row))] s.heap.size = A at hD ⊢
  have hA : ∀ q : Nat, s.heap.size ≤ q → A q := fun q h => by rw [← hAe]; exact Or.inr h
  have hS : va_S A s.heap s.heap [] := va_S.rf
  have hP : va_P (dC, dI) vwCl [(a0, .inr (1, [.ref a0_row, z0_owedEach, .ref a0_down, z0_law])), (a0_down, .inr (2, [z0_down_formX, z0_down_formY, z0_down_foxX, z0_down_foxY, z0_down_seat, z0_down_strength, z0_down_debts, z0_down_near, z0_down_forms, .int v0_down_hares, z0_down_foxes, .int v0_down_safe])), (a0_row, .inl (cyI, 64, .inl f0_row))] s.heap := hP
  have hl := lv_entry ([.ref a0]) (n := 3) (Nat.le_of_ble_eq_true rfl)
  rw [lg_entry_eq]
  generalize (lg_sl ([.ref a0]) ++ List.replicate (3 - (lg_sl ([.ref a0])).length) Slot.unset).toArray = ls at hl ⊢
  have hl : lv_has ls 3 [(0, .ref a0)] := hl
  have C0 : cfx p s m _ meth c cX1_endangered (some .int) wsX1_endangered RX1 3 A (dC, dI) (kT cyB cyI cyJ cyP) := ⟨hx, hb, hr, hts, hown, hlocks, hml, hA, hK, hNw⟩
  clear hAe
  obtain ⟨H, hH⟩ : ∃ H, H = s.heap := ⟨_, rfl⟩
  rw [← hH] at hP ⊢
  have hS : va_S A s.heap H [] := by rw [hH]; exact va_S.rf
  have hS := hS
  refine lv_iconst (v := 0) hx hb dX1_endangered_0 (by decide) ?_
  refine lv_istore_n (lv' := [(1, .int 0), (0, .ref a0)]) hx hb dX1_endangered_1 rfl hl (by decide) rfl (fun ls hl => ?_)
  refine lv_iconst (v := 0) hx hb dX1_endangered_2 (by decide) ?_
  refine lv_istore_n (lv' := [(2, .int 0), (1, .int 0), (0, .ref a0)]) hx hb dX1_endangered_3 rfl hl (by decide) rfl (fun ls hl => ?_)
  obtain ⟨n9, hw⟩ := hw
  exact kl_X1_endangered_4 dC dI cyB cyI cyJ cyP a0 a0_down a0_row z0_owedEach z0_law z0_down_formX z0_down_formY z0_down_foxX z0_down_foxY z0_down_seat z0_down_strength z0_down_debts z0_down_near z0_down_forms z0_down_foxes v0_down_hares v0_down_safe f0_row Q  C0 n9 _ _ _ 0 0 hP hD hS (lv_sub hl [2, 1, 0] rfl) hw
theorem ui_X1_dropDebts_X1 : ∀ w ∈ u_ws RX1 TX1 4, w ∈ wsX1_dropDebts := by decide +kernel
theorem ui_X1_dropDebts_X2 : ∀ w ∈ u_ws RX2 TX2 12, w ∈ wsX1_dropDebts := by decide +kernel
theorem uw_X1_dropDebts_f13 : (.fieldLink RX1 13 "MarchHares$Days" "row" "[I" : Cond) ∈ wsX1_dropDebts := by decide +kernel
theorem uw_X1_dropDebts_f24 : (.fieldLink RX1 24 "MarchHares$Days" "down" "LMarchHares$Down;" : Cond) ∈ wsX1_dropDebts := by decide +kernel
theorem uw_X1_dropDebts_f32 : (.fieldLink RX1 32 "MarchHares$Down" "hares" "I" : Cond) ∈ wsX1_dropDebts := by decide +kernel
def wl_X1_dropDebts_2 (v0_down_hares : Int32) (Q : (Nat → Int32) → Prop)  : Nat → (Nat → Int32) → Int32 → Int32 → Prop
  | 0, _, _, _ => False
  | n + 1, f0_row, l1, l2 => ((v0_down_hares ≤ l2 → (Q f0_row)) ∧ (¬ v0_down_hares ≤ l2 → ∀ x2 : Int32, x2 = 28 + (l1 * 6) → ∀ x3 : Int32, x3 = x2 + l2 → vp_in x3 64 ∧ ∀ f4 : Nat → Int32, f4 = upd f0_row x3.toNatClampNeg 0 → ∀ x5 : Int32, x5 = 28 + (l2 * 6) → ∀ x6 : Int32, x6 = x5 + l1 → vp_in x6 64 ∧ ∀ f7 : Nat → Int32, f7 = upd f4 x6.toNatClampNeg 0 → ∀ x8 : Int32, x8 = l2 + 1 → (wl_X1_dropDebts_2 v0_down_hares Q  n f7 l1 x8)))
set_option maxHeartbeats 4000000 in
set_option maxRecDepth 100000 in
theorem kl_X1_dropDebts_2 {p : Program} {l : Launch} {e : Env} {s : State} {m : MethodId} {args : Array Value} {below : List Frame} {meth : Method} {c : Code} {A : Nat → Prop} (dC : Nat → ClassId) (dI : Nat → Nat → Nat) (cyB cyI cyJ cyP : ClassId) (a0 a0_down a0_row : Nat) (z0_owedEach : Value) (z0_law : Value) (z0_down_formX : Value) (z0_down_formY : Value) (z0_down_foxX : Value) (z0_down_foxY : Value) (z0_down_seat : Value) (z0_down_strength : Value) (z0_down_debts : Value) (z0_down_near : Value) (z0_down_forms : Value) (z0_down_foxes : Value) (z0_down_safe : Value) (v0_down_hares : Int32) (Q : (Nat → Int32) → Prop)  (C0 : cfx p s m args meth c cX1_dropDebts none wsX1_dropDebts RX1 3 A (dC, dI) (kT cyB cyI cyJ cyP)) : ∀ (n : Nat) (H : Heap) (locs : List Loc) (ls : Array Slot) (f0_row : Nat → Int32) (l1 : Int32) (l2 : Int32), va_P (dC, dI) vwCl [(a0, .inr (1, [.ref a0_row, z0_owedEach, .ref a0_down, z0_law])), (a0_down, .inr (2, [z0_down_formX, z0_down_formY, z0_down_foxX, z0_down_foxY, z0_down_seat, z0_down_strength, z0_down_debts, z0_down_near, z0_down_forms, .int v0_down_hares, z0_down_foxes, z0_down_safe])), (a0_row, .inl (cyI, 64, .inl f0_row))] H → va_D A [(a0, .inr (1, [.ref a0_row, z0_owedEach, .ref a0_down, z0_law])), (a0_down, .inr (2, [z0_down_formX, z0_down_formY, z0_down_foxX, z0_down_foxY, z0_down_seat, z0_down_strength, z0_down_debts, z0_down_near, z0_down_forms, .int v0_down_hares, z0_down_foxes, z0_down_safe])), (a0_row, .inl (cyI, 64, .inl f0_row))] → va_S A s.heap H locs → lv_has ls 3 [(0, .ref a0), (1, .int l1), (2, .int l2)] → wl_X1_dropDebts_2 v0_down_hares Q  n f0_row l1 l2 → W p l e (headSpec wsX1_dropDebts ({ frames := 0, cells := 0, slots := 0, locals := 0 })).room s m args below meth c H locs 0 0 (MQ below (va_Qv (fun (u : (Nat → Int32)) => Q u) (cB (dC, dI) (kT cyB cyI cyJ cyP) A (fun u : (Nat → Int32) => ([(a0, .inr (1, [.ref a0_row, z0_owedEach, .ref a0_down, z0_law])), (a0_down, .inr (2, [z0_down_formX, z0_down_formY, z0_down_foxX, z0_down_foxY, z0_down_seat, z0_down_strength, z0_down_debts, z0_down_near, z0_down_forms, .int v0_down_hares, z0_down_foxes, z0_down_safe])), (a0_row, .inl (cyI, 64, .inl u))] : va_W))) A) args s 0 0 A) (F0 m 2 ls []) := by
  obtain ⟨hx, hb, hr, hts, hown, hlocks, hml, hA, hK, hNw⟩ := id C0
  intro n
  induction n with
  | zero => intro H locs ls f0_row l1 l2 hP hD hS hl hw; exact False.elim hw
  | succ n ih =>
    intro H locs ls f0_row l1 l2 hP hD hS hl hw
    refine lv_iload_n hx hb dX1_dropDebts_2 rfl (lv_at hl 2 rfl) ?_
    refine lv_aload_n hx hb dX1_dropDebts_3 rfl (lv_at hl 0 rfl) ?_
    refine va_get (D := (dC, dI)) (ci := 1) (v := .ref a0_down) (C := RX1) (T := TX1) (N := 4) hx hb hts ui_X1_dropDebts_X1 hown hK hP 0 rfl rfl 2 (by decide) (hts _ uw_X1_dropDebts_f24) (fun _ h9 => h9) rfl dX1_dropDebts_4 ?_
    refine va_get (D := (dC, dI)) (ci := 2) (v := .int v0_down_hares) (C := RX2) (T := TX2) (N := 12) hx hb hts ui_X1_dropDebts_X2 hown hK hP 1 rfl rfl 9 (by decide) (hts _ uw_X1_dropDebts_f32) (fun _ h9 => h9) rfl dX1_dropDebts_7 ?_
    refine lv_icmp_ge (tgt := 49) hx hb dX1_dropDebts_10 (by decide) (fun c1 => ?_) (fun c1 => ?_)
    · have hw := hw.1 c1
      exact ((W.vret hx hb hr (fun t ht hW => ⟨⟨(f0_row), rfl, hw, by rw [ht]; exact hP, va_K.moved hW.alike hK, hD⟩, hS.F ht⟩) hS.2.2 dX1_dropDebts_49))
    · have hw := hw.2 c1
      refine lv_aload_n hx hb dX1_dropDebts_13 rfl (lv_at hl 0 rfl) ?_
      refine va_get (D := (dC, dI)) (ci := 1) (v := .ref a0_row) (C := RX1) (T := TX1) (N := 4) hx hb hts ui_X1_dropDebts_X1 hown hK hP 0 rfl rfl 0 (by decide) (hts _ uw_X1_dropDebts_f13) (fun _ h9 => h9) rfl dX1_dropDebts_14 ?_
      refine lv_bipush (v := 28) hx hb dX1_dropDebts_17 (by decide) ?_
      refine lv_iload_n hx hb dX1_dropDebts_19 rfl (lv_at hl 1 rfl) ?_
      refine lv_bipush (v := 6) hx hb dX1_dropDebts_20 (by decide) ?_
      refine lv_imul hx hb dX1_dropDebts_22 ?_
      refine lv_iadd hx hb dX1_dropDebts_23 ?_
      refine lv_topi (fun x2 ex2 => ?_)
      have hw := hw x2 ex2
      refine lv_iload_n hx hb dX1_dropDebts_24 rfl (lv_at hl 2 rfl) ?_
      refine lv_iadd hx hb dX1_dropDebts_25 ?_
      refine lv_topi (fun x3 ex3 => ?_)
      have hw := hw x3 ex3
      refine lv_iconst (v := 0) hx hb dX1_dropDebts_26 (by decide) ?_
      obtain ⟨hi9, hw⟩ := hw
      refine va_iast hx hb hK hP hD hS 2 1 rfl rfl hi9 dX1_dropDebts_27 (fun H locs hP hD hS => ?_)
      obtain ⟨f4, ef4⟩ : ∃ y : Nat → Int32, y = upd f0_row x3.toNatClampNeg 0 := ⟨_, rfl⟩
      have hw := hw f4 ef4
      have hP : va_P (dC, dI) vwCl [(a0, .inr (1, [.ref a0_row, z0_owedEach, .ref a0_down, z0_law])), (a0_down, .inr (2, [z0_down_formX, z0_down_formY, z0_down_foxX, z0_down_foxY, z0_down_seat, z0_down_strength, z0_down_debts, z0_down_near, z0_down_forms, .int v0_down_hares, z0_down_foxes, z0_down_safe])), (a0_row, .inl (cyI, 64, .inl f4))] H := by rw [ef4]; exact hP
      have hD : va_D A [(a0, .inr (1, [.ref a0_row, z0_owedEach, .ref a0_down, z0_law])), (a0_down, .inr (2, [z0_down_formX, z0_down_formY, z0_down_foxX, z0_down_foxY, z0_down_seat, z0_down_strength, z0_down_debts, z0_down_near, z0_down_forms, .int v0_down_hares, z0_down_foxes, z0_down_safe])), (a0_row, .inl (cyI, 64, .inl f4))] := by rw [ef4]; exact hD
      refine lv_aload_n hx hb dX1_dropDebts_28 rfl (lv_at hl 0 rfl) ?_
      refine va_get (D := (dC, dI)) (ci := 1) (v := .ref a0_row) (C := RX1) (T := TX1) (N := 4) hx hb hts ui_X1_dropDebts_X1 hown hK hP 0 rfl rfl 0 (by decide) (hts _ uw_X1_dropDebts_f13) (fun _ h9 => h9) rfl dX1_dropDebts_29 ?_
      refine lv_bipush (v := 28) hx hb dX1_dropDebts_32 (by decide) ?_
      refine lv_iload_n hx hb dX1_dropDebts_34 rfl (lv_at hl 2 rfl) ?_
      refine lv_bipush (v := 6) hx hb dX1_dropDebts_35 (by decide) ?_
      refine lv_imul hx hb dX1_dropDebts_37 ?_
      refine lv_iadd hx hb dX1_dropDebts_38 ?_
      refine lv_topi (fun x5 ex5 => ?_)
      have hw := hw x5 ex5
      refine lv_iload_n hx hb dX1_dropDebts_39 rfl (lv_at hl 1 rfl) ?_
      refine lv_iadd hx hb dX1_dropDebts_40 ?_
      refine lv_topi (fun x6 ex6 => ?_)
      have hw := hw x6 ex6
      refine lv_iconst (v := 0) hx hb dX1_dropDebts_41 (by decide) ?_
      obtain ⟨hi9, hw⟩ := hw
      refine va_iast hx hb hK hP hD hS 2 1 rfl rfl hi9 dX1_dropDebts_42 (fun H locs hP hD hS => ?_)
      obtain ⟨f7, ef7⟩ : ∃ y : Nat → Int32, y = upd f4 x6.toNatClampNeg 0 := ⟨_, rfl⟩
      have hw := hw f7 ef7
      have hP : va_P (dC, dI) vwCl [(a0, .inr (1, [.ref a0_row, z0_owedEach, .ref a0_down, z0_law])), (a0_down, .inr (2, [z0_down_formX, z0_down_formY, z0_down_foxX, z0_down_foxY, z0_down_seat, z0_down_strength, z0_down_debts, z0_down_near, z0_down_forms, .int v0_down_hares, z0_down_foxes, z0_down_safe])), (a0_row, .inl (cyI, 64, .inl f7))] H := by rw [ef7]; exact hP
      have hD : va_D A [(a0, .inr (1, [.ref a0_row, z0_owedEach, .ref a0_down, z0_law])), (a0_down, .inr (2, [z0_down_formX, z0_down_formY, z0_down_foxX, z0_down_foxY, z0_down_seat, z0_down_strength, z0_down_debts, z0_down_near, z0_down_forms, .int v0_down_hares, z0_down_foxes, z0_down_safe])), (a0_row, .inl (cyI, 64, .inl f7))] := by rw [ef7]; exact hD
      obtain ⟨x8, ex8⟩ : ∃ y : Int32, y = l2 + 1 := ⟨_, rfl⟩
      have hw := hw x8 ex8
      refine lv_iinc (v := x8) (lv' := [(2, .int x8), (0, .ref a0), (1, .int l1)]) hx hb dX1_dropDebts_43 hl (k := 2) rfl (by rw [ex8]; rfl) (by decide) rfl (fun ls hl => ?_)
      refine lv_goto (tgt := 2) hx hb dX1_dropDebts_46 (by decide) ?_
      exact ih _ _ _ f7 l1 x8 hP hD hS (lv_sub hl [1, 2, 0] rfl) hw
def wq_X1_dropDebts (v0_down_hares : Int32) (f0_row : Nat → Int32) (p1 : Int32) (Q : (Nat → Int32) → Prop) : Prop := (∃ k9 : Nat, wl_X1_dropDebts_2 v0_down_hares Q  k9 f0_row p1 0)
set_option maxHeartbeats 4000000 in
set_option maxRecDepth 100000 in
theorem ck_X1_dropDebts (l : Launch) (dC : Nat → ClassId) (dI : Nat → Nat → Nat) (cyB cyI cyJ cyP : ClassId) (a0 a0_down a0_row : Nat) (sz : Nat) (z0_owedEach : Value) (z0_law : Value) (z0_down_formX : Value) (z0_down_formY : Value) (z0_down_foxX : Value) (z0_down_foxY : Value) (z0_down_seat : Value) (z0_down_strength : Value) (z0_down_debts : Value) (z0_down_near : Value) (z0_down_forms : Value) (z0_down_foxes : Value) (z0_down_safe : Value) (v0_down_hares : Int32) (f0_row : Nat → Int32) (p1 : Int32) {Q : (Nat → Int32) → Prop} (hw : wq_X1_dropDebts v0_down_hares f0_row p1 Q) : Met l yX1_dropDebts wsX1_dropDebts ({ frames := 0, cells := 0, slots := 0, locals := 0 }) (va_Pc [.ref a0, .int p1] (cPc (dC, dI) (kT cyB cyI cyJ cyP) [(a0, .inr (1, [.ref a0_row, z0_owedEach, .ref a0_down, z0_law])), (a0_down, .inr (2, [z0_down_formX, z0_down_formY, z0_down_foxX, z0_down_foxY, z0_down_seat, z0_down_strength, z0_down_debts, z0_down_near, z0_down_forms, .int v0_down_hares, z0_down_foxes, z0_down_safe])), (a0_row, .inl (cyI, 64, .inl f0_row))] sz)) (va_Qv (fun (u : (Nat → Int32)) => Q u) (cB (dC, dI) (kT cyB cyI cyJ cyP) (va_A [(a0, .inr (1, [.ref a0_row, z0_owedEach, .ref a0_down, z0_law])), (a0_down, .inr (2, [z0_down_formX, z0_down_formY, z0_down_foxX, z0_down_foxY, z0_down_seat, z0_down_strength, z0_down_debts, z0_down_near, z0_down_forms, .int v0_down_hares, z0_down_foxes, z0_down_safe])), (a0_row, .inl (cyI, 64, .inl f0_row))] sz) (fun u : (Nat → Int32) => ([(a0, .inr (1, [.ref a0_row, z0_owedEach, .ref a0_down, z0_law])), (a0_down, .inr (2, [z0_down_formX, z0_down_formY, z0_down_foxX, z0_down_foxY, z0_down_seat, z0_down_strength, z0_down_debts, z0_down_near, z0_down_forms, .int v0_down_hares, z0_down_foxes, z0_down_safe])), (a0_row, .inl (cyI, 64, .inl u))] : va_W))) (va_A [(a0, .inr (1, [.ref a0_row, z0_owedEach, .ref a0_down, z0_law])), (a0_down, .inr (2, [z0_down_formX, z0_down_formY, z0_down_foxX, z0_down_foxY, z0_down_seat, z0_down_strength, z0_down_debts, z0_down_near, z0_down_forms, .int v0_down_hares, z0_down_foxes, z0_down_safe])), (a0_row, .inl (cyI, 64, .inl f0_row))] sz)) 0 0 (va_A [(a0, .inr (1, [.ref a0_row, z0_owedEach, .ref a0_down, z0_law])), (a0_down, .inr (2, [z0_down_formX, z0_down_formY, z0_down_foxX, z0_down_foxY, z0_down_seat, z0_down_strength, z0_down_debts, z0_down_near, z0_down_forms, .int v0_down_hares, z0_down_foxes, z0_down_safe])), (a0_row, .inl (cyI, 64, .inl f0_row))] sz) := by
  refine Met.ofW (cc := cX1_dropDebts) (maxL := 3) (ret := none) (by decide) rfl ?_
  intro p e s m args below meth c s₁ B hml hv
  obtain ⟨rfl, hsz, hP, hK, hD0, hNw⟩ := hv
  have hx := B.exec
  have hb := B.bytes
  have hr := B.returns
  have hts := atoms_spec (ws := wsX1_dropDebts) B.pre
  have hown : s.vm.findClass RX1 = some m.cls := findClass_of_methodNamed B.named
  have hlocks := B.notSynchronized
  subst hsz
  have hD := hD0.self (sz := s.heap.size)
  generalize hAe : va_A [(a0, .inr (1, [.ref a0_row, z0_owedEach, .ref a0_down, z0_law])), (a0_down, .inr (2, [z0_down_formX, z0_down_formY, z0_down_foxX, z0_down_foxY, z0_down_seat, z0_down_strength, z0_down_debts, z0_down_near, z0_down_forms, .int v0_down_hares, z0_down_foxes, z0_down_safe])), (a0_row, .inl (cyI, 64, .inl f0_row))] s.heap.size = A at hD ⊢
  have hA : ∀ q : Nat, s.heap.size ≤ q → A q := fun q h => by rw [← hAe]; exact Or.inr h
  have hS : va_S A s.heap s.heap [] := va_S.rf
  have hP : va_P (dC, dI) vwCl [(a0, .inr (1, [.ref a0_row, z0_owedEach, .ref a0_down, z0_law])), (a0_down, .inr (2, [z0_down_formX, z0_down_formY, z0_down_foxX, z0_down_foxY, z0_down_seat, z0_down_strength, z0_down_debts, z0_down_near, z0_down_forms, .int v0_down_hares, z0_down_foxes, z0_down_safe])), (a0_row, .inl (cyI, 64, .inl f0_row))] s.heap := hP
  have hl := lv_entry ([.ref a0, .int p1]) (n := 3) (Nat.le_of_ble_eq_true rfl)
  rw [lg_entry_eq]
  generalize (lg_sl ([.ref a0, .int p1]) ++ List.replicate (3 - (lg_sl ([.ref a0, .int p1])).length) Slot.unset).toArray = ls at hl ⊢
  have hl : lv_has ls 3 [(0, .ref a0), (1, .int p1)] := hl
  have C0 : cfx p s m _ meth c cX1_dropDebts none wsX1_dropDebts RX1 3 A (dC, dI) (kT cyB cyI cyJ cyP) := ⟨hx, hb, hr, hts, hown, hlocks, hml, hA, hK, hNw⟩
  clear hAe
  obtain ⟨H, hH⟩ : ∃ H, H = s.heap := ⟨_, rfl⟩
  rw [← hH] at hP ⊢
  have hS : va_S A s.heap H [] := by rw [hH]; exact va_S.rf
  have hS := hS
  refine lv_iconst (v := 0) hx hb dX1_dropDebts_0 (by decide) ?_
  refine lv_istore_n (lv' := [(2, .int 0), (0, .ref a0), (1, .int p1)]) hx hb dX1_dropDebts_1 rfl hl (by decide) rfl (fun ls hl => ?_)
  obtain ⟨n9, hw⟩ := hw
  exact kl_X1_dropDebts_2 dC dI cyB cyI cyJ cyP a0 a0_down a0_row z0_owedEach z0_law z0_down_formX z0_down_formY z0_down_foxX z0_down_foxY z0_down_seat z0_down_strength z0_down_debts z0_down_near z0_down_forms z0_down_foxes z0_down_safe v0_down_hares Q  C0 n9 _ _ _ f0_row p1 0 hP hD hS (lv_sub hl [1, 2, 0] rfl) hw
theorem ui_X1_strike_X1 : ∀ w ∈ u_ws RX1 TX1 4, w ∈ wsX1_strike := by decide +kernel
theorem ui_X1_strike_X2 : ∀ w ∈ u_ws RX2 TX2 12, w ∈ wsX1_strike := by decide +kernel
theorem uw_X1_strike_f13 : (.fieldLink RX1 13 "MarchHares$Days" "row" "[I" : Cond) ∈ wsX1_strike := by decide +kernel
theorem uw_X1_strike_f24 : (.fieldLink RX1 24 "MarchHares$Days" "down" "LMarchHares$Down;" : Cond) ∈ wsX1_strike := by decide +kernel
theorem uw_X1_strike_f32 : (.fieldLink RX1 32 "MarchHares$Down" "hares" "I" : Cond) ∈ wsX1_strike := by decide +kernel
theorem uw_X1_strike_f39 : (.fieldLink RX1 39 "MarchHares$Down" "strength" "[I" : Cond) ∈ wsX1_strike := by decide +kernel
theorem uw_X1_strike_iniRX10 : (.initialized RX10 : Cond) ∈ wsX1_strike := by decide +kernel
theorem uw_X1_strike_stX10_holds : (.static yX10_holds : Cond) ∈ wsX1_strike := by decide +kernel
def wb_X1_strike_74 (v0_down_hares : Int32) (v0_down_safe : Int32) (f0_down_strength : Nat → Int32) (Q : (Nat → Int32) → Prop) (K7 : (Nat → Int32) → Int32 → Int32 → Prop) (f0_row : Nat → Int32) (l1 : Int32) (l2 : Int32) : Prop := ∀ x14 : Int32, x14 = l2 + 1 → (K7 f0_row l1 x14)
set_option maxHeartbeats 4000000 in
set_option maxRecDepth 100000 in
theorem kb_X1_strike_74 {p : Program} {l : Launch} {e : Env} {s : State} {m : MethodId} {args : Array Value} {below : List Frame} {meth : Method} {c : Code} {A : Nat → Prop} (dC : Nat → ClassId) (dI : Nat → Nat → Nat) (cyB cyI cyJ cyP : ClassId) (a0 a0_down a0_row a0_down_strength : Nat) (z0_owedEach : Value) (z0_law : Value) (z0_down_formX : Value) (z0_down_formY : Value) (z0_down_foxX : Value) (z0_down_foxY : Value) (z0_down_seat : Value) (z0_down_debts : Value) (z0_down_near : Value) (z0_down_forms : Value) (z0_down_foxes : Value) (v0_down_hares : Int32) (v0_down_safe : Int32) (f0_down_strength : Nat → Int32) (Q : (Nat → Int32) → Prop) (K7 : (Nat → Int32) → Int32 → Int32 → Prop) (hK7 : ∀ (H : Heap) (locs : List Loc) (ls : Array Slot) (f0_row : Nat → Int32) (l1 : Int32) (l2 : Int32), va_P (dC, dI) vwCl [(a0, .inr (1, [.ref a0_row, z0_owedEach, .ref a0_down, z0_law])), (a0_down, .inr (2, [z0_down_formX, z0_down_formY, z0_down_foxX, z0_down_foxY, z0_down_seat, .ref a0_down_strength, z0_down_debts, z0_down_near, z0_down_forms, .int v0_down_hares, z0_down_foxes, .int v0_down_safe])), (a0_row, .inl (cyI, 64, .inl f0_row)), (a0_down_strength, .inl (cyI, 6, .inl f0_down_strength))] H → va_D A [(a0, .inr (1, [.ref a0_row, z0_owedEach, .ref a0_down, z0_law])), (a0_down, .inr (2, [z0_down_formX, z0_down_formY, z0_down_foxX, z0_down_foxY, z0_down_seat, .ref a0_down_strength, z0_down_debts, z0_down_near, z0_down_forms, .int v0_down_hares, z0_down_foxes, .int v0_down_safe])), (a0_row, .inl (cyI, 64, .inl f0_row)), (a0_down_strength, .inl (cyI, 6, .inl f0_down_strength))] → va_S A s.heap H locs → lv_has ls 3 [(0, .ref a0), (1, .int l1), (2, .int l2)] → K7 f0_row l1 l2 → W p l e (headSpec wsX1_strike ({ frames := 3, cells := 0, slots := 0, locals := 64 })).room s m args below meth c H locs 0 0 (MQ below (va_Qv (fun (u : (Nat → Int32)) => Q u) (cB (dC, dI) (kT cyB cyI cyJ cyP) A (fun u : (Nat → Int32) => ([(a0, .inr (1, [.ref a0_row, z0_owedEach, .ref a0_down, z0_law])), (a0_down, .inr (2, [z0_down_formX, z0_down_formY, z0_down_foxX, z0_down_foxY, z0_down_seat, .ref a0_down_strength, z0_down_debts, z0_down_near, z0_down_forms, .int v0_down_hares, z0_down_foxes, .int v0_down_safe])), (a0_row, .inl (cyI, 64, .inl u)), (a0_down_strength, .inl (cyI, 6, .inl f0_down_strength))] : va_W))) A) args s 0 0 A) (F0 m 7 ls [])) (C0 : cfx p s m args meth c cX1_strike none wsX1_strike RX1 3 A (dC, dI) (kT cyB cyI cyJ cyP)) : ∀ (H : Heap) (locs : List Loc) (ls : Array Slot) (f0_row : Nat → Int32) (l1 : Int32) (l2 : Int32), va_P (dC, dI) vwCl [(a0, .inr (1, [.ref a0_row, z0_owedEach, .ref a0_down, z0_law])), (a0_down, .inr (2, [z0_down_formX, z0_down_formY, z0_down_foxX, z0_down_foxY, z0_down_seat, .ref a0_down_strength, z0_down_debts, z0_down_near, z0_down_forms, .int v0_down_hares, z0_down_foxes, .int v0_down_safe])), (a0_row, .inl (cyI, 64, .inl f0_row)), (a0_down_strength, .inl (cyI, 6, .inl f0_down_strength))] H → va_D A [(a0, .inr (1, [.ref a0_row, z0_owedEach, .ref a0_down, z0_law])), (a0_down, .inr (2, [z0_down_formX, z0_down_formY, z0_down_foxX, z0_down_foxY, z0_down_seat, .ref a0_down_strength, z0_down_debts, z0_down_near, z0_down_forms, .int v0_down_hares, z0_down_foxes, .int v0_down_safe])), (a0_row, .inl (cyI, 64, .inl f0_row)), (a0_down_strength, .inl (cyI, 6, .inl f0_down_strength))] → va_S A s.heap H locs → lv_has ls 3 [(0, .ref a0), (1, .int l1), (2, .int l2)] → wb_X1_strike_74 v0_down_hares v0_down_safe f0_down_strength Q K7 f0_row l1 l2 → W p l e (headSpec wsX1_strike ({ frames := 3, cells := 0, slots := 0, locals := 64 })).room s m args below meth c H locs 0 0 (MQ below (va_Qv (fun (u : (Nat → Int32)) => Q u) (cB (dC, dI) (kT cyB cyI cyJ cyP) A (fun u : (Nat → Int32) => ([(a0, .inr (1, [.ref a0_row, z0_owedEach, .ref a0_down, z0_law])), (a0_down, .inr (2, [z0_down_formX, z0_down_formY, z0_down_foxX, z0_down_foxY, z0_down_seat, .ref a0_down_strength, z0_down_debts, z0_down_near, z0_down_forms, .int v0_down_hares, z0_down_foxes, .int v0_down_safe])), (a0_row, .inl (cyI, 64, .inl u)), (a0_down_strength, .inl (cyI, 6, .inl f0_down_strength))] : va_W))) A) args s 0 0 A) (F0 m 74 ls []) := by
  obtain ⟨hx, hb, hr, hts, hown, hlocks, hml, hA, hK, hNw⟩ := id C0
  intro H locs ls f0_row l1 l2 hP hD hS hl hw
  obtain ⟨x14, ex14⟩ : ∃ y : Int32, y = l2 + 1 := ⟨_, rfl⟩
  have hw := hw x14 ex14
  refine lv_iinc (v := x14) (lv' := [(2, .int x14), (0, .ref a0), (1, .int l1)]) hx hb dX1_strike_74 hl (k := 2) rfl (by rw [ex14]; rfl) (by decide) rfl (fun ls hl => ?_)
  refine lv_goto (tgt := 7) hx hb dX1_strike_77 (by decide) ?_
  exact hK7 _ _ _ f0_row l1 x14 hP hD hS (lv_sub hl [1, 2, 0] rfl) hw
def wl_X1_strike_7 (v0_down_hares : Int32) (v0_down_safe : Int32) (f0_down_strength : Nat → Int32) (Q : (Nat → Int32) → Prop)  : Nat → (Nat → Int32) → Int32 → Int32 → Prop
  | 0, _, _, _ => False
  | n + 1, f0_row, l1, l2 => ((v0_down_hares ≤ l2 → (Q f0_row)) ∧ (¬ v0_down_hares ≤ l2 → wq_X10_holds   l1 l2 (fun r3 => ((r3 = 0 → ∀ x5 : Int32, x5 = 10 + l2 → vp_in l2 6 ∧ ∀ x6 : Int32, x6 = f0_down_strength l2.toNatClampNeg → vp_in x5 64 ∧ ∀ f7 : Nat → Int32, f7 = upd f0_row x5.toNatClampNeg x6 → ∀ x8 : Int32, x8 = 16 + l2 → vp_in x8 64 ∧ ∀ f9 : Nat → Int32, f9 = upd f7 x8.toNatClampNeg 0 → (wb_X1_strike_74 v0_down_hares v0_down_safe f0_down_strength Q (fun f0_row l1 l2 => wl_X1_strike_7 v0_down_hares v0_down_safe f0_down_strength Q  n f0_row l1 l2) f9 l1 l2)) ∧ (¬ r3 = 0 → ∀ x10 : Int32, x10 = f0_row (2 : Int32).toNatClampNeg → ∀ x11 : Int32, x11 = x10 ||| (1 <<< (l2 &&& 31)) → ∀ f12 : Nat → Int32, f12 = upd f0_row (2 : Int32).toNatClampNeg x11 → wq_X1_dropDebts v0_down_hares f12 l2 (fun f13 => (wb_X1_strike_74 v0_down_hares v0_down_safe f0_down_strength Q (fun f0_row l1 l2 => wl_X1_strike_7 v0_down_hares v0_down_safe f0_down_strength Q  n f0_row l1 l2) f13 l1 l2)))))))
set_option maxHeartbeats 4000000 in
set_option maxRecDepth 100000 in
theorem kl_X1_strike_7 {p : Program} {l : Launch} {e : Env} {s : State} {m : MethodId} {args : Array Value} {below : List Frame} {meth : Method} {c : Code} {A : Nat → Prop} (dC : Nat → ClassId) (dI : Nat → Nat → Nat) (cyB cyI cyJ cyP : ClassId) (a0 a0_down a0_row a0_down_strength : Nat) (z0_owedEach : Value) (z0_law : Value) (z0_down_formX : Value) (z0_down_formY : Value) (z0_down_foxX : Value) (z0_down_foxY : Value) (z0_down_seat : Value) (z0_down_debts : Value) (z0_down_near : Value) (z0_down_forms : Value) (z0_down_foxes : Value) (v0_down_hares : Int32) (v0_down_safe : Int32) (f0_down_strength : Nat → Int32) (Q : (Nat → Int32) → Prop)  (C0 : cfx p s m args meth c cX1_strike none wsX1_strike RX1 3 A (dC, dI) (kT cyB cyI cyJ cyP)) : ∀ (n : Nat) (H : Heap) (locs : List Loc) (ls : Array Slot) (f0_row : Nat → Int32) (l1 : Int32) (l2 : Int32), va_P (dC, dI) vwCl [(a0, .inr (1, [.ref a0_row, z0_owedEach, .ref a0_down, z0_law])), (a0_down, .inr (2, [z0_down_formX, z0_down_formY, z0_down_foxX, z0_down_foxY, z0_down_seat, .ref a0_down_strength, z0_down_debts, z0_down_near, z0_down_forms, .int v0_down_hares, z0_down_foxes, .int v0_down_safe])), (a0_row, .inl (cyI, 64, .inl f0_row)), (a0_down_strength, .inl (cyI, 6, .inl f0_down_strength))] H → va_D A [(a0, .inr (1, [.ref a0_row, z0_owedEach, .ref a0_down, z0_law])), (a0_down, .inr (2, [z0_down_formX, z0_down_formY, z0_down_foxX, z0_down_foxY, z0_down_seat, .ref a0_down_strength, z0_down_debts, z0_down_near, z0_down_forms, .int v0_down_hares, z0_down_foxes, .int v0_down_safe])), (a0_row, .inl (cyI, 64, .inl f0_row)), (a0_down_strength, .inl (cyI, 6, .inl f0_down_strength))] → va_S A s.heap H locs → lv_has ls 3 [(0, .ref a0), (1, .int l1), (2, .int l2)] → wl_X1_strike_7 v0_down_hares v0_down_safe f0_down_strength Q  n f0_row l1 l2 → W p l e (headSpec wsX1_strike ({ frames := 3, cells := 0, slots := 0, locals := 64 })).room s m args below meth c H locs 0 0 (MQ below (va_Qv (fun (u : (Nat → Int32)) => Q u) (cB (dC, dI) (kT cyB cyI cyJ cyP) A (fun u : (Nat → Int32) => ([(a0, .inr (1, [.ref a0_row, z0_owedEach, .ref a0_down, z0_law])), (a0_down, .inr (2, [z0_down_formX, z0_down_formY, z0_down_foxX, z0_down_foxY, z0_down_seat, .ref a0_down_strength, z0_down_debts, z0_down_near, z0_down_forms, .int v0_down_hares, z0_down_foxes, .int v0_down_safe])), (a0_row, .inl (cyI, 64, .inl u)), (a0_down_strength, .inl (cyI, 6, .inl f0_down_strength))] : va_W))) A) args s 0 0 A) (F0 m 7 ls []) := by
  obtain ⟨hx, hb, hr, hts, hown, hlocks, hml, hA, hK, hNw⟩ := id C0
  intro n
  induction n with
  | zero => intro H locs ls f0_row l1 l2 hP hD hS hl hw; exact False.elim hw
  | succ n ih =>
    intro H locs ls f0_row l1 l2 hP hD hS hl hw
    refine lv_iload_n hx hb dX1_strike_7 rfl (lv_at hl 2 rfl) ?_
    refine lv_aload_n hx hb dX1_strike_8 rfl (lv_at hl 0 rfl) ?_
    refine va_get (D := (dC, dI)) (ci := 1) (v := .ref a0_down) (C := RX1) (T := TX1) (N := 4) hx hb hts ui_X1_strike_X1 hown hK hP 0 rfl rfl 2 (by decide) (hts _ uw_X1_strike_f24) (fun _ h9 => h9) rfl dX1_strike_9 ?_
    refine va_get (D := (dC, dI)) (ci := 2) (v := .int v0_down_hares) (C := RX2) (T := TX2) (N := 12) hx hb hts ui_X1_strike_X2 hown hK hP 1 rfl rfl 9 (by decide) (hts _ uw_X1_strike_f32) (fun _ h9 => h9) rfl dX1_strike_12 ?_
    refine lv_icmp_ge (tgt := 80) hx hb dX1_strike_15 (by decide) (fun c2 => ?_) (fun c2 => ?_)
    · have hw := hw.1 c2
      exact ((W.vret hx hb hr (fun t ht hW => ⟨⟨(f0_row), rfl, hw, by rw [ht]; exact hP, va_K.moved hW.alike hK, hD⟩, hS.F ht⟩) hS.2.2 dX1_strike_80))
    · have hw := hw.2 c2
      refine lv_iload_n hx hb dX1_strike_18 rfl (lv_at hl 1 rfl) ?_
      refine lv_iload_n hx hb dX1_strike_19 rfl (lv_at hl 2 rfl) ?_
      have hPc := hP.sub (ws' := []) [] rfl
      have hDc := hD.sub (ws' := []) [] (by decide) rfl
      have hFc := va_free (wc := []) hD hS hA [] rfl
      refine va_calli (va_runSN (As := [.int l1, .int l2]) (rest := []) ⟨hx, hb, hml, hown, hts⟩ (ck_X10_holds l dC dI cyB cyI cyJ cyP  H.size    l1 l2 hw) ⟨(va_cnB 2 hts gX1_strike_X10_holds_n120 rfl rfl rfl (hNw.1 _ (List.mem_of_getElem? (i := 9) rfl)) (hts _ uw_X1_strike_iniRX10) (by decide +kernel) ⟨Nat.le_of_ble_eq_true rfl, Nat.le_of_ble_eq_true rfl⟩), (hts _ uw_X1_strike_stX10_holds), trivial⟩ ⟨cPc_blind, cPc_pre hPc hK hDc hNw⟩ rfl rfl hl.1 rfl (lv_room (Nat.le_of_ble_eq_true rfl)) dX1_strike_20 ⟨Nat.le_of_ble_eq_true rfl, Nat.le_of_ble_eq_true rfl⟩) hS (fun q _ h => hFc q h) hFc (fun r3 u t H1 locs ht hvm hw hB hz1 hk1 hS => ?_)
      obtain ⟨hP1, hK1, hD1⟩ := hB
      rw [ht] at hP1
      obtain ⟨hP, hD⟩ := va_join (wr := [(a0, .inr (1, [.ref a0_row, z0_owedEach, .ref a0_down, z0_law])), (a0_down, .inr (2, [z0_down_formX, z0_down_formY, z0_down_foxX, z0_down_foxY, z0_down_seat, .ref a0_down_strength, z0_down_debts, z0_down_near, z0_down_forms, .int v0_down_hares, z0_down_foxes, .int v0_down_safe])), (a0_row, .inl (cyI, 64, .inl f0_row)), (a0_down_strength, .inl (cyI, 6, .inl f0_down_strength))]) (w1 := []) hP hD [] [0, 1, 2, 3] rfl rfl (by decide) (by decide) hk1 hFc hP1 hD1
      have hP : va_P (dC, dI) vwCl [(a0, .inr (1, [.ref a0_row, z0_owedEach, .ref a0_down, z0_law])), (a0_down, .inr (2, [z0_down_formX, z0_down_formY, z0_down_foxX, z0_down_foxY, z0_down_seat, .ref a0_down_strength, z0_down_debts, z0_down_near, z0_down_forms, .int v0_down_hares, z0_down_foxes, .int v0_down_safe])), (a0_row, .inl (cyI, 64, .inl f0_row)), (a0_down_strength, .inl (cyI, 6, .inl f0_down_strength))] H1 := hP
      have hD : va_D A [(a0, .inr (1, [.ref a0_row, z0_owedEach, .ref a0_down, z0_law])), (a0_down, .inr (2, [z0_down_formX, z0_down_formY, z0_down_foxX, z0_down_foxY, z0_down_seat, .ref a0_down_strength, z0_down_debts, z0_down_near, z0_down_forms, .int v0_down_hares, z0_down_foxes, .int v0_down_safe])), (a0_row, .inl (cyI, 64, .inl f0_row)), (a0_down_strength, .inl (cyI, 6, .inl f0_down_strength))] := hD
      generalize H1 = H at hP hS ⊢
      refine lv_if_eq (tgt := 46) hx hb dX1_strike_23 (by decide) (fun c4 => ?_) (fun c4 => ?_)
      · have hw := hw.1 c4
        refine lv_aload_n hx hb dX1_strike_46 rfl (lv_at hl 0 rfl) ?_
        refine va_get (D := (dC, dI)) (ci := 1) (v := .ref a0_row) (C := RX1) (T := TX1) (N := 4) hx hb hts ui_X1_strike_X1 hown hK hP 0 rfl rfl 0 (by decide) (hts _ uw_X1_strike_f13) (fun _ h9 => h9) rfl dX1_strike_47 ?_
        refine lv_bipush (v := 10) hx hb dX1_strike_50 (by decide) ?_
        refine lv_iload_n hx hb dX1_strike_52 rfl (lv_at hl 2 rfl) ?_
        refine lv_iadd hx hb dX1_strike_53 ?_
        refine lv_topi (fun x5 ex5 => ?_)
        have hw := hw x5 ex5
        refine lv_aload_n hx hb dX1_strike_54 rfl (lv_at hl 0 rfl) ?_
        refine va_get (D := (dC, dI)) (ci := 1) (v := .ref a0_down) (C := RX1) (T := TX1) (N := 4) hx hb hts ui_X1_strike_X1 hown hK hP 0 rfl rfl 2 (by decide) (hts _ uw_X1_strike_f24) (fun _ h9 => h9) rfl dX1_strike_55 ?_
        refine va_get (D := (dC, dI)) (ci := 2) (v := .ref a0_down_strength) (C := RX2) (T := TX2) (N := 12) hx hb hts ui_X1_strike_X2 hown hK hP 1 rfl rfl 5 (by decide) (hts _ uw_X1_strike_f39) (fun _ h9 => h9) rfl dX1_strike_58 ?_
        refine lv_iload_n hx hb dX1_strike_61 rfl (lv_at hl 2 rfl) ?_
        obtain ⟨hi9, hw⟩ := hw
        refine va_iald hx hb hK hP 3 1 rfl rfl hi9 dX1_strike_62 ?_
        refine lv_topi (fun x6 ex6 => ?_)
        have hw := hw x6 ex6
        obtain ⟨hi9, hw⟩ := hw
        refine va_iast hx hb hK hP hD hS 2 1 rfl rfl hi9 dX1_strike_63 (fun H locs hP hD hS => ?_)
        obtain ⟨f7, ef7⟩ : ∃ y : Nat → Int32, y = upd f0_row x5.toNatClampNeg x6 := ⟨_, rfl⟩
        have hw := hw f7 ef7
        have hP : va_P (dC, dI) vwCl [(a0, .inr (1, [.ref a0_row, z0_owedEach, .ref a0_down, z0_law])), (a0_down, .inr (2, [z0_down_formX, z0_down_formY, z0_down_foxX, z0_down_foxY, z0_down_seat, .ref a0_down_strength, z0_down_debts, z0_down_near, z0_down_forms, .int v0_down_hares, z0_down_foxes, .int v0_down_safe])), (a0_row, .inl (cyI, 64, .inl f7)), (a0_down_strength, .inl (cyI, 6, .inl f0_down_strength))] H := by rw [ef7]; exact hP
        have hD : va_D A [(a0, .inr (1, [.ref a0_row, z0_owedEach, .ref a0_down, z0_law])), (a0_down, .inr (2, [z0_down_formX, z0_down_formY, z0_down_foxX, z0_down_foxY, z0_down_seat, .ref a0_down_strength, z0_down_debts, z0_down_near, z0_down_forms, .int v0_down_hares, z0_down_foxes, .int v0_down_safe])), (a0_row, .inl (cyI, 64, .inl f7)), (a0_down_strength, .inl (cyI, 6, .inl f0_down_strength))] := by rw [ef7]; exact hD
        refine lv_aload_n hx hb dX1_strike_64 rfl (lv_at hl 0 rfl) ?_
        refine va_get (D := (dC, dI)) (ci := 1) (v := .ref a0_row) (C := RX1) (T := TX1) (N := 4) hx hb hts ui_X1_strike_X1 hown hK hP 0 rfl rfl 0 (by decide) (hts _ uw_X1_strike_f13) (fun _ h9 => h9) rfl dX1_strike_65 ?_
        refine lv_bipush (v := 16) hx hb dX1_strike_68 (by decide) ?_
        refine lv_iload_n hx hb dX1_strike_70 rfl (lv_at hl 2 rfl) ?_
        refine lv_iadd hx hb dX1_strike_71 ?_
        refine lv_topi (fun x8 ex8 => ?_)
        have hw := hw x8 ex8
        refine lv_iconst (v := 0) hx hb dX1_strike_72 (by decide) ?_
        obtain ⟨hi9, hw⟩ := hw
        refine va_iast hx hb hK hP hD hS 2 1 rfl rfl hi9 dX1_strike_73 (fun H locs hP hD hS => ?_)
        obtain ⟨f9, ef9⟩ : ∃ y : Nat → Int32, y = upd f7 x8.toNatClampNeg 0 := ⟨_, rfl⟩
        have hw := hw f9 ef9
        have hP : va_P (dC, dI) vwCl [(a0, .inr (1, [.ref a0_row, z0_owedEach, .ref a0_down, z0_law])), (a0_down, .inr (2, [z0_down_formX, z0_down_formY, z0_down_foxX, z0_down_foxY, z0_down_seat, .ref a0_down_strength, z0_down_debts, z0_down_near, z0_down_forms, .int v0_down_hares, z0_down_foxes, .int v0_down_safe])), (a0_row, .inl (cyI, 64, .inl f9)), (a0_down_strength, .inl (cyI, 6, .inl f0_down_strength))] H := by rw [ef9]; exact hP
        have hD : va_D A [(a0, .inr (1, [.ref a0_row, z0_owedEach, .ref a0_down, z0_law])), (a0_down, .inr (2, [z0_down_formX, z0_down_formY, z0_down_foxX, z0_down_foxY, z0_down_seat, .ref a0_down_strength, z0_down_debts, z0_down_near, z0_down_forms, .int v0_down_hares, z0_down_foxes, .int v0_down_safe])), (a0_row, .inl (cyI, 64, .inl f9)), (a0_down_strength, .inl (cyI, 6, .inl f0_down_strength))] := by rw [ef9]; exact hD
        exact kb_X1_strike_74 dC dI cyB cyI cyJ cyP a0 a0_down a0_row a0_down_strength z0_owedEach z0_law z0_down_formX z0_down_formY z0_down_foxX z0_down_foxY z0_down_seat z0_down_debts z0_down_near z0_down_forms z0_down_foxes v0_down_hares v0_down_safe f0_down_strength Q (wl_X1_strike_7 v0_down_hares v0_down_safe f0_down_strength Q  n) ih C0 _ _ _ f9 l1 l2 hP hD hS (lv_sub hl [0, 1, 2] rfl) hw
      · have hw := hw.2 c4
        refine lv_aload_n hx hb dX1_strike_26 rfl (lv_at hl 0 rfl) ?_
        refine va_get (D := (dC, dI)) (ci := 1) (v := .ref a0_row) (C := RX1) (T := TX1) (N := 4) hx hb hts ui_X1_strike_X1 hown hK hP 0 rfl rfl 0 (by decide) (hts _ uw_X1_strike_f13) (fun _ h9 => h9) rfl dX1_strike_27 ?_
        refine lv_iconst (v := 2) hx hb dX1_strike_30 (by decide) ?_
        refine lv_dup2_11 hx hb dX1_strike_31 rfl rfl ?_
        refine va_iald hx hb hK hP 2 1 rfl rfl (vin (by decide)) dX1_strike_32 ?_
        refine lv_topi (fun x10 ex10 => ?_)
        have hw := hw x10 ex10
        refine lv_iconst (v := 1) hx hb dX1_strike_33 (by decide) ?_
        refine lv_iload_n hx hb dX1_strike_34 rfl (lv_at hl 2 rfl) ?_
        refine lv_ishl hx hb dX1_strike_35 ?_
        refine lv_ior hx hb dX1_strike_36 ?_
        refine lv_topi (fun x11 ex11 => ?_)
        have hw := hw x11 ex11
        refine va_iast hx hb hK hP hD hS 2 1 rfl rfl (vin (by decide)) dX1_strike_37 (fun H locs hP hD hS => ?_)
        obtain ⟨f12, ef12⟩ : ∃ y : Nat → Int32, y = upd f0_row (2 : Int32).toNatClampNeg x11 := ⟨_, rfl⟩
        have hw := hw f12 ef12
        have hP : va_P (dC, dI) vwCl [(a0, .inr (1, [.ref a0_row, z0_owedEach, .ref a0_down, z0_law])), (a0_down, .inr (2, [z0_down_formX, z0_down_formY, z0_down_foxX, z0_down_foxY, z0_down_seat, .ref a0_down_strength, z0_down_debts, z0_down_near, z0_down_forms, .int v0_down_hares, z0_down_foxes, .int v0_down_safe])), (a0_row, .inl (cyI, 64, .inl f12)), (a0_down_strength, .inl (cyI, 6, .inl f0_down_strength))] H := by rw [ef12]; exact hP
        have hD : va_D A [(a0, .inr (1, [.ref a0_row, z0_owedEach, .ref a0_down, z0_law])), (a0_down, .inr (2, [z0_down_formX, z0_down_formY, z0_down_foxX, z0_down_foxY, z0_down_seat, .ref a0_down_strength, z0_down_debts, z0_down_near, z0_down_forms, .int v0_down_hares, z0_down_foxes, .int v0_down_safe])), (a0_row, .inl (cyI, 64, .inl f12)), (a0_down_strength, .inl (cyI, 6, .inl f0_down_strength))] := by rw [ef12]; exact hD
        refine lv_aload_n hx hb dX1_strike_38 rfl (lv_at hl 0 rfl) ?_
        refine lv_iload_n hx hb dX1_strike_39 rfl (lv_at hl 2 rfl) ?_
        have hPc := hP.sub (ws' := [(a0, .inr (1, [.ref a0_row, z0_owedEach, .ref a0_down, z0_law])), (a0_down, .inr (2, [z0_down_formX, z0_down_formY, z0_down_foxX, z0_down_foxY, z0_down_seat, .ref a0_down_strength, z0_down_debts, z0_down_near, z0_down_forms, .int v0_down_hares, z0_down_foxes, .int v0_down_safe])), (a0_row, .inl (cyI, 64, .inl f12))]) [0, 1, 2] rfl
        have hDc := hD.sub (ws' := [(a0, .inr (1, [.ref a0_row, z0_owedEach, .ref a0_down, z0_law])), (a0_down, .inr (2, [z0_down_formX, z0_down_formY, z0_down_foxX, z0_down_foxY, z0_down_seat, .ref a0_down_strength, z0_down_debts, z0_down_near, z0_down_forms, .int v0_down_hares, z0_down_foxes, .int v0_down_safe])), (a0_row, .inl (cyI, 64, .inl f12))]) [0, 1, 2] (by decide) rfl
        have hFc := va_free (wc := [(a0, .inr (1, [.ref a0_row, z0_owedEach, .ref a0_down, z0_law])), (a0_down, .inr (2, [z0_down_formX, z0_down_formY, z0_down_foxX, z0_down_foxY, z0_down_seat, .ref a0_down_strength, z0_down_debts, z0_down_near, z0_down_forms, .int v0_down_hares, z0_down_foxes, .int v0_down_safe])), (a0_row, .inl (cyI, 64, .inl f12))]) hD hS hA [0, 1, 2] rfl
        refine va_callv (va_runV (As := [.int l2]) (rest := []) ⟨hx, hb, hml, hown, hts⟩ (ck_X1_dropDebts l dC dI cyB cyI cyJ cyP a0 a0_down a0_row H.size (z0_owedEach) (z0_law) (z0_down_formX) (z0_down_formY) (z0_down_foxX) (z0_down_foxY) (z0_down_seat) (.ref a0_down_strength) (z0_down_debts) (z0_down_near) (z0_down_forms) (z0_down_foxes) (.int v0_down_safe) v0_down_hares f12 l2 hw) (cwV 1 hts gX1_strike_X1_dropDebts rfl rfl rfl (by decide +kernel) ⟨Nat.le_of_ble_eq_true rfl, Nat.le_of_ble_eq_true rfl⟩) ⟨cPc_blind, va_recv hK hPc (ci := 1) (q0 := 0) rfl rfl, cPc_pre hPc hK hDc hNw⟩ rfl rfl hl.1 rfl (lv_room (Nat.le_of_ble_eq_true rfl)) dX1_strike_40 ⟨Nat.le_of_ble_eq_true rfl, Nat.le_of_ble_eq_true rfl⟩) hS (fun q _ h => hFc q h) hFc (fun u t H1 locs ht hvm hw hB hz1 hk1 hS => ?_)
        obtain ⟨f13, rfl⟩ : ∃ z, z = u := ⟨_, rfl⟩
        obtain ⟨hP1, hK1, hD1⟩ := hB
        rw [ht] at hP1
        obtain ⟨hP, hD⟩ := va_join (wr := [(a0_down_strength, .inl (cyI, 6, .inl f0_down_strength))]) (w1 := [(a0, .inr (1, [.ref a0_row, z0_owedEach, .ref a0_down, z0_law])), (a0_down, .inr (2, [z0_down_formX, z0_down_formY, z0_down_foxX, z0_down_foxY, z0_down_seat, .ref a0_down_strength, z0_down_debts, z0_down_near, z0_down_forms, .int v0_down_hares, z0_down_foxes, .int v0_down_safe])), (a0_row, .inl (cyI, 64, .inl f13))]) hP hD [0, 1, 2] [3] rfl rfl (by decide) (by decide) hk1 hFc hP1 hD1
        have hP : va_P (dC, dI) vwCl [(a0, .inr (1, [.ref a0_row, z0_owedEach, .ref a0_down, z0_law])), (a0_down, .inr (2, [z0_down_formX, z0_down_formY, z0_down_foxX, z0_down_foxY, z0_down_seat, .ref a0_down_strength, z0_down_debts, z0_down_near, z0_down_forms, .int v0_down_hares, z0_down_foxes, .int v0_down_safe])), (a0_row, .inl (cyI, 64, .inl f13)), (a0_down_strength, .inl (cyI, 6, .inl f0_down_strength))] H1 := hP.sub [1, 2, 3, 0] rfl
        have hD : va_D A [(a0, .inr (1, [.ref a0_row, z0_owedEach, .ref a0_down, z0_law])), (a0_down, .inr (2, [z0_down_formX, z0_down_formY, z0_down_foxX, z0_down_foxY, z0_down_seat, .ref a0_down_strength, z0_down_debts, z0_down_near, z0_down_forms, .int v0_down_hares, z0_down_foxes, .int v0_down_safe])), (a0_row, .inl (cyI, 64, .inl f13)), (a0_down_strength, .inl (cyI, 6, .inl f0_down_strength))] := hD.sub [1, 2, 3, 0] (by decide) rfl
        generalize H1 = H at hP hS ⊢
        refine lv_goto (tgt := 74) hx hb dX1_strike_43 (by decide) ?_
        exact kb_X1_strike_74 dC dI cyB cyI cyJ cyP a0 a0_down a0_row a0_down_strength z0_owedEach z0_law z0_down_formX z0_down_formY z0_down_foxX z0_down_foxY z0_down_seat z0_down_debts z0_down_near z0_down_forms z0_down_foxes v0_down_hares v0_down_safe f0_down_strength Q (wl_X1_strike_7 v0_down_hares v0_down_safe f0_down_strength Q  n) ih C0 _ _ _ f13 l1 l2 hP hD hS (lv_sub hl [0, 1, 2] rfl) hw
def wq_X1_strike (v0_down_hares : Int32) (v0_down_safe : Int32) (f0_down_strength : Nat → Int32) (f0_row : Nat → Int32)  (Q : (Nat → Int32) → Prop) : Prop := wq_X1_endangered v0_down_hares v0_down_safe f0_row   (fun r1 => (∃ k9 : Nat, wl_X1_strike_7 v0_down_hares v0_down_safe f0_down_strength Q  k9 f0_row r1 0))
set_option maxHeartbeats 4000000 in
set_option maxRecDepth 100000 in
theorem ck_X1_strike (l : Launch) (dC : Nat → ClassId) (dI : Nat → Nat → Nat) (cyB cyI cyJ cyP : ClassId) (a0 a0_down a0_row a0_down_strength : Nat) (sz : Nat) (z0_owedEach : Value) (z0_law : Value) (z0_down_formX : Value) (z0_down_formY : Value) (z0_down_foxX : Value) (z0_down_foxY : Value) (z0_down_seat : Value) (z0_down_debts : Value) (z0_down_near : Value) (z0_down_forms : Value) (z0_down_foxes : Value) (v0_down_hares : Int32) (v0_down_safe : Int32) (f0_down_strength : Nat → Int32) (f0_row : Nat → Int32)  {Q : (Nat → Int32) → Prop} (hw : wq_X1_strike v0_down_hares v0_down_safe f0_down_strength f0_row  Q) : Met l yX1_strike wsX1_strike ({ frames := 3, cells := 0, slots := 0, locals := 64 }) (va_Pc [.ref a0] (cPc (dC, dI) (kT cyB cyI cyJ cyP) [(a0, .inr (1, [.ref a0_row, z0_owedEach, .ref a0_down, z0_law])), (a0_down, .inr (2, [z0_down_formX, z0_down_formY, z0_down_foxX, z0_down_foxY, z0_down_seat, .ref a0_down_strength, z0_down_debts, z0_down_near, z0_down_forms, .int v0_down_hares, z0_down_foxes, .int v0_down_safe])), (a0_row, .inl (cyI, 64, .inl f0_row)), (a0_down_strength, .inl (cyI, 6, .inl f0_down_strength))] sz)) (va_Qv (fun (u : (Nat → Int32)) => Q u) (cB (dC, dI) (kT cyB cyI cyJ cyP) (va_A [(a0, .inr (1, [.ref a0_row, z0_owedEach, .ref a0_down, z0_law])), (a0_down, .inr (2, [z0_down_formX, z0_down_formY, z0_down_foxX, z0_down_foxY, z0_down_seat, .ref a0_down_strength, z0_down_debts, z0_down_near, z0_down_forms, .int v0_down_hares, z0_down_foxes, .int v0_down_safe])), (a0_row, .inl (cyI, 64, .inl f0_row)), (a0_down_strength, .inl (cyI, 6, .inl f0_down_strength))] sz) (fun u : (Nat → Int32) => ([(a0, .inr (1, [.ref a0_row, z0_owedEach, .ref a0_down, z0_law])), (a0_down, .inr (2, [z0_down_formX, z0_down_formY, z0_down_foxX, z0_down_foxY, z0_down_seat, .ref a0_down_strength, z0_down_debts, z0_down_near, z0_down_forms, .int v0_down_hares, z0_down_foxes, .int v0_down_safe])), (a0_row, .inl (cyI, 64, .inl u)), (a0_down_strength, .inl (cyI, 6, .inl f0_down_strength))] : va_W))) (va_A [(a0, .inr (1, [.ref a0_row, z0_owedEach, .ref a0_down, z0_law])), (a0_down, .inr (2, [z0_down_formX, z0_down_formY, z0_down_foxX, z0_down_foxY, z0_down_seat, .ref a0_down_strength, z0_down_debts, z0_down_near, z0_down_forms, .int v0_down_hares, z0_down_foxes, .int v0_down_safe])), (a0_row, .inl (cyI, 64, .inl f0_row)), (a0_down_strength, .inl (cyI, 6, .inl f0_down_strength))] sz)) 0 0 (va_A [(a0, .inr (1, [.ref a0_row, z0_owedEach, .ref a0_down, z0_law])), (a0_down, .inr (2, [z0_down_formX, z0_down_formY, z0_down_foxX, z0_down_foxY, z0_down_seat, .ref a0_down_strength, z0_down_debts, z0_down_near, z0_down_forms, .int v0_down_hares, z0_down_foxes, .int v0_down_safe])), (a0_row, .inl (cyI, 64, .inl f0_row)), (a0_down_strength, .inl (cyI, 6, .inl f0_down_strength))] sz) := by
  refine Met.ofW (cc := cX1_strike) (maxL := 3) (ret := none) (by decide) rfl ?_
  intro p e s m args below meth c s₁ B hml hv
  obtain ⟨rfl, hsz, hP, hK, hD0, hNw⟩ := hv
  have hx := B.exec
  have hb := B.bytes
  have hr := B.returns
  have hts := atoms_spec (ws := wsX1_strike) B.pre
  have hown : s.vm.findClass RX1 = some m.cls := findClass_of_methodNamed B.named
  have hlocks := B.notSynchronized
  subst hsz
  have hD := hD0.self (sz := s.heap.size)
  generalize hAe : va_A [(a0, .inr (1, [.ref a0_row, z0_owedEach, .ref a0_down, z0_law])), (a0_down, .inr (2, [z0_down_formX, z0_down_formY, z0_down_foxX, z0_down_foxY, z0_down_seat, .ref a0_down_strength, z0_down_debts, z0_down_near, z0_down_forms, .int v0_down_hares, z0_down_foxes, .int v0_down_safe])), (a0_row, .inl (cyI, 64, .inl f0_row)), (a0_down_strength, .inl (cyI, 6, .inl f0_down_strength))] s.heap.size = A at hD ⊢
  have hA : ∀ q : Nat, s.heap.size ≤ q → A q := fun q h => by rw [← hAe]; exact Or.inr h
  have hS : va_S A s.heap s.heap [] := va_S.rf
  have hP : va_P (dC, dI) vwCl [(a0, .inr (1, [.ref a0_row, z0_owedEach, .ref a0_down, z0_law])), (a0_down, .inr (2, [z0_down_formX, z0_down_formY, z0_down_foxX, z0_down_foxY, z0_down_seat, .ref a0_down_strength, z0_down_debts, z0_down_near, z0_down_forms, .int v0_down_hares, z0_down_foxes, .int v0_down_safe])), (a0_row, .inl (cyI, 64, .inl f0_row)), (a0_down_strength, .inl (cyI, 6, .inl f0_down_strength))] s.heap := hP
  have hl := lv_entry ([.ref a0]) (n := 3) (Nat.le_of_ble_eq_true rfl)
  rw [lg_entry_eq]
  generalize (lg_sl ([.ref a0]) ++ List.replicate (3 - (lg_sl ([.ref a0])).length) Slot.unset).toArray = ls at hl ⊢
  have hl : lv_has ls 3 [(0, .ref a0)] := hl
  have C0 : cfx p s m _ meth c cX1_strike none wsX1_strike RX1 3 A (dC, dI) (kT cyB cyI cyJ cyP) := ⟨hx, hb, hr, hts, hown, hlocks, hml, hA, hK, hNw⟩
  clear hAe
  obtain ⟨H, hH⟩ : ∃ H, H = s.heap := ⟨_, rfl⟩
  rw [← hH] at hP ⊢
  have hS : va_S A s.heap H [] := by rw [hH]; exact va_S.rf
  have hS := hS
  refine lv_aload_n hx hb dX1_strike_0 rfl (lv_at hl 0 rfl) ?_
  have hPc := hP.sub (ws' := [(a0, .inr (1, [.ref a0_row, z0_owedEach, .ref a0_down, z0_law])), (a0_down, .inr (2, [z0_down_formX, z0_down_formY, z0_down_foxX, z0_down_foxY, z0_down_seat, .ref a0_down_strength, z0_down_debts, z0_down_near, z0_down_forms, .int v0_down_hares, z0_down_foxes, .int v0_down_safe])), (a0_row, .inl (cyI, 64, .inl f0_row))]) [0, 1, 2] rfl
  have hDc := hD.sub (ws' := [(a0, .inr (1, [.ref a0_row, z0_owedEach, .ref a0_down, z0_law])), (a0_down, .inr (2, [z0_down_formX, z0_down_formY, z0_down_foxX, z0_down_foxY, z0_down_seat, .ref a0_down_strength, z0_down_debts, z0_down_near, z0_down_forms, .int v0_down_hares, z0_down_foxes, .int v0_down_safe])), (a0_row, .inl (cyI, 64, .inl f0_row))]) [0, 1, 2] (by decide) rfl
  have hFc := va_free (wc := [(a0, .inr (1, [.ref a0_row, z0_owedEach, .ref a0_down, z0_law])), (a0_down, .inr (2, [z0_down_formX, z0_down_formY, z0_down_foxX, z0_down_foxY, z0_down_seat, .ref a0_down_strength, z0_down_debts, z0_down_near, z0_down_forms, .int v0_down_hares, z0_down_foxes, .int v0_down_safe])), (a0_row, .inl (cyI, 64, .inl f0_row))]) hD hS hA [0, 1, 2] rfl
  refine va_calli (va_runV (As := []) (rest := []) ⟨hx, hb, hml, hown, hts⟩ (ck_X1_endangered l dC dI cyB cyI cyJ cyP a0 a0_down a0_row H.size (z0_owedEach) (z0_law) (z0_down_formX) (z0_down_formY) (z0_down_foxX) (z0_down_foxY) (z0_down_seat) (.ref a0_down_strength) (z0_down_debts) (z0_down_near) (z0_down_forms) (z0_down_foxes) v0_down_hares v0_down_safe f0_row   hw) (cwV 0 hts gX1_strike_X1_endangered rfl rfl rfl (by decide +kernel) ⟨Nat.le_of_ble_eq_true rfl, Nat.le_of_ble_eq_true rfl⟩) ⟨cPc_blind, va_recv hK hPc (ci := 1) (q0 := 0) rfl rfl, cPc_pre hPc hK hDc hNw⟩ rfl rfl hl.1 rfl (lv_room (Nat.le_of_ble_eq_true rfl)) dX1_strike_1 ⟨Nat.le_of_ble_eq_true rfl, Nat.le_of_ble_eq_true rfl⟩) hS (fun q _ h => hFc q h) hFc (fun r1 u t H1 locs ht hvm hw hB hz1 hk1 hS => ?_)
  obtain ⟨hP1, hK1, hD1⟩ := hB
  rw [ht] at hP1
  obtain ⟨hP, hD⟩ := va_join (wr := [(a0_down_strength, .inl (cyI, 6, .inl f0_down_strength))]) (w1 := [(a0, .inr (1, [.ref a0_row, z0_owedEach, .ref a0_down, z0_law])), (a0_down, .inr (2, [z0_down_formX, z0_down_formY, z0_down_foxX, z0_down_foxY, z0_down_seat, .ref a0_down_strength, z0_down_debts, z0_down_near, z0_down_forms, .int v0_down_hares, z0_down_foxes, .int v0_down_safe])), (a0_row, .inl (cyI, 64, .inl f0_row))]) hP hD [0, 1, 2] [3] rfl rfl (by decide) (by decide) hk1 hFc hP1 hD1
  have hP : va_P (dC, dI) vwCl [(a0, .inr (1, [.ref a0_row, z0_owedEach, .ref a0_down, z0_law])), (a0_down, .inr (2, [z0_down_formX, z0_down_formY, z0_down_foxX, z0_down_foxY, z0_down_seat, .ref a0_down_strength, z0_down_debts, z0_down_near, z0_down_forms, .int v0_down_hares, z0_down_foxes, .int v0_down_safe])), (a0_row, .inl (cyI, 64, .inl f0_row)), (a0_down_strength, .inl (cyI, 6, .inl f0_down_strength))] H1 := hP.sub [1, 2, 3, 0] rfl
  have hD : va_D A [(a0, .inr (1, [.ref a0_row, z0_owedEach, .ref a0_down, z0_law])), (a0_down, .inr (2, [z0_down_formX, z0_down_formY, z0_down_foxX, z0_down_foxY, z0_down_seat, .ref a0_down_strength, z0_down_debts, z0_down_near, z0_down_forms, .int v0_down_hares, z0_down_foxes, .int v0_down_safe])), (a0_row, .inl (cyI, 64, .inl f0_row)), (a0_down_strength, .inl (cyI, 6, .inl f0_down_strength))] := hD.sub [1, 2, 3, 0] (by decide) rfl
  generalize H1 = H at hP hS ⊢
  refine lv_istore_n (lv' := [(1, .int r1), (0, .ref a0)]) hx hb dX1_strike_4 rfl hl (by decide) rfl (fun ls hl => ?_)
  refine lv_iconst (v := 0) hx hb dX1_strike_5 (by decide) ?_
  refine lv_istore_n (lv' := [(2, .int 0), (1, .int r1), (0, .ref a0)]) hx hb dX1_strike_6 rfl hl (by decide) rfl (fun ls hl => ?_)
  obtain ⟨n9, hw⟩ := hw
  exact kl_X1_strike_7 dC dI cyB cyI cyJ cyP a0 a0_down a0_row a0_down_strength z0_owedEach z0_law z0_down_formX z0_down_formY z0_down_foxX z0_down_foxY z0_down_seat z0_down_debts z0_down_near z0_down_forms z0_down_foxes v0_down_hares v0_down_safe f0_down_strength Q  C0 n9 _ _ _ f0_row r1 0 hP hD hS (lv_sub hl [2, 1, 0] rfl) hw
theorem ui_X1_passDay_X1 : ∀ w ∈ u_ws RX1 TX1 4, w ∈ wsX1_passDay := by decide +kernel
theorem ui_X1_passDay_X2 : ∀ w ∈ u_ws RX2 TX2 12, w ∈ wsX1_passDay := by decide +kernel
theorem uw_X1_passDay_f13 : (.fieldLink RX1 13 "MarchHares$Days" "row" "[I" : Cond) ∈ wsX1_passDay := by decide +kernel
theorem uw_X1_passDay_f24 : (.fieldLink RX1 24 "MarchHares$Days" "down" "LMarchHares$Down;" : Cond) ∈ wsX1_passDay := by decide +kernel
theorem uw_X1_passDay_f32 : (.fieldLink RX1 32 "MarchHares$Down" "hares" "I" : Cond) ∈ wsX1_passDay := by decide +kernel
theorem uw_X1_passDay_iniRX10 : (.initialized RX10 : Cond) ∈ wsX1_passDay := by decide +kernel
theorem uw_X1_passDay_stX10_holds : (.static yX10_holds : Cond) ∈ wsX1_passDay := by decide +kernel
def wb_X1_passDay_46 (v0_down_hares : Int32) (v0_down_safe : Int32) (f0_down_strength : Nat → Int32) (Q : (Nat → Int32) → Prop) (K2 : (Nat → Int32) → Int32 → Prop) (f0_row : Nat → Int32) (l1 : Int32) : Prop := ∀ x21 : Int32, x21 = l1 + 1 → (K2 f0_row x21)
set_option maxHeartbeats 4000000 in
set_option maxRecDepth 100000 in
theorem kb_X1_passDay_46 {p : Program} {l : Launch} {e : Env} {s : State} {m : MethodId} {args : Array Value} {below : List Frame} {meth : Method} {c : Code} {A : Nat → Prop} (dC : Nat → ClassId) (dI : Nat → Nat → Nat) (cyB cyI cyJ cyP : ClassId) (a0 a0_down a0_row a0_down_strength : Nat) (z0_owedEach : Value) (z0_law : Value) (z0_down_formX : Value) (z0_down_formY : Value) (z0_down_foxX : Value) (z0_down_foxY : Value) (z0_down_seat : Value) (z0_down_debts : Value) (z0_down_near : Value) (z0_down_forms : Value) (z0_down_foxes : Value) (v0_down_hares : Int32) (v0_down_safe : Int32) (f0_down_strength : Nat → Int32) (Q : (Nat → Int32) → Prop) (K2 : (Nat → Int32) → Int32 → Prop) (hK2 : ∀ (H : Heap) (locs : List Loc) (ls : Array Slot) (f0_row : Nat → Int32) (l1 : Int32), va_P (dC, dI) vwCl [(a0, .inr (1, [.ref a0_row, z0_owedEach, .ref a0_down, z0_law])), (a0_down, .inr (2, [z0_down_formX, z0_down_formY, z0_down_foxX, z0_down_foxY, z0_down_seat, .ref a0_down_strength, z0_down_debts, z0_down_near, z0_down_forms, .int v0_down_hares, z0_down_foxes, .int v0_down_safe])), (a0_row, .inl (cyI, 64, .inl f0_row)), (a0_down_strength, .inl (cyI, 6, .inl f0_down_strength))] H → va_D A [(a0, .inr (1, [.ref a0_row, z0_owedEach, .ref a0_down, z0_law])), (a0_down, .inr (2, [z0_down_formX, z0_down_formY, z0_down_foxX, z0_down_foxY, z0_down_seat, .ref a0_down_strength, z0_down_debts, z0_down_near, z0_down_forms, .int v0_down_hares, z0_down_foxes, .int v0_down_safe])), (a0_row, .inl (cyI, 64, .inl f0_row)), (a0_down_strength, .inl (cyI, 6, .inl f0_down_strength))] → va_S A s.heap H locs → lv_has ls 2 [(0, .ref a0), (1, .int l1)] → K2 f0_row l1 → W p l e (headSpec wsX1_passDay ({ frames := 4, cells := 0, slots := 0, locals := 86 })).room s m args below meth c H locs 0 0 (MQ below (va_Qv (fun (u : (Nat → Int32)) => Q u) (cB (dC, dI) (kT cyB cyI cyJ cyP) A (fun u : (Nat → Int32) => ([(a0, .inr (1, [.ref a0_row, z0_owedEach, .ref a0_down, z0_law])), (a0_down, .inr (2, [z0_down_formX, z0_down_formY, z0_down_foxX, z0_down_foxY, z0_down_seat, .ref a0_down_strength, z0_down_debts, z0_down_near, z0_down_forms, .int v0_down_hares, z0_down_foxes, .int v0_down_safe])), (a0_row, .inl (cyI, 64, .inl u)), (a0_down_strength, .inl (cyI, 6, .inl f0_down_strength))] : va_W))) A) args s 0 0 A) (F0 m 2 ls [])) (C0 : cfx p s m args meth c cX1_passDay none wsX1_passDay RX1 2 A (dC, dI) (kT cyB cyI cyJ cyP)) : ∀ (H : Heap) (locs : List Loc) (ls : Array Slot) (f0_row : Nat → Int32) (l1 : Int32), va_P (dC, dI) vwCl [(a0, .inr (1, [.ref a0_row, z0_owedEach, .ref a0_down, z0_law])), (a0_down, .inr (2, [z0_down_formX, z0_down_formY, z0_down_foxX, z0_down_foxY, z0_down_seat, .ref a0_down_strength, z0_down_debts, z0_down_near, z0_down_forms, .int v0_down_hares, z0_down_foxes, .int v0_down_safe])), (a0_row, .inl (cyI, 64, .inl f0_row)), (a0_down_strength, .inl (cyI, 6, .inl f0_down_strength))] H → va_D A [(a0, .inr (1, [.ref a0_row, z0_owedEach, .ref a0_down, z0_law])), (a0_down, .inr (2, [z0_down_formX, z0_down_formY, z0_down_foxX, z0_down_foxY, z0_down_seat, .ref a0_down_strength, z0_down_debts, z0_down_near, z0_down_forms, .int v0_down_hares, z0_down_foxes, .int v0_down_safe])), (a0_row, .inl (cyI, 64, .inl f0_row)), (a0_down_strength, .inl (cyI, 6, .inl f0_down_strength))] → va_S A s.heap H locs → lv_has ls 2 [(0, .ref a0), (1, .int l1)] → wb_X1_passDay_46 v0_down_hares v0_down_safe f0_down_strength Q K2 f0_row l1 → W p l e (headSpec wsX1_passDay ({ frames := 4, cells := 0, slots := 0, locals := 86 })).room s m args below meth c H locs 0 0 (MQ below (va_Qv (fun (u : (Nat → Int32)) => Q u) (cB (dC, dI) (kT cyB cyI cyJ cyP) A (fun u : (Nat → Int32) => ([(a0, .inr (1, [.ref a0_row, z0_owedEach, .ref a0_down, z0_law])), (a0_down, .inr (2, [z0_down_formX, z0_down_formY, z0_down_foxX, z0_down_foxY, z0_down_seat, .ref a0_down_strength, z0_down_debts, z0_down_near, z0_down_forms, .int v0_down_hares, z0_down_foxes, .int v0_down_safe])), (a0_row, .inl (cyI, 64, .inl u)), (a0_down_strength, .inl (cyI, 6, .inl f0_down_strength))] : va_W))) A) args s 0 0 A) (F0 m 46 ls []) := by
  obtain ⟨hx, hb, hr, hts, hown, hlocks, hml, hA, hK, hNw⟩ := id C0
  intro H locs ls f0_row l1 hP hD hS hl hw
  obtain ⟨x21, ex21⟩ : ∃ y : Int32, y = l1 + 1 := ⟨_, rfl⟩
  have hw := hw x21 ex21
  refine lv_iinc (v := x21) (lv' := [(1, .int x21), (0, .ref a0)]) hx hb dX1_passDay_46 hl (k := 1) rfl (by rw [ex21]; rfl) (by decide) rfl (fun ls hl => ?_)
  refine lv_goto (tgt := 2) hx hb dX1_passDay_49 (by decide) ?_
  exact hK2 _ _ _ f0_row x21 hP hD hS (lv_sub hl [1, 0] rfl) hw
def wl_X1_passDay_2 (v0_down_hares : Int32) (v0_down_safe : Int32) (f0_down_strength : Nat → Int32) (Q : (Nat → Int32) → Prop)  : Nat → (Nat → Int32) → Int32 → Prop
  | 0, _, _ => False
  | n + 1, f0_row, l1 => ((v0_down_hares ≤ l1 → ∀ f2 : Nat → Int32, f2 = upd f0_row (3 : Int32).toNatClampNeg 0 → ∀ x3 : Int32, x3 = f2 (0 : Int32).toNatClampNeg → ∀ x4 : Int32, x4 = x3 + 1 → ∀ f5 : Nat → Int32, f5 = upd f2 (0 : Int32).toNatClampNeg x4 → ∀ x6 : Int32, x6 = f5 (0 : Int32).toNatClampNeg → ((x6 ≤ 31 → (Q f5)) ∧ (¬ x6 ≤ 31 → wq_X1_strike v0_down_hares v0_down_safe f0_down_strength f5  (fun f8 => ∀ f9 : Nat → Int32, f9 = upd f8 (0 : Int32).toNatClampNeg 1 → ∀ x10 : Int32, x10 = f9 (1 : Int32).toNatClampNeg → ∀ x11 : Int32, x11 = x10 + 1 → ∀ f12 : Nat → Int32, f12 = upd f9 (1 : Int32).toNatClampNeg x11 → (Q f12))))) ∧ (¬ v0_down_hares ≤ l1 → ∀ x13 : Int32, x13 = f0_row (2 : Int32).toNatClampNeg → ∀ x14 : Int32, x14 = f0_row (3 : Int32).toNatClampNeg → wq_X10_holds   (x13 ||| x14) l1 (fun r15 => ((¬ r15 = 0 → (wb_X1_passDay_46 v0_down_hares v0_down_safe f0_down_strength Q (fun f0_row l1 => wl_X1_passDay_2 v0_down_hares v0_down_safe f0_down_strength Q  n f0_row l1) f0_row l1)) ∧ (r15 = 0 → ∀ x17 : Int32, x17 = 16 + l1 → vp_in x17 64 ∧ ∀ x18 : Int32, x18 = f0_row x17.toNatClampNeg → ∀ x19 : Int32, x19 = x18 + 1 → vp_in x17 64 ∧ ∀ f20 : Nat → Int32, f20 = upd f0_row x17.toNatClampNeg x19 → (wb_X1_passDay_46 v0_down_hares v0_down_safe f0_down_strength Q (fun f0_row l1 => wl_X1_passDay_2 v0_down_hares v0_down_safe f0_down_strength Q  n f0_row l1) f20 l1))))))
set_option maxHeartbeats 4000000 in
set_option maxRecDepth 100000 in
theorem kl_X1_passDay_2 {p : Program} {l : Launch} {e : Env} {s : State} {m : MethodId} {args : Array Value} {below : List Frame} {meth : Method} {c : Code} {A : Nat → Prop} (dC : Nat → ClassId) (dI : Nat → Nat → Nat) (cyB cyI cyJ cyP : ClassId) (a0 a0_down a0_row a0_down_strength : Nat) (z0_owedEach : Value) (z0_law : Value) (z0_down_formX : Value) (z0_down_formY : Value) (z0_down_foxX : Value) (z0_down_foxY : Value) (z0_down_seat : Value) (z0_down_debts : Value) (z0_down_near : Value) (z0_down_forms : Value) (z0_down_foxes : Value) (v0_down_hares : Int32) (v0_down_safe : Int32) (f0_down_strength : Nat → Int32) (Q : (Nat → Int32) → Prop)  (C0 : cfx p s m args meth c cX1_passDay none wsX1_passDay RX1 2 A (dC, dI) (kT cyB cyI cyJ cyP)) : ∀ (n : Nat) (H : Heap) (locs : List Loc) (ls : Array Slot) (f0_row : Nat → Int32) (l1 : Int32), va_P (dC, dI) vwCl [(a0, .inr (1, [.ref a0_row, z0_owedEach, .ref a0_down, z0_law])), (a0_down, .inr (2, [z0_down_formX, z0_down_formY, z0_down_foxX, z0_down_foxY, z0_down_seat, .ref a0_down_strength, z0_down_debts, z0_down_near, z0_down_forms, .int v0_down_hares, z0_down_foxes, .int v0_down_safe])), (a0_row, .inl (cyI, 64, .inl f0_row)), (a0_down_strength, .inl (cyI, 6, .inl f0_down_strength))] H → va_D A [(a0, .inr (1, [.ref a0_row, z0_owedEach, .ref a0_down, z0_law])), (a0_down, .inr (2, [z0_down_formX, z0_down_formY, z0_down_foxX, z0_down_foxY, z0_down_seat, .ref a0_down_strength, z0_down_debts, z0_down_near, z0_down_forms, .int v0_down_hares, z0_down_foxes, .int v0_down_safe])), (a0_row, .inl (cyI, 64, .inl f0_row)), (a0_down_strength, .inl (cyI, 6, .inl f0_down_strength))] → va_S A s.heap H locs → lv_has ls 2 [(0, .ref a0), (1, .int l1)] → wl_X1_passDay_2 v0_down_hares v0_down_safe f0_down_strength Q  n f0_row l1 → W p l e (headSpec wsX1_passDay ({ frames := 4, cells := 0, slots := 0, locals := 86 })).room s m args below meth c H locs 0 0 (MQ below (va_Qv (fun (u : (Nat → Int32)) => Q u) (cB (dC, dI) (kT cyB cyI cyJ cyP) A (fun u : (Nat → Int32) => ([(a0, .inr (1, [.ref a0_row, z0_owedEach, .ref a0_down, z0_law])), (a0_down, .inr (2, [z0_down_formX, z0_down_formY, z0_down_foxX, z0_down_foxY, z0_down_seat, .ref a0_down_strength, z0_down_debts, z0_down_near, z0_down_forms, .int v0_down_hares, z0_down_foxes, .int v0_down_safe])), (a0_row, .inl (cyI, 64, .inl u)), (a0_down_strength, .inl (cyI, 6, .inl f0_down_strength))] : va_W))) A) args s 0 0 A) (F0 m 2 ls []) := by
  obtain ⟨hx, hb, hr, hts, hown, hlocks, hml, hA, hK, hNw⟩ := id C0
  intro n
  induction n with
  | zero => intro H locs ls f0_row l1 hP hD hS hl hw; exact False.elim hw
  | succ n ih =>
    intro H locs ls f0_row l1 hP hD hS hl hw
    refine lv_iload_n hx hb dX1_passDay_2 rfl (lv_at hl 1 rfl) ?_
    refine lv_aload_n hx hb dX1_passDay_3 rfl (lv_at hl 0 rfl) ?_
    refine va_get (D := (dC, dI)) (ci := 1) (v := .ref a0_down) (C := RX1) (T := TX1) (N := 4) hx hb hts ui_X1_passDay_X1 hown hK hP 0 rfl rfl 2 (by decide) (hts _ uw_X1_passDay_f24) (fun _ h9 => h9) rfl dX1_passDay_4 ?_
    refine va_get (D := (dC, dI)) (ci := 2) (v := .int v0_down_hares) (C := RX2) (T := TX2) (N := 12) hx hb hts ui_X1_passDay_X2 hown hK hP 1 rfl rfl 9 (by decide) (hts _ uw_X1_passDay_f32) (fun _ h9 => h9) rfl dX1_passDay_7 ?_
    refine lv_icmp_ge (tgt := 52) hx hb dX1_passDay_10 (by decide) (fun c1 => ?_) (fun c1 => ?_)
    · have hw := hw.1 c1
      refine lv_aload_n hx hb dX1_passDay_52 rfl (lv_at hl 0 rfl) ?_
      refine va_get (D := (dC, dI)) (ci := 1) (v := .ref a0_row) (C := RX1) (T := TX1) (N := 4) hx hb hts ui_X1_passDay_X1 hown hK hP 0 rfl rfl 0 (by decide) (hts _ uw_X1_passDay_f13) (fun _ h9 => h9) rfl dX1_passDay_53 ?_
      refine lv_iconst (v := 3) hx hb dX1_passDay_56 (by decide) ?_
      refine lv_iconst (v := 0) hx hb dX1_passDay_57 (by decide) ?_
      refine va_iast hx hb hK hP hD hS 2 1 rfl rfl (vin (by decide)) dX1_passDay_58 (fun H locs hP hD hS => ?_)
      obtain ⟨f2, ef2⟩ : ∃ y : Nat → Int32, y = upd f0_row (3 : Int32).toNatClampNeg 0 := ⟨_, rfl⟩
      have hw := hw f2 ef2
      have hP : va_P (dC, dI) vwCl [(a0, .inr (1, [.ref a0_row, z0_owedEach, .ref a0_down, z0_law])), (a0_down, .inr (2, [z0_down_formX, z0_down_formY, z0_down_foxX, z0_down_foxY, z0_down_seat, .ref a0_down_strength, z0_down_debts, z0_down_near, z0_down_forms, .int v0_down_hares, z0_down_foxes, .int v0_down_safe])), (a0_row, .inl (cyI, 64, .inl f2)), (a0_down_strength, .inl (cyI, 6, .inl f0_down_strength))] H := by rw [ef2]; exact hP
      have hD : va_D A [(a0, .inr (1, [.ref a0_row, z0_owedEach, .ref a0_down, z0_law])), (a0_down, .inr (2, [z0_down_formX, z0_down_formY, z0_down_foxX, z0_down_foxY, z0_down_seat, .ref a0_down_strength, z0_down_debts, z0_down_near, z0_down_forms, .int v0_down_hares, z0_down_foxes, .int v0_down_safe])), (a0_row, .inl (cyI, 64, .inl f2)), (a0_down_strength, .inl (cyI, 6, .inl f0_down_strength))] := by rw [ef2]; exact hD
      refine lv_aload_n hx hb dX1_passDay_59 rfl (lv_at hl 0 rfl) ?_
      refine va_get (D := (dC, dI)) (ci := 1) (v := .ref a0_row) (C := RX1) (T := TX1) (N := 4) hx hb hts ui_X1_passDay_X1 hown hK hP 0 rfl rfl 0 (by decide) (hts _ uw_X1_passDay_f13) (fun _ h9 => h9) rfl dX1_passDay_60 ?_
      refine lv_iconst (v := 0) hx hb dX1_passDay_63 (by decide) ?_
      refine lv_dup2_11 hx hb dX1_passDay_64 rfl rfl ?_
      refine va_iald hx hb hK hP 2 1 rfl rfl (vin (by decide)) dX1_passDay_65 ?_
      refine lv_topi (fun x3 ex3 => ?_)
      have hw := hw x3 ex3
      refine lv_iconst (v := 1) hx hb dX1_passDay_66 (by decide) ?_
      refine lv_iadd hx hb dX1_passDay_67 ?_
      refine lv_topi (fun x4 ex4 => ?_)
      have hw := hw x4 ex4
      refine va_iast hx hb hK hP hD hS 2 1 rfl rfl (vin (by decide)) dX1_passDay_68 (fun H locs hP hD hS => ?_)
      obtain ⟨f5, ef5⟩ : ∃ y : Nat → Int32, y = upd f2 (0 : Int32).toNatClampNeg x4 := ⟨_, rfl⟩
      have hw := hw f5 ef5
      have hP : va_P (dC, dI) vwCl [(a0, .inr (1, [.ref a0_row, z0_owedEach, .ref a0_down, z0_law])), (a0_down, .inr (2, [z0_down_formX, z0_down_formY, z0_down_foxX, z0_down_foxY, z0_down_seat, .ref a0_down_strength, z0_down_debts, z0_down_near, z0_down_forms, .int v0_down_hares, z0_down_foxes, .int v0_down_safe])), (a0_row, .inl (cyI, 64, .inl f5)), (a0_down_strength, .inl (cyI, 6, .inl f0_down_strength))] H := by rw [ef5]; exact hP
      have hD : va_D A [(a0, .inr (1, [.ref a0_row, z0_owedEach, .ref a0_down, z0_law])), (a0_down, .inr (2, [z0_down_formX, z0_down_formY, z0_down_foxX, z0_down_foxY, z0_down_seat, .ref a0_down_strength, z0_down_debts, z0_down_near, z0_down_forms, .int v0_down_hares, z0_down_foxes, .int v0_down_safe])), (a0_row, .inl (cyI, 64, .inl f5)), (a0_down_strength, .inl (cyI, 6, .inl f0_down_strength))] := by rw [ef5]; exact hD
      refine lv_aload_n hx hb dX1_passDay_69 rfl (lv_at hl 0 rfl) ?_
      refine va_get (D := (dC, dI)) (ci := 1) (v := .ref a0_row) (C := RX1) (T := TX1) (N := 4) hx hb hts ui_X1_passDay_X1 hown hK hP 0 rfl rfl 0 (by decide) (hts _ uw_X1_passDay_f13) (fun _ h9 => h9) rfl dX1_passDay_70 ?_
      refine lv_iconst (v := 0) hx hb dX1_passDay_73 (by decide) ?_
      refine va_iald hx hb hK hP 2 1 rfl rfl (vin (by decide)) dX1_passDay_74 ?_
      refine lv_topi (fun x6 ex6 => ?_)
      have hw := hw x6 ex6
      refine lv_bipush (v := 31) hx hb dX1_passDay_75 (by decide) ?_
      refine lv_icmp_le (tgt := 101) hx hb dX1_passDay_77 (by decide) (fun c7 => ?_) (fun c7 => ?_)
      · have hw := hw.1 c7
        exact ((W.vret hx hb hr (fun t ht hW => ⟨⟨(f5), rfl, hw, by rw [ht]; exact hP, va_K.moved hW.alike hK, hD⟩, hS.F ht⟩) hS.2.2 dX1_passDay_101))
      · have hw := hw.2 c7
        refine lv_aload_n hx hb dX1_passDay_80 rfl (lv_at hl 0 rfl) ?_
        have hPc := hP.sub (ws' := [(a0, .inr (1, [.ref a0_row, z0_owedEach, .ref a0_down, z0_law])), (a0_down, .inr (2, [z0_down_formX, z0_down_formY, z0_down_foxX, z0_down_foxY, z0_down_seat, .ref a0_down_strength, z0_down_debts, z0_down_near, z0_down_forms, .int v0_down_hares, z0_down_foxes, .int v0_down_safe])), (a0_row, .inl (cyI, 64, .inl f5)), (a0_down_strength, .inl (cyI, 6, .inl f0_down_strength))]) [0, 1, 2, 3] rfl
        have hDc := hD.sub (ws' := [(a0, .inr (1, [.ref a0_row, z0_owedEach, .ref a0_down, z0_law])), (a0_down, .inr (2, [z0_down_formX, z0_down_formY, z0_down_foxX, z0_down_foxY, z0_down_seat, .ref a0_down_strength, z0_down_debts, z0_down_near, z0_down_forms, .int v0_down_hares, z0_down_foxes, .int v0_down_safe])), (a0_row, .inl (cyI, 64, .inl f5)), (a0_down_strength, .inl (cyI, 6, .inl f0_down_strength))]) [0, 1, 2, 3] (by decide) rfl
        have hFc := va_free (wc := [(a0, .inr (1, [.ref a0_row, z0_owedEach, .ref a0_down, z0_law])), (a0_down, .inr (2, [z0_down_formX, z0_down_formY, z0_down_foxX, z0_down_foxY, z0_down_seat, .ref a0_down_strength, z0_down_debts, z0_down_near, z0_down_forms, .int v0_down_hares, z0_down_foxes, .int v0_down_safe])), (a0_row, .inl (cyI, 64, .inl f5)), (a0_down_strength, .inl (cyI, 6, .inl f0_down_strength))]) hD hS hA [0, 1, 2, 3] rfl
        refine va_callv (va_runV (As := []) (rest := []) ⟨hx, hb, hml, hown, hts⟩ (ck_X1_strike l dC dI cyB cyI cyJ cyP a0 a0_down a0_row a0_down_strength H.size (z0_owedEach) (z0_law) (z0_down_formX) (z0_down_formY) (z0_down_foxX) (z0_down_foxY) (z0_down_seat) (z0_down_debts) (z0_down_near) (z0_down_forms) (z0_down_foxes) v0_down_hares v0_down_safe f0_down_strength f5  hw) (cwV 0 hts gX1_passDay_X1_strike rfl rfl rfl (by decide +kernel) ⟨Nat.le_of_ble_eq_true rfl, Nat.le_of_ble_eq_true rfl⟩) ⟨cPc_blind, va_recv hK hPc (ci := 1) (q0 := 0) rfl rfl, cPc_pre hPc hK hDc hNw⟩ rfl rfl hl.1 rfl (lv_room (Nat.le_of_ble_eq_true rfl)) dX1_passDay_81 ⟨Nat.le_of_ble_eq_true rfl, Nat.le_of_ble_eq_true rfl⟩) hS (fun q _ h => hFc q h) hFc (fun u t H1 locs ht hvm hw hB hz1 hk1 hS => ?_)
        obtain ⟨f8, rfl⟩ : ∃ z, z = u := ⟨_, rfl⟩
        obtain ⟨hP1, hK1, hD1⟩ := hB
        rw [ht] at hP1
        obtain ⟨hP, hD⟩ := va_join (wr := []) (w1 := [(a0, .inr (1, [.ref a0_row, z0_owedEach, .ref a0_down, z0_law])), (a0_down, .inr (2, [z0_down_formX, z0_down_formY, z0_down_foxX, z0_down_foxY, z0_down_seat, .ref a0_down_strength, z0_down_debts, z0_down_near, z0_down_forms, .int v0_down_hares, z0_down_foxes, .int v0_down_safe])), (a0_row, .inl (cyI, 64, .inl f8)), (a0_down_strength, .inl (cyI, 6, .inl f0_down_strength))]) hP hD [0, 1, 2, 3] [] rfl rfl (by decide) (by decide) hk1 hFc hP1 hD1
        have hP : va_P (dC, dI) vwCl [(a0, .inr (1, [.ref a0_row, z0_owedEach, .ref a0_down, z0_law])), (a0_down, .inr (2, [z0_down_formX, z0_down_formY, z0_down_foxX, z0_down_foxY, z0_down_seat, .ref a0_down_strength, z0_down_debts, z0_down_near, z0_down_forms, .int v0_down_hares, z0_down_foxes, .int v0_down_safe])), (a0_row, .inl (cyI, 64, .inl f8)), (a0_down_strength, .inl (cyI, 6, .inl f0_down_strength))] H1 := hP
        have hD : va_D A [(a0, .inr (1, [.ref a0_row, z0_owedEach, .ref a0_down, z0_law])), (a0_down, .inr (2, [z0_down_formX, z0_down_formY, z0_down_foxX, z0_down_foxY, z0_down_seat, .ref a0_down_strength, z0_down_debts, z0_down_near, z0_down_forms, .int v0_down_hares, z0_down_foxes, .int v0_down_safe])), (a0_row, .inl (cyI, 64, .inl f8)), (a0_down_strength, .inl (cyI, 6, .inl f0_down_strength))] := hD
        generalize H1 = H at hP hS ⊢
        refine lv_aload_n hx hb dX1_passDay_84 rfl (lv_at hl 0 rfl) ?_
        refine va_get (D := (dC, dI)) (ci := 1) (v := .ref a0_row) (C := RX1) (T := TX1) (N := 4) hx hb hts ui_X1_passDay_X1 hown hK hP 0 rfl rfl 0 (by decide) (hts _ uw_X1_passDay_f13) (fun _ h9 => h9) rfl dX1_passDay_85 ?_
        refine lv_iconst (v := 0) hx hb dX1_passDay_88 (by decide) ?_
        refine lv_iconst (v := 1) hx hb dX1_passDay_89 (by decide) ?_
        refine va_iast hx hb hK hP hD hS 2 1 rfl rfl (vin (by decide)) dX1_passDay_90 (fun H locs hP hD hS => ?_)
        obtain ⟨f9, ef9⟩ : ∃ y : Nat → Int32, y = upd f8 (0 : Int32).toNatClampNeg 1 := ⟨_, rfl⟩
        have hw := hw f9 ef9
        have hP : va_P (dC, dI) vwCl [(a0, .inr (1, [.ref a0_row, z0_owedEach, .ref a0_down, z0_law])), (a0_down, .inr (2, [z0_down_formX, z0_down_formY, z0_down_foxX, z0_down_foxY, z0_down_seat, .ref a0_down_strength, z0_down_debts, z0_down_near, z0_down_forms, .int v0_down_hares, z0_down_foxes, .int v0_down_safe])), (a0_row, .inl (cyI, 64, .inl f9)), (a0_down_strength, .inl (cyI, 6, .inl f0_down_strength))] H := by rw [ef9]; exact hP
        have hD : va_D A [(a0, .inr (1, [.ref a0_row, z0_owedEach, .ref a0_down, z0_law])), (a0_down, .inr (2, [z0_down_formX, z0_down_formY, z0_down_foxX, z0_down_foxY, z0_down_seat, .ref a0_down_strength, z0_down_debts, z0_down_near, z0_down_forms, .int v0_down_hares, z0_down_foxes, .int v0_down_safe])), (a0_row, .inl (cyI, 64, .inl f9)), (a0_down_strength, .inl (cyI, 6, .inl f0_down_strength))] := by rw [ef9]; exact hD
        refine lv_aload_n hx hb dX1_passDay_91 rfl (lv_at hl 0 rfl) ?_
        refine va_get (D := (dC, dI)) (ci := 1) (v := .ref a0_row) (C := RX1) (T := TX1) (N := 4) hx hb hts ui_X1_passDay_X1 hown hK hP 0 rfl rfl 0 (by decide) (hts _ uw_X1_passDay_f13) (fun _ h9 => h9) rfl dX1_passDay_92 ?_
        refine lv_iconst (v := 1) hx hb dX1_passDay_95 (by decide) ?_
        refine lv_dup2_11 hx hb dX1_passDay_96 rfl rfl ?_
        refine va_iald hx hb hK hP 2 1 rfl rfl (vin (by decide)) dX1_passDay_97 ?_
        refine lv_topi (fun x10 ex10 => ?_)
        have hw := hw x10 ex10
        refine lv_iconst (v := 1) hx hb dX1_passDay_98 (by decide) ?_
        refine lv_iadd hx hb dX1_passDay_99 ?_
        refine lv_topi (fun x11 ex11 => ?_)
        have hw := hw x11 ex11
        refine va_iast hx hb hK hP hD hS 2 1 rfl rfl (vin (by decide)) dX1_passDay_100 (fun H locs hP hD hS => ?_)
        obtain ⟨f12, ef12⟩ : ∃ y : Nat → Int32, y = upd f9 (1 : Int32).toNatClampNeg x11 := ⟨_, rfl⟩
        have hw := hw f12 ef12
        have hP : va_P (dC, dI) vwCl [(a0, .inr (1, [.ref a0_row, z0_owedEach, .ref a0_down, z0_law])), (a0_down, .inr (2, [z0_down_formX, z0_down_formY, z0_down_foxX, z0_down_foxY, z0_down_seat, .ref a0_down_strength, z0_down_debts, z0_down_near, z0_down_forms, .int v0_down_hares, z0_down_foxes, .int v0_down_safe])), (a0_row, .inl (cyI, 64, .inl f12)), (a0_down_strength, .inl (cyI, 6, .inl f0_down_strength))] H := by rw [ef12]; exact hP
        have hD : va_D A [(a0, .inr (1, [.ref a0_row, z0_owedEach, .ref a0_down, z0_law])), (a0_down, .inr (2, [z0_down_formX, z0_down_formY, z0_down_foxX, z0_down_foxY, z0_down_seat, .ref a0_down_strength, z0_down_debts, z0_down_near, z0_down_forms, .int v0_down_hares, z0_down_foxes, .int v0_down_safe])), (a0_row, .inl (cyI, 64, .inl f12)), (a0_down_strength, .inl (cyI, 6, .inl f0_down_strength))] := by rw [ef12]; exact hD
        exact ((W.vret hx hb hr (fun t ht hW => ⟨⟨(f12), rfl, hw, by rw [ht]; exact hP, va_K.moved hW.alike hK, hD⟩, hS.F ht⟩) hS.2.2 dX1_passDay_101))
    · have hw := hw.2 c1
      refine lv_aload_n hx hb dX1_passDay_13 rfl (lv_at hl 0 rfl) ?_
      refine va_get (D := (dC, dI)) (ci := 1) (v := .ref a0_row) (C := RX1) (T := TX1) (N := 4) hx hb hts ui_X1_passDay_X1 hown hK hP 0 rfl rfl 0 (by decide) (hts _ uw_X1_passDay_f13) (fun _ h9 => h9) rfl dX1_passDay_14 ?_
      refine lv_iconst (v := 2) hx hb dX1_passDay_17 (by decide) ?_
      refine va_iald hx hb hK hP 2 1 rfl rfl (vin (by decide)) dX1_passDay_18 ?_
      refine lv_topi (fun x13 ex13 => ?_)
      have hw := hw x13 ex13
      refine lv_aload_n hx hb dX1_passDay_19 rfl (lv_at hl 0 rfl) ?_
      refine va_get (D := (dC, dI)) (ci := 1) (v := .ref a0_row) (C := RX1) (T := TX1) (N := 4) hx hb hts ui_X1_passDay_X1 hown hK hP 0 rfl rfl 0 (by decide) (hts _ uw_X1_passDay_f13) (fun _ h9 => h9) rfl dX1_passDay_20 ?_
      refine lv_iconst (v := 3) hx hb dX1_passDay_23 (by decide) ?_
      refine va_iald hx hb hK hP 2 1 rfl rfl (vin (by decide)) dX1_passDay_24 ?_
      refine lv_topi (fun x14 ex14 => ?_)
      have hw := hw x14 ex14
      refine lv_ior hx hb dX1_passDay_25 ?_
      refine lv_iload_n hx hb dX1_passDay_26 rfl (lv_at hl 1 rfl) ?_
      have hPc := hP.sub (ws' := []) [] rfl
      have hDc := hD.sub (ws' := []) [] (by decide) rfl
      have hFc := va_free (wc := []) hD hS hA [] rfl
      refine va_calli (va_runSN (As := [.int (x13 ||| x14), .int l1]) (rest := []) ⟨hx, hb, hml, hown, hts⟩ (ck_X10_holds l dC dI cyB cyI cyJ cyP  H.size    (x13 ||| x14) l1 hw) ⟨(va_cnB 2 hts gX1_passDay_X10_holds_n120 rfl rfl rfl (hNw.1 _ (List.mem_of_getElem? (i := 9) rfl)) (hts _ uw_X1_passDay_iniRX10) (by decide +kernel) ⟨Nat.le_of_ble_eq_true rfl, Nat.le_of_ble_eq_true rfl⟩), (hts _ uw_X1_passDay_stX10_holds), trivial⟩ ⟨cPc_blind, cPc_pre hPc hK hDc hNw⟩ rfl rfl hl.1 rfl (lv_room (Nat.le_of_ble_eq_true rfl)) dX1_passDay_27 ⟨Nat.le_of_ble_eq_true rfl, Nat.le_of_ble_eq_true rfl⟩) hS (fun q _ h => hFc q h) hFc (fun r15 u t H1 locs ht hvm hw hB hz1 hk1 hS => ?_)
      obtain ⟨hP1, hK1, hD1⟩ := hB
      rw [ht] at hP1
      obtain ⟨hP, hD⟩ := va_join (wr := [(a0, .inr (1, [.ref a0_row, z0_owedEach, .ref a0_down, z0_law])), (a0_down, .inr (2, [z0_down_formX, z0_down_formY, z0_down_foxX, z0_down_foxY, z0_down_seat, .ref a0_down_strength, z0_down_debts, z0_down_near, z0_down_forms, .int v0_down_hares, z0_down_foxes, .int v0_down_safe])), (a0_row, .inl (cyI, 64, .inl f0_row)), (a0_down_strength, .inl (cyI, 6, .inl f0_down_strength))]) (w1 := []) hP hD [] [0, 1, 2, 3] rfl rfl (by decide) (by decide) hk1 hFc hP1 hD1
      have hP : va_P (dC, dI) vwCl [(a0, .inr (1, [.ref a0_row, z0_owedEach, .ref a0_down, z0_law])), (a0_down, .inr (2, [z0_down_formX, z0_down_formY, z0_down_foxX, z0_down_foxY, z0_down_seat, .ref a0_down_strength, z0_down_debts, z0_down_near, z0_down_forms, .int v0_down_hares, z0_down_foxes, .int v0_down_safe])), (a0_row, .inl (cyI, 64, .inl f0_row)), (a0_down_strength, .inl (cyI, 6, .inl f0_down_strength))] H1 := hP
      have hD : va_D A [(a0, .inr (1, [.ref a0_row, z0_owedEach, .ref a0_down, z0_law])), (a0_down, .inr (2, [z0_down_formX, z0_down_formY, z0_down_foxX, z0_down_foxY, z0_down_seat, .ref a0_down_strength, z0_down_debts, z0_down_near, z0_down_forms, .int v0_down_hares, z0_down_foxes, .int v0_down_safe])), (a0_row, .inl (cyI, 64, .inl f0_row)), (a0_down_strength, .inl (cyI, 6, .inl f0_down_strength))] := hD
      generalize H1 = H at hP hS ⊢
      refine lv_if_ne (tgt := 46) hx hb dX1_passDay_30 (by decide) (fun c16 => ?_) (fun c16 => ?_)
      · have hw := hw.1 c16
        exact kb_X1_passDay_46 dC dI cyB cyI cyJ cyP a0 a0_down a0_row a0_down_strength z0_owedEach z0_law z0_down_formX z0_down_formY z0_down_foxX z0_down_foxY z0_down_seat z0_down_debts z0_down_near z0_down_forms z0_down_foxes v0_down_hares v0_down_safe f0_down_strength Q (wl_X1_passDay_2 v0_down_hares v0_down_safe f0_down_strength Q  n) ih C0 _ _ _ f0_row l1 hP hD hS (lv_sub hl [0, 1] rfl) hw
      · have hw := hw.2 c16
        refine lv_aload_n hx hb dX1_passDay_33 rfl (lv_at hl 0 rfl) ?_
        refine va_get (D := (dC, dI)) (ci := 1) (v := .ref a0_row) (C := RX1) (T := TX1) (N := 4) hx hb hts ui_X1_passDay_X1 hown hK hP 0 rfl rfl 0 (by decide) (hts _ uw_X1_passDay_f13) (fun _ h9 => h9) rfl dX1_passDay_34 ?_
        refine lv_bipush (v := 16) hx hb dX1_passDay_37 (by decide) ?_
        refine lv_iload_n hx hb dX1_passDay_39 rfl (lv_at hl 1 rfl) ?_
        refine lv_iadd hx hb dX1_passDay_40 ?_
        refine lv_topi (fun x17 ex17 => ?_)
        have hw := hw x17 ex17
        refine lv_dup2_11 hx hb dX1_passDay_41 rfl rfl ?_
        obtain ⟨hi9, hw⟩ := hw
        refine va_iald hx hb hK hP 2 1 rfl rfl hi9 dX1_passDay_42 ?_
        refine lv_topi (fun x18 ex18 => ?_)
        have hw := hw x18 ex18
        refine lv_iconst (v := 1) hx hb dX1_passDay_43 (by decide) ?_
        refine lv_iadd hx hb dX1_passDay_44 ?_
        refine lv_topi (fun x19 ex19 => ?_)
        have hw := hw x19 ex19
        obtain ⟨hi9, hw⟩ := hw
        refine va_iast hx hb hK hP hD hS 2 1 rfl rfl hi9 dX1_passDay_45 (fun H locs hP hD hS => ?_)
        obtain ⟨f20, ef20⟩ : ∃ y : Nat → Int32, y = upd f0_row x17.toNatClampNeg x19 := ⟨_, rfl⟩
        have hw := hw f20 ef20
        have hP : va_P (dC, dI) vwCl [(a0, .inr (1, [.ref a0_row, z0_owedEach, .ref a0_down, z0_law])), (a0_down, .inr (2, [z0_down_formX, z0_down_formY, z0_down_foxX, z0_down_foxY, z0_down_seat, .ref a0_down_strength, z0_down_debts, z0_down_near, z0_down_forms, .int v0_down_hares, z0_down_foxes, .int v0_down_safe])), (a0_row, .inl (cyI, 64, .inl f20)), (a0_down_strength, .inl (cyI, 6, .inl f0_down_strength))] H := by rw [ef20]; exact hP
        have hD : va_D A [(a0, .inr (1, [.ref a0_row, z0_owedEach, .ref a0_down, z0_law])), (a0_down, .inr (2, [z0_down_formX, z0_down_formY, z0_down_foxX, z0_down_foxY, z0_down_seat, .ref a0_down_strength, z0_down_debts, z0_down_near, z0_down_forms, .int v0_down_hares, z0_down_foxes, .int v0_down_safe])), (a0_row, .inl (cyI, 64, .inl f20)), (a0_down_strength, .inl (cyI, 6, .inl f0_down_strength))] := by rw [ef20]; exact hD
        exact kb_X1_passDay_46 dC dI cyB cyI cyJ cyP a0 a0_down a0_row a0_down_strength z0_owedEach z0_law z0_down_formX z0_down_formY z0_down_foxX z0_down_foxY z0_down_seat z0_down_debts z0_down_near z0_down_forms z0_down_foxes v0_down_hares v0_down_safe f0_down_strength Q (wl_X1_passDay_2 v0_down_hares v0_down_safe f0_down_strength Q  n) ih C0 _ _ _ f20 l1 hP hD hS (lv_sub hl [0, 1] rfl) hw
def wq_X1_passDay (v0_down_hares : Int32) (v0_down_safe : Int32) (f0_down_strength : Nat → Int32) (f0_row : Nat → Int32)  (Q : (Nat → Int32) → Prop) : Prop := (∃ k9 : Nat, wl_X1_passDay_2 v0_down_hares v0_down_safe f0_down_strength Q  k9 f0_row 0)
set_option maxHeartbeats 4000000 in
set_option maxRecDepth 100000 in
theorem ck_X1_passDay (l : Launch) (dC : Nat → ClassId) (dI : Nat → Nat → Nat) (cyB cyI cyJ cyP : ClassId) (a0 a0_down a0_row a0_down_strength : Nat) (sz : Nat) (z0_owedEach : Value) (z0_law : Value) (z0_down_formX : Value) (z0_down_formY : Value) (z0_down_foxX : Value) (z0_down_foxY : Value) (z0_down_seat : Value) (z0_down_debts : Value) (z0_down_near : Value) (z0_down_forms : Value) (z0_down_foxes : Value) (v0_down_hares : Int32) (v0_down_safe : Int32) (f0_down_strength : Nat → Int32) (f0_row : Nat → Int32)  {Q : (Nat → Int32) → Prop} (hw : wq_X1_passDay v0_down_hares v0_down_safe f0_down_strength f0_row  Q) : Met l yX1_passDay wsX1_passDay ({ frames := 4, cells := 0, slots := 0, locals := 86 }) (va_Pc [.ref a0] (cPc (dC, dI) (kT cyB cyI cyJ cyP) [(a0, .inr (1, [.ref a0_row, z0_owedEach, .ref a0_down, z0_law])), (a0_down, .inr (2, [z0_down_formX, z0_down_formY, z0_down_foxX, z0_down_foxY, z0_down_seat, .ref a0_down_strength, z0_down_debts, z0_down_near, z0_down_forms, .int v0_down_hares, z0_down_foxes, .int v0_down_safe])), (a0_row, .inl (cyI, 64, .inl f0_row)), (a0_down_strength, .inl (cyI, 6, .inl f0_down_strength))] sz)) (va_Qv (fun (u : (Nat → Int32)) => Q u) (cB (dC, dI) (kT cyB cyI cyJ cyP) (va_A [(a0, .inr (1, [.ref a0_row, z0_owedEach, .ref a0_down, z0_law])), (a0_down, .inr (2, [z0_down_formX, z0_down_formY, z0_down_foxX, z0_down_foxY, z0_down_seat, .ref a0_down_strength, z0_down_debts, z0_down_near, z0_down_forms, .int v0_down_hares, z0_down_foxes, .int v0_down_safe])), (a0_row, .inl (cyI, 64, .inl f0_row)), (a0_down_strength, .inl (cyI, 6, .inl f0_down_strength))] sz) (fun u : (Nat → Int32) => ([(a0, .inr (1, [.ref a0_row, z0_owedEach, .ref a0_down, z0_law])), (a0_down, .inr (2, [z0_down_formX, z0_down_formY, z0_down_foxX, z0_down_foxY, z0_down_seat, .ref a0_down_strength, z0_down_debts, z0_down_near, z0_down_forms, .int v0_down_hares, z0_down_foxes, .int v0_down_safe])), (a0_row, .inl (cyI, 64, .inl u)), (a0_down_strength, .inl (cyI, 6, .inl f0_down_strength))] : va_W))) (va_A [(a0, .inr (1, [.ref a0_row, z0_owedEach, .ref a0_down, z0_law])), (a0_down, .inr (2, [z0_down_formX, z0_down_formY, z0_down_foxX, z0_down_foxY, z0_down_seat, .ref a0_down_strength, z0_down_debts, z0_down_near, z0_down_forms, .int v0_down_hares, z0_down_foxes, .int v0_down_safe])), (a0_row, .inl (cyI, 64, .inl f0_row)), (a0_down_strength, .inl (cyI, 6, .inl f0_down_strength))] sz)) 0 0 (va_A [(a0, .inr (1, [.ref a0_row, z0_owedEach, .ref a0_down, z0_law])), (a0_down, .inr (2, [z0_down_formX, z0_down_formY, z0_down_foxX, z0_down_foxY, z0_down_seat, .ref a0_down_strength, z0_down_debts, z0_down_near, z0_down_forms, .int v0_down_hares, z0_down_foxes, .int v0_down_safe])), (a0_row, .inl (cyI, 64, .inl f0_row)), (a0_down_strength, .inl (cyI, 6, .inl f0_down_strength))] sz) := by
  refine Met.ofW (cc := cX1_passDay) (maxL := 2) (ret := none) (by decide) rfl ?_
  intro p e s m args below meth c s₁ B hml hv
  obtain ⟨rfl, hsz, hP, hK, hD0, hNw⟩ := hv
  have hx := B.exec
  have hb := B.bytes
  have hr := B.returns
  have hts := atoms_spec (ws := wsX1_passDay) B.pre
  have hown : s.vm.findClass RX1 = some m.cls := findClass_of_methodNamed B.named
  have hlocks := B.notSynchronized
  subst hsz
  have hD := hD0.self (sz := s.heap.size)
  generalize hAe : va_A [(a0, .inr (1, [.ref a0_row, z0_owedEach, .ref a0_down, z0_law])), (a0_down, .inr (2, [z0_down_formX, z0_down_formY, z0_down_foxX, z0_down_foxY, z0_down_seat, .ref a0_down_strength, z0_down_debts, z0_down_near, z0_down_forms, .int v0_down_hares, z0_down_foxes, .int v0_down_safe])), (a0_row, .inl (cyI, 64, .inl f0_row)), (a0_down_strength, .inl (cyI, 6, .inl f0_down_strength))] s.heap.size = A at hD ⊢
  have hA : ∀ q : Nat, s.heap.size ≤ q → A q := fun q h => by rw [← hAe]; exact Or.inr h
  have hS : va_S A s.heap s.heap [] := va_S.rf
  have hP : va_P (dC, dI) vwCl [(a0, .inr (1, [.ref a0_row, z0_owedEach, .ref a0_down, z0_law])), (a0_down, .inr (2, [z0_down_formX, z0_down_formY, z0_down_foxX, z0_down_foxY, z0_down_seat, .ref a0_down_strength, z0_down_debts, z0_down_near, z0_down_forms, .int v0_down_hares, z0_down_foxes, .int v0_down_safe])), (a0_row, .inl (cyI, 64, .inl f0_row)), (a0_down_strength, .inl (cyI, 6, .inl f0_down_strength))] s.heap := hP
  have hl := lv_entry ([.ref a0]) (n := 2) (Nat.le_of_ble_eq_true rfl)
  rw [lg_entry_eq]
  generalize (lg_sl ([.ref a0]) ++ List.replicate (2 - (lg_sl ([.ref a0])).length) Slot.unset).toArray = ls at hl ⊢
  have hl : lv_has ls 2 [(0, .ref a0)] := hl
  have C0 : cfx p s m _ meth c cX1_passDay none wsX1_passDay RX1 2 A (dC, dI) (kT cyB cyI cyJ cyP) := ⟨hx, hb, hr, hts, hown, hlocks, hml, hA, hK, hNw⟩
  clear hAe
  obtain ⟨H, hH⟩ : ∃ H, H = s.heap := ⟨_, rfl⟩
  rw [← hH] at hP ⊢
  have hS : va_S A s.heap H [] := by rw [hH]; exact va_S.rf
  have hS := hS
  refine lv_iconst (v := 0) hx hb dX1_passDay_0 (by decide) ?_
  refine lv_istore_n (lv' := [(1, .int 0), (0, .ref a0)]) hx hb dX1_passDay_1 rfl hl (by decide) rfl (fun ls hl => ?_)
  obtain ⟨n9, hw⟩ := hw
  exact kl_X1_passDay_2 dC dI cyB cyI cyJ cyP a0 a0_down a0_row a0_down_strength z0_owedEach z0_law z0_down_formX z0_down_formY z0_down_foxX z0_down_foxY z0_down_seat z0_down_debts z0_down_near z0_down_forms z0_down_foxes v0_down_hares v0_down_safe f0_down_strength Q  C0 n9 _ _ _ f0_row 0 hP hD hS (lv_sub hl [1, 0] rfl) hw
