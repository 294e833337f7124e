set_option maxHeartbeats 16000000 in
set_option maxRecDepth 100000 in
theorem ls_mid {p : Program} {l : Launch} {e : Env} {s : State} {m : MethodId} {below : List Frame} {meth : Method} {c : Code} {b L : Nat} {xs : Nat → Int32} (hL : L ≤ 4608) (dC : Nat → ClassId) (dI : Nat → Nat → Nat) (cyB cyI cyJ cyP : ClassId) (F : lfz L p l s m meth c b xs (dC, dI) (kT cyB cyI cyJ cyP)) (hE9 : zE (fun q : Nat => s.heap.size ≤ q) s s.heap) {A : Nat → Prop} (eA : A = (fun q : Nat => s.heap.size ≤ q)) {H : Heap} {locs : List Loc} {ls : Array Slot} (hS : va_S A s.heap H locs) {x1 : Int32} {f2 : Nat → Int32} {f3 : Nat → Int32} {x4 : Int32} {f5 : Nat → Int32} {f6 : Nat → Int32} {x7 : Int32} {f8 : Nat → Int32} {x9 : Int32} {f10 : Nat → Int32} {f11 : Nat → Int32} {f12 : Nat → Int32} (hXF : XF x1 f2 f3 x4 f5 f6 x7 f8 x9 f10 f11 f12) {ad13 : Nat → Nat} {ax : Nat} (hP : va_P (dC, dI) vwCl (lsW1 cyB cyI cyJ cyP ax ad13 x1 f2 f3 x4 f5 f6 x7 f8 x9 f10 f11 f12) H) (hD : va_D A (lsW1 cyB cyI cyJ cyP ax ad13 x1 f2 f3 x4 f5 f6 x7 f8 x9 f10 f11 f12)) (hl : lv_has ls 8 [(1, .ref ax), (0, .ref b)]) : W p l e room_1 s m #[Value.ref b] below meth c H locs 69 9372 (lw_Z below #[Value.ref b] s) (F0 m 8 ls []) := by
  obtain ⟨hx, hb, hr, hml, hown, hts, hX, hbl, hlocks, hK, hNw, hY⟩ := id F
  have hA : ∀ q : Nat, s.heap.size ≤ q → A q := fun q h => by rw [eA]; exact h
  have hbA : ¬ A b := by rw [eA]; exact Nat.not_le.mpr hbl
  refine va_new (ci := 11) (fs := [.int 0, .null, .int 0, .int 0, .int 0, .int 0, .int 0, .int 0, .int 0, .null, .null, .null, .null, .null, .null, .null, .null, .int 0, .int 0, .int 0, .int 0, .int 0, .int 0, .null, .null, .null, .null, .null, .int 0, .int 0, .null, .null, .null, .int 0, .int 0, .int 0, .int 0, .int 0, .int 0, .null, .null, .null, .null, .null, .int 0, .null, .null, .null, .null, .null, .null, .int 0, .int 0, .null, .int 0]) (C := RX11) (T := TX11) (N := 55) hx hb hts inlX11 tyX11 tyX11_ok hown (hts _ uw_LS_cl108) (hts _ uw_LS_inX11) (hts _ uw_LS_iniRX11) hK hP hD hS hA rfl (by decide +kernel) (Nat.le_of_ble_eq_true rfl) (Nat.le_of_ble_eq_true rfl) dL_law__8 (fun am H hP hD hS => ?_)
  have hP : va_P (dC, dI) vwCl (lsWa cyB cyI cyJ cyP ax am ad13 x1 f2 f3 x4 f5 f6 x7 f8 x9 f10 f11 f12) H := hP
  have hD : va_D A (lsWa cyB cyI cyJ cyP ax am ad13 x1 f2 f3 x4 f5 f6 x7 f8 x9 f10 f11 f12) := hD
  refine lv_dup hx hb dL_law__11 rfl ?_
  have hPc := hP.sub (ws' := [(am, .inr (11, [.int 0, .null, .int 0, .int 0, .int 0, .int 0, .int 0, .int 0, .int 0, .null, .null, .null, .null, .null, .null, .null, .null, .int 0, .int 0, .int 0, .int 0, .int 0, .int 0, .null, .null, .null, .null, .null, .int 0, .int 0, .null, .null, .null, .int 0, .int 0, .int 0, .int 0, .int 0, .int 0, .null, .null, .null, .null, .null, .int 0, .null, .null, .null, .null, .null, .null, .int 0, .int 0, .null, .int 0]))]) [69] rfl
  have hDc := hD.sub (ws' := [(am, .inr (11, [.int 0, .null, .int 0, .int 0, .int 0, .int 0, .int 0, .int 0, .int 0, .null, .null, .null, .null, .null, .null, .null, .null, .int 0, .int 0, .int 0, .int 0, .int 0, .int 0, .null, .null, .null, .null, .null, .int 0, .int 0, .null, .null, .null, .int 0, .int 0, .int 0, .int 0, .int 0, .int 0, .null, .null, .null, .null, .null, .int 0, .null, .null, .null, .null, .null, .null, .int 0, .int 0, .null, .int 0]))]) [69] (by decide) rfl
  have hFc := va_free (wc := [(am, .inr (11, [.int 0, .null, .int 0, .int 0, .int 0, .int 0, .int 0, .int 0, .int 0, .null, .null, .null, .null, .null, .null, .null, .null, .int 0, .int 0, .int 0, .int 0, .int 0, .int 0, .null, .null, .null, .null, .null, .int 0, .int 0, .null, .null, .null, .int 0, .int 0, .int 0, .int 0, .int 0, .int 0, .null, .null, .null, .null, .null, .int 0, .null, .null, .null, .null, .null, .null, .int 0, .int 0, .null, .int 0]))]) hD hS hA [69] rfl
  refine va_callv (va_runI (As := []) (rest := [.ref am]) ⟨hx, hb, hml, hown, hts⟩ (ck_X11_init l dC dI cyB cyI cyJ cyP am H.size     (Q := MF) pu_X11_init) (cwI 0 hts gL_law__X11_init rfl rfl rfl (hts _ uw_LS_iniRX11) (hts _ uw_LS_m110) (hts _ uw_LS_imX11_init) rfl (by decide +kernel) ⟨Nat.le_of_ble_eq_true rfl, Nat.le_of_ble_eq_true rfl⟩) ⟨cPc_blind, cPc_pre hPc hK hDc hNw⟩ rfl rfl hl.1 rfl (lv_room (Nat.le_of_ble_eq_true rfl)) dL_law__12 ⟨Nat.le_of_ble_eq_true rfl, Nat.le_of_ble_eq_true rfl⟩) hS (fun q _ h => hFc q h) hFc (fun u t H1 locs ht hvm hw hB hz1 hk1 hS => ?_)
  obtain ⟨ad31, x14, x15, x16, x17, x18, x19, x20, x21, x22, x23, x24, f25, f26, f27, f28, f29, f30⟩ := u
  obtain ⟨hP1, hK1, hD1⟩ := hB
  rw [ht] at hP1
  obtain ⟨hP, hD⟩ := va_join (wr := (lsW1 cyB cyI cyJ cyP ax ad13 x1 f2 f3 x4 f5 f6 x7 f8 x9 f10 f11 f12)) (w1 := [(am, .inr (11, [.int 0, .ref (ad31 0), .int 0, .int 0, .int 0, .int 0, .int 0, .int 0, .int (-1), .ref (ad31 1), .ref (ad31 2), .ref (ad31 3), .ref (ad31 4), .ref (ad31 5), .ref (ad31 6), .ref (ad31 7), .ref (ad31 8), .int x14, .int x15, .int x16, .int x17, .int x18, .int x19, .ref (ad31 9), .ref (ad31 10), .ref (ad31 11), .ref (ad31 12), .ref (ad31 13), .int 0, .int x20, .ref (ad31 14), .ref (ad31 15), .ref (ad31 16), .int 0, .int x21, .int x22, .int 0, .int 0, .int 0, .ref (ad31 17), .ref (ad31 18), .ref (ad31 19), .ref (ad31 20), .ref (ad31 21), .int x23, .ref (ad31 22), .ref (ad31 23), .ref (ad31 24), .ref (ad31 25), .ref (ad31 26), .ref (ad31 27), .int 0, .int 0, .ref (ad31 28), .int x24])), ((ad31 0), .inl (cyI, 2, .inl (fun _ => 0))), ((ad31 1), .inl (cyI, 600, .inl (fun _ => 0))), ((ad31 2), .inl (cyI, 16, .inl (fun _ => 0))), ((ad31 3), .inl (cyI, 12, .inl (fun _ => 0))), ((ad31 4), .inl (cyI, 8, .inl (fun _ => 0))), ((ad31 5), .inl (cyI, 36, .inl f25)), ((ad31 6), .inl (cyI, 16, .inl f26)), ((ad31 7), .inl (cyI, 12, .inl f27)), ((ad31 8), .inl (cyI, 8, .inl f28)), ((ad31 9), .inl (cyI, 150, .inl (fun _ => 0))), ((ad31 10), .inl (cyI, 150, .inl (fun _ => 0))), ((ad31 11), .inl (cyI, 150, .inl (fun _ => 0))), ((ad31 12), .inl (cyI, 150, .inl (fun _ => 0))), ((ad31 13), .inl (cyI, 150, .inl (fun _ => 0))), ((ad31 14), .inl (cyI, 8, .inl (fun _ => 0))), ((ad31 15), .inl (cyI, 200, .inl (fun _ => 0))), ((ad31 16), .inl (cyI, 200, .inl (fun _ => 0))), ((ad31 17), .inl (cyI, 68, .inl f29)), ((ad31 18), .inl (cyI, 68, .inl (fun _ => 0))), ((ad31 19), .inl (cyI, 1088, .inl (fun _ => 0))), ((ad31 20), .inl (cyI, 8, .inl (fun _ => 0))), ((ad31 21), .inl (cyI, 8, .inl f30)), ((ad31 22), .inl (cyI, 1792, .inl (fun _ => 0))), ((ad31 23), .inl (cyI, 6, .inl (fun _ => 0))), ((ad31 24), .inl (cyI, 6, .inl (fun _ => 0))), ((ad31 25), .inl (cyI, 2048, .inl (fun _ => 0))), ((ad31 26), .inl (cyI, 7, .inl (fun _ => 0))), ((ad31 27), .inl (cyJ, 14, .inr (.inl (fun _ => 0)))), ((ad31 28), .inl (cyI, 3471, .inl (fun _ => 0)))]) hP hD [69] [0, 1, 2, 3, 4, 5, 6, 7, 8, 9, 10, 11, 12, 13, 14, 15, 16, 17, 18, 19, 20, 21, 22, 23, 24, 25, 26, 27, 28, 29, 30, 31, 32, 33, 34, 35, 36, 37, 38, 39, 40, 41, 42, 43, 44, 45, 46, 47, 48, 49, 50, 51, 52, 53, 54, 55, 56, 57, 58, 59, 60, 61, 62, 63, 64, 65, 66, 67, 68] rfl rfl (by decide +kernel) (by decide +kernel) hk1 hFc hP1 hD1
  have hP : va_P (dC, dI) vwCl (lsW2 cyB cyI cyJ cyP ax am ad13 ad31 x1 f2 f3 x4 f5 f6 x7 f8 x9 f10 f11 f12 x14 x15 x16 x17 x18 x19 x20 x21 x22 x23 x24 f25 f26 f27 f28 f29 f30) H1 := hP
  have hD : va_D A (lsW2 cyB cyI cyJ cyP ax am ad13 ad31 x1 f2 f3 x4 f5 f6 x7 f8 x9 f10 f11 f12 x14 x15 x16 x17 x18 x19 x20 x21 x22 x23 x24 f25 f26 f27 f28 f29 f30) := hD
  generalize H1 = H at hP hS ⊢
  have hMF := hw
  refine lv_astore_n (lv' := [(2, .ref am), (1, .ref ax), (0, .ref b)]) hx hb dL_law__15 rfl hl (by decide) rfl (fun ls hl => ?_)
  refine W.widen (k := 99) (n := 19879) (Nat.le_of_ble_eq_true rfl) (Nat.le_of_ble_eq_true rfl) ?_
  exact ls_end hL dC dI cyB cyI cyJ cyP F hE9 eA hS hXF hMF hP hD hl
set_option maxHeartbeats 16000000 in
set_option maxRecDepth 100000 in
theorem law_start {p : Program} {l : Launch} {e : Env} {s : State} {m : MethodId} {below : List Frame} {meth : Method} {c : Code} {b L : Nat} {xs : Nat → Int32} (hL : L ≤ 4608) (dC : Nat → ClassId) (dI : Nat → Nat → Nat) (cyB cyI cyJ cyP : ClassId) (F : lfz L p l s m meth c b xs (dC, dI) (kT cyB cyI cyJ cyP)) (hE9 : zE (fun q : Nat => s.heap.size ≤ q) s s.heap) : W p l e room_1 s m #[Value.ref b] below meth c s.heap [] 0 0 (lw_Z below #[Value.ref b] s) (entryFrame m ([Value.ref b] : List Value).toArray 8) := by
  obtain ⟨hx, hb, hr, hml, hown, hts, hX, hbl, hlocks, hK, hNw, hY⟩ := id F
  obtain ⟨A, eA⟩ : ∃ A : Nat → Prop, A = (fun q : Nat => s.heap.size ≤ q) := ⟨_, rfl⟩
  have hA : ∀ q : Nat, s.heap.size ≤ q → A q := fun q h => by rw [eA]; exact h
  have hbA : ¬ A b := by rw [eA]; exact Nat.not_le.mpr hbl
  have hP : va_P (dC, dI) vwCl [] s.heap := fun k q h => by simp at h
  have hD : va_D A [] := ⟨fun i j p q h => by simp at h, fun k q h => by simp at h⟩
  have hl := lv_entry ([.ref b]) (n := 8) (Nat.le_of_ble_eq_true rfl)
  rw [lg_entry_eq]
  generalize (lg_sl ([.ref b]) ++ List.replicate (8 - (lg_sl ([.ref b])).length) Slot.unset).toArray = ls at hl ⊢
  have hl : lv_has ls 8 [(0, .ref b)] := hl
  obtain ⟨H, hH⟩ : ∃ H, H = s.heap := ⟨_, rfl⟩
  rw [← hH] at hP ⊢
  have hS : va_S A s.heap H [] := by rw [hH]; exact va_S.rf
  refine va_new (ci := 10) (fs := [.null, .null, .null, .null, .null, .null, .null, .null, .null, .null, .null, .null, .null, .null, .null, .int 0, .int 0, .int 0, .int 0]) (C := RX10) (T := TX10) (N := 19) hx hb hts inlX10 tyX10 tyX10_ok hown (hts _ uw_LS_cl8) (hts _ uw_LS_inX10) (hts _ uw_LS_iniRX10) hK hP hD hS hA rfl (by decide +kernel) (Nat.le_of_ble_eq_true rfl) (Nat.le_of_ble_eq_true rfl) dL_law__0 (fun ax H hP hD hS => ?_)
  have hP : va_P (dC, dI) vwCl [(ax, .inr (10, [.null, .null, .null, .null, .null, .null, .null, .null, .null, .null, .null, .null, .null, .null, .null, .int 0, .int 0, .int 0, .int 0]))] H := hP
  have hD : va_D A [(ax, .inr (10, [.null, .null, .null, .null, .null, .null, .null, .null, .null, .null, .null, .null, .null, .null, .null, .int 0, .int 0, .int 0, .int 0]))] := hD
  refine lv_dup hx hb dL_law__3 rfl ?_
  have hPc := hP.sub (ws' := [(ax, .inr (10, [.null, .null, .null, .null, .null, .null, .null, .null, .null, .null, .null, .null, .null, .null, .null, .int 0, .int 0, .int 0, .int 0]))]) [0] rfl
  have hDc := hD.sub (ws' := [(ax, .inr (10, [.null, .null, .null, .null, .null, .null, .null, .null, .null, .null, .null, .null, .null, .null, .null, .int 0, .int 0, .int 0, .int 0]))]) [0] (by decide) rfl
  have hFc := va_free (wc := [(ax, .inr (10, [.null, .null, .null, .null, .null, .null, .null, .null, .null, .null, .null, .null, .null, .null, .null, .int 0, .int 0, .int 0, .int 0]))]) hD hS hA [0] rfl
  refine va_callv (va_runI (As := []) (rest := [.ref ax]) ⟨hx, hb, hml, hown, hts⟩ (ck_X10_init l dC dI cyB cyI cyJ cyP ax H.size     (Q := XF) pu_X10_init) (cwI 0 hts gL_law__X10_init rfl rfl rfl (hts _ uw_LS_iniRX10) (hts _ uw_LS_m107) (hts _ uw_LS_imX10_init) rfl (by decide +kernel) ⟨Nat.le_of_ble_eq_true rfl, Nat.le_of_ble_eq_true rfl⟩) ⟨cPc_blind, cPc_pre hPc hK hDc hNw⟩ rfl rfl hl.1 rfl (lv_room (Nat.le_of_ble_eq_true rfl)) dL_law__4 ⟨Nat.le_of_ble_eq_true rfl, Nat.le_of_ble_eq_true rfl⟩) hS (fun q _ h => hFc q h) hFc (fun u t H1 locs ht hvm hw hB hz1 hk1 hS => ?_)
  obtain ⟨ad13, x1, f2, f3, x4, f5, f6, x7, f8, x9, f10, f11, f12⟩ := u
  obtain ⟨hP1, hK1, hD1⟩ := hB
  rw [ht] at hP1
  obtain ⟨hP, hD⟩ := va_join (wr := []) (w1 := (lsW1 cyB cyI cyJ cyP ax ad13 x1 f2 f3 x4 f5 f6 x7 f8 x9 f10 f11 f12)) hP hD [0] [] rfl rfl (by decide +kernel) (by decide +kernel) hk1 hFc hP1 hD1
  have hP : va_P (dC, dI) vwCl (lsW1 cyB cyI cyJ cyP ax ad13 x1 f2 f3 x4 f5 f6 x7 f8 x9 f10 f11 f12) H1 := hP
  have hD : va_D A (lsW1 cyB cyI cyJ cyP ax ad13 x1 f2 f3 x4 f5 f6 x7 f8 x9 f10 f11 f12) := hD
  generalize H1 = H at hP hS ⊢
  have hXF := hw
  refine lv_astore_n (lv' := [(1, .ref ax), (0, .ref b)]) hx hb dL_law__7 rfl hl (by decide) rfl (fun ls hl => ?_)
  refine W.widen (k := 69) (n := 9372) (Nat.le_of_ble_eq_true rfl) (Nat.le_of_ble_eq_true rfl) ?_
  exact ls_mid hL dC dI cyB cyI cyJ cyP F hE9 eA hS hXF hP hD hl
theorem whole_start {p : Program} {e : Env} {s : State} {m : MethodId} {below : List Frame} {meth : Method} {c : Code} (l : Launch) (hst : l.stackTraces = false) {b L : Nat} {xs : Nat → Int32} (hL : L ≤ 4608) (C0 : lw_At p s m meth c b L xs) : W p l e room_1 s m #[Value.ref b] below meth c s.heap [] 0 0 (lw_Z below #[Value.ref b] s) (entryFrame m ([Value.ref b] : List Value).toArray 8) := by
  obtain ⟨dC, dI, cyB, cyI, cyJ, cyP, F⟩ := ls_fx hst C0
  exact law_start hL dC dI cyB cyI cyJ cyP F (ls_zE C0)
