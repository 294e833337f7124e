set_option maxHeartbeats 16000000 in
set_option maxRecDepth 100000 in
theorem law_start {p : Program} {l : Launch} {e : Env} {s : State} {m : MethodId} {below : List Frame} {meth : Method} {c : Code} {b L : Nat} {xs : Nat → Int32} (hL : L ≤ 9) (dC : Nat → ClassId) (dI : Nat → Nat → Nat) (cyB cyI cyJ cyP : ClassId) (F : lfz L p l s m meth c b xs (dC, dI) (kT cyB cyI cyJ cyP)) (hE9 : zE (fun q : Nat => s.heap.size ≤ q) s s.heap) : W p l e room_1 s m #[Value.ref b] below meth c s.heap [] 0 0 (lw_Z below #[Value.ref b] s) (entryFrame m ([Value.ref b] : List Value).toArray 8) := by
  obtain ⟨hx, hb, hr, hml, hown, hts, hX, hbl, hlocks, hK, hNw, hY⟩ := id F
  obtain ⟨A, eA⟩ : ∃ A : Nat → Prop, A = (fun q : Nat => s.heap.size ≤ q) := ⟨_, rfl⟩
  have hA : ∀ q : Nat, s.heap.size ≤ q → A q := fun q h => by rw [eA]; exact h
  have hbA : ¬ A b := by rw [eA]; exact Nat.not_le.mpr hbl
  have hP : va_P (dC, dI) vwCl [] s.heap := fun k q h => by simp at h
  have hD : va_D A [] := ⟨fun i j p q h => by simp at h, fun k q h => by simp at h⟩
  have hl := lv_entry ([.ref b]) (n := 8) (Nat.le_of_ble_eq_true rfl)
  rw [lg_entry_eq]
  generalize (lg_sl ([.ref b]) ++ List.replicate (8 - (lg_sl ([.ref b])).length) Slot.unset).toArray = ls at hl ⊢
  have hl : lv_has ls 8 [(0, .ref b)] := hl
  obtain ⟨H, hH⟩ : ∃ H, H = s.heap := ⟨_, rfl⟩
  rw [← hH] at hP ⊢
  have hS : va_S A s.heap H [] := by rw [hH]; exact va_S.rf
  refine va_new (ci := 10) (fs := [.null, .null, .null, .null, .null, .null, .null, .null, .null, .null, .null, .null, .null, .null, .null, .int 0, .int 0, .int 0, .int 0]) (C := RX10) (T := TX10) (N := 19) hx hb hts inlX10 tyX10 tyX10_ok hown (hts _ uw_LS_cl8) (hts _ uw_LS_inX10) (hts _ uw_LS_iniRX10) hK hP hD hS hA rfl (by decide +kernel) (Nat.le_of_ble_eq_true rfl) (Nat.le_of_ble_eq_true rfl) dL_law__0 (fun ax H hP hD hS => ?_)
  have hP : va_P (dC, dI) vwCl [(ax, .inr (10, [.null, .null, .null, .null, .null, .null, .null, .null, .null, .null, .null, .null, .null, .null, .null, .int 0, .int 0, .int 0, .int 0]))] H := hP
  have hD : va_D A [(ax, .inr (10, [.null, .null, .null, .null, .null, .null, .null, .null, .null, .null, .null, .null, .null, .null, .null, .int 0, .int 0, .int 0, .int 0]))] := hD
  refine lv_dup hx hb dL_law__3 rfl ?_
  have hPc := hP.sub (ws' := [(ax, .inr (10, [.null, .null, .null, .null, .null, .null, .null, .null, .null, .null, .null, .null, .null, .null, .null, .int 0, .int 0, .int 0, .int 0]))]) [0] rfl
  have hDc := hD.sub (ws' := [(ax, .inr (10, [.null, .null, .null, .null, .null, .null, .null, .null, .null, .null, .null, .null, .null, .null, .null, .int 0, .int 0, .int 0, .int 0]))]) [0] (by decide) rfl
  have hFc := va_free (wc := [(ax, .inr (10, [.null, .null, .null, .null, .null, .null, .null, .null, .null, .null, .null, .null, .null, .null, .null, .int 0, .int 0, .int 0, .int 0]))]) hD hS hA [0] rfl
  refine va_callv (va_runI (As := []) (rest := [.ref ax]) ⟨hx, hb, hml, hown, hts⟩ (ck_X10_init l dC dI cyB cyI cyJ cyP ax H.size     (Q := XF) pu_X10_init) (cwI 0 hts gL_law__X10_init rfl rfl rfl (hts _ uw_LS_iniRX10) (hts _ uw_LS_m107) (hts _ uw_LS_imX10_init) rfl (by decide +kernel) ⟨Nat.le_of_ble_eq_true rfl, Nat.le_of_ble_eq_true rfl⟩) ⟨cPc_blind, cPc_pre hPc hK hDc hNw⟩ rfl rfl hl.1 rfl (lv_room (Nat.le_of_ble_eq_true rfl)) dL_law__4 ⟨Nat.le_of_ble_eq_true rfl, Nat.le_of_ble_eq_true rfl⟩) hS (fun q _ h => hFc q h) hFc (fun u t H1 locs ht hvm hw hB hz1 hk1 hS => ?_)
  obtain ⟨ad13, x1, f2, f3, x4, f5, f6, x7, f8, x9, f10, f11, f12⟩ := u
  obtain ⟨hP1, hK1, hD1⟩ := hB
  rw [ht] at hP1
  obtain ⟨hP, hD⟩ := va_join (wr := []) (w1 := (lsW1 cyB cyI cyJ cyP ax ad13 x1 f2 f3 x4 f5 f6 x7 f8 x9 f10 f11 f12)) hP hD [0] [] rfl rfl (by decide +kernel) (by decide +kernel) hk1 hFc hP1 hD1
  have hP : va_P (dC, dI) vwCl (lsW1 cyB cyI cyJ cyP ax ad13 x1 f2 f3 x4 f5 f6 x7 f8 x9 f10 f11 f12) H1 := hP
  have hD : va_D A (lsW1 cyB cyI cyJ cyP ax ad13 x1 f2 f3 x4 f5 f6 x7 f8 x9 f10 f11 f12) := hD
  generalize H1 = H at hP hS ⊢
  have hXF := hw
  refine lv_astore_n (lv' := [(1, .ref ax), (0, .ref b)]) hx hb dL_law__7 rfl hl (by decide) rfl (fun ls hl => ?_)
  refine W.widen (k := 69) (n := 9372) (Nat.le_of_ble_eq_true rfl) (Nat.le_of_ble_eq_true rfl) ?_
  exact ls_mid hL dC dI cyB cyI cyJ cyP F hE9 eA hS hXF hP hD hl
