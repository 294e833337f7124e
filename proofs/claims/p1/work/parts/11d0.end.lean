set_option maxHeartbeats 16000000 in
set_option maxRecDepth 100000 in
theorem ls_end {p : Program} {l : Launch} {e : Env} {s : State} {m : MethodId} {below : List Frame} {meth : Method} {c : Code} {b L : Nat} {xs : Nat → Int32} (hL : L ≤ 9) (dC : Nat → ClassId) (dI : Nat → Nat → Nat) (cyB cyI cyJ cyP : ClassId) (F : lfz L p l s m meth c b xs (dC, dI) (kT cyB cyI cyJ cyP)) (hE9 : zE (fun q : Nat => s.heap.size ≤ q) s s.heap) {A : Nat → Prop} (eA : A = (fun q : Nat => s.heap.size ≤ q)) {H : Heap} {locs : List Loc} {ls : Array Slot} (hS : va_S A s.heap H locs) {x1 : Int32} {f2 : Nat → Int32} {f3 : Nat → Int32} {x4 : Int32} {f5 : Nat → Int32} {f6 : Nat → Int32} {x7 : Int32} {f8 : Nat → Int32} {x9 : Int32} {f10 : Nat → Int32} {f11 : Nat → Int32} {f12 : Nat → Int32} {x14 : Int32} {x15 : Int32} {x16 : Int32} {x17 : Int32} {x18 : Int32} {x19 : Int32} {x20 : Int32} {x21 : Int32} {x22 : Int32} {x23 : Int32} {x24 : Int32} {f25 : Nat → Int32} {f26 : Nat → Int32} {f27 : Nat → Int32} {f28 : Nat → Int32} {f29 : Nat → Int32} {f30 : Nat → Int32} (hXF : XF x1 f2 f3 x4 f5 f6 x7 f8 x9 f10 f11 f12) (hMF : MF x14 x15 x16 x17 x18 x19 x20 x21 x22 x23 x24 f25 f26 f27 f28 f29 f30) {ad13 ad31 : Nat → Nat} {ax am : Nat} (hP : va_P (dC, dI) vwCl (lsW2 cyB cyI cyJ cyP ax am ad13 ad31 x1 f2 f3 x4 f5 f6 x7 f8 x9 f10 f11 f12 x14 x15 x16 x17 x18 x19 x20 x21 x22 x23 x24 f25 f26 f27 f28 f29 f30) H) (hD : va_D A (lsW2 cyB cyI cyJ cyP ax am ad13 ad31 x1 f2 f3 x4 f5 f6 x7 f8 x9 f10 f11 f12 x14 x15 x16 x17 x18 x19 x20 x21 x22 x23 x24 f25 f26 f27 f28 f29 f30)) (hl : lv_has ls 8 [(2, .ref am), (1, .ref ax), (0, .ref b)]) : W p l e room_1 s m #[Value.ref b] below meth c H locs 99 19879 (lw_Z below #[Value.ref b] s) (F0 m 16 ls []) := by
  obtain ⟨hx, hb, hr, hml, hown, hts, hX, hbl, hlocks, hK, hNw, hY⟩ := id F
  have hA : ∀ q : Nat, s.heap.size ≤ q → A q := fun q h => by rw [eA]; exact h
  have hbA : ¬ A b := by rw [eA]; exact Nat.not_le.mpr hbl
  refine lv_iconst (v := 1) hx hb dL_law__16 (by decide) ?_
  refine va_newa (atype := .long) (ty := .long) (N' := 1) (a0 := (1, .inr (.inl (fun _ => 0)))) hx hb (hts _ uw_LS_aclong) rfl hK hP hD hS hA (fun _ => rfl) (by decide) (by decide) (by decide) (Nat.le_of_ble_eq_true rfl) (Nat.le_of_ble_eq_true rfl) dL_law__17 (fun ao cA9 H hK9 hP hD hS => ?_)
  obtain rfl := kT_long hK9
  have hP : va_P (dC, dI) vwCl (lsW cyB cyI cyJ cyP ax am ao ad13 ad31 x1 f2 f3 x4 f5 f6 x7 f8 x9 f10 f11 f12 x14 x15 x16 x17 x18 x19 x20 x21 x22 x23 x24 f25 f26 f27 f28 f29 f30) H := hP
  have hD : va_D A (lsW cyB cyI cyJ cyP ax am ao ad13 ad31 x1 f2 f3 x4 f5 f6 x7 f8 x9 f10 f11 f12 x14 x15 x16 x17 x18 x19 x20 x21 x22 x23 x24 f25 f26 f27 f28 f29 f30) := hD
  refine lv_astore_n (lv' := [(3, .ref ao), (2, .ref am), (1, .ref ax), (0, .ref b)]) hx hb dL_law__19 rfl hl (by decide) rfl (fun ls hl => ?_)
  refine lv_iconst (v := 0) hx hb dL_law__20 (by decide) ?_
  refine lv_istore (lv' := [(4, .int 0), (3, .ref ao), (2, .ref am), (1, .ref ax), (0, .ref b)]) hx hb dL_law__21 hl (by decide) rfl (fun ls hl => ?_)
  by_cases h8 : L ≤ 8
  · exact law_short h8 hx hb hr hlocks hX hbl eA hS (lv_sub hl [4, 0] rfl) (Nat.le_of_ble_eq_true rfl) (Nat.le_of_ble_eq_true rfl)
  obtain rfl : L = 9 := by omega
  refine W.widen (k := 100) (n := 19880) (Nat.le_of_ble_eq_true rfl) (Nat.le_of_ble_eq_true rfl) ?_
  subst eA
  exact ls_go dC dI cyB cyI cyJ cyP hXF hMF F hE9 hP hD hS hl
