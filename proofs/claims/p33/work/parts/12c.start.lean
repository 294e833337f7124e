/-- worlds by their leaves -/
def qaWQ (x0 : Nat) (x1 x2 x3 x4 x5 x6 x7 x8 x9 x10 x11 x12 x13 x14 x15 x16 x17 x18 x19 x20 x21 x22 x23 x24 x25 x26 : Int32) : va_W := [(x0, .inr (11, [.int x1, .null, .int x2, .int x3, .int x4, .int x5, .int x6, .int x7, .int x8, .null, .null, .null, .null, .null, .null, .null, .null, .int x9, .int x10, .int x11, .int x12, .int x13, .int x14, .null, .null, .null, .null, .null, .int x15, .int x16, .null, .null, .null, .int x17, .int x18, .int x19, .int x20, .int x21, .int x22, .null, .null, .null, .null, .null, .int x23, .null, .null, .null, .null, .null, .null, .int x24, .int x25, .null, .int x26]))]
def qbhd (x0 : Nat) (x1 : Int32) (x2 : Nat) (x3 x4 x5 x6 x7 x8 x9 : Int32) (x10 x11 x12 x13 x14 x15 x16 x17 : Nat) (x18 x19 x20 x21 x22 x23 : Int32) (x24 x25 x26 x27 x28 : Nat) (x29 x30 : Int32) (x31 x32 x33 : Nat) (x34 x35 x36 x37 x38 x39 : Int32) (x40 x41 x42 x43 x44 : Nat) (x45 : Int32) (x46 x47 x48 x49 x50 x51 : Nat) (x52 x53 : Int32) (x54 : Nat) (x55 : Int32) (x56 : Nat) (x57 : ClassId) (x58 : NI) (x59 : Nat) (x60 : ClassId) (x61 : NI) (x62 : Nat) (x63 : ClassId) (x64 : NI) (x65 : Nat) (x66 : ClassId) (x67 : NI) (x68 : Nat) (x69 : ClassId) (x70 : NI) (x71 : Nat) (x72 : ClassId) (x73 : NI) (x74 : Nat) (x75 : ClassId) (x76 : NI) (x77 : Nat) (x78 : ClassId) (x79 : NI) (x80 : Nat) (x81 : ClassId) (x82 : NI) (x83 : Nat) (x84 : ClassId) (x85 : NI) (x86 : Nat) (x87 : ClassId) (x88 : NI) (x89 : Nat) (x90 : ClassId) (x91 : NI) (x92 : Nat) (x93 : ClassId) (x94 : NI) (x95 : Nat) (x96 : ClassId) (x97 : NI) (x98 : Nat) (x99 : ClassId) (x100 : NI) (x101 : Nat) (x102 : ClassId) (x103 : NI) (x104 : Nat) (x105 : ClassId) (x106 : NI) (x107 : Nat) (x108 : ClassId) (x109 : NI) (x110 : Nat) (x111 : ClassId) (x112 : NI) (x113 : Nat) (x114 : ClassId) (x115 : NI) (x116 : Nat) (x117 : ClassId) (x118 : NI) (x119 : Nat) (x120 : ClassId) (x121 : NI) (x122 : Nat) (x123 : ClassId) (x124 : NI) (x125 : Nat) (x126 : ClassId) (x127 : NI) (x128 : Nat) (x129 : ClassId) (x130 : NI) (x131 : Nat) (x132 : ClassId) (x133 : NI) (x134 : Nat) (x135 : ClassId) (x136 : NI) (x137 : Nat) (x138 : ClassId) (x139 : Nat → Int64) (x140 : Nat) (x141 : ClassId) (x142 : NI) : va_W := [(x0, .inr (11, [.int x1, .ref x2, .int x3, .int x4, .int x5, .int x6, .int x7, .int x8, .int x9, .ref x10, .ref x11, .ref x12, .ref x13, .ref x14, .ref x15, .ref x16, .ref x17, .int x18, .int x19, .int x20, .int x21, .int x22, .int x23, .ref x24, .ref x25, .ref x26, .ref x27, .ref x28, .int x29, .int x30, .ref x31, .ref x32, .ref x33, .int x34, .int x35, .int x36, .int x37, .int x38, .int x39, .ref x40, .ref x41, .ref x42, .ref x43, .ref x44, .int x45, .ref x46, .ref x47, .ref x48, .ref x49, .ref x50, .ref x51, .int x52, .int x53, .ref x54, .int x55])), (x56, .inl (x57, 2, .inl x58)), (x59, .inl (x60, 600, .inl x61)), (x62, .inl (x63, 16, .inl x64)), (x65, .inl (x66, 12, .inl x67)), (x68, .inl (x69, 8, .inl x70)), (x71, .inl (x72, 36, .inl x73)), (x74, .inl (x75, 16, .inl x76)), (x77, .inl (x78, 12, .inl x79)), (x80, .inl (x81, 8, .inl x82)), (x83, .inl (x84, 150, .inl x85)), (x86, .inl (x87, 150, .inl x88)), (x89, .inl (x90, 150, .inl x91)), (x92, .inl (x93, 150, .inl x94)), (x95, .inl (x96, 150, .inl x97)), (x98, .inl (x99, 8, .inl x100)), (x101, .inl (x102, 200, .inl x103)), (x104, .inl (x105, 200, .inl x106)), (x107, .inl (x108, 68, .inl x109)), (x110, .inl (x111, 68, .inl x112)), (x113, .inl (x114, 1088, .inl x115)), (x116, .inl (x117, 8, .inl x118)), (x119, .inl (x120, 8, .inl x121)), (x122, .inl (x123, 1792, .inl x124)), (x125, .inl (x126, 6, .inl x127)), (x128, .inl (x129, 6, .inl x130)), (x131, .inl (x132, 2048, .inl x133)), (x134, .inl (x135, 7, .inl x136)), (x137, .inl (x138, 14, .inr (.inl x139))), (x140, .inl (x141, 3471, .inl x142))]
def qav7 (x0 : Nat) (x1 x2 x3 x4 : Int32) : va_W := [(x0, .inr (10, [.null, .null, .null, .null, .null, .null, .null, .null, .null, .null, .null, .null, .null, .null, .null, .int x1, .int x2, .int x3, .int x4]))]
set_option maxHeartbeats 16000000 in
set_option maxRecDepth 100000 in
theorem qbj3 {p : Program} {l : Launch} {e : Env} {s : State} {m : MethodId} {below : List Frame} {meth : Method} {c : Code} {b L : Nat} {xs : Nat → Int32} (hL : L ≤ 4608) (dC : Nat → ClassId) (dI : Nat → Nat → Nat) (cyB cyI cyJ cyP : ClassId) (F : lfz L p l s m meth c b xs (dC, dI) (kT cyB cyI cyJ cyP)) (hE9 : zE (fun q : Nat => s.heap.size ≤ q) s s.heap) {A : Nat → Prop} (eA : A = (fun q : Nat => s.heap.size ≤ q)) {H : Heap} {locs : List Loc} {ls : Array Slot} (hS : va_S A s.heap H locs) {x1 : Int32} {f2 : Nat → Int32} {f3 : Nat → Int32} {x4 : Int32} {f5 : Nat → Int32} {f6 : Nat → Int32} {x7 : Int32} {f8 : Nat → Int32} {x9 : Int32} {f10 : Nat → Int32} {f11 : Nat → Int32} {f12 : Nat → Int32} (hXF : XF x1 f2 f3 x4 f5 f6 x7 f8 x9 f10 f11 f12) {ad13 : Nat → Nat} {ax : Nat} (hP : va_P (dC, dI) vwCl (lsW1 cyB cyI cyJ cyP ax ad13 x1 f2 f3 x4 f5 f6 x7 f8 x9 f10 f11 f12) H) (hD : va_D A (lsW1 cyB cyI cyJ cyP ax ad13 x1 f2 f3 x4 f5 f6 x7 f8 x9 f10 f11 f12)) (hl : lv_has ls 8 [(1, .ref ax), (0, .ref b)]) : W p l e room_1 s m #[Value.ref b] below meth c H locs 69 9372 (lw_Z below #[Value.ref b] s) (F0 m 8 ls []) := by
  obtain ⟨hx, hb, hr, hml, hown, hts, hX, hbl, hlocks, hK, hNw, hY⟩ := id F
  have hA : ∀ q : Nat, s.heap.size ≤ q → A q := fun q h => by rw [eA]; exact h
  have hbA : ¬ A b := by rw [eA]; exact Nat.not_le.mpr hbl
  refine va_new (ci := 11) (fs := [.int 0, .null, .int 0, .int 0, .int 0, .int 0, .int 0, .int 0, .int 0, .null, .null, .null, .null, .null, .null, .null, .null, .int 0, .int 0, .int 0, .int 0, .int 0, .int 0, .null, .null, .null, .null, .null, .int 0, .int 0, .null, .null, .null, .int 0, .int 0, .int 0, .int 0, .int 0, .int 0, .null, .null, .null, .null, .null, .int 0, .null, .null, .null, .null, .null, .null, .int 0, .int 0, .null, .int 0]) (C := RX11) (T := TX11) (N := 55) hx hb hts inlX11 tyX11 tyX11_ok hown (hts _ qaZ6) (hts _ qaWv) (hts _ qac2) hK hP hD hS hA rfl (by decide +kernel) (nbq rfl) (nbq rfl) (qaa qzd 4 rfl) (fun am H hP hD hS => ?_)
  have hP : va_P (dC, dI) vwCl (lsWa cyB cyI cyJ cyP ax am ad13 x1 f2 f3 x4 f5 f6 x7 f8 x9 f10 f11 f12) H := hP
  have hD : va_D A (lsWa cyB cyI cyJ cyP ax am ad13 x1 f2 f3 x4 f5 f6 x7 f8 x9 f10 f11 f12) := hD
  refine lv_dup hx hb (qaa qzd 5 rfl) rfl ?_
  have hPc := hP.sub (ws' := (qaWQ am 0 0 0 0 0 0 0 0 0 0 0 0 0 0 0 0 0 0 0 0 0 0 0 0 0 0)) [69] rfl
  have hDc := hD.sub (ws' := (qaWQ am 0 0 0 0 0 0 0 0 0 0 0 0 0 0 0 0 0 0 0 0 0 0 0 0 0 0)) [69] (by decide) rfl
  have hFc := va_free (wc := (qaWQ am 0 0 0 0 0 0 0 0 0 0 0 0 0 0 0 0 0 0 0 0 0 0 0 0 0 0)) hD hS hA [69] rfl
  refine va_callv (va_runI (As := []) (rest := [.ref am]) ⟨hx, hb, hml, hown, hts⟩ (qaZX l dC dI cyB cyI cyJ cyP am H.size (Q := MF) qaYh) (cwI 0 hts gL_law__X11_init rfl rfl rfl (hts _ qac2) (hts _ qa27) (hts _ qatx) rfl (by decide +kernel) ⟨nbq rfl, nbq rfl⟩) ⟨qab, qae hPc hK hDc hNw⟩ rfl rfl hl.1 rfl (lv_room (nbq rfl)) (qaa qzd 6 rfl) ⟨nbq rfl, nbq rfl⟩) hS (fun q _ h => hFc q h) hFc (fun u t H1 locs ht hvm hw hB hz1 hk1 hS => ?_)
  obtain ⟨ad31, x14, x15, x16, x17, x18, x19, x20, x21, x22, x23, x24, f25, f26, f27, f28, f29, f30⟩ := u
  obtain ⟨hP1, hK1, hD1⟩ := hB
  rw [ht] at hP1
  obtain ⟨hP, hD⟩ := va_join (wr := (lsW1 cyB cyI cyJ cyP ax ad13 x1 f2 f3 x4 f5 f6 x7 f8 x9 f10 f11 f12)) (w1 := (qbhd am 0 (ad31 0) 0 0 0 0 0 0 (-1) (ad31 1) (ad31 2) (ad31 3) (ad31 4) (ad31 5) (ad31 6) (ad31 7) (ad31 8) x14 x15 x16 x17 x18 x19 (ad31 9) (ad31 10) (ad31 11) (ad31 12) (ad31 13) 0 x20 (ad31 14) (ad31 15) (ad31 16) 0 x21 x22 0 0 0 (ad31 17) (ad31 18) (ad31 19) (ad31 20) (ad31 21) x23 (ad31 22) (ad31 23) (ad31 24) (ad31 25) (ad31 26) (ad31 27) 0 0 (ad31 28) x24 (ad31 0) cyI (fun _ => 0) (ad31 1) cyI (fun _ => 0) (ad31 2) cyI (fun _ => 0) (ad31 3) cyI (fun _ => 0) (ad31 4) cyI (fun _ => 0) (ad31 5) cyI f25 (ad31 6) cyI f26 (ad31 7) cyI f27 (ad31 8) cyI f28 (ad31 9) cyI (fun _ => 0) (ad31 10) cyI (fun _ => 0) (ad31 11) cyI (fun _ => 0) (ad31 12) cyI (fun _ => 0) (ad31 13) cyI (fun _ => 0) (ad31 14) cyI (fun _ => 0) (ad31 15) cyI (fun _ => 0) (ad31 16) cyI (fun _ => 0) (ad31 17) cyI f29 (ad31 18) cyI (fun _ => 0) (ad31 19) cyI (fun _ => 0) (ad31 20) cyI (fun _ => 0) (ad31 21) cyI f30 (ad31 22) cyI (fun _ => 0) (ad31 23) cyI (fun _ => 0) (ad31 24) cyI (fun _ => 0) (ad31 25) cyI (fun _ => 0) (ad31 26) cyI (fun _ => 0) (ad31 27) cyJ (fun _ => 0) (ad31 28) cyI (fun _ => 0))) hP hD [69] [0, 1, 2, 3, 4, 5, 6, 7, 8, 9, 10, 11, 12, 13, 14, 15, 16, 17, 18, 19, 20, 21, 22, 23, 24, 25, 26, 27, 28, 29, 30, 31, 32, 33, 34, 35, 36, 37, 38, 39, 40, 41, 42, 43, 44, 45, 46, 47, 48, 49, 50, 51, 52, 53, 54, 55, 56, 57, 58, 59, 60, 61, 62, 63, 64, 65, 66, 67, 68] rfl rfl (by decide +kernel) (by decide +kernel) hk1 hFc hP1 hD1
  have hP : va_P (dC, dI) vwCl (lsW2 cyB cyI cyJ cyP ax am ad13 ad31 x1 f2 f3 x4 f5 f6 x7 f8 x9 f10 f11 f12 x14 x15 x16 x17 x18 x19 x20 x21 x22 x23 x24 f25 f26 f27 f28 f29 f30) H1 := hP
  have hD : va_D A (lsW2 cyB cyI cyJ cyP ax am ad13 ad31 x1 f2 f3 x4 f5 f6 x7 f8 x9 f10 f11 f12 x14 x15 x16 x17 x18 x19 x20 x21 x22 x23 x24 f25 f26 f27 f28 f29 f30) := hD
  generalize H1 = H at hP hS ⊢
  have hMF := hw
  refine lv_astore_n (lv' := [(2, .ref am), (1, .ref ax), (0, .ref b)]) hx hb (qaa qzd 7 rfl) rfl hl (by decide) rfl (fun ls hl => ?_)
  refine W.widen (k := 99) (n := 19879) (nbq rfl) (nbq rfl) ?_
  exact qbie hL dC dI cyB cyI cyJ cyP F hE9 eA hS hXF hMF hP hD hl
set_option maxHeartbeats 16000000 in
set_option maxRecDepth 100000 in
theorem qa5Q {p : Program} {l : Launch} {e : Env} {s : State} {m : MethodId} {below : List Frame} {meth : Method} {c : Code} {b L : Nat} {xs : Nat → Int32} (hL : L ≤ 4608) (dC : Nat → ClassId) (dI : Nat → Nat → Nat) (cyB cyI cyJ cyP : ClassId) (F : lfz L p l s m meth c b xs (dC, dI) (kT cyB cyI cyJ cyP)) (hE9 : zE (fun q : Nat => s.heap.size ≤ q) s s.heap) : W p l e room_1 s m #[Value.ref b] below meth c s.heap [] 0 0 (lw_Z below #[Value.ref b] s) (entryFrame m ([Value.ref b] : List Value).toArray 8) := by
  obtain ⟨hx, hb, hr, hml, hown, hts, hX, hbl, hlocks, hK, hNw, hY⟩ := id F
  obtain ⟨A, eA⟩ : ∃ A : Nat → Prop, A = (fun q : Nat => s.heap.size ≤ q) := ⟨_, rfl⟩
  have hA : ∀ q : Nat, s.heap.size ≤ q → A q := fun q h => by rw [eA]; exact h
  have hbA : ¬ A b := by rw [eA]; exact Nat.not_le.mpr hbl
  have hP : va_P (dC, dI) vwCl [] s.heap := fun k q h => by simp at h
  have hD : va_D A [] := ⟨fun i j p q h => by simp at h, fun k q h => by simp at h⟩
  have hl := lv_entry ([.ref b]) (n := 8) (nbq rfl)
  rw [lg_entry_eq]
  generalize (lg_sl ([.ref b]) ++ List.replicate (8 - (lg_sl ([.ref b])).length) Slot.unset).toArray = ls at hl ⊢
  have hl : lv_has ls 8 [(0, .ref b)] := hl
  obtain ⟨H, hH⟩ : ∃ H, H = s.heap := ⟨_, rfl⟩
  rw [← hH] at hP ⊢
  have hS : va_S A s.heap H [] := by rw [hH]; exact va_S.rf
  refine va_new (ci := 10) (fs := [.null, .null, .null, .null, .null, .null, .null, .null, .null, .null, .null, .null, .null, .null, .null, .int 0, .int 0, .int 0, .int 0]) (C := RX10) (T := TX10) (N := 19) hx hb hts inlX10 tyX10 tyX10_ok hown (hts _ qa6z) (hts _ qaZU) (hts _ qahV) hK hP hD hS hA rfl (by decide +kernel) (nbq rfl) (nbq rfl) (qaa qzd 0 rfl) (fun ax H hP hD hS => ?_)
  have hP : va_P (dC, dI) vwCl (qav7 ax 0 0 0 0) H := hP
  have hD : va_D A (qav7 ax 0 0 0 0) := hD
  refine lv_dup hx hb (qaa qzd 1 rfl) rfl ?_
  have hPc := hP.sub (ws' := (qav7 ax 0 0 0 0)) [0] rfl
  have hDc := hD.sub (ws' := (qav7 ax 0 0 0 0)) [0] (by decide) rfl
  have hFc := va_free (wc := (qav7 ax 0 0 0 0)) hD hS hA [0] rfl
  refine va_callv (va_runI (As := []) (rest := [.ref ax]) ⟨hx, hb, hml, hown, hts⟩ (qaWX l dC dI cyB cyI cyJ cyP ax H.size (Q := XF) qaZa) (cwI 0 hts gL_law__X10_init rfl rfl rfl (hts _ qahV) (hts _ qa10) (hts _ qasN) rfl (by decide +kernel) ⟨nbq rfl, nbq rfl⟩) ⟨qab, qae hPc hK hDc hNw⟩ rfl rfl hl.1 rfl (lv_room (nbq rfl)) (qaa qzd 2 rfl) ⟨nbq rfl, nbq rfl⟩) hS (fun q _ h => hFc q h) hFc (fun u t H1 locs ht hvm hw hB hz1 hk1 hS => ?_)
  obtain ⟨ad13, x1, f2, f3, x4, f5, f6, x7, f8, x9, f10, f11, f12⟩ := u
  obtain ⟨hP1, hK1, hD1⟩ := hB
  rw [ht] at hP1
  obtain ⟨hP, hD⟩ := va_join (wr := []) (w1 := (lsW1 cyB cyI cyJ cyP ax ad13 x1 f2 f3 x4 f5 f6 x7 f8 x9 f10 f11 f12)) hP hD [0] [] rfl rfl (by decide +kernel) (by decide +kernel) hk1 hFc hP1 hD1
  have hP : va_P (dC, dI) vwCl (lsW1 cyB cyI cyJ cyP ax ad13 x1 f2 f3 x4 f5 f6 x7 f8 x9 f10 f11 f12) H1 := hP
  have hD : va_D A (lsW1 cyB cyI cyJ cyP ax ad13 x1 f2 f3 x4 f5 f6 x7 f8 x9 f10 f11 f12) := hD
  generalize H1 = H at hP hS ⊢
  have hXF := hw
  refine lv_astore_n (lv' := [(1, .ref ax), (0, .ref b)]) hx hb (qaa qzd 3 rfl) rfl hl (by decide) rfl (fun ls hl => ?_)
  refine W.widen (k := 69) (n := 9372) (nbq rfl) (nbq rfl) ?_
  exact qbj3 hL dC dI cyB cyI cyJ cyP F hE9 eA hS hXF hP hD hl
theorem whole_start {p : Program} {e : Env} {s : State} {m : MethodId} {below : List Frame} {meth : Method} {c : Code} (l : Launch) (hst : l.stackTraces = false) {b L : Nat} {xs : Nat → Int32} (hL : L ≤ 4608) (C0 : lw_At p s m meth c b L xs) : W p l e room_1 s m #[Value.ref b] below meth c s.heap [] 0 0 (lw_Z below #[Value.ref b] s) (entryFrame m ([Value.ref b] : List Value).toArray 8) := by
  obtain ⟨dC, dI, cyB, cyI, cyJ, cyP, F⟩ := qbm5 hst C0
  exact qa5Q hL dC dI cyB cyI cyJ cyP F (qbmR C0)
