set_option maxHeartbeats 16000000 in
set_option maxRecDepth 100000 in
theorem ls_go {p : Program} {l : Launch} {e : Env} {s : State} {m : MethodId} {below : List Frame} {meth : Method} {c : Code} {b : Nat} {xs : Nat → Int32} (dC : Nat → ClassId) (dI : Nat → Nat → Nat) (cyB cyI cyJ cyP : ClassId) {x1 : Int32} {f2 : Nat → Int32} {f3 : Nat → Int32} {x4 : Int32} {f5 : Nat → Int32} {f6 : Nat → Int32} {x7 : Int32} {f8 : Nat → Int32} {x9 : Int32} {f10 : Nat → Int32} {f11 : Nat → Int32} {f12 : Nat → Int32} {x14 : Int32} {x15 : Int32} {x16 : Int32} {x17 : Int32} {x18 : Int32} {x19 : Int32} {x20 : Int32} {x21 : Int32} {x22 : Int32} {x23 : Int32} {x24 : Int32} {f25 : Nat → Int32} {f26 : Nat → Int32} {f27 : Nat → Int32} {f28 : Nat → Int32} {f29 : Nat → Int32} {f30 : Nat → Int32} (hXF : XF x1 f2 f3 x4 f5 f6 x7 f8 x9 f10 f11 f12) (hMF : MF x14 x15 x16 x17 x18 x19 x20 x21 x22 x23 x24 f25 f26 f27 f28 f29 f30) {ad13 ad31 : Nat → Nat} {ax am ao : Nat} (F : lfz 9 p l s m meth c b xs (dC, dI) (kT cyB cyI cyJ cyP)) (hE9 : zE (fun q : Nat => s.heap.size ≤ q) s s.heap) {H : Heap} {locs : List Loc} {ls : Array Slot} (hP : va_P (dC, dI) vwCl (lsW cyB cyI cyJ cyP ax am ao ad13 ad31 x1 f2 f3 x4 f5 f6 x7 f8 x9 f10 f11 f12 x14 x15 x16 x17 x18 x19 x20 x21 x22 x23 x24 f25 f26 f27 f28 f29 f30) H) (hD : va_D (fun q : Nat => s.heap.size ≤ q) (lsW cyB cyI cyJ cyP ax am ao ad13 ad31 x1 f2 f3 x4 f5 f6 x7 f8 x9 f10 f11 f12 x14 x15 x16 x17 x18 x19 x20 x21 x22 x23 x24 f25 f26 f27 f28 f29 f30)) (hS : va_S (fun q : Nat => s.heap.size ≤ q) s.heap H locs) (hl : lv_has ls 8 [(4, .int 0), (3, .ref ao), (2, .ref am), (1, .ref ax), (0, .ref b)]) : W p l e room_1 s m #[Value.ref b] below meth c H locs 100 19880 (lw_Z below #[Value.ref b] s) (F0 m 23 ls []) := by
  obtain ⟨hx, hb, hr, hml, hown, hts, hX, hbl, hlocks, hK, hNw, hY⟩ := id F
  have hbA : ¬ (fun q : Nat => s.heap.size ≤ q) b := Nat.not_le.mpr hbl
  refine lv_iload hx hb dL_law__23 (lv_at hl 0 rfl) ?_
  refine lv_aload_n hx hb dL_law__25 rfl (lv_at hl 4 rfl) ?_
  refine va_slen hx hb hX hbl hbA hS dL_law__26 ?_
  refine lv_bipush (v := 9) hx hb dL_law__27 (by decide) ?_
  refine lv_isub hx hb dL_law__29 ?_
  refine lv_icmp_gt (tgt := 2411) hx hb dL_law__30 (by decide) (fun c9 => absurd c9 (by decide)) (fun _ => ?_)
  refine lv_aload_n hx hb dL_law__33 rfl (lv_at hl 4 rfl) ?_
  refine lv_iload hx hb dL_law__34 (lv_at hl 0 rfl) ?_
  refine va_sld hx hb hX hbl hbA hS (vin (by decide)) dL_law__36 ?_
  refine lv_bipush (v := 63) hx hb dL_law__37 (by decide) ?_
  refine lv_iand hx hb dL_law__39 ?_
  refine lv_topi (fun y9 ey9 => ?_)
  by_cases c0 : y9.toInt < 0 ∨ 37 < y9.toInt
  · refine lv_tableOut (tgt := 2405) hx hb dL_law__40 c0 (by decide) ?_
    exact law_end dC dI cyB cyI cyJ cyP F rfl hS (lv_sub hl [4, 0] rfl) (Nat.le_of_ble_eq_true rfl) (Nat.le_of_ble_eq_true rfl)
  rcases tsw_0_37 c0 with c0 | c0 | c0 | c0 | c0 | c0 | c0 | c0 | c0 | c0 | c0 | c0 | c0 | c0 | c0 | c0 | c0 | c0 | c0 | c0 | c0 | c0 | c0 | c0 | c0 | c0 | c0 | c0 | c0 | c0 | c0 | c0 | c0 | c0 | c0 | c0 | c0 | c0
  · refine lv_tableIn (tgt := 208) (off := 168) hx hb dL_law__40 (by rw [c0]; decide) (by rw [c0]; decide) (by rw [c0]; decide) (by decide) ?_
    exact ls_LC0 dC dI cyB cyI cyJ cyP hXF hMF F hE9 hP hD hS hl
  · refine lv_tableIn (tgt := 281) (off := 241) hx hb dL_law__40 (by rw [c0]; decide) (by rw [c0]; decide) (by rw [c0]; decide) (by decide) ?_
    exact ls_LC1 dC dI cyB cyI cyJ cyP hXF hMF F hE9 hP hD hS hl
  · refine lv_tableIn (tgt := 337) (off := 297) hx hb dL_law__40 (by rw [c0]; decide) (by rw [c0]; decide) (by rw [c0]; decide) (by decide) ?_
    exact ls_LC2 dC dI cyB cyI cyJ cyP hXF hMF F hE9 hP hD hS hl
  · refine lv_tableIn (tgt := 393) (off := 353) hx hb dL_law__40 (by rw [c0]; decide) (by rw [c0]; decide) (by rw [c0]; decide) (by decide) ?_
    exact ls_LC3 dC dI cyB cyI cyJ cyP hXF hMF F hE9 hP hD hS hl
  · refine lv_tableIn (tgt := 449) (off := 409) hx hb dL_law__40 (by rw [c0]; decide) (by rw [c0]; decide) (by rw [c0]; decide) (by decide) ?_
    exact ls_LC4 dC dI cyB cyI cyJ cyP hXF hMF F hE9 hP hD hS hl
  · refine lv_tableIn (tgt := 505) (off := 465) hx hb dL_law__40 (by rw [c0]; decide) (by rw [c0]; decide) (by rw [c0]; decide) (by decide) ?_
    exact ls_LC5 dC dI cyB cyI cyJ cyP hXF hMF F hE9 hP hD hS hl
  · refine lv_tableIn (tgt := 518) (off := 478) hx hb dL_law__40 (by rw [c0]; decide) (by rw [c0]; decide) (by rw [c0]; decide) (by decide) ?_
    exact ls_LC6 dC dI cyB cyI cyJ cyP hXF hMF F hE9 hP hD hS hl
  · refine lv_tableIn (tgt := 531) (off := 491) hx hb dL_law__40 (by rw [c0]; decide) (by rw [c0]; decide) (by rw [c0]; decide) (by decide) ?_
    exact ls_LC7 dC dI cyB cyI cyJ cyP hXF hMF F hE9 hP hD hS hl
  · refine lv_tableIn (tgt := 587) (off := 547) hx hb dL_law__40 (by rw [c0]; decide) (by rw [c0]; decide) (by rw [c0]; decide) (by decide) ?_
    exact ls_LC8 dC dI cyB cyI cyJ cyP hXF hMF F hE9 hP hD hS hl
  · refine lv_tableIn (tgt := 655) (off := 615) hx hb dL_law__40 (by rw [c0]; decide) (by rw [c0]; decide) (by rw [c0]; decide) (by decide) ?_
    exact ls_LC9 dC dI cyB cyI cyJ cyP hXF hMF F hE9 hP hD hS hl
  · refine lv_tableIn (tgt := 723) (off := 683) hx hb dL_law__40 (by rw [c0]; decide) (by rw [c0]; decide) (by rw [c0]; decide) (by decide) ?_
    exact ls_LC10 dC dI cyB cyI cyJ cyP hXF hMF F hE9 hP hD hS hl
  · refine lv_tableIn (tgt := 791) (off := 751) hx hb dL_law__40 (by rw [c0]; decide) (by rw [c0]; decide) (by rw [c0]; decide) (by decide) ?_
    exact ls_LC11 dC dI cyB cyI cyJ cyP hXF hMF F hE9 hP hD hS hl
  · refine lv_tableIn (tgt := 859) (off := 819) hx hb dL_law__40 (by rw [c0]; decide) (by rw [c0]; decide) (by rw [c0]; decide) (by decide) ?_
    exact ls_LC12 dC dI cyB cyI cyJ cyP hXF hMF F hE9 hP hD hS hl
  · refine lv_tableIn (tgt := 927) (off := 887) hx hb dL_law__40 (by rw [c0]; decide) (by rw [c0]; decide) (by rw [c0]; decide) (by decide) ?_
    exact ls_LC13 dC dI cyB cyI cyJ cyP hXF hMF F hE9 hP hD hS hl
  · refine lv_tableIn (tgt := 1073) (off := 1033) hx hb dL_law__40 (by rw [c0]; decide) (by rw [c0]; decide) (by rw [c0]; decide) (by decide) ?_
    exact ls_LC14 dC dI cyB cyI cyJ cyP hXF hMF F hE9 hP hD hS hl
  · refine lv_tableIn (tgt := 1148) (off := 1108) hx hb dL_law__40 (by rw [c0]; decide) (by rw [c0]; decide) (by rw [c0]; decide) (by decide) ?_
    exact ls_LC15 dC dI cyB cyI cyJ cyP hXF hMF F hE9 hP hD hS hl
  · refine lv_tableIn (tgt := 1216) (off := 1176) hx hb dL_law__40 (by rw [c0]; decide) (by rw [c0]; decide) (by rw [c0]; decide) (by decide) ?_
    exact ls_LC16 dC dI cyB cyI cyJ cyP hXF hMF F hE9 hP hD hS hl
  · refine lv_tableIn (tgt := 1284) (off := 1244) hx hb dL_law__40 (by rw [c0]; decide) (by rw [c0]; decide) (by rw [c0]; decide) (by decide) ?_
    exact ls_LC17 dC dI cyB cyI cyJ cyP hXF hMF F hE9 hP hD hS hl
  · refine lv_tableIn (tgt := 1297) (off := 1257) hx hb dL_law__40 (by rw [c0]; decide) (by rw [c0]; decide) (by rw [c0]; decide) (by decide) ?_
    exact ls_LC18 dC dI cyB cyI cyJ cyP hXF hMF F hE9 hP hD hS hl
  · refine lv_tableIn (tgt := 1353) (off := 1313) hx hb dL_law__40 (by rw [c0]; decide) (by rw [c0]; decide) (by rw [c0]; decide) (by decide) ?_
    exact ls_LC19 dC dI cyB cyI cyJ cyP hXF hMF F hE9 hP hD hS hl
  · refine lv_tableIn (tgt := 1366) (off := 1326) hx hb dL_law__40 (by rw [c0]; decide) (by rw [c0]; decide) (by rw [c0]; decide) (by decide) ?_
    exact ls_LC20 dC dI cyB cyI cyJ cyP hXF hMF F hE9 hP hD hS hl
  · refine lv_tableIn (tgt := 1422) (off := 1382) hx hb dL_law__40 (by rw [c0]; decide) (by rw [c0]; decide) (by rw [c0]; decide) (by decide) ?_
    exact ls_LC21 dC dI cyB cyI cyJ cyP hXF hMF F hE9 hP hD hS hl
  · refine lv_tableIn (tgt := 1478) (off := 1438) hx hb dL_law__40 (by rw [c0]; decide) (by rw [c0]; decide) (by rw [c0]; decide) (by decide) ?_
    exact ls_LC22 dC dI cyB cyI cyJ cyP hXF hMF F hE9 hP hD hS hl
  · refine lv_tableIn (tgt := 1534) (off := 1494) hx hb dL_law__40 (by rw [c0]; decide) (by rw [c0]; decide) (by rw [c0]; decide) (by decide) ?_
    exact ls_LC23 dC dI cyB cyI cyJ cyP hXF hMF F hE9 hP hD hS hl
  · refine lv_tableIn (tgt := 1590) (off := 1550) hx hb dL_law__40 (by rw [c0]; decide) (by rw [c0]; decide) (by rw [c0]; decide) (by decide) ?_
    exact ls_LC24 dC dI cyB cyI cyJ cyP hXF hMF F hE9 hP hD hS hl
  · refine lv_tableIn (tgt := 1646) (off := 1606) hx hb dL_law__40 (by rw [c0]; decide) (by rw [c0]; decide) (by rw [c0]; decide) (by decide) ?_
    exact ls_LC25 dC dI cyB cyI cyJ cyP hXF hMF F hE9 hP hD hS hl
  · refine lv_tableIn (tgt := 1737) (off := 1697) hx hb dL_law__40 (by rw [c0]; decide) (by rw [c0]; decide) (by rw [c0]; decide) (by decide) ?_
    exact ls_LC26 dC dI cyB cyI cyJ cyP hXF hMF F hE9 hP hD hS hl
  · refine lv_tableIn (tgt := 1817) (off := 1777) hx hb dL_law__40 (by rw [c0]; decide) (by rw [c0]; decide) (by rw [c0]; decide) (by decide) ?_
    exact ls_LC27 dC dI cyB cyI cyJ cyP hXF hMF F hE9 hP hD hS hl
  · refine lv_tableIn (tgt := 1897) (off := 1857) hx hb dL_law__40 (by rw [c0]; decide) (by rw [c0]; decide) (by rw [c0]; decide) (by decide) ?_
    exact ls_LC28 dC dI cyB cyI cyJ cyP hXF hMF F hE9 hP hD hS hl
  · refine lv_tableIn (tgt := 1953) (off := 1913) hx hb dL_law__40 (by rw [c0]; decide) (by rw [c0]; decide) (by rw [c0]; decide) (by decide) ?_
    exact ls_LC29 dC dI cyB cyI cyJ cyP hXF hMF F hE9 hP hD hS hl
  · refine lv_tableIn (tgt := 2021) (off := 1981) hx hb dL_law__40 (by rw [c0]; decide) (by rw [c0]; decide) (by rw [c0]; decide) (by decide) ?_
    exact ls_LC30 dC dI cyB cyI cyJ cyP hXF hMF F hE9 hP hD hS hl
  · refine lv_tableIn (tgt := 2089) (off := 2049) hx hb dL_law__40 (by rw [c0]; decide) (by rw [c0]; decide) (by rw [c0]; decide) (by decide) ?_
    exact ls_LC31 dC dI cyB cyI cyJ cyP hXF hMF F hE9 hP hD hS hl
  · refine lv_tableIn (tgt := 2145) (off := 2105) hx hb dL_law__40 (by rw [c0]; decide) (by rw [c0]; decide) (by rw [c0]; decide) (by decide) ?_
    exact ls_LC32 dC dI cyB cyI cyJ cyP hXF hMF F hE9 hP hD hS hl
  · refine lv_tableIn (tgt := 2225) (off := 2185) hx hb dL_law__40 (by rw [c0]; decide) (by rw [c0]; decide) (by rw [c0]; decide) (by decide) ?_
    exact ls_LC33 dC dI cyB cyI cyJ cyP hXF hMF F hE9 hP hD hS hl
  · refine lv_tableIn (tgt := 2329) (off := 2289) hx hb dL_law__40 (by rw [c0]; decide) (by rw [c0]; decide) (by rw [c0]; decide) (by decide) ?_
    exact ls_LC34 dC dI cyB cyI cyJ cyP hXF hMF F hE9 hP hD hS hl
  · refine lv_tableIn (tgt := 2342) (off := 2302) hx hb dL_law__40 (by rw [c0]; decide) (by rw [c0]; decide) (by rw [c0]; decide) (by decide) ?_
    exact ls_LC35 dC dI cyB cyI cyJ cyP hXF hMF F hE9 hP hD hS hl
  · refine lv_tableIn (tgt := 2355) (off := 2315) hx hb dL_law__40 (by rw [c0]; decide) (by rw [c0]; decide) (by rw [c0]; decide) (by decide) ?_
    exact ls_LC36 dC dI cyB cyI cyJ cyP hXF hMF F hE9 hP hD hS hl
  · refine lv_tableIn (tgt := 2380) (off := 2340) hx hb dL_law__40 (by rw [c0]; decide) (by rw [c0]; decide) (by rw [c0]; decide) (by decide) ?_
    exact ls_LC37 dC dI cyB cyI cyJ cyP hXF hMF F hE9 hP hD hS hl
