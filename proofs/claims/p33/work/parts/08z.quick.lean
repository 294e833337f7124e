/-! decode rows by tables -/
/-! calls: the callee's world out of the caller's, and back -/
theorem qbi8 {α β : Type} {f : α → Option β} {l : List α} {w : List β} (h : l.map f = w.map some) : l.filterMap f = w := by
  induction l generalizing w with
  | nil =>
    cases w with
    | nil => rfl
    | cons b w => exact absurd h (by simp)
  | cons a l ih =>
    cases w with
    | nil => exact absurd h (by simp)
    | cons b w =>
      have h1 : f a = some b := (List.cons.inj h).1
      have h2 : l.map f = w.map some := (List.cons.inj h).2
      rw [List.filterMap_cons_some h1, ih h2]
theorem qac {D : va_G} {cl : List vw_C} {A0 : Nat → Prop} {ws ws' : va_W} {H0 H : Heap} {locs : List Loc} (hP : va_P D cl ws H) (hD : va_D A0 ws) (hS : va_S A0 H0 H locs) (hA : ∀ q, H0.size ≤ q → A0 q) (is : List Nat) (hn : va_nd is = true) (hC : is.map (fun i => ws[i]?) = ws'.map some) : (is.map (fun i => ws[i]?) = ws'.map some) ∧ va_P D cl ws' H ∧ va_D A0 ws' ∧ (∀ q, va_A ws' H.size q → A0 q) :=
  ⟨hC, hP.sub is (qbi8 hC), hD.sub is hn hC, va_free hD hS hA is hC⟩
theorem qad {A0 : Nat → Prop} {D : va_G} {cl : List vw_C} {ws wc wr w1 wn : va_W} {H H1 : Heap} (hP : va_P D cl ws H) (hD : va_D A0 ws) (isC isR isN : List Nat) (hC : isC.map (fun i => ws[i]?) = wc.map some) (hR : isR.map (fun i => ws[i]?) = wr.map some) (hn : va_nd isR = true) (hdis : ∀ i ∈ isR, i ∉ isC) (hn2 : va_nd isN = true) (hN : isN.map (fun i => (wr ++ w1)[i]?) = wn.map some)
    (hk : ∀ q : Nat, q < H.size → ¬ va_A wc H.size q → H1[q]? = H[q]?) (hF : ∀ q, va_A wc H.size q → A0 q) (hP1 : va_P D cl w1 H1) (hD1 : va_D (va_A wc H.size) w1) : va_P D cl wn H1 ∧ va_D A0 wn := by
  obtain ⟨h1, h2⟩ := va_join hP hD isC isR hC hR hn hdis hk hF hP1 hD1
  exact ⟨h1.sub isN (qbi8 hN), h2.sub isN hn2 hN⟩
theorem qah {A0 : Nat → Prop} {D : va_G} {cl : List vw_C} {ws wc wr w1 wn : va_W} {H H1 : Heap} (hP : va_P D cl ws H) (hD : va_D A0 ws) (isC isR : List Nat) (hC : isC.map (fun i => ws[i]?) = wc.map some) (hR : isR.map (fun i => ws[i]?) = wr.map some) (hn : va_nd isR = true) (hdis : ∀ i ∈ isR, i ∉ isC) (hN : wr ++ w1 = wn)
    (hk : ∀ q : Nat, q < H.size → ¬ va_A wc H.size q → H1[q]? = H[q]?) (hF : ∀ q, va_A wc H.size q → A0 q) (hP1 : va_P D cl w1 H1) (hD1 : va_D (va_A wc H.size) w1) : va_P D cl wn H1 ∧ va_D A0 wn := by
  subst hN
  exact va_join hP hD isC isR hC hR hn hdis hk hF hP1 hD1
theorem qbB {D : va_G} {cl : List vw_C} {A : Nat → Prop} {ws ws' : va_W} {H : Heap} (hP : va_P D cl ws H) (hD : va_D A ws) (is : List Nat) (n : Nat) (hn : va_nd is = true) (hb : is.all (fun i => Nat.blt i n) = true) (hl : ws.length = n) (hs : is.filterMap (fun i => ws[i]?) = ws') : va_P D cl ws' H ∧ va_D A ws' := by
  refine ⟨hP.sub is hs, hD.sub is hn ?_⟩
  rw [← hs]
  clear hs hn
  induction is with
  | nil => rfl
  | cons a l ih =>
    rw [List.all_cons, Bool.and_eq_true] at hb
    have ha : a < ws.length := by rw [hl]; exact nbq hb.1
    have e : ws[a]? = some ws[a] := List.getElem?_eq_getElem ha
    rw [List.map_cons, List.filterMap_cons, e]
    show some ws[a] :: _ = some ws[a] :: _
    rw [ih hb.2]
/-! decode by a table of opcodes -/
abbrev dtE : Type := Nat × Nat × (Nat → Int → Instr)
def dtB (k : Nat) (f : Nat → Int → Instr) : Decoder Instr :=
  match k with
  | 0 => pure (f 0 0)
  | 1 => Reader.u1 >>= fun a => pure (f a 0)
  | 2 => Reader.u2 >>= fun a => pure (f a 0)
  | 3 => Reader.s1 >>= fun b => pure (f 0 b)
  | 4 => Reader.s2 >>= fun b => pure (f 0 b)
  | _ => Reader.u1 >>= fun a => Reader.s1 >>= fun b => pure (f a b)
def dtK (k : Nat) (f : Nat → Int → Instr) (r0 : List UInt8) : Option (Instr × Nat × List UInt8) :=
  match k with
  | 0 => some (f 0 0, 1, r0)
  | 1 => match r0 with
    | b1 :: r => some (f b1.toNat 0, 2, r)
    | [] => none
  | 2 => match r0 with
    | b1 :: b2 :: r => some (f (b1.toNat * 256 + b2.toNat) 0, 3, r)
    | _ => none
  | 3 => match r0 with
    | b1 :: r => some (f 0 (Reader.signed 8 b1.toNat), 2, r)
    | [] => none
  | 4 => match r0 with
    | b1 :: b2 :: r => some (f 0 (Reader.signed 16 (b1.toNat * 256 + b2.toNat)), 3, r)
    | _ => none
  | 5 => match r0 with
    | b1 :: b2 :: r => some (f b1.toNat (Reader.signed 8 b2.toNat), 3, r)
    | _ => none
  | _ + 6 => none
theorem qbfv {c : ByteArray} {p : Nat} {b : UInt8} {r : List UInt8} (h : c.data.toList.drop p = b :: r) : p < c.data.toList.length := by
  have h1 := congrArg List.length h
  rw [List.length_drop, List.length_cons] at h1
  omega
theorem qazh {c : ByteArray} {p : Nat} {b : UInt8} {r : List UInt8} (h : c.data.toList.drop p = b :: r) : c.data.toList.drop (p + 1) = r := by
  have h1 := List.drop_eq_getElem_cons (qbfv h)
  exact (List.cons.inj (h1.symm.trans h)).2
theorem qbmL {c : ByteArray} {p : Nat} {b : UInt8} {r : List UInt8} (h : c.data.toList.drop p = b :: r) : ∃ h : p < c.size, c[p]'h = b := by
  have h1 := List.drop_eq_getElem_cons (qbfv h)
  exact ⟨qbfv h, (List.cons.inj (h1.symm.trans h)).1⟩
theorem qa1E {c : ByteArray} {p : Nat} {b : UInt8} {r : List UInt8} (h : c.data.toList.drop p = b :: r) : (Reader.u1 : Decoder Nat) c p = Except.ok (b.toNat, p + 1) := by
  obtain ⟨hp, e⟩ := qbmL h
  have e1 : (Reader.u1 : Decoder Nat) c p = (dite (p < c.size) (fun h => (do set (p + 1); pure (c[p]'h).toNat : Decoder Nat)) (fun _ => throw (HasTruncated.truncated p))) c p := rfl
  rw [e1, dif_pos hp, ← e]
  rfl
theorem qbhR {c : ByteArray} {p : Nat} {b1 b2 : UInt8} {r : List UInt8} (h : c.data.toList.drop p = b1 :: b2 :: r) : (Reader.u2 : Decoder Nat) c p = Except.ok (b1.toNat * 256 + b2.toNat, p + 1 + 1) := by
  have e1 : (Reader.u2 : Decoder Nat) c p = Except.bind ((Reader.u1 : Decoder Nat) c p) (fun v => Except.bind ((Reader.u1 : Decoder Nat) c v.2) (fun w => Except.ok (v.1 * 256 + w.1, w.2))) := rfl
  rw [e1, qa1E h]
  show Except.bind ((Reader.u1 : Decoder Nat) c (p + 1)) _ = _
  rw [qa1E (qazh h)]
  rfl
theorem qbk8 {c : ByteArray} {p : Nat} {b : UInt8} {r : List UInt8} (h : c.data.toList.drop p = b :: r) : (Reader.s1 : Decoder Int) c p = Except.ok (Reader.signed 8 b.toNat, p + 1) := by
  have e1 : (Reader.s1 : Decoder Int) c p = Except.bind ((Reader.u1 : Decoder Nat) c p) (fun v => Except.ok (Reader.signed 8 v.1, v.2)) := rfl
  rw [e1, qa1E h]
  rfl
theorem qbmG {c : ByteArray} {p : Nat} {b1 b2 : UInt8} {r : List UInt8} (h : c.data.toList.drop p = b1 :: b2 :: r) : (Reader.s2 : Decoder Int) c p = Except.ok (Reader.signed 16 (b1.toNat * 256 + b2.toNat), p + 1 + 1) := by
  have e1 : (Reader.s2 : Decoder Int) c p = Except.bind ((Reader.u2 : Decoder Nat) c p) (fun v => Except.ok (Reader.signed 16 v.1, v.2)) := rfl
  rw [e1, qbhR h]
  rfl
theorem qbln {c : ByteArray} {p k n : Nat} {f : Nat → Int → Instr} {i : Instr} {r0 r : List UInt8} (h : dtK k f r0 = some (i, n, r)) (hr : c.data.toList.drop (p + 1) = r0) : dtB k f c (p + 1) = Except.ok (i, p + n) ∧ c.data.toList.drop (p + n) = r := by
  match k, h with
  | 0, h =>
    have h : some (f 0 0, 1, r0) = some (i, n, r) := h
    cases h
    exact ⟨rfl, hr⟩
  | 1, h =>
    match r0, h, hr with
    | [], h, _ => exact absurd (show none = some (i, n, r) from h) (by simp)
    | b1 :: r1, h, hr =>
      have h : some (f b1.toNat 0, 2, r1) = some (i, n, r) := h
      cases h
      refine ⟨?_, qazh hr⟩
      show Except.bind ((Reader.u1 : Decoder Nat) c (p + 1)) _ = _
      rw [qa1E hr]
      rfl
  | 2, h =>
    match r0, h, hr with
    | [], h, _ => exact absurd (show none = some (i, n, r) from h) (by simp)
    | [_], h, _ => exact absurd (show none = some (i, n, r) from h) (by simp)
    | b1 :: b2 :: r1, h, hr =>
      have h : some (f (b1.toNat * 256 + b2.toNat) 0, 3, r1) = some (i, n, r) := h
      cases h
      refine ⟨?_, qazh (qazh hr)⟩
      show Except.bind ((Reader.u2 : Decoder Nat) c (p + 1)) _ = _
      rw [qbhR hr]
      rfl
  | 3, h =>
    match r0, h, hr with
    | [], h, _ => exact absurd (show none = some (i, n, r) from h) (by simp)
    | b1 :: r1, h, hr =>
      have h : some (f 0 (Reader.signed 8 b1.toNat), 2, r1) = some (i, n, r) := h
      cases h
      refine ⟨?_, qazh hr⟩
      show Except.bind ((Reader.s1 : Decoder Int) c (p + 1)) _ = _
      rw [qbk8 hr]
      rfl
  | 4, h =>
    match r0, h, hr with
    | [], h, _ => exact absurd (show none = some (i, n, r) from h) (by simp)
    | [_], h, _ => exact absurd (show none = some (i, n, r) from h) (by simp)
    | b1 :: b2 :: r1, h, hr =>
      have h : some (f 0 (Reader.signed 16 (b1.toNat * 256 + b2.toNat)), 3, r1) = some (i, n, r) := h
      cases h
      refine ⟨?_, qazh (qazh hr)⟩
      show Except.bind ((Reader.s2 : Decoder Int) c (p + 1)) _ = _
      rw [qbmG hr]
      rfl
  | 5, h =>
    match r0, h, hr with
    | [], h, _ => exact absurd (show none = some (i, n, r) from h) (by simp)
    | [_], h, _ => exact absurd (show none = some (i, n, r) from h) (by simp)
    | b1 :: b2 :: r1, h, hr =>
      have h : some (f b1.toNat (Reader.signed 8 b2.toNat), 3, r1) = some (i, n, r) := h
      cases h
      refine ⟨?_, qazh (qazh hr)⟩
      show Except.bind ((Reader.u1 : Decoder Nat) c (p + 1)) _ = _
      rw [qa1E hr]
      show Except.bind ((Reader.s1 : Decoder Int) c (p + 1 + 1)) _ = _
      rw [qbk8 (qazh hr)]
      rfl
  | _ + 6, h => exact absurd (show none = some (i, n, r) from h) (by simp)
def dtP (e : dtE) : Prop := ∀ (c : ByteArray) (p : Nat), (Reader.u1 : Decoder Nat) c p = Except.ok (e.1, p + 1) → Decoder.instr p c p = dtB e.2.1 e.2.2 c (p + 1)
theorem qbm3 : dtP (42, 0, fun _ _ => .aload_n 0) := fun c p hu => by
  unfold Decoder.instr
  show Except.bind ((Reader.u1 : Decoder Nat) c p) _ = _
  rw [hu]
  rfl
theorem qbms : dtP (180, 2, fun x _ => .getfield x) := fun c p hu => by
  unfold Decoder.instr
  show Except.bind ((Reader.u1 : Decoder Nat) c p) _ = _
  rw [hu]
  rfl
theorem qbmH : dtP (182, 2, fun x _ => .invokevirtual x) := fun c p hu => by
  unfold Decoder.instr
  show Except.bind ((Reader.u1 : Decoder Nat) c p) _ = _
  rw [hu]
  rfl
theorem qbml : dtP (3, 0, fun _ _ => .iconst 0) := fun c p hu => by
  unfold Decoder.instr
  show Except.bind ((Reader.u1 : Decoder Nat) c p) _ = _
  rw [hu]
  rfl
theorem qbmc : dtP (27, 0, fun _ _ => .iload_n 1) := fun c p hu => by
  unfold Decoder.instr
  show Except.bind ((Reader.u1 : Decoder Nat) c p) _ = _
  rw [hu]
  rfl
theorem qbmr : dtP (4, 0, fun _ _ => .iconst 1) := fun c p hu => by
  unfold Decoder.instr
  show Except.bind ((Reader.u1 : Decoder Nat) c p) _ = _
  rw [hu]
  rfl
theorem qbmU : dtP (21, 1, fun x _ => .iload x) := fun c p hu => by
  unfold Decoder.instr
  show Except.bind ((Reader.u1 : Decoder Nat) c p) _ = _
  rw [hu]
  rfl
theorem qbmX : dtP (167, 4, fun _ y => .goto y) := fun c p hu => by
  unfold Decoder.instr
  show Except.bind ((Reader.u1 : Decoder Nat) c p) _ = _
  rw [hu]
  rfl
theorem qbm9 : dtP (28, 0, fun _ _ => .iload_n 2) := fun c p hu => by
  unfold Decoder.instr
  show Except.bind ((Reader.u1 : Decoder Nat) c p) _ = _
  rw [hu]
  rfl
theorem qbmW : dtP (172, 0, fun _ _ => .ireturn) := fun c p hu => by
  unfold Decoder.instr
  show Except.bind ((Reader.u1 : Decoder Nat) c p) _ = _
  rw [hu]
  rfl
theorem qbke : dtP (96, 0, fun _ _ => .iadd) := fun c p hu => by
  unfold Decoder.instr
  show Except.bind ((Reader.u1 : Decoder Nat) c p) _ = _
  rw [hu]
  rfl
theorem qbj9 : dtP (16, 3, fun _ y => .bipush y) := fun c p hu => by
  unfold Decoder.instr
  show Except.bind ((Reader.u1 : Decoder Nat) c p) _ = _
  rw [hu]
  rfl
theorem qbhV : dtP (46, 0, fun _ _ => .iaload) := fun c p hu => by
  unfold Decoder.instr
  show Except.bind ((Reader.u1 : Decoder Nat) c p) _ = _
  rw [hu]
  rfl
theorem qbi3 : dtP (29, 0, fun _ _ => .iload_n 3) := fun c p hu => by
  unfold Decoder.instr
  show Except.bind ((Reader.u1 : Decoder Nat) c p) _ = _
  rw [hu]
  rfl
theorem qbjR : dtP (181, 2, fun x _ => .putfield x) := fun c p hu => by
  unfold Decoder.instr
  show Except.bind ((Reader.u1 : Decoder Nat) c p) _ = _
  rw [hu]
  rfl
theorem qbic : dtP (54, 1, fun x _ => .istore x) := fun c p hu => by
  unfold Decoder.instr
  show Except.bind ((Reader.u1 : Decoder Nat) c p) _ = _
  rw [hu]
  rfl
theorem qbjL : dtP (184, 2, fun x _ => .invokestatic x) := fun c p hu => by
  unfold Decoder.instr
  show Except.bind ((Reader.u1 : Decoder Nat) c p) _ = _
  rw [hu]
  rfl
theorem qbh1 : dtP (43, 0, fun _ _ => .aload_n 1) := fun c p hu => by
  unfold Decoder.instr
  show Except.bind ((Reader.u1 : Decoder Nat) c p) _ = _
  rw [hu]
  rfl
theorem qbkM : dtP (162, 4, fun _ y => .if_icmp .ge y) := fun c p hu => by
  unfold Decoder.instr
  show Except.bind ((Reader.u1 : Decoder Nat) c p) _ = _
  rw [hu]
  rfl
theorem qbjV : dtP (153, 4, fun _ y => .ifCond .eq y) := fun c p hu => by
  unfold Decoder.instr
  show Except.bind ((Reader.u1 : Decoder Nat) c p) _ = _
  rw [hu]
  rfl
theorem qbja : dtP (132, 5, fun x y => .iinc x y) := fun c p hu => by
  unfold Decoder.instr
  show Except.bind ((Reader.u1 : Decoder Nat) c p) _ = _
  rw [hu]
  rfl
theorem qbll : dtP (154, 4, fun _ y => .ifCond .ne y) := fun c p hu => by
  unfold Decoder.instr
  show Except.bind ((Reader.u1 : Decoder Nat) c p) _ = _
  rw [hu]
  rfl
theorem qbh7 : dtP (79, 0, fun _ _ => .iastore) := fun c p hu => by
  unfold Decoder.instr
  show Except.bind ((Reader.u1 : Decoder Nat) c p) _ = _
  rw [hu]
  rfl
theorem qbiT : dtP (160, 4, fun _ y => .if_icmp .ne y) := fun c p hu => by
  unfold Decoder.instr
  show Except.bind ((Reader.u1 : Decoder Nat) c p) _ = _
  rw [hu]
  rfl
theorem qbkq : dtP (177, 0, fun _ _ => .return_) := fun c p hu => by
  unfold Decoder.instr
  show Except.bind ((Reader.u1 : Decoder Nat) c p) _ = _
  rw [hu]
  rfl
theorem qbjj : dtP (5, 0, fun _ _ => .iconst 2) := fun c p hu => by
  unfold Decoder.instr
  show Except.bind ((Reader.u1 : Decoder Nat) c p) _ = _
  rw [hu]
  rfl
theorem qbj2 : dtP (62, 0, fun _ _ => .istore_n 3) := fun c p hu => by
  unfold Decoder.instr
  show Except.bind ((Reader.u1 : Decoder Nat) c p) _ = _
  rw [hu]
  rfl
theorem qbkC : dtP (100, 0, fun _ _ => .isub) := fun c p hu => by
  unfold Decoder.instr
  show Except.bind ((Reader.u1 : Decoder Nat) c p) _ = _
  rw [hu]
  rfl
theorem qbjr : dtP (2, 0, fun _ _ => .iconst (-1)) := fun c p hu => by
  unfold Decoder.instr
  show Except.bind ((Reader.u1 : Decoder Nat) c p) _ = _
  rw [hu]
  rfl
theorem qbjG : dtP (61, 0, fun _ _ => .istore_n 2) := fun c p hu => by
  unfold Decoder.instr
  show Except.bind ((Reader.u1 : Decoder Nat) c p) _ = _
  rw [hu]
  rfl
theorem qbj1 : dtP (89, 0, fun _ _ => .dup) := fun c p hu => by
  unfold Decoder.instr
  show Except.bind ((Reader.u1 : Decoder Nat) c p) _ = _
  rw [hu]
  rfl
theorem qbjw : dtP (44, 0, fun _ _ => .aload_n 2) := fun c p hu => by
  unfold Decoder.instr
  show Except.bind ((Reader.u1 : Decoder Nat) c p) _ = _
  rw [hu]
  rfl
theorem qbka : dtP (120, 0, fun _ _ => .ishl) := fun c p hu => by
  unfold Decoder.instr
  show Except.bind ((Reader.u1 : Decoder Nat) c p) _ = _
  rw [hu]
  rfl
theorem qbjW : dtP (17, 4, fun _ y => .sipush y) := fun c p hu => by
  unfold Decoder.instr
  show Except.bind ((Reader.u1 : Decoder Nat) c p) _ = _
  rw [hu]
  rfl
theorem qbh5 : dtP (104, 0, fun _ _ => .imul) := fun c p hu => by
  unfold Decoder.instr
  show Except.bind ((Reader.u1 : Decoder Nat) c p) _ = _
  rw [hu]
  rfl
theorem qbli : dtP (26, 0, fun _ _ => .iload_n 0) := fun c p hu => by
  unfold Decoder.instr
  show Except.bind ((Reader.u1 : Decoder Nat) c p) _ = _
  rw [hu]
  rfl
theorem qbid : dtP (6, 0, fun _ _ => .iconst 3) := fun c p hu => by
  unfold Decoder.instr
  show Except.bind ((Reader.u1 : Decoder Nat) c p) _ = _
  rw [hu]
  rfl
theorem qbkK : dtP (60, 0, fun _ _ => .istore_n 1) := fun c p hu => by
  unfold Decoder.instr
  show Except.bind ((Reader.u1 : Decoder Nat) c p) _ = _
  rw [hu]
  rfl
theorem qbjK : dtP (128, 0, fun _ _ => .ior) := fun c p hu => by
  unfold Decoder.instr
  show Except.bind ((Reader.u1 : Decoder Nat) c p) _ = _
  rw [hu]
  rfl
theorem qbjF : dtP (159, 4, fun _ y => .if_icmp .eq y) := fun c p hu => by
  unfold Decoder.instr
  show Except.bind ((Reader.u1 : Decoder Nat) c p) _ = _
  rw [hu]
  rfl
theorem qbkY : dtP (126, 0, fun _ _ => .iand) := fun c p hu => by
  unfold Decoder.instr
  show Except.bind ((Reader.u1 : Decoder Nat) c p) _ = _
  rw [hu]
  rfl
theorem qbiV : dtP (45, 0, fun _ _ => .aload_n 3) := fun c p hu => by
  unfold Decoder.instr
  show Except.bind ((Reader.u1 : Decoder Nat) c p) _ = _
  rw [hu]
  rfl
theorem qbjH : dtP (163, 4, fun _ y => .if_icmp .gt y) := fun c p hu => by
  unfold Decoder.instr
  show Except.bind ((Reader.u1 : Decoder Nat) c p) _ = _
  rw [hu]
  rfl
theorem qblo : dtP (7, 0, fun _ _ => .iconst 4) := fun c p hu => by
  unfold Decoder.instr
  show Except.bind ((Reader.u1 : Decoder Nat) c p) _ = _
  rw [hu]
  rfl
theorem qbi6 : dtP (183, 2, fun x _ => .invokespecial x) := fun c p hu => by
  unfold Decoder.instr
  show Except.bind ((Reader.u1 : Decoder Nat) c p) _ = _
  rw [hu]
  rfl
theorem qblx : dtP (18, 1, fun x _ => .ldc x) := fun c p hu => by
  unfold Decoder.instr
  show Except.bind ((Reader.u1 : Decoder Nat) c p) _ = _
  rw [hu]
  rfl
theorem qbkR : dtP (133, 0, fun _ _ => .i2l) := fun c p hu => by
  unfold Decoder.instr
  show Except.bind ((Reader.u1 : Decoder Nat) c p) _ = _
  rw [hu]
  rfl
theorem qbiy : dtP (80, 0, fun _ _ => .lastore) := fun c p hu => by
  unfold Decoder.instr
  show Except.bind ((Reader.u1 : Decoder Nat) c p) _ = _
  rw [hu]
  rfl
theorem qbi4 : dtP (161, 4, fun _ y => .if_icmp .lt y) := fun c p hu => by
  unfold Decoder.instr
  show Except.bind ((Reader.u1 : Decoder Nat) c p) _ = _
  rw [hu]
  rfl
theorem qbiF : dtP (8, 0, fun _ _ => .iconst 5) := fun c p hu => by
  unfold Decoder.instr
  show Except.bind ((Reader.u1 : Decoder Nat) c p) _ = _
  rw [hu]
  rfl
theorem qbkg : dtP (19, 2, fun x _ => .ldc_w x) := fun c p hu => by
  unfold Decoder.instr
  show Except.bind ((Reader.u1 : Decoder Nat) c p) _ = _
  rw [hu]
  rfl
theorem qbhQ : dtP (87, 0, fun _ _ => .pop) := fun c p hu => by
  unfold Decoder.instr
  show Except.bind ((Reader.u1 : Decoder Nat) c p) _ = _
  rw [hu]
  rfl
theorem qbil : dtP (187, 2, fun x _ => .new x) := fun c p hu => by
  unfold Decoder.instr
  show Except.bind ((Reader.u1 : Decoder Nat) c p) _ = _
  rw [hu]
  rfl
theorem qbjY : dtP (58, 1, fun x _ => .astore x) := fun c p hu => by
  unfold Decoder.instr
  show Except.bind ((Reader.u1 : Decoder Nat) c p) _ = _
  rw [hu]
  rfl
theorem qbld : dtP (122, 0, fun _ _ => .ishr) := fun c p hu => by
  unfold Decoder.instr
  show Except.bind ((Reader.u1 : Decoder Nat) c p) _ = _
  rw [hu]
  rfl
theorem qbji : dtP (92, 0, fun _ _ => .dup2) := fun c p hu => by
  unfold Decoder.instr
  show Except.bind ((Reader.u1 : Decoder Nat) c p) _ = _
  rw [hu]
  rfl
theorem qbhT : dtP (164, 4, fun _ y => .if_icmp .le y) := fun c p hu => by
  unfold Decoder.instr
  show Except.bind ((Reader.u1 : Decoder Nat) c p) _ = _
  rw [hu]
  rfl
theorem qbjl : dtP (155, 4, fun _ y => .ifCond .lt y) := fun c p hu => by
  unfold Decoder.instr
  show Except.bind ((Reader.u1 : Decoder Nat) c p) _ = _
  rw [hu]
  rfl
theorem qbjD : dtP (22, 1, fun x _ => .lload x) := fun c p hu => by
  unfold Decoder.instr
  show Except.bind ((Reader.u1 : Decoder Nat) c p) _ = _
  rw [hu]
  rfl
theorem qbjk : dtP (130, 0, fun _ _ => .ixor) := fun c p hu => by
  unfold Decoder.instr
  show Except.bind ((Reader.u1 : Decoder Nat) c p) _ = _
  rw [hu]
  rfl
theorem qbia : dtP (55, 1, fun x _ => .lstore x) := fun c p hu => by
  unfold Decoder.instr
  show Except.bind ((Reader.u1 : Decoder Nat) c p) _ = _
  rw [hu]
  rfl
theorem qbkF : dtP (78, 0, fun _ _ => .astore_n 3) := fun c p hu => by
  unfold Decoder.instr
  show Except.bind ((Reader.u1 : Decoder Nat) c p) _ = _
  rw [hu]
  rfl
theorem qbiB : dtP (158, 4, fun _ y => .ifCond .le y) := fun c p hu => by
  unfold Decoder.instr
  show Except.bind ((Reader.u1 : Decoder Nat) c p) _ = _
  rw [hu]
  rfl
theorem qbly : dtP (112, 0, fun _ _ => .irem) := fun c p hu => by
  unfold Decoder.instr
  show Except.bind ((Reader.u1 : Decoder Nat) c p) _ = _
  rw [hu]
  rfl
theorem qbix : dtP (51, 0, fun _ _ => .baload) := fun c p hu => by
  unfold Decoder.instr
  show Except.bind ((Reader.u1 : Decoder Nat) c p) _ = _
  rw [hu]
  rfl
theorem qbjt : dtP (9, 0, fun _ _ => .lconst 0) := fun c p hu => by
  unfold Decoder.instr
  show Except.bind ((Reader.u1 : Decoder Nat) c p) _ = _
  rw [hu]
  rfl
theorem qbjn : dtP (10, 0, fun _ _ => .lconst 1) := fun c p hu => by
  unfold Decoder.instr
  show Except.bind ((Reader.u1 : Decoder Nat) c p) _ = _
  rw [hu]
  rfl
theorem qbiD : dtP (105, 0, fun _ _ => .lmul) := fun c p hu => by
  unfold Decoder.instr
  show Except.bind ((Reader.u1 : Decoder Nat) c p) _ = _
  rw [hu]
  rfl
theorem qblc : dtP (124, 0, fun _ _ => .iushr) := fun c p hu => by
  unfold Decoder.instr
  show Except.bind ((Reader.u1 : Decoder Nat) c p) _ = _
  rw [hu]
  rfl
theorem qbkE : dtP (108, 0, fun _ _ => .idiv) := fun c p hu => by
  unfold Decoder.instr
  show Except.bind ((Reader.u1 : Decoder Nat) c p) _ = _
  rw [hu]
  rfl
theorem qbjO : dtP (191, 0, fun _ _ => .athrow) := fun c p hu => by
  unfold Decoder.instr
  show Except.bind ((Reader.u1 : Decoder Nat) c p) _ = _
  rw [hu]
  rfl
theorem qbiZ : dtP (173, 0, fun _ _ => .lreturn) := fun c p hu => by
  unfold Decoder.instr
  show Except.bind ((Reader.u1 : Decoder Nat) c p) _ = _
  rw [hu]
  rfl
theorem qbiv : dtP (32, 0, fun _ _ => .lload_n 2) := fun c p hu => by
  unfold Decoder.instr
  show Except.bind ((Reader.u1 : Decoder Nat) c p) _ = _
  rw [hu]
  rfl
theorem qbje : dtP (178, 2, fun x _ => .getstatic x) := fun c p hu => by
  unfold Decoder.instr
  show Except.bind ((Reader.u1 : Decoder Nat) c p) _ = _
  rw [hu]
  rfl
theorem qbkp : dtP (25, 1, fun x _ => .aload x) := fun c p hu => by
  unfold Decoder.instr
  show Except.bind ((Reader.u1 : Decoder Nat) c p) _ = _
  rw [hu]
  rfl
theorem qbkH : dtP (190, 0, fun _ _ => .arraylength) := fun c p hu => by
  unfold Decoder.instr
  show Except.bind ((Reader.u1 : Decoder Nat) c p) _ = _
  rw [hu]
  rfl
theorem qbjf : dtP (156, 4, fun _ y => .ifCond .ge y) := fun c p hu => by
  unfold Decoder.instr
  show Except.bind ((Reader.u1 : Decoder Nat) c p) _ = _
  rw [hu]
  rfl
theorem qbls : dtP (59, 0, fun _ _ => .istore_n 0) := fun c p hu => by
  unfold Decoder.instr
  show Except.bind ((Reader.u1 : Decoder Nat) c p) _ = _
  rw [hu]
  rfl
theorem qbj7 : dtP (77, 0, fun _ _ => .astore_n 2) := fun c p hu => by
  unfold Decoder.instr
  show Except.bind ((Reader.u1 : Decoder Nat) c p) _ = _
  rw [hu]
  rfl
theorem qblw : dtP (148, 0, fun _ _ => .lcmp) := fun c p hu => by
  unfold Decoder.instr
  show Except.bind ((Reader.u1 : Decoder Nat) c p) _ = _
  rw [hu]
  rfl
theorem qbkI : dtP (50, 0, fun _ _ => .aaload) := fun c p hu => by
  unfold Decoder.instr
  show Except.bind ((Reader.u1 : Decoder Nat) c p) _ = _
  rw [hu]
  rfl
theorem qbiX : dtP (116, 0, fun _ _ => .ineg) := fun c p hu => by
  unfold Decoder.instr
  show Except.bind ((Reader.u1 : Decoder Nat) c p) _ = _
  rw [hu]
  rfl
theorem qbjT : dtP (65, 0, fun _ _ => .lstore_n 2) := fun c p hu => by
  unfold Decoder.instr
  show Except.bind ((Reader.u1 : Decoder Nat) c p) _ = _
  rw [hu]
  rfl
theorem qbjz : dtP (47, 0, fun _ _ => .laload) := fun c p hu => by
  unfold Decoder.instr
  show Except.bind ((Reader.u1 : Decoder Nat) c p) _ = _
  rw [hu]
  rfl
theorem qbkT : dtP (97, 0, fun _ _ => .ladd) := fun c p hu => by
  unfold Decoder.instr
  show Except.bind ((Reader.u1 : Decoder Nat) c p) _ = _
  rw [hu]
  rfl
theorem qbkn : dtP (198, 4, fun _ y => .ifnull y) := fun c p hu => by
  unfold Decoder.instr
  show Except.bind ((Reader.u1 : Decoder Nat) c p) _ = _
  rw [hu]
  rfl
theorem qbjc : dtP (127, 0, fun _ _ => .land) := fun c p hu => by
  unfold Decoder.instr
  show Except.bind ((Reader.u1 : Decoder Nat) c p) _ = _
  rw [hu]
  rfl
theorem qbku : dtP (123, 0, fun _ _ => .lshr) := fun c p hu => by
  unfold Decoder.instr
  show Except.bind ((Reader.u1 : Decoder Nat) c p) _ = _
  rw [hu]
  rfl
theorem qbiR : dtP (109, 0, fun _ _ => .ldiv) := fun c p hu => by
  unfold Decoder.instr
  show Except.bind ((Reader.u1 : Decoder Nat) c p) _ = _
  rw [hu]
  rfl
theorem qbiU : dtP (30, 0, fun _ _ => .lload_n 0) := fun c p hu => by
  unfold Decoder.instr
  show Except.bind ((Reader.u1 : Decoder Nat) c p) _ = _
  rw [hu]
  rfl
theorem qbiQ : dtP (146, 0, fun _ _ => .i2c) := fun c p hu => by
  unfold Decoder.instr
  show Except.bind ((Reader.u1 : Decoder Nat) c p) _ = _
  rw [hu]
  rfl
theorem qblf : dtP (145, 0, fun _ _ => .i2b) := fun c p hu => by
  unfold Decoder.instr
  show Except.bind ((Reader.u1 : Decoder Nat) c p) _ = _
  rw [hu]
  rfl
theorem qbiq : dtP (84, 0, fun _ _ => .bastore) := fun c p hu => by
  unfold Decoder.instr
  show Except.bind ((Reader.u1 : Decoder Nat) c p) _ = _
  rw [hu]
  rfl
theorem qbkO : dtP (189, 2, fun x _ => .anewarray x) := fun c p hu => by
  unfold Decoder.instr
  show Except.bind ((Reader.u1 : Decoder Nat) c p) _ = _
  rw [hu]
  rfl
theorem qbiE : dtP (83, 0, fun _ _ => .aastore) := fun c p hu => by
  unfold Decoder.instr
  show Except.bind ((Reader.u1 : Decoder Nat) c p) _ = _
  rw [hu]
  rfl
theorem qbig : dtP (121, 0, fun _ _ => .lshl) := fun c p hu => by
  unfold Decoder.instr
  show Except.bind ((Reader.u1 : Decoder Nat) c p) _ = _
  rw [hu]
  rfl
theorem qbiH : dtP (113, 0, fun _ _ => .lrem) := fun c p hu => by
  unfold Decoder.instr
  show Except.bind ((Reader.u1 : Decoder Nat) c p) _ = _
  rw [hu]
  rfl
theorem qbkV : dtP (20, 2, fun x _ => .ldc2_w x) := fun c p hu => by
  unfold Decoder.instr
  show Except.bind ((Reader.u1 : Decoder Nat) c p) _ = _
  rw [hu]
  rfl
theorem qblv : dtP (76, 0, fun _ _ => .astore_n 1) := fun c p hu => by
  unfold Decoder.instr
  show Except.bind ((Reader.u1 : Decoder Nat) c p) _ = _
  rw [hu]
  rfl
def dtT : List dtE := [(42, 0, fun _ _ => .aload_n 0), (180, 2, fun x _ => .getfield x), (182, 2, fun x _ => .invokevirtual x), (3, 0, fun _ _ => .iconst 0), (27, 0, fun _ _ => .iload_n 1), (4, 0, fun _ _ => .iconst 1), (21, 1, fun x _ => .iload x), (167, 4, fun _ y => .goto y), (28, 0, fun _ _ => .iload_n 2), (172, 0, fun _ _ => .ireturn), (96, 0, fun _ _ => .iadd), (16, 3, fun _ y => .bipush y), (46, 0, fun _ _ => .iaload), (29, 0, fun _ _ => .iload_n 3), (181, 2, fun x _ => .putfield x), (54, 1, fun x _ => .istore x), (184, 2, fun x _ => .invokestatic x), (43, 0, fun _ _ => .aload_n 1), (162, 4, fun _ y => .if_icmp .ge y), (153, 4, fun _ y => .ifCond .eq y), (132, 5, fun x y => .iinc x y), (154, 4, fun _ y => .ifCond .ne y), (79, 0, fun _ _ => .iastore), (160, 4, fun _ y => .if_icmp .ne y), (177, 0, fun _ _ => .return_), (5, 0, fun _ _ => .iconst 2), (62, 0, fun _ _ => .istore_n 3), (100, 0, fun _ _ => .isub), (2, 0, fun _ _ => .iconst (-1)), (61, 0, fun _ _ => .istore_n 2), (89, 0, fun _ _ => .dup), (44, 0, fun _ _ => .aload_n 2), (120, 0, fun _ _ => .ishl), (17, 4, fun _ y => .sipush y), (104, 0, fun _ _ => .imul), (26, 0, fun _ _ => .iload_n 0), (6, 0, fun _ _ => .iconst 3), (60, 0, fun _ _ => .istore_n 1), (128, 0, fun _ _ => .ior), (159, 4, fun _ y => .if_icmp .eq y), (126, 0, fun _ _ => .iand), (45, 0, fun _ _ => .aload_n 3), (163, 4, fun _ y => .if_icmp .gt y), (7, 0, fun _ _ => .iconst 4), (183, 2, fun x _ => .invokespecial x), (18, 1, fun x _ => .ldc x), (133, 0, fun _ _ => .i2l), (80, 0, fun _ _ => .lastore), (161, 4, fun _ y => .if_icmp .lt y), (8, 0, fun _ _ => .iconst 5), (19, 2, fun x _ => .ldc_w x), (87, 0, fun _ _ => .pop), (187, 2, fun x _ => .new x), (58, 1, fun x _ => .astore x), (122, 0, fun _ _ => .ishr), (92, 0, fun _ _ => .dup2), (164, 4, fun _ y => .if_icmp .le y), (155, 4, fun _ y => .ifCond .lt y), (22, 1, fun x _ => .lload x), (130, 0, fun _ _ => .ixor), (55, 1, fun x _ => .lstore x), (78, 0, fun _ _ => .astore_n 3), (158, 4, fun _ y => .ifCond .le y), (112, 0, fun _ _ => .irem), (51, 0, fun _ _ => .baload), (9, 0, fun _ _ => .lconst 0), (10, 0, fun _ _ => .lconst 1), (105, 0, fun _ _ => .lmul), (124, 0, fun _ _ => .iushr), (108, 0, fun _ _ => .idiv), (191, 0, fun _ _ => .athrow), (173, 0, fun _ _ => .lreturn), (32, 0, fun _ _ => .lload_n 2), (178, 2, fun x _ => .getstatic x), (25, 1, fun x _ => .aload x), (190, 0, fun _ _ => .arraylength), (156, 4, fun _ y => .ifCond .ge y), (59, 0, fun _ _ => .istore_n 0), (77, 0, fun _ _ => .astore_n 2), (148, 0, fun _ _ => .lcmp), (50, 0, fun _ _ => .aaload), (116, 0, fun _ _ => .ineg), (65, 0, fun _ _ => .lstore_n 2), (47, 0, fun _ _ => .laload), (97, 0, fun _ _ => .ladd), (198, 4, fun _ y => .ifnull y), (127, 0, fun _ _ => .land), (123, 0, fun _ _ => .lshr), (109, 0, fun _ _ => .ldiv), (30, 0, fun _ _ => .lload_n 0), (146, 0, fun _ _ => .i2c), (145, 0, fun _ _ => .i2b), (84, 0, fun _ _ => .bastore), (189, 2, fun x _ => .anewarray x), (83, 0, fun _ _ => .aastore), (121, 0, fun _ _ => .lshl), (113, 0, fun _ _ => .lrem), (20, 2, fun x _ => .ldc2_w x), (76, 0, fun _ _ => .astore_n 1)]
theorem qbi9 : ∀ e ∈ dtT, dtP e :=
  List.forall_mem_cons.mpr ⟨qbm3, List.forall_mem_cons.mpr ⟨qbms, List.forall_mem_cons.mpr ⟨qbmH, List.forall_mem_cons.mpr ⟨qbml, List.forall_mem_cons.mpr ⟨qbmc, List.forall_mem_cons.mpr ⟨qbmr, List.forall_mem_cons.mpr ⟨qbmU, List.forall_mem_cons.mpr ⟨qbmX, List.forall_mem_cons.mpr ⟨qbm9, List.forall_mem_cons.mpr ⟨qbmW, List.forall_mem_cons.mpr ⟨qbke, List.forall_mem_cons.mpr ⟨qbj9, List.forall_mem_cons.mpr ⟨qbhV, List.forall_mem_cons.mpr ⟨qbi3, List.forall_mem_cons.mpr ⟨qbjR, List.forall_mem_cons.mpr ⟨qbic, List.forall_mem_cons.mpr ⟨qbjL, List.forall_mem_cons.mpr ⟨qbh1, List.forall_mem_cons.mpr ⟨qbkM, List.forall_mem_cons.mpr ⟨qbjV, List.forall_mem_cons.mpr ⟨qbja, List.forall_mem_cons.mpr ⟨qbll, List.forall_mem_cons.mpr ⟨qbh7, List.forall_mem_cons.mpr ⟨qbiT, List.forall_mem_cons.mpr ⟨qbkq, List.forall_mem_cons.mpr ⟨qbjj, List.forall_mem_cons.mpr ⟨qbj2, List.forall_mem_cons.mpr ⟨qbkC, List.forall_mem_cons.mpr ⟨qbjr, List.forall_mem_cons.mpr ⟨qbjG, List.forall_mem_cons.mpr ⟨qbj1, List.forall_mem_cons.mpr ⟨qbjw, List.forall_mem_cons.mpr ⟨qbka, List.forall_mem_cons.mpr ⟨qbjW, List.forall_mem_cons.mpr ⟨qbh5, List.forall_mem_cons.mpr ⟨qbli, List.forall_mem_cons.mpr ⟨qbid, List.forall_mem_cons.mpr ⟨qbkK, List.forall_mem_cons.mpr ⟨qbjK, List.forall_mem_cons.mpr ⟨qbjF, List.forall_mem_cons.mpr ⟨qbkY, List.forall_mem_cons.mpr ⟨qbiV, List.forall_mem_cons.mpr ⟨qbjH, List.forall_mem_cons.mpr ⟨qblo, List.forall_mem_cons.mpr ⟨qbi6, List.forall_mem_cons.mpr ⟨qblx, List.forall_mem_cons.mpr ⟨qbkR, List.forall_mem_cons.mpr ⟨qbiy, List.forall_mem_cons.mpr ⟨qbi4, List.forall_mem_cons.mpr ⟨qbiF, List.forall_mem_cons.mpr ⟨qbkg, List.forall_mem_cons.mpr ⟨qbhQ, List.forall_mem_cons.mpr ⟨qbil, List.forall_mem_cons.mpr ⟨qbjY, List.forall_mem_cons.mpr ⟨qbld, List.forall_mem_cons.mpr ⟨qbji, List.forall_mem_cons.mpr ⟨qbhT, List.forall_mem_cons.mpr ⟨qbjl, List.forall_mem_cons.mpr ⟨qbjD, List.forall_mem_cons.mpr ⟨qbjk, List.forall_mem_cons.mpr ⟨qbia, List.forall_mem_cons.mpr ⟨qbkF, List.forall_mem_cons.mpr ⟨qbiB, List.forall_mem_cons.mpr ⟨qbly, List.forall_mem_cons.mpr ⟨qbix, List.forall_mem_cons.mpr ⟨qbjt, List.forall_mem_cons.mpr ⟨qbjn, List.forall_mem_cons.mpr ⟨qbiD, List.forall_mem_cons.mpr ⟨qblc, List.forall_mem_cons.mpr ⟨qbkE, List.forall_mem_cons.mpr ⟨qbjO, List.forall_mem_cons.mpr ⟨qbiZ, List.forall_mem_cons.mpr ⟨qbiv, List.forall_mem_cons.mpr ⟨qbje, List.forall_mem_cons.mpr ⟨qbkp, List.forall_mem_cons.mpr ⟨qbkH, List.forall_mem_cons.mpr ⟨qbjf, List.forall_mem_cons.mpr ⟨qbls, List.forall_mem_cons.mpr ⟨qbj7, List.forall_mem_cons.mpr ⟨qblw, List.forall_mem_cons.mpr ⟨qbkI, List.forall_mem_cons.mpr ⟨qbiX, List.forall_mem_cons.mpr ⟨qbjT, List.forall_mem_cons.mpr ⟨qbjz, List.forall_mem_cons.mpr ⟨qbkT, List.forall_mem_cons.mpr ⟨qbkn, List.forall_mem_cons.mpr ⟨qbjc, List.forall_mem_cons.mpr ⟨qbku, List.forall_mem_cons.mpr ⟨qbiR, List.forall_mem_cons.mpr ⟨qbiU, List.forall_mem_cons.mpr ⟨qbiQ, List.forall_mem_cons.mpr ⟨qblf, List.forall_mem_cons.mpr ⟨qbiq, List.forall_mem_cons.mpr ⟨qbkO, List.forall_mem_cons.mpr ⟨qbiE, List.forall_mem_cons.mpr ⟨qbig, List.forall_mem_cons.mpr ⟨qbiH, List.forall_mem_cons.mpr ⟨qbkV, List.forall_mem_cons.mpr ⟨qblv, fun _ h => nomatch h⟩⟩⟩⟩⟩⟩⟩⟩⟩⟩⟩⟩⟩⟩⟩⟩⟩⟩⟩⟩⟩⟩⟩⟩⟩⟩⟩⟩⟩⟩⟩⟩⟩⟩⟩⟩⟩⟩⟩⟩⟩⟩⟩⟩⟩⟩⟩⟩⟩⟩⟩⟩⟩⟩⟩⟩⟩⟩⟩⟩⟩⟩⟩⟩⟩⟩⟩⟩⟩⟩⟩⟩⟩⟩⟩⟩⟩⟩⟩⟩⟩⟩⟩⟩⟩⟩⟩⟩⟩⟩⟩⟩⟩⟩⟩⟩⟩⟩⟩
def dtS (j : Nat) (L : List UInt8) : Option (Instr × Nat × List UInt8) :=
  match dtT[j]? with
  | none => none
  | some e => match L with
    | [] => none
    | b0 :: r0 => cond (Nat.beq b0.toNat e.1) (dtK e.2.1 e.2.2 r0) none
theorem qbh2 {c : ByteArray} {p j n : Nat} {i : Instr} {L r : List UInt8} (h : dtS j L = some (i, n, r)) (hL : c.data.toList.drop p = L) : decode c p = Except.ok (i, n) ∧ c.data.toList.drop (p + n) = r := by
  unfold dtS at h
  cases hj : dtT[j]? with
  | none =>
    rw [hj] at h
    exact absurd (show none = some (i, n, r) from h) (by simp)
  | some e =>
    rw [hj] at h
    match L, h, hL with
    | [], h, _ => exact absurd (show none = some (i, n, r) from h) (by simp)
    | b0 :: r0, h, hL =>
      have h : cond (Nat.beq b0.toNat e.1) (dtK e.2.1 e.2.2 r0) none = some (i, n, r) := h
      cases hb : Nat.beq b0.toNat e.1 with
      | false =>
        rw [hb] at h
        exact absurd (show none = some (i, n, r) from h) (by simp)
      | true =>
        rw [hb] at h
        have h : dtK e.2.1 e.2.2 r0 = some (i, n, r) := h
        have hu := qa1E hL
        rw [Nat.eq_of_beq_eq_true hb] at hu
        obtain ⟨g1, g2⟩ := qbln h (qazh hL)
        have g3 := qbi9 e (List.mem_of_getElem? hj) c p hu
        refine ⟨?_, g2⟩
        show Except.bind (Decoder.instr p c p) _ = _
        rw [g3, g1]
        show Except.ok (i, p + n - p) = _
        rw [Nat.add_sub_cancel_left]
abbrev dtR : Type := Nat × Instr × Nat × Nat
def dtC : List UInt8 → Nat → List dtR → Bool
  | _, _, [] => true
  | L, p, q :: rs => match dtS q.2.2.2 L with
    | none => false
    | some z => Nat.beq p q.1 && (decide (z.1 = q.2.1) && (Nat.beq z.2.1 q.2.2.1 && dtC z.2.2 (p + z.2.1) rs))
theorem qbjM {c : ByteArray} : ∀ (rs : List dtR) (L : List UInt8) (p : Nat), dtC L p rs = true → c.data.toList.drop p = L → ∀ q ∈ rs, decode c q.1 = Except.ok (q.2.1, q.2.2.1) := by
  intro rs
  induction rs with
  | nil => intro L p _ _ q hq; cases hq
  | cons a rs ih =>
    intro L p h hL q hq
    unfold dtC at h
    cases hs : dtS a.2.2.2 L with
    | none =>
      rw [hs] at h
      exact absurd (show false = true from h) (by decide)
    | some z =>
      rw [hs] at h
      have h : (Nat.beq p a.1 && (decide (z.1 = a.2.1) && (Nat.beq z.2.1 a.2.2.1 && dtC z.2.2 (p + z.2.1) rs))) = true := h
      obtain ⟨h1, h2⟩ := Bool.and_eq_true_iff.mp h
      obtain ⟨h3, h4⟩ := Bool.and_eq_true_iff.mp h2
      obtain ⟨h5, h6⟩ := Bool.and_eq_true_iff.mp h4
      obtain ⟨g1, g2⟩ := qbh2 (i := z.1) (n := z.2.1) (r := z.2.2) hs hL
      rcases List.mem_cons.mp hq with e | e
      · rw [e, ← Nat.eq_of_beq_eq_true h1, ← of_decide_eq_true h3, ← Nat.eq_of_beq_eq_true h5]
        exact g1
      · exact ih z.2.2 (p + z.2.1) h6 g2 q e
theorem qaa {c : ByteArray} {rs : List dtR} {p0 : Nat} (h : dtC (c.data.toList.drop p0) p0 rs = true) (k : Nat) {pc n j : Nat} {i : Instr} (hk : rs[k]? = some (pc, i, n, j)) : decode c pc = .ok (i, n) :=
  qbjM rs _ p0 h rfl (pc, i, n, j) (List.mem_of_getElem? hk)
theorem nw_0 {U : State} (h : qJa U) : va_Nw (.methodLinkNest RX10 9 yX8_init "MarchHares") U := h.1 (RX10, 9, yX8_init) (List.mem_of_getElem? (l := nwL) (i := 0) (a := (RX10, 9, yX8_init)) rfl)
theorem nw_1 {U : State} (h : qJa U) : va_Nw (.methodLinkNest RX10 18 yX2_init "MarchHares") U := h.1 (RX10, 18, yX2_init) (List.mem_of_getElem? (l := nwL) (i := 1) (a := (RX10, 18, yX2_init)) rfl)
theorem nw_2 {U : State} (h : qJa U) : va_Nw (.methodLinkNest RX10 48 yX9_init "MarchHares") U := h.1 (RX10, 48, yX9_init) (List.mem_of_getElem? (l := nwL) (i := 2) (a := (RX10, 48, yX9_init)) rfl)
theorem nw_3 {U : State} (h : qJa U) : va_Nw (.methodLinkNest RX10 67 yX5_init "MarchHares") U := h.1 (RX10, 67, yX5_init) (List.mem_of_getElem? (l := nwL) (i := 3) (a := (RX10, 67, yX5_init)) rfl)
theorem nw_4 {U : State} (h : qJa U) : va_Nw (.methodLinkNest RX10 78 yX6_init "MarchHares") U := h.1 (RX10, 78, yX6_init) (List.mem_of_getElem? (l := nwL) (i := 4) (a := (RX10, 78, yX6_init)) rfl)
theorem nw_5 {U : State} (h : qJa U) : va_Nw (.methodLinkNest RX10 85 yX7_init "MarchHares") U := h.1 (RX10, 85, yX7_init) (List.mem_of_getElem? (l := nwL) (i := 5) (a := (RX10, 85, yX7_init)) rfl)
theorem nw_6 {U : State} (h : qJa U) : va_Nw (.methodLinkNest RX10 92 yX3_init "MarchHares") U := h.1 (RX10, 92, yX3_init) (List.mem_of_getElem? (l := nwL) (i := 6) (a := (RX10, 92, yX3_init)) rfl)
theorem nw_7 {U : State} (h : qJa U) : va_Nw (.methodLinkNest RX0 39 yX10_within "MarchHares") U := h.1 (RX0, 39, yX10_within) (List.mem_of_getElem? (l := nwL) (i := 7) (a := (RX0, 39, yX10_within)) rfl)
theorem nw_8 {U : State} (h : qJa U) : va_Nw (.methodLinkNest RX1 108 yX2_formsWithin "MarchHares") U := h.1 (RX1, 108, yX2_formsWithin) (List.mem_of_getElem? (l := nwL) (i := 8) (a := (RX1, 108, yX2_formsWithin)) rfl)
theorem nw_9 {U : State} (h : qJa U) : va_Nw (.methodLinkNest RX1 120 yX10_holds "MarchHares") U := h.1 (RX1, 120, yX10_holds) (List.mem_of_getElem? (l := nwL) (i := 9) (a := (RX1, 120, yX10_holds)) rfl)
theorem qbbT {U : State} (h : qJa U) : va_Nw (.methodLinkNest RX2 114 yX10_holds "MarchHares") U := h.1 (RX2, 114, yX10_holds) (List.mem_of_getElem? (l := nwL) (i := 10) (a := (RX2, 114, yX10_holds)) rfl)
theorem qbmp {U : State} (h : qJa U) : va_Nw (.methodLinkNest RX3 106 yX10_within "MarchHares") U := h.1 (RX3, 106, yX10_within) (List.mem_of_getElem? (l := nwL) (i := 11) (a := (RX3, 106, yX10_within)) rfl)
theorem qbm4 {U : State} (h : qJa U) : va_Nw (.methodLinkNest RX3 94 yX10_holds "MarchHares") U := h.1 (RX3, 94, yX10_holds) (List.mem_of_getElem? (l := nwL) (i := 12) (a := (RX3, 94, yX10_holds)) rfl)
theorem qbeG {U : State} (h : qJa U) : va_Nw (.methodLinkNest RX6 38 yX10_holds "MarchHares") U := h.1 (RX6, 38, yX10_holds) (List.mem_of_getElem? (l := nwL) (i := 13) (a := (RX6, 38, yX10_holds)) rfl)
theorem qbju {U : State} (h : qJa U) : va_Nw (.methodLinkNest RX7 68 yX10_holds "MarchHares") U := h.1 (RX7, 68, yX10_holds) (List.mem_of_getElem? (l := nwL) (i := 14) (a := (RX7, 68, yX10_holds)) rfl)
theorem qbmY {U : State} (h : qJa U) : va_Nw (.methodLinkNest RX8 79 yX10_within "MarchHares") U := h.1 (RX8, 79, yX10_within) (List.mem_of_getElem? (l := nwL) (i := 15) (a := (RX8, 79, yX10_within)) rfl)
