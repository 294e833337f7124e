/-! decode rows by tables -/
abbrev dkR : Type := Nat × Instr × Nat
def dkC (c : ByteArray) (L : List dkR) : Bool := L.all (fun q => decide (decode c q.1 = .ok (q.2.1, q.2.2)))
theorem dk_of {c : ByteArray} {L : List dkR} (h : dkC c L = true) (k : Nat) {pc n : Nat} {i : Instr} (hk : L[k]? = some (pc, i, n)) : decode c pc = .ok (i, n) :=
  of_decide_eq_true (p := decode c pc = .ok (i, n)) (List.all_eq_true.mp h (pc, i, n) (List.mem_of_getElem? hk))
/-! calls: the callee's world out of the caller's, and back -/
theorem va_fm {α β : Type} {f : α → Option β} {l : List α} {w : List β} (h : l.map f = w.map some) : l.filterMap f = w := by
  induction l generalizing w with
  | nil =>
    cases w with
    | nil => rfl
    | cons b w => exact absurd h (by simp)
  | cons a l ih =>
    cases w with
    | nil => exact absurd h (by simp)
    | cons b w =>
      have h1 : f a = some b := (List.cons.inj h).1
      have h2 : l.map f = w.map some := (List.cons.inj h).2
      rw [List.filterMap_cons_some h1, ih h2]
theorem va_pick {D : va_G} {cl : List vw_C} {A0 : Nat → Prop} {ws ws' : va_W} {H0 H : Heap} {locs : List Loc} (hP : va_P D cl ws H) (hD : va_D A0 ws) (hS : va_S A0 H0 H locs) (hA : ∀ q, H0.size ≤ q → A0 q) (is : List Nat) (hn : va_nd is = true) (hC : is.map (fun i => ws[i]?) = ws'.map some) : (is.map (fun i => ws[i]?) = ws'.map some) ∧ va_P D cl ws' H ∧ va_D A0 ws' ∧ (∀ q, va_A ws' H.size q → A0 q) :=
  ⟨hC, hP.sub is (va_fm hC), hD.sub is hn hC, va_free hD hS hA is hC⟩
theorem va_joinN {A0 : Nat → Prop} {D : va_G} {cl : List vw_C} {ws wc wr w1 wn : va_W} {H H1 : Heap} (hP : va_P D cl ws H) (hD : va_D A0 ws) (isC isR isN : List Nat) (hC : isC.map (fun i => ws[i]?) = wc.map some) (hR : isR.map (fun i => ws[i]?) = wr.map some) (hn : va_nd isR = true) (hdis : ∀ i ∈ isR, i ∉ isC) (hn2 : va_nd isN = true) (hN : isN.map (fun i => (wr ++ w1)[i]?) = wn.map some)
    (hk : ∀ q : Nat, q < H.size → ¬ va_A wc H.size q → H1[q]? = H[q]?) (hF : ∀ q, va_A wc H.size q → A0 q) (hP1 : va_P D cl w1 H1) (hD1 : va_D (va_A wc H.size) w1) : va_P D cl wn H1 ∧ va_D A0 wn := by
  obtain ⟨h1, h2⟩ := va_join hP hD isC isR hC hR hn hdis hk hF hP1 hD1
  exact ⟨h1.sub isN (va_fm hN), h2.sub isN hn2 hN⟩
theorem va_joinI {A0 : Nat → Prop} {D : va_G} {cl : List vw_C} {ws wc wr w1 wn : va_W} {H H1 : Heap} (hP : va_P D cl ws H) (hD : va_D A0 ws) (isC isR : List Nat) (hC : isC.map (fun i => ws[i]?) = wc.map some) (hR : isR.map (fun i => ws[i]?) = wr.map some) (hn : va_nd isR = true) (hdis : ∀ i ∈ isR, i ∉ isC) (hN : wr ++ w1 = wn)
    (hk : ∀ q : Nat, q < H.size → ¬ va_A wc H.size q → H1[q]? = H[q]?) (hF : ∀ q, va_A wc H.size q → A0 q) (hP1 : va_P D cl w1 H1) (hD1 : va_D (va_A wc H.size) w1) : va_P D cl wn H1 ∧ va_D A0 wn := by
  subst hN
  exact va_join hP hD isC isR hC hR hn hdis hk hF hP1 hD1
theorem va_PDsub {D : va_G} {cl : List vw_C} {A : Nat → Prop} {ws ws' : va_W} {H : Heap} (hP : va_P D cl ws H) (hD : va_D A ws) (is : List Nat) (n : Nat) (hn : va_nd is = true) (hb : is.all (fun i => Nat.blt i n) = true) (hl : ws.length = n) (hs : is.filterMap (fun i => ws[i]?) = ws') : va_P D cl ws' H ∧ va_D A ws' := by
  refine ⟨hP.sub is hs, hD.sub is hn ?_⟩
  rw [← hs]
  clear hs hn
  induction is with
  | nil => rfl
  | cons a l ih =>
    rw [List.all_cons, Bool.and_eq_true] at hb
    have ha : a < ws.length := by rw [hl]; exact Nat.le_of_ble_eq_true hb.1
    have e : ws[a]? = some ws[a] := List.getElem?_eq_getElem ha
    rw [List.map_cons, List.filterMap_cons, e]
    show some ws[a] :: _ = some ws[a] :: _
    rw [ih hb.2]
