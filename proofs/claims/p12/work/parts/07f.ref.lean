/-- a step laid down -/
def tS (b : Int32) (old new : Nat → Int32) (i p1 p2 p3 p4 : Int32) : Prop := b.toInt = -1 → (new i.toNatClampNeg = p1 ∧ new (i.toNatClampNeg + 1) = p2 ∧ new (i.toNatClampNeg + 2) = p3 ∧ new (i.toNatClampNeg + 3) = p4) ∧ ∀ j : Nat, (j : Int) < i.toInt → new j = old j
/-- steps read from a place on -/
def stG (b : Int32) (old new : Nat → Int32) (h n : Int32) (L : Nat) (i k : Int32) : Prop := b.toInt = -1 → WS new h n L i.toNatClampNeg k.toNatClampNeg ∧ ∀ j : Nat, (j : Int) < i.toInt → new j = old j
theorem stG_bad {b i k h n : Int32} {old new : Nat → Int32} {L : Nat} (e : b.toInt ≠ -1) : stG b old new h n L i k := fun z => absurd z e
theorem stG_one {b c i k h n p1 p2 p3 p4 : Int32} {old new : Nat → Int32} {L : Nat} (t : tS b old new i p1 p2 p3 p4) (q : (c.toInt ≠ -1 ∨ b.toInt = -1) ∧ (c.toInt ≠ -1 ∨ (k.toInt = i.toInt + 4 ∧ 0 ≤ i.toInt ∧ p1.toInt ≠ 4 ∧ (p1.toInt ≠ 0 ∨ (0 ≤ p2.toInt ∧ p2.toInt < h.toInt ∧ 0 ≤ p3.toInt ∧ p3.toInt < n.toInt)) ∧ ((p1.toInt ≠ 1 ∧ p1.toInt ≠ 2) ∨ (0 ≤ p2.toInt ∧ p2.toInt < h.toInt ∧ 0 ≤ p3.toInt ∧ p3.toInt < h.toInt ∧ 0 ≤ p4.toInt))))) : stG c old new h n L i k := fun z => by
  obtain ⟨⟨t1, t2, t3, t4⟩, t5⟩ := t (by omega)
  obtain ⟨q1, q2, q3, q4, q5⟩ := q.2.resolve_left (by omega)
  have n0 := t_nat q2
  have nk := t_nat (x := k) (by omega)
  refine ⟨?_, t5⟩
  rw [show k.toNatClampNeg = i.toNatClampNeg + 4 by omega]
  refine WS_one ?_ ?_
  · rw [t1]; exact q3
  · unfold sOk
    rw [t1, t2, t3, t4]; exact ⟨q4, q5⟩
/-- the inside of a loop told so far -/
def agG (b : Int32) (old new : Nat → Int32) (h n : Int32) (L : Nat) (i k : Int32) : Prop := b.toInt = -1 → (((new i.toNatClampNeg).toInt = 4 ∧ (new (i.toNatClampNeg + 1)).toInt ≤ 40) ∧ (0 ≤ i.toInt ∧ 0 ≤ k.toInt)) ∧ WS new h n L (i.toNatClampNeg + 4) k.toNatClampNeg ∧ ∀ j : Nat, (j : Int) < i.toInt → new j = old j
theorem agG_bad {b i k h n : Int32} {old new : Nat → Int32} {L : Nat} (e : b.toInt ≠ -1) : agG b old new h n L i k := fun z => absurd z e
theorem agG_weak {b c i k h n : Int32} {old new : Nat → Int32} {L : Nat} (a : agG b old new h n L i k) (e : c.toInt ≠ -1 ∨ b.toInt = -1) : agG c old new h n L i k := fun z => a (by omega)
theorem agG_begin {b c i k h n p1 p2 p3 p4 : Int32} {old new : Nat → Int32} {L : Nat} (t : tS b old new i p1 p2 p3 p4) (q : (c.toInt ≠ -1 ∨ b.toInt = -1) ∧ (c.toInt ≠ -1 ∨ (k.toInt = i.toInt + 4 ∧ 0 ≤ i.toInt ∧ p1.toInt = 4 ∧ p2.toInt ≤ 40))) : agG c old new h n L i k := fun z => by
  obtain ⟨⟨t1, t2, _, _⟩, t5⟩ := t (by omega)
  obtain ⟨q1, q2, q3, q4⟩ := q.2.resolve_left (by omega)
  have n0 := t_nat q2
  have nk := t_nat (x := k) (by omega)
  refine ⟨⟨by rw [t1, t2]; exact ⟨q3, q4⟩, by omega⟩, ?_, t5⟩
  rw [show k.toNatClampNeg = i.toNatClampNeg + 4 by omega]; exact WS_nil
theorem agG_step {b c i k m h n : Int32} {old new nu : Nat → Int32} {L : Nat} (a : agG b old new h n L i k) (s : stG c new nu h n L k m) (q : (c.toInt ≠ -1 ∨ b.toInt = -1) ∧ (c.toInt ≠ -1 ∨ 0 ≤ m.toInt)) : agG c old nu h n L i m := fun z => by
  obtain ⟨⟨⟨a1, a2⟩, a3, a4⟩, a5, a6⟩ := a (by omega)
  obtain ⟨s1, s2⟩ := s z
  have hl := WS_le a5
  have ni := t_nat a3
  have nk := t_nat a4
  refine ⟨⟨?_, by omega⟩, WS_app (WS_congr a5 (fun j _ j1 => s2 j (by omega))) s1, fun j hj => ?_⟩
  · rw [s2 _ (by omega), s2 _ (by omega)]; exact ⟨a1, a2⟩
  · rw [s2 j (by omega)]; exact a6 j hj
theorem agG_end {b c i k x h n : Int32} {old new nu : Nat → Int32} {L : Nat} (a : agG b old new h n L i k) (e : nu = upd new x.toNatClampNeg k) (q : (c.toInt ≠ -1 ∨ b.toInt = -1) ∧ (c.toInt ≠ -1 ∨ x.toInt = i.toInt + 2)) : stG c old nu h n (L + 1) i k := fun z => by
  obtain ⟨⟨⟨a1, a2⟩, a3, a4⟩, a5, a6⟩ := a (by omega)
  have hl := WS_le a5
  have ni := t_nat a3
  have nk := t_nat a4
  have hx := q.2.resolve_left (by omega)
  have nx := t_nat (x := x) (by omega)
  refine ⟨WS_again ?_ ?_ ?_ (WS_congr a5 (fun j j0 _ => by rw [e, pk_un (by omega)])), fun j hj => by rw [e, pk_un (by omega)]; exact a6 j hj⟩
  · rw [e, pk_un (by omega)]; exact a1
  · rw [e, pk_un (by omega)]; exact a2
  · rw [e, show i.toNatClampNeg + 2 = x.toNatClampNeg by omega, pk_us]; omega
/-- the work read so far -/
def wkG (b : Int32) (st : Nat → Int32) (h n k : Int32) : Prop := b.toInt = -1 → WS st h n 6 0 k.toNatClampNeg
theorem wkG_zero {b k h n : Int32} {st : Nat → Int32} (e : k.toInt = 0) : wkG b st h n k := fun _ => by
  rw [t_clamp (k := 0) (by omega)]; exact WS_nil
theorem wkG_step {b c k m h n : Int32} {st su : Nat → Int32} (a : wkG b st h n k) (s : stG c st su h n 6 k m) (q : (c.toInt ≠ -1 ∨ b.toInt = -1) ∧ (c.toInt ≠ -1 ∨ 0 ≤ k.toInt)) : wkG c su h n m := fun z => by
  obtain ⟨s1, s2⟩ := s z
  have nk := t_nat (x := k) (by omega)
  exact WS_app (WS_congr (a (by omega)) (fun j _ j1 => s2 j (by omega))) s1
theorem wk_copy {b k h n : Int32} {st t y : Nat → Int32} (a : wkG b st h n k) (e : ∀ j : Nat, t j = if (j : Int) < k.toInt then st j else y j) (q : b.toInt = -1 ∧ 0 ≤ k.toInt) : WS t h n 6 (0 : Int32).toNatClampNeg k.toNatClampNeg := by
  have nk := t_nat q.2
  exact WS_congr (a q.1) (fun j _ j1 => by rw [e j, if_pos (by omega)])
/-- a row of the past being laid -/
def uQ (past now : Nat → Int32) (w i : Int32) : Prop := ∀ j : Nat, (j : Int) < i.toInt → past (68 * w.toNatClampNeg + j) = now j
theorem uQ_zero {p f : Nat → Int32} {w : Int32} : uQ p f w 0 := fun j hj => by rw [t_0] at hj; omega
theorem uQ_step {p f g : Nat → Int32} {w i x v y : Int32} (u : uQ p f w i) (ev : v = f i.toNatClampNeg) (e : g = upd p x.toNatClampNeg v) (k : x.toInt = 68 * w.toInt + i.toInt ∧ 0 ≤ w.toInt ∧ 0 ≤ i.toInt ∧ y.toInt = i.toInt + 1) : uQ g f w y := fun j hj => by
  have h1 := t_nat (x := w) (by omega)
  have h2 := t_nat (x := i) (by omega)
  have h3 := t_nat (x := x) (by omega)
  rw [e]
  by_cases z : j = i.toNatClampNeg
  · rw [z, show 68 * w.toNatClampNeg + i.toNatClampNeg = x.toNatClampNeg by omega, pk_us, ev]
  · rw [pk_un (by omega)]; exact u j (by omega)
theorem rPast_lay {p g : Nat → Int32} {w h n x v : Int32} (q : rPast w h n p) (e : g = upd p x.toNatClampNeg v) (k : 68 * w.toInt ≤ x.toInt) : rPast w h n g := by
  have hw := q.1
  have hx := t_nat (x := x) (by omega)
  refine ⟨hw, fun r hr => rS_same (q.2 r hr) (fun j hj => ?_)⟩
  show g (68 * r + j) = p (68 * r + j)
  rw [e, pk_un (by omega)]
theorem rPast_more {p f : Nat → Int32} {w v h n i : Int32} (q : rPast w h n p) (u : uQ p f w i) (s : rS h n f) (k : 68 ≤ i.toInt ∧ v.toInt = w.toInt + 1 ∧ w.toInt < 16) : rPast v h n p := by
  have hw := q.1
  have n0 := t_nat hw.1
  refine ⟨by omega, fun r hr => ?_⟩
  by_cases z : r = w.toNatClampNeg
  · rw [z]; exact rS_same s (fun j hj => u j (by omega))
  · exact q.2 r (by omega)
theorem rS_68 {h n : Int32} {f t y : Nat → Int32} (q : rS h n f) (e : ∀ j : Nat, t j = if (j : Int) < 68 then f j else y j) : rS h n t := rS_same q (fun j hj => by rw [e j, if_pos (by omega)])
theorem sf_X11_tellsStep {v0_bad : Int32} {f0_newStep : Nat → Int32} {v0_newSteps p1 p2 p3 p4 : Int32} {Q : (Nat → Int32) → Int32 → Prop} (a0 : v0_bad.toInt ≠ -1 ∨ (0 ≤ v0_newSteps.toInt ∧ v0_newSteps.toInt + 4 ≤ 200)) (hq : ∀ (newStep : Nat → Int32) (newSteps : Int32), (v0_bad.toInt ≠ -1 ∨ newSteps.toInt = v0_newSteps.toInt + 4) → tS v0_bad f0_newStep newStep v0_newSteps p1 p2 p3 p4 → Q newStep newSteps) : wq_X11_tellsStep v0_bad f0_newStep v0_newSteps p1 p2 p3 p4 Q := by
  refine sf_X11_fine (fun r p => ⟨fun c => ?_, fun c => ?_⟩)
  · rw [t_eq, t_0] at c
    have hb : v0_bad.toInt = -1 := by omega
    have n0 := t_nat (x := v0_newSteps) (by omega)
    refine ⟨t_in (by omega) (by omega), fun f3 e3 x4 e4 => ?_⟩
    have q4 : x4.toInt = v0_newSteps.toInt + 1 := by rw [e4]; exact t_inc (by omega)
    have w4 := t_nat (x := x4) (by omega)
    refine ⟨t_in (by omega) (by omega), fun f5 e5 x6 e6 => ?_⟩
    have q6 : x6.toInt = v0_newSteps.toInt + 2 := by rw [e6, t_add (by rw [t_2]; omega) (by rw [t_2]; omega), t_2]
    have w6 := t_nat (x := x6) (by omega)
    refine ⟨t_in (by omega) (by omega), fun f7 e7 x8 e8 => ?_⟩
    have q8 : x8.toInt = v0_newSteps.toInt + 3 := by rw [e8, t_add (by rw [t_3]; omega) (by rw [t_3]; omega), t_3]
    have w8 := t_nat (x := x8) (by omega)
    refine ⟨t_in (by omega) (by omega), fun f9 e9 x10 e10 => ?_⟩
    have q10 : x10.toInt = v0_newSteps.toInt + 4 := by rw [e10, t_add (by rw [t_4]; omega) (by rw [t_4]; omega), t_4]
    refine hq f9 x10 (Or.inr q10) (fun _ => ⟨⟨?_, ?_, ?_, ?_⟩, fun j hj => ?_⟩)
    · rw [e9, pk_un (by omega), e7, pk_un (by omega), e5, pk_un (by omega), e3, pk_us]
    · rw [e9, pk_un (by omega), e7, pk_un (by omega), e5, show v0_newSteps.toNatClampNeg + 1 = x4.toNatClampNeg by omega, pk_us]
    · rw [e9, pk_un (by omega), e7, show v0_newSteps.toNatClampNeg + 2 = x6.toNatClampNeg by omega, pk_us]
    · rw [e9, show v0_newSteps.toNatClampNeg + 3 = x8.toNatClampNeg by omega, pk_us]
    · rw [e9, pk_un (by omega), e7, pk_un (by omega), e5, pk_un (by omega), e3, pk_un (by omega)]
  · rw [t_eq, t_0] at c
    exact hq _ _ (Or.inl (by omega)) (fun z => by omega)
