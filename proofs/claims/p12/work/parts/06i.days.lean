theorem t_16 : (16 : Int32).toInt = 16 := by decide
theorem t_10 : (10 : Int32).toInt = 10 := by decide
theorem t_22 : (22 : Int32).toInt = 22 := by decide
theorem t_28 : (28 : Int32).toInt = 28 := by decide
theorem t_3 : (3 : Int32).toInt = 3 := by decide
theorem t_clamp {x : Int32} {k : Nat} (h : x.toInt = k) : x.toNatClampNeg = k := by
  have := t_nat (x := x) (by omega)
  omega
/-- where the hares sit -/
def sSits (h n : Int32) (row : Nat → Int32) : Prop := ∀ j : Nat, (j : Int) < h.toInt → 0 ≤ (row (4 + j)).toInt ∧ (row (4 + j)).toInt < n.toInt
theorem sSits_upd {h n v : Int32} {row : Nat → Int32} {i : Nat} (hs : sSits h n row) (h6 : h.toInt ≤ 6) (hi : i < 4 ∨ 10 ≤ i) : sSits h n (upd row i v) := fun j hj => by
  rw [pk_un (by omega)]; exact hs j hj
theorem sSits_put {h n v : Int32} {row : Nat → Int32} {i : Nat} (hs : sSits h n row) (v0 : 0 ≤ v.toInt) (v1 : v.toInt < n.toInt) : sSits h n (upd row i v) := fun j hj => by
  by_cases e : 4 + j = i
  · rw [e, pk_us]; exact ⟨v0, v1⟩
  · rw [pk_un e]; exact hs j hj
section Dy
variable {row : Nat → Int32} {p h n : Int32} {Q : Int32 → Prop}
theorem sf_X1_isCaught (q0 : Q 0) (q1 : Q 1) : wq_X1_isCaught row p Q := fun _ _ => ⟨fun _ => q0, fun _ => q1⟩
theorem sf_X1_sits (p0 : 0 ≤ p.toInt) (p1 : p.toInt < 6) (hq : ∀ r, r = row (4 + p.toNatClampNeg) → Q r) : wq_X1_sits row p Q := fun x1 e1 => by
  have e : x1.toInt = 4 + p.toInt := by rw [e1, t_add (by rw [t_4]; omega) (by rw [t_4]; omega), t_4]
  have hn := t_nat p0
  refine ⟨t_in (by omega) (by omega), fun x2 e2 => hq x2 ?_⟩
  rw [e2, t_clamp (k := 4 + p.toNatClampNeg) (by omega)]
theorem sf_X1_strong (p0 : 0 ≤ p.toInt) (p1 : p.toInt < 6) (hq : ∀ r, Q r) : wq_X1_strong row p Q := fun x1 e1 => by
  have e : x1.toInt = 10 + p.toInt := by rw [e1, t_add (by rw [t_10]; omega) (by rw [t_10]; omega), t_10]
  exact ⟨t_in (by omega) (by omega), fun _ _ => hq _⟩
theorem sf_X1_still (p0 : 0 ≤ p.toInt) (p1 : p.toInt < 6) (hq : ∀ r, Q r) : wq_X1_still row p Q := fun x1 e1 => by
  have e : x1.toInt = 16 + p.toInt := by rw [e1, t_add (by rw [t_16]; omega) (by rw [t_16]; omega), t_16]
  exact ⟨t_in (by omega) (by omega), fun _ _ => hq _⟩
theorem sf_X1_leaps (p0 : 0 ≤ p.toInt) (p1 : p.toInt < 6) (hq : ∀ r, Q r) : wq_X1_leaps row p Q := fun x1 e1 => by
  have e : x1.toInt = 22 + p.toInt := by rw [e1, t_add (by rw [t_22]; omega) (by rw [t_22]; omega), t_22]
  exact ⟨t_in (by omega) (by omega), fun _ _ => hq _⟩
theorem t_debt {a b x y : Int32} (a0 : 0 ≤ a.toInt) (a1 : a.toInt < 6) (b0 : 0 ≤ b.toInt) (b1 : b.toInt < 6) (ex : x = 28 + a * 6) (ey : y = x + b) : y.toInt = 28 + a.toInt * 6 + b.toInt := by
  have e1 : (a * 6).toInt = a.toInt * 6 := by rw [t_mul (by rw [t_6]; omega) (by rw [t_6]; omega), t_6]
  have e2 : x.toInt = 28 + a.toInt * 6 := by rw [ex, t_add (by rw [t_28, e1]; omega) (by rw [t_28, e1]; omega), t_28, e1]
  rw [ey, t_add (by omega) (by omega), e2]
theorem sf_X1_owesTo {q : Int32} (p0 : 0 ≤ p.toInt) (p1 : p.toInt < 6) (q0 : 0 ≤ q.toInt) (q1 : q.toInt < 6) (hq : ∀ r, Q r) : wq_X1_owesTo row p q Q := fun x1 e1 x2 e2 => by
  have e := t_debt p0 p1 q0 q1 e1 e2
  exact ⟨t_in (by omega) (by omega), fun _ _ => hq _⟩
theorem sl_X1_owes (h6 : h.toInt ≤ 6) (p0 : 0 ≤ p.toInt) (p1 : p.toInt < 6) (hq : ∀ r, Q r) : ∀ (k : Nat) (v i : Int32), 0 ≤ i.toInt → i.toInt ≤ 6 → 6 - i.toInt < k → wl_X1_owes_4 h row Q k p v i := by
  intro k
  induction k with
  | zero => intro v i i0 i1 i2; omega
  | succ k ih =>
    intro v i i0 i1 i2
    refine ⟨fun _ => hq _, fun c => ?_⟩
    rw [t_le] at c
    refine sf_X1_owesTo p0 p1 i0 (by omega) (fun r x3 _ x4 e4 => ?_)
    have e : x4.toInt = i.toInt + 1 := by rw [e4]; exact t_inc (by omega)
    exact ih x3 x4 (by omega) (by omega) (by omega)
theorem sf_X1_owes (h6 : h.toInt ≤ 6) (p0 : 0 ≤ p.toInt) (p1 : p.toInt < 6) (hq : ∀ r, Q r) : wq_X1_owes h row p Q := ⟨7, sl_X1_owes h6 p0 p1 hq 7 0 0 (by decide) (by decide) (by decide)⟩
theorem sl_X1_owed (h6 : h.toInt ≤ 6) (p0 : 0 ≤ p.toInt) (p1 : p.toInt < 6) (hq : ∀ r, Q r) : ∀ (k : Nat) (v i : Int32), 0 ≤ i.toInt → i.toInt ≤ 6 → 6 - i.toInt < k → wl_X1_owed_4 h row Q k p v i := by
  intro k
  induction k with
  | zero => intro v i i0 i1 i2; omega
  | succ k ih =>
    intro v i i0 i1 i2
    refine ⟨fun _ => hq _, fun c => ?_⟩
    rw [t_le] at c
    refine sf_X1_owesTo i0 (by omega) p0 p1 (fun r x3 _ x4 e4 => ?_)
    have e : x4.toInt = i.toInt + 1 := by rw [e4]; exact t_inc (by omega)
    exact ih x3 x4 (by omega) (by omega) (by omega)
theorem sf_X1_owed (h6 : h.toInt ≤ 6) (p0 : 0 ≤ p.toInt) (p1 : p.toInt < 6) (hq : ∀ r, Q r) : wq_X1_owed h row p Q := ⟨7, sl_X1_owed h6 p0 p1 hq 7 0 0 (by decide) (by decide) (by decide)⟩
theorem sl_X1_allDebts (h6 : h.toInt ≤ 6) (hq : ∀ r, Q r) : ∀ (k : Nat) (v i : Int32), 0 ≤ i.toInt → i.toInt ≤ 6 → 6 - i.toInt < k → wl_X1_allDebts_4 h row Q k v i := by
  intro k
  induction k with
  | zero => intro v i i0 i1 i2; omega
  | succ k ih =>
    intro v i i0 i1 i2
    refine ⟨fun _ => hq _, fun c => ?_⟩
    rw [t_le] at c
    refine sf_X1_owes h6 i0 (by omega) (fun r x3 _ x4 e4 => ?_)
    have e : x4.toInt = i.toInt + 1 := by rw [e4]; exact t_inc (by omega)
    exact ih x3 x4 (by omega) (by omega) (by omega)
theorem sf_X1_allDebts (h6 : h.toInt ≤ 6) (hq : ∀ r, Q r) : wq_X1_allDebts h row Q := ⟨7, sl_X1_allDebts h6 hq 7 0 0 (by decide) (by decide) (by decide)⟩
theorem sl_X1_seatedIn (h6 : h.toInt ≤ 6) (hq : ∀ r, Q r) : ∀ (k : Nat) (v i : Int32), 0 ≤ i.toInt → i.toInt ≤ 6 → 6 - i.toInt < k → wl_X1_seatedIn_4 h row Q k p v i := by
  intro k
  induction k with
  | zero => intro v i i0 i1 i2; omega
  | succ k ih =>
    intro v i i0 i1 i2
    refine ⟨fun _ => hq _, fun c => ?_⟩
    rw [t_le] at c
    have go : ∀ v x7 : Int32, x7 = i + 1 → wl_X1_seatedIn_4 h row Q k p v x7 := fun v x7 e7 => by
      have e : x7.toInt = i.toInt + 1 := by rw [e7]; exact t_inc (by omega)
      exact ih v x7 (by omega) (by omega) (by omega)
    exact sf_X1_isCaught ⟨fun c => absurd rfl c, fun _ => sf_X1_sits i0 (by omega) (fun r _ => ⟨fun _ => go v, fun _ x6 _ => go x6⟩)⟩ ⟨fun _ => go v, fun c => absurd c (by decide)⟩
theorem sf_X1_seatedIn (h6 : h.toInt ≤ 6) (hq : ∀ r, Q r) : wq_X1_seatedIn h row p Q := ⟨7, sl_X1_seatedIn h6 hq 7 0 0 (by decide) (by decide) (by decide)⟩
theorem sl_X1_strongTogether (h6 : h.toInt ≤ 6) (hq : ∀ r, Q r) : ∀ (k : Nat) (v i : Int32), 0 ≤ i.toInt → i.toInt ≤ 6 → 6 - i.toInt < k → wl_X1_strongTogether_4 h row Q k v i := by
  intro k
  induction k with
  | zero => intro v i i0 i1 i2; omega
  | succ k ih =>
    intro v i i0 i1 i2
    refine ⟨fun _ => hq _, fun c => ?_⟩
    rw [t_le] at c
    have go : ∀ v x7 : Int32, x7 = i + 1 → wl_X1_strongTogether_4 h row Q k v x7 := fun v x7 e7 => by
      have e : x7.toInt = i.toInt + 1 := by rw [e7]; exact t_inc (by omega)
      exact ih v x7 (by omega) (by omega) (by omega)
    exact sf_X1_isCaught ⟨fun _ => sf_X1_strong i0 (by omega) (fun r x5 _ => go x5), fun c => absurd rfl c⟩ ⟨fun c => absurd c (by decide), fun _ x5 _ => go x5⟩
theorem sf_X1_strongTogether (h6 : h.toInt ≤ 6) (hq : ∀ r, Q r) : wq_X1_strongTogether h row Q := ⟨7, sl_X1_strongTogether h6 hq 7 0 0 (by decide) (by decide) (by decide)⟩
theorem sl_X1_endangered {sf : Int32} (h6 : h.toInt ≤ 6) (hq : ∀ r, Q r) : ∀ (k : Nat) (v i : Int32), 0 ≤ i.toInt → i.toInt ≤ 6 → 6 - i.toInt < k → wl_X1_endangered_4 h sf row Q k v i := by
  intro k
  induction k with
  | zero => intro v i i0 i1 i2; omega
  | succ k ih =>
    intro v i i0 i1 i2
    refine ⟨fun _ => hq _, fun c => ?_⟩
    rw [t_le] at c
    have go : ∀ v x7 : Int32, x7 = i + 1 → wl_X1_endangered_4 h sf row Q k v x7 := fun v x7 e7 => by
      have e : x7.toInt = i.toInt + 1 := by rw [e7]; exact t_inc (by omega)
      exact ih v x7 (by omega) (by omega) (by omega)
    exact sf_X1_isCaught ⟨fun c => absurd rfl c, fun _ => sf_X1_sits i0 (by omega) (fun r _ => sf_X2_isSafe ⟨fun c => absurd rfl c, fun _ => sf_X1_still i0 (by omega) (fun r7 => ⟨fun _ => go v, fun _ x9 _ => go x9⟩)⟩ ⟨fun _ => go v, fun c => absurd c (by decide)⟩)⟩ ⟨fun _ => go v, fun c => absurd c (by decide)⟩
theorem sf_X1_endangered {sf : Int32} (h6 : h.toInt ≤ 6) (hq : ∀ r, Q r) : wq_X1_endangered h sf row Q := ⟨7, sl_X1_endangered h6 hq 7 0 0 (by decide) (by decide) (by decide)⟩
end Dy
section Dw
variable {row : Nat → Int32} {p h n : Int32} {Q : (Nat → Int32) → Prop}
theorem sf_X1_stir (h6 : h.toInt ≤ 6) (hs : sSits h n row) (p0 : 0 ≤ p.toInt) (p1 : p.toInt < 6) (hq : ∀ row, sSits h n row → Q row) : wq_X1_stir row p Q := fun x1 e1 => by
  have e : x1.toInt = 16 + p.toInt := by rw [e1, t_add (by rw [t_16]; omega) (by rw [t_16]; omega), t_16]
  have hx := t_nat (x := x1) (by omega)
  refine ⟨t_in (by omega) (by omega), fun f2 e2 x3 _ x4 _ f5 e5 => hq f5 ?_⟩
  rw [e5, e2, show (3 : Int32).toNatClampNeg = 3 by decide]
  exact sSits_upd (sSits_upd hs h6 (by omega)) h6 (by omega)
theorem sf_X1_leapTo {q : Int32} (h6 : h.toInt ≤ 6) (hs : sSits h n row) (p0 : 0 ≤ p.toInt) (p1 : p.toInt < 6) (q0 : 0 ≤ q.toInt) (q1 : q.toInt < n.toInt) (hq : ∀ row, sSits h n row → Q row) : wq_X1_leapTo row p q Q := fun x1 e1 => by
  have e : x1.toInt = 4 + p.toInt := by rw [e1, t_add (by rw [t_4]; omega) (by rw [t_4]; omega), t_4]
  refine ⟨t_in (by omega) (by omega), fun f2 e2 x3 e3 => ?_⟩
  have ex : x3.toInt = 22 + p.toInt := by rw [e3, t_add (by rw [t_22]; omega) (by rw [t_22]; omega), t_22]
  have hx := t_nat (x := x3) (by omega)
  refine ⟨t_in (by omega) (by omega), fun x4 _ x5 _ => ⟨t_in (by omega) (by omega), fun f6 e6 => sf_X1_stir h6 ?_ p0 p1 hq⟩⟩
  rw [e6, e2]
  exact sSits_upd (sSits_put hs q0 q1) h6 (by omega)
theorem sl_X1_dropDebts (h6 : h.toInt ≤ 6) (p0 : 0 ≤ p.toInt) (p1 : p.toInt < 6) (hq : ∀ row, sSits h n row → Q row) : ∀ (k : Nat) (row : Nat → Int32) (i : Int32), sSits h n row → 0 ≤ i.toInt → i.toInt ≤ 6 → 6 - i.toInt < k → wl_X1_dropDebts_2 h Q k row p i := by
  intro k
  induction k with
  | zero => intro row i hs i0 i1 i2; omega
  | succ k ih =>
    intro row i hs i0 i1 i2
    refine ⟨fun _ => hq _ hs, fun c => ?_⟩
    rw [t_le] at c
    intro x2 e2 x3 e3
    have a3 := t_debt p0 p1 i0 (by omega) e2 e3
    have b3 := t_nat (x := x3) (by omega)
    refine ⟨t_in (by omega) (by omega), fun f4 e4 x5 e5 x6 e6 => ?_⟩
    have a6 := t_debt i0 (by omega) p0 p1 e5 e6
    have b6 := t_nat (x := x6) (by omega)
    refine ⟨t_in (by omega) (by omega), fun f7 e7 x8 e8 => ?_⟩
    have e : x8.toInt = i.toInt + 1 := by rw [e8]; exact t_inc (by omega)
    refine ih f7 x8 ?_ (by omega) (by omega) (by omega)
    rw [e7, e4]
    exact sSits_upd (sSits_upd hs h6 (by omega)) h6 (by omega)
theorem sf_X1_dropDebts (h6 : h.toInt ≤ 6) (hs : sSits h n row) (p0 : 0 ≤ p.toInt) (p1 : p.toInt < 6) (hq : ∀ row, sSits h n row → Q row) : wq_X1_dropDebts h row p Q := ⟨7, sl_X1_dropDebts h6 p0 p1 hq 7 row 0 hs (by decide) (by decide) (by decide)⟩
end Dw
