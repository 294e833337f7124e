/-! safety: ints by their toInt -/
theorem t_lt {a b : Int32} : a < b ↔ a.toInt < b.toInt := Int32.lt_iff_toInt_lt
theorem t_le {a b : Int32} : a ≤ b ↔ a.toInt ≤ b.toInt := Int32.le_iff_toInt_le
theorem t_eq {a b : Int32} : a = b ↔ a.toInt = b.toInt := Int32.toInt_inj.symm
theorem t_rng (a : Int32) : -2147483648 ≤ a.toInt ∧ a.toInt ≤ 2147483647 := ⟨by have := Int32.le_toInt a; omega, by have := Int32.toInt_lt a; omega⟩
theorem t_add {a b : Int32} (h1 : -2147483648 ≤ a.toInt + b.toInt) (h2 : a.toInt + b.toInt ≤ 2147483647) : (a + b).toInt = a.toInt + b.toInt := by
  rw [Int32.toInt_add]; exact Int.bmod_eq_of_le (by omega) (by omega)
theorem t_sub {a b : Int32} (h1 : -2147483648 ≤ a.toInt - b.toInt) (h2 : a.toInt - b.toInt ≤ 2147483647) : (a - b).toInt = a.toInt - b.toInt := by
  rw [Int32.toInt_sub]; exact Int.bmod_eq_of_le (by omega) (by omega)
theorem t_mul {a b : Int32} (h1 : -2147483648 ≤ a.toInt * b.toInt) (h2 : a.toInt * b.toInt ≤ 2147483647) : (a * b).toInt = a.toInt * b.toInt := by
  rw [Int32.toInt_mul]; exact Int.bmod_eq_of_le (by omega) (by omega)
theorem t_0 : (0 : Int32).toInt = 0 := by decide
theorem t_1 : (1 : Int32).toInt = 1 := by decide
theorem t_m1 : (-1 : Int32).toInt = -1 := by decide
theorem t_inc {a : Int32} (h : a.toInt < 2147483647) : (a + 1).toInt = a.toInt + 1 := by
  have := t_rng a
  rw [t_add (by rw [t_1]; omega) (by rw [t_1]; omega), t_1]
theorem t_in {x : Int32} {n : Nat} (h0 : 0 ≤ x.toInt) (h1 : x.toInt < n) : vp_in x n := vp_in_iff.mpr ⟨h0, h1⟩
/-! the tape of the class -/
theorem sl_skip {len : Int32} {f : Nat → Int32} {Q : Int32 → Prop} (hl : len.toInt ≤ 600) : ∀ (k : Nat) (a : Int32), 0 ≤ a.toInt → a.toInt ≤ 600 → 600 - a.toInt < k → (∀ x : Int32, a.toInt ≤ x.toInt → x.toInt ≤ 600 → Q x) → wl_X8_skipBlanks_0 len f Q k a := by
  intro k
  induction k with
  | zero => intro a h0 h1 h2; omega
  | succ k ih =>
    intro a h0 h1 h2 hq
    refine ⟨fun _ => hq a (Int.le_refl _) h1, fun c => ?_⟩
    rw [t_le] at c
    refine ⟨t_in h0 (by omega), fun x2 _ => ⟨fun _ => hq a (Int.le_refl _) h1, fun _ x4 e4 => ?_⟩⟩
    have e : x4.toInt = a.toInt + 1 := by rw [e4]; exact t_inc (by omega)
    exact ih x4 (by omega) (by omega) (by omega) (fun x hx hx2 => hq x (by omega) hx2)
theorem sf_X8_skipBlanks {len a : Int32} {f : Nat → Int32} {Q : Int32 → Prop} (hl : len.toInt ≤ 600) (h0 : 0 ≤ a.toInt) (h1 : a.toInt ≤ 600) (hq : ∀ x : Int32, 0 ≤ x.toInt → x.toInt ≤ 600 → Q x) : wq_X8_skipBlanks len f a Q :=
  ⟨601, sl_skip hl 601 a h0 h1 (by omega) (fun x hx hx2 => hq x (by omega) hx2)⟩
theorem sf_X8_isFaulty {v : Int32} {Q : Int32 → Prop} (h0 : v = 0 → Q 0) (h1 : ¬ v = 0 → Q 1) : wq_X8_isFaulty v Q := ⟨h0, h1⟩
theorem sf_X8_isEnded {len a : Int32} {f : Nat → Int32} {Q : Int32 → Int32 → Prop} (hl : len.toInt ≤ 600) (h0 : 0 ≤ a.toInt) (h1 : a.toInt ≤ 600) (hq : ∀ r x : Int32, 0 ≤ x.toInt → x.toInt ≤ 600 → (r = 0 ∨ r = 1) → Q r x) : wq_X8_isEnded len f a Q :=
  sf_X8_skipBlanks hl h0 h1 (fun x hx0 hx1 => ⟨fun _ => hq 0 x hx0 hx1 (Or.inl rfl), fun _ => hq 1 x hx0 hx1 (Or.inr rfl)⟩)
theorem sf_X8_digitAt {len a : Int32} {f : Nat → Int32} {Q : Int32 → Prop} (hl : len.toInt ≤ 600) (h0 : 0 ≤ a.toInt) (hq : ∀ r : Int32, -1 ≤ r.toInt → r.toInt ≤ 9 → Q r) : wq_X8_digitAt len f a Q := by
  have hn : Q (-1) := hq (-1) (by rw [t_m1]; omega) (by rw [t_m1]; omega)
  refine ⟨fun _ => hn, fun c => ?_⟩
  rw [t_le] at c
  refine ⟨t_in h0 (by omega), fun x2 e2 => ⟨fun _ => hn, fun c2 => ⟨t_in h0 (by omega), fun x4 e4 => ⟨fun c4 => ⟨t_in h0 (by omega), fun x6 e6 => ?_⟩, fun _ => hn⟩⟩⟩⟩
  rw [t_lt, show (48 : Int32).toInt = 48 by decide] at c2
  rw [t_le, show (57 : Int32).toInt = 57 by decide] at c4
  rw [e2] at c2
  rw [e4] at c4
  have e : (x6 - 48).toInt = x6.toInt - 48 := by
    rw [e6]; exact t_sub (by rw [show (48 : Int32).toInt = 48 by decide]; omega) (by rw [show (48 : Int32).toInt = 48 by decide]; omega)
  rw [e6] at e ⊢
  exact hq _ (by omega) (by omega)
theorem sf_X8_blame {v w p q : Int32} {Q : Int32 → Int32 → Prop} (h1 : ¬ v = 0 → Q v w) (h0 : v = 0 → Q p q) : wq_X8_blame v w p q Q := ⟨h1, h0⟩
