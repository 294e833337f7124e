section
/-- one step told -/
def sOk (st : Nat → Int32) (h n : Int32) (a : Nat) : Prop :=
  ((st a).toInt ≠ 0 ∨ (0 ≤ (st (a + 1)).toInt ∧ (st (a + 1)).toInt < h.toInt ∧ 0 ≤ (st (a + 2)).toInt ∧ (st (a + 2)).toInt < n.toInt)) ∧
  (((st a).toInt ≠ 1 ∧ (st a).toInt ≠ 2) ∨ (0 ≤ (st (a + 1)).toInt ∧ (st (a + 1)).toInt < h.toInt ∧ 0 ≤ (st (a + 2)).toInt ∧ (st (a + 2)).toInt < h.toInt ∧ 0 ≤ (st (a + 3)).toInt))
/-- steps told, nested at most L deep -/
def wS (st : Nat → Int32) (h n : Int32) : Nat → Nat → Nat → Nat → Prop
  | 0, _, a, b => a = b
  | f + 1, L, a, b => a = b ∨ (a + 4 ≤ b ∧ (((st a).toInt ≠ 4 ∧ sOk st h n a ∧ wS st h n f L (a + 4) b) ∨ ((st a).toInt = 4 ∧ (st (a + 1)).toInt ≤ 40 ∧ ∃ M e : Nat, L = M + 1 ∧ (st (a + 2)).toInt = e ∧ a + 4 ≤ e ∧ e ≤ b ∧ wS st h n f M (a + 4) e ∧ wS st h n f L e b)))
section Ws
variable {st su : Nat → Int32} {h n : Int32}
theorem wS_fuel : ∀ {f g L a b : Nat}, wS st h n f L a b → f ≤ g → wS st h n g L a b := by
  intro f
  induction f with
  | zero =>
    intro g L a b w _
    have e : a = b := w
    cases g with
    | zero => exact e
    | succ g => exact Or.inl e
  | succ f ih =>
    intro g L a b w hg
    cases g with
    | zero => omega
    | succ g =>
      rcases w with w | ⟨w0, w | ⟨w1, w2, M, e, w3, w4, w5, w6, w7, w8⟩⟩
      · exact Or.inl w
      · exact Or.inr ⟨w0, Or.inl ⟨w.1, w.2.1, ih w.2.2 (by omega)⟩⟩
      · exact Or.inr ⟨w0, Or.inr ⟨w1, w2, M, e, w3, w4, w5, w6, ih w7 (by omega), ih w8 (by omega)⟩⟩
theorem wS_le : ∀ {f L a b : Nat}, wS st h n f L a b → a ≤ b := by
  intro f L a b w
  cases f with
  | zero => exact Nat.le_of_eq w
  | succ f =>
    rcases w with w | ⟨w0, _⟩
    · exact Nat.le_of_eq w
    · omega
theorem wS_app : ∀ {f g L a b c : Nat}, wS st h n f L a b → wS st h n g L b c → wS st h n (f + g) L a c := by
  intro f
  induction f with
  | zero =>
    intro g L a b c w v
    have e : a = b := w
    rw [e]; exact wS_fuel v (by omega)
  | succ f ih =>
    intro g L a b c w v
    have hle := wS_le v
    rcases w with w | ⟨w0, w | ⟨w1, w2, M, e, w3, w4, w5, w6, w7, w8⟩⟩
    · rw [w]; exact wS_fuel v (by omega)
    · rw [show f + 1 + g = (f + g) + 1 by omega]
      exact Or.inr ⟨by omega, Or.inl ⟨w.1, w.2.1, ih w.2.2 v⟩⟩
    · rw [show f + 1 + g = (f + g) + 1 by omega]
      exact Or.inr ⟨by omega, Or.inr ⟨w1, w2, M, e, w3, w4, w5, by omega, wS_fuel w7 (by omega), ih w8 v⟩⟩
theorem wS_congr : ∀ {f L a b : Nat}, wS st h n f L a b → (∀ j : Nat, a ≤ j → j < b → su j = st j) → wS su h n f L a b := by
  intro f
  induction f with
  | zero => intro L a b w _; exact w
  | succ f ih =>
    intro L a b w q
    rcases w with w | ⟨w0, w | ⟨w1, w2, M, e, w3, w4, w5, w6, w7, w8⟩⟩
    · exact Or.inl w
    · refine Or.inr ⟨w0, Or.inl ⟨?_, ?_, ih w.2.2 (fun j j0 j1 => q j (by omega) j1)⟩⟩
      · rw [q a (by omega) (by omega)]; exact w.1
      · have k := w.2.1
        unfold sOk at k ⊢
        rw [q a (by omega) (by omega), q (a + 1) (by omega) (by omega), q (a + 2) (by omega) (by omega), q (a + 3) (by omega) (by omega)]
        exact k
    · refine Or.inr ⟨w0, Or.inr ⟨?_, ?_, M, e, w3, ?_, w5, w6, ih w7 (fun j j0 j1 => q j (by omega) (by omega)), ih w8 (fun j j0 j1 => q j (by omega) j1)⟩⟩
      · rw [q a (by omega) (by omega)]; exact w1
      · rw [q (a + 1) (by omega) (by omega)]; exact w2
      · rw [q (a + 2) (by omega) (by omega)]; exact w4
def WS (st : Nat → Int32) (h n : Int32) (L a b : Nat) : Prop := ∃ f : Nat, wS st h n f L a b
theorem WS_nil {L a : Nat} : WS st h n L a a := ⟨0, rfl⟩
theorem WS_le {L a b : Nat} (w : WS st h n L a b) : a ≤ b := by obtain ⟨f, w⟩ := w; exact wS_le w
theorem WS_app {L a b c : Nat} (w : WS st h n L a b) (v : WS st h n L b c) : WS st h n L a c := by
  obtain ⟨f, w⟩ := w
  obtain ⟨g, v⟩ := v
  exact ⟨f + g, wS_app w v⟩
theorem WS_congr {L a b : Nat} (w : WS st h n L a b) (q : ∀ j : Nat, a ≤ j → j < b → su j = st j) : WS su h n L a b := by
  obtain ⟨f, w⟩ := w
  exact ⟨f, wS_congr w q⟩
theorem WS_one {L a : Nat} (h1 : (st a).toInt ≠ 4) (h2 : sOk st h n a) : WS st h n L a (a + 4) := ⟨1, Or.inr ⟨by omega, Or.inl ⟨h1, h2, rfl⟩⟩⟩
theorem WS_again {L a e : Nat} (h1 : (st a).toInt = 4) (h2 : (st (a + 1)).toInt ≤ 40) (h3 : (st (a + 2)).toInt = e) (w : WS st h n L (a + 4) e) : WS st h n (L + 1) a e := by
  have hle := WS_le w
  obtain ⟨f, w⟩ := w
  exact ⟨f + 1, Or.inr ⟨by omega, Or.inr ⟨h1, h2, L, e, rfl, h3, by omega, by omega, w, wS_fuel (f := 0) rfl (by omega)⟩⟩⟩
theorem WS_head {L a b : Nat} (w : WS st h n L a b) (hab : a < b) : a + 4 ≤ b ∧ (((st a).toInt ≠ 4 ∧ sOk st h n a ∧ WS st h n L (a + 4) b) ∨ ((st a).toInt = 4 ∧ (st (a + 1)).toInt ≤ 40 ∧ ∃ M e : Nat, L = M + 1 ∧ (st (a + 2)).toInt = e ∧ a + 4 ≤ e ∧ e ≤ b ∧ WS st h n M (a + 4) e ∧ WS st h n L e b)) := by
  obtain ⟨f, w⟩ := w
  cases f with
  | zero => have e : a = b := w; omega
  | succ f =>
    rcases w with w | ⟨w0, w | ⟨w1, w2, M, e, w3, w4, w5, w6, w7, w8⟩⟩
    · omega
    · exact ⟨w0, Or.inl ⟨w.1, w.2.1, f, w.2.2⟩⟩
    · exact ⟨w0, Or.inr ⟨w1, w2, M, e, w3, w4, w5, w6, ⟨f, w7⟩, ⟨f, w8⟩⟩⟩
end Ws
theorem sf_X11_isDone {v0_hares : Int32} {v0_foxes : Int32} {v0_codes : Int32} {f0_form : Nat → Int32} {f0_fox : Nat → Int32} {f0_hare : Nat → Int32} {f0_code : Nat → Int32} {f0_ofCode : Nat → Int32} {f0_s : Nat → Int32} {f0_facts : Nat → Int32} {f0_stack : Nat → Int32} {p1 : Int32} {p2 : Int32} {p3 : Int32} {p4 : Int32} {Q : Int32 → (Nat → Int32) → (Nat → Int32) → (Nat → Int32) → Prop} {n : Int32} (a0 : rS v0_hares n f0_s) (a1 : rC v0_codes f0_code f0_ofCode) (a2 : v0_hares.toInt ≤ 6) (a3 : v0_foxes.toInt ≤ 4) (a4 : n.toInt ≤ 8) (a5 : p1.toInt ≠ 0 ∨ (0 ≤ p2.toInt ∧ p2.toInt < v0_hares.toInt ∧ 0 ≤ p3.toInt ∧ p3.toInt < n.toInt)) (a6 : (p1.toInt ≠ 1 ∧ p1.toInt ≠ 2) ∨ (0 ≤ p2.toInt ∧ p2.toInt < v0_hares.toInt ∧ 0 ≤ p3.toInt ∧ p3.toInt < v0_hares.toInt ∧ 0 ≤ p4.toInt)) (hq : ∀ (r : Int32) (s : (Nat → Int32)) (facts : (Nat → Int32)) (stack : (Nat → Int32)), (r.toInt = 0 ∨ r.toInt = 1) → (rS v0_hares n s) → Q r s facts stack) : wq_X11_isDone v0_hares v0_foxes v0_codes f0_form f0_fox f0_hare f0_code f0_ofCode f0_s f0_facts f0_stack p1 p2 p3 p4 Q := by
  refine ⟨?_, ?_⟩
  · intro c1
    try simp only [t_lt, t_le, t_eq, t_0, t_1, t_2, t_3, t_4, t_40, t_6, t_8, t_m1] at c1
    refine ⟨?_, ?_⟩
    · intro c2
      try simp only [t_lt, t_le, t_eq, t_0, t_1, t_2, t_3, t_4, t_40, t_6, t_8, t_m1] at c2
      refine ⟨?_, ?_⟩
      · intro c3
        try simp only [t_lt, t_le, t_eq, t_0, t_1, t_2, t_3, t_4, t_40, t_6, t_8, t_m1] at c3
        intro y4 e5
        have h6 : y4.toInt = (f0_s (67 : Int32).toNatClampNeg).toInt := by rw [e5]
        try have h7 := rS_sit (s := f0_s) (x := (67 : Int32)) (by with_reducible assumption) (by first | with_reducible assumption | omega | (simp only [t_0, t_1, t_2, t_3, t_4, t_40, t_6, t_8, t_m1, false_and, true_and, and_true, and_false, or_false, false_or, true_or, or_true, ne_eq, not_false_eq_true, not_true_eq_false]; done) | (simp only [t_0, t_1, t_2, t_3, t_4, t_40, t_6, t_8, t_m1, false_and, true_and, and_true, and_false, or_false, false_or, true_or, or_true, ne_eq, not_false_eq_true, not_true_eq_false]; omega)) (by first | with_reducible assumption | omega | (simp only [t_0, t_1, t_2, t_3, t_4, t_40, t_6, t_8, t_m1, false_and, true_and, and_true, and_false, or_false, false_or, true_or, or_true, ne_eq, not_false_eq_true, not_true_eq_false]; done) | (simp only [t_0, t_1, t_2, t_3, t_4, t_40, t_6, t_8, t_m1, false_and, true_and, and_true, and_false, or_false, false_or, true_or, or_true, ne_eq, not_false_eq_true, not_true_eq_false]; omega))
        try have h8 := rS_debt (s := f0_s) (x := (67 : Int32)) (by with_reducible assumption) (by first | with_reducible assumption | omega | (simp only [t_0, t_1, t_2, t_3, t_4, t_40, t_6, t_8, t_m1, false_and, true_and, and_true, and_false, or_false, false_or, true_or, or_true, ne_eq, not_false_eq_true, not_true_eq_false]; done) | (simp only [t_0, t_1, t_2, t_3, t_4, t_40, t_6, t_8, t_m1, false_and, true_and, and_true, and_false, or_false, false_or, true_or, or_true, ne_eq, not_false_eq_true, not_true_eq_false]; omega)) (by first | with_reducible assumption | omega | (simp only [t_0, t_1, t_2, t_3, t_4, t_40, t_6, t_8, t_m1, false_and, true_and, and_true, and_false, or_false, false_or, true_or, or_true, ne_eq, not_false_eq_true, not_true_eq_false]; done) | (simp only [t_0, t_1, t_2, t_3, t_4, t_40, t_6, t_8, t_m1, false_and, true_and, and_true, and_false, or_false, false_or, true_or, or_true, ne_eq, not_false_eq_true, not_true_eq_false]; omega))
        refine ⟨?_, ?_⟩
        · intro c9
          try simp only [t_lt, t_le, t_eq, t_0, t_1, t_2, t_3, t_4, t_40, t_6, t_8, t_m1] at c9
          refine sf_X11_passes  (by first | with_reducible assumption | omega | (simp only [t_0, t_1, t_2, t_3, t_4, t_40, t_6, t_8, t_m1, false_and, true_and, and_true, and_false, or_false, false_or, true_or, or_true, ne_eq, not_false_eq_true, not_true_eq_false]; done) | (simp only [t_0, t_1, t_2, t_3, t_4, t_40, t_6, t_8, t_m1, false_and, true_and, and_true, and_false, or_false, false_or, true_or, or_true, ne_eq, not_false_eq_true, not_true_eq_false]; omega)) (by first | with_reducible assumption | omega | (simp only [t_0, t_1, t_2, t_3, t_4, t_40, t_6, t_8, t_m1, false_and, true_and, and_true, and_false, or_false, false_or, true_or, or_true, ne_eq, not_false_eq_true, not_true_eq_false]; done) | (simp only [t_0, t_1, t_2, t_3, t_4, t_40, t_6, t_8, t_m1, false_and, true_and, and_true, and_false, or_false, false_or, true_or, or_true, ne_eq, not_false_eq_true, not_true_eq_false]; omega)) (by first | with_reducible assumption | omega | (simp only [t_0, t_1, t_2, t_3, t_4, t_40, t_6, t_8, t_m1, false_and, true_and, and_true, and_false, or_false, false_or, true_or, or_true, ne_eq, not_false_eq_true, not_true_eq_false]; done) | (simp only [t_0, t_1, t_2, t_3, t_4, t_40, t_6, t_8, t_m1, false_and, true_and, and_true, and_false, or_false, false_or, true_or, or_true, ne_eq, not_false_eq_true, not_true_eq_false]; omega)) (fun y10 po11 => ?_)
          exact hq _ _ _ _ (by first | with_reducible assumption | omega | (simp only [t_0, t_1, t_2, t_3, t_4, t_40, t_6, t_8, t_m1, false_and, true_and, and_true, and_false, or_false, false_or, true_or, or_true, ne_eq, not_false_eq_true, not_true_eq_false]; done) | (simp only [t_0, t_1, t_2, t_3, t_4, t_40, t_6, t_8, t_m1, false_and, true_and, and_true, and_false, or_false, false_or, true_or, or_true, ne_eq, not_false_eq_true, not_true_eq_false]; omega)) (by first | with_reducible assumption | omega | (simp only [t_0, t_1, t_2, t_3, t_4, t_40, t_6, t_8, t_m1, false_and, true_and, and_true, and_false, or_false, false_or, true_or, or_true, ne_eq, not_false_eq_true, not_true_eq_false]; done) | (simp only [t_0, t_1, t_2, t_3, t_4, t_40, t_6, t_8, t_m1, false_and, true_and, and_true, and_false, or_false, false_or, true_or, or_true, ne_eq, not_false_eq_true, not_true_eq_false]; omega))
        · intro c12
          try simp only [t_lt, t_le, t_eq, t_0, t_1, t_2, t_3, t_4, t_40, t_6, t_8, t_m1] at c12
          exact hq _ _ _ _ (by first | with_reducible assumption | omega | (simp only [t_0, t_1, t_2, t_3, t_4, t_40, t_6, t_8, t_m1, false_and, true_and, and_true, and_false, or_false, false_or, true_or, or_true, ne_eq, not_false_eq_true, not_true_eq_false]; done) | (simp only [t_0, t_1, t_2, t_3, t_4, t_40, t_6, t_8, t_m1, false_and, true_and, and_true, and_false, or_false, false_or, true_or, or_true, ne_eq, not_false_eq_true, not_true_eq_false]; omega)) (by first | with_reducible assumption | omega | (simp only [t_0, t_1, t_2, t_3, t_4, t_40, t_6, t_8, t_m1, false_and, true_and, and_true, and_false, or_false, false_or, true_or, or_true, ne_eq, not_false_eq_true, not_true_eq_false]; done) | (simp only [t_0, t_1, t_2, t_3, t_4, t_40, t_6, t_8, t_m1, false_and, true_and, and_true, and_false, or_false, false_or, true_or, or_true, ne_eq, not_false_eq_true, not_true_eq_false]; omega))
      · intro c13
        try simp only [t_lt, t_le, t_eq, t_0, t_1, t_2, t_3, t_4, t_40, t_6, t_8, t_m1] at c13
        refine sf_X11_pays  (by first | with_reducible assumption | omega | (simp only [t_0, t_1, t_2, t_3, t_4, t_40, t_6, t_8, t_m1, false_and, true_and, and_true, and_false, or_false, false_or, true_or, or_true, ne_eq, not_false_eq_true, not_true_eq_false]; done) | (simp only [t_0, t_1, t_2, t_3, t_4, t_40, t_6, t_8, t_m1, false_and, true_and, and_true, and_false, or_false, false_or, true_or, or_true, ne_eq, not_false_eq_true, not_true_eq_false]; omega)) (by first | with_reducible assumption | omega | (simp only [t_0, t_1, t_2, t_3, t_4, t_40, t_6, t_8, t_m1, false_and, true_and, and_true, and_false, or_false, false_or, true_or, or_true, ne_eq, not_false_eq_true, not_true_eq_false]; done) | (simp only [t_0, t_1, t_2, t_3, t_4, t_40, t_6, t_8, t_m1, false_and, true_and, and_true, and_false, or_false, false_or, true_or, or_true, ne_eq, not_false_eq_true, not_true_eq_false]; omega)) (by first | with_reducible assumption | omega | (simp only [t_0, t_1, t_2, t_3, t_4, t_40, t_6, t_8, t_m1, false_and, true_and, and_true, and_false, or_false, false_or, true_or, or_true, ne_eq, not_false_eq_true, not_true_eq_false]; done) | (simp only [t_0, t_1, t_2, t_3, t_4, t_40, t_6, t_8, t_m1, false_and, true_and, and_true, and_false, or_false, false_or, true_or, or_true, ne_eq, not_false_eq_true, not_true_eq_false]; omega)) (by first | with_reducible assumption | omega | (simp only [t_0, t_1, t_2, t_3, t_4, t_40, t_6, t_8, t_m1, false_and, true_and, and_true, and_false, or_false, false_or, true_or, or_true, ne_eq, not_false_eq_true, not_true_eq_false]; done) | (simp only [t_0, t_1, t_2, t_3, t_4, t_40, t_6, t_8, t_m1, false_and, true_and, and_true, and_false, or_false, false_or, true_or, or_true, ne_eq, not_false_eq_true, not_true_eq_false]; omega)) (by first | with_reducible assumption | omega | (simp only [t_0, t_1, t_2, t_3, t_4, t_40, t_6, t_8, t_m1, false_and, true_and, and_true, and_false, or_false, false_or, true_or, or_true, ne_eq, not_false_eq_true, not_true_eq_false]; done) | (simp only [t_0, t_1, t_2, t_3, t_4, t_40, t_6, t_8, t_m1, false_and, true_and, and_true, and_false, or_false, false_or, true_or, or_true, ne_eq, not_false_eq_true, not_true_eq_false]; omega)) (by first | with_reducible assumption | omega | (simp only [t_0, t_1, t_2, t_3, t_4, t_40, t_6, t_8, t_m1, false_and, true_and, and_true, and_false, or_false, false_or, true_or, or_true, ne_eq, not_false_eq_true, not_true_eq_false]; done) | (simp only [t_0, t_1, t_2, t_3, t_4, t_40, t_6, t_8, t_m1, false_and, true_and, and_true, and_false, or_false, false_or, true_or, or_true, ne_eq, not_false_eq_true, not_true_eq_false]; omega)) (fun y14 y15 po16 po17 => ?_)
        try simp only [t_0, t_1, t_2, t_3, t_4, t_40, t_6, t_8, t_m1] at po16
        refine ⟨t_bool (by first | with_reducible assumption | omega | (simp only [t_0, t_1, t_2, t_3, t_4, t_40, t_6, t_8, t_m1, false_and, true_and, and_true, and_false, or_false, false_or, true_or, or_true, ne_eq, not_false_eq_true, not_true_eq_false]; done) | (simp only [t_0, t_1, t_2, t_3, t_4, t_40, t_6, t_8, t_m1, false_and, true_and, and_true, and_false, or_false, false_or, true_or, or_true, ne_eq, not_false_eq_true, not_true_eq_false]; omega)), ?_⟩
        exact hq _ _ _ _ (by first | with_reducible assumption | omega | (simp only [t_0, t_1, t_2, t_3, t_4, t_40, t_6, t_8, t_m1, false_and, true_and, and_true, and_false, or_false, false_or, true_or, or_true, ne_eq, not_false_eq_true, not_true_eq_false]; done) | (simp only [t_0, t_1, t_2, t_3, t_4, t_40, t_6, t_8, t_m1, false_and, true_and, and_true, and_false, or_false, false_or, true_or, or_true, ne_eq, not_false_eq_true, not_true_eq_false]; omega)) (by first | with_reducible assumption | omega | (simp only [t_0, t_1, t_2, t_3, t_4, t_40, t_6, t_8, t_m1, false_and, true_and, and_true, and_false, or_false, false_or, true_or, or_true, ne_eq, not_false_eq_true, not_true_eq_false]; done) | (simp only [t_0, t_1, t_2, t_3, t_4, t_40, t_6, t_8, t_m1, false_and, true_and, and_true, and_false, or_false, false_or, true_or, or_true, ne_eq, not_false_eq_true, not_true_eq_false]; omega))
    · intro c18
      try simp only [t_lt, t_le, t_eq, t_0, t_1, t_2, t_3, t_4, t_40, t_6, t_8, t_m1] at c18
      refine sf_X11_boxes  (by first | with_reducible assumption | omega | (simp only [t_0, t_1, t_2, t_3, t_4, t_40, t_6, t_8, t_m1, false_and, true_and, and_true, and_false, or_false, false_or, true_or, or_true, ne_eq, not_false_eq_true, not_true_eq_false]; done) | (simp only [t_0, t_1, t_2, t_3, t_4, t_40, t_6, t_8, t_m1, false_and, true_and, and_true, and_false, or_false, false_or, true_or, or_true, ne_eq, not_false_eq_true, not_true_eq_false]; omega)) (by first | with_reducible assumption | omega | (simp only [t_0, t_1, t_2, t_3, t_4, t_40, t_6, t_8, t_m1, false_and, true_and, and_true, and_false, or_false, false_or, true_or, or_true, ne_eq, not_false_eq_true, not_true_eq_false]; done) | (simp only [t_0, t_1, t_2, t_3, t_4, t_40, t_6, t_8, t_m1, false_and, true_and, and_true, and_false, or_false, false_or, true_or, or_true, ne_eq, not_false_eq_true, not_true_eq_false]; omega)) (by first | with_reducible assumption | omega | (simp only [t_0, t_1, t_2, t_3, t_4, t_40, t_6, t_8, t_m1, false_and, true_and, and_true, and_false, or_false, false_or, true_or, or_true, ne_eq, not_false_eq_true, not_true_eq_false]; done) | (simp only [t_0, t_1, t_2, t_3, t_4, t_40, t_6, t_8, t_m1, false_and, true_and, and_true, and_false, or_false, false_or, true_or, or_true, ne_eq, not_false_eq_true, not_true_eq_false]; omega)) (by first | with_reducible assumption | omega | (simp only [t_0, t_1, t_2, t_3, t_4, t_40, t_6, t_8, t_m1, false_and, true_and, and_true, and_false, or_false, false_or, true_or, or_true, ne_eq, not_false_eq_true, not_true_eq_false]; done) | (simp only [t_0, t_1, t_2, t_3, t_4, t_40, t_6, t_8, t_m1, false_and, true_and, and_true, and_false, or_false, false_or, true_or, or_true, ne_eq, not_false_eq_true, not_true_eq_false]; omega)) (by first | with_reducible assumption | omega | (simp only [t_0, t_1, t_2, t_3, t_4, t_40, t_6, t_8, t_m1, false_and, true_and, and_true, and_false, or_false, false_or, true_or, or_true, ne_eq, not_false_eq_true, not_true_eq_false]; done) | (simp only [t_0, t_1, t_2, t_3, t_4, t_40, t_6, t_8, t_m1, false_and, true_and, and_true, and_false, or_false, false_or, true_or, or_true, ne_eq, not_false_eq_true, not_true_eq_false]; omega)) (fun y19 y20 po21 po22 => ?_)
      try simp only [t_0, t_1, t_2, t_3, t_4, t_40, t_6, t_8, t_m1] at po21
      refine ⟨t_bool (by first | with_reducible assumption | omega | (simp only [t_0, t_1, t_2, t_3, t_4, t_40, t_6, t_8, t_m1, false_and, true_and, and_true, and_false, or_false, false_or, true_or, or_true, ne_eq, not_false_eq_true, not_true_eq_false]; done) | (simp only [t_0, t_1, t_2, t_3, t_4, t_40, t_6, t_8, t_m1, false_and, true_and, and_true, and_false, or_false, false_or, true_or, or_true, ne_eq, not_false_eq_true, not_true_eq_false]; omega)), ?_⟩
      exact hq _ _ _ _ (by first | with_reducible assumption | omega | (simp only [t_0, t_1, t_2, t_3, t_4, t_40, t_6, t_8, t_m1, false_and, true_and, and_true, and_false, or_false, false_or, true_or, or_true, ne_eq, not_false_eq_true, not_true_eq_false]; done) | (simp only [t_0, t_1, t_2, t_3, t_4, t_40, t_6, t_8, t_m1, false_and, true_and, and_true, and_false, or_false, false_or, true_or, or_true, ne_eq, not_false_eq_true, not_true_eq_false]; omega)) (by first | with_reducible assumption | omega | (simp only [t_0, t_1, t_2, t_3, t_4, t_40, t_6, t_8, t_m1, false_and, true_and, and_true, and_false, or_false, false_or, true_or, or_true, ne_eq, not_false_eq_true, not_true_eq_false]; done) | (simp only [t_0, t_1, t_2, t_3, t_4, t_40, t_6, t_8, t_m1, false_and, true_and, and_true, and_false, or_false, false_or, true_or, or_true, ne_eq, not_false_eq_true, not_true_eq_false]; omega))
  · intro c23
    try simp only [t_lt, t_le, t_eq, t_0, t_1, t_2, t_3, t_4, t_40, t_6, t_8, t_m1] at c23
    refine sf_X11_leapsTo  (by first | with_reducible assumption | omega | (simp only [t_0, t_1, t_2, t_3, t_4, t_40, t_6, t_8, t_m1, false_and, true_and, and_true, and_false, or_false, false_or, true_or, or_true, ne_eq, not_false_eq_true, not_true_eq_false]; done) | (simp only [t_0, t_1, t_2, t_3, t_4, t_40, t_6, t_8, t_m1, false_and, true_and, and_true, and_false, or_false, false_or, true_or, or_true, ne_eq, not_false_eq_true, not_true_eq_false]; omega)) (by first | with_reducible assumption | omega | (simp only [t_0, t_1, t_2, t_3, t_4, t_40, t_6, t_8, t_m1, false_and, true_and, and_true, and_false, or_false, false_or, true_or, or_true, ne_eq, not_false_eq_true, not_true_eq_false]; done) | (simp only [t_0, t_1, t_2, t_3, t_4, t_40, t_6, t_8, t_m1, false_and, true_and, and_true, and_false, or_false, false_or, true_or, or_true, ne_eq, not_false_eq_true, not_true_eq_false]; omega)) (by first | with_reducible assumption | omega | (simp only [t_0, t_1, t_2, t_3, t_4, t_40, t_6, t_8, t_m1, false_and, true_and, and_true, and_false, or_false, false_or, true_or, or_true, ne_eq, not_false_eq_true, not_true_eq_false]; done) | (simp only [t_0, t_1, t_2, t_3, t_4, t_40, t_6, t_8, t_m1, false_and, true_and, and_true, and_false, or_false, false_or, true_or, or_true, ne_eq, not_false_eq_true, not_true_eq_false]; omega)) (by first | with_reducible assumption | omega | (simp only [t_0, t_1, t_2, t_3, t_4, t_40, t_6, t_8, t_m1, false_and, true_and, and_true, and_false, or_false, false_or, true_or, or_true, ne_eq, not_false_eq_true, not_true_eq_false]; done) | (simp only [t_0, t_1, t_2, t_3, t_4, t_40, t_6, t_8, t_m1, false_and, true_and, and_true, and_false, or_false, false_or, true_or, or_true, ne_eq, not_false_eq_true, not_true_eq_false]; omega)) (by first | with_reducible assumption | omega | (simp only [t_0, t_1, t_2, t_3, t_4, t_40, t_6, t_8, t_m1, false_and, true_and, and_true, and_false, or_false, false_or, true_or, or_true, ne_eq, not_false_eq_true, not_true_eq_false]; done) | (simp only [t_0, t_1, t_2, t_3, t_4, t_40, t_6, t_8, t_m1, false_and, true_and, and_true, and_false, or_false, false_or, true_or, or_true, ne_eq, not_false_eq_true, not_true_eq_false]; omega)) (by first | with_reducible assumption | omega | (simp only [t_0, t_1, t_2, t_3, t_4, t_40, t_6, t_8, t_m1, false_and, true_and, and_true, and_false, or_false, false_or, true_or, or_true, ne_eq, not_false_eq_true, not_true_eq_false]; done) | (simp only [t_0, t_1, t_2, t_3, t_4, t_40, t_6, t_8, t_m1, false_and, true_and, and_true, and_false, or_false, false_or, true_or, or_true, ne_eq, not_false_eq_true, not_true_eq_false]; omega)) (by first | with_reducible assumption | omega | (simp only [t_0, t_1, t_2, t_3, t_4, t_40, t_6, t_8, t_m1, false_and, true_and, and_true, and_false, or_false, false_or, true_or, or_true, ne_eq, not_false_eq_true, not_true_eq_false]; done) | (simp only [t_0, t_1, t_2, t_3, t_4, t_40, t_6, t_8, t_m1, false_and, true_and, and_true, and_false, or_false, false_or, true_or, or_true, ne_eq, not_false_eq_true, not_true_eq_false]; omega)) (by first | with_reducible assumption | omega | (simp only [t_0, t_1, t_2, t_3, t_4, t_40, t_6, t_8, t_m1, false_and, true_and, and_true, and_false, or_false, false_or, true_or, or_true, ne_eq, not_false_eq_true, not_true_eq_false]; done) | (simp only [t_0, t_1, t_2, t_3, t_4, t_40, t_6, t_8, t_m1, false_and, true_and, and_true, and_false, or_false, false_or, true_or, or_true, ne_eq, not_false_eq_true, not_true_eq_false]; omega)) (fun y24 y25 y26 y27 po28 po29 => ?_)
    try simp only [t_0, t_1, t_2, t_3, t_4, t_40, t_6, t_8, t_m1] at po28
    refine ⟨t_bool (by first | with_reducible assumption | omega | (simp only [t_0, t_1, t_2, t_3, t_4, t_40, t_6, t_8, t_m1, false_and, true_and, and_true, and_false, or_false, false_or, true_or, or_true, ne_eq, not_false_eq_true, not_true_eq_false]; done) | (simp only [t_0, t_1, t_2, t_3, t_4, t_40, t_6, t_8, t_m1, false_and, true_and, and_true, and_false, or_false, false_or, true_or, or_true, ne_eq, not_false_eq_true, not_true_eq_false]; omega)), ?_⟩
    exact hq _ _ _ _ (by first | with_reducible assumption | omega | (simp only [t_0, t_1, t_2, t_3, t_4, t_40, t_6, t_8, t_m1, false_and, true_and, and_true, and_false, or_false, false_or, true_or, or_true, ne_eq, not_false_eq_true, not_true_eq_false]; done) | (simp only [t_0, t_1, t_2, t_3, t_4, t_40, t_6, t_8, t_m1, false_and, true_and, and_true, and_false, or_false, false_or, true_or, or_true, ne_eq, not_false_eq_true, not_true_eq_false]; omega)) (by first | with_reducible assumption | omega | (simp only [t_0, t_1, t_2, t_3, t_4, t_40, t_6, t_8, t_m1, false_and, true_and, and_true, and_false, or_false, false_or, true_or, or_true, ne_eq, not_false_eq_true, not_true_eq_false]; done) | (simp only [t_0, t_1, t_2, t_3, t_4, t_40, t_6, t_8, t_m1, false_and, true_and, and_true, and_false, or_false, false_or, true_or, or_true, ne_eq, not_false_eq_true, not_true_eq_false]; omega))
theorem sl_X11_goesSteps_r0_2 {v0_hares v0_foxes v0_codes n : Int32} {f0_step f0_form f0_fox f0_hare f0_code f0_ofCode : Nat → Int32} {Q : Int32 → (Nat → Int32) → (Nat → Int32) → (Nat → Int32) → Int32 → Int32 → Prop} (a0 : rC v0_codes f0_code f0_ofCode) (a1 : v0_hares.toInt ≤ 6) (a2 : v0_foxes.toInt ≤ 4) (a3 : n.toInt ≤ 8) (hq : ∀ (bg : Int32) (s fc sk : Nat → Int32) (rf dn : Int32), rS v0_hares n s → Q bg s fc sk rf dn) :
    ∀ (k : Nat) (bg : Int32) (s fc sk : Nat → Int32) (rf dn l2 l3 : Int32), rS v0_hares n s → WS f0_step v0_hares n 0 l3.toNatClampNeg l2.toNatClampNeg → 0 ≤ l3.toInt → l3.toInt ≤ l2.toInt → l2.toInt ≤ 200 → l2.toInt - l3.toInt < k → wl_X11_goesSteps_r0_2 v0_hares v0_foxes v0_codes f0_step f0_form f0_fox f0_hare f0_code f0_ofCode Q k bg s fc sk rf dn l2 l3 := by
  intro k
  induction k with
  | zero => intro bg s fc sk rf dn l2 l3 hs hw h0 h1 h2 h3; omega
  | succ k ih =>
    intro bg s fc sk rf dn l2 l3 hs hw h0 h1 h2 h3
    have n3 := t_nat h0
    have n2 := t_nat (x := l2) (by omega)
    refine ⟨fun _ => hq _ _ _ _ _ _ hs, fun c => ⟨fun _ => hq _ _ _ _ _ _ hs, fun _ x3 e3 => ?_⟩⟩
    rw [t_le] at c
    obtain ⟨hb, hd⟩ := WS_head hw (by omega)
    refine ⟨t_in h0 (by omega), fun x4 e4 => ⟨fun c4 => ?_, fun c4 => ?_⟩⟩
    · rw [t_eq, t_4] at c4
      obtain ⟨d1, d2, d3⟩ | ⟨d1, d2⟩ := hd
      · refine ⟨t_in h0 (by omega), fun x6 e6 x7 e7 => ?_⟩
        have q7 : x7.toInt = l3.toInt + 1 := by rw [e7]; exact t_inc (by omega)
        have w7 := t_nat (x := x7) (by omega)
        refine ⟨t_in (by omega) (by omega), fun x8 e8 x9 e9 => ?_⟩
        have q9 : x9.toInt = l3.toInt + 2 := by rw [e9, t_add (by rw [t_2]; omega) (by rw [t_2]; omega), t_2]
        have w9 := t_nat (x := x9) (by omega)
        refine ⟨t_in (by omega) (by omega), fun x10 e10 x11 e11 => ?_⟩
        have q11 : x11.toInt = l3.toInt + 3 := by rw [e11, t_add (by rw [t_3]; omega) (by rw [t_3]; omega), t_3]
        have w11 := t_nat (x := x11) (by omega)
        refine ⟨t_in (by omega) (by omega), fun x12 e12 => ?_⟩
        have d2' := d2
        unfold sOk at d2'
        rw [show l3.toNatClampNeg + 1 = x7.toNatClampNeg by omega, show l3.toNatClampNeg + 2 = x9.toNatClampNeg by omega, show l3.toNatClampNeg + 3 = x11.toNatClampNeg by omega, ← e6, ← e8, ← e10, ← e12] at d2'
        have go : ∀ (bg : Int32) (s fc sk : Nat → Int32) (rf dn x22 : Int32), rS v0_hares n s → x22 = l3 + 4 → wl_X11_goesSteps_r0_2 v0_hares v0_foxes v0_codes f0_step f0_form f0_fox f0_hare f0_code f0_ofCode Q k bg s fc sk rf dn l2 x22 := fun bg s fc sk rf dn x22 hs e22 => by
          have q22 : x22.toInt = l3.toInt + 4 := by rw [e22, t_add (by rw [t_4]; omega) (by rw [t_4]; omega), t_4]
          have w22 := t_nat (x := x22) (by omega)
          exact ih bg s fc sk rf dn l2 x22 hs (by rw [show x22.toNatClampNeg = l3.toNatClampNeg + 4 by omega]; exact d3) (by omega) (by omega) h2 (by omega)
        exact sf_X11_isDone hs a0 a1 a2 a3 d2'.1 d2'.2 (fun r s fc sk _ hs => ⟨fun _ x18 _ x22 e22 => go _ _ _ _ _ _ x22 hs e22, fun _ x19 _ x22 e22 => go _ _ _ _ _ _ x22 hs e22⟩)
      · exfalso; rw [e4] at c4; exact c4 d1
    · rw [t_eq, t_4] at c4
      obtain ⟨d1, d2⟩ | ⟨d1, d2, M, e, d3, d4, d5, d6, d7, d8⟩ := hd
      · exfalso; rw [e4] at c4; exact d1 c4
      · omega
theorem sf_X11_goesSteps_r0 {v0_hares v0_foxes v0_codes n : Int32} {f0_step f0_form f0_fox f0_hare f0_code f0_ofCode : Nat → Int32} {Q : Int32 → (Nat → Int32) → (Nat → Int32) → (Nat → Int32) → Int32 → Int32 → Prop} {v0_begun : Int32} {f0_s f0_facts f0_stack : Nat → Int32} {v0_refusedNow v0_done p1 p2 : Int32} (a0 : rC v0_codes f0_code f0_ofCode) (a1 : v0_hares.toInt ≤ 6) (a2 : v0_foxes.toInt ≤ 4) (a3 : n.toInt ≤ 8) (hs : rS v0_hares n f0_s) (h0 : 0 ≤ p1.toInt) (h1 : p1.toInt ≤ p2.toInt) (h2 : p2.toInt ≤ 200) (hw : WS f0_step v0_hares n 0 p1.toNatClampNeg p2.toNatClampNeg) (hq : ∀ (bg : Int32) (s fc sk : Nat → Int32) (rf dn : Int32), rS v0_hares n s → Q bg s fc sk rf dn) : wq_X11_goesSteps_r0 v0_hares v0_foxes v0_codes f0_step f0_form f0_fox f0_hare f0_code f0_ofCode v0_begun f0_s f0_facts f0_stack v0_refusedNow v0_done p1 p2 Q :=
  ⟨201, sl_X11_goesSteps_r0_2 a0 a1 a2 a3 hq 201 _ _ _ _ _ _ p2 p1 hs hw h0 h1 h2 (by omega)⟩
theorem sl_X11_goesSteps_g_50 {RS : Int32 → Int32 → Int32 → (Nat → Int32) → (Nat → Int32) → (Nat → Int32) → (Nat → Int32) → (Nat → Int32) → (Nat → Int32) → Int32 → (Nat → Int32) → (Nat → Int32) → (Nat → Int32) → Int32 → Int32 → Int32 → Int32 → (Int32 → (Nat → Int32) → (Nat → Int32) → (Nat → Int32) → Int32 → Int32 → Prop) → Prop} {K : Nat} (hKr : 1 ≤ K ∧ K ≤ 6) (hRS : ∀ {v0_hares v0_foxes v0_codes n : Int32} {f0_step f0_form f0_fox f0_hare f0_code f0_ofCode : Nat → Int32} {Q : Int32 → (Nat → Int32) → (Nat → Int32) → (Nat → Int32) → Int32 → Int32 → Prop} {v0_begun : Int32} {f0_s f0_facts f0_stack : Nat → Int32} {v0_refusedNow v0_done p1 p2 : Int32} (a0 : rC v0_codes f0_code f0_ofCode) (a1 : v0_hares.toInt ≤ 6) (a2 : v0_foxes.toInt ≤ 4) (a3 : n.toInt ≤ 8) (hs : rS v0_hares n f0_s) (h0 : 0 ≤ p1.toInt) (h1 : p1.toInt ≤ p2.toInt) (h2 : p2.toInt ≤ 200) (hw : WS f0_step v0_hares n (K - 1) p1.toNatClampNeg p2.toNatClampNeg) (hq : ∀ (bg : Int32) (s fc sk : Nat → Int32) (rf dn : Int32), rS v0_hares n s → Q bg s fc sk rf dn), RS v0_hares v0_foxes v0_codes f0_step f0_form f0_fox f0_hare f0_code f0_ofCode v0_begun f0_s f0_facts f0_stack v0_refusedNow v0_done p1 p2 Q) {v0_hares v0_foxes v0_codes n : Int32} {f0_step f0_form f0_fox f0_hare f0_code f0_ofCode : Nat → Int32} {Q : Int32 → (Nat → Int32) → (Nat → Int32) → (Nat → Int32) → Int32 → Int32 → Prop} {K2 : Int32 → (Nat → Int32) → (Nat → Int32) → (Nat → Int32) → Int32 → Int32 → Int32 → Int32 → Prop} {l2 l3 l4 : Int32} (a0 : rC v0_codes f0_code f0_ofCode) (a1 : v0_hares.toInt ≤ 6) (a2 : v0_foxes.toInt ≤ 4) (a3 : n.toInt ≤ 8) (b0 : 0 ≤ l3.toInt) (b1 : l3.toInt + 4 ≤ 200) (b2 : 0 ≤ l4.toInt) (b3 : l4.toInt ≤ 200) (hc : (f0_step (l3.toNatClampNeg + 1)).toInt ≤ 40) (hw : WS f0_step v0_hares n (K - 1) (l3.toNatClampNeg + 4) l4.toNatClampNeg) (hK : ∀ (bg : Int32) (s fc sk : Nat → Int32) (rf dn : Int32), rS v0_hares n s → K2 bg s fc sk rf dn l2 l4) :
    ∀ (k : Nat) (bg : Int32) (s fc sk : Nat → Int32) (rf dn l5 : Int32), rS v0_hares n s → 0 ≤ l5.toInt → l5.toInt ≤ 41 → 41 - l5.toInt < k → wl_X11_goesSteps_g_50 RS v0_hares v0_foxes v0_codes f0_step f0_form f0_fox f0_hare f0_code f0_ofCode Q K2 k bg s fc sk rf dn l2 l3 l4 l5 := by
  obtain ⟨hKa, hKb⟩ := id hKr
  intro k
  induction k with
  | zero => intro bg s fc sk rf dn l5 hs h0 h1 h2; omega
  | succ k ih =>
    intro bg s fc sk rf dn l5 hs h0 h1 h2 x23 e23
    have n3 := t_nat b0
    have q23 : x23.toInt = l3.toInt + 1 := by rw [e23]; exact t_inc (by omega)
    have w23 := t_nat (x := x23) (by omega)
    refine ⟨t_in (by omega) (by omega), fun x24 e24 => ⟨fun _ => hK _ _ _ _ _ _ hs, fun c => ⟨fun _ => hK _ _ _ _ _ _ hs, fun _ x27 e27 => ?_⟩⟩⟩
    rw [t_le] at c
    have v24 : x24.toInt ≤ 40 := by
      rw [e24, show x23.toNatClampNeg = l3.toNatClampNeg + 1 by omega]; exact hc
    have q27 : x27.toInt = l3.toInt + 4 := by rw [e27, t_add (by rw [t_4]; omega) (by rw [t_4]; omega), t_4]
    have w27 := t_nat (x := x27) (by omega)
    have n4 := t_nat b2
    have hle := WS_le hw
    refine hRS a0 a1 a2 a3 hs (by omega) (by omega) b3 (by rw [show x27.toNatClampNeg = l3.toNatClampNeg + 4 by omega]; exact hw) (fun bg s fc sk rf dn hs x34 e34 => ?_)
    have q34 : x34.toInt = l5.toInt + 1 := by rw [e34]; exact t_inc (by omega)
    exact ih _ _ _ _ _ _ x34 hs (by omega) (by omega) (by omega)
theorem sl_X11_goesSteps_g_2 {RS : Int32 → Int32 → Int32 → (Nat → Int32) → (Nat → Int32) → (Nat → Int32) → (Nat → Int32) → (Nat → Int32) → (Nat → Int32) → Int32 → (Nat → Int32) → (Nat → Int32) → (Nat → Int32) → Int32 → Int32 → Int32 → Int32 → (Int32 → (Nat → Int32) → (Nat → Int32) → (Nat → Int32) → Int32 → Int32 → Prop) → Prop} {K : Nat} (hKr : 1 ≤ K ∧ K ≤ 6) (hRS : ∀ {v0_hares v0_foxes v0_codes n : Int32} {f0_step f0_form f0_fox f0_hare f0_code f0_ofCode : Nat → Int32} {Q : Int32 → (Nat → Int32) → (Nat → Int32) → (Nat → Int32) → Int32 → Int32 → Prop} {v0_begun : Int32} {f0_s f0_facts f0_stack : Nat → Int32} {v0_refusedNow v0_done p1 p2 : Int32} (a0 : rC v0_codes f0_code f0_ofCode) (a1 : v0_hares.toInt ≤ 6) (a2 : v0_foxes.toInt ≤ 4) (a3 : n.toInt ≤ 8) (hs : rS v0_hares n f0_s) (h0 : 0 ≤ p1.toInt) (h1 : p1.toInt ≤ p2.toInt) (h2 : p2.toInt ≤ 200) (hw : WS f0_step v0_hares n (K - 1) p1.toNatClampNeg p2.toNatClampNeg) (hq : ∀ (bg : Int32) (s fc sk : Nat → Int32) (rf dn : Int32), rS v0_hares n s → Q bg s fc sk rf dn), RS v0_hares v0_foxes v0_codes f0_step f0_form f0_fox f0_hare f0_code f0_ofCode v0_begun f0_s f0_facts f0_stack v0_refusedNow v0_done p1 p2 Q) {v0_hares v0_foxes v0_codes n : Int32} {f0_step f0_form f0_fox f0_hare f0_code f0_ofCode : Nat → Int32} {Q : Int32 → (Nat → Int32) → (Nat → Int32) → (Nat → Int32) → Int32 → Int32 → Prop} (a0 : rC v0_codes f0_code f0_ofCode) (a1 : v0_hares.toInt ≤ 6) (a2 : v0_foxes.toInt ≤ 4) (a3 : n.toInt ≤ 8) (hq : ∀ (bg : Int32) (s fc sk : Nat → Int32) (rf dn : Int32), rS v0_hares n s → Q bg s fc sk rf dn) :
    ∀ (k : Nat) (bg : Int32) (s fc sk : Nat → Int32) (rf dn l2 l3 : Int32), rS v0_hares n s → WS f0_step v0_hares n K l3.toNatClampNeg l2.toNatClampNeg → 0 ≤ l3.toInt → l3.toInt ≤ l2.toInt → l2.toInt ≤ 200 → l2.toInt - l3.toInt < k → wl_X11_goesSteps_g_2 RS v0_hares v0_foxes v0_codes f0_step f0_form f0_fox f0_hare f0_code f0_ofCode Q k bg s fc sk rf dn l2 l3 := by
  obtain ⟨hKa, hKb⟩ := id hKr
  intro k
  induction k with
  | zero => intro bg s fc sk rf dn l2 l3 hs hw h0 h1 h2 h3; omega
  | succ k ih =>
    intro bg s fc sk rf dn l2 l3 hs hw h0 h1 h2 h3
    have n3 := t_nat h0
    have n2 := t_nat (x := l2) (by omega)
    refine ⟨fun _ => hq _ _ _ _ _ _ hs, fun c => ⟨fun _ => hq _ _ _ _ _ _ hs, fun _ x3 e3 => ?_⟩⟩
    rw [t_le] at c
    obtain ⟨hb, hd⟩ := WS_head hw (by omega)
    refine ⟨t_in h0 (by omega), fun x4 e4 => ⟨fun c4 => ?_, fun c4 => ?_⟩⟩
    · rw [t_eq, t_4] at c4
      obtain ⟨d1, d2, d3⟩ | ⟨d1, d2⟩ := hd
      · refine ⟨t_in h0 (by omega), fun x6 e6 x7 e7 => ?_⟩
        have q7 : x7.toInt = l3.toInt + 1 := by rw [e7]; exact t_inc (by omega)
        have w7 := t_nat (x := x7) (by omega)
        refine ⟨t_in (by omega) (by omega), fun x8 e8 x9 e9 => ?_⟩
        have q9 : x9.toInt = l3.toInt + 2 := by rw [e9, t_add (by rw [t_2]; omega) (by rw [t_2]; omega), t_2]
        have w9 := t_nat (x := x9) (by omega)
        refine ⟨t_in (by omega) (by omega), fun x10 e10 x11 e11 => ?_⟩
        have q11 : x11.toInt = l3.toInt + 3 := by rw [e11, t_add (by rw [t_3]; omega) (by rw [t_3]; omega), t_3]
        have w11 := t_nat (x := x11) (by omega)
        refine ⟨t_in (by omega) (by omega), fun x12 e12 => ?_⟩
        have d2' := d2
        unfold sOk at d2'
        rw [show l3.toNatClampNeg + 1 = x7.toNatClampNeg by omega, show l3.toNatClampNeg + 2 = x9.toNatClampNeg by omega, show l3.toNatClampNeg + 3 = x11.toNatClampNeg by omega, ← e6, ← e8, ← e10, ← e12] at d2'
        have go : ∀ (bg : Int32) (s fc sk : Nat → Int32) (rf dn x22 : Int32), rS v0_hares n s → x22 = l3 + 4 → wl_X11_goesSteps_g_2 RS v0_hares v0_foxes v0_codes f0_step f0_form f0_fox f0_hare f0_code f0_ofCode Q k bg s fc sk rf dn l2 x22 := fun bg s fc sk rf dn x22 hs e22 => by
          have q22 : x22.toInt = l3.toInt + 4 := by rw [e22, t_add (by rw [t_4]; omega) (by rw [t_4]; omega), t_4]
          have w22 := t_nat (x := x22) (by omega)
          exact ih bg s fc sk rf dn l2 x22 hs (by rw [show x22.toNatClampNeg = l3.toNatClampNeg + 4 by omega]; exact d3) (by omega) (by omega) h2 (by omega)
        exact sf_X11_isDone hs a0 a1 a2 a3 d2'.1 d2'.2 (fun r s fc sk _ hs => ⟨fun _ x18 _ x22 e22 => go _ _ _ _ _ _ x22 hs e22, fun _ x19 _ x22 e22 => go _ _ _ _ _ _ x22 hs e22⟩)
      · exfalso; rw [e4] at c4; exact c4 d1
    · rw [t_eq, t_4] at c4
      obtain ⟨d1, d2⟩ | ⟨d1, d2, M, e, d3, d4, d5, d6, d7, d8⟩ := hd
      · exfalso; rw [e4] at c4; exact d1 c4
      · have hM : M = (K - 1) := by omega
        rw [hM] at d7
        intro x20 e20
        have q20 : x20.toInt = l3.toInt + 2 := by rw [e20, t_add (by rw [t_2]; omega) (by rw [t_2]; omega), t_2]
        have w20 := t_nat (x := x20) (by omega)
        refine ⟨t_in (by omega) (by omega), fun x21 e21 => ?_⟩
        have q21 : x21.toInt = e := by rw [e21, show x20.toNatClampNeg = l3.toNatClampNeg + 2 by omega]; exact d4
        have w21 := t_nat (x := x21) (by omega)
        refine ⟨42, sl_X11_goesSteps_g_50 hKr hRS a0 a1 a2 a3 h0 (by omega) (by omega) (by omega) d2 (by rw [show x21.toNatClampNeg = e by omega]; exact d7) (fun bg s fc sk rf dn hs => ?_) 42 _ _ _ _ _ _ 0 hs (by decide) (by decide) (by decide)⟩
        exact ih _ _ _ _ _ _ l2 x21 hs (by rw [show x21.toNatClampNeg = e by omega]; exact d8) (by omega) (by omega) h2 (by omega)
theorem sf_X11_goesSteps_g {RS : Int32 → Int32 → Int32 → (Nat → Int32) → (Nat → Int32) → (Nat → Int32) → (Nat → Int32) → (Nat → Int32) → (Nat → Int32) → Int32 → (Nat → Int32) → (Nat → Int32) → (Nat → Int32) → Int32 → Int32 → Int32 → Int32 → (Int32 → (Nat → Int32) → (Nat → Int32) → (Nat → Int32) → Int32 → Int32 → Prop) → Prop} {K : Nat} (hKr : 1 ≤ K ∧ K ≤ 6) (hRS : ∀ {v0_hares v0_foxes v0_codes n : Int32} {f0_step f0_form f0_fox f0_hare f0_code f0_ofCode : Nat → Int32} {Q : Int32 → (Nat → Int32) → (Nat → Int32) → (Nat → Int32) → Int32 → Int32 → Prop} {v0_begun : Int32} {f0_s f0_facts f0_stack : Nat → Int32} {v0_refusedNow v0_done p1 p2 : Int32} (a0 : rC v0_codes f0_code f0_ofCode) (a1 : v0_hares.toInt ≤ 6) (a2 : v0_foxes.toInt ≤ 4) (a3 : n.toInt ≤ 8) (hs : rS v0_hares n f0_s) (h0 : 0 ≤ p1.toInt) (h1 : p1.toInt ≤ p2.toInt) (h2 : p2.toInt ≤ 200) (hw : WS f0_step v0_hares n (K - 1) p1.toNatClampNeg p2.toNatClampNeg) (hq : ∀ (bg : Int32) (s fc sk : Nat → Int32) (rf dn : Int32), rS v0_hares n s → Q bg s fc sk rf dn), RS v0_hares v0_foxes v0_codes f0_step f0_form f0_fox f0_hare f0_code f0_ofCode v0_begun f0_s f0_facts f0_stack v0_refusedNow v0_done p1 p2 Q) {v0_hares v0_foxes v0_codes n : Int32} {f0_step f0_form f0_fox f0_hare f0_code f0_ofCode : Nat → Int32} {Q : Int32 → (Nat → Int32) → (Nat → Int32) → (Nat → Int32) → Int32 → Int32 → Prop} {v0_begun : Int32} {f0_s f0_facts f0_stack : Nat → Int32} {v0_refusedNow v0_done p1 p2 : Int32} (a0 : rC v0_codes f0_code f0_ofCode) (a1 : v0_hares.toInt ≤ 6) (a2 : v0_foxes.toInt ≤ 4) (a3 : n.toInt ≤ 8) (hs : rS v0_hares n f0_s) (h0 : 0 ≤ p1.toInt) (h1 : p1.toInt ≤ p2.toInt) (h2 : p2.toInt ≤ 200) (hw : WS f0_step v0_hares n K p1.toNatClampNeg p2.toNatClampNeg) (hq : ∀ (bg : Int32) (s fc sk : Nat → Int32) (rf dn : Int32), rS v0_hares n s → Q bg s fc sk rf dn) : wq_X11_goesSteps_g RS v0_hares v0_foxes v0_codes f0_step f0_form f0_fox f0_hare f0_code f0_ofCode v0_begun f0_s f0_facts f0_stack v0_refusedNow v0_done p1 p2 Q :=
  ⟨201, sl_X11_goesSteps_g_2 hKr hRS a0 a1 a2 a3 hq 201 _ _ _ _ _ _ p2 p1 hs hw h0 h1 h2 (by omega)⟩
theorem sf_X11_goesSteps_r1 {v0_hares v0_foxes v0_codes n : Int32} {f0_step f0_form f0_fox f0_hare f0_code f0_ofCode : Nat → Int32} {Q : Int32 → (Nat → Int32) → (Nat → Int32) → (Nat → Int32) → Int32 → Int32 → Prop} {v0_begun : Int32} {f0_s f0_facts f0_stack : Nat → Int32} {v0_refusedNow v0_done p1 p2 : Int32} (a0 : rC v0_codes f0_code f0_ofCode) (a1 : v0_hares.toInt ≤ 6) (a2 : v0_foxes.toInt ≤ 4) (a3 : n.toInt ≤ 8) (hs : rS v0_hares n f0_s) (h0 : 0 ≤ p1.toInt) (h1 : p1.toInt ≤ p2.toInt) (h2 : p2.toInt ≤ 200) (hw : WS f0_step v0_hares n 1 p1.toNatClampNeg p2.toNatClampNeg) (hq : ∀ (bg : Int32) (s fc sk : Nat → Int32) (rf dn : Int32), rS v0_hares n s → Q bg s fc sk rf dn) : wq_X11_goesSteps_r1 v0_hares v0_foxes v0_codes f0_step f0_form f0_fox f0_hare f0_code f0_ofCode v0_begun f0_s f0_facts f0_stack v0_refusedNow v0_done p1 p2 Q :=
  sf_X11_goesSteps_g (K := 1) (by decide) sf_X11_goesSteps_r0 a0 a1 a2 a3 hs h0 h1 h2 hw hq
theorem sf_X11_goesSteps_r2 {v0_hares v0_foxes v0_codes n : Int32} {f0_step f0_form f0_fox f0_hare f0_code f0_ofCode : Nat → Int32} {Q : Int32 → (Nat → Int32) → (Nat → Int32) → (Nat → Int32) → Int32 → Int32 → Prop} {v0_begun : Int32} {f0_s f0_facts f0_stack : Nat → Int32} {v0_refusedNow v0_done p1 p2 : Int32} (a0 : rC v0_codes f0_code f0_ofCode) (a1 : v0_hares.toInt ≤ 6) (a2 : v0_foxes.toInt ≤ 4) (a3 : n.toInt ≤ 8) (hs : rS v0_hares n f0_s) (h0 : 0 ≤ p1.toInt) (h1 : p1.toInt ≤ p2.toInt) (h2 : p2.toInt ≤ 200) (hw : WS f0_step v0_hares n 2 p1.toNatClampNeg p2.toNatClampNeg) (hq : ∀ (bg : Int32) (s fc sk : Nat → Int32) (rf dn : Int32), rS v0_hares n s → Q bg s fc sk rf dn) : wq_X11_goesSteps_r2 v0_hares v0_foxes v0_codes f0_step f0_form f0_fox f0_hare f0_code f0_ofCode v0_begun f0_s f0_facts f0_stack v0_refusedNow v0_done p1 p2 Q :=
  sf_X11_goesSteps_g (K := 2) (by decide) sf_X11_goesSteps_r1 a0 a1 a2 a3 hs h0 h1 h2 hw hq
theorem sf_X11_goesSteps_r3 {v0_hares v0_foxes v0_codes n : Int32} {f0_step f0_form f0_fox f0_hare f0_code f0_ofCode : Nat → Int32} {Q : Int32 → (Nat → Int32) → (Nat → Int32) → (Nat → Int32) → Int32 → Int32 → Prop} {v0_begun : Int32} {f0_s f0_facts f0_stack : Nat → Int32} {v0_refusedNow v0_done p1 p2 : Int32} (a0 : rC v0_codes f0_code f0_ofCode) (a1 : v0_hares.toInt ≤ 6) (a2 : v0_foxes.toInt ≤ 4) (a3 : n.toInt ≤ 8) (hs : rS v0_hares n f0_s) (h0 : 0 ≤ p1.toInt) (h1 : p1.toInt ≤ p2.toInt) (h2 : p2.toInt ≤ 200) (hw : WS f0_step v0_hares n 3 p1.toNatClampNeg p2.toNatClampNeg) (hq : ∀ (bg : Int32) (s fc sk : Nat → Int32) (rf dn : Int32), rS v0_hares n s → Q bg s fc sk rf dn) : wq_X11_goesSteps_r3 v0_hares v0_foxes v0_codes f0_step f0_form f0_fox f0_hare f0_code f0_ofCode v0_begun f0_s f0_facts f0_stack v0_refusedNow v0_done p1 p2 Q :=
  sf_X11_goesSteps_g (K := 3) (by decide) sf_X11_goesSteps_r2 a0 a1 a2 a3 hs h0 h1 h2 hw hq
theorem sf_X11_goesSteps_r4 {v0_hares v0_foxes v0_codes n : Int32} {f0_step f0_form f0_fox f0_hare f0_code f0_ofCode : Nat → Int32} {Q : Int32 → (Nat → Int32) → (Nat → Int32) → (Nat → Int32) → Int32 → Int32 → Prop} {v0_begun : Int32} {f0_s f0_facts f0_stack : Nat → Int32} {v0_refusedNow v0_done p1 p2 : Int32} (a0 : rC v0_codes f0_code f0_ofCode) (a1 : v0_hares.toInt ≤ 6) (a2 : v0_foxes.toInt ≤ 4) (a3 : n.toInt ≤ 8) (hs : rS v0_hares n f0_s) (h0 : 0 ≤ p1.toInt) (h1 : p1.toInt ≤ p2.toInt) (h2 : p2.toInt ≤ 200) (hw : WS f0_step v0_hares n 4 p1.toNatClampNeg p2.toNatClampNeg) (hq : ∀ (bg : Int32) (s fc sk : Nat → Int32) (rf dn : Int32), rS v0_hares n s → Q bg s fc sk rf dn) : wq_X11_goesSteps_r4 v0_hares v0_foxes v0_codes f0_step f0_form f0_fox f0_hare f0_code f0_ofCode v0_begun f0_s f0_facts f0_stack v0_refusedNow v0_done p1 p2 Q :=
  sf_X11_goesSteps_g (K := 4) (by decide) sf_X11_goesSteps_r3 a0 a1 a2 a3 hs h0 h1 h2 hw hq
theorem sf_X11_goesSteps_r5 {v0_hares v0_foxes v0_codes n : Int32} {f0_step f0_form f0_fox f0_hare f0_code f0_ofCode : Nat → Int32} {Q : Int32 → (Nat → Int32) → (Nat → Int32) → (Nat → Int32) → Int32 → Int32 → Prop} {v0_begun : Int32} {f0_s f0_facts f0_stack : Nat → Int32} {v0_refusedNow v0_done p1 p2 : Int32} (a0 : rC v0_codes f0_code f0_ofCode) (a1 : v0_hares.toInt ≤ 6) (a2 : v0_foxes.toInt ≤ 4) (a3 : n.toInt ≤ 8) (hs : rS v0_hares n f0_s) (h0 : 0 ≤ p1.toInt) (h1 : p1.toInt ≤ p2.toInt) (h2 : p2.toInt ≤ 200) (hw : WS f0_step v0_hares n 5 p1.toNatClampNeg p2.toNatClampNeg) (hq : ∀ (bg : Int32) (s fc sk : Nat → Int32) (rf dn : Int32), rS v0_hares n s → Q bg s fc sk rf dn) : wq_X11_goesSteps_r5 v0_hares v0_foxes v0_codes f0_step f0_form f0_fox f0_hare f0_code f0_ofCode v0_begun f0_s f0_facts f0_stack v0_refusedNow v0_done p1 p2 Q :=
  sf_X11_goesSteps_g (K := 5) (by decide) sf_X11_goesSteps_r4 a0 a1 a2 a3 hs h0 h1 h2 hw hq
theorem sf_X11_goesSteps_r6 {v0_hares v0_foxes v0_codes n : Int32} {f0_step f0_form f0_fox f0_hare f0_code f0_ofCode : Nat → Int32} {Q : Int32 → (Nat → Int32) → (Nat → Int32) → (Nat → Int32) → Int32 → Int32 → Prop} {v0_begun : Int32} {f0_s f0_facts f0_stack : Nat → Int32} {v0_refusedNow v0_done p1 p2 : Int32} (a0 : rC v0_codes f0_code f0_ofCode) (a1 : v0_hares.toInt ≤ 6) (a2 : v0_foxes.toInt ≤ 4) (a3 : n.toInt ≤ 8) (hs : rS v0_hares n f0_s) (h0 : 0 ≤ p1.toInt) (h1 : p1.toInt ≤ p2.toInt) (h2 : p2.toInt ≤ 200) (hw : WS f0_step v0_hares n 6 p1.toNatClampNeg p2.toNatClampNeg) (hq : ∀ (bg : Int32) (s fc sk : Nat → Int32) (rf dn : Int32), rS v0_hares n s → Q bg s fc sk rf dn) : wq_X11_goesSteps_r6 v0_hares v0_foxes v0_codes f0_step f0_form f0_fox f0_hare f0_code f0_ofCode v0_begun f0_s f0_facts f0_stack v0_refusedNow v0_done p1 p2 Q :=
  sf_X11_goesSteps_g (K := 6) (by decide) sf_X11_goesSteps_r5 a0 a1 a2 a3 hs h0 h1 h2 hw hq
end
section
/-- a step laid down -/
def tS (b : Int32) (old new : Nat → Int32) (i p1 p2 p3 p4 : Int32) : Prop := b.toInt = -1 → (new i.toNatClampNeg = p1 ∧ new (i.toNatClampNeg + 1) = p2 ∧ new (i.toNatClampNeg + 2) = p3 ∧ new (i.toNatClampNeg + 3) = p4) ∧ ∀ j : Nat, (j : Int) < i.toInt → new j = old j
/-- steps read from a place on -/
def stG (b : Int32) (old new : Nat → Int32) (h n : Int32) (L : Nat) (i k : Int32) : Prop := b.toInt = -1 → WS new h n L i.toNatClampNeg k.toNatClampNeg ∧ ∀ j : Nat, (j : Int) < i.toInt → new j = old j
theorem stG_bad {b i k h n : Int32} {old new : Nat → Int32} {L : Nat} (e : b.toInt ≠ -1) : stG b old new h n L i k := fun z => absurd z e
theorem stG_one {b c i k h n p1 p2 p3 p4 : Int32} {old new : Nat → Int32} {L : Nat} (t : tS b old new i p1 p2 p3 p4) (q : (c.toInt ≠ -1 ∨ b.toInt = -1) ∧ (c.toInt ≠ -1 ∨ (k.toInt = i.toInt + 4 ∧ 0 ≤ i.toInt ∧ p1.toInt ≠ 4 ∧ (p1.toInt ≠ 0 ∨ (0 ≤ p2.toInt ∧ p2.toInt < h.toInt ∧ 0 ≤ p3.toInt ∧ p3.toInt < n.toInt)) ∧ ((p1.toInt ≠ 1 ∧ p1.toInt ≠ 2) ∨ (0 ≤ p2.toInt ∧ p2.toInt < h.toInt ∧ 0 ≤ p3.toInt ∧ p3.toInt < h.toInt ∧ 0 ≤ p4.toInt))))) : stG c old new h n L i k := fun z => by
  obtain ⟨⟨t1, t2, t3, t4⟩, t5⟩ := t (by omega)
  obtain ⟨q1, q2, q3, q4, q5⟩ := q.2.resolve_left (by omega)
  have n0 := t_nat q2
  have nk := t_nat (x := k) (by omega)
  refine ⟨?_, t5⟩
  rw [show k.toNatClampNeg = i.toNatClampNeg + 4 by omega]
  refine WS_one ?_ ?_
  · rw [t1]; exact q3
  · unfold sOk
    rw [t1, t2, t3, t4]; exact ⟨q4, q5⟩
/-- the inside of a loop told so far -/
def agG (b : Int32) (old new : Nat → Int32) (h n : Int32) (L : Nat) (i k : Int32) : Prop := b.toInt = -1 → (((new i.toNatClampNeg).toInt = 4 ∧ (new (i.toNatClampNeg + 1)).toInt ≤ 40) ∧ (0 ≤ i.toInt ∧ 0 ≤ k.toInt)) ∧ WS new h n L (i.toNatClampNeg + 4) k.toNatClampNeg ∧ ∀ j : Nat, (j : Int) < i.toInt → new j = old j
theorem agG_bad {b i k h n : Int32} {old new : Nat → Int32} {L : Nat} (e : b.toInt ≠ -1) : agG b old new h n L i k := fun z => absurd z e
theorem agG_begin {b c i k h n p1 p2 p3 p4 : Int32} {old new : Nat → Int32} {L : Nat} (t : tS b old new i p1 p2 p3 p4) (q : (c.toInt ≠ -1 ∨ b.toInt = -1) ∧ (c.toInt ≠ -1 ∨ (k.toInt = i.toInt + 4 ∧ 0 ≤ i.toInt ∧ p1.toInt = 4 ∧ p2.toInt ≤ 40))) : agG c old new h n L i k := fun z => by
  obtain ⟨⟨t1, t2, _, _⟩, t5⟩ := t (by omega)
  obtain ⟨q1, q2, q3, q4⟩ := q.2.resolve_left (by omega)
  have n0 := t_nat q2
  have nk := t_nat (x := k) (by omega)
  refine ⟨⟨by rw [t1, t2]; exact ⟨q3, q4⟩, by omega⟩, ?_, t5⟩
  rw [show k.toNatClampNeg = i.toNatClampNeg + 4 by omega]; exact WS_nil
theorem agG_step {b c i k m h n : Int32} {old new nu : Nat → Int32} {L : Nat} (a : agG b old new h n L i k) (s : stG c new nu h n L k m) (q : (c.toInt ≠ -1 ∨ b.toInt = -1) ∧ (c.toInt ≠ -1 ∨ 0 ≤ m.toInt)) : agG c old nu h n L i m := fun z => by
  obtain ⟨⟨⟨a1, a2⟩, a3, a4⟩, a5, a6⟩ := a (by omega)
  obtain ⟨s1, s2⟩ := s z
  have hl := WS_le a5
  have ni := t_nat a3
  have nk := t_nat a4
  refine ⟨⟨?_, by omega⟩, WS_app (WS_congr a5 (fun j _ j1 => s2 j (by omega))) s1, fun j hj => ?_⟩
  · rw [s2 _ (by omega), s2 _ (by omega)]; exact ⟨a1, a2⟩
  · rw [s2 j (by omega)]; exact a6 j hj
theorem agG_end {b c i k x h n : Int32} {old new nu : Nat → Int32} {L : Nat} (a : agG b old new h n L i k) (e : nu = upd new x.toNatClampNeg k) (q : (c.toInt ≠ -1 ∨ b.toInt = -1) ∧ (c.toInt ≠ -1 ∨ x.toInt = i.toInt + 2)) : stG c old nu h n (L + 1) i k := fun z => by
  obtain ⟨⟨⟨a1, a2⟩, a3, a4⟩, a5, a6⟩ := a (by omega)
  have hl := WS_le a5
  have ni := t_nat a3
  have nk := t_nat a4
  have hx := q.2.resolve_left (by omega)
  have nx := t_nat (x := x) (by omega)
  refine ⟨WS_again ?_ ?_ ?_ (WS_congr a5 (fun j j0 _ => by rw [e, pk_un (by omega)])), fun j hj => by rw [e, pk_un (by omega)]; exact a6 j hj⟩
  · rw [e, pk_un (by omega)]; exact a1
  · rw [e, pk_un (by omega)]; exact a2
  · rw [e, show i.toNatClampNeg + 2 = x.toNatClampNeg by omega, pk_us]; omega
/-- the work read so far -/
def wkG (b : Int32) (st : Nat → Int32) (h n k : Int32) : Prop := b.toInt = -1 → WS st h n 6 0 k.toNatClampNeg
theorem wkG_zero {b k h n : Int32} {st : Nat → Int32} (e : k.toInt = 0) : wkG b st h n k := fun _ => by
  rw [t_clamp (k := 0) (by omega)]; exact WS_nil
theorem wkG_step {b c k m h n : Int32} {st su : Nat → Int32} (a : wkG b st h n k) (s : stG c st su h n 6 k m) (q : (c.toInt ≠ -1 ∨ b.toInt = -1) ∧ (c.toInt ≠ -1 ∨ 0 ≤ k.toInt)) : wkG c su h n m := fun z => by
  obtain ⟨s1, s2⟩ := s z
  have nk := t_nat (x := k) (by omega)
  exact WS_app (WS_congr (a (by omega)) (fun j _ j1 => s2 j (by omega))) s1
theorem wk_copy {b k h n : Int32} {st t y : Nat → Int32} (a : wkG b st h n k) (e : ∀ j : Nat, t j = if (j : Int) < k.toInt then st j else y j) (q : b.toInt = -1 ∧ 0 ≤ k.toInt) : WS t h n 6 (0 : Int32).toNatClampNeg k.toNatClampNeg := by
  have nk := t_nat q.2
  exact WS_congr (a q.1) (fun j _ j1 => by rw [e j, if_pos (by omega)])
/-- a row of the past being laid -/
def uQ (past now : Nat → Int32) (w i : Int32) : Prop := ∀ j : Nat, (j : Int) < i.toInt → past (68 * w.toNatClampNeg + j) = now j
theorem uQ_zero {p f : Nat → Int32} {w : Int32} : uQ p f w 0 := fun j hj => by rw [t_0] at hj; omega
theorem uQ_step {p f g : Nat → Int32} {w i x v y : Int32} (u : uQ p f w i) (ev : v = f i.toNatClampNeg) (e : g = upd p x.toNatClampNeg v) (k : x.toInt = 68 * w.toInt + i.toInt ∧ 0 ≤ w.toInt ∧ 0 ≤ i.toInt ∧ y.toInt = i.toInt + 1) : uQ g f w y := fun j hj => by
  have h1 := t_nat (x := w) (by omega)
  have h2 := t_nat (x := i) (by omega)
  have h3 := t_nat (x := x) (by omega)
  rw [e]
  by_cases z : j = i.toNatClampNeg
  · rw [z, show 68 * w.toNatClampNeg + i.toNatClampNeg = x.toNatClampNeg by omega, pk_us, ev]
  · rw [pk_un (by omega)]; exact u j (by omega)
theorem rPast_lay {p g : Nat → Int32} {w h n x v : Int32} (q : rPast w h n p) (e : g = upd p x.toNatClampNeg v) (k : 68 * w.toInt ≤ x.toInt) : rPast w h n g := by
  have hw := q.1
  have hx := t_nat (x := x) (by omega)
  refine ⟨hw, fun r hr => rS_same (q.2 r hr) (fun j hj => ?_)⟩
  show g (68 * r + j) = p (68 * r + j)
  rw [e, pk_un (by omega)]
theorem rPast_more {p f : Nat → Int32} {w v h n i : Int32} (q : rPast w h n p) (u : uQ p f w i) (s : rS h n f) (k : 68 ≤ i.toInt ∧ v.toInt = w.toInt + 1 ∧ w.toInt < 16) : rPast v h n p := by
  have hw := q.1
  have n0 := t_nat hw.1
  refine ⟨by omega, fun r hr => ?_⟩
  by_cases z : r = w.toNatClampNeg
  · rw [z]; exact rS_same s (fun j hj => u j (by omega))
  · exact q.2 r (by omega)
theorem rS_68 {h n : Int32} {f t y : Nat → Int32} (q : rS h n f) (e : ∀ j : Nat, t j = if (j : Int) < 68 then f j else y j) : rS h n t := rS_same q (fun j hj => by rw [e j, if_pos (by omega)])
theorem sf_X11_tellsStep {v0_bad : Int32} {f0_newStep : Nat → Int32} {v0_newSteps p1 p2 p3 p4 : Int32} {Q : (Nat → Int32) → Int32 → Prop} (a0 : v0_bad.toInt ≠ -1 ∨ (0 ≤ v0_newSteps.toInt ∧ v0_newSteps.toInt + 4 ≤ 200)) (hq : ∀ (newStep : Nat → Int32) (newSteps : Int32), (v0_bad.toInt ≠ -1 ∨ newSteps.toInt = v0_newSteps.toInt + 4) → tS v0_bad f0_newStep newStep v0_newSteps p1 p2 p3 p4 → Q newStep newSteps) : wq_X11_tellsStep v0_bad f0_newStep v0_newSteps p1 p2 p3 p4 Q := by
  refine sf_X11_fine (fun r p => ⟨fun c => ?_, fun c => ?_⟩)
  · rw [t_eq, t_0] at c
    have hb : v0_bad.toInt = -1 := by omega
    have n0 := t_nat (x := v0_newSteps) (by omega)
    refine ⟨t_in (by omega) (by omega), fun f3 e3 x4 e4 => ?_⟩
    have q4 : x4.toInt = v0_newSteps.toInt + 1 := by rw [e4]; exact t_inc (by omega)
    have w4 := t_nat (x := x4) (by omega)
    refine ⟨t_in (by omega) (by omega), fun f5 e5 x6 e6 => ?_⟩
    have q6 : x6.toInt = v0_newSteps.toInt + 2 := by rw [e6, t_add (by rw [t_2]; omega) (by rw [t_2]; omega), t_2]
    have w6 := t_nat (x := x6) (by omega)
    refine ⟨t_in (by omega) (by omega), fun f7 e7 x8 e8 => ?_⟩
    have q8 : x8.toInt = v0_newSteps.toInt + 3 := by rw [e8, t_add (by rw [t_3]; omega) (by rw [t_3]; omega), t_3]
    have w8 := t_nat (x := x8) (by omega)
    refine ⟨t_in (by omega) (by omega), fun f9 e9 x10 e10 => ?_⟩
    have q10 : x10.toInt = v0_newSteps.toInt + 4 := by rw [e10, t_add (by rw [t_4]; omega) (by rw [t_4]; omega), t_4]
    refine hq f9 x10 (Or.inr q10) (fun _ => ⟨⟨?_, ?_, ?_, ?_⟩, fun j hj => ?_⟩)
    · rw [e9, pk_un (by omega), e7, pk_un (by omega), e5, pk_un (by omega), e3, pk_us]
    · rw [e9, pk_un (by omega), e7, pk_un (by omega), e5, show v0_newSteps.toNatClampNeg + 1 = x4.toNatClampNeg by omega, pk_us]
    · rw [e9, pk_un (by omega), e7, show v0_newSteps.toNatClampNeg + 2 = x6.toNatClampNeg by omega, pk_us]
    · rw [e9, show v0_newSteps.toNatClampNeg + 3 = x8.toNatClampNeg by omega, pk_us]
    · rw [e9, pk_un (by omega), e7, pk_un (by omega), e5, pk_un (by omega), e3, pk_un (by omega)]
  · rw [t_eq, t_0] at c
    exact hq _ _ (Or.inl (by omega)) (fun z => by omega)
end
