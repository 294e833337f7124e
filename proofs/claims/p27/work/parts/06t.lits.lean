theorem t_12 : (12 : Int32).toInt = 12 := by decide
theorem t_30 : (30 : Int32).toInt = 30 := by decide
theorem t_31 : (31 : Int32).toInt = 31 := by decide
theorem t_36 : (36 : Int32).toInt = 36 := by decide
theorem t_66 : (66 : Int32).toInt = 66 := by decide
theorem t_67 : (67 : Int32).toInt = 67 := by decide
theorem rS_def : True := trivial
/-- the reference's row of a March: where each hare sits, the debts -/
def rS (h n : Int32) (s : Nat → Int32) : Prop := (h.toInt ≤ 6 ∧ 0 ≤ n.toInt ∧ n.toInt ≤ 8) ∧ (∀ j : Nat, (j : Int) < h.toInt → -1 ≤ (s j).toInt ∧ (s j).toInt < n.toInt) ∧ (∀ j : Nat, 30 ≤ j → j < 66 → 0 ≤ (s j).toInt ∧ (s j).toInt ≤ 99)
theorem rS_sit {h n x : Int32} {s : Nat → Int32} (hs : rS h n s) (x0 : 0 ≤ x.toInt) (x1 : x.toInt < h.toInt) : -1 ≤ (s x.toNatClampNeg).toInt ∧ (s x.toNatClampNeg).toInt < n.toInt ∧ n.toInt ≤ 8 := by
  have e := t_nat x0
  have g := hs.2.1 x.toNatClampNeg (by omega)
  exact ⟨g.1, g.2, hs.1.2.2⟩
theorem rS_debt {h n x : Int32} {s : Nat → Int32} (hs : rS h n s) (x0 : 30 ≤ x.toInt) (x1 : x.toInt < 66) : 0 ≤ (s x.toNatClampNeg).toInt ∧ (s x.toNatClampNeg).toInt ≤ 99 := by
  have e := t_nat (x := x) (by omega)
  exact hs.2.2 x.toNatClampNeg (by omega) (by omega)
theorem rS_upd {h n x v : Int32} {s : Nat → Int32} (hs : rS h n s) (x0 : 0 ≤ x.toInt) (h1 : 6 ≤ x.toInt ∨ v.toInt = -1 ∨ (0 ≤ v.toInt ∧ v.toInt < n.toInt)) (h2 : x.toInt < 30 ∨ 66 ≤ x.toInt ∨ (0 ≤ v.toInt ∧ v.toInt ≤ 99)) : rS h n (upd s x.toNatClampNeg v) := by
  have e := t_nat x0
  obtain ⟨⟨g1, g2, g3⟩, g4, g5⟩ := hs
  refine ⟨⟨g1, g2, g3⟩, fun j hj => ?_, fun j j0 j1 => ?_⟩
  · by_cases z : j = x.toNatClampNeg
    · rw [z, pk_us]; omega
    · rw [pk_un z]; exact g4 j hj
  · by_cases z : j = x.toNatClampNeg
    · rw [z, pk_us]; omega
    · rw [pk_un z]; exact g5 j j0 j1
theorem rS_same {h n : Int32} {s t : Nat → Int32} (hs : rS h n s) (e : ∀ j : Nat, j < 68 → t j = s j) : rS h n t := by
  obtain ⟨⟨g1, g2, g3⟩, g4, g5⟩ := hs
  exact ⟨⟨g1, g2, g3⟩, fun j hj => by rw [e j (by omega)]; exact g4 j hj, fun j j0 j1 => by rw [e j (by omega)]; exact g5 j j0 j1⟩
theorem t_bool {r : Int32} (h : r.toInt = 0 ∨ r.toInt = 1) : narrow .boolean (.int r) = .int r := by
  rcases h with h | h
  · have e : r = 0 := t_eq.mpr (h.trans t_0.symm)
    rw [e]; rfl
  · have e : r = 1 := t_eq.mpr (h.trans t_1.symm)
    rw [e]; rfl
