theorem t_10000 : (10000 : Int32).toInt = 10000 := by decide
theorem t_11 : (11 : Int32).toInt = 11 := by decide
theorem t_12 : (12 : Int32).toInt = 12 := by decide
theorem t_122 : (122 : Int32).toInt = 122 := by decide
theorem t_18 : (18 : Int32).toInt = 18 := by decide
theorem t_200 : (200 : Int32).toInt = 200 := by decide
theorem t_255 : (255 : Int32).toInt = 255 := by decide
theorem t_30 : (30 : Int32).toInt = 30 := by decide
theorem t_31 : (31 : Int32).toInt = 31 := by decide
theorem t_32 : (32 : Int32).toInt = 32 := by decide
theorem t_36 : (36 : Int32).toInt = 36 := by decide
theorem t_37 : (37 : Int32).toInt = 37 := by decide
theorem t_40 : (40 : Int32).toInt = 40 := by decide
theorem t_41 : (41 : Int32).toInt = 41 := by decide
theorem t_42 : (42 : Int32).toInt = 42 := by decide
theorem t_43 : (43 : Int32).toInt = 43 := by decide
theorem t_44 : (44 : Int32).toInt = 44 := by decide
theorem t_45 : (45 : Int32).toInt = 45 := by decide
theorem t_47 : (47 : Int32).toInt = 47 := by decide
theorem t_48 : (48 : Int32).toInt = 48 := by decide
theorem t_5 : (5 : Int32).toInt = 5 := by decide
theorem t_57 : (57 : Int32).toInt = 57 := by decide
theorem t_59 : (59 : Int32).toInt = 59 := by decide
theorem t_66 : (66 : Int32).toInt = 66 := by decide
theorem t_67 : (67 : Int32).toInt = 67 := by decide
theorem t_68 : (68 : Int32).toInt = 68 := by decide
theorem t_7 : (7 : Int32).toInt = 7 := by decide
theorem t_91 : (91 : Int32).toInt = 91 := by decide
theorem t_93 : (93 : Int32).toInt = 93 := by decide
theorem t_97 : (97 : Int32).toInt = 97 := by decide
theorem t_999 : (999 : Int32).toInt = 999 := by decide
theorem t_9999 : (9999 : Int32).toInt = 9999 := by decide
theorem t_m20 : (-20 : Int32).toInt = -20 := by decide
theorem rS_def : True := trivial
/-- the reference's row of a March: where each hare sits, the debts -/
def rS (h n : Int32) (s : Nat → Int32) : Prop := (h.toInt ≤ 6 ∧ 0 ≤ n.toInt ∧ n.toInt ≤ 8 ∧ (h.toInt ≤ 0 ∨ 0 < n.toInt)) ∧ (∀ j : Nat, (j : Int) < h.toInt → -1 ≤ (s j).toInt ∧ (s j).toInt < n.toInt) ∧ (∀ j : Nat, 30 ≤ j → j < 66 → 0 ≤ (s j).toInt ∧ (s j).toInt ≤ 99)
theorem rS_sit {h n x : Int32} {s : Nat → Int32} (hs : rS h n s) (x0 : 0 ≤ x.toInt) (x1 : x.toInt < h.toInt) : -1 ≤ (s x.toNatClampNeg).toInt ∧ (s x.toNatClampNeg).toInt < n.toInt ∧ n.toInt ≤ 8 := by
  have e := t_nat x0
  have g := hs.2.1 x.toNatClampNeg (by omega)
  exact ⟨g.1, g.2, hs.1.2.2.1⟩
theorem rS_debt {h n x : Int32} {s : Nat → Int32} (hs : rS h n s) (x0 : 30 ≤ x.toInt) (x1 : x.toInt < 66) : 0 ≤ (s x.toNatClampNeg).toInt ∧ (s x.toNatClampNeg).toInt ≤ 99 := by
  have e := t_nat (x := x) (by omega)
  exact hs.2.2 x.toNatClampNeg (by omega) (by omega)
theorem rS_upd {h n x v : Int32} {s : Nat → Int32} (hs : rS h n s) (x0 : 0 ≤ x.toInt) (h1 : 6 ≤ x.toInt ∨ v.toInt = -1 ∨ (0 ≤ v.toInt ∧ v.toInt < n.toInt)) (h2 : x.toInt < 30 ∨ 66 ≤ x.toInt ∨ (0 ≤ v.toInt ∧ v.toInt ≤ 99)) : rS h n (upd s x.toNatClampNeg v) := by
  have e := t_nat x0
  obtain ⟨⟨g1, g2, g3⟩, g4, g5⟩ := hs
  refine ⟨⟨g1, g2, g3⟩, fun j hj => ?_, fun j j0 j1 => ?_⟩
  · by_cases z : j = x.toNatClampNeg
    · rw [z, pk_us]; omega
    · rw [pk_un z]; exact g4 j hj
  · by_cases z : j = x.toNatClampNeg
    · rw [z, pk_us]; omega
    · rw [pk_un z]; exact g5 j j0 j1
theorem rS_same {h n : Int32} {s t : Nat → Int32} (hs : rS h n s) (e : ∀ j : Nat, j < 68 → t j = s j) : rS h n t := by
  obtain ⟨⟨g1, g2, g3⟩, g4, g5⟩ := hs
  exact ⟨⟨g1, g2, g3⟩, fun j hj => by rw [e j (by omega)]; exact g4 j hj, fun j j0 j1 => by rw [e j (by omega)]; exact g5 j j0 j1⟩
theorem t_bit {x : Int32} : 0 ≤ (x &&& 1).toInt ∧ (x &&& 1).toInt ≤ 1 := by
  have h : ((x &&& 1).toBitVec).toNat ≤ 1 := by
    show (x.toBitVec &&& (1 : Int32).toBitVec).toNat ≤ 1
    rw [BitVec.toNat_and]
    exact Nat.le_trans Nat.and_le_right (by decide)
  have e : (x &&& 1).toInt = ((x &&& 1).toBitVec).toNat := by
    show (x &&& 1).toBitVec.toInt = _
    rw [BitVec.toInt_eq_toNat_of_lt (by omega)]
  omega
theorem t_mulz {a b : Int32} (h : b.toInt = 0) : (a * b).toInt = 0 := by
  rw [t_mul (by rw [h]; omega) (by rw [h]; omega), h, Int.mul_zero]
theorem rS_h {h n : Int32} {s : Nat → Int32} (hs : rS h n s) : h.toInt ≤ 6 ∧ 0 ≤ n.toInt ∧ n.toInt ≤ 8 ∧ (h.toInt ≤ 0 ∨ 0 < n.toInt) := hs.1
theorem t_bool {r : Int32} (h : r.toInt = 0 ∨ r.toInt = 1) : narrow .boolean (.int r) = .int r := by
  rcases h with h | h
  · have e : r = 0 := t_eq.mpr (h.trans t_0.symm)
    rw [e]; rfl
  · have e : r = 1 := t_eq.mpr (h.trans t_1.symm)
    rw [e]; rfl
/-- how high the pile of the law stands before a place -/
def rD (code : Nat → Int32) : Nat → Int
  | 0 => 0
  | k + 1 => if (code k).toInt ≤ 1 then rD code k + 1 else rD code k - 1
theorem rD_zero {code : Nat → Int32} : (0 : Int32).toInt = rD code (0 : Int32).toNatClampNeg := rfl
theorem rD_le (code : Nat → Int32) : ∀ k : Nat, rD code k ≤ k := fun k => by
  induction k with
  | zero => exact Int.le_refl 0
  | succ k ih =>
    show (if (code k).toInt ≤ 1 then rD code k + 1 else rD code k - 1) ≤ _
    split <;> omega
/-- a law that can be reckoned -/
def rC (c : Int32) (code ofc : Nat → Int32) : Prop := (0 ≤ c.toInt ∧ c.toInt ≤ 150) ∧ ∀ k : Nat, (k : Int) < c.toInt → ((code k).toInt ≤ 1 ∨ 2 ≤ rD code k) ∧ ((code k).toInt ≤ 1 → 0 ≤ rD code k) ∧ ((code k).toInt = 0 ∨ 1 < (code k).toInt ∨ (0 ≤ (ofc k).toInt ∧ (ofc k).toInt < 8))
theorem rC_at {c x : Int32} {code ofc : Nat → Int32} (h : rC c code ofc) (x0 : 0 ≤ x.toInt) (x1 : x.toInt < c.toInt) : ((code x.toNatClampNeg).toInt ≤ 1 ∨ 2 ≤ rD code x.toNatClampNeg) ∧ ((code x.toNatClampNeg).toInt ≤ 1 → 0 ≤ rD code x.toNatClampNeg) ∧ ((code x.toNatClampNeg).toInt = 0 ∨ 1 < (code x.toNatClampNeg).toInt ∨ (0 ≤ (ofc x.toNatClampNeg).toInt ∧ (ofc x.toNatClampNeg).toInt < 8)) :=
  h.2 _ (by have := t_nat x0; omega)
theorem rD_step (code : Nat → Int32) {x y : Int32} (x0 : 0 ≤ x.toInt) (e : y.toInt = x.toInt + 1) : ((code x.toNatClampNeg).toInt ≤ 1 ∧ rD code y.toNatClampNeg = rD code x.toNatClampNeg + 1) ∨ (1 < (code x.toNatClampNeg).toInt ∧ rD code y.toNatClampNeg = rD code x.toNatClampNeg - 1) := by
  have h1 := t_nat x0
  have h2 := t_nat (x := y) (by omega)
  have h3 : y.toNatClampNeg = x.toNatClampNeg + 1 := by omega
  rw [h3]
  show (_ ∧ (if (code x.toNatClampNeg).toInt ≤ 1 then _ else _) = _) ∨ (_ ∧ (if (code x.toNatClampNeg).toInt ≤ 1 then _ else _) = _)
  by_cases z : (code x.toNatClampNeg).toInt ≤ 1
  · rw [if_pos z]; exact Or.inl ⟨z, rfl⟩
  · rw [if_neg z]; exact Or.inr ⟨by omega, rfl⟩
theorem cl_done {f : Nat → Int32} {i : Int32} (h : ∀ j : Nat, (j : Int) < i.toInt → (f j).toInt = 0) (c : 36 ≤ i.toInt) : ∀ j : Nat, j < 36 → (f j).toInt = 0 := fun j hj => h j (by omega)
theorem cl_step {f g : Nat → Int32} {i y : Int32} (h : ∀ j : Nat, (j : Int) < i.toInt → (f j).toInt = 0) (e : g = upd f i.toNatClampNeg 0) (ey : y.toInt = i.toInt + 1 ∧ 0 ≤ i.toInt) : ∀ j : Nat, (j : Int) < y.toInt → (g j).toInt = 0 := fun j hj => by
  have hn := t_nat ey.2
  rw [e]
  by_cases z : j = i.toNatClampNeg
  · rw [z, pk_us]; rfl
  · rw [pk_un z]; exact h j (by omega)
theorem cl_begin {f : Nat → Int32} : ∀ j : Nat, (j : Int) < (0 : Int32).toInt → (f j).toInt = 0 := fun j hj => by rw [t_0] at hj; omega
