/-! days: sums, bits, places -/
theorem t_34 : (34 : Int32).toInt = 34 := by decide
theorem ix {k p x : Int32} {K h : Nat} (hx : x = k + p) (ek : k.toInt = (K : Int)) (ep : p.toInt = (h : Int)) (hb : K + h < 2147483648) : x.toInt = ((K + h : Nat) : Int) := by
  rw [hx, t_add (by omega) (by omega)]; omega
theorem ixc {p x : Int32} {h i : Nat} (hx : x = 28 + p * 6) (ep : p.toInt = (h : Int)) (hb : h < 6) {q y : Int32} (hy : y = x + q) (eq : q.toInt = (i : Int)) (hi : i < 6) : y.toInt = ((28 + (6 * h + i) : Nat) : Int) := by
  have e := t_debt (a := p) (b := q) (by omega) (by omega) (by omega) (by omega) hx hy
  omega
theorem ixm {p x : Int32} {h i : Nat} (hx : x = 30 + 6 * p) (ep : p.toInt = (h : Int)) (hb : h < 6) {q y : Int32} (hy : y = x + q) (eq : q.toInt = (i : Int)) (hi : i < 6) : y.toInt = ((30 + (6 * h + i) : Nat) : Int) := by
  have e1 : (6 * p).toInt = 6 * p.toInt := by rw [t_mul (by rw [t_6]; omega) (by rw [t_6]; omega), t_6]
  have e2 : (30 + 6 * p).toInt = 30 + 6 * p.toInt := by rw [t_add (by rw [t_30, e1]; omega) (by rw [t_30, e1]; omega), t_30, e1]
  rw [hy, hx, t_add (by rw [e2]; omega) (by rw [e2]; omega), e2]; omega
def sumI (f : Nat → Int32) : Nat → Int32
  | 0 => 0
  | k + 1 => sumI f k + f k
theorem sumI_ext {f g : Nat → Int32} : ∀ k : Nat, (∀ j : Nat, j < k → f j = g j) → sumI f k = sumI g k := by
  intro k
  induction k with
  | zero => intro _; rfl
  | succ k ih =>
    intro h
    show sumI f k + f k = sumI g k + g k
    rw [ih (fun j hj => h j (by omega)), h k (by omega)]
theorem sumI_0 {f : Nat → Int32} : ∀ k m : Nat, k ≤ m → (∀ j : Nat, k ≤ j → j < m → f j = 0) → sumI f m = sumI f k := by
  intro k m
  induction m with
  | zero => intro h _; rw [show k = 0 by omega]
  | succ m ih =>
    intro h hz
    by_cases c : k = m + 1
    · rw [c]
    · show sumI f m + f m = _
      rw [ih (by omega) (fun j h1 h2 => hz j h1 (by omega)), hz m (by omega) (by omega), Int32.add_zero]
/-- how many bits below a place -/
def pcB (X : Nat) : Nat → Nat
  | 0 => 0
  | k + 1 => pcB X k + (if X.testBit k = true then 1 else 0)
def bcF (p : Int32) : Int32 :=
  let x1 := (p.toUInt32 >>> ((1 : Int32).toUInt32 &&& Int32.toUInt32 31)).toInt32
  let x2 := p - (x1 &&& 1431655765)
  let x3 := (x2.toUInt32 >>> ((2 : Int32).toUInt32 &&& Int32.toUInt32 31)).toInt32
  let x4 := (x2 &&& 858993459) + (x3 &&& 858993459)
  let x5 := (x4.toUInt32 >>> ((4 : Int32).toUInt32 &&& Int32.toUInt32 31)).toInt32
  let x6 := (x4 + x5) &&& 252645135
  let x7 := (x6.toUInt32 >>> ((8 : Int32).toUInt32 &&& Int32.toUInt32 31)).toInt32
  let x8 := x6 + x7
  let x9 := (x8.toUInt32 >>> ((16 : Int32).toUInt32 &&& Int32.toUInt32 31)).toInt32
  (x8 + x9) &&& 63
theorem c_bc {p : Int32} {Q : Int32 → Prop} (h : Q (bcF p)) : wq_J6_bitCount_0f7a4 p Q := by
  intro x1 e1 x2 e2 x3 e3 x4 e4 x5 e5 x6 e6 x7 e7 x8 e8 x9 e9 x10 e10
  subst e1; subst e2; subst e3; subst e4; subst e5; subst e6; subst e7; subst e8; subst e9; subst e10
  exact h
theorem bc_all : ∀ X : Fin 256, bcF (Int32.ofNat X.val) = Int32.ofNat (pcB X.val 8) := by decide +kernel
theorem bc_rm : ∀ X : Fin 256, ∀ h : Fin 8, X.val.testBit h.val = true → bcF (Int32.ofNat X.val &&& ((1 <<< (Int32.ofNat h.val &&& 31)) ^^^ (-1))) = Int32.ofNat (pcB X.val 8) - 1 := by decide +kernel
theorem b8_one : ∀ X : Fin 256, ∀ h : Fin 8, ((Int32.ofNat X.val) >>> (Int32.ofNat h.val &&& 31)) &&& 1 = if X.val.testBit h.val = true then 1 else 0 := by decide +kernel
theorem c_bcN {p : Int32} {X : Nat} {Q : Int32 → Prop} (e : p = Int32.ofNat X) (hX : X < 256) (h : Q (Int32.ofNat (pcB X 8))) : wq_J6_bitCount_0f7a4 p Q := by
  refine c_bc ?_
  rw [e, bc_all ⟨X, hX⟩]; exact h
theorem pcB_le {X : Nat} : ∀ k : Nat, pcB X k ≤ k := by
  intro k
  induction k with
  | zero => exact Nat.le_refl 0
  | succ k ih =>
    show pcB X k + _ ≤ k + 1
    by_cases c : X.testBit k = true
    · rw [if_pos c]; omega
    · rw [if_neg c]; omega
theorem y_ones {p : Int32} {X : Nat} {Q : Int32 → Prop} (e : p = Int32.ofNat X) (hX : X < 256) (h : Q (Int32.ofNat (pcB X 8))) : wq_X11_ones p Q := by
  have go : ∀ (m : Nat) (l1 l2 : Int32) (k : Nat), l2.toInt = (k : Int) → k ≤ 8 → l1 = Int32.ofNat (pcB X k) → 8 - k < m → wl_X11_ones_4 Q m p l1 l2 := by
    intro m
    induction m with
    | zero => intro l1 l2 k h1 h2 h3 h4; omega
    | succ m ih =>
      intro l1 l2 k h1 h2 h3 h4
      refine ⟨fun c => ?_, fun c x2 e2 x3 e3 => ih x2 x3 (k + 1) (by rw [t_le, t_8] at c; rw [e3, t_inc (by omega), h1]; omega) (by rw [t_le, t_8] at c; omega) ?_ (by rw [t_le, t_8] at c; omega)⟩
      · rw [t_le, t_8] at c
        rw [h3, show k = 8 by omega]; exact h
      · rw [t_le, t_8] at c
        have hk : k < 8 := by omega
        rw [e2, h3, e, ofN_eq h1 (by omega), b8_one ⟨X, hX⟩ ⟨k, hk⟩]
        show Int32.ofNat (pcB X k) + (if X.testBit k = true then 1 else 0) = Int32.ofNat (pcB X k + (if X.testBit k = true then 1 else 0))
        by_cases d : X.testBit k = true
        · rw [if_pos d, if_pos d]
          rw [t_eq, t_add (by rw [t_1, Int32.toInt_ofNat_of_lt (by have := pcB_le (X := X) k; omega)]; omega) (by rw [t_1, Int32.toInt_ofNat_of_lt (by have := pcB_le (X := X) k; omega)]; have := pcB_le (X := X) k; omega), t_1, Int32.toInt_ofNat_of_lt (by have := pcB_le (X := X) k; omega), Int32.toInt_ofNat_of_lt (by have := pcB_le (X := X) k; omega)]
          omega
        · rw [if_neg d, if_neg d]
          exact Int32.add_zero _
  exact ⟨9, go 9 0 0 0 t_0 (by omega) rfl (by omega)⟩
theorem or_sh {P R : Nat → Bool} {k h : Nat} (hh : h < k) (h1 : R h = true) (h2 : ∀ j : Nat, j < k → j ≠ h → R j = P j) : orN P k ||| (1 <<< h) = orN R k := by
  apply Nat.eq_of_testBit_eq
  intro j
  rw [Nat.testBit_or, orN_bit, orN_bit, Nat.one_shiftLeft, Nat.testBit_two_pow]
  by_cases z : h = j
  · subst z; simp [h1, hh]
  · by_cases y : j < k
    · simp [z, y, h2 j y (fun w => z w.symm)]
    · simp [z, y]
