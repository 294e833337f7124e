theorem t_bvn {x : Int32} (h : 0 ≤ x.toInt) : x.toInt = (x.toBitVec.toNat : Int) := by
  have h2 := x.toBitVec.isLt
  have h1 : x.toInt = if 2 * x.toBitVec.toNat < 2 ^ 32 then (x.toBitVec.toNat : Int) else (x.toBitVec.toNat : Int) - (2 ^ 32 : Nat) := BitVec.toInt_eq_toNat_cond x.toBitVec
  split at h1 <;> omega
theorem t_ofn {x : Int32} (h : x.toBitVec.toNat < 2147483648) : x.toInt = (x.toBitVec.toNat : Int) := by
  show x.toBitVec.toInt = _
  rw [BitVec.toInt_eq_toNat_of_lt (by omega)]
theorem t_orn {a b : Int32} : (a ||| b).toBitVec.toNat = a.toBitVec.toNat ||| b.toBitVec.toNat := by
  show (a.toBitVec ||| b.toBitVec).toNat = _
  rw [BitVec.toNat_or]
theorem t_andn {a b : Int32} : (a &&& b).toBitVec.toNat = a.toBitVec.toNat &&& b.toBitVec.toNat := by
  show (a.toBitVec &&& b.toBitVec).toNat = _
  rw [BitVec.toNat_and]
theorem t_orlt {a b : Int32} (k : Nat) (hk : 2 ^ k ≤ 1073741824) (a0 : 0 ≤ a.toInt) (a1 : a.toInt < (2 ^ k : Nat)) (b0 : 0 ≤ b.toInt) (b1 : b.toInt < (2 ^ k : Nat)) : 0 ≤ (a ||| b).toInt ∧ (a ||| b).toInt < (2 ^ k : Nat) := by
  have ha := t_bvn a0
  have hb := t_bvn b0
  have h : (a ||| b).toBitVec.toNat < 2 ^ k := by
    rw [t_orn]; exact Nat.or_lt_two_pow (by omega) (by omega)
  have e := t_ofn (x := a ||| b) (by omega)
  omega
theorem t_or6 {a b : Int32} (a0 : 0 ≤ a.toInt) (a1 : a.toInt < 64) (b0 : 0 ≤ b.toInt) (b1 : b.toInt < 64) : 0 ≤ (a ||| b).toInt ∧ (a ||| b).toInt < 64 := t_orlt 6 (by decide) a0 a1 b0 b1
theorem t_or8 {a b : Int32} (a0 : 0 ≤ a.toInt) (a1 : a.toInt < 256) (b0 : 0 ≤ b.toInt) (b1 : b.toInt < 256) : 0 ≤ (a ||| b).toInt ∧ (a ||| b).toInt < 256 := t_orlt 8 (by decide) a0 a1 b0 b1
theorem t_orb {a b : Int32} (a0 : 0 ≤ a.toInt) (b0 : 0 ≤ b.toInt) (b1 : b.toInt < 256) : 0 ≤ (a ||| b).toInt ∧ (a ||| b).toInt / 256 = a.toInt / 256 := by
  have ha := t_bvn a0
  have hb := t_bvn b0
  have ra := t_rng a
  have h31 : (a ||| b).toBitVec.toNat < 2 ^ 31 := by
    rw [t_orn]; exact Nat.or_lt_two_pow (by omega) (by omega)
  have e := t_ofn (x := a ||| b) (by omega)
  have hs : (a ||| b).toBitVec.toNat / 256 = a.toBitVec.toNat / 256 := by
    have q := Nat.shiftRight_or_distrib (a := a.toBitVec.toNat) (b := b.toBitVec.toNat) (i := 8)
    rw [Nat.shiftRight_eq_div_pow, Nat.shiftRight_eq_div_pow, Nat.shiftRight_eq_div_pow] at q
    have hz : b.toBitVec.toNat / 2 ^ 8 = 0 := Nat.div_eq_of_lt (by omega)
    rw [hz, Nat.or_zero] at q
    rw [t_orn]; exact q
  omega
theorem t_andle {a b : Int32} (a0 : 0 ≤ a.toInt) : 0 ≤ (a &&& b).toInt ∧ (a &&& b).toInt ≤ a.toInt := by
  have ha := t_bvn a0
  have ra := t_rng a
  have h : (a &&& b).toBitVec.toNat ≤ a.toBitVec.toNat := by rw [t_andn]; exact Nat.and_le_left
  have e := t_ofn (x := a &&& b) (by omega)
  omega
theorem t_cases8 {x : Int32} (x0 : 0 ≤ x.toInt) (x1 : x.toInt ≤ 8) : x = 0 ∨ x = 1 ∨ x = 2 ∨ x = 3 ∨ x = 4 ∨ x = 5 ∨ x = 6 ∨ x = 7 ∨ x = 8 := by
  simp only [t_eq, t_0, t_1, t_2, t_3, t_4, t_6, t_8, show (5 : Int32).toInt = 5 by decide, show (7 : Int32).toInt = 7 by decide]
  omega
theorem t_shl {x : Int32} (x0 : 0 ≤ x.toInt) (x1 : x.toInt ≤ 8) : 1 ≤ (1 <<< (x &&& 31) : Int32).toInt ∧ (1 <<< (x &&& 31) : Int32).toInt ≤ 256 ∧ (x.toInt = 8 ∨ (1 <<< (x &&& 31) : Int32).toInt < 256) ∧ (5 < x.toInt ∨ (1 <<< (x &&& 31) : Int32).toInt < 64) ∧ (6 < x.toInt ∨ (1 <<< (x &&& 31) : Int32).toInt ≤ 64) := by
  rcases t_cases8 x0 x1 with rfl | rfl | rfl | rfl | rfl | rfl | rfl | rfl | rfl <;> decide
theorem t_shl8 {x : Int32} (x0 : 0 ≤ x.toInt) (x1 : x.toInt ≤ 7) : (x <<< (8 &&& 31) : Int32).toInt = x.toInt * 256 := by
  rcases t_cases8 x0 (by omega) with rfl | rfl | rfl | rfl | rfl | rfl | rfl | rfl | rfl <;> first | decide | (exfalso; revert x1; decide)
/-- the ones among the first k bits -/
def pcK (x : Int32) : Nat → Int
  | 0 => 0
  | k + 1 => pcK x k + ((x >>> (Int32.ofNat k &&& 31)) &&& 1).toInt
theorem t_ofnat {x : Int32} (x0 : 0 ≤ x.toInt) : Int32.ofNat x.toNatClampNeg = x := by
  have h := t_nat x0
  have r := t_rng x
  rw [t_eq, Int32.toInt_ofNat_of_lt (by omega)]
  omega
theorem pcK_step {x i y : Int32} (i0 : 0 ≤ i.toInt) (e : y.toInt = i.toInt + 1) : pcK x y.toNatClampNeg = pcK x i.toNatClampNeg + ((x >>> (i &&& 31)) &&& 1).toInt := by
  have h1 := t_nat i0
  have h2 := t_nat (x := y) (by omega)
  have h3 : y.toNatClampNeg = i.toNatClampNeg + 1 := by omega
  rw [h3]
  show pcK x i.toNatClampNeg + ((x >>> (Int32.ofNat i.toNatClampNeg &&& 31)) &&& 1).toInt = _
  rw [t_ofnat i0]
theorem pcK_zero {x : Int32} : (0 : Int32).toInt = pcK x (0 : Int32).toNatClampNeg := rfl
set_option maxRecDepth 100000 in
theorem pc_dec : ∀ x : Fin 64, ∀ i : Fin 6, (0 ≤ ((Int32.ofNat x.val) &&& ((1 <<< (Int32.ofNat i.val &&& 31)) ^^^ (-1)) : Int32).toInt ∧ ((Int32.ofNat x.val) &&& ((1 <<< (Int32.ofNat i.val &&& 31)) ^^^ (-1)) : Int32).toInt < 64 ∧ pcK ((Int32.ofNat x.val) &&& ((1 <<< (Int32.ofNat i.val &&& 31)) ^^^ (-1))) 8 ≤ 5) ∧ (((Int32.ofNat x.val >>> (Int32.ofNat i.val &&& 31)) &&& 1 : Int32).toInt = 0 ∨ pcK ((Int32.ofNat x.val) &&& ((1 <<< (Int32.ofNat i.val &&& 31)) ^^^ (-1))) 8 + 1 = pcK (Int32.ofNat x.val) 8) := by decide
set_option maxRecDepth 100000 in
theorem pc_dec0 : ∀ x : Fin 64, x.val = 0 ∨ 1 ≤ pcK (Int32.ofNat x.val) 8 := by decide
theorem pc_drop {x i : Int32} (x0 : 0 ≤ x.toInt) (x1 : x.toInt < 64) (i0 : 0 ≤ i.toInt) (i1 : i.toInt < 6) : (0 ≤ (x &&& ((1 <<< (i &&& 31)) ^^^ (-1)) : Int32).toInt ∧ (x &&& ((1 <<< (i &&& 31)) ^^^ (-1)) : Int32).toInt < 64 ∧ pcK (x &&& ((1 <<< (i &&& 31)) ^^^ (-1))) 8 ≤ 5) ∧ (((x >>> (i &&& 31)) &&& 1 : Int32).toInt = 0 ∨ pcK (x &&& ((1 <<< (i &&& 31)) ^^^ (-1))) 8 + 1 = pcK x 8) := by
  have h1 := t_nat x0
  have h2 := t_nat i0
  have h := pc_dec ⟨x.toNatClampNeg, by omega⟩ ⟨i.toNatClampNeg, by omega⟩
  rw [t_ofnat x0, t_ofnat i0] at h
  exact h
theorem pc_zero {x : Int32} (x0 : 0 ≤ x.toInt) (x1 : x.toInt < 64) (h : pcK x 8 ≤ 0) : x.toInt = 0 := by
  have h1 := t_nat x0
  have g := pc_dec0 ⟨x.toNatClampNeg, by omega⟩
  rw [t_ofnat x0] at g
  rcases g with g | g
  · have : x.toNatClampNeg = 0 := g
    omega
  · omega
theorem pcK_end {x i r : Int32} (h : r.toInt = pcK x i.toNatClampNeg) (h0 : i.toInt ≤ 8) (h1 : 8 ≤ i.toInt) : r.toInt = pcK x 8 := by
  rw [h, t_clamp (k := 8) (by omega)]
