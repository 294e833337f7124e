theorem t_and {x : Int32} : 0 ≤ (x &&& 32767).toInt ∧ (x &&& 32767).toInt ≤ 32767 := by
  have h : ((x &&& 32767).toBitVec).toNat ≤ 32767 := by
    show (x.toBitVec &&& (32767 : Int32).toBitVec).toNat ≤ 32767
    rw [BitVec.toNat_and]
    exact Nat.le_trans Nat.and_le_right (by decide)
  have e : (x &&& 32767).toInt = ((x &&& 32767).toBitVec).toNat := by
    show (x &&& 32767).toBitVec.toInt = _
    rw [BitVec.toInt_eq_toNat_of_lt (by omega)]
  omega
theorem t_rem {a b : Int32} (a0 : 0 ≤ a.toInt) (b0 : 0 < b.toInt) : 0 ≤ (a - a / b * b).toInt ∧ (a - a / b * b).toInt < b.toInt := by
  have ha := t_rng a
  have hb := t_rng b
  have hq : (a / b).toInt = a.toInt / b.toInt := by
    rw [Int32.toInt_div, Int.tdiv_eq_ediv_of_nonneg a0]
    have h1 : 0 ≤ a.toInt / b.toInt := Int.ediv_nonneg a0 (by omega)
    have h2 : a.toInt / b.toInt ≤ a.toInt := Int.ediv_le_self _ a0
    exact Int.bmod_eq_of_le (by omega) (by omega)
  have hm : a.toInt / b.toInt * b.toInt ≤ a.toInt := Int.ediv_mul_le _ (by omega)
  have hp : 0 ≤ a.toInt / b.toInt * b.toInt := Int.mul_nonneg (Int.ediv_nonneg a0 (by omega)) (by omega)
  have e1 : (a / b * b).toInt = a.toInt / b.toInt * b.toInt := by rw [t_mul (by rw [hq]; omega) (by rw [hq]; omega), hq]
  have e2 : (a - a / b * b).toInt = a.toInt - a.toInt / b.toInt * b.toInt := by rw [t_sub (by rw [e1]; omega) (by rw [e1]; omega), e1]
  rw [e2]
  have hlt := Int.lt_ediv_add_one_mul_self a.toInt b0
  have he : (a.toInt / b.toInt + 1) * b.toInt = a.toInt / b.toInt * b.toInt + b.toInt := by rw [Int.add_mul, Int.one_mul]
  omega
theorem sf_X1_drawnBits {p : Int32} {Q : Int32 → Prop} (hq : ∀ r : Int32, 0 ≤ r.toInt → r.toInt ≤ 32767 → Q r) : wq_X1_drawnBits p Q := fun x1 _ => hq _ t_and.1 t_and.2
