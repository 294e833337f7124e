set_option maxHeartbeats 40000000 in
set_option maxRecDepth 100000 in
theorem pu_LC13 {x1 : Int32} {f2 : Nat → Int32} {f3 : Nat → Int32} {x4 : Int32} {f5 : Nat → Int32} {f6 : Nat → Int32} {x7 : Int32} {f8 : Nat → Int32} {x9 : Int32} {f10 : Nat → Int32} {f11 : Nat → Int32} {f12 : Nat → Int32} {x14 : Int32} {x15 : Int32} {x16 : Int32} {x17 : Int32} {x18 : Int32} {x19 : Int32} {x20 : Int32} {x21 : Int32} {x22 : Int32} {x23 : Int32} {x24 : Int32} {f25 : Nat → Int32} {f26 : Nat → Int32} {f27 : Nat → Int32} {f28 : Nat → Int32} {f29 : Nat → Int32} {f30 : Nat → Int32} (hX : XF x1 f2 f3 x4 f5 f6 x7 f8 x9 f10 f11 f12) (hM : MF x14 x15 x16 x17 x18 x19 x20 x21 x22 x23 x24 f25 f26 f27 f28 f29 f30) {ad13 ad31 : Nat → Nat} {ax am ao : Nat} (xs : Nat → Int32) : wc_LC13 0 x1 (fun _ => 0) (fun _ => 0) f2 f3 (fun _ => 0) 0 x20 (fun _ => 0) (fun _ => 0) xs := by
  obtain ⟨rfl, rfl, rfl, rfl, rfl⟩ := hX
  obtain ⟨rfl, rfl, rfl, rfl, rfl, rfl, rfl, rfl, rfl, rfl, rfl, rfl⟩ := hM
  unfold wc_LC13
  generalize xs 1 = y1
  generalize xs 2 = y2
  generalize xs 3 = y3
  generalize xs 4 = y4
  generalize xs 5 = y5
  generalize xs 6 = y6
  generalize xs 7 = y7
  generalize xs 8 = y8
  by_cases h1 : 0 ≤ y1 ∧ y1 ≤ 9
  case neg =>
    repeat (first
      | exact trivial
      | (show False; (first | contradiction | (exfalso; simp only [Int32.lt_iff_toInt_lt, Int32.le_iff_toInt_le, ← Int32.toInt_inj, q_t0, q_t1, q_t2, q_t3, q_t5, q_t7, q_t9, q_t11, q_t12, q_t16, q_t20, q_t31, q_t60, q_t96, q_t99, q_t999, q_tm] at *; omega)))
      | exact ⟨fun _ => trivial, fun c => c rfl⟩
      | refine ⟨vin (by decide), ?_⟩
      | refine q_take (fun f9 h9 => ?_)
      | refine q_wF ?_
      | refine q_wmF ?_
      | refine ⟨fun c => absurd c (by decide), fun _ => ?_⟩
      | refine ⟨fun _ => ?_, fun c => absurd c (by decide)⟩
      | refine Or.inl ⟨rfl, ?_⟩
      | refine Or.inr ⟨rfl, ?_⟩
      | refine ⟨rfl, ?_⟩
      | refine ⟨by decide, ?_⟩
      | refine ⟨100, ?_⟩
      | (refine fun x e => ?_; rw [if_pos (by decide)] at e; subst e)
      | (refine fun x e => ?_; rw [if_neg (by decide)] at e; subst e)
      | (refine fun x e => ?_; subst e)
      | refine ⟨fun _ => ?_, fun c => by (first | contradiction | (exfalso; simp only [Int32.lt_iff_toInt_lt, Int32.le_iff_toInt_le, ← Int32.toInt_inj, q_t0, q_t1, q_t2, q_t3, q_t5, q_t7, q_t9, q_t11, q_t12, q_t16, q_t20, q_t31, q_t60, q_t96, q_t99, q_t999, q_tm] at *; omega))⟩
      | refine ⟨fun c => by (first | contradiction | (exfalso; simp only [Int32.lt_iff_toInt_lt, Int32.le_iff_toInt_le, ← Int32.toInt_inj, q_t0, q_t1, q_t2, q_t3, q_t5, q_t7, q_t9, q_t11, q_t12, q_t16, q_t20, q_t31, q_t60, q_t96, q_t99, q_t999, q_tm] at *; omega)), fun _ => ?_⟩
      | refine ⟨fun c => ?_, fun c => ?_⟩
      | refine ⟨fun c => ?_, ?_⟩
      | (refine fun c => ?_; (first | contradiction | (exfalso; simp only [Int32.lt_iff_toInt_lt, Int32.le_iff_toInt_le, ← Int32.toInt_inj, q_t0, q_t1, q_t2, q_t3, q_t5, q_t7, q_t9, q_t11, q_t12, q_t16, q_t20, q_t31, q_t60, q_t96, q_t99, q_t999, q_tm] at *; omega)))
      | (refine fun c => ?_; subst c)
      | refine fun c => ?_)
  by_cases h2 : 0 ≤ y2 ∧ y2 ≤ 999
  case neg =>
    repeat (first
      | exact trivial
      | (show False; (first | contradiction | (exfalso; simp only [Int32.lt_iff_toInt_lt, Int32.le_iff_toInt_le, ← Int32.toInt_inj, q_t0, q_t1, q_t2, q_t3, q_t5, q_t7, q_t9, q_t11, q_t12, q_t16, q_t20, q_t31, q_t60, q_t96, q_t99, q_t999, q_tm] at *; omega)))
      | exact ⟨fun _ => trivial, fun c => c rfl⟩
      | refine ⟨vin (by decide), ?_⟩
      | refine q_take (fun f9 h9 => ?_)
      | refine q_wF ?_
      | refine q_wmF ?_
      | refine ⟨fun c => absurd c (by decide), fun _ => ?_⟩
      | refine ⟨fun _ => ?_, fun c => absurd c (by decide)⟩
      | refine Or.inl ⟨rfl, ?_⟩
      | refine Or.inr ⟨rfl, ?_⟩
      | refine ⟨rfl, ?_⟩
      | refine ⟨by decide, ?_⟩
      | refine ⟨100, ?_⟩
      | (refine fun x e => ?_; rw [if_pos (by decide)] at e; subst e)
      | (refine fun x e => ?_; rw [if_neg (by decide)] at e; subst e)
      | (refine fun x e => ?_; subst e)
      | refine ⟨fun _ => ?_, fun c => by (first | contradiction | (exfalso; simp only [Int32.lt_iff_toInt_lt, Int32.le_iff_toInt_le, ← Int32.toInt_inj, q_t0, q_t1, q_t2, q_t3, q_t5, q_t7, q_t9, q_t11, q_t12, q_t16, q_t20, q_t31, q_t60, q_t96, q_t99, q_t999, q_tm] at *; omega))⟩
      | refine ⟨fun c => by (first | contradiction | (exfalso; simp only [Int32.lt_iff_toInt_lt, Int32.le_iff_toInt_le, ← Int32.toInt_inj, q_t0, q_t1, q_t2, q_t3, q_t5, q_t7, q_t9, q_t11, q_t12, q_t16, q_t20, q_t31, q_t60, q_t96, q_t99, q_t999, q_tm] at *; omega)), fun _ => ?_⟩
      | refine ⟨fun c => ?_, fun c => ?_⟩
      | refine ⟨fun c => ?_, ?_⟩
      | (refine fun c => ?_; (first | contradiction | (exfalso; simp only [Int32.lt_iff_toInt_lt, Int32.le_iff_toInt_le, ← Int32.toInt_inj, q_t0, q_t1, q_t2, q_t3, q_t5, q_t7, q_t9, q_t11, q_t12, q_t16, q_t20, q_t31, q_t60, q_t96, q_t99, q_t999, q_tm] at *; omega)))
      | (refine fun c => ?_; subst c)
      | refine fun c => ?_)
  by_cases h3 : 0 ≤ y3 ∧ y3 ≤ 999
  case neg =>
    repeat (first
      | exact trivial
      | (show False; (first | contradiction | (exfalso; simp only [Int32.lt_iff_toInt_lt, Int32.le_iff_toInt_le, ← Int32.toInt_inj, q_t0, q_t1, q_t2, q_t3, q_t5, q_t7, q_t9, q_t11, q_t12, q_t16, q_t20, q_t31, q_t60, q_t96, q_t99, q_t999, q_tm] at *; omega)))
      | exact ⟨fun _ => trivial, fun c => c rfl⟩
      | refine ⟨vin (by decide), ?_⟩
      | refine q_take (fun f9 h9 => ?_)
      | refine q_wF ?_
      | refine q_wmF ?_
      | refine ⟨fun c => absurd c (by decide), fun _ => ?_⟩
      | refine ⟨fun _ => ?_, fun c => absurd c (by decide)⟩
      | refine Or.inl ⟨rfl, ?_⟩
      | refine Or.inr ⟨rfl, ?_⟩
      | refine ⟨rfl, ?_⟩
      | refine ⟨by decide, ?_⟩
      | refine ⟨100, ?_⟩
      | (refine fun x e => ?_; rw [if_pos (by decide)] at e; subst e)
      | (refine fun x e => ?_; rw [if_neg (by decide)] at e; subst e)
      | (refine fun x e => ?_; subst e)
      | refine ⟨fun _ => ?_, fun c => by (first | contradiction | (exfalso; simp only [Int32.lt_iff_toInt_lt, Int32.le_iff_toInt_le, ← Int32.toInt_inj, q_t0, q_t1, q_t2, q_t3, q_t5, q_t7, q_t9, q_t11, q_t12, q_t16, q_t20, q_t31, q_t60, q_t96, q_t99, q_t999, q_tm] at *; omega))⟩
      | refine ⟨fun c => by (first | contradiction | (exfalso; simp only [Int32.lt_iff_toInt_lt, Int32.le_iff_toInt_le, ← Int32.toInt_inj, q_t0, q_t1, q_t2, q_t3, q_t5, q_t7, q_t9, q_t11, q_t12, q_t16, q_t20, q_t31, q_t60, q_t96, q_t99, q_t999, q_tm] at *; omega)), fun _ => ?_⟩
      | refine ⟨fun c => ?_, fun c => ?_⟩
      | refine ⟨fun c => ?_, ?_⟩
      | (refine fun c => ?_; (first | contradiction | (exfalso; simp only [Int32.lt_iff_toInt_lt, Int32.le_iff_toInt_le, ← Int32.toInt_inj, q_t0, q_t1, q_t2, q_t3, q_t5, q_t7, q_t9, q_t11, q_t12, q_t16, q_t20, q_t31, q_t60, q_t96, q_t99, q_t999, q_tm] at *; omega)))
      | (refine fun c => ?_; subst c)
      | refine fun c => ?_)
  by_cases h4 : 0 ≤ y4 ∧ y4 ≤ 999
  case neg =>
    repeat (first
      | exact trivial
      | (show False; (first | contradiction | (exfalso; simp only [Int32.lt_iff_toInt_lt, Int32.le_iff_toInt_le, ← Int32.toInt_inj, q_t0, q_t1, q_t2, q_t3, q_t5, q_t7, q_t9, q_t11, q_t12, q_t16, q_t20, q_t31, q_t60, q_t96, q_t99, q_t999, q_tm] at *; omega)))
      | exact ⟨fun _ => trivial, fun c => c rfl⟩
      | refine ⟨vin (by decide), ?_⟩
      | refine q_take (fun f9 h9 => ?_)
      | refine q_wF ?_
      | refine q_wmF ?_
      | refine ⟨fun c => absurd c (by decide), fun _ => ?_⟩
      | refine ⟨fun _ => ?_, fun c => absurd c (by decide)⟩
      | refine Or.inl ⟨rfl, ?_⟩
      | refine Or.inr ⟨rfl, ?_⟩
      | refine ⟨rfl, ?_⟩
      | refine ⟨by decide, ?_⟩
      | refine ⟨100, ?_⟩
      | (refine fun x e => ?_; rw [if_pos (by decide)] at e; subst e)
      | (refine fun x e => ?_; rw [if_neg (by decide)] at e; subst e)
      | (refine fun x e => ?_; subst e)
      | refine ⟨fun _ => ?_, fun c => by (first | contradiction | (exfalso; simp only [Int32.lt_iff_toInt_lt, Int32.le_iff_toInt_le, ← Int32.toInt_inj, q_t0, q_t1, q_t2, q_t3, q_t5, q_t7, q_t9, q_t11, q_t12, q_t16, q_t20, q_t31, q_t60, q_t96, q_t99, q_t999, q_tm] at *; omega))⟩
      | refine ⟨fun c => by (first | contradiction | (exfalso; simp only [Int32.lt_iff_toInt_lt, Int32.le_iff_toInt_le, ← Int32.toInt_inj, q_t0, q_t1, q_t2, q_t3, q_t5, q_t7, q_t9, q_t11, q_t12, q_t16, q_t20, q_t31, q_t60, q_t96, q_t99, q_t999, q_tm] at *; omega)), fun _ => ?_⟩
      | refine ⟨fun c => ?_, fun c => ?_⟩
      | refine ⟨fun c => ?_, ?_⟩
      | (refine fun c => ?_; (first | contradiction | (exfalso; simp only [Int32.lt_iff_toInt_lt, Int32.le_iff_toInt_le, ← Int32.toInt_inj, q_t0, q_t1, q_t2, q_t3, q_t5, q_t7, q_t9, q_t11, q_t12, q_t16, q_t20, q_t31, q_t60, q_t96, q_t99, q_t999, q_tm] at *; omega)))
      | (refine fun c => ?_; subst c)
      | refine fun c => ?_)
  by_cases h5 : 0 ≤ y5 ∧ y5 ≤ 5
  case neg =>
    repeat (first
      | exact trivial
      | (show False; (first | contradiction | (exfalso; simp only [Int32.lt_iff_toInt_lt, Int32.le_iff_toInt_le, ← Int32.toInt_inj, q_t0, q_t1, q_t2, q_t3, q_t5, q_t7, q_t9, q_t11, q_t12, q_t16, q_t20, q_t31, q_t60, q_t96, q_t99, q_t999, q_tm] at *; omega)))
      | exact ⟨fun _ => trivial, fun c => c rfl⟩
      | refine ⟨vin (by decide), ?_⟩
      | refine q_take (fun f9 h9 => ?_)
      | refine q_wF ?_
      | refine q_wmF ?_
      | refine ⟨fun c => absurd c (by decide), fun _ => ?_⟩
      | refine ⟨fun _ => ?_, fun c => absurd c (by decide)⟩
      | refine Or.inl ⟨rfl, ?_⟩
      | refine Or.inr ⟨rfl, ?_⟩
      | refine ⟨rfl, ?_⟩
      | refine ⟨by decide, ?_⟩
      | refine ⟨100, ?_⟩
      | (refine fun x e => ?_; rw [if_pos (by decide)] at e; subst e)
      | (refine fun x e => ?_; rw [if_neg (by decide)] at e; subst e)
      | (refine fun x e => ?_; subst e)
      | refine ⟨fun _ => ?_, fun c => by (first | contradiction | (exfalso; simp only [Int32.lt_iff_toInt_lt, Int32.le_iff_toInt_le, ← Int32.toInt_inj, q_t0, q_t1, q_t2, q_t3, q_t5, q_t7, q_t9, q_t11, q_t12, q_t16, q_t20, q_t31, q_t60, q_t96, q_t99, q_t999, q_tm] at *; omega))⟩
      | refine ⟨fun c => by (first | contradiction | (exfalso; simp only [Int32.lt_iff_toInt_lt, Int32.le_iff_toInt_le, ← Int32.toInt_inj, q_t0, q_t1, q_t2, q_t3, q_t5, q_t7, q_t9, q_t11, q_t12, q_t16, q_t20, q_t31, q_t60, q_t96, q_t99, q_t999, q_tm] at *; omega)), fun _ => ?_⟩
      | refine ⟨fun c => ?_, fun c => ?_⟩
      | refine ⟨fun c => ?_, ?_⟩
      | (refine fun c => ?_; (first | contradiction | (exfalso; simp only [Int32.lt_iff_toInt_lt, Int32.le_iff_toInt_le, ← Int32.toInt_inj, q_t0, q_t1, q_t2, q_t3, q_t5, q_t7, q_t9, q_t11, q_t12, q_t16, q_t20, q_t31, q_t60, q_t96, q_t99, q_t999, q_tm] at *; omega)))
      | (refine fun c => ?_; subst c)
      | refine fun c => ?_)
  by_cases h6 : 1 ≤ y6 ∧ y6 ≤ 31
  case neg =>
    repeat (first
      | exact trivial
      | (show False; (first | contradiction | (exfalso; simp only [Int32.lt_iff_toInt_lt, Int32.le_iff_toInt_le, ← Int32.toInt_inj, q_t0, q_t1, q_t2, q_t3, q_t5, q_t7, q_t9, q_t11, q_t12, q_t16, q_t20, q_t31, q_t60, q_t96, q_t99, q_t999, q_tm] at *; omega)))
      | exact ⟨fun _ => trivial, fun c => c rfl⟩
      | refine ⟨vin (by decide), ?_⟩
      | refine q_take (fun f9 h9 => ?_)
      | refine q_wF ?_
      | refine q_wmF ?_
      | refine ⟨fun c => absurd c (by decide), fun _ => ?_⟩
      | refine ⟨fun _ => ?_, fun c => absurd c (by decide)⟩
      | refine Or.inl ⟨rfl, ?_⟩
      | refine Or.inr ⟨rfl, ?_⟩
      | refine ⟨rfl, ?_⟩
      | refine ⟨by decide, ?_⟩
      | refine ⟨100, ?_⟩
      | (refine fun x e => ?_; rw [if_pos (by decide)] at e; subst e)
      | (refine fun x e => ?_; rw [if_neg (by decide)] at e; subst e)
      | (refine fun x e => ?_; subst e)
      | refine ⟨fun _ => ?_, fun c => by (first | contradiction | (exfalso; simp only [Int32.lt_iff_toInt_lt, Int32.le_iff_toInt_le, ← Int32.toInt_inj, q_t0, q_t1, q_t2, q_t3, q_t5, q_t7, q_t9, q_t11, q_t12, q_t16, q_t20, q_t31, q_t60, q_t96, q_t99, q_t999, q_tm] at *; omega))⟩
      | refine ⟨fun c => by (first | contradiction | (exfalso; simp only [Int32.lt_iff_toInt_lt, Int32.le_iff_toInt_le, ← Int32.toInt_inj, q_t0, q_t1, q_t2, q_t3, q_t5, q_t7, q_t9, q_t11, q_t12, q_t16, q_t20, q_t31, q_t60, q_t96, q_t99, q_t999, q_tm] at *; omega)), fun _ => ?_⟩
      | refine ⟨fun c => ?_, fun c => ?_⟩
      | refine ⟨fun c => ?_, ?_⟩
      | (refine fun c => ?_; (first | contradiction | (exfalso; simp only [Int32.lt_iff_toInt_lt, Int32.le_iff_toInt_le, ← Int32.toInt_inj, q_t0, q_t1, q_t2, q_t3, q_t5, q_t7, q_t9, q_t11, q_t12, q_t16, q_t20, q_t31, q_t60, q_t96, q_t99, q_t999, q_tm] at *; omega)))
      | (refine fun c => ?_; subst c)
      | refine fun c => ?_)
  by_cases h7 : 0 ≤ y7 ∧ y7 ≤ 5
  case neg =>
    repeat (first
      | exact trivial
      | (show False; (first | contradiction | (exfalso; simp only [Int32.lt_iff_toInt_lt, Int32.le_iff_toInt_le, ← Int32.toInt_inj, q_t0, q_t1, q_t2, q_t3, q_t5, q_t7, q_t9, q_t11, q_t12, q_t16, q_t20, q_t31, q_t60, q_t96, q_t99, q_t999, q_tm] at *; omega)))
      | exact ⟨fun _ => trivial, fun c => c rfl⟩
      | refine ⟨vin (by decide), ?_⟩
      | refine q_take (fun f9 h9 => ?_)
      | refine q_wF ?_
      | refine q_wmF ?_
      | refine ⟨fun c => absurd c (by decide), fun _ => ?_⟩
      | refine ⟨fun _ => ?_, fun c => absurd c (by decide)⟩
      | refine Or.inl ⟨rfl, ?_⟩
      | refine Or.inr ⟨rfl, ?_⟩
      | refine ⟨rfl, ?_⟩
      | refine ⟨by decide, ?_⟩
      | refine ⟨100, ?_⟩
      | (refine fun x e => ?_; rw [if_pos (by decide)] at e; subst e)
      | (refine fun x e => ?_; rw [if_neg (by decide)] at e; subst e)
      | (refine fun x e => ?_; subst e)
      | refine ⟨fun _ => ?_, fun c => by (first | contradiction | (exfalso; simp only [Int32.lt_iff_toInt_lt, Int32.le_iff_toInt_le, ← Int32.toInt_inj, q_t0, q_t1, q_t2, q_t3, q_t5, q_t7, q_t9, q_t11, q_t12, q_t16, q_t20, q_t31, q_t60, q_t96, q_t99, q_t999, q_tm] at *; omega))⟩
      | refine ⟨fun c => by (first | contradiction | (exfalso; simp only [Int32.lt_iff_toInt_lt, Int32.le_iff_toInt_le, ← Int32.toInt_inj, q_t0, q_t1, q_t2, q_t3, q_t5, q_t7, q_t9, q_t11, q_t12, q_t16, q_t20, q_t31, q_t60, q_t96, q_t99, q_t999, q_tm] at *; omega)), fun _ => ?_⟩
      | refine ⟨fun c => ?_, fun c => ?_⟩
      | refine ⟨fun c => ?_, ?_⟩
      | (refine fun c => ?_; (first | contradiction | (exfalso; simp only [Int32.lt_iff_toInt_lt, Int32.le_iff_toInt_le, ← Int32.toInt_inj, q_t0, q_t1, q_t2, q_t3, q_t5, q_t7, q_t9, q_t11, q_t12, q_t16, q_t20, q_t31, q_t60, q_t96, q_t99, q_t999, q_tm] at *; omega)))
      | (refine fun c => ?_; subst c)
      | refine fun c => ?_)
  by_cases h8 : 0 ≤ y8 ∧ y8 ≤ 999
  case neg =>
    repeat (first
      | exact trivial
      | (show False; (first | contradiction | (exfalso; simp only [Int32.lt_iff_toInt_lt, Int32.le_iff_toInt_le, ← Int32.toInt_inj, q_t0, q_t1, q_t2, q_t3, q_t5, q_t7, q_t9, q_t11, q_t12, q_t16, q_t20, q_t31, q_t60, q_t96, q_t99, q_t999, q_tm] at *; omega)))
      | exact ⟨fun _ => trivial, fun c => c rfl⟩
      | refine ⟨vin (by decide), ?_⟩
      | refine q_take (fun f9 h9 => ?_)
      | refine q_wF ?_
      | refine q_wmF ?_
      | refine ⟨fun c => absurd c (by decide), fun _ => ?_⟩
      | refine ⟨fun _ => ?_, fun c => absurd c (by decide)⟩
      | refine Or.inl ⟨rfl, ?_⟩
      | refine Or.inr ⟨rfl, ?_⟩
      | refine ⟨rfl, ?_⟩
      | refine ⟨by decide, ?_⟩
      | refine ⟨100, ?_⟩
      | (refine fun x e => ?_; rw [if_pos (by decide)] at e; subst e)
      | (refine fun x e => ?_; rw [if_neg (by decide)] at e; subst e)
      | (refine fun x e => ?_; subst e)
      | refine ⟨fun _ => ?_, fun c => by (first | contradiction | (exfalso; simp only [Int32.lt_iff_toInt_lt, Int32.le_iff_toInt_le, ← Int32.toInt_inj, q_t0, q_t1, q_t2, q_t3, q_t5, q_t7, q_t9, q_t11, q_t12, q_t16, q_t20, q_t31, q_t60, q_t96, q_t99, q_t999, q_tm] at *; omega))⟩
      | refine ⟨fun c => by (first | contradiction | (exfalso; simp only [Int32.lt_iff_toInt_lt, Int32.le_iff_toInt_le, ← Int32.toInt_inj, q_t0, q_t1, q_t2, q_t3, q_t5, q_t7, q_t9, q_t11, q_t12, q_t16, q_t20, q_t31, q_t60, q_t96, q_t99, q_t999, q_tm] at *; omega)), fun _ => ?_⟩
      | refine ⟨fun c => ?_, fun c => ?_⟩
      | refine ⟨fun c => ?_, ?_⟩
      | (refine fun c => ?_; (first | contradiction | (exfalso; simp only [Int32.lt_iff_toInt_lt, Int32.le_iff_toInt_le, ← Int32.toInt_inj, q_t0, q_t1, q_t2, q_t3, q_t5, q_t7, q_t9, q_t11, q_t12, q_t16, q_t20, q_t31, q_t60, q_t96, q_t99, q_t999, q_tm] at *; omega)))
      | (refine fun c => ?_; subst c)
      | refine fun c => ?_)
  refine fun x1 e1 x2 e2 x3 e3 x4 e4 x5 e5 x6 e6 x7 e7 x8 e8 => ?_
  rw [e1, e2, e3, e4, e5, e6, e7, e8]
  refine q_nwT h1 ?_
  refine q_nwT h2 ?_
  refine q_nwT h3 ?_
  refine q_nwT h4 ?_
  refine q_nwT h5 ?_
  refine q_nwT h6 ?_
  refine q_nwT h7 ?_
  refine q_nwT h8 ?_
  refine fun f1 d1 f2 d2 f3 d3 f4 d4 f5 d5 => ?_
  refine fun f6 d6 f7 d7 f8 d8 => ?_
  have z0 : f8 0 = y1 := by rw [d8, d7, d6, d5, d4, d3, d2, d1]; rfl
  have z1 : f8 1 = y2 := by rw [d8, d7, d6, d5, d4, d3, d2]; rfl
  refine q_reach5 (fun p => ?_)
  refine fun x e => ⟨vin (by decide), fun f9 e9 => ?_⟩
  refine fun x14 e14 x15 e15 x16 e16 x17 e17 x18 e18 x19 e19 x20 e20 x21 e21 => ?_
  rw [e14, e15, e16, e17, e18, e19, e20, e21]
  refine q_wmT h1 ⟨fun c => absurd c (by decide), fun _ => q_wmT h2 ⟨fun c => absurd c (by decide), fun _ => q_wmT h3 ⟨fun c => absurd c (by decide), fun _ => q_wmT h4 ⟨fun c => absurd c (by decide), fun _ => q_wmT h5 ⟨fun c => absurd c (by decide), fun _ => q_wmT h6 ⟨fun c => absurd c (by decide), fun _ => q_wmT h7 ⟨fun c => absurd c (by decide), fun _ => q_wmT h8 ⟨fun c => absurd c (by decide), fun _ => ?_⟩⟩⟩⟩⟩⟩⟩⟩
  refine q_mayT ⟨fun _ => ?_, fun c => absurd c (by decide)⟩
  refine fun g1 d1 g2 d2 g3 d3 g4 d4 g5 d5 => ?_
  refine fun g6 d6 g7 d7 g8 d8 => ?_
  have w0 : g8 0 = y1 := by rw [d8, d7, d6, d5, d4, d3, d2, d1]; rfl
  have w1 : g8 1 = y2 := by rw [d8, d7, d6, d5, d4, d3, d2]; rfl
  refine ⟨fun c => absurd rfl c, fun _ x4 k4 x5 k5 => q_l29 ?_ ?_⟩
  · rw [q_c0, w0] at k4
    rw [q_c1, w1] at k5
    rw [k4, k5]
    obtain ⟨a, ha, rfl⟩ := nI_of2 (M := 9) (n := 9) rfl (q_nlt.mpr h1.1) h1.2
    obtain ⟨b, hb, rfl⟩ := nI_of2 (M := 999) (n := 999) rfl (q_nlt.mpr h2.1) h2.2
    exact q_13 ⟨a, by omega⟩ ⟨b, by omega⟩
  · rw [q_c0, w0] at k4
    rw [q_c1, w1] at k5
    rw [k4, k5]
    rw [z0, z1] at e
    subst e9
    subst e
    exact q_finE q_cl
set_option maxHeartbeats 40000000 in
set_option maxRecDepth 100000 in
theorem pu_LC15 {x1 : Int32} {f2 : Nat → Int32} {f3 : Nat → Int32} {x4 : Int32} {f5 : Nat → Int32} {f6 : Nat → Int32} {x7 : Int32} {f8 : Nat → Int32} {x9 : Int32} {f10 : Nat → Int32} {f11 : Nat → Int32} {f12 : Nat → Int32} {x14 : Int32} {x15 : Int32} {x16 : Int32} {x17 : Int32} {x18 : Int32} {x19 : Int32} {x20 : Int32} {x21 : Int32} {x22 : Int32} {x23 : Int32} {x24 : Int32} {f25 : Nat → Int32} {f26 : Nat → Int32} {f27 : Nat → Int32} {f28 : Nat → Int32} {f29 : Nat → Int32} {f30 : Nat → Int32} (hX : XF x1 f2 f3 x4 f5 f6 x7 f8 x9 f10 f11 f12) (hM : MF x14 x15 x16 x17 x18 x19 x20 x21 x22 x23 x24 f25 f26 f27 f28 f29 f30) {ad13 ad31 : Nat → Nat} {ax am ao : Nat} (xs : Nat → Int32) : wc_LC15 (ad13 2) (ad13 20) 0 f11 f12 0 (fun _ => 0) 0 x18 (fun _ => 0) f29 (fun _ => 0) (.ref (ad13 2)) (.ref (ad13 20)) xs := by
  obtain ⟨rfl, rfl, rfl, rfl, rfl⟩ := hX
  obtain ⟨rfl, rfl, rfl, rfl, rfl, rfl, rfl, rfl, rfl, rfl, rfl, rfl⟩ := hM
  unfold wc_LC15
  generalize xs 1 = y1
  generalize xs 2 = y2
  by_cases h1 : 0 ≤ y1 ∧ y1 ≤ 99
  · by_cases h2 : 0 ≤ y2 ∧ y2 ≤ 2
    · obtain ⟨N, hN, rfl⟩ := nI_of2 (M := 99) (n := 99) rfl (q_nlt.mpr h1.1) h1.2
      refine fun x1 e1 x2 e2 => ?_
      subst e1
      rw [e2]
      refine q_nwT h1 ?_
      refine q_nwT h2 ?_
      refine fun f3 e3 => ?_
      subst e3
      refine ⟨N + 1, q_aheadC (N := N) (by omega) (fun g hg => ?_) N 0 _ (by omega) q_row0⟩
      refine fun x e => ⟨vin (by decide), fun f5 e5 => ?_⟩
      refine fun x7 e7 x8 e8 => ?_
      subst e7
      rw [e8]
      refine q_wmT h1 ⟨fun c => absurd c (by decide), fun _ => q_wmT h2 ⟨fun c => absurd c (by decide), fun _ => ?_⟩⟩
      refine q_mayT ⟨fun _ => ?_, fun c => absurd c (by decide)⟩
      refine q_take (fun f9 h9 => ⟨N + 1, q_aheadM (N := N) (by omega) (fun s hs => ?_) N 0 _ (by omega) (q_mrow0 h9)⟩)
      subst e5
      subst e
      exact q_finO
    ·
      repeat (first
        | exact trivial
        | (show False; (first | contradiction | (exfalso; simp only [Int32.lt_iff_toInt_lt, Int32.le_iff_toInt_le, ← Int32.toInt_inj, q_t0, q_t1, q_t2, q_t3, q_t5, q_t7, q_t9, q_t11, q_t12, q_t16, q_t20, q_t31, q_t60, q_t96, q_t99, q_t999, q_tm] at *; omega)))
        | exact ⟨fun _ => trivial, fun c => c rfl⟩
        | refine ⟨vin (by decide), ?_⟩
        | refine q_take (fun f9 h9 => ?_)
        | refine q_wF ?_
        | refine q_wmF ?_
        | refine ⟨fun c => absurd c (by decide), fun _ => ?_⟩
        | refine ⟨fun _ => ?_, fun c => absurd c (by decide)⟩
        | refine Or.inl ⟨rfl, ?_⟩
        | refine Or.inr ⟨rfl, ?_⟩
        | refine ⟨rfl, ?_⟩
        | refine ⟨by decide, ?_⟩
        | refine ⟨100, ?_⟩
        | (refine fun x e => ?_; rw [if_pos (by decide)] at e; subst e)
        | (refine fun x e => ?_; rw [if_neg (by decide)] at e; subst e)
        | (refine fun x e => ?_; subst e)
        | refine ⟨fun _ => ?_, fun c => by (first | contradiction | (exfalso; simp only [Int32.lt_iff_toInt_lt, Int32.le_iff_toInt_le, ← Int32.toInt_inj, q_t0, q_t1, q_t2, q_t3, q_t5, q_t7, q_t9, q_t11, q_t12, q_t16, q_t20, q_t31, q_t60, q_t96, q_t99, q_t999, q_tm] at *; omega))⟩
        | refine ⟨fun c => by (first | contradiction | (exfalso; simp only [Int32.lt_iff_toInt_lt, Int32.le_iff_toInt_le, ← Int32.toInt_inj, q_t0, q_t1, q_t2, q_t3, q_t5, q_t7, q_t9, q_t11, q_t12, q_t16, q_t20, q_t31, q_t60, q_t96, q_t99, q_t999, q_tm] at *; omega)), fun _ => ?_⟩
        | refine ⟨fun c => ?_, fun c => ?_⟩
        | refine ⟨fun c => ?_, ?_⟩
        | (refine fun c => ?_; (first | contradiction | (exfalso; simp only [Int32.lt_iff_toInt_lt, Int32.le_iff_toInt_le, ← Int32.toInt_inj, q_t0, q_t1, q_t2, q_t3, q_t5, q_t7, q_t9, q_t11, q_t12, q_t16, q_t20, q_t31, q_t60, q_t96, q_t99, q_t999, q_tm] at *; omega)))
        | (refine fun c => ?_; subst c)
        | refine fun c => ?_)
  ·
    repeat (first
      | exact trivial
      | (show False; (first | contradiction | (exfalso; simp only [Int32.lt_iff_toInt_lt, Int32.le_iff_toInt_le, ← Int32.toInt_inj, q_t0, q_t1, q_t2, q_t3, q_t5, q_t7, q_t9, q_t11, q_t12, q_t16, q_t20, q_t31, q_t60, q_t96, q_t99, q_t999, q_tm] at *; omega)))
      | exact ⟨fun _ => trivial, fun c => c rfl⟩
      | refine ⟨vin (by decide), ?_⟩
      | refine q_take (fun f9 h9 => ?_)
      | refine q_wF ?_
      | refine q_wmF ?_
      | refine ⟨fun c => absurd c (by decide), fun _ => ?_⟩
      | refine ⟨fun _ => ?_, fun c => absurd c (by decide)⟩
      | refine Or.inl ⟨rfl, ?_⟩
      | refine Or.inr ⟨rfl, ?_⟩
      | refine ⟨rfl, ?_⟩
      | refine ⟨by decide, ?_⟩
      | refine ⟨100, ?_⟩
      | (refine fun x e => ?_; rw [if_pos (by decide)] at e; subst e)
      | (refine fun x e => ?_; rw [if_neg (by decide)] at e; subst e)
      | (refine fun x e => ?_; subst e)
      | refine ⟨fun _ => ?_, fun c => by (first | contradiction | (exfalso; simp only [Int32.lt_iff_toInt_lt, Int32.le_iff_toInt_le, ← Int32.toInt_inj, q_t0, q_t1, q_t2, q_t3, q_t5, q_t7, q_t9, q_t11, q_t12, q_t16, q_t20, q_t31, q_t60, q_t96, q_t99, q_t999, q_tm] at *; omega))⟩
      | refine ⟨fun c => by (first | contradiction | (exfalso; simp only [Int32.lt_iff_toInt_lt, Int32.le_iff_toInt_le, ← Int32.toInt_inj, q_t0, q_t1, q_t2, q_t3, q_t5, q_t7, q_t9, q_t11, q_t12, q_t16, q_t20, q_t31, q_t60, q_t96, q_t99, q_t999, q_tm] at *; omega)), fun _ => ?_⟩
      | refine ⟨fun c => ?_, fun c => ?_⟩
      | refine ⟨fun c => ?_, ?_⟩
      | (refine fun c => ?_; (first | contradiction | (exfalso; simp only [Int32.lt_iff_toInt_lt, Int32.le_iff_toInt_le, ← Int32.toInt_inj, q_t0, q_t1, q_t2, q_t3, q_t5, q_t7, q_t9, q_t11, q_t12, q_t16, q_t20, q_t31, q_t60, q_t96, q_t99, q_t999, q_tm] at *; omega)))
      | (refine fun c => ?_; subst c)
      | refine fun c => ?_)
set_option maxHeartbeats 40000000 in
set_option maxRecDepth 100000 in
theorem pu_LC32 {x1 : Int32} {f2 : Nat → Int32} {f3 : Nat → Int32} {x4 : Int32} {f5 : Nat → Int32} {f6 : Nat → Int32} {x7 : Int32} {f8 : Nat → Int32} {x9 : Int32} {f10 : Nat → Int32} {f11 : Nat → Int32} {f12 : Nat → Int32} {x14 : Int32} {x15 : Int32} {x16 : Int32} {x17 : Int32} {x18 : Int32} {x19 : Int32} {x20 : Int32} {x21 : Int32} {x22 : Int32} {x23 : Int32} {x24 : Int32} {f25 : Nat → Int32} {f26 : Nat → Int32} {f27 : Nat → Int32} {f28 : Nat → Int32} {f29 : Nat → Int32} {f30 : Nat → Int32} (hX : XF x1 f2 f3 x4 f5 f6 x7 f8 x9 f10 f11 f12) (hM : MF x14 x15 x16 x17 x18 x19 x20 x21 x22 x23 x24 f25 f26 f27 f28 f29 f30) {ad13 ad31 : Nat → Nat} {ax am ao : Nat} (xs : Nat → Int32) : wc_LC32 (ad13 2) (ad13 20) 0 f11 f12 0 (fun _ => 0) 0 x18 0 0 (fun _ => 0) f29 (fun _ => 0) (.ref (ad13 2)) (.ref (ad13 20)) xs := by
  obtain ⟨rfl, rfl, rfl, rfl, rfl⟩ := hX
  obtain ⟨rfl, rfl, rfl, rfl, rfl, rfl, rfl, rfl, rfl, rfl, rfl, rfl⟩ := hM
  unfold wc_LC32
  generalize xs 1 = y1
  generalize xs 2 = y2
  generalize xs 3 = y3
  by_cases h2 : 1 ≤ y2 ∧ y2 ≤ 96
  · by_cases h3 : y3.toInt < 0 ∨ 3 < y3.toInt
    ·
      repeat (first
        | exact trivial
        | (show False; (first | contradiction | (exfalso; simp only [Int32.lt_iff_toInt_lt, Int32.le_iff_toInt_le, ← Int32.toInt_inj, q_t0, q_t1, q_t2, q_t3, q_t5, q_t7, q_t9, q_t11, q_t12, q_t16, q_t20, q_t31, q_t60, q_t96, q_t99, q_t999, q_tm] at *; omega)))
        | exact ⟨fun _ => trivial, fun c => c rfl⟩
        | refine ⟨vin (by decide), ?_⟩
        | refine q_take (fun f9 h9 => ?_)
        | refine q_wF ?_
        | refine q_wmF ?_
        | refine ⟨fun c => absurd c (by decide), fun _ => ?_⟩
        | refine ⟨fun _ => ?_, fun c => absurd c (by decide)⟩
        | refine Or.inl ⟨rfl, ?_⟩
        | refine Or.inr ⟨rfl, ?_⟩
        | refine ⟨rfl, ?_⟩
        | refine ⟨by decide, ?_⟩
        | refine ⟨100, ?_⟩
        | (refine fun x e => ?_; rw [if_pos (by decide)] at e; subst e)
        | (refine fun x e => ?_; rw [if_neg (by decide)] at e; subst e)
        | (refine fun x e => ?_; subst e)
        | refine ⟨fun _ => ?_, fun c => by (first | contradiction | (exfalso; simp only [Int32.lt_iff_toInt_lt, Int32.le_iff_toInt_le, ← Int32.toInt_inj, q_t0, q_t1, q_t2, q_t3, q_t5, q_t7, q_t9, q_t11, q_t12, q_t16, q_t20, q_t31, q_t60, q_t96, q_t99, q_t999, q_tm] at *; omega))⟩
        | refine ⟨fun c => by (first | contradiction | (exfalso; simp only [Int32.lt_iff_toInt_lt, Int32.le_iff_toInt_le, ← Int32.toInt_inj, q_t0, q_t1, q_t2, q_t3, q_t5, q_t7, q_t9, q_t11, q_t12, q_t16, q_t20, q_t31, q_t60, q_t96, q_t99, q_t999, q_tm] at *; omega)), fun _ => ?_⟩
        | refine ⟨fun c => ?_, fun c => ?_⟩
        | refine ⟨fun c => ?_, ?_⟩
        | (refine fun c => ?_; (first | contradiction | (exfalso; simp only [Int32.lt_iff_toInt_lt, Int32.le_iff_toInt_le, ← Int32.toInt_inj, q_t0, q_t1, q_t2, q_t3, q_t5, q_t7, q_t9, q_t11, q_t12, q_t16, q_t20, q_t31, q_t60, q_t96, q_t99, q_t999, q_tm] at *; omega)))
        | (refine fun c => ?_; subst c)
        | refine fun c => ?_)
    obtain ⟨N, hN, rfl⟩ := nI_of2 (M := 96) (n := 96) rfl (fun c => absurd (Int32.lt_of_lt_of_le c (by decide : (0 : Int32) ≤ 1)) (q_nlt.mpr h2.1)) h2.2
    rcases tsw_0_3 h3 with rfl | rfl | rfl | rfl
    · refine fun x1 e1 x2 e2 x3 e3 => ?_
      subst e2
      subst e3
      refine q_nwT h2 ?_
      refine q_nwT (by decide) ?_
      refine fun f3 e3 => ?_
      subst e3
      refine ⟨N + 1, q_drawC (N := N) (by omega) (fun g hg => ?_) N 0 _ (by omega) q_row0⟩
      refine ⟨fun c => absurd c (by decide), fun _ => ?_, fun c => absurd c (by decide), fun c => absurd c (by decide)⟩
      refine fun x e => ⟨vin (by decide), fun f5 e5 => ?_⟩
      refine fun x7 e7 x8 e8 x9 e9 => ?_
      subst e8
      subst e9
      refine q_wmT h2 ⟨fun c => absurd c (by decide), fun _ => q_wmT (by decide) ⟨fun c => absurd c (by decide), fun _ => ?_⟩⟩
      refine q_mayT ⟨fun _ => ?_, fun c => absurd c (by decide)⟩
      refine q_take (fun f9 h9 => ⟨N + 1, q_marchM (N := N) (by omega) (fun s hs => ?_) N 0 _ (by omega) (q_mrow0 h9)⟩)
      refine ⟨fun c => absurd rfl c, fun _ => ?_⟩
      subst e5
      subst e
      exact q_finO
    · refine fun x1 e1 x2 e2 x3 e3 => ?_
      subst e2
      subst e3
      refine q_nwT h2 ?_
      refine q_nwT (by decide) ?_
      refine fun f3 e3 => ?_
      subst e3
      refine ⟨N + 1, q_drawC (N := N) (by omega) (fun g hg => ?_) N 0 _ (by omega) q_row0⟩
      refine ⟨fun c => absurd c (by decide), fun c => absurd c (by decide), fun _ z ez => ?_, fun c => absurd c (by decide)⟩
      rw [q_c2, hg.2] at ez
      subst ez
      refine fun x e => ⟨vin (by decide), fun f5 e5 => ?_⟩
      refine fun x7 e7 x8 e8 x9 e9 => ?_
      subst e8
      subst e9
      refine q_wmT h2 ⟨fun c => absurd c (by decide), fun _ => q_wmT (by decide) ⟨fun c => absurd c (by decide), fun _ => ?_⟩⟩
      refine q_mayT ⟨fun _ => ?_, fun c => absurd c (by decide)⟩
      refine q_take (fun f9 h9 => ⟨N + 1, q_marchM (N := N) (by omega) (fun s hs => ?_) N 0 _ (by omega) (q_mrow0 h9)⟩)
      refine ⟨fun _ => ⟨fun c => absurd rfl c, fun _ => ⟨1, fun _ => ?_, fun c => absurd (by decide) c⟩⟩, fun c => absurd c (by decide)⟩
      subst e5
      subst e
      exact q_finO
    · refine fun x1 e1 x2 e2 x3 e3 => ?_
      subst e2
      subst e3
      refine q_nwT h2 ?_
      refine q_nwT (by decide) ?_
      refine fun f3 e3 => ?_
      subst e3
      refine ⟨N + 1, q_drawC (N := N) (by omega) (fun g hg => ?_) N 0 _ (by omega) q_row0⟩
      refine ⟨fun c => absurd c (by decide), fun c => absurd c (by decide), fun c => absurd c (by decide), fun _ => ⟨1, fun _ => ?_, fun c => absurd (by decide) c⟩⟩
      refine fun x e => ⟨vin (by decide), fun f5 e5 => ?_⟩
      refine fun x7 e7 x8 e8 x9 e9 => ?_
      subst e8
      subst e9
      refine q_wmT h2 ⟨fun c => absurd c (by decide), fun _ => q_wmT (by decide) ⟨fun c => absurd c (by decide), fun _ => ?_⟩⟩
      refine q_mayT ⟨fun _ => ?_, fun c => absurd c (by decide)⟩
      refine q_take (fun f9 h9 => ⟨N + 1, q_marchM (N := N) (by omega) (fun s hs => ?_) N 0 _ (by omega) (q_mrow0 h9)⟩)
      refine ⟨fun _ => ⟨fun _ => ⟨fun c => absurd rfl c, fun _ => ⟨1, fun _ => ?_, fun c => absurd (by decide) c⟩⟩, fun c => absurd c (by decide)⟩, fun c => absurd c (by decide)⟩
      subst e5
      subst e
      exact q_finO
    · refine fun x1 e1 x2 e2 x3 e3 => ?_
      subst e2
      subst e3
      refine q_nwT h2 ?_
      refine q_nwT (by decide) ?_
      refine fun f3 e3 => ?_
      subst e3
      refine ⟨N + 1, q_drawC (N := N) (by omega) (fun g hg => ?_) N 0 _ (by omega) q_row0⟩
      refine ⟨fun _ z ez => ?_, fun c => absurd c (by decide), fun c => absurd c (by decide), fun c => absurd c (by decide)⟩
      rw [q_c0, hg.1] at ez
      subst ez
      refine fun x e => ⟨vin (by decide), fun f5 e5 => ?_⟩
      refine fun x7 e7 x8 e8 x9 e9 => ?_
      subst e8
      subst e9
      refine q_wmT h2 ⟨fun c => absurd c (by decide), fun _ => q_wmT (by decide) ⟨fun c => absurd c (by decide), fun _ => ?_⟩⟩
      refine q_mayT ⟨fun _ => ?_, fun c => absurd c (by decide)⟩
      refine q_take (fun f9 h9 => ⟨N + 1, q_marchM (N := N) (by omega) (fun s hs => ?_) N 0 _ (by omega) (q_mrow0 h9)⟩)
      refine ⟨fun _ => ⟨fun _ => ⟨fun _ z2 ez2 => ?_, fun c => absurd c (by decide)⟩, fun c => absurd c (by decide)⟩, fun c => absurd c (by decide)⟩
      rw [q_c66, hs.1] at ez2
      subst ez2
      subst e5
      subst e
      exact q_finO
  ·
    repeat (first
      | exact trivial
      | (show False; (first | contradiction | (exfalso; simp only [Int32.lt_iff_toInt_lt, Int32.le_iff_toInt_le, ← Int32.toInt_inj, q_t0, q_t1, q_t2, q_t3, q_t5, q_t7, q_t9, q_t11, q_t12, q_t16, q_t20, q_t31, q_t60, q_t96, q_t99, q_t999, q_tm] at *; omega)))
      | exact ⟨fun _ => trivial, fun c => c rfl⟩
      | refine ⟨vin (by decide), ?_⟩
      | refine q_take (fun f9 h9 => ?_)
      | refine q_wF ?_
      | refine q_wmF ?_
      | refine ⟨fun c => absurd c (by decide), fun _ => ?_⟩
      | refine ⟨fun _ => ?_, fun c => absurd c (by decide)⟩
      | refine Or.inl ⟨rfl, ?_⟩
      | refine Or.inr ⟨rfl, ?_⟩
      | refine ⟨rfl, ?_⟩
      | refine ⟨by decide, ?_⟩
      | refine ⟨100, ?_⟩
      | (refine fun x e => ?_; rw [if_pos (by decide)] at e; subst e)
      | (refine fun x e => ?_; rw [if_neg (by decide)] at e; subst e)
      | (refine fun x e => ?_; subst e)
      | refine ⟨fun _ => ?_, fun c => by (first | contradiction | (exfalso; simp only [Int32.lt_iff_toInt_lt, Int32.le_iff_toInt_le, ← Int32.toInt_inj, q_t0, q_t1, q_t2, q_t3, q_t5, q_t7, q_t9, q_t11, q_t12, q_t16, q_t20, q_t31, q_t60, q_t96, q_t99, q_t999, q_tm] at *; omega))⟩
      | refine ⟨fun c => by (first | contradiction | (exfalso; simp only [Int32.lt_iff_toInt_lt, Int32.le_iff_toInt_le, ← Int32.toInt_inj, q_t0, q_t1, q_t2, q_t3, q_t5, q_t7, q_t9, q_t11, q_t12, q_t16, q_t20, q_t31, q_t60, q_t96, q_t99, q_t999, q_tm] at *; omega)), fun _ => ?_⟩
      | refine ⟨fun c => ?_, fun c => ?_⟩
      | refine ⟨fun c => ?_, ?_⟩
      | (refine fun c => ?_; (first | contradiction | (exfalso; simp only [Int32.lt_iff_toInt_lt, Int32.le_iff_toInt_le, ← Int32.toInt_inj, q_t0, q_t1, q_t2, q_t3, q_t5, q_t7, q_t9, q_t11, q_t12, q_t16, q_t20, q_t31, q_t60, q_t96, q_t99, q_t999, q_tm] at *; omega)))
      | (refine fun c => ?_; subst c)
      | refine fun c => ?_)
set_option maxHeartbeats 40000000 in
set_option maxRecDepth 100000 in
theorem pu_LC25 {x1 : Int32} {f2 : Nat → Int32} {f3 : Nat → Int32} {x4 : Int32} {f5 : Nat → Int32} {f6 : Nat → Int32} {x7 : Int32} {f8 : Nat → Int32} {x9 : Int32} {f10 : Nat → Int32} {f11 : Nat → Int32} {f12 : Nat → Int32} {x14 : Int32} {x15 : Int32} {x16 : Int32} {x17 : Int32} {x18 : Int32} {x19 : Int32} {x20 : Int32} {x21 : Int32} {x22 : Int32} {x23 : Int32} {x24 : Int32} {f25 : Nat → Int32} {f26 : Nat → Int32} {f27 : Nat → Int32} {f28 : Nat → Int32} {f29 : Nat → Int32} {f30 : Nat → Int32} (hX : XF x1 f2 f3 x4 f5 f6 x7 f8 x9 f10 f11 f12) (hM : MF x14 x15 x16 x17 x18 x19 x20 x21 x22 x23 x24 f25 f26 f27 f28 f29 f30) {ad13 ad31 : Nat → Nat} {ax am ao : Nat} (xs : Nat → Int32) : wc_LC25 0 (fun _ => 0) 0 (fun _ => 0) (fun _ => 0) xs := by
  obtain ⟨rfl, rfl, rfl, rfl, rfl⟩ := hX
  obtain ⟨rfl, rfl, rfl, rfl, rfl, rfl, rfl, rfl, rfl, rfl, rfl, rfl⟩ := hM
  unfold wc_LC25
  generalize xs 1 = y1
  generalize xs 2 = y2
  generalize xs 3 = y3
  generalize xs 4 = y4
  by_cases h1 : 0 ≤ y1 ∧ y1 ≤ 12
  case neg =>
    repeat (first
      | exact trivial
      | (show False; (first | contradiction | (exfalso; simp only [Int32.lt_iff_toInt_lt, Int32.le_iff_toInt_le, ← Int32.toInt_inj, q_t0, q_t1, q_t2, q_t3, q_t5, q_t7, q_t9, q_t11, q_t12, q_t16, q_t20, q_t31, q_t60, q_t96, q_t99, q_t999, q_tm] at *; omega)))
      | exact ⟨fun _ => trivial, fun c => c rfl⟩
      | refine ⟨vin (by decide), ?_⟩
      | refine q_take (fun f9 h9 => ?_)
      | refine q_wF ?_
      | refine q_wmF ?_
      | refine ⟨fun c => absurd c (by decide), fun _ => ?_⟩
      | refine ⟨fun _ => ?_, fun c => absurd c (by decide)⟩
      | refine Or.inl ⟨rfl, ?_⟩
      | refine Or.inr ⟨rfl, ?_⟩
      | refine ⟨rfl, ?_⟩
      | refine ⟨by decide, ?_⟩
      | refine ⟨100, ?_⟩
      | (refine fun x e => ?_; rw [if_pos (by decide)] at e; subst e)
      | (refine fun x e => ?_; rw [if_neg (by decide)] at e; subst e)
      | (refine fun x e => ?_; subst e)
      | refine ⟨fun _ => ?_, fun c => by (first | contradiction | (exfalso; simp only [Int32.lt_iff_toInt_lt, Int32.le_iff_toInt_le, ← Int32.toInt_inj, q_t0, q_t1, q_t2, q_t3, q_t5, q_t7, q_t9, q_t11, q_t12, q_t16, q_t20, q_t31, q_t60, q_t96, q_t99, q_t999, q_tm] at *; omega))⟩
      | refine ⟨fun c => by (first | contradiction | (exfalso; simp only [Int32.lt_iff_toInt_lt, Int32.le_iff_toInt_le, ← Int32.toInt_inj, q_t0, q_t1, q_t2, q_t3, q_t5, q_t7, q_t9, q_t11, q_t12, q_t16, q_t20, q_t31, q_t60, q_t96, q_t99, q_t999, q_tm] at *; omega)), fun _ => ?_⟩
      | refine ⟨fun c => ?_, fun c => ?_⟩
      | refine ⟨fun c => ?_, ?_⟩
      | (refine fun c => ?_; (first | contradiction | (exfalso; simp only [Int32.lt_iff_toInt_lt, Int32.le_iff_toInt_le, ← Int32.toInt_inj, q_t0, q_t1, q_t2, q_t3, q_t5, q_t7, q_t9, q_t11, q_t12, q_t16, q_t20, q_t31, q_t60, q_t96, q_t99, q_t999, q_tm] at *; omega)))
      | (refine fun c => ?_; subst c)
      | refine fun c => ?_)
  by_cases h2 : 0 ≤ y2 ∧ y2 ≤ 12
  case neg =>
    repeat (first
      | exact trivial
      | (show False; (first | contradiction | (exfalso; simp only [Int32.lt_iff_toInt_lt, Int32.le_iff_toInt_le, ← Int32.toInt_inj, q_t0, q_t1, q_t2, q_t3, q_t5, q_t7, q_t9, q_t11, q_t12, q_t16, q_t20, q_t31, q_t60, q_t96, q_t99, q_t999, q_tm] at *; omega)))
      | exact ⟨fun _ => trivial, fun c => c rfl⟩
      | refine ⟨vin (by decide), ?_⟩
      | refine q_take (fun f9 h9 => ?_)
      | refine q_wF ?_
      | refine q_wmF ?_
      | refine ⟨fun c => absurd c (by decide), fun _ => ?_⟩
      | refine ⟨fun _ => ?_, fun c => absurd c (by decide)⟩
      | refine Or.inl ⟨rfl, ?_⟩
      | refine Or.inr ⟨rfl, ?_⟩
      | refine ⟨rfl, ?_⟩
      | refine ⟨by decide, ?_⟩
      | refine ⟨100, ?_⟩
      | (refine fun x e => ?_; rw [if_pos (by decide)] at e; subst e)
      | (refine fun x e => ?_; rw [if_neg (by decide)] at e; subst e)
      | (refine fun x e => ?_; subst e)
      | refine ⟨fun _ => ?_, fun c => by (first | contradiction | (exfalso; simp only [Int32.lt_iff_toInt_lt, Int32.le_iff_toInt_le, ← Int32.toInt_inj, q_t0, q_t1, q_t2, q_t3, q_t5, q_t7, q_t9, q_t11, q_t12, q_t16, q_t20, q_t31, q_t60, q_t96, q_t99, q_t999, q_tm] at *; omega))⟩
      | refine ⟨fun c => by (first | contradiction | (exfalso; simp only [Int32.lt_iff_toInt_lt, Int32.le_iff_toInt_le, ← Int32.toInt_inj, q_t0, q_t1, q_t2, q_t3, q_t5, q_t7, q_t9, q_t11, q_t12, q_t16, q_t20, q_t31, q_t60, q_t96, q_t99, q_t999, q_tm] at *; omega)), fun _ => ?_⟩
      | refine ⟨fun c => ?_, fun c => ?_⟩
      | refine ⟨fun c => ?_, ?_⟩
      | (refine fun c => ?_; (first | contradiction | (exfalso; simp only [Int32.lt_iff_toInt_lt, Int32.le_iff_toInt_le, ← Int32.toInt_inj, q_t0, q_t1, q_t2, q_t3, q_t5, q_t7, q_t9, q_t11, q_t12, q_t16, q_t20, q_t31, q_t60, q_t96, q_t99, q_t999, q_tm] at *; omega)))
      | (refine fun c => ?_; subst c)
      | refine fun c => ?_)
  by_cases h3 : 0 ≤ y3 ∧ y3 ≤ 16
  case neg =>
    repeat (first
      | exact trivial
      | (show False; (first | contradiction | (exfalso; simp only [Int32.lt_iff_toInt_lt, Int32.le_iff_toInt_le, ← Int32.toInt_inj, q_t0, q_t1, q_t2, q_t3, q_t5, q_t7, q_t9, q_t11, q_t12, q_t16, q_t20, q_t31, q_t60, q_t96, q_t99, q_t999, q_tm] at *; omega)))
      | exact ⟨fun _ => trivial, fun c => c rfl⟩
      | refine ⟨vin (by decide), ?_⟩
      | refine q_take (fun f9 h9 => ?_)
      | refine q_wF ?_
      | refine q_wmF ?_
      | refine ⟨fun c => absurd c (by decide), fun _ => ?_⟩
      | refine ⟨fun _ => ?_, fun c => absurd c (by decide)⟩
      | refine Or.inl ⟨rfl, ?_⟩
      | refine Or.inr ⟨rfl, ?_⟩
      | refine ⟨rfl, ?_⟩
      | refine ⟨by decide, ?_⟩
      | refine ⟨100, ?_⟩
      | (refine fun x e => ?_; rw [if_pos (by decide)] at e; subst e)
      | (refine fun x e => ?_; rw [if_neg (by decide)] at e; subst e)
      | (refine fun x e => ?_; subst e)
      | refine ⟨fun _ => ?_, fun c => by (first | contradiction | (exfalso; simp only [Int32.lt_iff_toInt_lt, Int32.le_iff_toInt_le, ← Int32.toInt_inj, q_t0, q_t1, q_t2, q_t3, q_t5, q_t7, q_t9, q_t11, q_t12, q_t16, q_t20, q_t31, q_t60, q_t96, q_t99, q_t999, q_tm] at *; omega))⟩
      | refine ⟨fun c => by (first | contradiction | (exfalso; simp only [Int32.lt_iff_toInt_lt, Int32.le_iff_toInt_le, ← Int32.toInt_inj, q_t0, q_t1, q_t2, q_t3, q_t5, q_t7, q_t9, q_t11, q_t12, q_t16, q_t20, q_t31, q_t60, q_t96, q_t99, q_t999, q_tm] at *; omega)), fun _ => ?_⟩
      | refine ⟨fun c => ?_, fun c => ?_⟩
      | refine ⟨fun c => ?_, ?_⟩
      | (refine fun c => ?_; (first | contradiction | (exfalso; simp only [Int32.lt_iff_toInt_lt, Int32.le_iff_toInt_le, ← Int32.toInt_inj, q_t0, q_t1, q_t2, q_t3, q_t5, q_t7, q_t9, q_t11, q_t12, q_t16, q_t20, q_t31, q_t60, q_t96, q_t99, q_t999, q_tm] at *; omega)))
      | (refine fun c => ?_; subst c)
      | refine fun c => ?_)
  by_cases h4 : 0 ≤ y4 ∧ y4 ≤ 1
  case neg =>
    repeat (first
      | exact trivial
      | (show False; (first | contradiction | (exfalso; simp only [Int32.lt_iff_toInt_lt, Int32.le_iff_toInt_le, ← Int32.toInt_inj, q_t0, q_t1, q_t2, q_t3, q_t5, q_t7, q_t9, q_t11, q_t12, q_t16, q_t20, q_t31, q_t60, q_t96, q_t99, q_t999, q_tm] at *; omega)))
      | exact ⟨fun _ => trivial, fun c => c rfl⟩
      | refine ⟨vin (by decide), ?_⟩
      | refine q_take (fun f9 h9 => ?_)
      | refine q_wF ?_
      | refine q_wmF ?_
      | refine ⟨fun c => absurd c (by decide), fun _ => ?_⟩
      | refine ⟨fun _ => ?_, fun c => absurd c (by decide)⟩
      | refine Or.inl ⟨rfl, ?_⟩
      | refine Or.inr ⟨rfl, ?_⟩
      | refine ⟨rfl, ?_⟩
      | refine ⟨by decide, ?_⟩
      | refine ⟨100, ?_⟩
      | (refine fun x e => ?_; rw [if_pos (by decide)] at e; subst e)
      | (refine fun x e => ?_; rw [if_neg (by decide)] at e; subst e)
      | (refine fun x e => ?_; subst e)
      | refine ⟨fun _ => ?_, fun c => by (first | contradiction | (exfalso; simp only [Int32.lt_iff_toInt_lt, Int32.le_iff_toInt_le, ← Int32.toInt_inj, q_t0, q_t1, q_t2, q_t3, q_t5, q_t7, q_t9, q_t11, q_t12, q_t16, q_t20, q_t31, q_t60, q_t96, q_t99, q_t999, q_tm] at *; omega))⟩
      | refine ⟨fun c => by (first | contradiction | (exfalso; simp only [Int32.lt_iff_toInt_lt, Int32.le_iff_toInt_le, ← Int32.toInt_inj, q_t0, q_t1, q_t2, q_t3, q_t5, q_t7, q_t9, q_t11, q_t12, q_t16, q_t20, q_t31, q_t60, q_t96, q_t99, q_t999, q_tm] at *; omega)), fun _ => ?_⟩
      | refine ⟨fun c => ?_, fun c => ?_⟩
      | refine ⟨fun c => ?_, ?_⟩
      | (refine fun c => ?_; (first | contradiction | (exfalso; simp only [Int32.lt_iff_toInt_lt, Int32.le_iff_toInt_le, ← Int32.toInt_inj, q_t0, q_t1, q_t2, q_t3, q_t5, q_t7, q_t9, q_t11, q_t12, q_t16, q_t20, q_t31, q_t60, q_t96, q_t99, q_t999, q_tm] at *; omega)))
      | (refine fun c => ?_; subst c)
      | refine fun c => ?_)
  obtain ⟨N, hN, rfl⟩ := nI_of2 (M := 12) (n := 12) rfl (q_nlt.mpr h1.1) h1.2
  obtain ⟨K, hK, rfl⟩ := nI_of2 (M := 12) (n := 12) rfl (q_nlt.mpr h2.1) h2.2
  obtain ⟨q, hq, rfl⟩ := nI_of2 (M := 16) (n := 16) rfl (q_nlt.mpr h3.1) h3.2
  have hb := fin_at (n := N) (k := K) (q := q) (by omega) (by omega) (by omega)
  have hp := p16 (n := N) (by omega)
  have hm : min K N ≤ K := Nat.min_le_left K N
  have hU : ss N q (K + 1) < 2 ^ 62 := Nat.lt_of_lt_of_le hb.2.1 (by decide)
  refine fun x1 e1 x2 e2 x3 e3 x4 e4 => ?_
  rw [e1, e2, e3, e4]
  refine q_nwT h1 ?_
  refine q_nwT h2 ?_
  refine q_nwT h3 ?_
  refine q_nwT h4 ?_
  refine ⟨min K N + 2, q_fewC (by omega) (by omega) (by omega) ?_ (min K N + 1) 0 (by omega)⟩
  rw [hb.1, hb.2.2]
  refine ⟨fun c => ⟨vin (by decide), fun f5 e5 => ?_⟩, fun c => ⟨vin (by decide), fun f5 e5 => ?_⟩⟩
  · refine fun x8 e8 x9 e9 x10 e10 x11 e11 => ?_
    rw [e8, e9, e10, e11]
    refine q_wmT h1 ⟨fun c => absurd c (by decide), fun _ => q_wmT h2 ⟨fun c => absurd c (by decide), fun _ => q_wmT h3 ⟨fun c => absurd c (by decide), fun _ => q_wmT h4 ⟨fun c => absurd c (by decide), fun _ => ?_⟩⟩⟩⟩
    refine q_mayT ⟨fun _ => ?_, fun c => absurd c (by decide)⟩
    refine ⟨15, q_f64 (by omega) (by omega) (by omega) (fun f hf => q_least hU hp.2 hp.1 ?_) 14 0 _ (by omega) (fun j h => absurd h (Nat.not_lt_zero j))⟩
    rw [if_neg c]
    subst e5
    exact q_finO
  · refine fun x8 e8 x9 e9 x10 e10 x11 e11 => ?_
    rw [e8, e9, e10, e11]
    refine q_wmT h1 ⟨fun c => absurd c (by decide), fun _ => q_wmT h2 ⟨fun c => absurd c (by decide), fun _ => q_wmT h3 ⟨fun c => absurd c (by decide), fun _ => q_wmT h4 ⟨fun c => absurd c (by decide), fun _ => ?_⟩⟩⟩⟩
    refine q_mayT ⟨fun _ => ?_, fun c => absurd c (by decide)⟩
    refine ⟨15, q_f64 (by omega) (by omega) (by omega) (fun f hf => q_least hU hp.2 hp.1 ?_) 14 0 _ (by omega) (fun j h => absurd h (Nat.not_lt_zero j))⟩
    rw [if_pos c]
    subst e5
    exact q_finO
