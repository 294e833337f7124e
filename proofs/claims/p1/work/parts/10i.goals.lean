set_option maxHeartbeats 40000000 in
set_option maxRecDepth 100000 in
theorem pu_LC2 {x1 : Int32} {f2 : Nat → Int32} {f3 : Nat → Int32} {x4 : Int32} {f5 : Nat → Int32} {f6 : Nat → Int32} {x7 : Int32} {f8 : Nat → Int32} {x9 : Int32} {f10 : Nat → Int32} {f11 : Nat → Int32} {f12 : Nat → Int32} {x14 : Int32} {x15 : Int32} {x16 : Int32} {x17 : Int32} {x18 : Int32} {x19 : Int32} {x20 : Int32} {x21 : Int32} {x22 : Int32} {x23 : Int32} {x24 : Int32} {f25 : Nat → Int32} {f26 : Nat → Int32} {f27 : Nat → Int32} {f28 : Nat → Int32} {f29 : Nat → Int32} {f30 : Nat → Int32} (hX : XF x1 f2 f3 x4 f5 f6 x7 f8 x9 f10 f11 f12) (hM : MF x14 x15 x16 x17 x18 x19 x20 x21 x22 x23 x24 f25 f26 f27 f28 f29 f30) {ad13 ad31 : Nat → Nat} {ax am ao : Nat} (xs : Nat → Int32) : wc_LC2 0 0 0 0 0 0 (-1) x4 (fun _ => 0) 0 0 0 0 0 0 0 (-1) 0 (fun _ => 0) xs := by
  obtain ⟨rfl, rfl, rfl, rfl, rfl⟩ := hX
  obtain ⟨rfl, rfl, rfl, rfl, rfl, rfl, rfl, rfl, rfl, rfl, rfl, rfl⟩ := hM
  unfold wc_LC2
  generalize xs 1 = y1
  by_cases h0 : y1 = 0
  · subst h0
    repeat (first
      | exact trivial
      | (show False; (first | contradiction | (exfalso; simp only [Int32.lt_iff_toInt_lt, Int32.le_iff_toInt_le, ← Int32.toInt_inj, q_t0, q_t1, q_t2, q_t3, q_t5, q_t7, q_t9, q_t11, q_t12, q_t16, q_t20, q_t31, q_t60, q_t96, q_t99, q_t999, q_tm] at *; omega)))
      | exact ⟨fun _ => trivial, fun c => c rfl⟩
      | refine ⟨vin (by decide), ?_⟩
      | refine q_take (fun f9 h9 => ?_)
      | refine q_wF ?_
      | refine q_wmF ?_
      | refine ⟨fun c => absurd c (by decide), fun _ => ?_⟩
      | refine ⟨fun _ => ?_, fun c => absurd c (by decide)⟩
      | refine Or.inl ⟨rfl, ?_⟩
      | refine Or.inr ⟨rfl, ?_⟩
      | refine ⟨rfl, ?_⟩
      | refine ⟨by decide, ?_⟩
      | refine ⟨100, ?_⟩
      | (refine fun x e => ?_; rw [if_pos (by decide)] at e; subst e)
      | (refine fun x e => ?_; rw [if_neg (by decide)] at e; subst e)
      | (refine fun x e => ?_; subst e)
      | refine ⟨fun _ => ?_, fun c => by (first | contradiction | (exfalso; simp only [Int32.lt_iff_toInt_lt, Int32.le_iff_toInt_le, ← Int32.toInt_inj, q_t0, q_t1, q_t2, q_t3, q_t5, q_t7, q_t9, q_t11, q_t12, q_t16, q_t20, q_t31, q_t60, q_t96, q_t99, q_t999, q_tm] at *; omega))⟩
      | refine ⟨fun c => by (first | contradiction | (exfalso; simp only [Int32.lt_iff_toInt_lt, Int32.le_iff_toInt_le, ← Int32.toInt_inj, q_t0, q_t1, q_t2, q_t3, q_t5, q_t7, q_t9, q_t11, q_t12, q_t16, q_t20, q_t31, q_t60, q_t96, q_t99, q_t999, q_tm] at *; omega)), fun _ => ?_⟩
      | refine ⟨fun c => ?_, fun c => ?_⟩
      | refine ⟨fun c => ?_, ?_⟩
      | (refine fun c => ?_; (first | contradiction | (exfalso; simp only [Int32.lt_iff_toInt_lt, Int32.le_iff_toInt_le, ← Int32.toInt_inj, q_t0, q_t1, q_t2, q_t3, q_t5, q_t7, q_t9, q_t11, q_t12, q_t16, q_t20, q_t31, q_t60, q_t96, q_t99, q_t999, q_tm] at *; omega)))
      | (refine fun c => ?_; subst c)
      | refine fun c => ?_)
  ·
    repeat (first
      | exact trivial
      | (show False; (first | contradiction | (exfalso; simp only [Int32.lt_iff_toInt_lt, Int32.le_iff_toInt_le, ← Int32.toInt_inj, q_t0, q_t1, q_t2, q_t3, q_t5, q_t7, q_t9, q_t11, q_t12, q_t16, q_t20, q_t31, q_t60, q_t96, q_t99, q_t999, q_tm] at *; omega)))
      | exact ⟨fun _ => trivial, fun c => c rfl⟩
      | refine ⟨vin (by decide), ?_⟩
      | refine q_take (fun f9 h9 => ?_)
      | refine q_wF ?_
      | refine q_wmF ?_
      | refine ⟨fun c => absurd c (by decide), fun _ => ?_⟩
      | refine ⟨fun _ => ?_, fun c => absurd c (by decide)⟩
      | refine Or.inl ⟨rfl, ?_⟩
      | refine Or.inr ⟨rfl, ?_⟩
      | refine ⟨rfl, ?_⟩
      | refine ⟨by decide, ?_⟩
      | refine ⟨100, ?_⟩
      | (refine fun x e => ?_; rw [if_pos (by decide)] at e; subst e)
      | (refine fun x e => ?_; rw [if_neg (by decide)] at e; subst e)
      | (refine fun x e => ?_; subst e)
      | refine ⟨fun _ => ?_, fun c => by (first | contradiction | (exfalso; simp only [Int32.lt_iff_toInt_lt, Int32.le_iff_toInt_le, ← Int32.toInt_inj, q_t0, q_t1, q_t2, q_t3, q_t5, q_t7, q_t9, q_t11, q_t12, q_t16, q_t20, q_t31, q_t60, q_t96, q_t99, q_t999, q_tm] at *; omega))⟩
      | refine ⟨fun c => by (first | contradiction | (exfalso; simp only [Int32.lt_iff_toInt_lt, Int32.le_iff_toInt_le, ← Int32.toInt_inj, q_t0, q_t1, q_t2, q_t3, q_t5, q_t7, q_t9, q_t11, q_t12, q_t16, q_t20, q_t31, q_t60, q_t96, q_t99, q_t999, q_tm] at *; omega)), fun _ => ?_⟩
      | refine ⟨fun c => ?_, fun c => ?_⟩
      | refine ⟨fun c => ?_, ?_⟩
      | (refine fun c => ?_; (first | contradiction | (exfalso; simp only [Int32.lt_iff_toInt_lt, Int32.le_iff_toInt_le, ← Int32.toInt_inj, q_t0, q_t1, q_t2, q_t3, q_t5, q_t7, q_t9, q_t11, q_t12, q_t16, q_t20, q_t31, q_t60, q_t96, q_t99, q_t999, q_tm] at *; omega)))
      | (refine fun c => ?_; subst c)
      | refine fun c => ?_)
