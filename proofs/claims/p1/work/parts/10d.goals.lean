set_option maxHeartbeats 40000000 in
set_option maxRecDepth 100000 in
theorem pu_LC5 {x1 : Int32} {f2 : Nat → Int32} {f3 : Nat → Int32} {x4 : Int32} {f5 : Nat → Int32} {f6 : Nat → Int32} {x7 : Int32} {f8 : Nat → Int32} {x9 : Int32} {f10 : Nat → Int32} {f11 : Nat → Int32} {f12 : Nat → Int32} {x14 : Int32} {x15 : Int32} {x16 : Int32} {x17 : Int32} {x18 : Int32} {x19 : Int32} {x20 : Int32} {x21 : Int32} {x22 : Int32} {x23 : Int32} {x24 : Int32} {f25 : Nat → Int32} {f26 : Nat → Int32} {f27 : Nat → Int32} {f28 : Nat → Int32} {f29 : Nat → Int32} {f30 : Nat → Int32} (hX : XF x1 f2 f3 x4 f5 f6 x7 f8 x9 f10 f11 f12) (hM : MF x14 x15 x16 x17 x18 x19 x20 x21 x22 x23 x24 f25 f26 f27 f28 f29 f30) {ad13 ad31 : Nat → Nat} {ax am ao : Nat} (xs : Nat → Int32) : wc_LC5 (-1) 0 (-1) xs := by
  obtain ⟨rfl, rfl, rfl, rfl, rfl⟩ := hX
  obtain ⟨rfl, rfl, rfl, rfl, rfl, rfl, rfl, rfl, rfl, rfl, rfl, rfl⟩ := hM
  unfold wc_LC5
  try unfold wq_L_fault
  try unfold wq_X10_fault
  try unfold wq_X11_fault
  try generalize xs 1 = y1
  try generalize xs 2 = y2
  try generalize xs 3 = y3
  try generalize xs 4 = y4
  try generalize xs 5 = y5
  try generalize xs 6 = y6
  try generalize xs 7 = y7
  try generalize xs 8 = y8
  repeat (first
    | exact trivial
    | (show False; (first | contradiction | (exfalso; simp only [Int32.lt_iff_toInt_lt, Int32.le_iff_toInt_le, ← Int32.toInt_inj, q_t0, q_t1, q_t2, q_t3, q_t5, q_t7, q_t9, q_t11, q_t12, q_t16, q_t20, q_t31, q_t60, q_t96, q_t99, q_t999, q_tm] at *; omega)))
    | exact ⟨fun _ => trivial, fun c => c rfl⟩
    | refine ⟨vin (by decide), ?_⟩
    | refine q_take (fun f9 h9 => ?_)
    | refine q_wF ?_
    | refine q_wmF ?_
    | refine ⟨fun c => absurd c (by decide), fun _ => ?_⟩
    | refine ⟨fun _ => ?_, fun c => absurd c (by decide)⟩
    | refine Or.inl ⟨rfl, ?_⟩
    | refine Or.inr ⟨rfl, ?_⟩
    | refine ⟨rfl, ?_⟩
    | refine ⟨by decide, ?_⟩
    | refine ⟨100, ?_⟩
    | (refine fun x e => ?_; rw [if_pos (by decide)] at e; subst e)
    | (refine fun x e => ?_; rw [if_neg (by decide)] at e; subst e)
    | (refine fun x e => ?_; subst e)
    | refine ⟨fun _ => ?_, fun c => by (first | contradiction | (exfalso; simp only [Int32.lt_iff_toInt_lt, Int32.le_iff_toInt_le, ← Int32.toInt_inj, q_t0, q_t1, q_t2, q_t3, q_t5, q_t7, q_t9, q_t11, q_t12, q_t16, q_t20, q_t31, q_t60, q_t96, q_t99, q_t999, q_tm] at *; omega))⟩
    | refine ⟨fun c => by (first | contradiction | (exfalso; simp only [Int32.lt_iff_toInt_lt, Int32.le_iff_toInt_le, ← Int32.toInt_inj, q_t0, q_t1, q_t2, q_t3, q_t5, q_t7, q_t9, q_t11, q_t12, q_t16, q_t20, q_t31, q_t60, q_t96, q_t99, q_t999, q_tm] at *; omega)), fun _ => ?_⟩
    | refine ⟨fun c => ?_, fun c => ?_⟩
    | refine ⟨fun c => ?_, ?_⟩
    | (refine fun c => ?_; (first | contradiction | (exfalso; simp only [Int32.lt_iff_toInt_lt, Int32.le_iff_toInt_le, ← Int32.toInt_inj, q_t0, q_t1, q_t2, q_t3, q_t5, q_t7, q_t9, q_t11, q_t12, q_t16, q_t20, q_t31, q_t60, q_t96, q_t99, q_t999, q_tm] at *; omega)))
    | (refine fun c => ?_; subst c)
    | refine fun c => ?_)
set_option maxHeartbeats 40000000 in
set_option maxRecDepth 100000 in
theorem pu_LC6 {x1 : Int32} {f2 : Nat → Int32} {f3 : Nat → Int32} {x4 : Int32} {f5 : Nat → Int32} {f6 : Nat → Int32} {x7 : Int32} {f8 : Nat → Int32} {x9 : Int32} {f10 : Nat → Int32} {f11 : Nat → Int32} {f12 : Nat → Int32} {x14 : Int32} {x15 : Int32} {x16 : Int32} {x17 : Int32} {x18 : Int32} {x19 : Int32} {x20 : Int32} {x21 : Int32} {x22 : Int32} {x23 : Int32} {x24 : Int32} {f25 : Nat → Int32} {f26 : Nat → Int32} {f27 : Nat → Int32} {f28 : Nat → Int32} {f29 : Nat → Int32} {f30 : Nat → Int32} (hX : XF x1 f2 f3 x4 f5 f6 x7 f8 x9 f10 f11 f12) (hM : MF x14 x15 x16 x17 x18 x19 x20 x21 x22 x23 x24 f25 f26 f27 f28 f29 f30) {ad13 ad31 : Nat → Nat} {ax am ao : Nat} (xs : Nat → Int32) : wc_LC6 0 0 x21 xs := by
  obtain ⟨rfl, rfl, rfl, rfl, rfl⟩ := hX
  obtain ⟨rfl, rfl, rfl, rfl, rfl, rfl, rfl, rfl, rfl, rfl, rfl, rfl⟩ := hM
  unfold wc_LC6
  try unfold wq_L_undo
  try unfold wq_X10_undo
  try unfold wq_X11_undo
  try generalize xs 1 = y1
  try generalize xs 2 = y2
  try generalize xs 3 = y3
  try generalize xs 4 = y4
  try generalize xs 5 = y5
  try generalize xs 6 = y6
  try generalize xs 7 = y7
  try generalize xs 8 = y8
  repeat (first
    | exact trivial
    | (show False; (first | contradiction | (exfalso; simp only [Int32.lt_iff_toInt_lt, Int32.le_iff_toInt_le, ← Int32.toInt_inj, q_t0, q_t1, q_t2, q_t3, q_t5, q_t7, q_t9, q_t11, q_t12, q_t16, q_t20, q_t31, q_t60, q_t96, q_t99, q_t999, q_tm] at *; omega)))
    | exact ⟨fun _ => trivial, fun c => c rfl⟩
    | refine ⟨vin (by decide), ?_⟩
    | refine q_take (fun f9 h9 => ?_)
    | refine q_wF ?_
    | refine q_wmF ?_
    | refine ⟨fun c => absurd c (by decide), fun _ => ?_⟩
    | refine ⟨fun _ => ?_, fun c => absurd c (by decide)⟩
    | refine Or.inl ⟨rfl, ?_⟩
    | refine Or.inr ⟨rfl, ?_⟩
    | refine ⟨rfl, ?_⟩
    | refine ⟨by decide, ?_⟩
    | refine ⟨100, ?_⟩
    | (refine fun x e => ?_; rw [if_pos (by decide)] at e; subst e)
    | (refine fun x e => ?_; rw [if_neg (by decide)] at e; subst e)
    | (refine fun x e => ?_; subst e)
    | refine ⟨fun _ => ?_, fun c => by (first | contradiction | (exfalso; simp only [Int32.lt_iff_toInt_lt, Int32.le_iff_toInt_le, ← Int32.toInt_inj, q_t0, q_t1, q_t2, q_t3, q_t5, q_t7, q_t9, q_t11, q_t12, q_t16, q_t20, q_t31, q_t60, q_t96, q_t99, q_t999, q_tm] at *; omega))⟩
    | refine ⟨fun c => by (first | contradiction | (exfalso; simp only [Int32.lt_iff_toInt_lt, Int32.le_iff_toInt_le, ← Int32.toInt_inj, q_t0, q_t1, q_t2, q_t3, q_t5, q_t7, q_t9, q_t11, q_t12, q_t16, q_t20, q_t31, q_t60, q_t96, q_t99, q_t999, q_tm] at *; omega)), fun _ => ?_⟩
    | refine ⟨fun c => ?_, fun c => ?_⟩
    | refine ⟨fun c => ?_, ?_⟩
    | (refine fun c => ?_; (first | contradiction | (exfalso; simp only [Int32.lt_iff_toInt_lt, Int32.le_iff_toInt_le, ← Int32.toInt_inj, q_t0, q_t1, q_t2, q_t3, q_t5, q_t7, q_t9, q_t11, q_t12, q_t16, q_t20, q_t31, q_t60, q_t96, q_t99, q_t999, q_tm] at *; omega)))
    | (refine fun c => ?_; subst c)
    | refine fun c => ?_)
set_option maxHeartbeats 40000000 in
set_option maxRecDepth 100000 in
theorem pu_LC35 {x1 : Int32} {f2 : Nat → Int32} {f3 : Nat → Int32} {x4 : Int32} {f5 : Nat → Int32} {f6 : Nat → Int32} {x7 : Int32} {f8 : Nat → Int32} {x9 : Int32} {f10 : Nat → Int32} {f11 : Nat → Int32} {f12 : Nat → Int32} {x14 : Int32} {x15 : Int32} {x16 : Int32} {x17 : Int32} {x18 : Int32} {x19 : Int32} {x20 : Int32} {x21 : Int32} {x22 : Int32} {x23 : Int32} {x24 : Int32} {f25 : Nat → Int32} {f26 : Nat → Int32} {f27 : Nat → Int32} {f28 : Nat → Int32} {f29 : Nat → Int32} {f30 : Nat → Int32} (hX : XF x1 f2 f3 x4 f5 f6 x7 f8 x9 f10 f11 f12) (hM : MF x14 x15 x16 x17 x18 x19 x20 x21 x22 x23 x24 f25 f26 f27 f28 f29 f30) {ad13 ad31 : Nat → Nat} {ax am ao : Nat} (xs : Nat → Int32) : wc_LC35 0 0 x24 xs := by
  obtain ⟨rfl, rfl, rfl, rfl, rfl⟩ := hX
  obtain ⟨rfl, rfl, rfl, rfl, rfl, rfl, rfl, rfl, rfl, rfl, rfl, rfl⟩ := hM
  unfold wc_LC35
  try unfold wq_L_restore
  try unfold wq_X10_restore
  try unfold wq_X11_restore
  try generalize xs 1 = y1
  try generalize xs 2 = y2
  try generalize xs 3 = y3
  try generalize xs 4 = y4
  try generalize xs 5 = y5
  try generalize xs 6 = y6
  try generalize xs 7 = y7
  try generalize xs 8 = y8
  repeat (first
    | exact trivial
    | (show False; (first | contradiction | (exfalso; simp only [Int32.lt_iff_toInt_lt, Int32.le_iff_toInt_le, ← Int32.toInt_inj, q_t0, q_t1, q_t2, q_t3, q_t5, q_t7, q_t9, q_t11, q_t12, q_t16, q_t20, q_t31, q_t60, q_t96, q_t99, q_t999, q_tm] at *; omega)))
    | exact ⟨fun _ => trivial, fun c => c rfl⟩
    | refine ⟨vin (by decide), ?_⟩
    | refine q_take (fun f9 h9 => ?_)
    | refine q_wF ?_
    | refine q_wmF ?_
    | refine ⟨fun c => absurd c (by decide), fun _ => ?_⟩
    | refine ⟨fun _ => ?_, fun c => absurd c (by decide)⟩
    | refine Or.inl ⟨rfl, ?_⟩
    | refine Or.inr ⟨rfl, ?_⟩
    | refine ⟨rfl, ?_⟩
    | refine ⟨by decide, ?_⟩
    | refine ⟨100, ?_⟩
    | (refine fun x e => ?_; rw [if_pos (by decide)] at e; subst e)
    | (refine fun x e => ?_; rw [if_neg (by decide)] at e; subst e)
    | (refine fun x e => ?_; subst e)
    | refine ⟨fun _ => ?_, fun c => by (first | contradiction | (exfalso; simp only [Int32.lt_iff_toInt_lt, Int32.le_iff_toInt_le, ← Int32.toInt_inj, q_t0, q_t1, q_t2, q_t3, q_t5, q_t7, q_t9, q_t11, q_t12, q_t16, q_t20, q_t31, q_t60, q_t96, q_t99, q_t999, q_tm] at *; omega))⟩
    | refine ⟨fun c => by (first | contradiction | (exfalso; simp only [Int32.lt_iff_toInt_lt, Int32.le_iff_toInt_le, ← Int32.toInt_inj, q_t0, q_t1, q_t2, q_t3, q_t5, q_t7, q_t9, q_t11, q_t12, q_t16, q_t20, q_t31, q_t60, q_t96, q_t99, q_t999, q_tm] at *; omega)), fun _ => ?_⟩
    | refine ⟨fun c => ?_, fun c => ?_⟩
    | refine ⟨fun c => ?_, ?_⟩
    | (refine fun c => ?_; (first | contradiction | (exfalso; simp only [Int32.lt_iff_toInt_lt, Int32.le_iff_toInt_le, ← Int32.toInt_inj, q_t0, q_t1, q_t2, q_t3, q_t5, q_t7, q_t9, q_t11, q_t12, q_t16, q_t20, q_t31, q_t60, q_t96, q_t99, q_t999, q_tm] at *; omega)))
    | (refine fun c => ?_; subst c)
    | refine fun c => ?_)
set_option maxHeartbeats 40000000 in
set_option maxRecDepth 100000 in
theorem pu_LC36 {x1 : Int32} {f2 : Nat → Int32} {f3 : Nat → Int32} {x4 : Int32} {f5 : Nat → Int32} {f6 : Nat → Int32} {x7 : Int32} {f8 : Nat → Int32} {x9 : Int32} {f10 : Nat → Int32} {f11 : Nat → Int32} {f12 : Nat → Int32} {x14 : Int32} {x15 : Int32} {x16 : Int32} {x17 : Int32} {x18 : Int32} {x19 : Int32} {x20 : Int32} {x21 : Int32} {x22 : Int32} {x23 : Int32} {x24 : Int32} {f25 : Nat → Int32} {f26 : Nat → Int32} {f27 : Nat → Int32} {f28 : Nat → Int32} {f29 : Nat → Int32} {f30 : Nat → Int32} (hX : XF x1 f2 f3 x4 f5 f6 x7 f8 x9 f10 f11 f12) (hM : MF x14 x15 x16 x17 x18 x19 x20 x21 x22 x23 x24 f25 f26 f27 f28 f29 f30) {ad13 ad31 : Nat → Nat} {ax am ao : Nat} (xs : Nat → Int32) : wc_LC36 0 0 0 (fun _ => 0) xs := by
  obtain ⟨rfl, rfl, rfl, rfl, rfl⟩ := hX
  obtain ⟨rfl, rfl, rfl, rfl, rfl, rfl, rfl, rfl, rfl, rfl, rfl, rfl⟩ := hM
  unfold wc_LC36
  generalize xs 1 = y1
  by_cases c0 : y1 = 0
  · subst c0
    repeat (first
      | exact trivial
      | (show False; (first | contradiction | (exfalso; simp only [Int32.lt_iff_toInt_lt, Int32.le_iff_toInt_le, ← Int32.toInt_inj, q_t0, q_t1, q_t2, q_t3, q_t5, q_t7, q_t9, q_t11, q_t12, q_t16, q_t20, q_t31, q_t60, q_t96, q_t99, q_t999, q_tm] at *; omega)))
      | exact ⟨fun _ => trivial, fun c => c rfl⟩
      | refine ⟨vin (by decide), ?_⟩
      | refine q_take (fun f9 h9 => ?_)
      | refine q_wF ?_
      | refine q_wmF ?_
      | refine ⟨fun c => absurd c (by decide), fun _ => ?_⟩
      | refine ⟨fun _ => ?_, fun c => absurd c (by decide)⟩
      | refine Or.inl ⟨rfl, ?_⟩
      | refine Or.inr ⟨rfl, ?_⟩
      | refine ⟨rfl, ?_⟩
      | refine ⟨by decide, ?_⟩
      | refine ⟨100, ?_⟩
      | (refine fun x e => ?_; rw [if_pos (by decide)] at e; subst e)
      | (refine fun x e => ?_; rw [if_neg (by decide)] at e; subst e)
      | (refine fun x e => ?_; subst e)
      | refine ⟨fun _ => ?_, fun c => by (first | contradiction | (exfalso; simp only [Int32.lt_iff_toInt_lt, Int32.le_iff_toInt_le, ← Int32.toInt_inj, q_t0, q_t1, q_t2, q_t3, q_t5, q_t7, q_t9, q_t11, q_t12, q_t16, q_t20, q_t31, q_t60, q_t96, q_t99, q_t999, q_tm] at *; omega))⟩
      | refine ⟨fun c => by (first | contradiction | (exfalso; simp only [Int32.lt_iff_toInt_lt, Int32.le_iff_toInt_le, ← Int32.toInt_inj, q_t0, q_t1, q_t2, q_t3, q_t5, q_t7, q_t9, q_t11, q_t12, q_t16, q_t20, q_t31, q_t60, q_t96, q_t99, q_t999, q_tm] at *; omega)), fun _ => ?_⟩
      | refine ⟨fun c => ?_, fun c => ?_⟩
      | refine ⟨fun c => ?_, ?_⟩
      | (refine fun c => ?_; (first | contradiction | (exfalso; simp only [Int32.lt_iff_toInt_lt, Int32.le_iff_toInt_le, ← Int32.toInt_inj, q_t0, q_t1, q_t2, q_t3, q_t5, q_t7, q_t9, q_t11, q_t12, q_t16, q_t20, q_t31, q_t60, q_t96, q_t99, q_t999, q_tm] at *; omega)))
      | (refine fun c => ?_; subst c)
      | refine fun c => ?_)
  by_cases c1 : y1 = 1
  · subst c1
    repeat (first
      | exact trivial
      | (show False; (first | contradiction | (exfalso; simp only [Int32.lt_iff_toInt_lt, Int32.le_iff_toInt_le, ← Int32.toInt_inj, q_t0, q_t1, q_t2, q_t3, q_t5, q_t7, q_t9, q_t11, q_t12, q_t16, q_t20, q_t31, q_t60, q_t96, q_t99, q_t999, q_tm] at *; omega)))
      | exact ⟨fun _ => trivial, fun c => c rfl⟩
      | refine ⟨vin (by decide), ?_⟩
      | refine q_take (fun f9 h9 => ?_)
      | refine q_wF ?_
      | refine q_wmF ?_
      | refine ⟨fun c => absurd c (by decide), fun _ => ?_⟩
      | refine ⟨fun _ => ?_, fun c => absurd c (by decide)⟩
      | refine Or.inl ⟨rfl, ?_⟩
      | refine Or.inr ⟨rfl, ?_⟩
      | refine ⟨rfl, ?_⟩
      | refine ⟨by decide, ?_⟩
      | refine ⟨100, ?_⟩
      | (refine fun x e => ?_; rw [if_pos (by decide)] at e; subst e)
      | (refine fun x e => ?_; rw [if_neg (by decide)] at e; subst e)
      | (refine fun x e => ?_; subst e)
      | refine ⟨fun _ => ?_, fun c => by (first | contradiction | (exfalso; simp only [Int32.lt_iff_toInt_lt, Int32.le_iff_toInt_le, ← Int32.toInt_inj, q_t0, q_t1, q_t2, q_t3, q_t5, q_t7, q_t9, q_t11, q_t12, q_t16, q_t20, q_t31, q_t60, q_t96, q_t99, q_t999, q_tm] at *; omega))⟩
      | refine ⟨fun c => by (first | contradiction | (exfalso; simp only [Int32.lt_iff_toInt_lt, Int32.le_iff_toInt_le, ← Int32.toInt_inj, q_t0, q_t1, q_t2, q_t3, q_t5, q_t7, q_t9, q_t11, q_t12, q_t16, q_t20, q_t31, q_t60, q_t96, q_t99, q_t999, q_tm] at *; omega)), fun _ => ?_⟩
      | refine ⟨fun c => ?_, fun c => ?_⟩
      | refine ⟨fun c => ?_, ?_⟩
      | (refine fun c => ?_; (first | contradiction | (exfalso; simp only [Int32.lt_iff_toInt_lt, Int32.le_iff_toInt_le, ← Int32.toInt_inj, q_t0, q_t1, q_t2, q_t3, q_t5, q_t7, q_t9, q_t11, q_t12, q_t16, q_t20, q_t31, q_t60, q_t96, q_t99, q_t999, q_tm] at *; omega)))
      | (refine fun c => ?_; subst c)
      | refine fun c => ?_)
  repeat (first
    | exact trivial
    | (show False; (first | contradiction | (exfalso; simp only [Int32.lt_iff_toInt_lt, Int32.le_iff_toInt_le, ← Int32.toInt_inj, q_t0, q_t1, q_t2, q_t3, q_t5, q_t7, q_t9, q_t11, q_t12, q_t16, q_t20, q_t31, q_t60, q_t96, q_t99, q_t999, q_tm] at *; omega)))
    | exact ⟨fun _ => trivial, fun c => c rfl⟩
    | refine ⟨vin (by decide), ?_⟩
    | refine q_take (fun f9 h9 => ?_)
    | refine q_wF ?_
    | refine q_wmF ?_
    | refine ⟨fun c => absurd c (by decide), fun _ => ?_⟩
    | refine ⟨fun _ => ?_, fun c => absurd c (by decide)⟩
    | refine Or.inl ⟨rfl, ?_⟩
    | refine Or.inr ⟨rfl, ?_⟩
    | refine ⟨rfl, ?_⟩
    | refine ⟨by decide, ?_⟩
    | refine ⟨100, ?_⟩
    | (refine fun x e => ?_; rw [if_pos (by decide)] at e; subst e)
    | (refine fun x e => ?_; rw [if_neg (by decide)] at e; subst e)
    | (refine fun x e => ?_; subst e)
    | refine ⟨fun _ => ?_, fun c => by (first | contradiction | (exfalso; simp only [Int32.lt_iff_toInt_lt, Int32.le_iff_toInt_le, ← Int32.toInt_inj, q_t0, q_t1, q_t2, q_t3, q_t5, q_t7, q_t9, q_t11, q_t12, q_t16, q_t20, q_t31, q_t60, q_t96, q_t99, q_t999, q_tm] at *; omega))⟩
    | refine ⟨fun c => by (first | contradiction | (exfalso; simp only [Int32.lt_iff_toInt_lt, Int32.le_iff_toInt_le, ← Int32.toInt_inj, q_t0, q_t1, q_t2, q_t3, q_t5, q_t7, q_t9, q_t11, q_t12, q_t16, q_t20, q_t31, q_t60, q_t96, q_t99, q_t999, q_tm] at *; omega)), fun _ => ?_⟩
    | refine ⟨fun c => ?_, fun c => ?_⟩
    | refine ⟨fun c => ?_, ?_⟩
    | (refine fun c => ?_; (first | contradiction | (exfalso; simp only [Int32.lt_iff_toInt_lt, Int32.le_iff_toInt_le, ← Int32.toInt_inj, q_t0, q_t1, q_t2, q_t3, q_t5, q_t7, q_t9, q_t11, q_t12, q_t16, q_t20, q_t31, q_t60, q_t96, q_t99, q_t999, q_tm] at *; omega)))
    | (refine fun c => ?_; subst c)
    | refine fun c => ?_)
set_option maxHeartbeats 40000000 in
set_option maxRecDepth 100000 in
theorem pu_LC37 {x1 : Int32} {f2 : Nat → Int32} {f3 : Nat → Int32} {x4 : Int32} {f5 : Nat → Int32} {f6 : Nat → Int32} {x7 : Int32} {f8 : Nat → Int32} {x9 : Int32} {f10 : Nat → Int32} {f11 : Nat → Int32} {f12 : Nat → Int32} {x14 : Int32} {x15 : Int32} {x16 : Int32} {x17 : Int32} {x18 : Int32} {x19 : Int32} {x20 : Int32} {x21 : Int32} {x22 : Int32} {x23 : Int32} {x24 : Int32} {f25 : Nat → Int32} {f26 : Nat → Int32} {f27 : Nat → Int32} {f28 : Nat → Int32} {f29 : Nat → Int32} {f30 : Nat → Int32} (hX : XF x1 f2 f3 x4 f5 f6 x7 f8 x9 f10 f11 f12) (hM : MF x14 x15 x16 x17 x18 x19 x20 x21 x22 x23 x24 f25 f26 f27 f28 f29 f30) {ad13 ad31 : Nat → Nat} {ax am ao : Nat} (xs : Nat → Int32) : wc_LC37 0 0 0 0 0 x21 x24 xs := by
  obtain ⟨rfl, rfl, rfl, rfl, rfl⟩ := hX
  obtain ⟨rfl, rfl, rfl, rfl, rfl, rfl, rfl, rfl, rfl, rfl, rfl, rfl⟩ := hM
  unfold wc_LC37
  generalize xs 1 = y1
  by_cases c0 : y1 = 0
  · subst c0
    repeat (first
      | exact trivial
      | (show False; (first | contradiction | (exfalso; simp only [Int32.lt_iff_toInt_lt, Int32.le_iff_toInt_le, ← Int32.toInt_inj, q_t0, q_t1, q_t2, q_t3, q_t5, q_t7, q_t9, q_t11, q_t12, q_t16, q_t20, q_t31, q_t60, q_t96, q_t99, q_t999, q_tm] at *; omega)))
      | exact ⟨fun _ => trivial, fun c => c rfl⟩
      | refine ⟨vin (by decide), ?_⟩
      | refine q_take (fun f9 h9 => ?_)
      | refine q_wF ?_
      | refine q_wmF ?_
      | refine ⟨fun c => absurd c (by decide), fun _ => ?_⟩
      | refine ⟨fun _ => ?_, fun c => absurd c (by decide)⟩
      | refine Or.inl ⟨rfl, ?_⟩
      | refine Or.inr ⟨rfl, ?_⟩
      | refine ⟨rfl, ?_⟩
      | refine ⟨by decide, ?_⟩
      | refine ⟨100, ?_⟩
      | (refine fun x e => ?_; rw [if_pos (by decide)] at e; subst e)
      | (refine fun x e => ?_; rw [if_neg (by decide)] at e; subst e)
      | (refine fun x e => ?_; subst e)
      | refine ⟨fun _ => ?_, fun c => by (first | contradiction | (exfalso; simp only [Int32.lt_iff_toInt_lt, Int32.le_iff_toInt_le, ← Int32.toInt_inj, q_t0, q_t1, q_t2, q_t3, q_t5, q_t7, q_t9, q_t11, q_t12, q_t16, q_t20, q_t31, q_t60, q_t96, q_t99, q_t999, q_tm] at *; omega))⟩
      | refine ⟨fun c => by (first | contradiction | (exfalso; simp only [Int32.lt_iff_toInt_lt, Int32.le_iff_toInt_le, ← Int32.toInt_inj, q_t0, q_t1, q_t2, q_t3, q_t5, q_t7, q_t9, q_t11, q_t12, q_t16, q_t20, q_t31, q_t60, q_t96, q_t99, q_t999, q_tm] at *; omega)), fun _ => ?_⟩
      | refine ⟨fun c => ?_, fun c => ?_⟩
      | refine ⟨fun c => ?_, ?_⟩
      | (refine fun c => ?_; (first | contradiction | (exfalso; simp only [Int32.lt_iff_toInt_lt, Int32.le_iff_toInt_le, ← Int32.toInt_inj, q_t0, q_t1, q_t2, q_t3, q_t5, q_t7, q_t9, q_t11, q_t12, q_t16, q_t20, q_t31, q_t60, q_t96, q_t99, q_t999, q_tm] at *; omega)))
      | (refine fun c => ?_; subst c)
      | refine fun c => ?_)
  by_cases c1 : y1 = 1
  · subst c1
    repeat (first
      | exact trivial
      | (show False; (first | contradiction | (exfalso; simp only [Int32.lt_iff_toInt_lt, Int32.le_iff_toInt_le, ← Int32.toInt_inj, q_t0, q_t1, q_t2, q_t3, q_t5, q_t7, q_t9, q_t11, q_t12, q_t16, q_t20, q_t31, q_t60, q_t96, q_t99, q_t999, q_tm] at *; omega)))
      | exact ⟨fun _ => trivial, fun c => c rfl⟩
      | refine ⟨vin (by decide), ?_⟩
      | refine q_take (fun f9 h9 => ?_)
      | refine q_wF ?_
      | refine q_wmF ?_
      | refine ⟨fun c => absurd c (by decide), fun _ => ?_⟩
      | refine ⟨fun _ => ?_, fun c => absurd c (by decide)⟩
      | refine Or.inl ⟨rfl, ?_⟩
      | refine Or.inr ⟨rfl, ?_⟩
      | refine ⟨rfl, ?_⟩
      | refine ⟨by decide, ?_⟩
      | refine ⟨100, ?_⟩
      | (refine fun x e => ?_; rw [if_pos (by decide)] at e; subst e)
      | (refine fun x e => ?_; rw [if_neg (by decide)] at e; subst e)
      | (refine fun x e => ?_; subst e)
      | refine ⟨fun _ => ?_, fun c => by (first | contradiction | (exfalso; simp only [Int32.lt_iff_toInt_lt, Int32.le_iff_toInt_le, ← Int32.toInt_inj, q_t0, q_t1, q_t2, q_t3, q_t5, q_t7, q_t9, q_t11, q_t12, q_t16, q_t20, q_t31, q_t60, q_t96, q_t99, q_t999, q_tm] at *; omega))⟩
      | refine ⟨fun c => by (first | contradiction | (exfalso; simp only [Int32.lt_iff_toInt_lt, Int32.le_iff_toInt_le, ← Int32.toInt_inj, q_t0, q_t1, q_t2, q_t3, q_t5, q_t7, q_t9, q_t11, q_t12, q_t16, q_t20, q_t31, q_t60, q_t96, q_t99, q_t999, q_tm] at *; omega)), fun _ => ?_⟩
      | refine ⟨fun c => ?_, fun c => ?_⟩
      | refine ⟨fun c => ?_, ?_⟩
      | (refine fun c => ?_; (first | contradiction | (exfalso; simp only [Int32.lt_iff_toInt_lt, Int32.le_iff_toInt_le, ← Int32.toInt_inj, q_t0, q_t1, q_t2, q_t3, q_t5, q_t7, q_t9, q_t11, q_t12, q_t16, q_t20, q_t31, q_t60, q_t96, q_t99, q_t999, q_tm] at *; omega)))
      | (refine fun c => ?_; subst c)
      | refine fun c => ?_)
  by_cases c2 : y1 = 2
  · subst c2
    repeat (first
      | exact trivial
      | (show False; (first | contradiction | (exfalso; simp only [Int32.lt_iff_toInt_lt, Int32.le_iff_toInt_le, ← Int32.toInt_inj, q_t0, q_t1, q_t2, q_t3, q_t5, q_t7, q_t9, q_t11, q_t12, q_t16, q_t20, q_t31, q_t60, q_t96, q_t99, q_t999, q_tm] at *; omega)))
      | exact ⟨fun _ => trivial, fun c => c rfl⟩
      | refine ⟨vin (by decide), ?_⟩
      | refine q_take (fun f9 h9 => ?_)
      | refine q_wF ?_
      | refine q_wmF ?_
      | refine ⟨fun c => absurd c (by decide), fun _ => ?_⟩
      | refine ⟨fun _ => ?_, fun c => absurd c (by decide)⟩
      | refine Or.inl ⟨rfl, ?_⟩
      | refine Or.inr ⟨rfl, ?_⟩
      | refine ⟨rfl, ?_⟩
      | refine ⟨by decide, ?_⟩
      | refine ⟨100, ?_⟩
      | (refine fun x e => ?_; rw [if_pos (by decide)] at e; subst e)
      | (refine fun x e => ?_; rw [if_neg (by decide)] at e; subst e)
      | (refine fun x e => ?_; subst e)
      | refine ⟨fun _ => ?_, fun c => by (first | contradiction | (exfalso; simp only [Int32.lt_iff_toInt_lt, Int32.le_iff_toInt_le, ← Int32.toInt_inj, q_t0, q_t1, q_t2, q_t3, q_t5, q_t7, q_t9, q_t11, q_t12, q_t16, q_t20, q_t31, q_t60, q_t96, q_t99, q_t999, q_tm] at *; omega))⟩
      | refine ⟨fun c => by (first | contradiction | (exfalso; simp only [Int32.lt_iff_toInt_lt, Int32.le_iff_toInt_le, ← Int32.toInt_inj, q_t0, q_t1, q_t2, q_t3, q_t5, q_t7, q_t9, q_t11, q_t12, q_t16, q_t20, q_t31, q_t60, q_t96, q_t99, q_t999, q_tm] at *; omega)), fun _ => ?_⟩
      | refine ⟨fun c => ?_, fun c => ?_⟩
      | refine ⟨fun c => ?_, ?_⟩
      | (refine fun c => ?_; (first | contradiction | (exfalso; simp only [Int32.lt_iff_toInt_lt, Int32.le_iff_toInt_le, ← Int32.toInt_inj, q_t0, q_t1, q_t2, q_t3, q_t5, q_t7, q_t9, q_t11, q_t12, q_t16, q_t20, q_t31, q_t60, q_t96, q_t99, q_t999, q_tm] at *; omega)))
      | (refine fun c => ?_; subst c)
      | refine fun c => ?_)
  repeat (first
    | exact trivial
    | (show False; (first | contradiction | (exfalso; simp only [Int32.lt_iff_toInt_lt, Int32.le_iff_toInt_le, ← Int32.toInt_inj, q_t0, q_t1, q_t2, q_t3, q_t5, q_t7, q_t9, q_t11, q_t12, q_t16, q_t20, q_t31, q_t60, q_t96, q_t99, q_t999, q_tm] at *; omega)))
    | exact ⟨fun _ => trivial, fun c => c rfl⟩
    | refine ⟨vin (by decide), ?_⟩
    | refine q_take (fun f9 h9 => ?_)
    | refine q_wF ?_
    | refine q_wmF ?_
    | refine ⟨fun c => absurd c (by decide), fun _ => ?_⟩
    | refine ⟨fun _ => ?_, fun c => absurd c (by decide)⟩
    | refine Or.inl ⟨rfl, ?_⟩
    | refine Or.inr ⟨rfl, ?_⟩
    | refine ⟨rfl, ?_⟩
    | refine ⟨by decide, ?_⟩
    | refine ⟨100, ?_⟩
    | (refine fun x e => ?_; rw [if_pos (by decide)] at e; subst e)
    | (refine fun x e => ?_; rw [if_neg (by decide)] at e; subst e)
    | (refine fun x e => ?_; subst e)
    | refine ⟨fun _ => ?_, fun c => by (first | contradiction | (exfalso; simp only [Int32.lt_iff_toInt_lt, Int32.le_iff_toInt_le, ← Int32.toInt_inj, q_t0, q_t1, q_t2, q_t3, q_t5, q_t7, q_t9, q_t11, q_t12, q_t16, q_t20, q_t31, q_t60, q_t96, q_t99, q_t999, q_tm] at *; omega))⟩
    | refine ⟨fun c => by (first | contradiction | (exfalso; simp only [Int32.lt_iff_toInt_lt, Int32.le_iff_toInt_le, ← Int32.toInt_inj, q_t0, q_t1, q_t2, q_t3, q_t5, q_t7, q_t9, q_t11, q_t12, q_t16, q_t20, q_t31, q_t60, q_t96, q_t99, q_t999, q_tm] at *; omega)), fun _ => ?_⟩
    | refine ⟨fun c => ?_, fun c => ?_⟩
    | refine ⟨fun c => ?_, ?_⟩
    | (refine fun c => ?_; (first | contradiction | (exfalso; simp only [Int32.lt_iff_toInt_lt, Int32.le_iff_toInt_le, ← Int32.toInt_inj, q_t0, q_t1, q_t2, q_t3, q_t5, q_t7, q_t9, q_t11, q_t12, q_t16, q_t20, q_t31, q_t60, q_t96, q_t99, q_t999, q_tm] at *; omega)))
    | (refine fun c => ?_; subst c)
    | refine fun c => ?_)
set_option maxHeartbeats 40000000 in
set_option maxRecDepth 100000 in
theorem pu_LC17 {x1 : Int32} {f2 : Nat → Int32} {f3 : Nat → Int32} {x4 : Int32} {f5 : Nat → Int32} {f6 : Nat → Int32} {x7 : Int32} {f8 : Nat → Int32} {x9 : Int32} {f10 : Nat → Int32} {f11 : Nat → Int32} {f12 : Nat → Int32} {x14 : Int32} {x15 : Int32} {x16 : Int32} {x17 : Int32} {x18 : Int32} {x19 : Int32} {x20 : Int32} {x21 : Int32} {x22 : Int32} {x23 : Int32} {x24 : Int32} {f25 : Nat → Int32} {f26 : Nat → Int32} {f27 : Nat → Int32} {f28 : Nat → Int32} {f29 : Nat → Int32} {f30 : Nat → Int32} (hX : XF x1 f2 f3 x4 f5 f6 x7 f8 x9 f10 f11 f12) (hM : MF x14 x15 x16 x17 x18 x19 x20 x21 x22 x23 x24 f25 f26 f27 f28 f29 f30) {ad13 ad31 : Nat → Nat} {ax am ao : Nat} (xs : Nat → Int32) : wc_LC17 0 0 0 (fun _ => 0) 0 x17 x18 f29 (fun _ => 0) (fun _ => 0) xs := by
  obtain ⟨rfl, rfl, rfl, rfl, rfl⟩ := hX
  obtain ⟨rfl, rfl, rfl, rfl, rfl, rfl, rfl, rfl, rfl, rfl, rfl, rfl⟩ := hM
  unfold wc_LC17
  try unfold wq_L_seats
  try unfold wq_X10_seats
  try unfold wq_X11_seats
  try generalize xs 1 = y1
  try generalize xs 2 = y2
  try generalize xs 3 = y3
  try generalize xs 4 = y4
  try generalize xs 5 = y5
  try generalize xs 6 = y6
  try generalize xs 7 = y7
  try generalize xs 8 = y8
  repeat (first
    | exact trivial
    | (show False; (first | contradiction | (exfalso; simp only [Int32.lt_iff_toInt_lt, Int32.le_iff_toInt_le, ← Int32.toInt_inj, q_t0, q_t1, q_t2, q_t3, q_t5, q_t7, q_t9, q_t11, q_t12, q_t16, q_t20, q_t31, q_t60, q_t96, q_t99, q_t999, q_tm] at *; omega)))
    | exact ⟨fun _ => trivial, fun c => c rfl⟩
    | refine ⟨vin (by decide), ?_⟩
    | refine q_take (fun f9 h9 => ?_)
    | refine q_wF ?_
    | refine q_wmF ?_
    | refine ⟨fun c => absurd c (by decide), fun _ => ?_⟩
    | refine ⟨fun _ => ?_, fun c => absurd c (by decide)⟩
    | refine Or.inl ⟨rfl, ?_⟩
    | refine Or.inr ⟨rfl, ?_⟩
    | refine ⟨rfl, ?_⟩
    | refine ⟨by decide, ?_⟩
    | refine ⟨100, ?_⟩
    | (refine fun x e => ?_; rw [if_pos (by decide)] at e; subst e)
    | (refine fun x e => ?_; rw [if_neg (by decide)] at e; subst e)
    | (refine fun x e => ?_; subst e)
    | refine ⟨fun _ => ?_, fun c => by (first | contradiction | (exfalso; simp only [Int32.lt_iff_toInt_lt, Int32.le_iff_toInt_le, ← Int32.toInt_inj, q_t0, q_t1, q_t2, q_t3, q_t5, q_t7, q_t9, q_t11, q_t12, q_t16, q_t20, q_t31, q_t60, q_t96, q_t99, q_t999, q_tm] at *; omega))⟩
    | refine ⟨fun c => by (first | contradiction | (exfalso; simp only [Int32.lt_iff_toInt_lt, Int32.le_iff_toInt_le, ← Int32.toInt_inj, q_t0, q_t1, q_t2, q_t3, q_t5, q_t7, q_t9, q_t11, q_t12, q_t16, q_t20, q_t31, q_t60, q_t96, q_t99, q_t999, q_tm] at *; omega)), fun _ => ?_⟩
    | refine ⟨fun c => ?_, fun c => ?_⟩
    | refine ⟨fun c => ?_, ?_⟩
    | (refine fun c => ?_; (first | contradiction | (exfalso; simp only [Int32.lt_iff_toInt_lt, Int32.le_iff_toInt_le, ← Int32.toInt_inj, q_t0, q_t1, q_t2, q_t3, q_t5, q_t7, q_t9, q_t11, q_t12, q_t16, q_t20, q_t31, q_t60, q_t96, q_t99, q_t999, q_tm] at *; omega)))
    | (refine fun c => ?_; subst c)
    | refine fun c => ?_)
set_option maxHeartbeats 40000000 in
set_option maxRecDepth 100000 in
theorem pu_LC19 {x1 : Int32} {f2 : Nat → Int32} {f3 : Nat → Int32} {x4 : Int32} {f5 : Nat → Int32} {f6 : Nat → Int32} {x7 : Int32} {f8 : Nat → Int32} {x9 : Int32} {f10 : Nat → Int32} {f11 : Nat → Int32} {f12 : Nat → Int32} {x14 : Int32} {x15 : Int32} {x16 : Int32} {x17 : Int32} {x18 : Int32} {x19 : Int32} {x20 : Int32} {x21 : Int32} {x22 : Int32} {x23 : Int32} {x24 : Int32} {f25 : Nat → Int32} {f26 : Nat → Int32} {f27 : Nat → Int32} {f28 : Nat → Int32} {f29 : Nat → Int32} {f30 : Nat → Int32} (hX : XF x1 f2 f3 x4 f5 f6 x7 f8 x9 f10 f11 f12) (hM : MF x14 x15 x16 x17 x18 x19 x20 x21 x22 x23 x24 f25 f26 f27 f28 f29 f30) {ad13 ad31 : Nat → Nat} {ax am ao : Nat} (xs : Nat → Int32) : wc_LC19 0 0 0 x17 xs := by
  obtain ⟨rfl, rfl, rfl, rfl, rfl⟩ := hX
  obtain ⟨rfl, rfl, rfl, rfl, rfl, rfl, rfl, rfl, rfl, rfl, rfl, rfl⟩ := hM
  unfold wc_LC19
  try unfold wq_L_ring
  try unfold wq_X10_ring
  try unfold wq_X11_ring
  try generalize xs 1 = y1
  try generalize xs 2 = y2
  try generalize xs 3 = y3
  try generalize xs 4 = y4
  try generalize xs 5 = y5
  try generalize xs 6 = y6
  try generalize xs 7 = y7
  try generalize xs 8 = y8
  repeat (first
    | exact trivial
    | (show False; (first | contradiction | (exfalso; simp only [Int32.lt_iff_toInt_lt, Int32.le_iff_toInt_le, ← Int32.toInt_inj, q_t0, q_t1, q_t2, q_t3, q_t5, q_t7, q_t9, q_t11, q_t12, q_t16, q_t20, q_t31, q_t60, q_t96, q_t99, q_t999, q_tm] at *; omega)))
    | exact ⟨fun _ => trivial, fun c => c rfl⟩
    | refine ⟨vin (by decide), ?_⟩
    | refine q_take (fun f9 h9 => ?_)
    | refine q_wF ?_
    | refine q_wmF ?_
    | refine ⟨fun c => absurd c (by decide), fun _ => ?_⟩
    | refine ⟨fun _ => ?_, fun c => absurd c (by decide)⟩
    | refine Or.inl ⟨rfl, ?_⟩
    | refine Or.inr ⟨rfl, ?_⟩
    | refine ⟨rfl, ?_⟩
    | refine ⟨by decide, ?_⟩
    | refine ⟨100, ?_⟩
    | (refine fun x e => ?_; rw [if_pos (by decide)] at e; subst e)
    | (refine fun x e => ?_; rw [if_neg (by decide)] at e; subst e)
    | (refine fun x e => ?_; subst e)
    | refine ⟨fun _ => ?_, fun c => by (first | contradiction | (exfalso; simp only [Int32.lt_iff_toInt_lt, Int32.le_iff_toInt_le, ← Int32.toInt_inj, q_t0, q_t1, q_t2, q_t3, q_t5, q_t7, q_t9, q_t11, q_t12, q_t16, q_t20, q_t31, q_t60, q_t96, q_t99, q_t999, q_tm] at *; omega))⟩
    | refine ⟨fun c => by (first | contradiction | (exfalso; simp only [Int32.lt_iff_toInt_lt, Int32.le_iff_toInt_le, ← Int32.toInt_inj, q_t0, q_t1, q_t2, q_t3, q_t5, q_t7, q_t9, q_t11, q_t12, q_t16, q_t20, q_t31, q_t60, q_t96, q_t99, q_t999, q_tm] at *; omega)), fun _ => ?_⟩
    | refine ⟨fun c => ?_, fun c => ?_⟩
    | refine ⟨fun c => ?_, ?_⟩
    | (refine fun c => ?_; (first | contradiction | (exfalso; simp only [Int32.lt_iff_toInt_lt, Int32.le_iff_toInt_le, ← Int32.toInt_inj, q_t0, q_t1, q_t2, q_t3, q_t5, q_t7, q_t9, q_t11, q_t12, q_t16, q_t20, q_t31, q_t60, q_t96, q_t99, q_t999, q_tm] at *; omega)))
    | (refine fun c => ?_; subst c)
    | refine fun c => ?_)
set_option maxHeartbeats 40000000 in
set_option maxRecDepth 100000 in
theorem pu_LC8 {x1 : Int32} {f2 : Nat → Int32} {f3 : Nat → Int32} {x4 : Int32} {f5 : Nat → Int32} {f6 : Nat → Int32} {x7 : Int32} {f8 : Nat → Int32} {x9 : Int32} {f10 : Nat → Int32} {f11 : Nat → Int32} {f12 : Nat → Int32} {x14 : Int32} {x15 : Int32} {x16 : Int32} {x17 : Int32} {x18 : Int32} {x19 : Int32} {x20 : Int32} {x21 : Int32} {x22 : Int32} {x23 : Int32} {x24 : Int32} {f25 : Nat → Int32} {f26 : Nat → Int32} {f27 : Nat → Int32} {f28 : Nat → Int32} {f29 : Nat → Int32} {f30 : Nat → Int32} (hX : XF x1 f2 f3 x4 f5 f6 x7 f8 x9 f10 f11 f12) (hM : MF x14 x15 x16 x17 x18 x19 x20 x21 x22 x23 x24 f25 f26 f27 f28 f29 f30) {ad13 ad31 : Nat → Nat} {ax am ao : Nat} (xs : Nat → Int32) : wc_LC8 0 0 0 x17 (fun _ => 0) xs := by
  obtain ⟨rfl, rfl, rfl, rfl, rfl⟩ := hX
  obtain ⟨rfl, rfl, rfl, rfl, rfl, rfl, rfl, rfl, rfl, rfl, rfl, rfl⟩ := hM
  unfold wc_LC8
  try unfold wq_L_form
  try unfold wq_X10_form
  try unfold wq_X11_form
  try generalize xs 1 = y1
  try generalize xs 2 = y2
  try generalize xs 3 = y3
  try generalize xs 4 = y4
  try generalize xs 5 = y5
  try generalize xs 6 = y6
  try generalize xs 7 = y7
  try generalize xs 8 = y8
  repeat (first
    | exact trivial
    | (show False; (first | contradiction | (exfalso; simp only [Int32.lt_iff_toInt_lt, Int32.le_iff_toInt_le, ← Int32.toInt_inj, q_t0, q_t1, q_t2, q_t3, q_t5, q_t7, q_t9, q_t11, q_t12, q_t16, q_t20, q_t31, q_t60, q_t96, q_t99, q_t999, q_tm] at *; omega)))
    | exact ⟨fun _ => trivial, fun c => c rfl⟩
    | refine ⟨vin (by decide), ?_⟩
    | refine q_take (fun f9 h9 => ?_)
    | refine q_wF ?_
    | refine q_wmF ?_
    | refine ⟨fun c => absurd c (by decide), fun _ => ?_⟩
    | refine ⟨fun _ => ?_, fun c => absurd c (by decide)⟩
    | refine Or.inl ⟨rfl, ?_⟩
    | refine Or.inr ⟨rfl, ?_⟩
    | refine ⟨rfl, ?_⟩
    | refine ⟨by decide, ?_⟩
    | refine ⟨100, ?_⟩
    | (refine fun x e => ?_; rw [if_pos (by decide)] at e; subst e)
    | (refine fun x e => ?_; rw [if_neg (by decide)] at e; subst e)
    | (refine fun x e => ?_; subst e)
    | refine ⟨fun _ => ?_, fun c => by (first | contradiction | (exfalso; simp only [Int32.lt_iff_toInt_lt, Int32.le_iff_toInt_le, ← Int32.toInt_inj, q_t0, q_t1, q_t2, q_t3, q_t5, q_t7, q_t9, q_t11, q_t12, q_t16, q_t20, q_t31, q_t60, q_t96, q_t99, q_t999, q_tm] at *; omega))⟩
    | refine ⟨fun c => by (first | contradiction | (exfalso; simp only [Int32.lt_iff_toInt_lt, Int32.le_iff_toInt_le, ← Int32.toInt_inj, q_t0, q_t1, q_t2, q_t3, q_t5, q_t7, q_t9, q_t11, q_t12, q_t16, q_t20, q_t31, q_t60, q_t96, q_t99, q_t999, q_tm] at *; omega)), fun _ => ?_⟩
    | refine ⟨fun c => ?_, fun c => ?_⟩
    | refine ⟨fun c => ?_, ?_⟩
    | (refine fun c => ?_; (first | contradiction | (exfalso; simp only [Int32.lt_iff_toInt_lt, Int32.le_iff_toInt_le, ← Int32.toInt_inj, q_t0, q_t1, q_t2, q_t3, q_t5, q_t7, q_t9, q_t11, q_t12, q_t16, q_t20, q_t31, q_t60, q_t96, q_t99, q_t999, q_tm] at *; omega)))
    | (refine fun c => ?_; subst c)
    | refine fun c => ?_)
set_option maxHeartbeats 40000000 in
set_option maxRecDepth 100000 in
theorem pu_LC9 {x1 : Int32} {f2 : Nat → Int32} {f3 : Nat → Int32} {x4 : Int32} {f5 : Nat → Int32} {f6 : Nat → Int32} {x7 : Int32} {f8 : Nat → Int32} {x9 : Int32} {f10 : Nat → Int32} {f11 : Nat → Int32} {f12 : Nat → Int32} {x14 : Int32} {x15 : Int32} {x16 : Int32} {x17 : Int32} {x18 : Int32} {x19 : Int32} {x20 : Int32} {x21 : Int32} {x22 : Int32} {x23 : Int32} {x24 : Int32} {f25 : Nat → Int32} {f26 : Nat → Int32} {f27 : Nat → Int32} {f28 : Nat → Int32} {f29 : Nat → Int32} {f30 : Nat → Int32} (hX : XF x1 f2 f3 x4 f5 f6 x7 f8 x9 f10 f11 f12) (hM : MF x14 x15 x16 x17 x18 x19 x20 x21 x22 x23 x24 f25 f26 f27 f28 f29 f30) {ad13 ad31 : Nat → Nat} {ax am ao : Nat} (xs : Nat → Int32) : wc_LC9 0 0 0 x18 (fun _ => 0) xs := by
  obtain ⟨rfl, rfl, rfl, rfl, rfl⟩ := hX
  obtain ⟨rfl, rfl, rfl, rfl, rfl, rfl, rfl, rfl, rfl, rfl, rfl, rfl⟩ := hM
  unfold wc_LC9
  try unfold wq_L_hare
  try unfold wq_X10_hare
  try unfold wq_X11_hare
  try generalize xs 1 = y1
  try generalize xs 2 = y2
  try generalize xs 3 = y3
  try generalize xs 4 = y4
  try generalize xs 5 = y5
  try generalize xs 6 = y6
  try generalize xs 7 = y7
  try generalize xs 8 = y8
  repeat (first
    | exact trivial
    | (show False; (first | contradiction | (exfalso; simp only [Int32.lt_iff_toInt_lt, Int32.le_iff_toInt_le, ← Int32.toInt_inj, q_t0, q_t1, q_t2, q_t3, q_t5, q_t7, q_t9, q_t11, q_t12, q_t16, q_t20, q_t31, q_t60, q_t96, q_t99, q_t999, q_tm] at *; omega)))
    | exact ⟨fun _ => trivial, fun c => c rfl⟩
    | refine ⟨vin (by decide), ?_⟩
    | refine q_take (fun f9 h9 => ?_)
    | refine q_wF ?_
    | refine q_wmF ?_
    | refine ⟨fun c => absurd c (by decide), fun _ => ?_⟩
    | refine ⟨fun _ => ?_, fun c => absurd c (by decide)⟩
    | refine Or.inl ⟨rfl, ?_⟩
    | refine Or.inr ⟨rfl, ?_⟩
    | refine ⟨rfl, ?_⟩
    | refine ⟨by decide, ?_⟩
    | refine ⟨100, ?_⟩
    | (refine fun x e => ?_; rw [if_pos (by decide)] at e; subst e)
    | (refine fun x e => ?_; rw [if_neg (by decide)] at e; subst e)
    | (refine fun x e => ?_; subst e)
    | refine ⟨fun _ => ?_, fun c => by (first | contradiction | (exfalso; simp only [Int32.lt_iff_toInt_lt, Int32.le_iff_toInt_le, ← Int32.toInt_inj, q_t0, q_t1, q_t2, q_t3, q_t5, q_t7, q_t9, q_t11, q_t12, q_t16, q_t20, q_t31, q_t60, q_t96, q_t99, q_t999, q_tm] at *; omega))⟩
    | refine ⟨fun c => by (first | contradiction | (exfalso; simp only [Int32.lt_iff_toInt_lt, Int32.le_iff_toInt_le, ← Int32.toInt_inj, q_t0, q_t1, q_t2, q_t3, q_t5, q_t7, q_t9, q_t11, q_t12, q_t16, q_t20, q_t31, q_t60, q_t96, q_t99, q_t999, q_tm] at *; omega)), fun _ => ?_⟩
    | refine ⟨fun c => ?_, fun c => ?_⟩
    | refine ⟨fun c => ?_, ?_⟩
    | (refine fun c => ?_; (first | contradiction | (exfalso; simp only [Int32.lt_iff_toInt_lt, Int32.le_iff_toInt_le, ← Int32.toInt_inj, q_t0, q_t1, q_t2, q_t3, q_t5, q_t7, q_t9, q_t11, q_t12, q_t16, q_t20, q_t31, q_t60, q_t96, q_t99, q_t999, q_tm] at *; omega)))
    | (refine fun c => ?_; subst c)
    | refine fun c => ?_)
set_option maxHeartbeats 40000000 in
set_option maxRecDepth 100000 in
theorem pu_LC10 {x1 : Int32} {f2 : Nat → Int32} {f3 : Nat → Int32} {x4 : Int32} {f5 : Nat → Int32} {f6 : Nat → Int32} {x7 : Int32} {f8 : Nat → Int32} {x9 : Int32} {f10 : Nat → Int32} {f11 : Nat → Int32} {f12 : Nat → Int32} {x14 : Int32} {x15 : Int32} {x16 : Int32} {x17 : Int32} {x18 : Int32} {x19 : Int32} {x20 : Int32} {x21 : Int32} {x22 : Int32} {x23 : Int32} {x24 : Int32} {f25 : Nat → Int32} {f26 : Nat → Int32} {f27 : Nat → Int32} {f28 : Nat → Int32} {f29 : Nat → Int32} {f30 : Nat → Int32} (hX : XF x1 f2 f3 x4 f5 f6 x7 f8 x9 f10 f11 f12) (hM : MF x14 x15 x16 x17 x18 x19 x20 x21 x22 x23 x24 f25 f26 f27 f28 f29 f30) {ad13 ad31 : Nat → Nat} {ax am ao : Nat} (xs : Nat → Int32) : wc_LC10 0 0 0 x19 (fun _ => 0) xs := by
  obtain ⟨rfl, rfl, rfl, rfl, rfl⟩ := hX
  obtain ⟨rfl, rfl, rfl, rfl, rfl, rfl, rfl, rfl, rfl, rfl, rfl, rfl⟩ := hM
  unfold wc_LC10
  try unfold wq_L_fox
  try unfold wq_X10_fox
  try unfold wq_X11_fox
  try generalize xs 1 = y1
  try generalize xs 2 = y2
  try generalize xs 3 = y3
  try generalize xs 4 = y4
  try generalize xs 5 = y5
  try generalize xs 6 = y6
  try generalize xs 7 = y7
  try generalize xs 8 = y8
  repeat (first
    | exact trivial
    | (show False; (first | contradiction | (exfalso; simp only [Int32.lt_iff_toInt_lt, Int32.le_iff_toInt_le, ← Int32.toInt_inj, q_t0, q_t1, q_t2, q_t3, q_t5, q_t7, q_t9, q_t11, q_t12, q_t16, q_t20, q_t31, q_t60, q_t96, q_t99, q_t999, q_tm] at *; omega)))
    | exact ⟨fun _ => trivial, fun c => c rfl⟩
    | refine ⟨vin (by decide), ?_⟩
    | refine q_take (fun f9 h9 => ?_)
    | refine q_wF ?_
    | refine q_wmF ?_
    | refine ⟨fun c => absurd c (by decide), fun _ => ?_⟩
    | refine ⟨fun _ => ?_, fun c => absurd c (by decide)⟩
    | refine Or.inl ⟨rfl, ?_⟩
    | refine Or.inr ⟨rfl, ?_⟩
    | refine ⟨rfl, ?_⟩
    | refine ⟨by decide, ?_⟩
    | refine ⟨100, ?_⟩
    | (refine fun x e => ?_; rw [if_pos (by decide)] at e; subst e)
    | (refine fun x e => ?_; rw [if_neg (by decide)] at e; subst e)
    | (refine fun x e => ?_; subst e)
    | refine ⟨fun _ => ?_, fun c => by (first | contradiction | (exfalso; simp only [Int32.lt_iff_toInt_lt, Int32.le_iff_toInt_le, ← Int32.toInt_inj, q_t0, q_t1, q_t2, q_t3, q_t5, q_t7, q_t9, q_t11, q_t12, q_t16, q_t20, q_t31, q_t60, q_t96, q_t99, q_t999, q_tm] at *; omega))⟩
    | refine ⟨fun c => by (first | contradiction | (exfalso; simp only [Int32.lt_iff_toInt_lt, Int32.le_iff_toInt_le, ← Int32.toInt_inj, q_t0, q_t1, q_t2, q_t3, q_t5, q_t7, q_t9, q_t11, q_t12, q_t16, q_t20, q_t31, q_t60, q_t96, q_t99, q_t999, q_tm] at *; omega)), fun _ => ?_⟩
    | refine ⟨fun c => ?_, fun c => ?_⟩
    | refine ⟨fun c => ?_, ?_⟩
    | (refine fun c => ?_; (first | contradiction | (exfalso; simp only [Int32.lt_iff_toInt_lt, Int32.le_iff_toInt_le, ← Int32.toInt_inj, q_t0, q_t1, q_t2, q_t3, q_t5, q_t7, q_t9, q_t11, q_t12, q_t16, q_t20, q_t31, q_t60, q_t96, q_t99, q_t999, q_tm] at *; omega)))
    | (refine fun c => ?_; subst c)
    | refine fun c => ?_)
set_option maxHeartbeats 40000000 in
set_option maxRecDepth 100000 in
theorem pu_LC11 {x1 : Int32} {f2 : Nat → Int32} {f3 : Nat → Int32} {x4 : Int32} {f5 : Nat → Int32} {f6 : Nat → Int32} {x7 : Int32} {f8 : Nat → Int32} {x9 : Int32} {f10 : Nat → Int32} {f11 : Nat → Int32} {f12 : Nat → Int32} {x14 : Int32} {x15 : Int32} {x16 : Int32} {x17 : Int32} {x18 : Int32} {x19 : Int32} {x20 : Int32} {x21 : Int32} {x22 : Int32} {x23 : Int32} {x24 : Int32} {f25 : Nat → Int32} {f26 : Nat → Int32} {f27 : Nat → Int32} {f28 : Nat → Int32} {f29 : Nat → Int32} {f30 : Nat → Int32} (hX : XF x1 f2 f3 x4 f5 f6 x7 f8 x9 f10 f11 f12) (hM : MF x14 x15 x16 x17 x18 x19 x20 x21 x22 x23 x24 f25 f26 f27 f28 f29 f30) {ad13 ad31 : Nat → Nat} {ax am ao : Nat} (xs : Nat → Int32) : wc_LC11 0 0 0 x18 (fun _ => 0) xs := by
  obtain ⟨rfl, rfl, rfl, rfl, rfl⟩ := hX
  obtain ⟨rfl, rfl, rfl, rfl, rfl, rfl, rfl, rfl, rfl, rfl, rfl, rfl⟩ := hM
  unfold wc_LC11
  try unfold wq_L_debt
  try unfold wq_X10_debt
  try unfold wq_X11_debt
  try generalize xs 1 = y1
  try generalize xs 2 = y2
  try generalize xs 3 = y3
  try generalize xs 4 = y4
  try generalize xs 5 = y5
  try generalize xs 6 = y6
  try generalize xs 7 = y7
  try generalize xs 8 = y8
  repeat (first
    | exact trivial
    | (show False; (first | contradiction | (exfalso; simp only [Int32.lt_iff_toInt_lt, Int32.le_iff_toInt_le, ← Int32.toInt_inj, q_t0, q_t1, q_t2, q_t3, q_t5, q_t7, q_t9, q_t11, q_t12, q_t16, q_t20, q_t31, q_t60, q_t96, q_t99, q_t999, q_tm] at *; omega)))
    | exact ⟨fun _ => trivial, fun c => c rfl⟩
    | refine ⟨vin (by decide), ?_⟩
    | refine q_take (fun f9 h9 => ?_)
    | refine q_wF ?_
    | refine q_wmF ?_
    | refine ⟨fun c => absurd c (by decide), fun _ => ?_⟩
    | refine ⟨fun _ => ?_, fun c => absurd c (by decide)⟩
    | refine Or.inl ⟨rfl, ?_⟩
    | refine Or.inr ⟨rfl, ?_⟩
    | refine ⟨rfl, ?_⟩
    | refine ⟨by decide, ?_⟩
    | refine ⟨100, ?_⟩
    | (refine fun x e => ?_; rw [if_pos (by decide)] at e; subst e)
    | (refine fun x e => ?_; rw [if_neg (by decide)] at e; subst e)
    | (refine fun x e => ?_; subst e)
    | refine ⟨fun _ => ?_, fun c => by (first | contradiction | (exfalso; simp only [Int32.lt_iff_toInt_lt, Int32.le_iff_toInt_le, ← Int32.toInt_inj, q_t0, q_t1, q_t2, q_t3, q_t5, q_t7, q_t9, q_t11, q_t12, q_t16, q_t20, q_t31, q_t60, q_t96, q_t99, q_t999, q_tm] at *; omega))⟩
    | refine ⟨fun c => by (first | contradiction | (exfalso; simp only [Int32.lt_iff_toInt_lt, Int32.le_iff_toInt_le, ← Int32.toInt_inj, q_t0, q_t1, q_t2, q_t3, q_t5, q_t7, q_t9, q_t11, q_t12, q_t16, q_t20, q_t31, q_t60, q_t96, q_t99, q_t999, q_tm] at *; omega)), fun _ => ?_⟩
    | refine ⟨fun c => ?_, fun c => ?_⟩
    | refine ⟨fun c => ?_, ?_⟩
    | (refine fun c => ?_; (first | contradiction | (exfalso; simp only [Int32.lt_iff_toInt_lt, Int32.le_iff_toInt_le, ← Int32.toInt_inj, q_t0, q_t1, q_t2, q_t3, q_t5, q_t7, q_t9, q_t11, q_t12, q_t16, q_t20, q_t31, q_t60, q_t96, q_t99, q_t999, q_tm] at *; omega)))
    | (refine fun c => ?_; subst c)
    | refine fun c => ?_)
set_option maxHeartbeats 40000000 in
set_option maxRecDepth 100000 in
theorem pu_LC12 {x1 : Int32} {f2 : Nat → Int32} {f3 : Nat → Int32} {x4 : Int32} {f5 : Nat → Int32} {f6 : Nat → Int32} {x7 : Int32} {f8 : Nat → Int32} {x9 : Int32} {f10 : Nat → Int32} {f11 : Nat → Int32} {f12 : Nat → Int32} {x14 : Int32} {x15 : Int32} {x16 : Int32} {x17 : Int32} {x18 : Int32} {x19 : Int32} {x20 : Int32} {x21 : Int32} {x22 : Int32} {x23 : Int32} {x24 : Int32} {f25 : Nat → Int32} {f26 : Nat → Int32} {f27 : Nat → Int32} {f28 : Nat → Int32} {f29 : Nat → Int32} {f30 : Nat → Int32} (hX : XF x1 f2 f3 x4 f5 f6 x7 f8 x9 f10 f11 f12) (hM : MF x14 x15 x16 x17 x18 x19 x20 x21 x22 x23 x24 f25 f26 f27 f28 f29 f30) {ad13 ad31 : Nat → Nat} {ax am ao : Nat} (xs : Nat → Int32) : wc_LC12 0 0 0 x17 (fun _ => 0) xs := by
  obtain ⟨rfl, rfl, rfl, rfl, rfl⟩ := hX
  obtain ⟨rfl, rfl, rfl, rfl, rfl, rfl, rfl, rfl, rfl, rfl, rfl, rfl⟩ := hM
  unfold wc_LC12
  try unfold wq_L_far
  try unfold wq_X10_far
  try unfold wq_X11_far
  try generalize xs 1 = y1
  try generalize xs 2 = y2
  try generalize xs 3 = y3
  try generalize xs 4 = y4
  try generalize xs 5 = y5
  try generalize xs 6 = y6
  try generalize xs 7 = y7
  try generalize xs 8 = y8
  repeat (first
    | exact trivial
    | (show False; (first | contradiction | (exfalso; simp only [Int32.lt_iff_toInt_lt, Int32.le_iff_toInt_le, ← Int32.toInt_inj, q_t0, q_t1, q_t2, q_t3, q_t5, q_t7, q_t9, q_t11, q_t12, q_t16, q_t20, q_t31, q_t60, q_t96, q_t99, q_t999, q_tm] at *; omega)))
    | exact ⟨fun _ => trivial, fun c => c rfl⟩
    | refine ⟨vin (by decide), ?_⟩
    | refine q_take (fun f9 h9 => ?_)
    | refine q_wF ?_
    | refine q_wmF ?_
    | refine ⟨fun c => absurd c (by decide), fun _ => ?_⟩
    | refine ⟨fun _ => ?_, fun c => absurd c (by decide)⟩
    | refine Or.inl ⟨rfl, ?_⟩
    | refine Or.inr ⟨rfl, ?_⟩
    | refine ⟨rfl, ?_⟩
    | refine ⟨by decide, ?_⟩
    | refine ⟨100, ?_⟩
    | (refine fun x e => ?_; rw [if_pos (by decide)] at e; subst e)
    | (refine fun x e => ?_; rw [if_neg (by decide)] at e; subst e)
    | (refine fun x e => ?_; subst e)
    | refine ⟨fun _ => ?_, fun c => by (first | contradiction | (exfalso; simp only [Int32.lt_iff_toInt_lt, Int32.le_iff_toInt_le, ← Int32.toInt_inj, q_t0, q_t1, q_t2, q_t3, q_t5, q_t7, q_t9, q_t11, q_t12, q_t16, q_t20, q_t31, q_t60, q_t96, q_t99, q_t999, q_tm] at *; omega))⟩
    | refine ⟨fun c => by (first | contradiction | (exfalso; simp only [Int32.lt_iff_toInt_lt, Int32.le_iff_toInt_le, ← Int32.toInt_inj, q_t0, q_t1, q_t2, q_t3, q_t5, q_t7, q_t9, q_t11, q_t12, q_t16, q_t20, q_t31, q_t60, q_t96, q_t99, q_t999, q_tm] at *; omega)), fun _ => ?_⟩
    | refine ⟨fun c => ?_, fun c => ?_⟩
    | refine ⟨fun c => ?_, ?_⟩
    | (refine fun c => ?_; (first | contradiction | (exfalso; simp only [Int32.lt_iff_toInt_lt, Int32.le_iff_toInt_le, ← Int32.toInt_inj, q_t0, q_t1, q_t2, q_t3, q_t5, q_t7, q_t9, q_t11, q_t12, q_t16, q_t20, q_t31, q_t60, q_t96, q_t99, q_t999, q_tm] at *; omega)))
    | (refine fun c => ?_; subst c)
    | refine fun c => ?_)
set_option maxHeartbeats 40000000 in
set_option maxRecDepth 100000 in
theorem pu_LC14 {x1 : Int32} {f2 : Nat → Int32} {f3 : Nat → Int32} {x4 : Int32} {f5 : Nat → Int32} {f6 : Nat → Int32} {x7 : Int32} {f8 : Nat → Int32} {x9 : Int32} {f10 : Nat → Int32} {f11 : Nat → Int32} {f12 : Nat → Int32} {x14 : Int32} {x15 : Int32} {x16 : Int32} {x17 : Int32} {x18 : Int32} {x19 : Int32} {x20 : Int32} {x21 : Int32} {x22 : Int32} {x23 : Int32} {x24 : Int32} {f25 : Nat → Int32} {f26 : Nat → Int32} {f27 : Nat → Int32} {f28 : Nat → Int32} {f29 : Nat → Int32} {f30 : Nat → Int32} (hX : XF x1 f2 f3 x4 f5 f6 x7 f8 x9 f10 f11 f12) (hM : MF x14 x15 x16 x17 x18 x19 x20 x21 x22 x23 x24 f25 f26 f27 f28 f29 f30) {ad13 ad31 : Nat → Nat} {ax am ao : Nat} (xs : Nat → Int32) : wc_LC14 0 0 0 x18 (fun _ => 0) xs := by
  obtain ⟨rfl, rfl, rfl, rfl, rfl⟩ := hX
  obtain ⟨rfl, rfl, rfl, rfl, rfl, rfl, rfl, rfl, rfl, rfl, rfl, rfl⟩ := hM
  unfold wc_LC14
  try unfold wq_L_can
  try unfold wq_X10_can
  try unfold wq_X11_can
  try generalize xs 1 = y1
  try generalize xs 2 = y2
  try generalize xs 3 = y3
  try generalize xs 4 = y4
  try generalize xs 5 = y5
  try generalize xs 6 = y6
  try generalize xs 7 = y7
  try generalize xs 8 = y8
  repeat (first
    | exact trivial
    | (show False; (first | contradiction | (exfalso; simp only [Int32.lt_iff_toInt_lt, Int32.le_iff_toInt_le, ← Int32.toInt_inj, q_t0, q_t1, q_t2, q_t3, q_t5, q_t7, q_t9, q_t11, q_t12, q_t16, q_t20, q_t31, q_t60, q_t96, q_t99, q_t999, q_tm] at *; omega)))
    | exact ⟨fun _ => trivial, fun c => c rfl⟩
    | refine ⟨vin (by decide), ?_⟩
    | refine q_take (fun f9 h9 => ?_)
    | refine q_wF ?_
    | refine q_wmF ?_
    | refine ⟨fun c => absurd c (by decide), fun _ => ?_⟩
    | refine ⟨fun _ => ?_, fun c => absurd c (by decide)⟩
    | refine Or.inl ⟨rfl, ?_⟩
    | refine Or.inr ⟨rfl, ?_⟩
    | refine ⟨rfl, ?_⟩
    | refine ⟨by decide, ?_⟩
    | refine ⟨100, ?_⟩
    | (refine fun x e => ?_; rw [if_pos (by decide)] at e; subst e)
    | (refine fun x e => ?_; rw [if_neg (by decide)] at e; subst e)
    | (refine fun x e => ?_; subst e)
    | refine ⟨fun _ => ?_, fun c => by (first | contradiction | (exfalso; simp only [Int32.lt_iff_toInt_lt, Int32.le_iff_toInt_le, ← Int32.toInt_inj, q_t0, q_t1, q_t2, q_t3, q_t5, q_t7, q_t9, q_t11, q_t12, q_t16, q_t20, q_t31, q_t60, q_t96, q_t99, q_t999, q_tm] at *; omega))⟩
    | refine ⟨fun c => by (first | contradiction | (exfalso; simp only [Int32.lt_iff_toInt_lt, Int32.le_iff_toInt_le, ← Int32.toInt_inj, q_t0, q_t1, q_t2, q_t3, q_t5, q_t7, q_t9, q_t11, q_t12, q_t16, q_t20, q_t31, q_t60, q_t96, q_t99, q_t999, q_tm] at *; omega)), fun _ => ?_⟩
    | refine ⟨fun c => ?_, fun c => ?_⟩
    | refine ⟨fun c => ?_, ?_⟩
    | (refine fun c => ?_; (first | contradiction | (exfalso; simp only [Int32.lt_iff_toInt_lt, Int32.le_iff_toInt_le, ← Int32.toInt_inj, q_t0, q_t1, q_t2, q_t3, q_t5, q_t7, q_t9, q_t11, q_t12, q_t16, q_t20, q_t31, q_t60, q_t96, q_t99, q_t999, q_tm] at *; omega)))
    | (refine fun c => ?_; subst c)
    | refine fun c => ?_)
set_option maxHeartbeats 40000000 in
set_option maxRecDepth 100000 in
theorem pu_LC16 {x1 : Int32} {f2 : Nat → Int32} {f3 : Nat → Int32} {x4 : Int32} {f5 : Nat → Int32} {f6 : Nat → Int32} {x7 : Int32} {f8 : Nat → Int32} {x9 : Int32} {f10 : Nat → Int32} {f11 : Nat → Int32} {f12 : Nat → Int32} {x14 : Int32} {x15 : Int32} {x16 : Int32} {x17 : Int32} {x18 : Int32} {x19 : Int32} {x20 : Int32} {x21 : Int32} {x22 : Int32} {x23 : Int32} {x24 : Int32} {f25 : Nat → Int32} {f26 : Nat → Int32} {f27 : Nat → Int32} {f28 : Nat → Int32} {f29 : Nat → Int32} {f30 : Nat → Int32} (hX : XF x1 f2 f3 x4 f5 f6 x7 f8 x9 f10 f11 f12) (hM : MF x14 x15 x16 x17 x18 x19 x20 x21 x22 x23 x24 f25 f26 f27 f28 f29 f30) {ad13 ad31 : Nat → Nat} {ax am ao : Nat} (xs : Nat → Int32) : wc_LC16 0 0 0 x18 (fun _ => 0) xs := by
  obtain ⟨rfl, rfl, rfl, rfl, rfl⟩ := hX
  obtain ⟨rfl, rfl, rfl, rfl, rfl, rfl, rfl, rfl, rfl, rfl, rfl, rfl⟩ := hM
  unfold wc_LC16
  try unfold wq_L_hops
  try unfold wq_X10_hops
  try unfold wq_X11_hops
  try generalize xs 1 = y1
  try generalize xs 2 = y2
  try generalize xs 3 = y3
  try generalize xs 4 = y4
  try generalize xs 5 = y5
  try generalize xs 6 = y6
  try generalize xs 7 = y7
  try generalize xs 8 = y8
  repeat (first
    | exact trivial
    | (show False; (first | contradiction | (exfalso; simp only [Int32.lt_iff_toInt_lt, Int32.le_iff_toInt_le, ← Int32.toInt_inj, q_t0, q_t1, q_t2, q_t3, q_t5, q_t7, q_t9, q_t11, q_t12, q_t16, q_t20, q_t31, q_t60, q_t96, q_t99, q_t999, q_tm] at *; omega)))
    | exact ⟨fun _ => trivial, fun c => c rfl⟩
    | refine ⟨vin (by decide), ?_⟩
    | refine q_take (fun f9 h9 => ?_)
    | refine q_wF ?_
    | refine q_wmF ?_
    | refine ⟨fun c => absurd c (by decide), fun _ => ?_⟩
    | refine ⟨fun _ => ?_, fun c => absurd c (by decide)⟩
    | refine Or.inl ⟨rfl, ?_⟩
    | refine Or.inr ⟨rfl, ?_⟩
    | refine ⟨rfl, ?_⟩
    | refine ⟨by decide, ?_⟩
    | refine ⟨100, ?_⟩
    | (refine fun x e => ?_; rw [if_pos (by decide)] at e; subst e)
    | (refine fun x e => ?_; rw [if_neg (by decide)] at e; subst e)
    | (refine fun x e => ?_; subst e)
    | refine ⟨fun _ => ?_, fun c => by (first | contradiction | (exfalso; simp only [Int32.lt_iff_toInt_lt, Int32.le_iff_toInt_le, ← Int32.toInt_inj, q_t0, q_t1, q_t2, q_t3, q_t5, q_t7, q_t9, q_t11, q_t12, q_t16, q_t20, q_t31, q_t60, q_t96, q_t99, q_t999, q_tm] at *; omega))⟩
    | refine ⟨fun c => by (first | contradiction | (exfalso; simp only [Int32.lt_iff_toInt_lt, Int32.le_iff_toInt_le, ← Int32.toInt_inj, q_t0, q_t1, q_t2, q_t3, q_t5, q_t7, q_t9, q_t11, q_t12, q_t16, q_t20, q_t31, q_t60, q_t96, q_t99, q_t999, q_tm] at *; omega)), fun _ => ?_⟩
    | refine ⟨fun c => ?_, fun c => ?_⟩
    | refine ⟨fun c => ?_, ?_⟩
    | (refine fun c => ?_; (first | contradiction | (exfalso; simp only [Int32.lt_iff_toInt_lt, Int32.le_iff_toInt_le, ← Int32.toInt_inj, q_t0, q_t1, q_t2, q_t3, q_t5, q_t7, q_t9, q_t11, q_t12, q_t16, q_t20, q_t31, q_t60, q_t96, q_t99, q_t999, q_tm] at *; omega)))
    | (refine fun c => ?_; subst c)
    | refine fun c => ?_)
set_option maxHeartbeats 40000000 in
set_option maxRecDepth 100000 in
theorem pu_LC18 {x1 : Int32} {f2 : Nat → Int32} {f3 : Nat → Int32} {x4 : Int32} {f5 : Nat → Int32} {f6 : Nat → Int32} {x7 : Int32} {f8 : Nat → Int32} {x9 : Int32} {f10 : Nat → Int32} {f11 : Nat → Int32} {f12 : Nat → Int32} {x14 : Int32} {x15 : Int32} {x16 : Int32} {x17 : Int32} {x18 : Int32} {x19 : Int32} {x20 : Int32} {x21 : Int32} {x22 : Int32} {x23 : Int32} {x24 : Int32} {f25 : Nat → Int32} {f26 : Nat → Int32} {f27 : Nat → Int32} {f28 : Nat → Int32} {f29 : Nat → Int32} {f30 : Nat → Int32} (hX : XF x1 f2 f3 x4 f5 f6 x7 f8 x9 f10 f11 f12) (hM : MF x14 x15 x16 x17 x18 x19 x20 x21 x22 x23 x24 f25 f26 f27 f28 f29 f30) {ad13 ad31 : Nat → Nat} {ax am ao : Nat} (xs : Nat → Int32) : wc_LC18 0 0 0 x18 (fun _ => 0) xs := by
  obtain ⟨rfl, rfl, rfl, rfl, rfl⟩ := hX
  obtain ⟨rfl, rfl, rfl, rfl, rfl, rfl, rfl, rfl, rfl, rfl, rfl, rfl⟩ := hM
  unfold wc_LC18
  try unfold wq_L_seat
  try unfold wq_X10_seat
  try unfold wq_X11_seat
  try generalize xs 1 = y1
  try generalize xs 2 = y2
  try generalize xs 3 = y3
  try generalize xs 4 = y4
  try generalize xs 5 = y5
  try generalize xs 6 = y6
  try generalize xs 7 = y7
  try generalize xs 8 = y8
  repeat (first
    | exact trivial
    | (show False; (first | contradiction | (exfalso; simp only [Int32.lt_iff_toInt_lt, Int32.le_iff_toInt_le, ← Int32.toInt_inj, q_t0, q_t1, q_t2, q_t3, q_t5, q_t7, q_t9, q_t11, q_t12, q_t16, q_t20, q_t31, q_t60, q_t96, q_t99, q_t999, q_tm] at *; omega)))
    | exact ⟨fun _ => trivial, fun c => c rfl⟩
    | refine ⟨vin (by decide), ?_⟩
    | refine q_take (fun f9 h9 => ?_)
    | refine q_wF ?_
    | refine q_wmF ?_
    | refine ⟨fun c => absurd c (by decide), fun _ => ?_⟩
    | refine ⟨fun _ => ?_, fun c => absurd c (by decide)⟩
    | refine Or.inl ⟨rfl, ?_⟩
    | refine Or.inr ⟨rfl, ?_⟩
    | refine ⟨rfl, ?_⟩
    | refine ⟨by decide, ?_⟩
    | refine ⟨100, ?_⟩
    | (refine fun x e => ?_; rw [if_pos (by decide)] at e; subst e)
    | (refine fun x e => ?_; rw [if_neg (by decide)] at e; subst e)
    | (refine fun x e => ?_; subst e)
    | refine ⟨fun _ => ?_, fun c => by (first | contradiction | (exfalso; simp only [Int32.lt_iff_toInt_lt, Int32.le_iff_toInt_le, ← Int32.toInt_inj, q_t0, q_t1, q_t2, q_t3, q_t5, q_t7, q_t9, q_t11, q_t12, q_t16, q_t20, q_t31, q_t60, q_t96, q_t99, q_t999, q_tm] at *; omega))⟩
    | refine ⟨fun c => by (first | contradiction | (exfalso; simp only [Int32.lt_iff_toInt_lt, Int32.le_iff_toInt_le, ← Int32.toInt_inj, q_t0, q_t1, q_t2, q_t3, q_t5, q_t7, q_t9, q_t11, q_t12, q_t16, q_t20, q_t31, q_t60, q_t96, q_t99, q_t999, q_tm] at *; omega)), fun _ => ?_⟩
    | refine ⟨fun c => ?_, fun c => ?_⟩
    | refine ⟨fun c => ?_, ?_⟩
    | (refine fun c => ?_; (first | contradiction | (exfalso; simp only [Int32.lt_iff_toInt_lt, Int32.le_iff_toInt_le, ← Int32.toInt_inj, q_t0, q_t1, q_t2, q_t3, q_t5, q_t7, q_t9, q_t11, q_t12, q_t16, q_t20, q_t31, q_t60, q_t96, q_t99, q_t999, q_tm] at *; omega)))
    | (refine fun c => ?_; subst c)
    | refine fun c => ?_)
set_option maxHeartbeats 40000000 in
set_option maxRecDepth 100000 in
theorem pu_LC21 {x1 : Int32} {f2 : Nat → Int32} {f3 : Nat → Int32} {x4 : Int32} {f5 : Nat → Int32} {f6 : Nat → Int32} {x7 : Int32} {f8 : Nat → Int32} {x9 : Int32} {f10 : Nat → Int32} {f11 : Nat → Int32} {f12 : Nat → Int32} {x14 : Int32} {x15 : Int32} {x16 : Int32} {x17 : Int32} {x18 : Int32} {x19 : Int32} {x20 : Int32} {x21 : Int32} {x22 : Int32} {x23 : Int32} {x24 : Int32} {f25 : Nat → Int32} {f26 : Nat → Int32} {f27 : Nat → Int32} {f28 : Nat → Int32} {f29 : Nat → Int32} {f30 : Nat → Int32} (hX : XF x1 f2 f3 x4 f5 f6 x7 f8 x9 f10 f11 f12) (hM : MF x14 x15 x16 x17 x18 x19 x20 x21 x22 x23 x24 f25 f26 f27 f28 f29 f30) {ad13 ad31 : Nat → Nat} {ax am ao : Nat} (xs : Nat → Int32) : wc_LC21 0 0 0 x18 (fun _ => 0) xs := by
  obtain ⟨rfl, rfl, rfl, rfl, rfl⟩ := hX
  obtain ⟨rfl, rfl, rfl, rfl, rfl, rfl, rfl, rfl, rfl, rfl, rfl, rfl⟩ := hM
  unfold wc_LC21
  try unfold wq_L_bouts
  try unfold wq_X10_bouts
  try unfold wq_X11_bouts
  try generalize xs 1 = y1
  try generalize xs 2 = y2
  try generalize xs 3 = y3
  try generalize xs 4 = y4
  try generalize xs 5 = y5
  try generalize xs 6 = y6
  try generalize xs 7 = y7
  try generalize xs 8 = y8
  repeat (first
    | exact trivial
    | (show False; (first | contradiction | (exfalso; simp only [Int32.lt_iff_toInt_lt, Int32.le_iff_toInt_le, ← Int32.toInt_inj, q_t0, q_t1, q_t2, q_t3, q_t5, q_t7, q_t9, q_t11, q_t12, q_t16, q_t20, q_t31, q_t60, q_t96, q_t99, q_t999, q_tm] at *; omega)))
    | exact ⟨fun _ => trivial, fun c => c rfl⟩
    | refine ⟨vin (by decide), ?_⟩
    | refine q_take (fun f9 h9 => ?_)
    | refine q_wF ?_
    | refine q_wmF ?_
    | refine ⟨fun c => absurd c (by decide), fun _ => ?_⟩
    | refine ⟨fun _ => ?_, fun c => absurd c (by decide)⟩
    | refine Or.inl ⟨rfl, ?_⟩
    | refine Or.inr ⟨rfl, ?_⟩
    | refine ⟨rfl, ?_⟩
    | refine ⟨by decide, ?_⟩
    | refine ⟨100, ?_⟩
    | (refine fun x e => ?_; rw [if_pos (by decide)] at e; subst e)
    | (refine fun x e => ?_; rw [if_neg (by decide)] at e; subst e)
    | (refine fun x e => ?_; subst e)
    | refine ⟨fun _ => ?_, fun c => by (first | contradiction | (exfalso; simp only [Int32.lt_iff_toInt_lt, Int32.le_iff_toInt_le, ← Int32.toInt_inj, q_t0, q_t1, q_t2, q_t3, q_t5, q_t7, q_t9, q_t11, q_t12, q_t16, q_t20, q_t31, q_t60, q_t96, q_t99, q_t999, q_tm] at *; omega))⟩
    | refine ⟨fun c => by (first | contradiction | (exfalso; simp only [Int32.lt_iff_toInt_lt, Int32.le_iff_toInt_le, ← Int32.toInt_inj, q_t0, q_t1, q_t2, q_t3, q_t5, q_t7, q_t9, q_t11, q_t12, q_t16, q_t20, q_t31, q_t60, q_t96, q_t99, q_t999, q_tm] at *; omega)), fun _ => ?_⟩
    | refine ⟨fun c => ?_, fun c => ?_⟩
    | refine ⟨fun c => ?_, ?_⟩
    | (refine fun c => ?_; (first | contradiction | (exfalso; simp only [Int32.lt_iff_toInt_lt, Int32.le_iff_toInt_le, ← Int32.toInt_inj, q_t0, q_t1, q_t2, q_t3, q_t5, q_t7, q_t9, q_t11, q_t12, q_t16, q_t20, q_t31, q_t60, q_t96, q_t99, q_t999, q_tm] at *; omega)))
    | (refine fun c => ?_; subst c)
    | refine fun c => ?_)
set_option maxHeartbeats 40000000 in
set_option maxRecDepth 100000 in
theorem pu_LC27 {x1 : Int32} {f2 : Nat → Int32} {f3 : Nat → Int32} {x4 : Int32} {f5 : Nat → Int32} {f6 : Nat → Int32} {x7 : Int32} {f8 : Nat → Int32} {x9 : Int32} {f10 : Nat → Int32} {f11 : Nat → Int32} {f12 : Nat → Int32} {x14 : Int32} {x15 : Int32} {x16 : Int32} {x17 : Int32} {x18 : Int32} {x19 : Int32} {x20 : Int32} {x21 : Int32} {x22 : Int32} {x23 : Int32} {x24 : Int32} {f25 : Nat → Int32} {f26 : Nat → Int32} {f27 : Nat → Int32} {f28 : Nat → Int32} {f29 : Nat → Int32} {f30 : Nat → Int32} (hX : XF x1 f2 f3 x4 f5 f6 x7 f8 x9 f10 f11 f12) (hM : MF x14 x15 x16 x17 x18 x19 x20 x21 x22 x23 x24 f25 f26 f27 f28 f29 f30) {ad13 ad31 : Nat → Nat} {ax am ao : Nat} (xs : Nat → Int32) : wc_LC27 0 0 0 x18 (fun _ => 0) xs := by
  obtain ⟨rfl, rfl, rfl, rfl, rfl⟩ := hX
  obtain ⟨rfl, rfl, rfl, rfl, rfl, rfl, rfl, rfl, rfl, rfl, rfl, rfl⟩ := hM
  unfold wc_LC27
  try unfold wq_L_clover
  try unfold wq_X10_clover
  try unfold wq_X11_clover
  try generalize xs 1 = y1
  try generalize xs 2 = y2
  try generalize xs 3 = y3
  try generalize xs 4 = y4
  try generalize xs 5 = y5
  try generalize xs 6 = y6
  try generalize xs 7 = y7
  try generalize xs 8 = y8
  repeat (first
    | exact trivial
    | (show False; (first | contradiction | (exfalso; simp only [Int32.lt_iff_toInt_lt, Int32.le_iff_toInt_le, ← Int32.toInt_inj, q_t0, q_t1, q_t2, q_t3, q_t5, q_t7, q_t9, q_t11, q_t12, q_t16, q_t20, q_t31, q_t60, q_t96, q_t99, q_t999, q_tm] at *; omega)))
    | exact ⟨fun _ => trivial, fun c => c rfl⟩
    | refine ⟨vin (by decide), ?_⟩
    | refine q_take (fun f9 h9 => ?_)
    | refine q_wF ?_
    | refine q_wmF ?_
    | refine ⟨fun c => absurd c (by decide), fun _ => ?_⟩
    | refine ⟨fun _ => ?_, fun c => absurd c (by decide)⟩
    | refine Or.inl ⟨rfl, ?_⟩
    | refine Or.inr ⟨rfl, ?_⟩
    | refine ⟨rfl, ?_⟩
    | refine ⟨by decide, ?_⟩
    | refine ⟨100, ?_⟩
    | (refine fun x e => ?_; rw [if_pos (by decide)] at e; subst e)
    | (refine fun x e => ?_; rw [if_neg (by decide)] at e; subst e)
    | (refine fun x e => ?_; subst e)
    | refine ⟨fun _ => ?_, fun c => by (first | contradiction | (exfalso; simp only [Int32.lt_iff_toInt_lt, Int32.le_iff_toInt_le, ← Int32.toInt_inj, q_t0, q_t1, q_t2, q_t3, q_t5, q_t7, q_t9, q_t11, q_t12, q_t16, q_t20, q_t31, q_t60, q_t96, q_t99, q_t999, q_tm] at *; omega))⟩
    | refine ⟨fun c => by (first | contradiction | (exfalso; simp only [Int32.lt_iff_toInt_lt, Int32.le_iff_toInt_le, ← Int32.toInt_inj, q_t0, q_t1, q_t2, q_t3, q_t5, q_t7, q_t9, q_t11, q_t12, q_t16, q_t20, q_t31, q_t60, q_t96, q_t99, q_t999, q_tm] at *; omega)), fun _ => ?_⟩
    | refine ⟨fun c => ?_, fun c => ?_⟩
    | refine ⟨fun c => ?_, ?_⟩
    | (refine fun c => ?_; (first | contradiction | (exfalso; simp only [Int32.lt_iff_toInt_lt, Int32.le_iff_toInt_le, ← Int32.toInt_inj, q_t0, q_t1, q_t2, q_t3, q_t5, q_t7, q_t9, q_t11, q_t12, q_t16, q_t20, q_t31, q_t60, q_t96, q_t99, q_t999, q_tm] at *; omega)))
    | (refine fun c => ?_; subst c)
    | refine fun c => ?_)
set_option maxHeartbeats 40000000 in
set_option maxRecDepth 100000 in
theorem pu_LC29 {x1 : Int32} {f2 : Nat → Int32} {f3 : Nat → Int32} {x4 : Int32} {f5 : Nat → Int32} {f6 : Nat → Int32} {x7 : Int32} {f8 : Nat → Int32} {x9 : Int32} {f10 : Nat → Int32} {f11 : Nat → Int32} {f12 : Nat → Int32} {x14 : Int32} {x15 : Int32} {x16 : Int32} {x17 : Int32} {x18 : Int32} {x19 : Int32} {x20 : Int32} {x21 : Int32} {x22 : Int32} {x23 : Int32} {x24 : Int32} {f25 : Nat → Int32} {f26 : Nat → Int32} {f27 : Nat → Int32} {f28 : Nat → Int32} {f29 : Nat → Int32} {f30 : Nat → Int32} (hX : XF x1 f2 f3 x4 f5 f6 x7 f8 x9 f10 f11 f12) (hM : MF x14 x15 x16 x17 x18 x19 x20 x21 x22 x23 x24 f25 f26 f27 f28 f29 f30) {ad13 ad31 : Nat → Nat} {ax am ao : Nat} (xs : Nat → Int32) : wc_LC29 0 0 0 x18 (fun _ => 0) xs := by
  obtain ⟨rfl, rfl, rfl, rfl, rfl⟩ := hX
  obtain ⟨rfl, rfl, rfl, rfl, rfl, rfl, rfl, rfl, rfl, rfl, rfl, rfl⟩ := hM
  unfold wc_LC29
  try unfold wq_L_ties
  try unfold wq_X10_ties
  try unfold wq_X11_ties
  try generalize xs 1 = y1
  try generalize xs 2 = y2
  try generalize xs 3 = y3
  try generalize xs 4 = y4
  try generalize xs 5 = y5
  try generalize xs 6 = y6
  try generalize xs 7 = y7
  try generalize xs 8 = y8
  repeat (first
    | exact trivial
    | (show False; (first | contradiction | (exfalso; simp only [Int32.lt_iff_toInt_lt, Int32.le_iff_toInt_le, ← Int32.toInt_inj, q_t0, q_t1, q_t2, q_t3, q_t5, q_t7, q_t9, q_t11, q_t12, q_t16, q_t20, q_t31, q_t60, q_t96, q_t99, q_t999, q_tm] at *; omega)))
    | exact ⟨fun _ => trivial, fun c => c rfl⟩
    | refine ⟨vin (by decide), ?_⟩
    | refine q_take (fun f9 h9 => ?_)
    | refine q_wF ?_
    | refine q_wmF ?_
    | refine ⟨fun c => absurd c (by decide), fun _ => ?_⟩
    | refine ⟨fun _ => ?_, fun c => absurd c (by decide)⟩
    | refine Or.inl ⟨rfl, ?_⟩
    | refine Or.inr ⟨rfl, ?_⟩
    | refine ⟨rfl, ?_⟩
    | refine ⟨by decide, ?_⟩
    | refine ⟨100, ?_⟩
    | (refine fun x e => ?_; rw [if_pos (by decide)] at e; subst e)
    | (refine fun x e => ?_; rw [if_neg (by decide)] at e; subst e)
    | (refine fun x e => ?_; subst e)
    | refine ⟨fun _ => ?_, fun c => by (first | contradiction | (exfalso; simp only [Int32.lt_iff_toInt_lt, Int32.le_iff_toInt_le, ← Int32.toInt_inj, q_t0, q_t1, q_t2, q_t3, q_t5, q_t7, q_t9, q_t11, q_t12, q_t16, q_t20, q_t31, q_t60, q_t96, q_t99, q_t999, q_tm] at *; omega))⟩
    | refine ⟨fun c => by (first | contradiction | (exfalso; simp only [Int32.lt_iff_toInt_lt, Int32.le_iff_toInt_le, ← Int32.toInt_inj, q_t0, q_t1, q_t2, q_t3, q_t5, q_t7, q_t9, q_t11, q_t12, q_t16, q_t20, q_t31, q_t60, q_t96, q_t99, q_t999, q_tm] at *; omega)), fun _ => ?_⟩
    | refine ⟨fun c => ?_, fun c => ?_⟩
    | refine ⟨fun c => ?_, ?_⟩
    | (refine fun c => ?_; (first | contradiction | (exfalso; simp only [Int32.lt_iff_toInt_lt, Int32.le_iff_toInt_le, ← Int32.toInt_inj, q_t0, q_t1, q_t2, q_t3, q_t5, q_t7, q_t9, q_t11, q_t12, q_t16, q_t20, q_t31, q_t60, q_t96, q_t99, q_t999, q_tm] at *; omega)))
    | (refine fun c => ?_; subst c)
    | refine fun c => ?_)
set_option maxHeartbeats 40000000 in
set_option maxRecDepth 100000 in
theorem pu_LC30 {x1 : Int32} {f2 : Nat → Int32} {f3 : Nat → Int32} {x4 : Int32} {f5 : Nat → Int32} {f6 : Nat → Int32} {x7 : Int32} {f8 : Nat → Int32} {x9 : Int32} {f10 : Nat → Int32} {f11 : Nat → Int32} {f12 : Nat → Int32} {x14 : Int32} {x15 : Int32} {x16 : Int32} {x17 : Int32} {x18 : Int32} {x19 : Int32} {x20 : Int32} {x21 : Int32} {x22 : Int32} {x23 : Int32} {x24 : Int32} {f25 : Nat → Int32} {f26 : Nat → Int32} {f27 : Nat → Int32} {f28 : Nat → Int32} {f29 : Nat → Int32} {f30 : Nat → Int32} (hX : XF x1 f2 f3 x4 f5 f6 x7 f8 x9 f10 f11 f12) (hM : MF x14 x15 x16 x17 x18 x19 x20 x21 x22 x23 x24 f25 f26 f27 f28 f29 f30) {ad13 ad31 : Nat → Nat} {ax am ao : Nat} (xs : Nat → Int32) : wc_LC30 0 0 0 x17 (fun _ => 0) xs := by
  obtain ⟨rfl, rfl, rfl, rfl, rfl⟩ := hX
  obtain ⟨rfl, rfl, rfl, rfl, rfl, rfl, rfl, rfl, rfl, rfl, rfl, rfl⟩ := hM
  unfold wc_LC30
  try unfold wq_L_refuge
  try unfold wq_X10_refuge
  try unfold wq_X11_refuge
  try generalize xs 1 = y1
  try generalize xs 2 = y2
  try generalize xs 3 = y3
  try generalize xs 4 = y4
  try generalize xs 5 = y5
  try generalize xs 6 = y6
  try generalize xs 7 = y7
  try generalize xs 8 = y8
  repeat (first
    | exact trivial
    | (show False; (first | contradiction | (exfalso; simp only [Int32.lt_iff_toInt_lt, Int32.le_iff_toInt_le, ← Int32.toInt_inj, q_t0, q_t1, q_t2, q_t3, q_t5, q_t7, q_t9, q_t11, q_t12, q_t16, q_t20, q_t31, q_t60, q_t96, q_t99, q_t999, q_tm] at *; omega)))
    | exact ⟨fun _ => trivial, fun c => c rfl⟩
    | refine ⟨vin (by decide), ?_⟩
    | refine q_take (fun f9 h9 => ?_)
    | refine q_wF ?_
    | refine q_wmF ?_
    | refine ⟨fun c => absurd c (by decide), fun _ => ?_⟩
    | refine ⟨fun _ => ?_, fun c => absurd c (by decide)⟩
    | refine Or.inl ⟨rfl, ?_⟩
    | refine Or.inr ⟨rfl, ?_⟩
    | refine ⟨rfl, ?_⟩
    | refine ⟨by decide, ?_⟩
    | refine ⟨100, ?_⟩
    | (refine fun x e => ?_; rw [if_pos (by decide)] at e; subst e)
    | (refine fun x e => ?_; rw [if_neg (by decide)] at e; subst e)
    | (refine fun x e => ?_; subst e)
    | refine ⟨fun _ => ?_, fun c => by (first | contradiction | (exfalso; simp only [Int32.lt_iff_toInt_lt, Int32.le_iff_toInt_le, ← Int32.toInt_inj, q_t0, q_t1, q_t2, q_t3, q_t5, q_t7, q_t9, q_t11, q_t12, q_t16, q_t20, q_t31, q_t60, q_t96, q_t99, q_t999, q_tm] at *; omega))⟩
    | refine ⟨fun c => by (first | contradiction | (exfalso; simp only [Int32.lt_iff_toInt_lt, Int32.le_iff_toInt_le, ← Int32.toInt_inj, q_t0, q_t1, q_t2, q_t3, q_t5, q_t7, q_t9, q_t11, q_t12, q_t16, q_t20, q_t31, q_t60, q_t96, q_t99, q_t999, q_tm] at *; omega)), fun _ => ?_⟩
    | refine ⟨fun c => ?_, fun c => ?_⟩
    | refine ⟨fun c => ?_, ?_⟩
    | (refine fun c => ?_; (first | contradiction | (exfalso; simp only [Int32.lt_iff_toInt_lt, Int32.le_iff_toInt_le, ← Int32.toInt_inj, q_t0, q_t1, q_t2, q_t3, q_t5, q_t7, q_t9, q_t11, q_t12, q_t16, q_t20, q_t31, q_t60, q_t96, q_t99, q_t999, q_tm] at *; omega)))
    | (refine fun c => ?_; subst c)
    | refine fun c => ?_)
set_option maxHeartbeats 40000000 in
set_option maxRecDepth 100000 in
theorem pu_LC31 {x1 : Int32} {f2 : Nat → Int32} {f3 : Nat → Int32} {x4 : Int32} {f5 : Nat → Int32} {f6 : Nat → Int32} {x7 : Int32} {f8 : Nat → Int32} {x9 : Int32} {f10 : Nat → Int32} {f11 : Nat → Int32} {f12 : Nat → Int32} {x14 : Int32} {x15 : Int32} {x16 : Int32} {x17 : Int32} {x18 : Int32} {x19 : Int32} {x20 : Int32} {x21 : Int32} {x22 : Int32} {x23 : Int32} {x24 : Int32} {f25 : Nat → Int32} {f26 : Nat → Int32} {f27 : Nat → Int32} {f28 : Nat → Int32} {f29 : Nat → Int32} {f30 : Nat → Int32} (hX : XF x1 f2 f3 x4 f5 f6 x7 f8 x9 f10 f11 f12) (hM : MF x14 x15 x16 x17 x18 x19 x20 x21 x22 x23 x24 f25 f26 f27 f28 f29 f30) {ad13 ad31 : Nat → Nat} {ax am ao : Nat} (xs : Nat → Int32) : wc_LC31 0 0 0 x18 (fun _ => 0) xs := by
  obtain ⟨rfl, rfl, rfl, rfl, rfl⟩ := hX
  obtain ⟨rfl, rfl, rfl, rfl, rfl, rfl, rfl, rfl, rfl, rfl, rfl, rfl⟩ := hM
  unfold wc_LC31
  try unfold wq_L_range
  try unfold wq_X10_range
  try unfold wq_X11_range
  try generalize xs 1 = y1
  try generalize xs 2 = y2
  try generalize xs 3 = y3
  try generalize xs 4 = y4
  try generalize xs 5 = y5
  try generalize xs 6 = y6
  try generalize xs 7 = y7
  try generalize xs 8 = y8
  repeat (first
    | exact trivial
    | (show False; (first | contradiction | (exfalso; simp only [Int32.lt_iff_toInt_lt, Int32.le_iff_toInt_le, ← Int32.toInt_inj, q_t0, q_t1, q_t2, q_t3, q_t5, q_t7, q_t9, q_t11, q_t12, q_t16, q_t20, q_t31, q_t60, q_t96, q_t99, q_t999, q_tm] at *; omega)))
    | exact ⟨fun _ => trivial, fun c => c rfl⟩
    | refine ⟨vin (by decide), ?_⟩
    | refine q_take (fun f9 h9 => ?_)
    | refine q_wF ?_
    | refine q_wmF ?_
    | refine ⟨fun c => absurd c (by decide), fun _ => ?_⟩
    | refine ⟨fun _ => ?_, fun c => absurd c (by decide)⟩
    | refine Or.inl ⟨rfl, ?_⟩
    | refine Or.inr ⟨rfl, ?_⟩
    | refine ⟨rfl, ?_⟩
    | refine ⟨by decide, ?_⟩
    | refine ⟨100, ?_⟩
    | (refine fun x e => ?_; rw [if_pos (by decide)] at e; subst e)
    | (refine fun x e => ?_; rw [if_neg (by decide)] at e; subst e)
    | (refine fun x e => ?_; subst e)
    | refine ⟨fun _ => ?_, fun c => by (first | contradiction | (exfalso; simp only [Int32.lt_iff_toInt_lt, Int32.le_iff_toInt_le, ← Int32.toInt_inj, q_t0, q_t1, q_t2, q_t3, q_t5, q_t7, q_t9, q_t11, q_t12, q_t16, q_t20, q_t31, q_t60, q_t96, q_t99, q_t999, q_tm] at *; omega))⟩
    | refine ⟨fun c => by (first | contradiction | (exfalso; simp only [Int32.lt_iff_toInt_lt, Int32.le_iff_toInt_le, ← Int32.toInt_inj, q_t0, q_t1, q_t2, q_t3, q_t5, q_t7, q_t9, q_t11, q_t12, q_t16, q_t20, q_t31, q_t60, q_t96, q_t99, q_t999, q_tm] at *; omega)), fun _ => ?_⟩
    | refine ⟨fun c => ?_, fun c => ?_⟩
    | refine ⟨fun c => ?_, ?_⟩
    | (refine fun c => ?_; (first | contradiction | (exfalso; simp only [Int32.lt_iff_toInt_lt, Int32.le_iff_toInt_le, ← Int32.toInt_inj, q_t0, q_t1, q_t2, q_t3, q_t5, q_t7, q_t9, q_t11, q_t12, q_t16, q_t20, q_t31, q_t60, q_t96, q_t99, q_t999, q_tm] at *; omega)))
    | (refine fun c => ?_; subst c)
    | refine fun c => ?_)
