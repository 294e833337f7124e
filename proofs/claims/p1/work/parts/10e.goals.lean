set_option maxHeartbeats 40000000 in
set_option maxRecDepth 100000 in
theorem pu_LC0 {x1 : Int32} {f2 : Nat → Int32} {f3 : Nat → Int32} {x4 : Int32} {f5 : Nat → Int32} {f6 : Nat → Int32} {x7 : Int32} {f8 : Nat → Int32} {x9 : Int32} {f10 : Nat → Int32} {f11 : Nat → Int32} {f12 : Nat → Int32} {x14 : Int32} {x15 : Int32} {x16 : Int32} {x17 : Int32} {x18 : Int32} {x19 : Int32} {x20 : Int32} {x21 : Int32} {x22 : Int32} {x23 : Int32} {x24 : Int32} {f25 : Nat → Int32} {f26 : Nat → Int32} {f27 : Nat → Int32} {f28 : Nat → Int32} {f29 : Nat → Int32} {f30 : Nat → Int32} (hX : XF x1 f2 f3 x4 f5 f6 x7 f8 x9 f10 f11 f12) (hM : MF x14 x15 x16 x17 x18 x19 x20 x21 x22 x23 x24 f25 f26 f27 f28 f29 f30) {ad13 ad31 : Nat → Nat} {ax am ao : Nat} (xs : Nat → Int32) : wc_LC0 0 (fun _ => 0) 0 0 (fun _ => 0) xs := by
  obtain ⟨rfl, rfl, rfl, rfl, rfl⟩ := hX
  obtain ⟨rfl, rfl, rfl, rfl, rfl, rfl, rfl, rfl, rfl, rfl, rfl, rfl⟩ := hM
  unfold wc_LC0
  try unfold wq_L_feed
  try unfold wq_X10_feed
  try unfold wq_X11_feed
  try generalize xs 1 = y1
  try generalize xs 2 = y2
  try generalize xs 3 = y3
  try generalize xs 4 = y4
  try generalize xs 5 = y5
  try generalize xs 6 = y6
  try generalize xs 7 = y7
  try generalize xs 8 = y8
  repeat (first
    | exact trivial
    | (show False; (first | contradiction | (exfalso; simp only [Int32.lt_iff_toInt_lt, Int32.le_iff_toInt_le, ← Int32.toInt_inj, q_t0, q_t1, q_t2, q_t3, q_t5, q_t7, q_t9, q_t11, q_t12, q_t16, q_t20, q_t31, q_t60, q_t96, q_t99, q_t999, q_tm] at *; omega)))
    | exact ⟨fun _ => trivial, fun c => c rfl⟩
    | refine ⟨vin (by decide), ?_⟩
    | refine q_take (fun f9 h9 => ?_)
    | refine q_wF ?_
    | refine q_wmF ?_
    | refine ⟨fun c => absurd c (by decide), fun _ => ?_⟩
    | refine ⟨fun _ => ?_, fun c => absurd c (by decide)⟩
    | refine Or.inl ⟨rfl, ?_⟩
    | refine Or.inr ⟨rfl, ?_⟩
    | refine ⟨rfl, ?_⟩
    | refine ⟨by decide, ?_⟩
    | refine ⟨100, ?_⟩
    | (refine fun x e => ?_; rw [if_pos (by decide)] at e; subst e)
    | (refine fun x e => ?_; rw [if_neg (by decide)] at e; subst e)
    | (refine fun x e => ?_; subst e)
    | refine ⟨fun _ => ?_, fun c => by (first | contradiction | (exfalso; simp only [Int32.lt_iff_toInt_lt, Int32.le_iff_toInt_le, ← Int32.toInt_inj, q_t0, q_t1, q_t2, q_t3, q_t5, q_t7, q_t9, q_t11, q_t12, q_t16, q_t20, q_t31, q_t60, q_t96, q_t99, q_t999, q_tm] at *; omega))⟩
    | refine ⟨fun c => by (first | contradiction | (exfalso; simp only [Int32.lt_iff_toInt_lt, Int32.le_iff_toInt_le, ← Int32.toInt_inj, q_t0, q_t1, q_t2, q_t3, q_t5, q_t7, q_t9, q_t11, q_t12, q_t16, q_t20, q_t31, q_t60, q_t96, q_t99, q_t999, q_tm] at *; omega)), fun _ => ?_⟩
    | refine ⟨fun c => ?_, fun c => ?_⟩
    | refine ⟨fun c => ?_, ?_⟩
    | (refine fun c => ?_; (first | contradiction | (exfalso; simp only [Int32.lt_iff_toInt_lt, Int32.le_iff_toInt_le, ← Int32.toInt_inj, q_t0, q_t1, q_t2, q_t3, q_t5, q_t7, q_t9, q_t11, q_t12, q_t16, q_t20, q_t31, q_t60, q_t96, q_t99, q_t999, q_tm] at *; omega)))
    | (refine fun c => ?_; subst c)
    | refine fun c => ?_)
set_option maxHeartbeats 40000000 in
set_option maxRecDepth 100000 in
theorem pu_LC20 {x1 : Int32} {f2 : Nat → Int32} {f3 : Nat → Int32} {x4 : Int32} {f5 : Nat → Int32} {f6 : Nat → Int32} {x7 : Int32} {f8 : Nat → Int32} {x9 : Int32} {f10 : Nat → Int32} {f11 : Nat → Int32} {f12 : Nat → Int32} {x14 : Int32} {x15 : Int32} {x16 : Int32} {x17 : Int32} {x18 : Int32} {x19 : Int32} {x20 : Int32} {x21 : Int32} {x22 : Int32} {x23 : Int32} {x24 : Int32} {f25 : Nat → Int32} {f26 : Nat → Int32} {f27 : Nat → Int32} {f28 : Nat → Int32} {f29 : Nat → Int32} {f30 : Nat → Int32} (hX : XF x1 f2 f3 x4 f5 f6 x7 f8 x9 f10 f11 f12) (hM : MF x14 x15 x16 x17 x18 x19 x20 x21 x22 x23 x24 f25 f26 f27 f28 f29 f30) {ad13 ad31 : Nat → Nat} {ax am ao : Nat} (xs : Nat → Int32) : wc_LC20 0 0 (fun _ => 0) 0 x17 (fun _ => 0) xs := by
  obtain ⟨rfl, rfl, rfl, rfl, rfl⟩ := hX
  obtain ⟨rfl, rfl, rfl, rfl, rfl, rfl, rfl, rfl, rfl, rfl, rfl, rfl⟩ := hM
  unfold wc_LC20
  try unfold wq_L_ringed
  try unfold wq_X10_ringed
  try unfold wq_X11_ringed
  try generalize xs 1 = y1
  try generalize xs 2 = y2
  try generalize xs 3 = y3
  try generalize xs 4 = y4
  try generalize xs 5 = y5
  try generalize xs 6 = y6
  try generalize xs 7 = y7
  try generalize xs 8 = y8
  repeat (first
    | exact trivial
    | (show False; (first | contradiction | (exfalso; simp only [Int32.lt_iff_toInt_lt, Int32.le_iff_toInt_le, ← Int32.toInt_inj, q_t0, q_t1, q_t2, q_t3, q_t5, q_t7, q_t9, q_t11, q_t12, q_t16, q_t20, q_t31, q_t60, q_t96, q_t99, q_t999, q_tm] at *; omega)))
    | exact ⟨fun _ => trivial, fun c => c rfl⟩
    | refine ⟨vin (by decide), ?_⟩
    | refine q_take (fun f9 h9 => ?_)
    | refine q_wF ?_
    | refine q_wmF ?_
    | refine ⟨fun c => absurd c (by decide), fun _ => ?_⟩
    | refine ⟨fun _ => ?_, fun c => absurd c (by decide)⟩
    | refine Or.inl ⟨rfl, ?_⟩
    | refine Or.inr ⟨rfl, ?_⟩
    | refine ⟨rfl, ?_⟩
    | refine ⟨by decide, ?_⟩
    | refine ⟨100, ?_⟩
    | (refine fun x e => ?_; rw [if_pos (by decide)] at e; subst e)
    | (refine fun x e => ?_; rw [if_neg (by decide)] at e; subst e)
    | (refine fun x e => ?_; subst e)
    | refine ⟨fun _ => ?_, fun c => by (first | contradiction | (exfalso; simp only [Int32.lt_iff_toInt_lt, Int32.le_iff_toInt_le, ← Int32.toInt_inj, q_t0, q_t1, q_t2, q_t3, q_t5, q_t7, q_t9, q_t11, q_t12, q_t16, q_t20, q_t31, q_t60, q_t96, q_t99, q_t999, q_tm] at *; omega))⟩
    | refine ⟨fun c => by (first | contradiction | (exfalso; simp only [Int32.lt_iff_toInt_lt, Int32.le_iff_toInt_le, ← Int32.toInt_inj, q_t0, q_t1, q_t2, q_t3, q_t5, q_t7, q_t9, q_t11, q_t12, q_t16, q_t20, q_t31, q_t60, q_t96, q_t99, q_t999, q_tm] at *; omega)), fun _ => ?_⟩
    | refine ⟨fun c => ?_, fun c => ?_⟩
    | refine ⟨fun c => ?_, ?_⟩
    | (refine fun c => ?_; (first | contradiction | (exfalso; simp only [Int32.lt_iff_toInt_lt, Int32.le_iff_toInt_le, ← Int32.toInt_inj, q_t0, q_t1, q_t2, q_t3, q_t5, q_t7, q_t9, q_t11, q_t12, q_t16, q_t20, q_t31, q_t60, q_t96, q_t99, q_t999, q_tm] at *; omega)))
    | (refine fun c => ?_; subst c)
    | refine fun c => ?_)
set_option maxHeartbeats 40000000 in
set_option maxRecDepth 100000 in
theorem pu_LC22 {x1 : Int32} {f2 : Nat → Int32} {f3 : Nat → Int32} {x4 : Int32} {f5 : Nat → Int32} {f6 : Nat → Int32} {x7 : Int32} {f8 : Nat → Int32} {x9 : Int32} {f10 : Nat → Int32} {f11 : Nat → Int32} {f12 : Nat → Int32} {x14 : Int32} {x15 : Int32} {x16 : Int32} {x17 : Int32} {x18 : Int32} {x19 : Int32} {x20 : Int32} {x21 : Int32} {x22 : Int32} {x23 : Int32} {x24 : Int32} {f25 : Nat → Int32} {f26 : Nat → Int32} {f27 : Nat → Int32} {f28 : Nat → Int32} {f29 : Nat → Int32} {f30 : Nat → Int32} (hX : XF x1 f2 f3 x4 f5 f6 x7 f8 x9 f10 f11 f12) (hM : MF x14 x15 x16 x17 x18 x19 x20 x21 x22 x23 x24 f25 f26 f27 f28 f29 f30) {ad13 ad31 : Nat → Nat} {ax am ao : Nat} (xs : Nat → Int32) : wc_LC22 (ad13 30) 0 0 0 0 0 0 0 (fun _ => 0) 0 x18 (fun _ => 0) f29 (fun _ => 0) (.null) xs := by
  obtain ⟨rfl, rfl, rfl, rfl, rfl⟩ := hX
  obtain ⟨rfl, rfl, rfl, rfl, rfl, rfl, rfl, rfl, rfl, rfl, rfl, rfl⟩ := hM
  unfold wc_LC22
  try unfold wq_L_fits
  try unfold wq_X10_fits
  try unfold wq_X11_fits
  try generalize xs 1 = y1
  try generalize xs 2 = y2
  try generalize xs 3 = y3
  try generalize xs 4 = y4
  try generalize xs 5 = y5
  try generalize xs 6 = y6
  try generalize xs 7 = y7
  try generalize xs 8 = y8
  repeat (first
    | exact trivial
    | (show False; (first | contradiction | (exfalso; simp only [Int32.lt_iff_toInt_lt, Int32.le_iff_toInt_le, ← Int32.toInt_inj, q_t0, q_t1, q_t2, q_t3, q_t5, q_t7, q_t9, q_t11, q_t12, q_t16, q_t20, q_t31, q_t60, q_t96, q_t99, q_t999, q_tm] at *; omega)))
    | exact ⟨fun _ => trivial, fun c => c rfl⟩
    | refine ⟨vin (by decide), ?_⟩
    | refine q_take (fun f9 h9 => ?_)
    | refine q_wF ?_
    | refine q_wmF ?_
    | refine ⟨fun c => absurd c (by decide), fun _ => ?_⟩
    | refine ⟨fun _ => ?_, fun c => absurd c (by decide)⟩
    | refine Or.inl ⟨rfl, ?_⟩
    | refine Or.inr ⟨rfl, ?_⟩
    | refine ⟨rfl, ?_⟩
    | refine ⟨by decide, ?_⟩
    | refine ⟨100, ?_⟩
    | (refine fun x e => ?_; rw [if_pos (by decide)] at e; subst e)
    | (refine fun x e => ?_; rw [if_neg (by decide)] at e; subst e)
    | (refine fun x e => ?_; subst e)
    | refine ⟨fun _ => ?_, fun c => by (first | contradiction | (exfalso; simp only [Int32.lt_iff_toInt_lt, Int32.le_iff_toInt_le, ← Int32.toInt_inj, q_t0, q_t1, q_t2, q_t3, q_t5, q_t7, q_t9, q_t11, q_t12, q_t16, q_t20, q_t31, q_t60, q_t96, q_t99, q_t999, q_tm] at *; omega))⟩
    | refine ⟨fun c => by (first | contradiction | (exfalso; simp only [Int32.lt_iff_toInt_lt, Int32.le_iff_toInt_le, ← Int32.toInt_inj, q_t0, q_t1, q_t2, q_t3, q_t5, q_t7, q_t9, q_t11, q_t12, q_t16, q_t20, q_t31, q_t60, q_t96, q_t99, q_t999, q_tm] at *; omega)), fun _ => ?_⟩
    | refine ⟨fun c => ?_, fun c => ?_⟩
    | refine ⟨fun c => ?_, ?_⟩
    | (refine fun c => ?_; (first | contradiction | (exfalso; simp only [Int32.lt_iff_toInt_lt, Int32.le_iff_toInt_le, ← Int32.toInt_inj, q_t0, q_t1, q_t2, q_t3, q_t5, q_t7, q_t9, q_t11, q_t12, q_t16, q_t20, q_t31, q_t60, q_t96, q_t99, q_t999, q_tm] at *; omega)))
    | (refine fun c => ?_; subst c)
    | refine fun c => ?_)
set_option maxHeartbeats 40000000 in
set_option maxRecDepth 100000 in
theorem pu_LC23 {x1 : Int32} {f2 : Nat → Int32} {f3 : Nat → Int32} {x4 : Int32} {f5 : Nat → Int32} {f6 : Nat → Int32} {x7 : Int32} {f8 : Nat → Int32} {x9 : Int32} {f10 : Nat → Int32} {f11 : Nat → Int32} {f12 : Nat → Int32} {x14 : Int32} {x15 : Int32} {x16 : Int32} {x17 : Int32} {x18 : Int32} {x19 : Int32} {x20 : Int32} {x21 : Int32} {x22 : Int32} {x23 : Int32} {x24 : Int32} {f25 : Nat → Int32} {f26 : Nat → Int32} {f27 : Nat → Int32} {f28 : Nat → Int32} {f29 : Nat → Int32} {f30 : Nat → Int32} (hX : XF x1 f2 f3 x4 f5 f6 x7 f8 x9 f10 f11 f12) (hM : MF x14 x15 x16 x17 x18 x19 x20 x21 x22 x23 x24 f25 f26 f27 f28 f29 f30) {ad13 ad31 : Nat → Nat} {ax am ao : Nat} (xs : Nat → Int32) : wc_LC23 (ad13 30) 0 0 0 0 0 0 0 0 0 (fun _ => 0) 0 x17 (fun _ => 0) f29 (fun _ => 0) (.null) xs := by
  obtain ⟨rfl, rfl, rfl, rfl, rfl⟩ := hX
  obtain ⟨rfl, rfl, rfl, rfl, rfl, rfl, rfl, rfl, rfl, rfl, rfl, rfl⟩ := hM
  unfold wc_LC23
  try unfold wq_L_look
  try unfold wq_X10_look
  try unfold wq_X11_look
  try generalize xs 1 = y1
  try generalize xs 2 = y2
  try generalize xs 3 = y3
  try generalize xs 4 = y4
  try generalize xs 5 = y5
  try generalize xs 6 = y6
  try generalize xs 7 = y7
  try generalize xs 8 = y8
  repeat (first
    | exact trivial
    | (show False; (first | contradiction | (exfalso; simp only [Int32.lt_iff_toInt_lt, Int32.le_iff_toInt_le, ← Int32.toInt_inj, q_t0, q_t1, q_t2, q_t3, q_t5, q_t7, q_t9, q_t11, q_t12, q_t16, q_t20, q_t31, q_t60, q_t96, q_t99, q_t999, q_tm] at *; omega)))
    | exact ⟨fun _ => trivial, fun c => c rfl⟩
    | refine ⟨vin (by decide), ?_⟩
    | refine q_take (fun f9 h9 => ?_)
    | refine q_wF ?_
    | refine q_wmF ?_
    | refine ⟨fun c => absurd c (by decide), fun _ => ?_⟩
    | refine ⟨fun _ => ?_, fun c => absurd c (by decide)⟩
    | refine Or.inl ⟨rfl, ?_⟩
    | refine Or.inr ⟨rfl, ?_⟩
    | refine ⟨rfl, ?_⟩
    | refine ⟨by decide, ?_⟩
    | refine ⟨100, ?_⟩
    | (refine fun x e => ?_; rw [if_pos (by decide)] at e; subst e)
    | (refine fun x e => ?_; rw [if_neg (by decide)] at e; subst e)
    | (refine fun x e => ?_; subst e)
    | refine ⟨fun _ => ?_, fun c => by (first | contradiction | (exfalso; simp only [Int32.lt_iff_toInt_lt, Int32.le_iff_toInt_le, ← Int32.toInt_inj, q_t0, q_t1, q_t2, q_t3, q_t5, q_t7, q_t9, q_t11, q_t12, q_t16, q_t20, q_t31, q_t60, q_t96, q_t99, q_t999, q_tm] at *; omega))⟩
    | refine ⟨fun c => by (first | contradiction | (exfalso; simp only [Int32.lt_iff_toInt_lt, Int32.le_iff_toInt_le, ← Int32.toInt_inj, q_t0, q_t1, q_t2, q_t3, q_t5, q_t7, q_t9, q_t11, q_t12, q_t16, q_t20, q_t31, q_t60, q_t96, q_t99, q_t999, q_tm] at *; omega)), fun _ => ?_⟩
    | refine ⟨fun c => ?_, fun c => ?_⟩
    | refine ⟨fun c => ?_, ?_⟩
    | (refine fun c => ?_; (first | contradiction | (exfalso; simp only [Int32.lt_iff_toInt_lt, Int32.le_iff_toInt_le, ← Int32.toInt_inj, q_t0, q_t1, q_t2, q_t3, q_t5, q_t7, q_t9, q_t11, q_t12, q_t16, q_t20, q_t31, q_t60, q_t96, q_t99, q_t999, q_tm] at *; omega)))
    | (refine fun c => ?_; subst c)
    | refine fun c => ?_)
set_option maxHeartbeats 40000000 in
set_option maxRecDepth 100000 in
theorem pu_LC24 {x1 : Int32} {f2 : Nat → Int32} {f3 : Nat → Int32} {x4 : Int32} {f5 : Nat → Int32} {f6 : Nat → Int32} {x7 : Int32} {f8 : Nat → Int32} {x9 : Int32} {f10 : Nat → Int32} {f11 : Nat → Int32} {f12 : Nat → Int32} {x14 : Int32} {x15 : Int32} {x16 : Int32} {x17 : Int32} {x18 : Int32} {x19 : Int32} {x20 : Int32} {x21 : Int32} {x22 : Int32} {x23 : Int32} {x24 : Int32} {f25 : Nat → Int32} {f26 : Nat → Int32} {f27 : Nat → Int32} {f28 : Nat → Int32} {f29 : Nat → Int32} {f30 : Nat → Int32} (hX : XF x1 f2 f3 x4 f5 f6 x7 f8 x9 f10 f11 f12) (hM : MF x14 x15 x16 x17 x18 x19 x20 x21 x22 x23 x24 f25 f26 f27 f28 f29 f30) {ad13 ad31 : Nat → Nat} {ax am ao : Nat} (xs : Nat → Int32) : wc_LC24 0 0 (fun _ => 0) 0 x17 (fun _ => 0) xs := by
  obtain ⟨rfl, rfl, rfl, rfl, rfl⟩ := hX
  obtain ⟨rfl, rfl, rfl, rfl, rfl, rfl, rfl, rfl, rfl, rfl, rfl, rfl⟩ := hM
  unfold wc_LC24
  try unfold wq_L_watch
  try unfold wq_X10_watch
  try unfold wq_X11_watch
  try generalize xs 1 = y1
  try generalize xs 2 = y2
  try generalize xs 3 = y3
  try generalize xs 4 = y4
  try generalize xs 5 = y5
  try generalize xs 6 = y6
  try generalize xs 7 = y7
  try generalize xs 8 = y8
  repeat (first
    | exact trivial
    | (show False; (first | contradiction | (exfalso; simp only [Int32.lt_iff_toInt_lt, Int32.le_iff_toInt_le, ← Int32.toInt_inj, q_t0, q_t1, q_t2, q_t3, q_t5, q_t7, q_t9, q_t11, q_t12, q_t16, q_t20, q_t31, q_t60, q_t96, q_t99, q_t999, q_tm] at *; omega)))
    | exact ⟨fun _ => trivial, fun c => c rfl⟩
    | refine ⟨vin (by decide), ?_⟩
    | refine q_take (fun f9 h9 => ?_)
    | refine q_wF ?_
    | refine q_wmF ?_
    | refine ⟨fun c => absurd c (by decide), fun _ => ?_⟩
    | refine ⟨fun _ => ?_, fun c => absurd c (by decide)⟩
    | refine Or.inl ⟨rfl, ?_⟩
    | refine Or.inr ⟨rfl, ?_⟩
    | refine ⟨rfl, ?_⟩
    | refine ⟨by decide, ?_⟩
    | refine ⟨100, ?_⟩
    | (refine fun x e => ?_; rw [if_pos (by decide)] at e; subst e)
    | (refine fun x e => ?_; rw [if_neg (by decide)] at e; subst e)
    | (refine fun x e => ?_; subst e)
    | refine ⟨fun _ => ?_, fun c => by (first | contradiction | (exfalso; simp only [Int32.lt_iff_toInt_lt, Int32.le_iff_toInt_le, ← Int32.toInt_inj, q_t0, q_t1, q_t2, q_t3, q_t5, q_t7, q_t9, q_t11, q_t12, q_t16, q_t20, q_t31, q_t60, q_t96, q_t99, q_t999, q_tm] at *; omega))⟩
    | refine ⟨fun c => by (first | contradiction | (exfalso; simp only [Int32.lt_iff_toInt_lt, Int32.le_iff_toInt_le, ← Int32.toInt_inj, q_t0, q_t1, q_t2, q_t3, q_t5, q_t7, q_t9, q_t11, q_t12, q_t16, q_t20, q_t31, q_t60, q_t96, q_t99, q_t999, q_tm] at *; omega)), fun _ => ?_⟩
    | refine ⟨fun c => ?_, fun c => ?_⟩
    | refine ⟨fun c => ?_, ?_⟩
    | (refine fun c => ?_; (first | contradiction | (exfalso; simp only [Int32.lt_iff_toInt_lt, Int32.le_iff_toInt_le, ← Int32.toInt_inj, q_t0, q_t1, q_t2, q_t3, q_t5, q_t7, q_t9, q_t11, q_t12, q_t16, q_t20, q_t31, q_t60, q_t96, q_t99, q_t999, q_tm] at *; omega)))
    | (refine fun c => ?_; subst c)
    | refine fun c => ?_)
set_option maxHeartbeats 40000000 in
set_option maxRecDepth 100000 in
theorem pu_LC28 {x1 : Int32} {f2 : Nat → Int32} {f3 : Nat → Int32} {x4 : Int32} {f5 : Nat → Int32} {f6 : Nat → Int32} {x7 : Int32} {f8 : Nat → Int32} {x9 : Int32} {f10 : Nat → Int32} {f11 : Nat → Int32} {f12 : Nat → Int32} {x14 : Int32} {x15 : Int32} {x16 : Int32} {x17 : Int32} {x18 : Int32} {x19 : Int32} {x20 : Int32} {x21 : Int32} {x22 : Int32} {x23 : Int32} {x24 : Int32} {f25 : Nat → Int32} {f26 : Nat → Int32} {f27 : Nat → Int32} {f28 : Nat → Int32} {f29 : Nat → Int32} {f30 : Nat → Int32} (hX : XF x1 f2 f3 x4 f5 f6 x7 f8 x9 f10 f11 f12) (hM : MF x14 x15 x16 x17 x18 x19 x20 x21 x22 x23 x24 f25 f26 f27 f28 f29 f30) {ad13 ad31 : Nat → Nat} {ax am ao : Nat} (xs : Nat → Int32) : wc_LC28 0 0 (fun _ => 0) 0 x18 (fun _ => 0) f29 (fun _ => 0) xs := by
  obtain ⟨rfl, rfl, rfl, rfl, rfl⟩ := hX
  obtain ⟨rfl, rfl, rfl, rfl, rfl, rfl, rfl, rfl, rfl, rfl, rfl, rfl⟩ := hM
  unfold wc_LC28
  try unfold wq_L_strongest
  try unfold wq_X10_strongest
  try unfold wq_X11_strongest
  try generalize xs 1 = y1
  try generalize xs 2 = y2
  try generalize xs 3 = y3
  try generalize xs 4 = y4
  try generalize xs 5 = y5
  try generalize xs 6 = y6
  try generalize xs 7 = y7
  try generalize xs 8 = y8
  repeat (first
    | exact trivial
    | (show False; (first | contradiction | (exfalso; simp only [Int32.lt_iff_toInt_lt, Int32.le_iff_toInt_le, ← Int32.toInt_inj, q_t0, q_t1, q_t2, q_t3, q_t5, q_t7, q_t9, q_t11, q_t12, q_t16, q_t20, q_t31, q_t60, q_t96, q_t99, q_t999, q_tm] at *; omega)))
    | exact ⟨fun _ => trivial, fun c => c rfl⟩
    | refine ⟨vin (by decide), ?_⟩
    | refine q_take (fun f9 h9 => ?_)
    | refine q_wF ?_
    | refine q_wmF ?_
    | refine ⟨fun c => absurd c (by decide), fun _ => ?_⟩
    | refine ⟨fun _ => ?_, fun c => absurd c (by decide)⟩
    | refine Or.inl ⟨rfl, ?_⟩
    | refine Or.inr ⟨rfl, ?_⟩
    | refine ⟨rfl, ?_⟩
    | refine ⟨by decide, ?_⟩
    | refine ⟨100, ?_⟩
    | (refine fun x e => ?_; rw [if_pos (by decide)] at e; subst e)
    | (refine fun x e => ?_; rw [if_neg (by decide)] at e; subst e)
    | (refine fun x e => ?_; subst e)
    | refine ⟨fun _ => ?_, fun c => by (first | contradiction | (exfalso; simp only [Int32.lt_iff_toInt_lt, Int32.le_iff_toInt_le, ← Int32.toInt_inj, q_t0, q_t1, q_t2, q_t3, q_t5, q_t7, q_t9, q_t11, q_t12, q_t16, q_t20, q_t31, q_t60, q_t96, q_t99, q_t999, q_tm] at *; omega))⟩
    | refine ⟨fun c => by (first | contradiction | (exfalso; simp only [Int32.lt_iff_toInt_lt, Int32.le_iff_toInt_le, ← Int32.toInt_inj, q_t0, q_t1, q_t2, q_t3, q_t5, q_t7, q_t9, q_t11, q_t12, q_t16, q_t20, q_t31, q_t60, q_t96, q_t99, q_t999, q_tm] at *; omega)), fun _ => ?_⟩
    | refine ⟨fun c => ?_, fun c => ?_⟩
    | refine ⟨fun c => ?_, ?_⟩
    | (refine fun c => ?_; (first | contradiction | (exfalso; simp only [Int32.lt_iff_toInt_lt, Int32.le_iff_toInt_le, ← Int32.toInt_inj, q_t0, q_t1, q_t2, q_t3, q_t5, q_t7, q_t9, q_t11, q_t12, q_t16, q_t20, q_t31, q_t60, q_t96, q_t99, q_t999, q_tm] at *; omega)))
    | (refine fun c => ?_; subst c)
    | refine fun c => ?_)
set_option maxHeartbeats 40000000 in
set_option maxRecDepth 100000 in
theorem pu_LC33 {x1 : Int32} {f2 : Nat → Int32} {f3 : Nat → Int32} {x4 : Int32} {f5 : Nat → Int32} {f6 : Nat → Int32} {x7 : Int32} {f8 : Nat → Int32} {x9 : Int32} {f10 : Nat → Int32} {f11 : Nat → Int32} {f12 : Nat → Int32} {x14 : Int32} {x15 : Int32} {x16 : Int32} {x17 : Int32} {x18 : Int32} {x19 : Int32} {x20 : Int32} {x21 : Int32} {x22 : Int32} {x23 : Int32} {x24 : Int32} {f25 : Nat → Int32} {f26 : Nat → Int32} {f27 : Nat → Int32} {f28 : Nat → Int32} {f29 : Nat → Int32} {f30 : Nat → Int32} (hX : XF x1 f2 f3 x4 f5 f6 x7 f8 x9 f10 f11 f12) (hM : MF x14 x15 x16 x17 x18 x19 x20 x21 x22 x23 x24 f25 f26 f27 f28 f29 f30) {ad13 ad31 : Nat → Nat} {ax am ao : Nat} (xs : Nat → Int32) : wc_LC33 0 0 0 x18 (fun _ => 0) xs := by
  obtain ⟨rfl, rfl, rfl, rfl, rfl⟩ := hX
  obtain ⟨rfl, rfl, rfl, rfl, rfl, rfl, rfl, rfl, rfl, rfl, rfl, rfl⟩ := hM
  unfold wc_LC33
  try unfold wq_L_span
  try unfold wq_X10_span
  try unfold wq_X11_span
  try generalize xs 1 = y1
  try generalize xs 2 = y2
  try generalize xs 3 = y3
  try generalize xs 4 = y4
  try generalize xs 5 = y5
  try generalize xs 6 = y6
  try generalize xs 7 = y7
  try generalize xs 8 = y8
  repeat (first
    | exact trivial
    | (show False; (first | contradiction | (exfalso; simp only [Int32.lt_iff_toInt_lt, Int32.le_iff_toInt_le, ← Int32.toInt_inj, q_t0, q_t1, q_t2, q_t3, q_t5, q_t7, q_t9, q_t11, q_t12, q_t16, q_t20, q_t31, q_t60, q_t96, q_t99, q_t999, q_tm] at *; omega)))
    | exact ⟨fun _ => trivial, fun c => c rfl⟩
    | refine ⟨vin (by decide), ?_⟩
    | refine q_take (fun f9 h9 => ?_)
    | refine q_wF ?_
    | refine q_wmF ?_
    | refine ⟨fun c => absurd c (by decide), fun _ => ?_⟩
    | refine ⟨fun _ => ?_, fun c => absurd c (by decide)⟩
    | refine Or.inl ⟨rfl, ?_⟩
    | refine Or.inr ⟨rfl, ?_⟩
    | refine ⟨rfl, ?_⟩
    | refine ⟨by decide, ?_⟩
    | refine ⟨100, ?_⟩
    | (refine fun x e => ?_; rw [if_pos (by decide)] at e; subst e)
    | (refine fun x e => ?_; rw [if_neg (by decide)] at e; subst e)
    | (refine fun x e => ?_; subst e)
    | refine ⟨fun _ => ?_, fun c => by (first | contradiction | (exfalso; simp only [Int32.lt_iff_toInt_lt, Int32.le_iff_toInt_le, ← Int32.toInt_inj, q_t0, q_t1, q_t2, q_t3, q_t5, q_t7, q_t9, q_t11, q_t12, q_t16, q_t20, q_t31, q_t60, q_t96, q_t99, q_t999, q_tm] at *; omega))⟩
    | refine ⟨fun c => by (first | contradiction | (exfalso; simp only [Int32.lt_iff_toInt_lt, Int32.le_iff_toInt_le, ← Int32.toInt_inj, q_t0, q_t1, q_t2, q_t3, q_t5, q_t7, q_t9, q_t11, q_t12, q_t16, q_t20, q_t31, q_t60, q_t96, q_t99, q_t999, q_tm] at *; omega)), fun _ => ?_⟩
    | refine ⟨fun c => ?_, fun c => ?_⟩
    | refine ⟨fun c => ?_, ?_⟩
    | (refine fun c => ?_; (first | contradiction | (exfalso; simp only [Int32.lt_iff_toInt_lt, Int32.le_iff_toInt_le, ← Int32.toInt_inj, q_t0, q_t1, q_t2, q_t3, q_t5, q_t7, q_t9, q_t11, q_t12, q_t16, q_t20, q_t31, q_t60, q_t96, q_t99, q_t999, q_tm] at *; omega)))
    | (refine fun c => ?_; subst c)
    | refine fun c => ?_)
set_option maxHeartbeats 40000000 in
set_option maxRecDepth 100000 in
theorem pu_LC34 {x1 : Int32} {f2 : Nat → Int32} {f3 : Nat → Int32} {x4 : Int32} {f5 : Nat → Int32} {f6 : Nat → Int32} {x7 : Int32} {f8 : Nat → Int32} {x9 : Int32} {f10 : Nat → Int32} {f11 : Nat → Int32} {f12 : Nat → Int32} {x14 : Int32} {x15 : Int32} {x16 : Int32} {x17 : Int32} {x18 : Int32} {x19 : Int32} {x20 : Int32} {x21 : Int32} {x22 : Int32} {x23 : Int32} {x24 : Int32} {f25 : Nat → Int32} {f26 : Nat → Int32} {f27 : Nat → Int32} {f28 : Nat → Int32} {f29 : Nat → Int32} {f30 : Nat → Int32} (hX : XF x1 f2 f3 x4 f5 f6 x7 f8 x9 f10 f11 f12) (hM : MF x14 x15 x16 x17 x18 x19 x20 x21 x22 x23 x24 f25 f26 f27 f28 f29 f30) {ad13 ad31 : Nat → Nat} {ax am ao : Nat} (xs : Nat → Int32) : wc_LC34 0 0 0 (fun _ => 0) (fun _ => 0) f11 0 (fun _ => 0) 0 (fun _ => 0) 0 x21 x24 f29 (fun _ => 0) (fun _ => 0) xs := by
  obtain ⟨rfl, rfl, rfl, rfl, rfl⟩ := hX
  obtain ⟨rfl, rfl, rfl, rfl, rfl, rfl, rfl, rfl, rfl, rfl, rfl, rfl⟩ := hM
  unfold wc_LC34
  try unfold wq_L_image
  try unfold wq_X10_image
  try unfold wq_X11_image
  try generalize xs 1 = y1
  try generalize xs 2 = y2
  try generalize xs 3 = y3
  try generalize xs 4 = y4
  try generalize xs 5 = y5
  try generalize xs 6 = y6
  try generalize xs 7 = y7
  try generalize xs 8 = y8
  repeat (first
    | exact trivial
    | (show False; (first | contradiction | (exfalso; simp only [Int32.lt_iff_toInt_lt, Int32.le_iff_toInt_le, ← Int32.toInt_inj, q_t0, q_t1, q_t2, q_t3, q_t5, q_t7, q_t9, q_t11, q_t12, q_t16, q_t20, q_t31, q_t60, q_t96, q_t99, q_t999, q_tm] at *; omega)))
    | exact ⟨fun _ => trivial, fun c => c rfl⟩
    | refine ⟨vin (by decide), ?_⟩
    | refine q_keepAll (fun g => ?_)
    | refine q_take (fun f9 h9 => ?_)
    | refine q_wF ?_
    | refine q_wmF ?_
    | refine ⟨fun c => absurd c (by decide), fun _ => ?_⟩
    | refine ⟨fun _ => ?_, fun c => absurd c (by decide)⟩
    | refine Or.inl ⟨rfl, ?_⟩
    | refine Or.inr ⟨rfl, ?_⟩
    | refine ⟨rfl, ?_⟩
    | refine ⟨by decide, ?_⟩
    | refine ⟨100, ?_⟩
    | (refine fun x e => ?_; rw [if_pos (by decide)] at e; subst e)
    | (refine fun x e => ?_; rw [if_neg (by decide)] at e; subst e)
    | (refine fun x e => ?_; subst e)
    | refine ⟨fun _ => ?_, fun c => by (first | contradiction | (exfalso; simp only [Int32.lt_iff_toInt_lt, Int32.le_iff_toInt_le, ← Int32.toInt_inj, q_t0, q_t1, q_t2, q_t3, q_t5, q_t7, q_t9, q_t11, q_t12, q_t16, q_t20, q_t31, q_t60, q_t96, q_t99, q_t999, q_tm] at *; omega))⟩
    | refine ⟨fun c => by (first | contradiction | (exfalso; simp only [Int32.lt_iff_toInt_lt, Int32.le_iff_toInt_le, ← Int32.toInt_inj, q_t0, q_t1, q_t2, q_t3, q_t5, q_t7, q_t9, q_t11, q_t12, q_t16, q_t20, q_t31, q_t60, q_t96, q_t99, q_t999, q_tm] at *; omega)), fun _ => ?_⟩
    | refine ⟨fun c => ?_, fun c => ?_⟩
    | refine ⟨fun c => ?_, ?_⟩
    | (refine fun c => ?_; (first | contradiction | (exfalso; simp only [Int32.lt_iff_toInt_lt, Int32.le_iff_toInt_le, ← Int32.toInt_inj, q_t0, q_t1, q_t2, q_t3, q_t5, q_t7, q_t9, q_t11, q_t12, q_t16, q_t20, q_t31, q_t60, q_t96, q_t99, q_t999, q_tm] at *; omega)))
    | (refine fun c => ?_; subst c)
    | refine fun c => ?_)
