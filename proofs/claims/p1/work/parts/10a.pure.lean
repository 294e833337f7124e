set_option maxHeartbeats 4000000 in
set_option maxRecDepth 100000 in
theorem pu_LC5 {x1 : Int32} {f2 : Nat → Int32} {f3 : Nat → Int32} {x4 : Int32} {f5 : Nat → Int32} {f6 : Nat → Int32} {x7 : Int32} {f8 : Nat → Int32} {x9 : Int32} {f10 : Nat → Int32} {f11 : Nat → Int32} {f12 : Nat → Int32} {x14 : Int32} {x15 : Int32} {x16 : Int32} {x17 : Int32} {x18 : Int32} {x19 : Int32} {x20 : Int32} {x21 : Int32} {x22 : Int32} {x23 : Int32} {x24 : Int32} {f25 : Nat → Int32} {f26 : Nat → Int32} {f27 : Nat → Int32} {f28 : Nat → Int32} {f29 : Nat → Int32} {f30 : Nat → Int32} (hX : XF x1 f2 f3 x4 f5 f6 x7 f8 x9 f10 f11 f12) (hM : MF x14 x15 x16 x17 x18 x19 x20 x21 x22 x23 x24 f25 f26 f27 f28 f29 f30) {ad13 ad31 : Nat → Nat} {ax am ao : Nat} (xs : Nat → Int32) : wc_LC5 (-1) 0 (-1) xs := by
  obtain ⟨rfl, rfl, rfl, rfl, rfl⟩ := hX
  obtain ⟨rfl, rfl, rfl, rfl, rfl, rfl, rfl, rfl, rfl, rfl, rfl, rfl⟩ := hM
  unfold wc_LC5
  try generalize xs 1 = y1
  try generalize xs 2 = y2
  try generalize xs 3 = y3
  try generalize xs 4 = y4
  try generalize xs 5 = y5
  try generalize xs 6 = y6
  try generalize xs 7 = y7
  try generalize xs 8 = y8
  repeat (first
    | exact trivial
    | exact ⟨fun _ => trivial, fun c => c rfl⟩
    | refine q_wF ?_
    | refine q_wmF ?_
    | refine ⟨fun c => absurd c (by decide), fun _ => ?_⟩
    | refine ⟨fun _ => ?_, fun c => absurd c (by decide)⟩
    | refine ⟨vin (by decide), ?_⟩
    | refine Or.inl ⟨rfl, ?_⟩
    | refine Or.inr ⟨rfl, ?_⟩
    | refine ⟨rfl, ?_⟩
    | refine ⟨100, ?_⟩
    | (refine fun x e => ?_; subst e)
    | refine ⟨fun _ => ?_, fun c => by (first | contradiction | (exfalso; simp only [Int32.lt_iff_toInt_lt, Int32.le_iff_toInt_le, ← Int32.toInt_inj] at *; omega))⟩
    | refine ⟨fun c => by (first | contradiction | (exfalso; simp only [Int32.lt_iff_toInt_lt, Int32.le_iff_toInt_le, ← Int32.toInt_inj] at *; omega)), fun _ => ?_⟩
    | refine ⟨fun c => ?_, fun c => ?_⟩
    | refine ⟨fun c => ?_, ?_⟩
    | (refine fun c => ?_; (first | contradiction | (exfalso; simp only [Int32.lt_iff_toInt_lt, Int32.le_iff_toInt_le, ← Int32.toInt_inj] at *; omega)))
    | (refine fun c => ?_; subst c)
    | refine fun c => ?_)
set_option maxHeartbeats 4000000 in
set_option maxRecDepth 100000 in
theorem pu_LC6 {x1 : Int32} {f2 : Nat → Int32} {f3 : Nat → Int32} {x4 : Int32} {f5 : Nat → Int32} {f6 : Nat → Int32} {x7 : Int32} {f8 : Nat → Int32} {x9 : Int32} {f10 : Nat → Int32} {f11 : Nat → Int32} {f12 : Nat → Int32} {x14 : Int32} {x15 : Int32} {x16 : Int32} {x17 : Int32} {x18 : Int32} {x19 : Int32} {x20 : Int32} {x21 : Int32} {x22 : Int32} {x23 : Int32} {x24 : Int32} {f25 : Nat → Int32} {f26 : Nat → Int32} {f27 : Nat → Int32} {f28 : Nat → Int32} {f29 : Nat → Int32} {f30 : Nat → Int32} (hX : XF x1 f2 f3 x4 f5 f6 x7 f8 x9 f10 f11 f12) (hM : MF x14 x15 x16 x17 x18 x19 x20 x21 x22 x23 x24 f25 f26 f27 f28 f29 f30) {ad13 ad31 : Nat → Nat} {ax am ao : Nat} (xs : Nat → Int32) : wc_LC6 0 0 (fun _ => 0) f11 0 x21 x22 (fun _ => 0) f29 xs := by
  obtain ⟨rfl, rfl, rfl, rfl, rfl⟩ := hX
  obtain ⟨rfl, rfl, rfl, rfl, rfl, rfl, rfl, rfl, rfl, rfl, rfl, rfl⟩ := hM
  unfold wc_LC6
  try generalize xs 1 = y1
  try generalize xs 2 = y2
  try generalize xs 3 = y3
  try generalize xs 4 = y4
  try generalize xs 5 = y5
  try generalize xs 6 = y6
  try generalize xs 7 = y7
  try generalize xs 8 = y8
  repeat (first
    | exact trivial
    | exact ⟨fun _ => trivial, fun c => c rfl⟩
    | refine q_wF ?_
    | refine q_wmF ?_
    | refine ⟨fun c => absurd c (by decide), fun _ => ?_⟩
    | refine ⟨fun _ => ?_, fun c => absurd c (by decide)⟩
    | refine ⟨vin (by decide), ?_⟩
    | refine Or.inl ⟨rfl, ?_⟩
    | refine Or.inr ⟨rfl, ?_⟩
    | refine ⟨rfl, ?_⟩
    | refine ⟨100, ?_⟩
    | (refine fun x e => ?_; subst e)
    | refine ⟨fun _ => ?_, fun c => by (first | contradiction | (exfalso; simp only [Int32.lt_iff_toInt_lt, Int32.le_iff_toInt_le, ← Int32.toInt_inj] at *; omega))⟩
    | refine ⟨fun c => by (first | contradiction | (exfalso; simp only [Int32.lt_iff_toInt_lt, Int32.le_iff_toInt_le, ← Int32.toInt_inj] at *; omega)), fun _ => ?_⟩
    | refine ⟨fun c => ?_, fun c => ?_⟩
    | refine ⟨fun c => ?_, ?_⟩
    | (refine fun c => ?_; (first | contradiction | (exfalso; simp only [Int32.lt_iff_toInt_lt, Int32.le_iff_toInt_le, ← Int32.toInt_inj] at *; omega)))
    | (refine fun c => ?_; subst c)
    | refine fun c => ?_)
set_option maxHeartbeats 4000000 in
set_option maxRecDepth 100000 in
theorem pu_LC8 {x1 : Int32} {f2 : Nat → Int32} {f3 : Nat → Int32} {x4 : Int32} {f5 : Nat → Int32} {f6 : Nat → Int32} {x7 : Int32} {f8 : Nat → Int32} {x9 : Int32} {f10 : Nat → Int32} {f11 : Nat → Int32} {f12 : Nat → Int32} {x14 : Int32} {x15 : Int32} {x16 : Int32} {x17 : Int32} {x18 : Int32} {x19 : Int32} {x20 : Int32} {x21 : Int32} {x22 : Int32} {x23 : Int32} {x24 : Int32} {f25 : Nat → Int32} {f26 : Nat → Int32} {f27 : Nat → Int32} {f28 : Nat → Int32} {f29 : Nat → Int32} {f30 : Nat → Int32} (hX : XF x1 f2 f3 x4 f5 f6 x7 f8 x9 f10 f11 f12) (hM : MF x14 x15 x16 x17 x18 x19 x20 x21 x22 x23 x24 f25 f26 f27 f28 f29 f30) {ad13 ad31 : Nat → Nat} {ax am ao : Nat} (xs : Nat → Int32) : wc_LC8 0 0 0 0 0 f11 (fun _ => 0) (fun _ => 0) (fun _ => 0) 0 x17 x18 x19 (fun _ => 0) f29 (fun _ => 0) f26 f28 xs := by
  obtain ⟨rfl, rfl, rfl, rfl, rfl⟩ := hX
  obtain ⟨rfl, rfl, rfl, rfl, rfl, rfl, rfl, rfl, rfl, rfl, rfl, rfl⟩ := hM
  unfold wc_LC8
  try generalize xs 1 = y1
  try generalize xs 2 = y2
  try generalize xs 3 = y3
  try generalize xs 4 = y4
  try generalize xs 5 = y5
  try generalize xs 6 = y6
  try generalize xs 7 = y7
  try generalize xs 8 = y8
  repeat (first
    | exact trivial
    | exact ⟨fun _ => trivial, fun c => c rfl⟩
    | refine q_wF ?_
    | refine q_wmF ?_
    | refine ⟨fun c => absurd c (by decide), fun _ => ?_⟩
    | refine ⟨fun _ => ?_, fun c => absurd c (by decide)⟩
    | refine ⟨vin (by decide), ?_⟩
    | refine Or.inl ⟨rfl, ?_⟩
    | refine Or.inr ⟨rfl, ?_⟩
    | refine ⟨rfl, ?_⟩
    | refine ⟨100, ?_⟩
    | (refine fun x e => ?_; subst e)
    | refine ⟨fun _ => ?_, fun c => by (first | contradiction | (exfalso; simp only [Int32.lt_iff_toInt_lt, Int32.le_iff_toInt_le, ← Int32.toInt_inj] at *; omega))⟩
    | refine ⟨fun c => by (first | contradiction | (exfalso; simp only [Int32.lt_iff_toInt_lt, Int32.le_iff_toInt_le, ← Int32.toInt_inj] at *; omega)), fun _ => ?_⟩
    | refine ⟨fun c => ?_, fun c => ?_⟩
    | refine ⟨fun c => ?_, ?_⟩
    | (refine fun c => ?_; (first | contradiction | (exfalso; simp only [Int32.lt_iff_toInt_lt, Int32.le_iff_toInt_le, ← Int32.toInt_inj] at *; omega)))
    | (refine fun c => ?_; subst c)
    | refine fun c => ?_)
set_option maxHeartbeats 4000000 in
set_option maxRecDepth 100000 in
theorem pu_LC9 {x1 : Int32} {f2 : Nat → Int32} {f3 : Nat → Int32} {x4 : Int32} {f5 : Nat → Int32} {f6 : Nat → Int32} {x7 : Int32} {f8 : Nat → Int32} {x9 : Int32} {f10 : Nat → Int32} {f11 : Nat → Int32} {f12 : Nat → Int32} {x14 : Int32} {x15 : Int32} {x16 : Int32} {x17 : Int32} {x18 : Int32} {x19 : Int32} {x20 : Int32} {x21 : Int32} {x22 : Int32} {x23 : Int32} {x24 : Int32} {f25 : Nat → Int32} {f26 : Nat → Int32} {f27 : Nat → Int32} {f28 : Nat → Int32} {f29 : Nat → Int32} {f30 : Nat → Int32} (hX : XF x1 f2 f3 x4 f5 f6 x7 f8 x9 f10 f11 f12) (hM : MF x14 x15 x16 x17 x18 x19 x20 x21 x22 x23 x24 f25 f26 f27 f28 f29 f30) {ad13 ad31 : Nat → Nat} {ax am ao : Nat} (xs : Nat → Int32) : wc_LC9 0 0 0 f11 x1 (fun _ => 0) (fun _ => 0) f2 f3 (fun _ => 0) (fun _ => 0) 0 x18 x20 (fun _ => 0) f29 (fun _ => 0) (fun _ => 0) (fun _ => 0) (fun _ => 0) (fun _ => 0) f27 xs := by
  obtain ⟨rfl, rfl, rfl, rfl, rfl⟩ := hX
  obtain ⟨rfl, rfl, rfl, rfl, rfl, rfl, rfl, rfl, rfl, rfl, rfl, rfl⟩ := hM
  unfold wc_LC9
  try generalize xs 1 = y1
  try generalize xs 2 = y2
  try generalize xs 3 = y3
  try generalize xs 4 = y4
  try generalize xs 5 = y5
  try generalize xs 6 = y6
  try generalize xs 7 = y7
  try generalize xs 8 = y8
  repeat (first
    | exact trivial
    | exact ⟨fun _ => trivial, fun c => c rfl⟩
    | refine q_wF ?_
    | refine q_wmF ?_
    | refine ⟨fun c => absurd c (by decide), fun _ => ?_⟩
    | refine ⟨fun _ => ?_, fun c => absurd c (by decide)⟩
    | refine ⟨vin (by decide), ?_⟩
    | refine Or.inl ⟨rfl, ?_⟩
    | refine Or.inr ⟨rfl, ?_⟩
    | refine ⟨rfl, ?_⟩
    | refine ⟨100, ?_⟩
    | (refine fun x e => ?_; subst e)
    | refine ⟨fun _ => ?_, fun c => by (first | contradiction | (exfalso; simp only [Int32.lt_iff_toInt_lt, Int32.le_iff_toInt_le, ← Int32.toInt_inj] at *; omega))⟩
    | refine ⟨fun c => by (first | contradiction | (exfalso; simp only [Int32.lt_iff_toInt_lt, Int32.le_iff_toInt_le, ← Int32.toInt_inj] at *; omega)), fun _ => ?_⟩
    | refine ⟨fun c => ?_, fun c => ?_⟩
    | refine ⟨fun c => ?_, ?_⟩
    | (refine fun c => ?_; (first | contradiction | (exfalso; simp only [Int32.lt_iff_toInt_lt, Int32.le_iff_toInt_le, ← Int32.toInt_inj] at *; omega)))
    | (refine fun c => ?_; subst c)
    | refine fun c => ?_)
set_option maxHeartbeats 4000000 in
set_option maxRecDepth 100000 in
theorem pu_LC10 {x1 : Int32} {f2 : Nat → Int32} {f3 : Nat → Int32} {x4 : Int32} {f5 : Nat → Int32} {f6 : Nat → Int32} {x7 : Int32} {f8 : Nat → Int32} {x9 : Int32} {f10 : Nat → Int32} {f11 : Nat → Int32} {f12 : Nat → Int32} {x14 : Int32} {x15 : Int32} {x16 : Int32} {x17 : Int32} {x18 : Int32} {x19 : Int32} {x20 : Int32} {x21 : Int32} {x22 : Int32} {x23 : Int32} {x24 : Int32} {f25 : Nat → Int32} {f26 : Nat → Int32} {f27 : Nat → Int32} {f28 : Nat → Int32} {f29 : Nat → Int32} {f30 : Nat → Int32} (hX : XF x1 f2 f3 x4 f5 f6 x7 f8 x9 f10 f11 f12) (hM : MF x14 x15 x16 x17 x18 x19 x20 x21 x22 x23 x24 f25 f26 f27 f28 f29 f30) {ad13 ad31 : Nat → Nat} {ax am ao : Nat} (xs : Nat → Int32) : wc_LC10 0 0 0 (fun _ => 0) (fun _ => 0) (fun _ => 0) 0 x19 (fun _ => 0) f28 xs := by
  obtain ⟨rfl, rfl, rfl, rfl, rfl⟩ := hX
  obtain ⟨rfl, rfl, rfl, rfl, rfl, rfl, rfl, rfl, rfl, rfl, rfl, rfl⟩ := hM
  unfold wc_LC10
  try generalize xs 1 = y1
  try generalize xs 2 = y2
  try generalize xs 3 = y3
  try generalize xs 4 = y4
  try generalize xs 5 = y5
  try generalize xs 6 = y6
  try generalize xs 7 = y7
  try generalize xs 8 = y8
  repeat (first
    | exact trivial
    | exact ⟨fun _ => trivial, fun c => c rfl⟩
    | refine q_wF ?_
    | refine q_wmF ?_
    | refine ⟨fun c => absurd c (by decide), fun _ => ?_⟩
    | refine ⟨fun _ => ?_, fun c => absurd c (by decide)⟩
    | refine ⟨vin (by decide), ?_⟩
    | refine Or.inl ⟨rfl, ?_⟩
    | refine Or.inr ⟨rfl, ?_⟩
    | refine ⟨rfl, ?_⟩
    | refine ⟨100, ?_⟩
    | (refine fun x e => ?_; subst e)
    | refine ⟨fun _ => ?_, fun c => by (first | contradiction | (exfalso; simp only [Int32.lt_iff_toInt_lt, Int32.le_iff_toInt_le, ← Int32.toInt_inj] at *; omega))⟩
    | refine ⟨fun c => by (first | contradiction | (exfalso; simp only [Int32.lt_iff_toInt_lt, Int32.le_iff_toInt_le, ← Int32.toInt_inj] at *; omega)), fun _ => ?_⟩
    | refine ⟨fun c => ?_, fun c => ?_⟩
    | refine ⟨fun c => ?_, ?_⟩
    | (refine fun c => ?_; (first | contradiction | (exfalso; simp only [Int32.lt_iff_toInt_lt, Int32.le_iff_toInt_le, ← Int32.toInt_inj] at *; omega)))
    | (refine fun c => ?_; subst c)
    | refine fun c => ?_)
set_option maxHeartbeats 4000000 in
set_option maxRecDepth 100000 in
theorem pu_LC11 {x1 : Int32} {f2 : Nat → Int32} {f3 : Nat → Int32} {x4 : Int32} {f5 : Nat → Int32} {f6 : Nat → Int32} {x7 : Int32} {f8 : Nat → Int32} {x9 : Int32} {f10 : Nat → Int32} {f11 : Nat → Int32} {f12 : Nat → Int32} {x14 : Int32} {x15 : Int32} {x16 : Int32} {x17 : Int32} {x18 : Int32} {x19 : Int32} {x20 : Int32} {x21 : Int32} {x22 : Int32} {x23 : Int32} {x24 : Int32} {f25 : Nat → Int32} {f26 : Nat → Int32} {f27 : Nat → Int32} {f28 : Nat → Int32} {f29 : Nat → Int32} {f30 : Nat → Int32} (hX : XF x1 f2 f3 x4 f5 f6 x7 f8 x9 f10 f11 f12) (hM : MF x14 x15 x16 x17 x18 x19 x20 x21 x22 x23 x24 f25 f26 f27 f28 f29 f30) {ad13 ad31 : Nat → Nat} {ax am ao : Nat} (xs : Nat → Int32) : wc_LC11 0 0 f11 (fun _ => 0) 0 x18 (fun _ => 0) f29 xs := by
  obtain ⟨rfl, rfl, rfl, rfl, rfl⟩ := hX
  obtain ⟨rfl, rfl, rfl, rfl, rfl, rfl, rfl, rfl, rfl, rfl, rfl, rfl⟩ := hM
  unfold wc_LC11
  try generalize xs 1 = y1
  try generalize xs 2 = y2
  try generalize xs 3 = y3
  try generalize xs 4 = y4
  try generalize xs 5 = y5
  try generalize xs 6 = y6
  try generalize xs 7 = y7
  try generalize xs 8 = y8
  repeat (first
    | exact trivial
    | exact ⟨fun _ => trivial, fun c => c rfl⟩
    | refine q_wF ?_
    | refine q_wmF ?_
    | refine ⟨fun c => absurd c (by decide), fun _ => ?_⟩
    | refine ⟨fun _ => ?_, fun c => absurd c (by decide)⟩
    | refine ⟨vin (by decide), ?_⟩
    | refine Or.inl ⟨rfl, ?_⟩
    | refine Or.inr ⟨rfl, ?_⟩
    | refine ⟨rfl, ?_⟩
    | refine ⟨100, ?_⟩
    | (refine fun x e => ?_; subst e)
    | refine ⟨fun _ => ?_, fun c => by (first | contradiction | (exfalso; simp only [Int32.lt_iff_toInt_lt, Int32.le_iff_toInt_le, ← Int32.toInt_inj] at *; omega))⟩
    | refine ⟨fun c => by (first | contradiction | (exfalso; simp only [Int32.lt_iff_toInt_lt, Int32.le_iff_toInt_le, ← Int32.toInt_inj] at *; omega)), fun _ => ?_⟩
    | refine ⟨fun c => ?_, fun c => ?_⟩
    | refine ⟨fun c => ?_, ?_⟩
    | (refine fun c => ?_; (first | contradiction | (exfalso; simp only [Int32.lt_iff_toInt_lt, Int32.le_iff_toInt_le, ← Int32.toInt_inj] at *; omega)))
    | (refine fun c => ?_; subst c)
    | refine fun c => ?_)
set_option maxHeartbeats 4000000 in
set_option maxRecDepth 100000 in
theorem pu_LC12 {x1 : Int32} {f2 : Nat → Int32} {f3 : Nat → Int32} {x4 : Int32} {f5 : Nat → Int32} {f6 : Nat → Int32} {x7 : Int32} {f8 : Nat → Int32} {x9 : Int32} {f10 : Nat → Int32} {f11 : Nat → Int32} {f12 : Nat → Int32} {x14 : Int32} {x15 : Int32} {x16 : Int32} {x17 : Int32} {x18 : Int32} {x19 : Int32} {x20 : Int32} {x21 : Int32} {x22 : Int32} {x23 : Int32} {x24 : Int32} {f25 : Nat → Int32} {f26 : Nat → Int32} {f27 : Nat → Int32} {f28 : Nat → Int32} {f29 : Nat → Int32} {f30 : Nat → Int32} (hX : XF x1 f2 f3 x4 f5 f6 x7 f8 x9 f10 f11 f12) (hM : MF x14 x15 x16 x17 x18 x19 x20 x21 x22 x23 x24 f25 f26 f27 f28 f29 f30) {ad13 ad31 : Nat → Nat} {ax am ao : Nat} (xs : Nat → Int32) : wc_LC12 0 0 (fun _ => 0) (fun _ => 0) (fun _ => 0) 0 x17 (fun _ => 0) f26 xs := by
  obtain ⟨rfl, rfl, rfl, rfl, rfl⟩ := hX
  obtain ⟨rfl, rfl, rfl, rfl, rfl, rfl, rfl, rfl, rfl, rfl, rfl, rfl⟩ := hM
  unfold wc_LC12
  try generalize xs 1 = y1
  try generalize xs 2 = y2
  try generalize xs 3 = y3
  try generalize xs 4 = y4
  try generalize xs 5 = y5
  try generalize xs 6 = y6
  try generalize xs 7 = y7
  try generalize xs 8 = y8
  repeat (first
    | exact trivial
    | exact ⟨fun _ => trivial, fun c => c rfl⟩
    | refine q_wF ?_
    | refine q_wmF ?_
    | refine ⟨fun c => absurd c (by decide), fun _ => ?_⟩
    | refine ⟨fun _ => ?_, fun c => absurd c (by decide)⟩
    | refine ⟨vin (by decide), ?_⟩
    | refine Or.inl ⟨rfl, ?_⟩
    | refine Or.inr ⟨rfl, ?_⟩
    | refine ⟨rfl, ?_⟩
    | refine ⟨100, ?_⟩
    | (refine fun x e => ?_; subst e)
    | refine ⟨fun _ => ?_, fun c => by (first | contradiction | (exfalso; simp only [Int32.lt_iff_toInt_lt, Int32.le_iff_toInt_le, ← Int32.toInt_inj] at *; omega))⟩
    | refine ⟨fun c => by (first | contradiction | (exfalso; simp only [Int32.lt_iff_toInt_lt, Int32.le_iff_toInt_le, ← Int32.toInt_inj] at *; omega)), fun _ => ?_⟩
    | refine ⟨fun c => ?_, fun c => ?_⟩
    | refine ⟨fun c => ?_, ?_⟩
    | (refine fun c => ?_; (first | contradiction | (exfalso; simp only [Int32.lt_iff_toInt_lt, Int32.le_iff_toInt_le, ← Int32.toInt_inj] at *; omega)))
    | (refine fun c => ?_; subst c)
    | refine fun c => ?_)
set_option maxHeartbeats 4000000 in
set_option maxRecDepth 100000 in
theorem pu_LC14 {x1 : Int32} {f2 : Nat → Int32} {f3 : Nat → Int32} {x4 : Int32} {f5 : Nat → Int32} {f6 : Nat → Int32} {x7 : Int32} {f8 : Nat → Int32} {x9 : Int32} {f10 : Nat → Int32} {f11 : Nat → Int32} {f12 : Nat → Int32} {x14 : Int32} {x15 : Int32} {x16 : Int32} {x17 : Int32} {x18 : Int32} {x19 : Int32} {x20 : Int32} {x21 : Int32} {x22 : Int32} {x23 : Int32} {x24 : Int32} {f25 : Nat → Int32} {f26 : Nat → Int32} {f27 : Nat → Int32} {f28 : Nat → Int32} {f29 : Nat → Int32} {f30 : Nat → Int32} (hX : XF x1 f2 f3 x4 f5 f6 x7 f8 x9 f10 f11 f12) (hM : MF x14 x15 x16 x17 x18 x19 x20 x21 x22 x23 x24 f25 f26 f27 f28 f29 f30) {ad13 ad31 : Nat → Nat} {ax am ao : Nat} (xs : Nat → Int32) : wc_LC14 0 0 0 f11 (fun _ => 0) (fun _ => 0) x1 (fun _ => 0) (fun _ => 0) f2 f3 (fun _ => 0) 0 x17 x18 x20 (fun _ => 0) f29 (fun _ => 0) f26 (fun _ => 0) (fun _ => 0) (fun _ => 0) (fun _ => 0) xs := by
  obtain ⟨rfl, rfl, rfl, rfl, rfl⟩ := hX
  obtain ⟨rfl, rfl, rfl, rfl, rfl, rfl, rfl, rfl, rfl, rfl, rfl, rfl⟩ := hM
  unfold wc_LC14
  try generalize xs 1 = y1
  try generalize xs 2 = y2
  try generalize xs 3 = y3
  try generalize xs 4 = y4
  try generalize xs 5 = y5
  try generalize xs 6 = y6
  try generalize xs 7 = y7
  try generalize xs 8 = y8
  repeat (first
    | exact trivial
    | exact ⟨fun _ => trivial, fun c => c rfl⟩
    | refine q_wF ?_
    | refine q_wmF ?_
    | refine ⟨fun c => absurd c (by decide), fun _ => ?_⟩
    | refine ⟨fun _ => ?_, fun c => absurd c (by decide)⟩
    | refine ⟨vin (by decide), ?_⟩
    | refine Or.inl ⟨rfl, ?_⟩
    | refine Or.inr ⟨rfl, ?_⟩
    | refine ⟨rfl, ?_⟩
    | refine ⟨100, ?_⟩
    | (refine fun x e => ?_; subst e)
    | refine ⟨fun _ => ?_, fun c => by (first | contradiction | (exfalso; simp only [Int32.lt_iff_toInt_lt, Int32.le_iff_toInt_le, ← Int32.toInt_inj] at *; omega))⟩
    | refine ⟨fun c => by (first | contradiction | (exfalso; simp only [Int32.lt_iff_toInt_lt, Int32.le_iff_toInt_le, ← Int32.toInt_inj] at *; omega)), fun _ => ?_⟩
    | refine ⟨fun c => ?_, fun c => ?_⟩
    | refine ⟨fun c => ?_, ?_⟩
    | (refine fun c => ?_; (first | contradiction | (exfalso; simp only [Int32.lt_iff_toInt_lt, Int32.le_iff_toInt_le, ← Int32.toInt_inj] at *; omega)))
    | (refine fun c => ?_; subst c)
    | refine fun c => ?_)
set_option maxHeartbeats 4000000 in
set_option maxRecDepth 100000 in
theorem pu_LC36 {x1 : Int32} {f2 : Nat → Int32} {f3 : Nat → Int32} {x4 : Int32} {f5 : Nat → Int32} {f6 : Nat → Int32} {x7 : Int32} {f8 : Nat → Int32} {x9 : Int32} {f10 : Nat → Int32} {f11 : Nat → Int32} {f12 : Nat → Int32} {x14 : Int32} {x15 : Int32} {x16 : Int32} {x17 : Int32} {x18 : Int32} {x19 : Int32} {x20 : Int32} {x21 : Int32} {x22 : Int32} {x23 : Int32} {x24 : Int32} {f25 : Nat → Int32} {f26 : Nat → Int32} {f27 : Nat → Int32} {f28 : Nat → Int32} {f29 : Nat → Int32} {f30 : Nat → Int32} (hX : XF x1 f2 f3 x4 f5 f6 x7 f8 x9 f10 f11 f12) (hM : MF x14 x15 x16 x17 x18 x19 x20 x21 x22 x23 x24 f25 f26 f27 f28 f29 f30) {ad13 ad31 : Nat → Nat} {ax am ao : Nat} (xs : Nat → Int32) : wc_LC36 0 0 0 (fun _ => 0) xs := by
  obtain ⟨rfl, rfl, rfl, rfl, rfl⟩ := hX
  obtain ⟨rfl, rfl, rfl, rfl, rfl, rfl, rfl, rfl, rfl, rfl, rfl, rfl⟩ := hM
  unfold wc_LC36
  try generalize xs 1 = y1
  try generalize xs 2 = y2
  try generalize xs 3 = y3
  try generalize xs 4 = y4
  try generalize xs 5 = y5
  try generalize xs 6 = y6
  try generalize xs 7 = y7
  try generalize xs 8 = y8
  repeat (first
    | exact trivial
    | exact ⟨fun _ => trivial, fun c => c rfl⟩
    | refine q_wF ?_
    | refine q_wmF ?_
    | refine ⟨fun c => absurd c (by decide), fun _ => ?_⟩
    | refine ⟨fun _ => ?_, fun c => absurd c (by decide)⟩
    | refine ⟨vin (by decide), ?_⟩
    | refine Or.inl ⟨rfl, ?_⟩
    | refine Or.inr ⟨rfl, ?_⟩
    | refine ⟨rfl, ?_⟩
    | refine ⟨100, ?_⟩
    | (refine fun x e => ?_; subst e)
    | refine ⟨fun _ => ?_, fun c => by (first | contradiction | (exfalso; simp only [Int32.lt_iff_toInt_lt, Int32.le_iff_toInt_le, ← Int32.toInt_inj] at *; omega))⟩
    | refine ⟨fun c => by (first | contradiction | (exfalso; simp only [Int32.lt_iff_toInt_lt, Int32.le_iff_toInt_le, ← Int32.toInt_inj] at *; omega)), fun _ => ?_⟩
    | refine ⟨fun c => ?_, fun c => ?_⟩
    | refine ⟨fun c => ?_, ?_⟩
    | (refine fun c => ?_; (first | contradiction | (exfalso; simp only [Int32.lt_iff_toInt_lt, Int32.le_iff_toInt_le, ← Int32.toInt_inj] at *; omega)))
    | (refine fun c => ?_; subst c)
    | refine fun c => ?_)
set_option maxHeartbeats 4000000 in
set_option maxRecDepth 100000 in
theorem pu_LC37 {x1 : Int32} {f2 : Nat → Int32} {f3 : Nat → Int32} {x4 : Int32} {f5 : Nat → Int32} {f6 : Nat → Int32} {x7 : Int32} {f8 : Nat → Int32} {x9 : Int32} {f10 : Nat → Int32} {f11 : Nat → Int32} {f12 : Nat → Int32} {x14 : Int32} {x15 : Int32} {x16 : Int32} {x17 : Int32} {x18 : Int32} {x19 : Int32} {x20 : Int32} {x21 : Int32} {x22 : Int32} {x23 : Int32} {x24 : Int32} {f25 : Nat → Int32} {f26 : Nat → Int32} {f27 : Nat → Int32} {f28 : Nat → Int32} {f29 : Nat → Int32} {f30 : Nat → Int32} (hX : XF x1 f2 f3 x4 f5 f6 x7 f8 x9 f10 f11 f12) (hM : MF x14 x15 x16 x17 x18 x19 x20 x21 x22 x23 x24 f25 f26 f27 f28 f29 f30) {ad13 ad31 : Nat → Nat} {ax am ao : Nat} (xs : Nat → Int32) : wc_LC37 0 0 0 0 0 x21 x24 xs := by
  obtain ⟨rfl, rfl, rfl, rfl, rfl⟩ := hX
  obtain ⟨rfl, rfl, rfl, rfl, rfl, rfl, rfl, rfl, rfl, rfl, rfl, rfl⟩ := hM
  unfold wc_LC37
  try generalize xs 1 = y1
  try generalize xs 2 = y2
  try generalize xs 3 = y3
  try generalize xs 4 = y4
  try generalize xs 5 = y5
  try generalize xs 6 = y6
  try generalize xs 7 = y7
  try generalize xs 8 = y8
  repeat (first
    | exact trivial
    | exact ⟨fun _ => trivial, fun c => c rfl⟩
    | refine q_wF ?_
    | refine q_wmF ?_
    | refine ⟨fun c => absurd c (by decide), fun _ => ?_⟩
    | refine ⟨fun _ => ?_, fun c => absurd c (by decide)⟩
    | refine ⟨vin (by decide), ?_⟩
    | refine Or.inl ⟨rfl, ?_⟩
    | refine Or.inr ⟨rfl, ?_⟩
    | refine ⟨rfl, ?_⟩
    | refine ⟨100, ?_⟩
    | (refine fun x e => ?_; subst e)
    | refine ⟨fun _ => ?_, fun c => by (first | contradiction | (exfalso; simp only [Int32.lt_iff_toInt_lt, Int32.le_iff_toInt_le, ← Int32.toInt_inj] at *; omega))⟩
    | refine ⟨fun c => by (first | contradiction | (exfalso; simp only [Int32.lt_iff_toInt_lt, Int32.le_iff_toInt_le, ← Int32.toInt_inj] at *; omega)), fun _ => ?_⟩
    | refine ⟨fun c => ?_, fun c => ?_⟩
    | refine ⟨fun c => ?_, ?_⟩
    | (refine fun c => ?_; (first | contradiction | (exfalso; simp only [Int32.lt_iff_toInt_lt, Int32.le_iff_toInt_le, ← Int32.toInt_inj] at *; omega)))
    | (refine fun c => ?_; subst c)
    | refine fun c => ?_)
set_option maxHeartbeats 4000000 in
set_option maxRecDepth 100000 in
theorem pu_LC15 {x1 : Int32} {f2 : Nat → Int32} {f3 : Nat → Int32} {x4 : Int32} {f5 : Nat → Int32} {f6 : Nat → Int32} {x7 : Int32} {f8 : Nat → Int32} {x9 : Int32} {f10 : Nat → Int32} {f11 : Nat → Int32} {f12 : Nat → Int32} {x14 : Int32} {x15 : Int32} {x16 : Int32} {x17 : Int32} {x18 : Int32} {x19 : Int32} {x20 : Int32} {x21 : Int32} {x22 : Int32} {x23 : Int32} {x24 : Int32} {f25 : Nat → Int32} {f26 : Nat → Int32} {f27 : Nat → Int32} {f28 : Nat → Int32} {f29 : Nat → Int32} {f30 : Nat → Int32} (hX : XF x1 f2 f3 x4 f5 f6 x7 f8 x9 f10 f11 f12) (hM : MF x14 x15 x16 x17 x18 x19 x20 x21 x22 x23 x24 f25 f26 f27 f28 f29 f30) {ad13 ad31 : Nat → Nat} {ax am ao : Nat} (xs : Nat → Int32) : wc_LC15 (ad13 2) (ad13 20) 0 f11 f12 0 0 (fun _ => 0) (fun _ => 0) 0 x18 x19 (fun _ => 0) f29 (fun _ => 0) f26 f28 f27 (.ref (ad13 2)) (.ref (ad13 20)) xs := by
  obtain ⟨rfl, rfl, rfl, rfl, rfl⟩ := hX
  obtain ⟨rfl, rfl, rfl, rfl, rfl, rfl, rfl, rfl, rfl, rfl, rfl, rfl⟩ := hM
  unfold wc_LC15
  generalize xs 1 = y1
  generalize xs 2 = y2
  by_cases h1 : 0 ≤ y1 ∧ y1 ≤ 99
  · by_cases h2 : 0 ≤ y2 ∧ y2 ≤ 2
    · obtain ⟨N, hN, rfl⟩ := nI_of2 (M := 99) (n := 99) rfl (q_nlt.mpr h1.1) h1.2
      refine fun x1 e1 x2 e2 => ?_
      subst e1
      rw [e2]
      refine q_nwT h1 ?_
      refine q_nwT h2 ?_
      refine fun f3 e3 => ?_
      subst e3
      refine ⟨N + 1, q_aheadC (N := N) (by omega) (fun g hg => ?_) N 0 _ (by omega) q_row0⟩
      refine fun x e => ⟨vin (by decide), fun f5 e5 => ?_⟩
      refine fun x7 e7 x8 e8 => ?_
      subst e7
      rw [e8]
      refine q_wmT h1 ⟨fun c => absurd c (by decide), fun _ => q_wmT h2 ⟨fun c => absurd c (by decide), fun _ => ?_⟩⟩
      refine q_mayT ⟨fun _ => ?_, fun c => absurd c (by decide)⟩
      refine q_take (fun f9 h9 => ⟨N + 1, q_aheadM (N := N) (by omega) (fun s hs => ?_) N 0 _ (by omega) (q_mrow0 h9)⟩)
      subst e5
      subst e
      exact q_finO
    ·
      repeat (first
        | exact trivial
        | exact ⟨fun _ => trivial, fun c => c rfl⟩
        | refine q_wF ?_
        | refine q_wmF ?_
        | refine ⟨fun c => absurd c (by decide), fun _ => ?_⟩
        | refine ⟨fun _ => ?_, fun c => absurd c (by decide)⟩
        | refine ⟨vin (by decide), ?_⟩
        | refine Or.inl ⟨rfl, ?_⟩
        | refine Or.inr ⟨rfl, ?_⟩
        | refine ⟨rfl, ?_⟩
        | refine ⟨100, ?_⟩
        | (refine fun x e => ?_; subst e)
        | refine ⟨fun _ => ?_, fun c => by (first | contradiction | (exfalso; simp only [Int32.lt_iff_toInt_lt, Int32.le_iff_toInt_le, ← Int32.toInt_inj] at *; omega))⟩
        | refine ⟨fun c => by (first | contradiction | (exfalso; simp only [Int32.lt_iff_toInt_lt, Int32.le_iff_toInt_le, ← Int32.toInt_inj] at *; omega)), fun _ => ?_⟩
        | refine ⟨fun c => ?_, fun c => ?_⟩
        | refine ⟨fun c => ?_, ?_⟩
        | (refine fun c => ?_; (first | contradiction | (exfalso; simp only [Int32.lt_iff_toInt_lt, Int32.le_iff_toInt_le, ← Int32.toInt_inj] at *; omega)))
        | (refine fun c => ?_; subst c)
        | refine fun c => ?_)
  ·
    repeat (first
      | exact trivial
      | exact ⟨fun _ => trivial, fun c => c rfl⟩
      | refine q_wF ?_
      | refine q_wmF ?_
      | refine ⟨fun c => absurd c (by decide), fun _ => ?_⟩
      | refine ⟨fun _ => ?_, fun c => absurd c (by decide)⟩
      | refine ⟨vin (by decide), ?_⟩
      | refine Or.inl ⟨rfl, ?_⟩
      | refine Or.inr ⟨rfl, ?_⟩
      | refine ⟨rfl, ?_⟩
      | refine ⟨100, ?_⟩
      | (refine fun x e => ?_; subst e)
      | refine ⟨fun _ => ?_, fun c => by (first | contradiction | (exfalso; simp only [Int32.lt_iff_toInt_lt, Int32.le_iff_toInt_le, ← Int32.toInt_inj] at *; omega))⟩
      | refine ⟨fun c => by (first | contradiction | (exfalso; simp only [Int32.lt_iff_toInt_lt, Int32.le_iff_toInt_le, ← Int32.toInt_inj] at *; omega)), fun _ => ?_⟩
      | refine ⟨fun c => ?_, fun c => ?_⟩
      | refine ⟨fun c => ?_, ?_⟩
      | (refine fun c => ?_; (first | contradiction | (exfalso; simp only [Int32.lt_iff_toInt_lt, Int32.le_iff_toInt_le, ← Int32.toInt_inj] at *; omega)))
      | (refine fun c => ?_; subst c)
      | refine fun c => ?_)
set_option maxHeartbeats 4000000 in
set_option maxRecDepth 100000 in
theorem pu_LC32 {x1 : Int32} {f2 : Nat → Int32} {f3 : Nat → Int32} {x4 : Int32} {f5 : Nat → Int32} {f6 : Nat → Int32} {x7 : Int32} {f8 : Nat → Int32} {x9 : Int32} {f10 : Nat → Int32} {f11 : Nat → Int32} {f12 : Nat → Int32} {x14 : Int32} {x15 : Int32} {x16 : Int32} {x17 : Int32} {x18 : Int32} {x19 : Int32} {x20 : Int32} {x21 : Int32} {x22 : Int32} {x23 : Int32} {x24 : Int32} {f25 : Nat → Int32} {f26 : Nat → Int32} {f27 : Nat → Int32} {f28 : Nat → Int32} {f29 : Nat → Int32} {f30 : Nat → Int32} (hX : XF x1 f2 f3 x4 f5 f6 x7 f8 x9 f10 f11 f12) (hM : MF x14 x15 x16 x17 x18 x19 x20 x21 x22 x23 x24 f25 f26 f27 f28 f29 f30) {ad13 ad31 : Nat → Nat} {ax am ao : Nat} (xs : Nat → Int32) : wc_LC32 (ad13 2) (ad13 20) 0 f11 f12 0 0 0 (fun _ => 0) (fun _ => 0) x1 (fun _ => 0) (fun _ => 0) f2 f3 (fun _ => 0) (fun _ => 0) 0 x17 x18 x19 x20 0 0 (fun _ => 0) f29 (fun _ => 0) f26 (fun _ => 0) (fun _ => 0) (fun _ => 0) (fun _ => 0) f28 f27 (.ref (ad13 2)) (.ref (ad13 20)) xs := by
  obtain ⟨rfl, rfl, rfl, rfl, rfl⟩ := hX
  obtain ⟨rfl, rfl, rfl, rfl, rfl, rfl, rfl, rfl, rfl, rfl, rfl, rfl⟩ := hM
  unfold wc_LC32
  generalize xs 1 = y1
  generalize xs 2 = y2
  generalize xs 3 = y3
  by_cases h2 : 1 ≤ y2 ∧ y2 ≤ 96
  · by_cases h3 : y3.toInt < 0 ∨ 3 < y3.toInt
    ·
      repeat (first
        | exact trivial
        | exact ⟨fun _ => trivial, fun c => c rfl⟩
        | refine q_wF ?_
        | refine q_wmF ?_
        | refine ⟨fun c => absurd c (by decide), fun _ => ?_⟩
        | refine ⟨fun _ => ?_, fun c => absurd c (by decide)⟩
        | refine ⟨vin (by decide), ?_⟩
        | refine Or.inl ⟨rfl, ?_⟩
        | refine Or.inr ⟨rfl, ?_⟩
        | refine ⟨rfl, ?_⟩
        | refine ⟨100, ?_⟩
        | (refine fun x e => ?_; subst e)
        | refine ⟨fun _ => ?_, fun c => by (first | contradiction | (exfalso; simp only [Int32.lt_iff_toInt_lt, Int32.le_iff_toInt_le, ← Int32.toInt_inj] at *; omega))⟩
        | refine ⟨fun c => by (first | contradiction | (exfalso; simp only [Int32.lt_iff_toInt_lt, Int32.le_iff_toInt_le, ← Int32.toInt_inj] at *; omega)), fun _ => ?_⟩
        | refine ⟨fun c => ?_, fun c => ?_⟩
        | refine ⟨fun c => ?_, ?_⟩
        | (refine fun c => ?_; (first | contradiction | (exfalso; simp only [Int32.lt_iff_toInt_lt, Int32.le_iff_toInt_le, ← Int32.toInt_inj] at *; omega)))
        | (refine fun c => ?_; subst c)
        | refine fun c => ?_)
    obtain ⟨N, hN, rfl⟩ := nI_of2 (M := 96) (n := 96) rfl (fun c => absurd (Int32.lt_of_lt_of_le c (by decide : (0 : Int32) ≤ 1)) (q_nlt.mpr h2.1)) h2.2
    rcases tsw_0_3 h3 with rfl | rfl | rfl | rfl
    · refine fun x1 e1 x2 e2 x3 e3 => ?_
      subst e2
      subst e3
      refine q_nwT h2 ?_
      refine q_nwT (by decide) ?_
      refine fun f3 e3 => ?_
      subst e3
      refine ⟨N + 1, q_drawC (N := N) (by omega) (fun g hg => ?_) N 0 _ (by omega) q_row0⟩
      refine ⟨fun c => absurd c (by decide), fun _ => ?_, fun c => absurd c (by decide), fun c => absurd c (by decide)⟩
      refine fun x e => ⟨vin (by decide), fun f5 e5 => ?_⟩
      refine fun x7 e7 x8 e8 x9 e9 => ?_
      subst e8
      subst e9
      refine q_wmT h2 ⟨fun c => absurd c (by decide), fun _ => q_wmT (by decide) ⟨fun c => absurd c (by decide), fun _ => ?_⟩⟩
      refine q_mayT ⟨fun _ => ?_, fun c => absurd c (by decide)⟩
      refine q_take (fun f9 h9 => ⟨N + 1, q_marchM (N := N) (by omega) (fun s hs => ?_) N 0 _ (by omega) (q_mrow0 h9)⟩)
      refine ⟨fun c => absurd rfl c, fun _ => ?_⟩
      subst e5
      subst e
      exact q_finO
    · refine fun x1 e1 x2 e2 x3 e3 => ?_
      subst e2
      subst e3
      refine q_nwT h2 ?_
      refine q_nwT (by decide) ?_
      refine fun f3 e3 => ?_
      subst e3
      refine ⟨N + 1, q_drawC (N := N) (by omega) (fun g hg => ?_) N 0 _ (by omega) q_row0⟩
      refine ⟨fun c => absurd c (by decide), fun c => absurd c (by decide), fun _ z ez => ?_, fun c => absurd c (by decide)⟩
      rw [q_c2, hg.2] at ez
      subst ez
      refine fun x e => ⟨vin (by decide), fun f5 e5 => ?_⟩
      refine fun x7 e7 x8 e8 x9 e9 => ?_
      subst e8
      subst e9
      refine q_wmT h2 ⟨fun c => absurd c (by decide), fun _ => q_wmT (by decide) ⟨fun c => absurd c (by decide), fun _ => ?_⟩⟩
      refine q_mayT ⟨fun _ => ?_, fun c => absurd c (by decide)⟩
      refine q_take (fun f9 h9 => ⟨N + 1, q_marchM (N := N) (by omega) (fun s hs => ?_) N 0 _ (by omega) (q_mrow0 h9)⟩)
      refine ⟨fun _ => ⟨fun c => absurd rfl c, fun _ => ⟨1, fun _ => ?_, fun c => absurd (by decide) c⟩⟩, fun c => absurd c (by decide)⟩
      subst e5
      subst e
      exact q_finO
    · refine fun x1 e1 x2 e2 x3 e3 => ?_
      subst e2
      subst e3
      refine q_nwT h2 ?_
      refine q_nwT (by decide) ?_
      refine fun f3 e3 => ?_
      subst e3
      refine ⟨N + 1, q_drawC (N := N) (by omega) (fun g hg => ?_) N 0 _ (by omega) q_row0⟩
      refine ⟨fun c => absurd c (by decide), fun c => absurd c (by decide), fun c => absurd c (by decide), fun _ => ⟨1, fun _ => ?_, fun c => absurd (by decide) c⟩⟩
      refine fun x e => ⟨vin (by decide), fun f5 e5 => ?_⟩
      refine fun x7 e7 x8 e8 x9 e9 => ?_
      subst e8
      subst e9
      refine q_wmT h2 ⟨fun c => absurd c (by decide), fun _ => q_wmT (by decide) ⟨fun c => absurd c (by decide), fun _ => ?_⟩⟩
      refine q_mayT ⟨fun _ => ?_, fun c => absurd c (by decide)⟩
      refine q_take (fun f9 h9 => ⟨N + 1, q_marchM (N := N) (by omega) (fun s hs => ?_) N 0 _ (by omega) (q_mrow0 h9)⟩)
      refine ⟨fun _ => ⟨fun _ => ⟨fun c => absurd rfl c, fun _ => ⟨1, fun _ => ?_, fun c => absurd (by decide) c⟩⟩, fun c => absurd c (by decide)⟩, fun c => absurd c (by decide)⟩
      subst e5
      subst e
      exact q_finO
    · refine fun x1 e1 x2 e2 x3 e3 => ?_
      subst e2
      subst e3
      refine q_nwT h2 ?_
      refine q_nwT (by decide) ?_
      refine fun f3 e3 => ?_
      subst e3
      refine ⟨N + 1, q_drawC (N := N) (by omega) (fun g hg => ?_) N 0 _ (by omega) q_row0⟩
      refine ⟨fun _ z ez => ?_, fun c => absurd c (by decide), fun c => absurd c (by decide), fun c => absurd c (by decide)⟩
      rw [q_c0, hg.1] at ez
      subst ez
      refine fun x e => ⟨vin (by decide), fun f5 e5 => ?_⟩
      refine fun x7 e7 x8 e8 x9 e9 => ?_
      subst e8
      subst e9
      refine q_wmT h2 ⟨fun c => absurd c (by decide), fun _ => q_wmT (by decide) ⟨fun c => absurd c (by decide), fun _ => ?_⟩⟩
      refine q_mayT ⟨fun _ => ?_, fun c => absurd c (by decide)⟩
      refine q_take (fun f9 h9 => ⟨N + 1, q_marchM (N := N) (by omega) (fun s hs => ?_) N 0 _ (by omega) (q_mrow0 h9)⟩)
      refine ⟨fun _ => ⟨fun _ => ⟨fun _ z2 ez2 => ?_, fun c => absurd c (by decide)⟩, fun c => absurd c (by decide)⟩, fun c => absurd c (by decide)⟩
      rw [q_c66, hs.1] at ez2
      subst ez2
      subst e5
      subst e
      exact q_finO
  ·
    repeat (first
      | exact trivial
      | exact ⟨fun _ => trivial, fun c => c rfl⟩
      | refine q_wF ?_
      | refine q_wmF ?_
      | refine ⟨fun c => absurd c (by decide), fun _ => ?_⟩
      | refine ⟨fun _ => ?_, fun c => absurd c (by decide)⟩
      | refine ⟨vin (by decide), ?_⟩
      | refine Or.inl ⟨rfl, ?_⟩
      | refine Or.inr ⟨rfl, ?_⟩
      | refine ⟨rfl, ?_⟩
      | refine ⟨100, ?_⟩
      | (refine fun x e => ?_; subst e)
      | refine ⟨fun _ => ?_, fun c => by (first | contradiction | (exfalso; simp only [Int32.lt_iff_toInt_lt, Int32.le_iff_toInt_le, ← Int32.toInt_inj] at *; omega))⟩
      | refine ⟨fun c => by (first | contradiction | (exfalso; simp only [Int32.lt_iff_toInt_lt, Int32.le_iff_toInt_le, ← Int32.toInt_inj] at *; omega)), fun _ => ?_⟩
      | refine ⟨fun c => ?_, fun c => ?_⟩
      | refine ⟨fun c => ?_, ?_⟩
      | (refine fun c => ?_; (first | contradiction | (exfalso; simp only [Int32.lt_iff_toInt_lt, Int32.le_iff_toInt_le, ← Int32.toInt_inj] at *; omega)))
      | (refine fun c => ?_; subst c)
      | refine fun c => ?_)
set_option maxHeartbeats 4000000 in
set_option maxRecDepth 100000 in
theorem pu_LC0 {x1 : Int32} {f2 : Nat → Int32} {f3 : Nat → Int32} {x4 : Int32} {f5 : Nat → Int32} {f6 : Nat → Int32} {x7 : Int32} {f8 : Nat → Int32} {x9 : Int32} {f10 : Nat → Int32} {f11 : Nat → Int32} {f12 : Nat → Int32} {x14 : Int32} {x15 : Int32} {x16 : Int32} {x17 : Int32} {x18 : Int32} {x19 : Int32} {x20 : Int32} {x21 : Int32} {x22 : Int32} {x23 : Int32} {x24 : Int32} {f25 : Nat → Int32} {f26 : Nat → Int32} {f27 : Nat → Int32} {f28 : Nat → Int32} {f29 : Nat → Int32} {f30 : Nat → Int32} (hX : XF x1 f2 f3 x4 f5 f6 x7 f8 x9 f10 f11 f12) (hM : MF x14 x15 x16 x17 x18 x19 x20 x21 x22 x23 x24 f25 f26 f27 f28 f29 f30) {ad13 ad31 : Nat → Nat} {ax am ao : Nat} (xs : Nat → Int32) : wc_LC0 0 (fun _ => 0) 0 0 (fun _ => 0) xs := by
  obtain ⟨rfl, rfl, rfl, rfl, rfl⟩ := hX
  obtain ⟨rfl, rfl, rfl, rfl, rfl, rfl, rfl, rfl, rfl, rfl, rfl, rfl⟩ := hM
  unfold wc_LC0
  try generalize xs 1 = y1
  try generalize xs 2 = y2
  try generalize xs 3 = y3
  try generalize xs 4 = y4
  try generalize xs 5 = y5
  try generalize xs 6 = y6
  try generalize xs 7 = y7
  try generalize xs 8 = y8
  repeat (first
    | exact trivial
    | exact ⟨fun _ => trivial, fun c => c rfl⟩
    | refine q_wF ?_
    | refine q_wmF ?_
    | refine ⟨fun c => absurd c (by decide), fun _ => ?_⟩
    | refine ⟨fun _ => ?_, fun c => absurd c (by decide)⟩
    | refine ⟨vin (by decide), ?_⟩
    | refine Or.inl ⟨rfl, ?_⟩
    | refine Or.inr ⟨rfl, ?_⟩
    | refine ⟨rfl, ?_⟩
    | refine ⟨100, ?_⟩
    | (refine fun x e => ?_; subst e)
    | refine ⟨fun _ => ?_, fun c => by (first | contradiction | (exfalso; simp only [Int32.lt_iff_toInt_lt, Int32.le_iff_toInt_le, ← Int32.toInt_inj] at *; omega))⟩
    | refine ⟨fun c => by (first | contradiction | (exfalso; simp only [Int32.lt_iff_toInt_lt, Int32.le_iff_toInt_le, ← Int32.toInt_inj] at *; omega)), fun _ => ?_⟩
    | refine ⟨fun c => ?_, fun c => ?_⟩
    | refine ⟨fun c => ?_, ?_⟩
    | (refine fun c => ?_; (first | contradiction | (exfalso; simp only [Int32.lt_iff_toInt_lt, Int32.le_iff_toInt_le, ← Int32.toInt_inj] at *; omega)))
    | (refine fun c => ?_; subst c)
    | refine fun c => ?_)
set_option maxHeartbeats 4000000 in
set_option maxRecDepth 100000 in
theorem pu_LC4 {x1 : Int32} {f2 : Nat → Int32} {f3 : Nat → Int32} {x4 : Int32} {f5 : Nat → Int32} {f6 : Nat → Int32} {x7 : Int32} {f8 : Nat → Int32} {x9 : Int32} {f10 : Nat → Int32} {f11 : Nat → Int32} {f12 : Nat → Int32} {x14 : Int32} {x15 : Int32} {x16 : Int32} {x17 : Int32} {x18 : Int32} {x19 : Int32} {x20 : Int32} {x21 : Int32} {x22 : Int32} {x23 : Int32} {x24 : Int32} {f25 : Nat → Int32} {f26 : Nat → Int32} {f27 : Nat → Int32} {f28 : Nat → Int32} {f29 : Nat → Int32} {f30 : Nat → Int32} (hX : XF x1 f2 f3 x4 f5 f6 x7 f8 x9 f10 f11 f12) (hM : MF x14 x15 x16 x17 x18 x19 x20 x21 x22 x23 x24 f25 f26 f27 f28 f29 f30) {ad13 ad31 : Nat → Nat} {ax am ao : Nat} (xs : Nat → Int32) : wc_LC4 (ad13 30) (ad13 32) 0 0 0 0 0 0 (-1) 0 x9 f10 (fun _ => 0) (fun _ => 0) 0 0 0 0 0 0 0 (-1) x17 x23 (fun _ => 0) (fun _ => 0) (fun _ => 0) f30 xs := by
  obtain ⟨rfl, rfl, rfl, rfl, rfl⟩ := hX
  obtain ⟨rfl, rfl, rfl, rfl, rfl, rfl, rfl, rfl, rfl, rfl, rfl, rfl⟩ := hM
  unfold wc_LC4
  try generalize xs 1 = y1
  try generalize xs 2 = y2
  try generalize xs 3 = y3
  try generalize xs 4 = y4
  try generalize xs 5 = y5
  try generalize xs 6 = y6
  try generalize xs 7 = y7
  try generalize xs 8 = y8
  repeat (first
    | exact trivial
    | exact ⟨fun _ => trivial, fun c => c rfl⟩
    | refine q_wF ?_
    | refine q_wmF ?_
    | refine ⟨fun c => absurd c (by decide), fun _ => ?_⟩
    | refine ⟨fun _ => ?_, fun c => absurd c (by decide)⟩
    | refine ⟨vin (by decide), ?_⟩
    | refine Or.inl ⟨rfl, ?_⟩
    | refine Or.inr ⟨rfl, ?_⟩
    | refine ⟨rfl, ?_⟩
    | refine ⟨100, ?_⟩
    | (refine fun x e => ?_; subst e)
    | refine ⟨fun _ => ?_, fun c => by (first | contradiction | (exfalso; simp only [Int32.lt_iff_toInt_lt, Int32.le_iff_toInt_le, ← Int32.toInt_inj] at *; omega))⟩
    | refine ⟨fun c => by (first | contradiction | (exfalso; simp only [Int32.lt_iff_toInt_lt, Int32.le_iff_toInt_le, ← Int32.toInt_inj] at *; omega)), fun _ => ?_⟩
    | refine ⟨fun c => ?_, fun c => ?_⟩
    | refine ⟨fun c => ?_, ?_⟩
    | (refine fun c => ?_; (first | contradiction | (exfalso; simp only [Int32.lt_iff_toInt_lt, Int32.le_iff_toInt_le, ← Int32.toInt_inj] at *; omega)))
    | (refine fun c => ?_; subst c)
    | refine fun c => ?_)
set_option maxHeartbeats 4000000 in
set_option maxRecDepth 100000 in
theorem pu_LC7 {x1 : Int32} {f2 : Nat → Int32} {f3 : Nat → Int32} {x4 : Int32} {f5 : Nat → Int32} {f6 : Nat → Int32} {x7 : Int32} {f8 : Nat → Int32} {x9 : Int32} {f10 : Nat → Int32} {f11 : Nat → Int32} {f12 : Nat → Int32} {x14 : Int32} {x15 : Int32} {x16 : Int32} {x17 : Int32} {x18 : Int32} {x19 : Int32} {x20 : Int32} {x21 : Int32} {x22 : Int32} {x23 : Int32} {x24 : Int32} {f25 : Nat → Int32} {f26 : Nat → Int32} {f27 : Nat → Int32} {f28 : Nat → Int32} {f29 : Nat → Int32} {f30 : Nat → Int32} (hX : XF x1 f2 f3 x4 f5 f6 x7 f8 x9 f10 f11 f12) (hM : MF x14 x15 x16 x17 x18 x19 x20 x21 x22 x23 x24 f25 f26 f27 f28 f29 f30) {ad13 ad31 : Nat → Nat} {ax am ao : Nat} (xs : Nat → Int32) : wc_LC7 0 0 0 0 0 0 f11 x7 (fun _ => 0) 0 x17 x18 x19 x22 x23 (fun _ => 0) f29 (fun _ => 0) f26 f28 xs := by
  obtain ⟨rfl, rfl, rfl, rfl, rfl⟩ := hX
  obtain ⟨rfl, rfl, rfl, rfl, rfl, rfl, rfl, rfl, rfl, rfl, rfl, rfl⟩ := hM
  unfold wc_LC7
  try generalize xs 1 = y1
  try generalize xs 2 = y2
  try generalize xs 3 = y3
  try generalize xs 4 = y4
  try generalize xs 5 = y5
  try generalize xs 6 = y6
  try generalize xs 7 = y7
  try generalize xs 8 = y8
  repeat (first
    | exact trivial
    | exact ⟨fun _ => trivial, fun c => c rfl⟩
    | refine q_wF ?_
    | refine q_wmF ?_
    | refine ⟨fun c => absurd c (by decide), fun _ => ?_⟩
    | refine ⟨fun _ => ?_, fun c => absurd c (by decide)⟩
    | refine ⟨vin (by decide), ?_⟩
    | refine Or.inl ⟨rfl, ?_⟩
    | refine Or.inr ⟨rfl, ?_⟩
    | refine ⟨rfl, ?_⟩
    | refine ⟨100, ?_⟩
    | (refine fun x e => ?_; subst e)
    | refine ⟨fun _ => ?_, fun c => by (first | contradiction | (exfalso; simp only [Int32.lt_iff_toInt_lt, Int32.le_iff_toInt_le, ← Int32.toInt_inj] at *; omega))⟩
    | refine ⟨fun c => by (first | contradiction | (exfalso; simp only [Int32.lt_iff_toInt_lt, Int32.le_iff_toInt_le, ← Int32.toInt_inj] at *; omega)), fun _ => ?_⟩
    | refine ⟨fun c => ?_, fun c => ?_⟩
    | refine ⟨fun c => ?_, ?_⟩
    | (refine fun c => ?_; (first | contradiction | (exfalso; simp only [Int32.lt_iff_toInt_lt, Int32.le_iff_toInt_le, ← Int32.toInt_inj] at *; omega)))
    | (refine fun c => ?_; subst c)
    | refine fun c => ?_)
set_option maxHeartbeats 4000000 in
set_option maxRecDepth 100000 in
theorem pu_LC17 {x1 : Int32} {f2 : Nat → Int32} {f3 : Nat → Int32} {x4 : Int32} {f5 : Nat → Int32} {f6 : Nat → Int32} {x7 : Int32} {f8 : Nat → Int32} {x9 : Int32} {f10 : Nat → Int32} {f11 : Nat → Int32} {f12 : Nat → Int32} {x14 : Int32} {x15 : Int32} {x16 : Int32} {x17 : Int32} {x18 : Int32} {x19 : Int32} {x20 : Int32} {x21 : Int32} {x22 : Int32} {x23 : Int32} {x24 : Int32} {f25 : Nat → Int32} {f26 : Nat → Int32} {f27 : Nat → Int32} {f28 : Nat → Int32} {f29 : Nat → Int32} {f30 : Nat → Int32} (hX : XF x1 f2 f3 x4 f5 f6 x7 f8 x9 f10 f11 f12) (hM : MF x14 x15 x16 x17 x18 x19 x20 x21 x22 x23 x24 f25 f26 f27 f28 f29 f30) {ad13 ad31 : Nat → Nat} {ax am ao : Nat} (xs : Nat → Int32) : wc_LC17 0 0 0 0 (fun _ => 0) (fun _ => 0) (fun _ => 0) f11 x1 (fun _ => 0) (fun _ => 0) f2 f3 (fun _ => 0) (fun _ => 0) 0 x17 x18 x19 x20 f29 (fun _ => 0) f26 (fun _ => 0) (fun _ => 0) (fun _ => 0) (fun _ => 0) f28 (fun _ => 0) (fun _ => 0) (fun _ => 0) xs := by
  obtain ⟨rfl, rfl, rfl, rfl, rfl⟩ := hX
  obtain ⟨rfl, rfl, rfl, rfl, rfl, rfl, rfl, rfl, rfl, rfl, rfl, rfl⟩ := hM
  unfold wc_LC17
  try generalize xs 1 = y1
  try generalize xs 2 = y2
  try generalize xs 3 = y3
  try generalize xs 4 = y4
  try generalize xs 5 = y5
  try generalize xs 6 = y6
  try generalize xs 7 = y7
  try generalize xs 8 = y8
  repeat (first
    | exact trivial
    | exact ⟨fun _ => trivial, fun c => c rfl⟩
    | refine q_wF ?_
    | refine q_wmF ?_
    | refine ⟨fun c => absurd c (by decide), fun _ => ?_⟩
    | refine ⟨fun _ => ?_, fun c => absurd c (by decide)⟩
    | refine ⟨vin (by decide), ?_⟩
    | refine Or.inl ⟨rfl, ?_⟩
    | refine Or.inr ⟨rfl, ?_⟩
    | refine ⟨rfl, ?_⟩
    | refine ⟨100, ?_⟩
    | (refine fun x e => ?_; subst e)
    | refine ⟨fun _ => ?_, fun c => by (first | contradiction | (exfalso; simp only [Int32.lt_iff_toInt_lt, Int32.le_iff_toInt_le, ← Int32.toInt_inj] at *; omega))⟩
    | refine ⟨fun c => by (first | contradiction | (exfalso; simp only [Int32.lt_iff_toInt_lt, Int32.le_iff_toInt_le, ← Int32.toInt_inj] at *; omega)), fun _ => ?_⟩
    | refine ⟨fun c => ?_, fun c => ?_⟩
    | refine ⟨fun c => ?_, ?_⟩
    | (refine fun c => ?_; (first | contradiction | (exfalso; simp only [Int32.lt_iff_toInt_lt, Int32.le_iff_toInt_le, ← Int32.toInt_inj] at *; omega)))
    | (refine fun c => ?_; subst c)
    | refine fun c => ?_)
set_option maxHeartbeats 4000000 in
set_option maxRecDepth 100000 in
theorem pu_LC19 {x1 : Int32} {f2 : Nat → Int32} {f3 : Nat → Int32} {x4 : Int32} {f5 : Nat → Int32} {f6 : Nat → Int32} {x7 : Int32} {f8 : Nat → Int32} {x9 : Int32} {f10 : Nat → Int32} {f11 : Nat → Int32} {f12 : Nat → Int32} {x14 : Int32} {x15 : Int32} {x16 : Int32} {x17 : Int32} {x18 : Int32} {x19 : Int32} {x20 : Int32} {x21 : Int32} {x22 : Int32} {x23 : Int32} {x24 : Int32} {f25 : Nat → Int32} {f26 : Nat → Int32} {f27 : Nat → Int32} {f28 : Nat → Int32} {f29 : Nat → Int32} {f30 : Nat → Int32} (hX : XF x1 f2 f3 x4 f5 f6 x7 f8 x9 f10 f11 f12) (hM : MF x14 x15 x16 x17 x18 x19 x20 x21 x22 x23 x24 f25 f26 f27 f28 f29 f30) {ad13 ad31 : Nat → Nat} {ax am ao : Nat} (xs : Nat → Int32) : wc_LC19 0 0 (fun _ => 0) (fun _ => 0) (fun _ => 0) (fun _ => 0) 0 x17 f26 (fun _ => 0) xs := by
  obtain ⟨rfl, rfl, rfl, rfl, rfl⟩ := hX
  obtain ⟨rfl, rfl, rfl, rfl, rfl, rfl, rfl, rfl, rfl, rfl, rfl, rfl⟩ := hM
  unfold wc_LC19
  try generalize xs 1 = y1
  try generalize xs 2 = y2
  try generalize xs 3 = y3
  try generalize xs 4 = y4
  try generalize xs 5 = y5
  try generalize xs 6 = y6
  try generalize xs 7 = y7
  try generalize xs 8 = y8
  repeat (first
    | exact trivial
    | exact ⟨fun _ => trivial, fun c => c rfl⟩
    | refine q_wF ?_
    | refine q_wmF ?_
    | refine ⟨fun c => absurd c (by decide), fun _ => ?_⟩
    | refine ⟨fun _ => ?_, fun c => absurd c (by decide)⟩
    | refine ⟨vin (by decide), ?_⟩
    | refine Or.inl ⟨rfl, ?_⟩
    | refine Or.inr ⟨rfl, ?_⟩
    | refine ⟨rfl, ?_⟩
    | refine ⟨100, ?_⟩
    | (refine fun x e => ?_; subst e)
    | refine ⟨fun _ => ?_, fun c => by (first | contradiction | (exfalso; simp only [Int32.lt_iff_toInt_lt, Int32.le_iff_toInt_le, ← Int32.toInt_inj] at *; omega))⟩
    | refine ⟨fun c => by (first | contradiction | (exfalso; simp only [Int32.lt_iff_toInt_lt, Int32.le_iff_toInt_le, ← Int32.toInt_inj] at *; omega)), fun _ => ?_⟩
    | refine ⟨fun c => ?_, fun c => ?_⟩
    | refine ⟨fun c => ?_, ?_⟩
    | (refine fun c => ?_; (first | contradiction | (exfalso; simp only [Int32.lt_iff_toInt_lt, Int32.le_iff_toInt_le, ← Int32.toInt_inj] at *; omega)))
    | (refine fun c => ?_; subst c)
    | refine fun c => ?_)
set_option maxHeartbeats 4000000 in
set_option maxRecDepth 100000 in
theorem pu_LC26 {x1 : Int32} {f2 : Nat → Int32} {f3 : Nat → Int32} {x4 : Int32} {f5 : Nat → Int32} {f6 : Nat → Int32} {x7 : Int32} {f8 : Nat → Int32} {x9 : Int32} {f10 : Nat → Int32} {f11 : Nat → Int32} {f12 : Nat → Int32} {x14 : Int32} {x15 : Int32} {x16 : Int32} {x17 : Int32} {x18 : Int32} {x19 : Int32} {x20 : Int32} {x21 : Int32} {x22 : Int32} {x23 : Int32} {x24 : Int32} {f25 : Nat → Int32} {f26 : Nat → Int32} {f27 : Nat → Int32} {f28 : Nat → Int32} {f29 : Nat → Int32} {f30 : Nat → Int32} (hX : XF x1 f2 f3 x4 f5 f6 x7 f8 x9 f10 f11 f12) (hM : MF x14 x15 x16 x17 x18 x19 x20 x21 x22 x23 x24 f25 f26 f27 f28 f29 f30) {ad13 ad31 : Nat → Nat} {ax am ao : Nat} (xs : Nat → Int32) : wc_LC26 0 (fun _ => 0) 0 (fun _ => 0) xs := by
  obtain ⟨rfl, rfl, rfl, rfl, rfl⟩ := hX
  obtain ⟨rfl, rfl, rfl, rfl, rfl, rfl, rfl, rfl, rfl, rfl, rfl, rfl⟩ := hM
  unfold wc_LC26
  generalize xs 1 = y1
  generalize xs 2 = y2
  generalize xs 3 = y3
  by_cases h1 : 0 ≤ y1 ∧ y1 ≤ 99
  · by_cases h2 : 0 ≤ y2 ∧ y2 ≤ 99
    · by_cases h3' : y3.toInt < 0 ∨ 2 < y3.toInt
      ·
        repeat (first
          | exact trivial
          | exact ⟨fun _ => trivial, fun c => c rfl⟩
          | refine q_wF ?_
          | refine q_wmF ?_
          | refine ⟨fun c => absurd c (by decide), fun _ => ?_⟩
          | refine ⟨fun _ => ?_, fun c => absurd c (by decide)⟩
          | refine ⟨vin (by decide), ?_⟩
          | refine Or.inl ⟨rfl, ?_⟩
          | refine Or.inr ⟨rfl, ?_⟩
          | refine ⟨rfl, ?_⟩
          | refine ⟨100, ?_⟩
          | (refine fun x e => ?_; subst e)
          | refine ⟨fun _ => ?_, fun c => by (first | contradiction | (exfalso; simp only [Int32.lt_iff_toInt_lt, Int32.le_iff_toInt_le, ← Int32.toInt_inj] at *; omega))⟩
          | refine ⟨fun c => by (first | contradiction | (exfalso; simp only [Int32.lt_iff_toInt_lt, Int32.le_iff_toInt_le, ← Int32.toInt_inj] at *; omega)), fun _ => ?_⟩
          | refine ⟨fun c => ?_, fun c => ?_⟩
          | refine ⟨fun c => ?_, ?_⟩
          | (refine fun c => ?_; (first | contradiction | (exfalso; simp only [Int32.lt_iff_toInt_lt, Int32.le_iff_toInt_le, ← Int32.toInt_inj] at *; omega)))
          | (refine fun c => ?_; subst c)
          | refine fun c => ?_)
      obtain ⟨a, ha, rfl⟩ := nI_of2 (M := 99) (n := 99) rfl (q_nlt.mpr h1.1) h1.2
      obtain ⟨b, hb, rfl⟩ := nI_of2 (M := 99) (n := 99) rfl (q_nlt.mpr h2.1) h2.2
      have g1 : ¬ (nI a + nI b < nI a) := by rw [nI_add]; exact nI_nlt (by omega) (by omega)
      have g3 : nI a ≤ nI a + nI b := by rw [nI_add]; exact nI_le (by omega) (by omega)
      rcases tsw_0_2 h3' with rfl | rfl | rfl
      all_goals
        have h3 : (0 : Int32) ≤ 2 := by decide
        refine fun x1 e1 x2 e2 x3 e3 => ?_
        subst e1
        subst e2
        subst e3
        refine q_nwT h1 ?_
        refine q_nwT h2 ?_
        refine q_nwT (by decide) ?_
        by_cases hb0 : b = 0
        · subst hb0
          have g2 : ¬ (nI a < nI a + nI 0) := by rw [nI_add]; exact nI_nlt (by omega) (by omega)
          have g4 : nI a + nI 0 ≤ nI a := by rw [nI_add]; exact nI_le (by omega) (by omega)
          repeat (first
            | exact trivial
            | exact ⟨fun _ => trivial, fun c => c rfl⟩
            | exact q_finO
            | refine q_wmT h1 ?_
            | refine q_wmT h2 ?_
            | refine q_wF ?_
            | refine q_wmF ?_
            | refine ⟨fun c => absurd c (by decide), fun _ => ?_⟩
            | refine ⟨fun _ => ?_, fun c => absurd c (by decide)⟩
            | refine ⟨vin (by decide), ?_⟩
            | refine Or.inl ⟨rfl, ?_⟩
            | refine Or.inr ⟨rfl, ?_⟩
            | refine ⟨rfl, ?_⟩
            | refine ⟨100, ?_⟩
            | (refine fun x e => ?_; subst e)
            | refine ⟨fun _ => ?_, fun c => by (first | contradiction | (exfalso; simp only [Int32.lt_iff_toInt_lt, Int32.le_iff_toInt_le, ← Int32.toInt_inj] at *; omega))⟩
            | refine ⟨fun c => by (first | contradiction | (exfalso; simp only [Int32.lt_iff_toInt_lt, Int32.le_iff_toInt_le, ← Int32.toInt_inj] at *; omega)), fun _ => ?_⟩
            | refine ⟨fun c => ?_, fun c => ?_⟩
            | refine ⟨fun c => ?_, ?_⟩
            | (refine fun c => ?_; (first | contradiction | (exfalso; simp only [Int32.lt_iff_toInt_lt, Int32.le_iff_toInt_le, ← Int32.toInt_inj] at *; omega)))
            | (refine fun c => ?_; subst c)
            | refine fun c => ?_)
        · have g2 : nI a < nI a + nI b := by rw [nI_add]; exact nI_lt (by omega) (by omega)
          have g4 : ¬ nI a + nI b ≤ nI a := by rw [nI_add]; exact nI_ge (by omega) (by omega)
          obtain ⟨n1, n2, n3, n4⟩ := (q_neg60 ⟨b, by omega⟩).resolve_left hb0
          change -nI b < 0 at n1
          change ¬ 0 < -nI b at n2
          change -nI b ≤ 0 at n3
          change ¬ 0 ≤ -nI b at n4
          repeat (first
            | exact trivial
            | exact ⟨fun _ => trivial, fun c => c rfl⟩
            | exact q_finO
            | refine q_wmT h1 ?_
            | refine q_wmT h2 ?_
            | refine q_wF ?_
            | refine q_wmF ?_
            | refine ⟨fun c => absurd c (by decide), fun _ => ?_⟩
            | refine ⟨fun _ => ?_, fun c => absurd c (by decide)⟩
            | refine ⟨vin (by decide), ?_⟩
            | refine Or.inl ⟨rfl, ?_⟩
            | refine Or.inr ⟨rfl, ?_⟩
            | refine ⟨rfl, ?_⟩
            | refine ⟨100, ?_⟩
            | (refine fun x e => ?_; subst e)
            | refine ⟨fun _ => ?_, fun c => by (first | contradiction | (exfalso; simp only [Int32.lt_iff_toInt_lt, Int32.le_iff_toInt_le, ← Int32.toInt_inj] at *; omega))⟩
            | refine ⟨fun c => by (first | contradiction | (exfalso; simp only [Int32.lt_iff_toInt_lt, Int32.le_iff_toInt_le, ← Int32.toInt_inj] at *; omega)), fun _ => ?_⟩
            | refine ⟨fun c => ?_, fun c => ?_⟩
            | refine ⟨fun c => ?_, ?_⟩
            | (refine fun c => ?_; (first | contradiction | (exfalso; simp only [Int32.lt_iff_toInt_lt, Int32.le_iff_toInt_le, ← Int32.toInt_inj] at *; omega)))
            | (refine fun c => ?_; subst c)
            | refine fun c => ?_)
    ·
      repeat (first
        | exact trivial
        | exact ⟨fun _ => trivial, fun c => c rfl⟩
        | refine q_wF ?_
        | refine q_wmF ?_
        | refine ⟨fun c => absurd c (by decide), fun _ => ?_⟩
        | refine ⟨fun _ => ?_, fun c => absurd c (by decide)⟩
        | refine ⟨vin (by decide), ?_⟩
        | refine Or.inl ⟨rfl, ?_⟩
        | refine Or.inr ⟨rfl, ?_⟩
        | refine ⟨rfl, ?_⟩
        | refine ⟨100, ?_⟩
        | (refine fun x e => ?_; subst e)
        | refine ⟨fun _ => ?_, fun c => by (first | contradiction | (exfalso; simp only [Int32.lt_iff_toInt_lt, Int32.le_iff_toInt_le, ← Int32.toInt_inj] at *; omega))⟩
        | refine ⟨fun c => by (first | contradiction | (exfalso; simp only [Int32.lt_iff_toInt_lt, Int32.le_iff_toInt_le, ← Int32.toInt_inj] at *; omega)), fun _ => ?_⟩
        | refine ⟨fun c => ?_, fun c => ?_⟩
        | refine ⟨fun c => ?_, ?_⟩
        | (refine fun c => ?_; (first | contradiction | (exfalso; simp only [Int32.lt_iff_toInt_lt, Int32.le_iff_toInt_le, ← Int32.toInt_inj] at *; omega)))
        | (refine fun c => ?_; subst c)
        | refine fun c => ?_)
  ·
    repeat (first
      | exact trivial
      | exact ⟨fun _ => trivial, fun c => c rfl⟩
      | refine q_wF ?_
      | refine q_wmF ?_
      | refine ⟨fun c => absurd c (by decide), fun _ => ?_⟩
      | refine ⟨fun _ => ?_, fun c => absurd c (by decide)⟩
      | refine ⟨vin (by decide), ?_⟩
      | refine Or.inl ⟨rfl, ?_⟩
      | refine Or.inr ⟨rfl, ?_⟩
      | refine ⟨rfl, ?_⟩
      | refine ⟨100, ?_⟩
      | (refine fun x e => ?_; subst e)
      | refine ⟨fun _ => ?_, fun c => by (first | contradiction | (exfalso; simp only [Int32.lt_iff_toInt_lt, Int32.le_iff_toInt_le, ← Int32.toInt_inj] at *; omega))⟩
      | refine ⟨fun c => by (first | contradiction | (exfalso; simp only [Int32.lt_iff_toInt_lt, Int32.le_iff_toInt_le, ← Int32.toInt_inj] at *; omega)), fun _ => ?_⟩
      | refine ⟨fun c => ?_, fun c => ?_⟩
      | refine ⟨fun c => ?_, ?_⟩
      | (refine fun c => ?_; (first | contradiction | (exfalso; simp only [Int32.lt_iff_toInt_lt, Int32.le_iff_toInt_le, ← Int32.toInt_inj] at *; omega)))
      | (refine fun c => ?_; subst c)
      | refine fun c => ?_)
