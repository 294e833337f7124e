theorem t_495 : (495 : Int32).toInt = 495 := by decide
section Sp
variable {n h ln sf p1 p2 p3 p4 p5 : Int32} {ag ar : Nat} {nw X Y kd vl sr : Nat → Int32}
theorem sl_X10_span {E : String → Int32 → (Nat → Int32) → Value → Value → (Nat → Int32) → (Nat → Int32) → Prop} {Q : Int32 → Int32 → (Nat → Int32) → Value → Value → (Nat → Int32) → (Nat → Int32) → Prop} {ci : Int32} (h0 : 0 ≤ h.toInt) (h6 : h.toInt ≤ 6) (n8 : n.toInt ≤ 8) (hw : sLaw ln kd vl) (hs : sSits h n nw) (a2 : p2.toInt ≤ 20) (a3 : p3.toInt ≤ 96)
    (hq : ∀ (r : Int32) (row fc pl : Nat → Int32), Q r ci row (.ref ag) (.ref ar) fc pl) :
    ∀ (k : Nat) (row fc pl : Nat → Int32) (rd rl : Value) (l6 l7 l8 i : Int32), (0 < i.toInt → rd = .ref ag ∧ rl = .ref ar) → (i.toInt = 0 → 0 < p2.toInt) → 0 ≤ i.toInt → i.toInt ≤ 20 → 20 - i.toInt < k → wl_X10_span_54 ag ar n h sf nw X Y ln kd vl sr E Q k ci row rd rl fc pl p1 p2 p3 p4 p5 l6 l7 l8 i := by
  intro k
  induction k with
  | zero => intro row fc pl rd rl l6 l7 l8 i hr hz i0 i1 i2; omega
  | succ k ih =>
    intro row fc pl rd rl l6 l7 l8 i hr hz i0 i1 i2
    refine ⟨fun c => ?_, fun c => ?_⟩
    · rw [t_le] at c
      obtain ⟨rfl, rfl⟩ := hr (by omega)
      exact ⟨fun _ => hq _ _ _ _, fun _ => ⟨fun _ => hq _ _ _ _, fun _ => hq _ _ _ _⟩⟩
    · rw [t_le] at c
      have go : ∀ (fc pl row : Nat → Int32) (l6 l7 s1 : Int32), wb_X10_span_122 ag ar n h sf nw X Y ln kd vl sr E Q (fun v0_callsIllegal f0_trial_row r0_trial_down r0_trial_law f0_rule_facts f0_rule_pile l1 l2 l3 l4 l5 l6 l7 l8 l9 => wl_X10_span_54 ag ar n h sf nw X Y ln kd vl sr E Q k v0_callsIllegal f0_trial_row r0_trial_down r0_trial_law f0_rule_facts f0_rule_pile l1 l2 l3 l4 l5 l6 l7 l8 l9) ci row (.ref ag) (.ref ar) fc pl p1 p2 p3 p4 p5 l6 l7 i l8 s1 := fun fc pl row l6 l7 s1 x18 _ x19 e19 => by
        have e : x19.toInt = i.toInt + 1 := by rw [e19]; exact t_inc (by omega)
        exact ih row fc pl _ _ l6 l7 x18 x19 (fun _ => ⟨rfl, rfl⟩) (by omega) (by omega) (by omega) (by omega)
      exact sf_X1_copyFrom h6 hs (fun f8 h8 x9 _ => sf_X1_drawDays h0 h6 n8 hw a3 h8 (fun r fc pl row _ x14 _ x15 _ => sf_X1_isCaught ⟨fun _ => go _ _ _ _ _ _, fun _ => go _ _ _ _ _ _⟩ ⟨fun _ => go _ _ _ _ _ _, fun _ => go _ _ _ _ _ _⟩))
theorem sf_X10_span {E : String → Int32 → (Nat → Int32) → Value → Value → (Nat → Int32) → (Nat → Int32) → Prop} {Q : Int32 → Int32 → (Nat → Int32) → Value → Value → (Nat → Int32) → (Nat → Int32) → Prop} {ci : Int32} {row fc pl : Nat → Int32} {rd rl : Value} (h0 : 0 ≤ h.toInt) (h6 : h.toInt ≤ 6) (n8 : n.toInt ≤ 8) (hw : sLaw ln kd vl) (hs : sSits h n nw)
    (he : E "java/lang/IllegalArgumentException" (ci + 1) row rd rl fc pl) (hq : ∀ (r : Int32) (row fc pl : Nat → Int32), Q r ci row (.ref ag) (.ref ar) fc pl) : wq_X10_span ag ar n h sf nw X Y ln kd vl sr ci row rd rl fc pl p1 p2 p3 p4 p5 E Q :=
  sf_X10_needWithin he (fun a0 a1 => sf_X10_needWithin he (fun _ b1 => sf_X10_needWithin he (fun _ _ => sf_X10_needWithin he (fun _ _ => ⟨21, sl_X10_span h0 h6 n8 hw hs (by rw [t_20] at a1; exact a1) (by rw [t_96] at b1; exact b1) hq 21 row fc pl rd rl _ _ _ 0 (fun z => absurd z (by decide)) (fun _ => by rw [t_1] at a0; omega) (by decide) (by decide) (by decide)⟩))))
end Sp
section Re
variable {n h sf cn ci p q : Int32} {X Y : Nat → Int32}
theorem sl_X10_refuge {E : String → Int32 → Int32 → Prop} {Q : Int32 → Int32 → Int32 → Prop} (n8 : n.toInt ≤ 8) (p0 : 0 ≤ p.toInt) (p1 : p.toInt < 8) (hq : ∀ r, Q r cn ci) :
    ∀ (k : Nat) (b i : Int32), (b = -1 ∨ 0 ≤ b.toInt ∧ b.toInt < 8) → 0 ≤ i.toInt → i.toInt ≤ 8 → 8 - i.toInt < k → wl_X10_refuge_17 n sf X Y E Q k cn ci p q b i := by
  intro k
  induction k with
  | zero => intro b i hb i0 i1 i2; omega
  | succ k ih =>
    intro b i hb i0 i1 i2
    refine ⟨fun _ => ⟨fun _ => hq _, fun _ => ⟨fun c => ?_, fun _ => hq _⟩⟩, fun c => ?_⟩
    · have g := hb.resolve_left c
      exact sf_X2_apart p0 p1 g.1 g.2 (fun _ => hq _)
    · rw [t_le] at c
      have go : ∀ b x9 : Int32, (b = -1 ∨ 0 ≤ b.toInt ∧ b.toInt < 8) → x9 = i + 1 → wl_X10_refuge_17 n sf X Y E Q k cn ci p q b x9 := fun b x9 hb e9 => by
        have e : x9.toInt = i.toInt + 1 := by rw [e9]; exact t_inc (by omega)
        exact ih b x9 hb (by omega) (by omega) (by omega)
      have gi : i = -1 ∨ 0 ≤ i.toInt ∧ i.toInt < 8 := Or.inr ⟨i0, by omega⟩
      refine sf_X2_isSafe ⟨fun _ x12 e12 => go b x12 hb e12, fun c => absurd rfl c⟩ ⟨fun c => absurd c (by decide), fun _ => ⟨fun _ x12 e12 => go i x12 gi e12, fun c2 => ?_⟩⟩
      have g := hb.resolve_left c2
      exact sf_X2_apart p0 p1 i0 (by omega) (fun _ => sf_X2_apart p0 p1 g.1 g.2 (fun _ => ⟨fun _ x12 e12 => go b x12 hb e12, fun _ x12 e12 => go i x12 gi e12⟩))
theorem sf_X10_refuge {E : String → Int32 → Int32 → Prop} {Q : Int32 → Int32 → Int32 → Prop} (n0 : 0 ≤ n.toInt) (n8 : n.toInt ≤ 8) (he1 : E "java/util/NoSuchElementException" (cn + 1) ci) (he2 : E "java/lang/IllegalArgumentException" cn (ci + 1)) (hq : ∀ r, Q r cn ci) : wq_X10_refuge n sf X Y cn ci p q E Q :=
  sf_X10_needForm n0 he1 (fun a0 a1 => sf_X10_needWithin he2 (fun _ _ => ⟨9, sl_X10_refuge n8 a0 (by omega) hq 9 (-1) 0 (Or.inl rfl) (by decide) (by decide) (by decide)⟩))
theorem sl_X1_givenBy {oe : Nat → Int32} {Q : Int32 → Prop} (h6 : h.toInt ≤ 6) (hq : ∀ r, Q r) : ∀ (k : Nat) (v i : Int32), 0 ≤ i.toInt → i.toInt ≤ 6 → 6 - i.toInt < k → wl_X1_givenBy_4 h oe Q k p v i := by
  intro k
  induction k with
  | zero => intro v i i0 i1 i2; omega
  | succ k ih =>
    intro v i i0 i1 i2
    refine ⟨fun _ => hq _, fun c => ?_⟩
    rw [t_le] at c
    refine ⟨t_in i0 (by omega), fun _ _ x3 _ x4 _ x5 e5 => ?_⟩
    have e : x5.toInt = i.toInt + 1 := by rw [e5]; exact t_inc (by omega)
    exact ih x4 x5 (by omega) (by omega) (by omega)
theorem sf_X1_givenBy {oe : Nat → Int32} {Q : Int32 → Prop} (h6 : h.toInt ≤ 6) (hq : ∀ r, Q r) : wq_X1_givenBy h oe p Q := ⟨7, sl_X1_givenBy h6 hq 7 0 0 (by decide) (by decide) (by decide)⟩
theorem sl_X1_cloverFor50 {row oe : Nat → Int32} {l3 : Int32} {Q : Int32 → (Nat → Int32) → Prop} (h6 : h.toInt ≤ 6) (p0 : 0 ≤ p.toInt) (p1 : p.toInt < 6) (hq : ∀ r f, Q r f) : ∀ (k : Nat) (i : Int32), 0 ≤ i.toInt → i.toInt ≤ 495 → 495 - i.toInt < k → wl_X1_cloverFor_50 h row Q k oe p l3 i := by
  intro k
  induction k with
  | zero => intro i i0 i1 i2; omega
  | succ k ih =>
    intro i i0 i1 i2
    have hend : wb_X1_cloverFor_76 h row Q oe p i := ⟨t_in p0 p1, fun _ _ _ _ => hq _ _⟩
    refine ⟨fun _ => hend, fun c x6 _ => sf_X1_givenBy h6 (fun _ => ⟨fun _ => hend, fun _ x9 e9 => ?_⟩)⟩
    rw [t_le, t_495] at c
    have e : x9.toInt = i.toInt + 1 := by rw [e9]; exact t_inc (by omega)
    exact ih x9 (by omega) (by omega) (by omega)
theorem sl_X1_cloverFor3 {row : Nat → Int32} {l3 : Int32} {Q : Int32 → (Nat → Int32) → Prop} (h6 : h.toInt ≤ 6) (p0 : 0 ≤ p.toInt) (p1 : p.toInt < 6) (hq : ∀ r f, Q r f) : ∀ (k : Nat) (oe : Nat → Int32) (i : Int32), 0 ≤ i.toInt → i.toInt ≤ 6 → 6 - i.toInt < k → wl_X1_cloverFor_3 h row Q k oe p q l3 i := by
  intro k
  induction k with
  | zero => intro oe i i0 i1 i2; omega
  | succ k ih =>
    intro oe i i0 i1 i2
    refine ⟨fun _ => ⟨496, sl_X1_cloverFor50 h6 p0 p1 hq 496 0 (by decide) (by decide) (by decide)⟩, fun c => ?_⟩
    rw [t_le] at c
    have go : ∀ s2 : Int32, wb_X1_cloverFor_40 h row Q (fun oe p q l3 i => wl_X1_cloverFor_3 h row Q k oe p q l3 i) oe p q l3 i i s2 := fun s2 => ⟨t_in i0 (by omega), fun f10 _ x11 e11 => by
      have e : x11.toInt = i.toInt + 1 := by rw [e11]; exact t_inc (by omega)
      exact ih f10 x11 (by omega) (by omega) (by omega)⟩
    exact sf_X10_holds ⟨fun _ => go _, fun c => absurd rfl c⟩ ⟨fun c => absurd c (by decide), fun _ => sf_X1_owed h6 i0 (by omega) (fun _ => go _)⟩
theorem sf_X1_cloverFor {row oe : Nat → Int32} {l3 : Int32} {Q : Int32 → (Nat → Int32) → Prop} (h6 : h.toInt ≤ 6) (p0 : 0 ≤ p.toInt) (p1 : p.toInt < 6) (hq : ∀ r f, Q r f) : wq_X1_cloverFor h row oe p q l3 Q :=
  ⟨7, sl_X1_cloverFor3 h6 p0 p1 hq 7 oe 0 (by decide) (by decide) (by decide)⟩
theorem sf_X10_clover {row oe : Nat → Int32} {l3 : Int32} {E : String → Int32 → Int32 → (Nat → Int32) → Prop} {Q : Int32 → Int32 → Int32 → (Nat → Int32) → Prop} (h0 : 0 ≤ h.toInt) (h6 : h.toInt ≤ 6) (he1 : E "java/util/NoSuchElementException" (cn + 1) ci oe) (he2 : E "java/lang/IllegalArgumentException" cn (ci + 1) oe) (hq : ∀ r f, Q r cn ci f) : wq_X10_clover h row cn ci oe p q l3 E Q :=
  sf_X10_needHare h0 he1 (fun a0 a1 => sf_X10_needWithin he2 (fun _ _ => sf_X10_needWithin he2 (fun _ _ => sf_X10_holds ⟨fun _ => hq _ _, fun c => absurd rfl c⟩ ⟨fun c => absurd c (by decide), fun _ => sf_X1_cloverFor h6 a0 (by omega) (fun _ _ => hq _ _)⟩)))
theorem sf_X10_gain {a b c d : Int32} {Q : Int32 → Prop} (hq : ∀ r, Q r) : wq_X10_gain a b c d Q := ⟨fun _ => ⟨fun _ => hq _, fun _ => hq _⟩, fun _ => ⟨fun _ => hq _, fun _ => hq _⟩⟩
theorem sl_X10_road {E : String → Int32 → Prop} {Q : Int32 → Int32 → Prop} {l3 : Int32} (hq : ∀ r, Q r ci) : ∀ (k : Nat) (l4 l5 l6 i : Int32), 0 ≤ i.toInt → i.toInt ≤ 4 → 4 - i.toInt < k → wl_X10_road_35 E Q k ci p q l3 l4 l5 l6 i := by
  intro k
  induction k with
  | zero => intro l4 l5 l6 i i0 i1 i2; omega
  | succ k ih =>
    intro l4 l5 l6 i i0 i1 i2
    refine ⟨fun _ => ⟨fun _ => hq _, fun _ => ⟨fun _ => hq _, fun _ => hq _⟩⟩, fun c => ?_⟩
    rw [t_le, t_4] at c
    have go : ∀ l4 l5 l6 x9 : Int32, x9 = i + 1 → wl_X10_road_35 E Q k ci p q l3 l4 l5 l6 x9 := fun l4 l5 l6 x9 e9 => by
      have e : x9.toInt = i.toInt + 1 := by rw [e9]; exact t_inc (by omega)
      exact ih l4 l5 l6 x9 (by omega) (by omega) (by omega)
    exact fun x7 _ x8 _ => sf_X10_gain (fun _ => sf_X10_gain (fun _ => ⟨fun _ => go _ _ _, fun _ => sf_X10_gain (fun _ => sf_X10_gain (fun _ => ⟨fun _ => go _ _ _, fun _ => ⟨fun _ x21 _ => go _ _ _, fun _ x16 _ => sf_X10_gain (fun _ => sf_X10_gain (fun _ x19 _ x21 _ => go _ _ _))⟩⟩))⟩))
theorem sf_X10_road {E : String → Int32 → Prop} {Q : Int32 → Int32 → Prop} {l3 : Int32} (he : E "java/lang/IllegalArgumentException" (ci + 1)) (hq : ∀ r, Q r ci) : wq_X10_road ci p q l3 E Q :=
  sf_X10_needWithin he (fun _ _ => sf_X10_needWithin he (fun _ _ => sf_X10_needWithin he (fun _ _ => ⟨5, sl_X10_road hq 5 0 (-1) 0 0 (by decide) (by decide) (by decide)⟩)))
end Re
/-! a down begun -/
section Bg
variable {h n : Int32} {db st sr : Nat → Int32} {Q : (Nat → Int32) → Prop}
theorem sl_X1_begin40 (h6 : h.toInt ≤ 6) (hs : sSeat h n st) (hq : ∀ row, sSits h n row → Q row) : ∀ (k : Nat) (row : Nat → Int32) (i : Int32), (∀ j : Nat, (j : Int) < i.toInt → 0 ≤ (row (4 + j)).toInt ∧ (row (4 + j)).toInt < n.toInt) → 0 ≤ i.toInt → i.toInt ≤ 6 → 6 - i.toInt < k → wl_X1_begin_40 h db st sr Q k row i := by
  intro k
  induction k with
  | zero => intro row i hr i0 i1 i2; omega
  | succ k ih =>
    intro row i hr i0 i1 i2
    refine ⟨fun c f6 e6 => hq f6 (fun j hj => ?_), fun c x7 e7 => ?_⟩
    · rw [t_le] at c
      rw [e6, pk_cpy_out (Or.inl (by show 4 + j < (28 : Int32).toNatClampNeg; have : (28 : Int32).toNatClampNeg = 28 := by decide
                                     omega))]
      exact hr j (by omega)
    · rw [t_le] at c
      have e7' : x7.toInt = 4 + i.toInt := by rw [e7, t_add (by rw [t_4]; omega) (by rw [t_4]; omega), t_4]
      have hi := t_nat i0
      refine ⟨t_in i0 (by omega), fun x8 e8 => ⟨t_in (by omega) (by omega), fun f9 e9 x10 e10 => ⟨t_in i0 (by omega), fun x11 e11 => ?_⟩⟩⟩
      have e10' : x10.toInt = 10 + i.toInt := by rw [e10, t_add (by rw [t_10]; omega) (by rw [t_10]; omega), t_10]
      refine ⟨t_in (by omega) (by omega), fun f12 e12 x13 e13 => ?_⟩
      have e : x13.toInt = i.toInt + 1 := by rw [e13]; exact t_inc (by omega)
      refine ih f12 x13 (fun j hj => ?_) (by omega) (by omega) (by omega)
      rw [e12, pk_un (by rw [t_clamp (k := 10 + i.toNatClampNeg) (by omega)]; omega), e9, t_clamp (x := x7) (k := 4 + i.toNatClampNeg) (by omega)]
      by_cases z : j = i.toNatClampNeg
      · rw [z, pk_us, e8]; exact hs _ (by omega)
      · rw [pk_un (by omega)]; exact hr j (by omega)
theorem sl_X1_begin12 (h6 : h.toInt ≤ 6) (hs : sSeat h n st) (hq : ∀ row, sSits h n row → Q row) : ∀ (k : Nat) (row : Nat → Int32) (i : Int32), 0 ≤ i.toInt → i.toInt ≤ 64 → 64 - i.toInt < k → wl_X1_begin_12 h db st sr Q k row i := by
  intro k
  induction k with
  | zero => intro row i i0 i1 i2; omega
  | succ k ih =>
    intro row i i0 i1 i2
    refine ⟨fun c f2 _ => ⟨7, sl_X1_begin40 h6 hs hq 7 f2 0 (fun j hj => by rw [t_0] at hj; omega) (by decide) (by decide) (by decide)⟩, fun c => ?_⟩
    rw [t_le, t_64] at c
    refine ⟨t_in i0 (by omega), fun f3 _ x4 e4 => ?_⟩
    have e : x4.toInt = i.toInt + 1 := by rw [e4]; exact t_inc (by omega)
    exact ih f3 x4 (by omega) (by omega) (by omega)
theorem sf_X1_begin {row : Nat → Int32} (h6 : h.toInt ≤ 6) (hs : sSeat h n st) (hq : ∀ row, sSits h n row → Q row) : wq_X1_begin h db st sr row Q :=
  ⟨65, sl_X1_begin12 h6 hs hq 65 row 0 (by decide) (by decide) (by decide)⟩
end Bg
