set_option maxHeartbeats 40000000 in
set_option maxRecDepth 100000 in
theorem pu_LC26 {x1 : Int32} {f2 : Nat → Int32} {f3 : Nat → Int32} {x4 : Int32} {f5 : Nat → Int32} {f6 : Nat → Int32} {x7 : Int32} {f8 : Nat → Int32} {x9 : Int32} {f10 : Nat → Int32} {f11 : Nat → Int32} {f12 : Nat → Int32} {x14 : Int32} {x15 : Int32} {x16 : Int32} {x17 : Int32} {x18 : Int32} {x19 : Int32} {x20 : Int32} {x21 : Int32} {x22 : Int32} {x23 : Int32} {x24 : Int32} {f25 : Nat → Int32} {f26 : Nat → Int32} {f27 : Nat → Int32} {f28 : Nat → Int32} {f29 : Nat → Int32} {f30 : Nat → Int32} (hX : XF x1 f2 f3 x4 f5 f6 x7 f8 x9 f10 f11 f12) (hM : MF x14 x15 x16 x17 x18 x19 x20 x21 x22 x23 x24 f25 f26 f27 f28 f29 f30) {ad13 ad31 : Nat → Nat} {ax am ao : Nat} (xs : Nat → Int32) : wc_LC26 0 (fun _ => 0) 0 (fun _ => 0) xs := by
  obtain ⟨rfl, rfl, rfl, rfl, rfl⟩ := hX
  obtain ⟨rfl, rfl, rfl, rfl, rfl, rfl, rfl, rfl, rfl, rfl, rfl, rfl⟩ := hM
  unfold wc_LC26
  generalize xs 1 = y1
  generalize xs 2 = y2
  generalize xs 3 = y3
  by_cases h1 : 0 ≤ y1 ∧ y1 ≤ 99
  · by_cases h2 : 0 ≤ y2 ∧ y2 ≤ 99
    · by_cases h3' : y3.toInt < 0 ∨ 2 < y3.toInt
      ·
        repeat (first
          | exact trivial
          | (show False; (first | contradiction | (exfalso; simp only [Int32.lt_iff_toInt_lt, Int32.le_iff_toInt_le, ← Int32.toInt_inj, q_t0, q_t1, q_t2, q_t3, q_t5, q_t7, q_t9, q_t11, q_t12, q_t16, q_t20, q_t31, q_t60, q_t96, q_t99, q_t999, q_tm] at *; omega)))
          | exact ⟨fun _ => trivial, fun c => c rfl⟩
          | refine ⟨vin (by decide), ?_⟩
          | refine q_take (fun f9 h9 => ?_)
          | refine q_wF ?_
          | refine q_wmF ?_
          | refine ⟨fun c => absurd c (by decide), fun _ => ?_⟩
          | refine ⟨fun _ => ?_, fun c => absurd c (by decide)⟩
          | refine Or.inl ⟨rfl, ?_⟩
          | refine Or.inr ⟨rfl, ?_⟩
          | refine ⟨rfl, ?_⟩
          | refine ⟨by decide, ?_⟩
          | refine ⟨100, ?_⟩
          | (refine fun x e => ?_; rw [if_pos (by decide)] at e; subst e)
          | (refine fun x e => ?_; rw [if_neg (by decide)] at e; subst e)
          | (refine fun x e => ?_; subst e)
          | refine ⟨fun _ => ?_, fun c => by (first | contradiction | (exfalso; simp only [Int32.lt_iff_toInt_lt, Int32.le_iff_toInt_le, ← Int32.toInt_inj, q_t0, q_t1, q_t2, q_t3, q_t5, q_t7, q_t9, q_t11, q_t12, q_t16, q_t20, q_t31, q_t60, q_t96, q_t99, q_t999, q_tm] at *; omega))⟩
          | refine ⟨fun c => by (first | contradiction | (exfalso; simp only [Int32.lt_iff_toInt_lt, Int32.le_iff_toInt_le, ← Int32.toInt_inj, q_t0, q_t1, q_t2, q_t3, q_t5, q_t7, q_t9, q_t11, q_t12, q_t16, q_t20, q_t31, q_t60, q_t96, q_t99, q_t999, q_tm] at *; omega)), fun _ => ?_⟩
          | refine ⟨fun c => ?_, fun c => ?_⟩
          | refine ⟨fun c => ?_, ?_⟩
          | (refine fun c => ?_; (first | contradiction | (exfalso; simp only [Int32.lt_iff_toInt_lt, Int32.le_iff_toInt_le, ← Int32.toInt_inj, q_t0, q_t1, q_t2, q_t3, q_t5, q_t7, q_t9, q_t11, q_t12, q_t16, q_t20, q_t31, q_t60, q_t96, q_t99, q_t999, q_tm] at *; omega)))
          | (refine fun c => ?_; subst c)
          | refine fun c => ?_)
      obtain ⟨a, ha, rfl⟩ := nI_of2 (M := 99) (n := 99) rfl (q_nlt.mpr h1.1) h1.2
      obtain ⟨b, hb, rfl⟩ := nI_of2 (M := 99) (n := 99) rfl (q_nlt.mpr h2.1) h2.2
      have g1 : ¬ (nI a + nI b < nI a) := by rw [nI_add]; exact nI_nlt (by omega) (by omega)
      have g3 : nI a ≤ nI a + nI b := by rw [nI_add]; exact nI_le (by omega) (by omega)
      rcases tsw_0_2 h3' with rfl | rfl | rfl
      all_goals
        have h3 : (0 : Int32) ≤ 2 := by decide
        refine fun x1 e1 x2 e2 x3 e3 => ?_
        subst e1
        subst e2
        subst e3
        refine q_nwT h1 ?_
        refine q_nwT h2 ?_
        refine q_nwT (by decide) ?_
        by_cases hb0 : b = 0
        · subst hb0
          have g2 : ¬ (nI a < nI a + nI 0) := by rw [nI_add]; exact nI_nlt (by omega) (by omega)
          have g4 : nI a + nI 0 ≤ nI a := by rw [nI_add]; exact nI_le (by omega) (by omega)
          repeat (first
            | exact trivial
            | (show False; contradiction)
            | exact ⟨fun _ => trivial, fun c => c rfl⟩
            | refine ⟨vin (by decide), ?_⟩
            | exact q_finO
            | refine q_wmT h1 ?_
            | refine q_wmT h2 ?_
            | refine q_take (fun f9 h9 => ?_)
            | refine q_wF ?_
            | refine q_wmF ?_
            | refine ⟨fun c => absurd c (by decide), fun _ => ?_⟩
            | refine ⟨fun _ => ?_, fun c => absurd c (by decide)⟩
            | refine Or.inl ⟨rfl, ?_⟩
            | refine Or.inr ⟨rfl, ?_⟩
            | refine ⟨rfl, ?_⟩
            | refine ⟨by decide, ?_⟩
            | refine ⟨100, ?_⟩
            | (refine fun x e => ?_; rw [if_pos (by decide)] at e; subst e)
            | (refine fun x e => ?_; rw [if_neg (by decide)] at e; subst e)
            | (refine fun x e => ?_; subst e)
            | refine ⟨fun _ => ?_, fun c => by contradiction⟩
            | refine ⟨fun c => by contradiction, fun _ => ?_⟩)
        · have g2 : nI a < nI a + nI b := by rw [nI_add]; exact nI_lt (by omega) (by omega)
          have g4 : ¬ nI a + nI b ≤ nI a := by rw [nI_add]; exact nI_ge (by omega) (by omega)
          obtain ⟨n1, n2, n3, n4⟩ := (q_neg60 ⟨b, by omega⟩).resolve_left hb0
          change -nI b < 0 at n1
          change ¬ 0 < -nI b at n2
          change -nI b ≤ 0 at n3
          change ¬ 0 ≤ -nI b at n4
          repeat (first
            | exact trivial
            | (show False; contradiction)
            | exact ⟨fun _ => trivial, fun c => c rfl⟩
            | refine ⟨vin (by decide), ?_⟩
            | exact q_finO
            | refine q_wmT h1 ?_
            | refine q_wmT h2 ?_
            | refine q_take (fun f9 h9 => ?_)
            | refine q_wF ?_
            | refine q_wmF ?_
            | refine ⟨fun c => absurd c (by decide), fun _ => ?_⟩
            | refine ⟨fun _ => ?_, fun c => absurd c (by decide)⟩
            | refine Or.inl ⟨rfl, ?_⟩
            | refine Or.inr ⟨rfl, ?_⟩
            | refine ⟨rfl, ?_⟩
            | refine ⟨by decide, ?_⟩
            | refine ⟨100, ?_⟩
            | (refine fun x e => ?_; rw [if_pos (by decide)] at e; subst e)
            | (refine fun x e => ?_; rw [if_neg (by decide)] at e; subst e)
            | (refine fun x e => ?_; subst e)
            | refine ⟨fun _ => ?_, fun c => by contradiction⟩
            | refine ⟨fun c => by contradiction, fun _ => ?_⟩)
    ·
      repeat (first
        | exact trivial
        | (show False; (first | contradiction | (exfalso; simp only [Int32.lt_iff_toInt_lt, Int32.le_iff_toInt_le, ← Int32.toInt_inj, q_t0, q_t1, q_t2, q_t3, q_t5, q_t7, q_t9, q_t11, q_t12, q_t16, q_t20, q_t31, q_t60, q_t96, q_t99, q_t999, q_tm] at *; omega)))
        | exact ⟨fun _ => trivial, fun c => c rfl⟩
        | refine ⟨vin (by decide), ?_⟩
        | refine q_take (fun f9 h9 => ?_)
        | refine q_wF ?_
        | refine q_wmF ?_
        | refine ⟨fun c => absurd c (by decide), fun _ => ?_⟩
        | refine ⟨fun _ => ?_, fun c => absurd c (by decide)⟩
        | refine Or.inl ⟨rfl, ?_⟩
        | refine Or.inr ⟨rfl, ?_⟩
        | refine ⟨rfl, ?_⟩
        | refine ⟨by decide, ?_⟩
        | refine ⟨100, ?_⟩
        | (refine fun x e => ?_; rw [if_pos (by decide)] at e; subst e)
        | (refine fun x e => ?_; rw [if_neg (by decide)] at e; subst e)
        | (refine fun x e => ?_; subst e)
        | refine ⟨fun _ => ?_, fun c => by (first | contradiction | (exfalso; simp only [Int32.lt_iff_toInt_lt, Int32.le_iff_toInt_le, ← Int32.toInt_inj, q_t0, q_t1, q_t2, q_t3, q_t5, q_t7, q_t9, q_t11, q_t12, q_t16, q_t20, q_t31, q_t60, q_t96, q_t99, q_t999, q_tm] at *; omega))⟩
        | refine ⟨fun c => by (first | contradiction | (exfalso; simp only [Int32.lt_iff_toInt_lt, Int32.le_iff_toInt_le, ← Int32.toInt_inj, q_t0, q_t1, q_t2, q_t3, q_t5, q_t7, q_t9, q_t11, q_t12, q_t16, q_t20, q_t31, q_t60, q_t96, q_t99, q_t999, q_tm] at *; omega)), fun _ => ?_⟩
        | refine ⟨fun c => ?_, fun c => ?_⟩
        | refine ⟨fun c => ?_, ?_⟩
        | (refine fun c => ?_; (first | contradiction | (exfalso; simp only [Int32.lt_iff_toInt_lt, Int32.le_iff_toInt_le, ← Int32.toInt_inj, q_t0, q_t1, q_t2, q_t3, q_t5, q_t7, q_t9, q_t11, q_t12, q_t16, q_t20, q_t31, q_t60, q_t96, q_t99, q_t999, q_tm] at *; omega)))
        | (refine fun c => ?_; subst c)
        | refine fun c => ?_)
  ·
    repeat (first
      | exact trivial
      | (show False; (first | contradiction | (exfalso; simp only [Int32.lt_iff_toInt_lt, Int32.le_iff_toInt_le, ← Int32.toInt_inj, q_t0, q_t1, q_t2, q_t3, q_t5, q_t7, q_t9, q_t11, q_t12, q_t16, q_t20, q_t31, q_t60, q_t96, q_t99, q_t999, q_tm] at *; omega)))
      | exact ⟨fun _ => trivial, fun c => c rfl⟩
      | refine ⟨vin (by decide), ?_⟩
      | refine q_take (fun f9 h9 => ?_)
      | refine q_wF ?_
      | refine q_wmF ?_
      | refine ⟨fun c => absurd c (by decide), fun _ => ?_⟩
      | refine ⟨fun _ => ?_, fun c => absurd c (by decide)⟩
      | refine Or.inl ⟨rfl, ?_⟩
      | refine Or.inr ⟨rfl, ?_⟩
      | refine ⟨rfl, ?_⟩
      | refine ⟨by decide, ?_⟩
      | refine ⟨100, ?_⟩
      | (refine fun x e => ?_; rw [if_pos (by decide)] at e; subst e)
      | (refine fun x e => ?_; rw [if_neg (by decide)] at e; subst e)
      | (refine fun x e => ?_; subst e)
      | refine ⟨fun _ => ?_, fun c => by (first | contradiction | (exfalso; simp only [Int32.lt_iff_toInt_lt, Int32.le_iff_toInt_le, ← Int32.toInt_inj, q_t0, q_t1, q_t2, q_t3, q_t5, q_t7, q_t9, q_t11, q_t12, q_t16, q_t20, q_t31, q_t60, q_t96, q_t99, q_t999, q_tm] at *; omega))⟩
      | refine ⟨fun c => by (first | contradiction | (exfalso; simp only [Int32.lt_iff_toInt_lt, Int32.le_iff_toInt_le, ← Int32.toInt_inj, q_t0, q_t1, q_t2, q_t3, q_t5, q_t7, q_t9, q_t11, q_t12, q_t16, q_t20, q_t31, q_t60, q_t96, q_t99, q_t999, q_tm] at *; omega)), fun _ => ?_⟩
      | refine ⟨fun c => ?_, fun c => ?_⟩
      | refine ⟨fun c => ?_, ?_⟩
      | (refine fun c => ?_; (first | contradiction | (exfalso; simp only [Int32.lt_iff_toInt_lt, Int32.le_iff_toInt_le, ← Int32.toInt_inj, q_t0, q_t1, q_t2, q_t3, q_t5, q_t7, q_t9, q_t11, q_t12, q_t16, q_t20, q_t31, q_t60, q_t96, q_t99, q_t999, q_tm] at *; omega)))
      | (refine fun c => ?_; subst c)
      | refine fun c => ?_)
