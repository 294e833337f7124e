/-! the class's row on the first day, exactly -/
def rbF (k : Nat) (se sr : Nat → Int32) (j : Nat) : Int32 := if j = 0 then 1 else if 4 ≤ j ∧ j < 4 + k then se (j - 4) else if 10 ≤ j ∧ j < 10 + k then sr (j - 10) else 0
def rbG (k : Nat) (se sr db : Nat → Int32) (j : Nat) : Int32 := if 28 ≤ j ∧ j < 64 then db (j - 28) else rbF k se sr j
theorem c_begin {nh : Int32} {NH : Nat} {se sr db row0 : Nat → Int32} {Q : (Nat → Int32) → Prop} (eh : nh.toInt = (NH : Int)) (H6 : NH ≤ 6) (hq : ∀ row : Nat → Int32, (∀ j : Nat, j < 64 → row j = rbG NH se sr db j) → Q row) : wq_X1_begin nh db se sr row0 Q := by
  have t4 : (4 : Int32).toInt = 4 := by decide
  have t10 : (10 : Int32).toInt = 10 := by decide
  have c28 : (28 : Int32).toNatClampNeg = 28 := by decide
  have c36 : (36 : Int32).toNatClampNeg = 36 := by decide
  have in2 : ∀ (m : Nat) (r : Nat → Int32) (l3 : Int32) (k : Nat), l3.toInt = (k : Int) → k ≤ NH → (∀ j : Nat, j < 64 → r j = rbF k se sr j) → NH - k < m → wl_X1_begin_40 nh db se sr Q m r l3 := by
    intro m
    induction m with
    | zero => intro r l3 k h1 h2 h3 h4; omega
    | succ m ih =>
      intro r l3 k h1 h2 h3 h4
      refine ⟨fun c f6 e6 => hq f6 (fun j hj => ?_), fun c x7 e7 => ?_⟩
      · rw [t_le] at c
        rw [e6, t_c0, c28, c36, cp_at]
        unfold rbG
        by_cases z : 28 ≤ j ∧ j < 64
        · rw [if_pos (show 28 ≤ j ∧ j < 28 + 36 by omega), if_pos z]
        · rw [if_neg (show ¬ (28 ≤ j ∧ j < 28 + 36) by omega), if_neg z, h3 j hj, show k = NH by omega]
      · rw [t_le] at c
        have q7 : x7.toInt = ((4 + k : Nat) : Int) := by rw [e7, t_add (by rw [t4]; omega) (by rw [t4]; omega), t4]; omega
        refine ⟨t_in (by omega) (by omega), fun x8 e8 => ⟨t_in (by omega) (by omega), fun f9 e9 x10 e10 => ?_⟩⟩
        have q10 : x10.toInt = ((10 + k : Nat) : Int) := by rw [e10, t_add (by rw [t10]; omega) (by rw [t10]; omega), t10]; omega
        refine ⟨t_in (by omega) (by omega), fun x11 e11 => ⟨t_in (by omega) (by omega), fun f12 e12 x13 e13 => ih f12 x13 (k + 1) (by rw [e13, t_inc (by omega), h1]; omega) (by omega) (fun j hj => ?_) (by omega)⟩⟩
        rw [t_clamp h1] at e8 e11
        rw [t_clamp q7] at e9
        rw [t_clamp q10] at e12
        rw [e12]
        unfold rbF
        by_cases z : j = 10 + k
        · rw [z, pk_us, e11, if_neg (show ¬ (10 + k = 0) by omega), if_neg (show ¬ (4 ≤ 10 + k ∧ 10 + k < 4 + (k + 1)) by omega), if_pos (show 10 ≤ 10 + k ∧ 10 + k < 10 + (k + 1) by omega), show 10 + k - 10 = k by omega]
        · rw [pk_un z, e9]
          by_cases y : j = 4 + k
          · rw [y, pk_us, e8, if_neg (show ¬ (4 + k = 0) by omega), if_pos (show 4 ≤ 4 + k ∧ 4 + k < 4 + (k + 1) by omega), show 4 + k - 4 = k by omega]
          · rw [pk_un y, h3 j hj]
            unfold rbF
            by_cases y0 : j = 0
            · rw [if_pos y0, if_pos y0]
            · rw [if_neg y0, if_neg y0]
              by_cases y1 : 4 ≤ j ∧ j < 4 + k
              · rw [if_pos y1, if_pos (show 4 ≤ j ∧ j < 4 + (k + 1) by omega)]
              · rw [if_neg y1, if_neg (show ¬ (4 ≤ j ∧ j < 4 + (k + 1)) by omega)]
                by_cases y2 : 10 ≤ j ∧ j < 10 + k
                · rw [if_pos y2, if_pos (show 10 ≤ j ∧ j < 10 + (k + 1) by omega)]
                · rw [if_neg y2, if_neg (show ¬ (10 ≤ j ∧ j < 10 + (k + 1)) by omega)]
  have in1 : ∀ (m : Nat) (r : Nat → Int32) (l3 : Int32) (k : Nat), l3.toInt = (k : Int) → k ≤ 64 → (∀ j : Nat, j < k → r j = 0) → 64 - k < m → wl_X1_begin_12 nh db se sr Q m r l3 := by
    intro m
    induction m with
    | zero => intro r l3 k h1 h2 h3 h4; omega
    | succ m ih =>
      intro r l3 k h1 h2 h3 h4
      refine ⟨fun c f2 e2 => ⟨7, in2 7 f2 0 0 t_0 (by omega) (fun j hj => ?_) (by omega)⟩, fun c => ⟨t_in (by omega) (by rw [t_le, t_64] at c; omega), fun f3 e3 x4 e4 => ih f3 x4 (k + 1) (by rw [t_le, t_64] at c; rw [e4, t_inc (by omega), h1]; omega) (by rw [t_le, t_64] at c; omega) (fun j hj => ?_) (by rw [t_le, t_64] at c; omega)⟩⟩
      · rw [t_le, t_64] at c
        rw [t_c0] at e2
        rw [e2]
        unfold rbF
        by_cases z : j = 0
        · rw [z, pk_us, if_pos rfl]
        · rw [pk_un z, h3 j (by omega), if_neg z, if_neg (by omega), if_neg (by omega)]
      · rw [t_clamp h1] at e3
        rw [e3]
        by_cases z : j = k
        · rw [z, pk_us]
        · rw [pk_un z]; exact h3 j (by omega)
  exact ⟨65, in1 65 row0 0 0 t_0 (by omega) (fun j hj => absurd hj (Nat.not_lt_zero j)) (by omega)⟩
