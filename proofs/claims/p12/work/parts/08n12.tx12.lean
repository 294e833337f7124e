/-! a down taken over: the reference's state, word by word -/
/-- the reference's row of a new March -/
def ni (h : Nat) (ha db : Nat → Int32) (j : Nat) : Int32 := if j = 66 then 1 else if 30 ≤ j then (if j < 66 then db (j - 30) else 0) else if j < 6 then (if j < h then ha (2 * j) else 0) else if j < 12 then (if j - 6 < h then ha (2 * (j - 6) + 1) else 0) else 0
abbrev sQ := Int32 → Int32 → Int32 → (Nat → Int32) → (Nat → Int32) → (Nat → Int32) → Int32 → Int32 → Int32 → Int32 → Int32 → (Nat → Int32) → (Nat → Int32) → Prop
section TS
variable {nf nh nx : Int32} {fo ha fx db : Nat → Int32} {Q : sQ}
theorem m_sets186 {a1 a2 a3 c1 c2 c3 c4 c5 : Int32} {g1 g2 g3 bk n0 : Nat → Int32} (hq : ∀ nw : Nat → Int32, (∀ j : Nat, j < 68 → nw j = if j = 66 then 1 else if 30 ≤ j ∧ j < 66 then db (j - 30) else n0 j) → Q a1 a2 a3 g1 g2 g3 c1 c2 c3 c4 c5 bk nw) :
    ∀ (k : Nat) (nw : Nat → Int32) (l1 : Int32) (i : Nat), l1.toInt = i → i ≤ 36 → (∀ j : Nat, j < 68 → nw j = if 30 ≤ j ∧ j < 30 + i then db (j - 30) else n0 j) → 36 - i < k → wl_X11_sets_186 nf nh nx fo ha fx db Q k a1 a2 a3 g1 g2 g3 c1 c2 c3 c4 c5 bk nw l1 := by
  intro k
  induction k with
  | zero => intro nw l1 i h1 h2 h3 h4; omega
  | succ k ih =>
    intro nw l1 i h1 h2 h3 h4
    refine ⟨fun c f22 e22 => hq f22 (fun j hj => ?_), fun c x23 e23 => ?_⟩
    · rw [t_le, t_36] at c
      have ei : i = 36 := by omega
      rw [e22, show (66 : Int32).toNatClampNeg = 66 by decide]
      by_cases z : j = 66
      · rw [z, pk_us, if_pos rfl]
      · rw [pk_un z, if_neg z, h3 j hj, ei]
    · rw [t_le, t_36] at c
      have e1 : x23.toInt = ((30 + i : Nat) : Int) := by rw [e23, t_add (by rw [t_30]; omega) (by rw [t_30]; omega), t_30, h1]; omega
      refine ⟨t_in (by omega) (by omega), fun x24 e24 => ⟨t_in (by omega) (by omega), fun f25 e25 x26 e26 => ?_⟩⟩
      have e2 : x26.toInt = ((i + 1 : Nat) : Int) := by rw [e26, t_inc (by omega), h1]; omega
      refine ih f25 x26 (i + 1) e2 (by omega) (fun j hj => ?_) (by omega)
      rw [e25, t_clamp e1]
      by_cases z : j = 30 + i
      · rw [z, pk_us, if_pos ⟨by omega, by omega⟩, e24, t_clamp h1, show 30 + i - 30 = i by omega]
      · rw [pk_un z, h3 j hj]
        by_cases z2 : 30 ≤ j ∧ j < 30 + i
        · rw [if_pos z2, if_pos ⟨z2.1, by omega⟩]
        · rw [if_neg z2, if_neg (by omega)]
theorem m_sets135 {a1 a2 a3 c1 c2 c3 c4 c5 : Int32} {g1 g2 g3 bk : Nat → Int32} {NH : Nat} (m1 : a2.toInt = NH) (m2 : NH ≤ 6) (hq : ∀ nw : Nat → Int32, (∀ j : Nat, j < 68 → nw j = ni NH g2 db j) → Q a1 a2 a3 g1 g2 g3 c1 c2 c3 c4 c5 bk nw) :
    ∀ (k : Nat) (nw : Nat → Int32) (l1 : Int32) (i : Nat), l1.toInt = i → i ≤ NH → (∀ j : Nat, j < 68 → nw j = if j < i then g2 (2 * j) else if 6 ≤ j ∧ j < 6 + i then g2 (2 * (j - 6) + 1) else 0) → 6 - i < k → wl_X11_sets_135 nf nh nx fo ha fx db Q k a1 a2 a3 g1 g2 g3 c1 c2 c3 c4 c5 bk nw l1 := by
  intro k
  induction k with
  | zero => intro nw l1 i h1 h2 h3 h4; omega
  | succ k ih =>
    intro nw l1 i h1 h2 h3 h4
    refine ⟨fun c => ⟨37, m_sets186 (n0 := nw) (fun n9 h9 => hq n9 (fun j hj => ?_)) 37 nw 0 0 t_0 (by omega) (fun j hj => by rw [if_neg (by omega)]) (by omega)⟩, fun c x11 e11 x12 e12 => ?_⟩
    · rw [t_le] at c
      have ei : i = NH := by omega
      rw [h9 j hj, h3 j hj, ei]
      unfold ni
      by_cases z1 : j = 66
      · rw [if_pos z1, if_pos z1]
      rw [if_neg z1, if_neg z1]
      by_cases z2 : 30 ≤ j
      · rw [if_pos z2]
        by_cases z3 : j < 66
        · rw [if_pos z3, if_pos ⟨z2, z3⟩]
        · rw [if_neg z3, if_neg (by omega), if_neg (by omega), if_neg (by omega)]
      rw [if_neg z2, if_neg (fun w => z2 w.1)]
      by_cases z4 : j < 6
      · rw [if_pos z4]
        by_cases z5 : j < NH
        · rw [if_pos z5, if_pos z5]
        · rw [if_neg z5, if_neg z5, if_neg (by omega)]
      rw [if_neg z4, if_neg (by omega)]
      by_cases z6 : j < 12
      · rw [if_pos z6]
        by_cases z7 : j - 6 < NH
        · rw [if_pos z7, if_pos ⟨by omega, by omega⟩]
        · rw [if_neg z7, if_neg (by omega)]
      · rw [if_neg z6, if_neg (by omega)]
    · rw [t_le] at c
      have b1 : x11.toInt = ((i : Nat) : Int) := by rw [e11, t_add (by rw [t_0]; omega) (by rw [t_0]; omega), t_0, h1]; omega
      have b2 : x12.toInt = ((2 * i : Nat) : Int) := by rw [e12]; exact t_dbl h1 (by omega)
      refine ⟨t_in (by omega) (by omega), fun x13 e13 => ⟨t_in (by omega) (by omega), fun f14 e14 x15 e15 x16 e16 x17 e17 => ?_⟩⟩
      have b3 : x15.toInt = ((6 + i : Nat) : Int) := by rw [e15, t_add (by rw [t_6]; omega) (by rw [t_6]; omega), t_6, h1]; omega
      have b4 : x17.toInt = ((2 * i + 1 : Nat) : Int) := by rw [e17]; exact t_dbl1 (by rw [e16]; exact t_dbl h1 (by omega)) (by omega)
      refine ⟨t_in (by omega) (by omega), fun x18 e18 => ⟨t_in (by omega) (by omega), fun f19 e19 x20 e20 => ?_⟩⟩
      have b5 : x20.toInt = ((i + 1 : Nat) : Int) := by rw [e20, t_inc (by omega), h1]; omega
      refine ih f19 x20 (i + 1) b5 (by omega) (fun j hj => ?_) (by omega)
      rw [e19, t_clamp b3]
      by_cases z : j = 6 + i
      · rw [z, pk_us, if_neg (by omega), if_pos ⟨by omega, by omega⟩, e18, t_clamp b4, show 6 + i - 6 = i by omega]
      · rw [pk_un z, e14, t_clamp b1]
        by_cases z2 : j = i
        · rw [z2, pk_us, if_pos (by omega), e13, t_clamp b2]
        · rw [pk_un z2, h3 j hj]
          by_cases z3 : j < i
          · rw [if_pos z3, if_pos (show j < i + 1 by omega)]
          · rw [if_neg z3, if_neg (show ¬ j < i + 1 by omega)]
            by_cases z4 : 6 ≤ j ∧ j < 6 + i
            · rw [if_pos z4, if_pos (show 6 ≤ j ∧ j < 6 + (i + 1) from ⟨z4.1, by omega⟩)]
            · rw [if_neg z4, if_neg (show ¬ (6 ≤ j ∧ j < 6 + (i + 1)) by omega)]
theorem m_sets114 {a1 a2 a3 c1 c2 c3 c4 c5 : Int32} {g1 g2 g3 bk : Nat → Int32} {NH : Nat} (m1 : a2.toInt = NH) (m2 : NH ≤ 6) (hq : ∀ nw : Nat → Int32, (∀ j : Nat, j < 68 → nw j = ni NH g2 db j) → Q a1 a2 a3 g1 g2 g3 c1 c2 c3 c4 c5 bk nw) :
    ∀ (k : Nat) (nw : Nat → Int32) (l1 : Int32) (i : Nat), l1.toInt = i → i ≤ 68 → (∀ j : Nat, j < i → nw j = 0) → 68 - i < k → wl_X11_sets_114 nf nh nx fo ha fx db Q k a1 a2 a3 g1 g2 g3 c1 c2 c3 c4 c5 bk nw l1 := by
  intro k
  induction k with
  | zero => intro nw l1 i h1 h2 h3 h4; omega
  | succ k ih =>
    intro nw l1 i h1 h2 h3 h4
    refine ⟨fun c => ⟨7, m_sets135 m1 m2 hq 7 nw 0 0 t_0 (by omega) (fun j hj => ?_) (by omega)⟩, fun c => ?_⟩
    · rw [t_le, t_68] at c
      rw [if_neg (by omega), if_neg (by omega)]
      exact h3 j (by omega)
    · rw [t_le, t_68] at c
      refine ⟨t_in (by omega) (by omega), fun f8 e8 x9 e9 => ?_⟩
      have e2 : x9.toInt = ((i + 1 : Nat) : Int) := by rw [e9, t_inc (by omega), h1]; omega
      refine ih f8 x9 (i + 1) e2 (by omega) (fun j hj => ?_) (by omega)
      rw [e8, t_clamp h1]
      by_cases z : j = i
      · rw [z, pk_us]
      · rw [pk_un z]; exact h3 j (by omega)
theorem m_sets93 {a1 a2 a3 c1 c2 c3 c4 c5 : Int32} {g1 g2 g3 nw : Nat → Int32} {NH : Nat} (m1 : a2.toInt = NH) (m2 : NH ≤ 6) (hq : ∀ bk nw : Nat → Int32, (∀ j : Nat, j < 8 → bk j = -1) → (∀ j : Nat, j < 68 → nw j = ni NH g2 db j) → Q a1 a2 a3 g1 g2 g3 c1 c2 c3 c4 c5 bk nw) :
    ∀ (k : Nat) (bk : Nat → Int32) (l1 : Int32) (i : Nat), l1.toInt = i → i ≤ 8 → (∀ j : Nat, j < i → bk j = -1) → 8 - i < k → wl_X11_sets_93 nf nh nx fo ha fx db Q k a1 a2 a3 g1 g2 g3 c1 c2 c3 c4 c5 bk nw l1 := by
  intro k
  induction k with
  | zero => intro bk l1 i h1 h2 h3 h4; omega
  | succ k ih =>
    intro bk l1 i h1 h2 h3 h4
    refine ⟨fun c => ⟨69, m_sets114 m1 m2 (fun n9 h9 => hq bk n9 (fun j hj => ?_) h9) 69 nw 0 0 t_0 (by omega) (fun j hj => by omega) (by omega)⟩, fun c => ?_⟩
    · rw [t_le, t_8] at c
      exact h3 j (by omega)
    · rw [t_le, t_8] at c
      refine ⟨t_in (by omega) (by omega), fun f5 e5 x6 e6 => ?_⟩
      have e2 : x6.toInt = ((i + 1 : Nat) : Int) := by rw [e6, t_inc (by omega), h1]; omega
      refine ih f5 x6 (i + 1) e2 (by omega) (fun j hj => ?_) (by omega)
      rw [e5, t_clamp h1]
      by_cases z : j = i
      · rw [z, pk_us]
      · rw [pk_un z]; exact h3 j (by omega)
theorem m_sets {a1 a2 a3 c1 c2 c3 c4 c5 : Int32} {g1 g2 g3 bk nw : Nat → Int32} {NH : Nat} (m1 : nh.toInt = NH) (m2 : NH ≤ 6) (hq : ∀ g1 g2 g3 bk nw : Nat → Int32, (∀ j : Nat, j < 16 → g1 j = fo j) → (∀ j : Nat, j < 12 → g2 j = ha j) → (∀ j : Nat, j < 8 → g3 j = fx j) → (∀ j : Nat, j < 8 → bk j = -1) → (∀ j : Nat, j < 68 → nw j = ni NH g2 db j) → Q nf nh nx g1 g2 g3 0 0 0 0 0 bk nw) : wq_X11_sets nf nh nx fo ha fx db a1 a2 a3 g1 g2 g3 c1 c2 c3 c4 c5 bk nw Q := by
  refine sf_X11_copies (by decide) (by decide) (fun t1 h1 => sf_X11_copies (by decide) (by decide) (fun t2 h2 => sf_X11_copies (by decide) (by decide) (fun t3 h3 => ⟨9, m_sets93 m1 m2 (fun b9 n9 q1 q2 => hq t1 t2 t3 b9 n9 (fun j hj => ?_) (fun j hj => ?_) (fun j hj => ?_) q1 q2) 9 bk 0 0 t_0 (by omega) (fun j hj => by omega) (by omega)⟩)))
  · rw [h1 j, t_16, if_pos (by omega)]
  · rw [h2 j, t_12, if_pos (by omega)]
  · rw [h3 j, t_8, if_pos (by omega)]
end TS
