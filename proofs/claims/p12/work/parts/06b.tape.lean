theorem sf_X10_within {p a b : Int32} {Q : Int32 → Prop} (h0 : p.toInt < a.toInt ∨ b.toInt < p.toInt → Q 0) (h1 : a.toInt ≤ p.toInt → p.toInt ≤ b.toInt → Q 1) : wq_X10_within p a b Q :=
  ⟨fun c => h0 (Or.inl (t_lt.mp c)), fun c => ⟨fun c2 => h0 (Or.inr (t_lt.mp c2)), fun c2 => h1 (Int.not_lt.mp (fun h => c (t_lt.mpr h))) (Int.not_lt.mp (fun h => c2 (t_lt.mpr h)))⟩⟩
theorem sf_X10_needWithin {v p a b : Int32} {E : String → Int32 → Prop} {Q : Int32 → Prop} (he : E "java/lang/IllegalArgumentException" (v + 1)) (hq : a.toInt ≤ p.toInt → p.toInt ≤ b.toInt → Q v) : wq_X10_needWithin v p a b E Q :=
  sf_X10_within (fun _ => ⟨fun c => absurd rfl c, fun _ x2 e2 => by rw [e2]; exact he⟩) (fun h1 h2 => ⟨fun _ => hq h1 h2, fun c => absurd c (by decide)⟩)
section Num
variable {len l1 l2 : Int32} {f : Nat → Int32} {Q : Int32 → Int32 → Int32 → Int32 → Int32 → Prop} {fa fp tk : Int32}
theorem sb_num97 {a v : Int32} (hq : ∀ f2 fp2 : Int32, (f2 = 0 → fa = 0 ∧ l1.toInt ≤ v.toInt ∧ v.toInt ≤ l2.toInt) → (f2 = fa ∨ f2 = 2) → Q v a f2 fp2 tk) : wb_X8_number_97 len f Q a fa fp tk l1 l2 v := by
  refine sf_X10_within (fun _ => ⟨fun c => absurd rfl c, fun _ => sf_X8_blame (fun c => hq fa fp (fun c2 => absurd c2 c) (Or.inl rfl)) (fun _ => hq 2 tk (fun c => absurd c (by decide)) (Or.inr rfl))⟩) (fun h1 h2 => ⟨fun _ => hq fa fp (fun c => ⟨c, h1, h2⟩) (Or.inl rfl), fun c => absurd c (by decide)⟩)
theorem sl_num (hl : len.toInt ≤ 600) (hq : ∀ r a f2 fp2 : Int32, 0 ≤ a.toInt → a.toInt ≤ 600 → (f2 = 0 → fa = 0 ∧ l1.toInt ≤ r.toInt ∧ r.toInt ≤ l2.toInt) → (f2 = fa ∨ f2 = 2) → Q r a f2 fp2 tk) :
    ∀ (k : Nat) (a v : Int32), 0 ≤ a.toInt → a.toInt ≤ 600 → 600 - a.toInt < k → wl_X8_number_43 len f Q k a fa fp tk l1 l2 v := by
  intro k
  induction k with
  | zero => intro a v h0 h1 h2; omega
  | succ k ih =>
    intro a v h0 h1 h2
    have hb : wb_X8_number_97 len f Q a fa fp tk l1 l2 v := sb_num97 (fun f2 fp2 h3 h4 => hq v a f2 fp2 h0 h1 h3 h4)
    refine ⟨fun _ => hb, fun c => sf_X8_digitAt hl h0 (fun r9 _ _ => ⟨fun _ => hb, fun _ => sf_X8_digitAt hl h0 (fun r11 _ _ x12 _ x13 e13 => ?_)⟩)⟩
    rw [t_le] at c
    have e : x13.toInt = a.toInt + 1 := by rw [e13]; exact t_inc (by omega)
    exact ih x13 x12 (by omega) (by omega) (by omega)
theorem sf_X8_number {a : Int32} (hl : len.toInt ≤ 600) (h0 : 0 ≤ a.toInt) (h1 : a.toInt ≤ 600)
    (hq : ∀ r a f2 fp2 t2 : Int32, 0 ≤ a.toInt → a.toInt ≤ 600 → (f2 = 0 → fa = 0 ∧ l1.toInt ≤ r.toInt ∧ r.toInt ≤ l2.toInt) → (f2 = fa ∨ f2 = 1 ∨ f2 = 2) → (t2 = tk ∨ 0 ≤ t2.toInt ∧ t2.toInt ≤ 600) → Q r a f2 fp2 t2) : wq_X8_number len f a fa fp tk l1 l2 Q := by
  have h24 : ∀ x1 f4 p4 : Int32, 0 ≤ x1.toInt → x1.toInt ≤ 600 → (f4 = fa ∨ f4 = 1) → (f4 = 0 → fa = 0) → wb_X8_number_24 len f Q x1 f4 p4 tk l1 l2 := by
    intro x1 f4 p4 g0 g1 g2 g3
    refine sf_X8_isFaulty (fun c => ⟨fun _ => ⟨601, sl_num hl (fun r a2 f2 fp2 k0 k1 k2 k3 => ?_) 601 x1 0 g0 g1 (by omega)⟩, fun c => absurd rfl c⟩) (fun c => ⟨fun c2 => absurd c2 (by decide), fun _ => ?_⟩)
    · refine hq r a2 f2 fp2 x1 k0 k1 (fun z => ⟨g3 (k2 z).1, (k2 z).2⟩) ?_ (Or.inr ⟨g0, g1⟩)
      rcases k3 with k3 | k3
      · rcases g2 with g2 | g2
        · exact Or.inl (k3.trans g2)
        · exact Or.inr (Or.inl (k3.trans g2))
      · exact Or.inr (Or.inr k3)
    · exact hq 0 x1 f4 p4 tk g0 g1 (fun z => absurd z c) (g2.elim Or.inl (fun z => Or.inr (Or.inl z))) (Or.inl rfl)
  refine sf_X8_skipBlanks hl h0 h1 (fun x1 g0 g1 => sf_X8_digitAt hl g0 (fun r2 _ _ => ⟨fun _ => h24 x1 fa fp g0 g1 (Or.inl rfl) id, fun _ => sf_X8_blame (fun c => h24 x1 fa fp g0 g1 (Or.inl rfl) id) (fun c => h24 x1 1 x1 g0 g1 (Or.inr rfl) (fun z => absurd z (by decide)))⟩))
end Num
theorem sf_X8_takes {len fa a tk p : Int32} {f : Nat → Int32} {Q : Int32 → Int32 → Int32 → Prop} (hl : len.toInt ≤ 600) (h0 : 0 ≤ a.toInt) (h1 : a.toInt ≤ 600)
    (hq0 : ∀ x : Int32, 0 ≤ x.toInt → x.toInt ≤ 600 → Q 0 x tk) (hq1 : ∀ x t : Int32, 0 ≤ x.toInt → x.toInt ≤ 600 → 0 ≤ t.toInt → t.toInt ≤ 600 → fa = 0 → Q 1 x t) : wq_X8_takes len fa f a tk p Q := by
  refine sf_X8_skipBlanks hl h0 h1 (fun x1 g0 g1 => sf_X8_isFaulty (fun c => ⟨fun c2 => absurd rfl c2, fun _ => ⟨fun _ => hq0 x1 g0 g1, fun c3 => ?_⟩⟩) (fun c => ⟨fun _ => hq0 x1 g0 g1, fun c2 => absurd c2 (by decide)⟩))
  rw [t_le] at c3
  refine ⟨t_in g0 (by omega), fun x5 _ => ⟨fun _ x7 e7 => ?_, fun _ => hq0 x1 g0 g1⟩⟩
  have e : x7.toInt = x1.toInt + 1 := by rw [e7]; exact t_inc (by omega)
  exact hq1 x7 x1 (by omega) (by omega) g0 g1 c
theorem sf_X8_blameSign {len a fa fp : Int32} {f : Nat → Int32} {Q : Int32 → Int32 → Int32 → Prop} (hl : len.toInt ≤ 600) (h0 : 0 ≤ a.toInt) (h1 : a.toInt ≤ 600)
    (hq : ∀ x f2 p2 : Int32, 0 ≤ x.toInt → x.toInt ≤ 600 → ¬ f2 = 0 → (f2 = fa ∨ f2 = 1) → Q x f2 p2) : wq_X8_blameSign len f a fa fp Q :=
  sf_X8_skipBlanks hl h0 h1 (fun x g0 g1 => sf_X8_blame (fun c => hq x fa fp g0 g1 c (Or.inl rfl)) (fun _ => hq x 1 x g0 g1 (by decide) (Or.inr rfl)))
theorem sf_X8_needs {len a tk fa fp p : Int32} {f : Nat → Int32} {Q : Int32 → Int32 → Int32 → Int32 → Prop} (hl : len.toInt ≤ 600) (h0 : 0 ≤ a.toInt) (h1 : a.toInt ≤ 600)
    (hq : ∀ x t f2 p2 : Int32, 0 ≤ x.toInt → x.toInt ≤ 600 → (t = tk ∨ 0 ≤ t.toInt ∧ t.toInt ≤ 600) → (f2 = 0 → fa = 0) → (f2 = fa ∨ f2 = 1) → Q x t f2 p2) : wq_X8_needs len f a tk fa fp p Q :=
  sf_X8_takes hl h0 h1 (fun x g0 g1 => ⟨fun c => absurd rfl c, fun _ => sf_X8_blameSign hl g0 g1 (fun x2 f2 p2 k0 k1 k2 k3 => hq x2 tk f2 p2 k0 k1 (Or.inl rfl) (fun z => absurd z k2) k3)⟩) (fun x t g0 g1 g2 g3 g4 => ⟨fun _ => hq x t fa fp g0 g1 (Or.inr ⟨g2, g3⟩) id (Or.inl rfl), fun c => absurd c (by decide)⟩)
theorem sf_X8_needsEnd {len a fa fp : Int32} {f : Nat → Int32} {Q : Int32 → Int32 → Int32 → Prop} (hl : len.toInt ≤ 600) (h0 : 0 ≤ a.toInt) (h1 : a.toInt ≤ 600)
    (hq : ∀ x f2 p2 : Int32, 0 ≤ x.toInt → x.toInt ≤ 600 → (f2 = 0 → fa = 0) → (f2 = fa ∨ f2 = 1) → Q x f2 p2) : wq_X8_needsEnd len f a fa fp Q :=
  sf_X8_isEnded hl h0 h1 (fun r x g0 g1 _ => ⟨fun _ => hq x fa fp g0 g1 id (Or.inl rfl), fun _ => sf_X8_blameSign hl g0 g1 (fun x2 f2 p2 k0 k1 k2 k3 => hq x2 f2 p2 k0 k1 (fun z => absurd z k2) k3)⟩)
theorem sf_X8_seesDigit {len a : Int32} {f : Nat → Int32} {Q : Int32 → Int32 → Prop} (hl : len.toInt ≤ 600) (h0 : 0 ≤ a.toInt) (h1 : a.toInt ≤ 600) (hq : ∀ r x : Int32, 0 ≤ x.toInt → x.toInt ≤ 600 → Q r x) : wq_X8_seesDigit len f a Q :=
  sf_X8_skipBlanks hl h0 h1 (fun x g0 g1 => sf_X8_digitAt hl g0 (fun r _ _ => ⟨fun _ => hq 0 x g0 g1, fun _ => hq 1 x g0 g1⟩))
theorem sf_X8_isLetter {len p : Int32} {f : Nat → Int32} {Q : Int32 → Prop} (hl : len.toInt ≤ 600) (h0 : 0 ≤ p.toInt) (q0 : Q 0) (q1 : p.toInt < len.toInt → Q 1) : wq_X8_isLetter len f p Q := by
  refine ⟨fun _ => q0, fun c => ?_⟩
  rw [t_le] at c
  exact ⟨t_in h0 (by omega), fun _ _ => ⟨fun _ => q0, fun _ => ⟨t_in h0 (by omega), fun _ _ => ⟨fun _ => q0, fun _ => q1 (by omega)⟩⟩⟩⟩
theorem t_test {a b c x y : Int32} (h1 : 0 ≤ a) (h2 : a < b) (h3 : b ≤ 600) (e : x = a + 1) (e2 : y = x - 2) : vp_in (y + 1) 600 := by
  rw [vp_in_iff]
  simp only [t_lt, t_le, t_eq, Int32.toInt_add, Int32.toInt_sub, Int.bmod, t_0, t_1, show (2 : Int32).toInt = 2 by decide, show (600 : Int32).toInt = 600 by decide] at *
  omega
