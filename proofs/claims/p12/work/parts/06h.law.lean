theorem t_150 : (150 : Int32).toInt = 150 := by decide
theorem t_2 : (2 : Int32).toInt = 2 := by decide
/-- a law in its row: its length, and that a fact is one of the eight -/
def sLaw (n : Int32) (kd vl : Nat → Int32) : Prop := 0 ≤ n.toInt ∧ n.toInt ≤ 150 ∧ ∀ j : Nat, (j : Int) < n.toInt → kd j = 1 → 0 ≤ (vl j).toInt ∧ (vl j).toInt < 8
theorem sf_X4_add {kd vl : Nat → Int32} {n p q : Int32} {Q : (Nat → Int32) → (Nat → Int32) → Int32 → Prop} (hs : sLaw n kd vl) (hp : p = 1 → 0 ≤ q.toInt ∧ q.toInt < 8) (hq : ∀ kd vl n, sLaw n kd vl → Q kd vl n) : wq_X4_add kd vl n p q Q := by
  obtain ⟨h0, h1, h2⟩ := hs
  refine ⟨fun _ => hq _ _ _ ⟨h0, h1, h2⟩, fun c => ?_⟩
  rw [t_le, t_150] at c
  refine ⟨t_in h0 (by omega), fun f2 e2 => ⟨t_in h0 (by omega), fun f3 e3 x4 e4 => hq _ _ _ ?_⟩⟩
  have e : x4.toInt = n.toInt + 1 := by rw [e4]; exact t_inc (by omega)
  have hn := t_nat h0
  refine ⟨by omega, by omega, fun j hj hk => ?_⟩
  by_cases hjn : j = n.toNatClampNeg
  · rw [e2, hjn, pk_us] at hk
    rw [e3, hjn, pk_us]
    exact hp hk
  · rw [e2, pk_un hjn] at hk
    rw [e3, pk_un hjn]
    exact h2 j (by omega) hk
theorem sf_X4_setPlain {kd vl : Nat → Int32} {n : Int32} {Q : Int32 → (Nat → Int32) → (Nat → Int32) → Prop} (hq : ∀ kd vl n, sLaw n kd vl → Q n kd vl) : wq_X4_setPlain n kd vl Q :=
  sf_X4_add ⟨by decide, by decide, fun j hj => by rw [t_0] at hj; omega⟩ (fun c => absurd c (by decide)) (fun _ _ _ h1 => sf_X4_add h1 (fun _ => by decide) (fun _ _ _ h2 => sf_X4_add h2 (fun c => absurd c (by decide)) (fun _ _ _ h3 => sf_X4_add h3 (fun _ => by decide) (fun _ _ _ h4 => sf_X4_add h4 (fun c => absurd c (by decide)) (fun _ _ _ h5 => hq _ _ _ h5)))))
theorem sf_X4_joined {k a b : Int32} {Q : Int32 → Prop} (hq : ∀ r, Q r) : wq_X4_joined k a b Q :=
  ⟨fun _ => ⟨fun _ => hq _, fun _ => hq _⟩, fun _ => hq _, fun _ => hq _, fun _ => hq _, fun _ => ⟨fun c => ⟨c, fun _ _ => hq _⟩, fun _ => hq _⟩, fun _ => ⟨fun c => ⟨c, fun _ _ => hq _⟩, fun _ => hq _⟩, fun _ => ⟨fun _ => hq _, fun _ => hq _⟩⟩
section Rc
variable {n : Int32} {kd vl fc : Nat → Int32} {Q : Int32 → (Nat → Int32) → Prop}
theorem sl_X4_reach (hs : sLaw n kd vl) (hq : ∀ (r : Int32) (pl : Nat → Int32), 0 ≤ r.toInt → r.toInt ≤ 60 → Q r pl) : ∀ (k : Nat) (pl : Nat → Int32) (t i : Int32), 0 ≤ t.toInt → t.toInt ≤ i.toInt → i.toInt ≤ 150 → 150 - i.toInt < k → wl_X4_reach_4 n kd vl fc Q k pl t i := by
  obtain ⟨s0, s1, s2⟩ := hs
  have hend : ∀ (pl : Nat → Int32) (v : Int32), wb_X4_reach_118 n kd vl fc Q pl v := fun pl v x15 e15 x16 e16 => by
    have h15 : x15.toInt ≤ 60 := by
      rw [e15]
      by_cases c : v < 60
      · rw [if_pos c]; rw [t_lt, t_60] at c; omega
      · rw [if_neg c, t_60]; omega
    have h16 : 0 ≤ x16.toInt ∧ x16.toInt ≤ 60 := by
      rw [e16]
      by_cases c : 0 < x15
      · rw [if_pos c]; rw [t_lt, t_0] at c; omega
      · rw [if_neg c, t_0]; omega
    exact hq x16 pl h16.1 h16.2
  intro k
  induction k with
  | zero => intro pl t i h0 h1 h2 h3; omega
  | succ k ih =>
    intro pl t i h0 h1 h2 h3
    refine ⟨fun _ => ⟨fun _ => hend _ _, fun _ x3 _ => hend _ _⟩, fun c => ?_⟩
    rw [t_le] at c
    have hn := t_nat (x := i) (by omega)
    have go : ∀ (pl : Nat → Int32) (t2 x21 : Int32), 0 ≤ t2.toInt → t2.toInt ≤ i.toInt + 1 → x21 = i + 1 → wl_X4_reach_4 n kd vl fc Q k pl t2 x21 := fun pl t2 x21 g0 g1 e21 => by
      have e : x21.toInt = i.toInt + 1 := by rw [e21]; exact t_inc (by omega)
      exact ih pl t2 x21 g0 (by omega) (by omega) (by omega)
    have put : ∀ v : Int32, wb_X4_reach_57 n kd vl fc Q (fun pl t i => wl_X4_reach_4 n kd vl fc Q k pl t i) pl t i t v := fun v => ⟨t_in h0 (by omega), fun f22 _ x23 e23 x21 e21 => by
      have e : x23.toInt = t.toInt + 1 := by rw [e23]; exact t_inc (by omega)
      exact go f22 x23 x21 (by omega) (by omega) e21⟩
    have b28 : ∀ x4 : Int32, x4 = kd i.toNatClampNeg → x4 = 0 ∨ x4 = 1 → wb_X4_reach_28 n kd vl fc Q (fun pl t i => wl_X4_reach_4 n kd vl fc Q k pl t i) pl t i x4 := fun x4 e4 hx => by
      refine ⟨fun c4 => ⟨t_in (by omega) (by omega), fun x18 e18 => ?_⟩, fun c4 => ⟨t_in (by omega) (by omega), fun x20 _ => put x20⟩⟩
      have h18 := s2 i.toNatClampNeg (by omega) (by rw [← e4]; exact hx.resolve_left c4)
      rw [← e18] at h18
      exact ⟨t_in h18.1 h18.2, fun x19 _ => put x19⟩
    refine ⟨t_in (by omega) (by omega), fun x4 e4 => ⟨fun c4 => b28 x4 e4 (Or.inl c4), fun c4 => ⟨fun c5 => ⟨fun _ x21 e21 => go pl t x21 h0 (by omega) e21, fun c6 x8 e8 x9 e9 x10 e10 => ?_⟩, fun c5 => b28 x4 e4 (Or.inr c5)⟩⟩⟩
    rw [t_lt, t_2] at c6
    have a8 : x8.toInt = t.toInt - 1 := by rw [e8, t_add (by rw [t_m1]; omega) (by rw [t_m1]; omega), t_m1]; omega
    have a9 : x9.toInt = t.toInt - 2 := by rw [e9, t_pred (by omega)]; omega
    have a10 : x10.toInt = t.toInt - 2 := by rw [e10, t_pred (by omega)]; omega
    refine ⟨t_in (by omega) (by omega), fun _ _ => ⟨t_in (by omega) (by omega), fun _ _ => sf_X4_joined (fun r13 => ⟨t_in (by omega) (by omega), fun f14 _ x21 e21 => go f14 x8 x21 (by omega) (by omega) e21⟩)⟩⟩
theorem sf_X4_reach {pl : Nat → Int32} (hs : sLaw n kd vl) (hq : ∀ (r : Int32) (pl : Nat → Int32), 0 ≤ r.toInt → r.toInt ≤ 60 → Q r pl) : wq_X4_reach n kd vl fc pl Q := ⟨151, sl_X4_reach hs hq 151 pl 0 0 (by decide) (by decide) (by decide) (by decide)⟩
end Rc
theorem sf_X4_setFacts {f : Nat → Int32} {a b c d e : Int32} {Q : (Nat → Int32) → Prop} (hq : ∀ f, Q f) : wq_X4_setFacts f a b c d e Q := fun _ _ _ _ _ _ _ _ _ _ => hq _
theorem sf_X4_setTimes {f : Nat → Int32} {a b c : Int32} {Q : (Nat → Int32) → Prop} (hq : ∀ f, Q f) : wq_X4_setTimes f a b c Q := fun _ _ _ _ _ _ => hq _
