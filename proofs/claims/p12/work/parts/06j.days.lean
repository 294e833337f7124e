theorem sf_bitCount {p : Int32} {Q : Int32 → Prop} (hq : ∀ r, Q r) : wq_J6_bitCount_0f7a4 p Q := by
  unfold wq_J6_bitCount_0f7a4
  intros
  apply hq
section D2
variable {row kd vl fc pl X Y : Nat → Int32} {p h n ln : Int32}
theorem sf_X1_reach {Q : Int32 → (Nat → Int32) → (Nat → Int32) → Prop} (h6 : h.toInt ≤ 6) (p0 : 0 ≤ p.toInt) (p1 : p.toInt < 6) (hw : sLaw ln kd vl) (hq : ∀ (r : Int32) (fc pl : Nat → Int32), 0 ≤ r.toInt → r.toInt ≤ 60 → Q r fc pl) : wq_X1_reach row h ln kd vl fc pl p Q :=
  sf_X1_sits p0 p1 (fun _ _ => sf_X1_seatedIn h6 (fun _ => sf_bitCount (fun _ => sf_X1_strong p0 p1 (fun _ => sf_X1_still p0 p1 (fun _ => sf_X1_owes h6 p0 p1 (fun _ => sf_X1_owed h6 p0 p1 (fun _ => sf_X4_setFacts (fun _ _ _ => sf_X1_leaps p0 p1 (fun _ => sf_X4_setTimes (fun _ => sf_X4_reach hw (fun r pl g0 g1 => hq r _ pl g0 g1)))))))))))
theorem sf_X1_couldLeap {q : Int32} {Q : Int32 → (Nat → Int32) → (Nat → Int32) → Prop} (h6 : h.toInt ≤ 6) (n8 : n.toInt ≤ 8) (hs : sSits h n row) (p0 : 0 ≤ p.toInt) (p1 : p.toInt < h.toInt) (q0 : 0 ≤ q.toInt) (q1 : q.toInt < n.toInt) (hw : sLaw ln kd vl) (hq : ∀ (r : Int32) (fc pl : Nat → Int32), r = 0 ∨ r = 1 → Q r fc pl) : wq_X1_couldLeap row h X Y ln kd vl fc pl p q Q := by
  have hn := t_nat p0
  refine sf_X1_isCaught ⟨fun c => absurd rfl c, fun _ => sf_X1_sits p0 (by omega) (fun r3 _ => ⟨fun _ => hq _ _ _ (Or.inl rfl), fun _ => sf_X1_sits p0 (by omega) (fun r5 e5 => ?_)⟩)⟩ ⟨fun _ => hq _ _ _ (Or.inl rfl), fun c => absurd c (by decide)⟩
  have h5 := hs p.toNatClampNeg (by omega)
  rw [← e5] at h5
  exact sf_X2_apart h5.1 (by omega) q0 (by omega) (fun _ => sf_X1_reach h6 p0 (by omega) hw (fun r9 f7 f8 _ _ => ⟨fun _ => hq _ _ _ (Or.inl rfl), fun _ => hq _ _ _ (Or.inr rfl)⟩))
theorem sf_X1_leapable {Q : Int32 → (Nat → Int32) → (Nat → Int32) → Prop} (h6 : h.toInt ≤ 6) (n8 : n.toInt ≤ 8) (hs : sSits h n row) (p0 : 0 ≤ p.toInt) (p1 : p.toInt < h.toInt) (hw : sLaw ln kd vl) (hq : ∀ (r : Int32) (fc pl : Nat → Int32), Q r fc pl) : wq_X1_leapable row n h ln kd vl X Y fc pl p Q := by
  have hn := t_nat p0
  refine sf_X1_isCaught ⟨fun _ => sf_X1_sits p0 (by omega) (fun r3 e3 => ?_), fun c => absurd rfl c⟩ ⟨fun c => absurd c (by decide), fun _ => hq _ _ _⟩
  have h5 := hs p.toNatClampNeg (by omega)
  rw [← e3] at h5
  exact sf_X1_reach h6 p0 (by omega) hw (fun r6 f4 f5 _ _ => sf_X2_formsWithin n8 h5.1 (by omega) (fun _ => sf_X1_sits p0 (by omega) (fun _ _ => hq _ _ _)))
theorem sf_X1_couldFight {q : Int32} {Q : Int32 → Prop} (p0 : 0 ≤ p.toInt) (p1 : p.toInt < 6) (q0 : 0 ≤ q.toInt) (q1 : q.toInt < 6) (h0 : Q 0) (h1 : Q 1) : wq_X1_couldFight row p q Q :=
  ⟨fun _ => h0, fun _ => sf_X1_isCaught ⟨fun c => absurd rfl c, fun _ => sf_X1_isCaught ⟨fun c => absurd rfl c, fun _ => sf_X1_sits p0 p1 (fun _ _ => sf_X1_sits q0 q1 (fun _ _ => ⟨fun _ => h0, fun _ => h1⟩))⟩ ⟨fun _ => h0, fun c => absurd c (by decide)⟩⟩ ⟨fun _ => h0, fun c => absurd c (by decide)⟩⟩
theorem sf_X1_couldPay {q m : Int32} {Q : Int32 → Prop} (p0 : 0 ≤ p.toInt) (p1 : p.toInt < 6) (q0 : 0 ≤ q.toInt) (q1 : q.toInt < 6) (h0 : Q 0) (h1 : Q 1) : wq_X1_couldPay row p q m Q :=
  sf_X1_isCaught ⟨fun c => absurd rfl c, fun _ => sf_X1_isCaught ⟨fun c => absurd rfl c, fun _ => sf_X1_owesTo p0 p1 q0 q1 (fun _ => ⟨fun _ => h0, fun _ => h1⟩)⟩ ⟨fun _ => h0, fun c => absurd c (by decide)⟩⟩ ⟨fun _ => h0, fun c => absurd c (by decide)⟩
theorem sf_X1_payBack {q m : Int32} {Q : (Nat → Int32) → Prop} (h6 : h.toInt ≤ 6) (hs : sSits h n row) (p0 : 0 ≤ p.toInt) (p1 : p.toInt < 6) (q0 : 0 ≤ q.toInt) (q1 : q.toInt < 6) (hq : ∀ row, sSits h n row → Q row) : wq_X1_payBack row p q m Q := fun x1 e1 x2 e2 => by
  have e := t_debt p0 p1 q0 q1 e1 e2
  have b := t_nat (x := x2) (by omega)
  refine ⟨t_in (by omega) (by omega), fun _ _ _ _ => ⟨t_in (by omega) (by omega), fun f5 e5 => hq f5 ?_⟩⟩
  rw [e5]; exact sSits_upd hs h6 (by omega)
theorem sb_X1_fight18 {q s0 : Int32} {Q : (Nat → Int32) → Prop} (h6 : h.toInt ≤ 6) (hs : sSits h n row) (p0 : 0 ≤ p.toInt) (p1 : p.toInt < 6) (q0 : 0 ≤ q.toInt) (q1 : q.toInt < 6) (z0 : 0 ≤ s0.toInt) (z1 : s0.toInt < 6) (hq : ∀ row, sSits h n row → Q row) : wb_X1_fight_18 Q row p q s0 := fun x4 e4 => by
  have e : x4.toInt = 10 + s0.toInt := by rw [e4, t_add (by rw [t_10]; omega) (by rw [t_10]; omega), t_10]
  have b := t_nat (x := x4) (by omega)
  refine sf_X1_strong z0 z1 (fun r5 x6 _ => ⟨t_in (by omega) (by omega), fun f7 e7 => sf_X1_stir h6 (n := n) ?_ p0 p1 (fun f8 h8 => sf_X1_stir h6 h8 q0 q1 hq)⟩)
  rw [e7]; exact sSits_upd hs h6 (by omega)
theorem sf_X1_fight {q : Int32} {Q : (Nat → Int32) → Prop} (h6 : h.toInt ≤ 6) (hs : sSits h n row) (p0 : 0 ≤ p.toInt) (p1 : p.toInt < 6) (q0 : 0 ≤ q.toInt) (q1 : q.toInt < 6) (hq : ∀ row, sSits h n row → Q row) : wq_X1_fight row p q Q :=
  sf_X1_strong p0 p1 (fun _ => sf_X1_strong q0 q1 (fun _ => ⟨fun _ => sb_X1_fight18 h6 hs p0 p1 q0 q1 p0 p1 hq, fun _ => sb_X1_fight18 h6 hs p0 p1 q0 q1 q0 q1 hq⟩))
theorem sl_X1_strike {sf : Int32} {sr : Nat → Int32} {Q : (Nat → Int32) → Prop} (h6 : h.toInt ≤ 6) (hq : ∀ row, sSits h n row → Q row) : ∀ (k : Nat) (row : Nat → Int32) (t i : Int32), sSits h n row → 0 ≤ i.toInt → i.toInt ≤ 6 → 6 - i.toInt < k → wl_X1_strike_7 h sf sr Q k row t i := by
  intro k
  induction k with
  | zero => intro row t i hs i0 i1 i2; omega
  | succ k ih =>
    intro row t i hs i0 i1 i2
    refine ⟨fun _ => hq _ hs, fun c => ?_⟩
    rw [t_le] at c
    have go : ∀ (row : Nat → Int32) (x14 : Int32), sSits h n row → x14 = i + 1 → wl_X1_strike_7 h sf sr Q k row t x14 := fun row x14 hs e14 => by
      have e : x14.toInt = i.toInt + 1 := by rw [e14]; exact t_inc (by omega)
      exact ih row t x14 hs (by omega) (by omega) (by omega)
    refine sf_X10_holds ⟨fun _ x5 e5 => ?_, fun c => absurd rfl c⟩ ⟨fun c => absurd c (by decide), fun _ x10 _ x11 _ f12 e12 => ?_⟩
    · have e : x5.toInt = 10 + i.toInt := by rw [e5, t_add (by rw [t_10]; omega) (by rw [t_10]; omega), t_10]
      have b := t_nat (x := x5) (by omega)
      refine ⟨t_in i0 (by omega), fun x6 _ => ⟨t_in (by omega) (by omega), fun f7 e7 x8 e8 => ?_⟩⟩
      have ee : x8.toInt = 16 + i.toInt := by rw [e8, t_add (by rw [t_16]; omega) (by rw [t_16]; omega), t_16]
      have bb := t_nat (x := x8) (by omega)
      refine ⟨t_in (by omega) (by omega), fun f9 e9 x14 e14 => go f9 x14 ?_ e14⟩
      rw [e9, e7]
      exact sSits_upd (sSits_upd hs h6 (by omega)) h6 (by omega)
    · refine sf_X1_dropDebts h6 (n := n) ?_ i0 (by omega) (fun f13 h13 x14 e14 => go f13 x14 h13 e14)
      rw [e12, show (2 : Int32).toNatClampNeg = 2 by decide]
      exact sSits_upd hs h6 (by omega)
theorem sf_X1_strike {sf : Int32} {sr : Nat → Int32} {Q : (Nat → Int32) → Prop} (h6 : h.toInt ≤ 6) (hs : sSits h n row) (hq : ∀ row, sSits h n row → Q row) : wq_X1_strike h sf sr row Q :=
  sf_X1_endangered h6 (fun r => ⟨7, sl_X1_strike h6 hq 7 row r 0 hs (by decide) (by decide) (by decide)⟩)
theorem sl_X1_passDay {sf : Int32} {sr : Nat → Int32} {Q : (Nat → Int32) → Prop} (h6 : h.toInt ≤ 6) (hq : ∀ row, sSits h n row → Q row) : ∀ (k : Nat) (row : Nat → Int32) (i : Int32), sSits h n row → 0 ≤ i.toInt → i.toInt ≤ 6 → 6 - i.toInt < k → wl_X1_passDay_2 h sf sr Q k row i := by
  intro k
  have c0 : (0 : Int32).toNatClampNeg = 0 := by decide
  have c1 : (1 : Int32).toNatClampNeg = 1 := by decide
  have c3 : (3 : Int32).toNatClampNeg = 3 := by decide
  induction k with
  | zero => intro row i hs i0 i1 i2; omega
  | succ k ih =>
    intro row i hs i0 i1 i2
    have go : i.toInt < 6 → ∀ (row : Nat → Int32) (x14 : Int32), sSits h n row → x14 = i + 1 → wl_X1_passDay_2 h sf sr Q k row x14 := fun hi row x14 hs e14 => by
      have e : x14.toInt = i.toInt + 1 := by rw [e14]; exact t_inc (by omega)
      exact ih row x14 hs (by omega) (by omega) (by omega)
    refine ⟨fun _ f2 e2 x3 _ x4 _ f5 e5 x6 _ => ?_, fun c x13 _ x14 _ => ?_⟩
    · have h5 : sSits h n f5 := by rw [e5, e2, c0, c3]; exact sSits_upd (sSits_upd hs h6 (by omega)) h6 (by omega)
      refine ⟨fun _ => hq _ h5, fun _ => sf_X1_strike h6 h5 (fun f8 h8 f9 e9 x10 _ x11 _ f12 e12 => hq f12 ?_)⟩
      rw [e12, e9, c0, c1]
      exact sSits_upd (sSits_upd h8 h6 (by omega)) h6 (by omega)
    · rw [t_le] at c
      refine sf_X10_holds ⟨fun c => absurd rfl c, fun _ x17 e17 => ?_⟩ ⟨fun _ x21 e21 => go (by omega) row x21 hs e21, fun c => absurd c (by decide)⟩
      have ee : x17.toInt = 16 + i.toInt := by rw [e17, t_add (by rw [t_16]; omega) (by rw [t_16]; omega), t_16]
      have bb := t_nat (x := x17) (by omega)
      refine ⟨t_in (by omega) (by omega), fun x18 _ x19 _ => ⟨t_in (by omega) (by omega), fun f20 e20 x21 e21 => go (by omega) f20 x21 ?_ e21⟩⟩
      rw [e20]
      exact sSits_upd hs h6 (by omega)
theorem sf_X1_passDay {sf : Int32} {sr : Nat → Int32} {Q : (Nat → Int32) → Prop} (h6 : h.toInt ≤ 6) (hs : sSits h n row) (hq : ∀ row, sSits h n row → Q row) : wq_X1_passDay h sf sr row Q := ⟨7, sl_X1_passDay h6 hq 7 row 0 hs (by decide) (by decide) (by decide)⟩
end D2
