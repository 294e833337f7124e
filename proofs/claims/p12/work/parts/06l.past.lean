theorem sf_X5_pop {kp h n : Int32} {row rows : Nat → Int32} {Q : Int32 → (Nat → Int32) → Prop} (k0 : 0 < kp.toInt) (k1 : kp.toInt ≤ 17) (h6 : h.toInt ≤ 6) (hp : sPast kp h n rows) (hq : ∀ (k2 : Int32) (row : Nat → Int32), k2.toInt = kp.toInt - 1 → sSits h n row → sPast k2 h n rows → Q k2 row) : wq_X5_pop rows kp row Q := by
  refine ⟨fun c => ?_, fun _ x2 e2 x3 e3 => ?_⟩
  · rw [t_le, t_0] at c; omega
  · have ea : x2.toInt = kp.toInt - 1 := by rw [e2]; exact t_pred (by omega)
    have e := t_mul64 (k := x2) (by omega) (by omega)
    rw [← e3] at e
    have b := t_nat (x := x3) (by omega)
    have c := t_nat (x := x2) (by omega)
    refine ⟨fun c => ?_, ?_, fun f4 e4 => hq x2 f4 ea ?_ (fun r hr => hp r (by omega))⟩
    · rw [t_lt, t_0] at c; omega
    · rw [t_c64]; omega
    · intro j hj
      rw [e4, t_c0, t_c64, pk_cpy_in (by omega) (by omega)]
      have e9 : x3.toNatClampNeg + (4 + j - 0) = x2.toNatClampNeg * 64 + (4 + j) := by omega
      rw [e9]
      exact hp x2.toNatClampNeg (by omega) j hj
theorem sf_X5_copyFrom {k1 k0 h n : Int32} {r1 r0 : Nat → Int32} {Q : (Nat → Int32) → Int32 → Prop} (a0 : 0 ≤ k1.toInt) (a1 : k1.toInt ≤ 17) (h6 : h.toInt ≤ 6) (hp : sPast k1 h n r1) (hq : ∀ rows, sPast k1 h n rows → Q rows k1) : wq_X5_copyFrom k1 r1 r0 k0 Q := by
  have e := t_mul64 a0 a1
  have b := t_nat (x := k1 * 64) (by omega)
  refine ⟨fun c => ?_, ?_, ?_, fun f1 e1 => hq f1 (fun r hr j hj => ?_)⟩
  · rw [t_lt, t_0] at c; omega
  · rw [t_c0]; omega
  · rw [t_c0]; omega
  · show 0 ≤ (f1 (r * 64 + (4 + j))).toInt ∧ (f1 (r * 64 + (4 + j))).toInt < n.toInt
    rw [e1, t_c0, pk_cpy_in (by omega) (by omega)]
    have e9 : 0 + (r * 64 + (4 + j) - 0) = r * 64 + (4 + j) := by omega
    rw [e9]
    exact hp r hr j hj
theorem sf_X1_copyFrom {h n : Int32} {r1 r0 : Nat → Int32} {Q : (Nat → Int32) → Prop} (h6 : h.toInt ≤ 6) (hs : sSits h n r1) (hq : ∀ row, sSits h n row → Q row) : wq_X1_copyFrom r1 r0 Q := fun f1 e1 => hq f1 (fun j hj => by
  rw [e1, t_c0, t_c64, pk_cpy_in (by omega) (by omega)]
  have e9 : 0 + (4 + j - 0) = 4 + j := by omega
  rw [e9]
  exact hs j hj)
theorem sf_X1_leapIfAllowed {row kd vl fc pl X Y : Nat → Int32} {p q h n ln : Int32} {Q : Int32 → (Nat → Int32) → (Nat → Int32) → (Nat → Int32) → Prop} (h6 : h.toInt ≤ 6) (n8 : n.toInt ≤ 8) (hs : sSits h n row) (p0 : 0 ≤ p.toInt) (p1 : p.toInt < h.toInt) (q0 : 0 ≤ q.toInt) (q1 : q.toInt < n.toInt) (hw : sLaw ln kd vl) (hq : ∀ (r : Int32) (fc pl row : Nat → Int32), sSits h n row → Q r fc pl row) : wq_X1_leapIfAllowed h X Y ln kd vl fc pl row p q Q :=
  sf_X1_couldLeap h6 n8 hs p0 p1 q0 q1 hw (fun _ _ _ _ => ⟨fun _ => sf_X1_leapTo h6 hs p0 (by omega) q0 q1 (fun _ h2 => hq _ _ _ _ h2), fun _ => hq _ _ _ _ hs⟩)
theorem sf_X1_fightIfAllowed {row : Nat → Int32} {p q h n : Int32} {Q : (Nat → Int32) → Prop} (h6 : h.toInt ≤ 6) (hs : sSits h n row) (p0 : 0 ≤ p.toInt) (p1 : p.toInt < 6) (q0 : 0 ≤ q.toInt) (q1 : q.toInt < 6) (hq : ∀ row, sSits h n row → Q row) : wq_X1_fightIfAllowed row p q Q :=
  sf_X1_couldFight p0 p1 q0 q1 ⟨fun _ => hq _ hs, fun c => absurd rfl c⟩ ⟨fun c => absurd c (by decide), fun _ => sf_X1_fight h6 hs p0 p1 q0 q1 hq⟩
