theorem t_99 : (99 : Int32).toInt = 99 := by decide
theorem t_96 : (96 : Int32).toInt = 96 := by decide
section Ca
variable {n h ln v ci p q : Int32} {row kd vl fc pl X Y : Nat → Int32}
theorem sf_X10_can {E : String → Int32 → (Nat → Int32) → (Nat → Int32) → Prop} {Q : Int32 → Int32 → (Nat → Int32) → (Nat → Int32) → Prop} (h0 : 0 ≤ h.toInt) (h6 : h.toInt ≤ 6) (n0 : 0 ≤ n.toInt) (n8 : n.toInt ≤ 8) (hs : sSits h n row) (hw : sLaw ln kd vl)
    (he : E "java/util/NoSuchElementException" (v + 1) fc pl) (hq : ∀ (r : Int32) (fc pl : Nat → Int32), Q r v fc pl) : wq_X10_can n h row X Y ln kd vl v fc pl p q E Q :=
  sf_X10_needHare h0 he (fun a0 a1 => sf_X10_needForm n0 he (fun b0 b1 => sf_X1_couldLeap h6 n8 hs a0 a1 b0 b1 hw (fun r _ _ hr => ⟨by rcases hr with rfl | rfl <;> rfl, hq _ _ _⟩)))
theorem sf_X10_debt {E : String → Int32 → Prop} {Q : Int32 → Int32 → Prop} (h0 : 0 ≤ h.toInt) (h6 : h.toInt ≤ 6) (he : E "java/util/NoSuchElementException" (v + 1)) (hq : ∀ r, Q r v) : wq_X10_debt h row v p q E Q :=
  sf_X10_needHare h0 he (fun a0 a1 => sf_X10_needHare h0 he (fun b0 b1 => sf_X1_owesTo a0 (by omega) b0 (by omega) (fun r => hq r)))
theorem sf_X10_hops {E : String → Int32 → (Nat → Int32) → (Nat → Int32) → Prop} {Q : Int32 → Int32 → (Nat → Int32) → (Nat → Int32) → Prop} (h0 : 0 ≤ h.toInt) (h6 : h.toInt ≤ 6) (n0 : 0 ≤ n.toInt) (n8 : n.toInt ≤ 8) (hw : sLaw ln kd vl)
    (he : E "java/util/NoSuchElementException" (v + 1) fc pl) (hq : ∀ (r : Int32) (fc pl : Nat → Int32), Q r v fc pl) : wq_X10_hops n h row ln kd vl X Y v fc pl p q E Q :=
  sf_X10_needHare h0 he (fun a0 a1 => sf_X10_needForm n0 he (fun b0 b1 => sf_X1_isCaught ⟨fun _ => sf_X1_sits a0 (by omega) (fun _ _ => sf_X1_reach h6 a0 (by omega) hw (fun _ _ _ _ _ => sf_X2_hopsBetween n8 (fun _ => hq _ _ _))), fun c => absurd rfl c⟩ ⟨fun c => absurd c (by decide), fun _ => hq _ _ _⟩))
theorem sf_X10_range {E : String → Int32 → (Nat → Int32) → (Nat → Int32) → Prop} {Q : Int32 → Int32 → (Nat → Int32) → (Nat → Int32) → Prop} (h0 : 0 ≤ h.toInt) (h6 : h.toInt ≤ 6) (n8 : n.toInt ≤ 8) (hs : sSits h n row) (hw : sLaw ln kd vl)
    (he : E "java/util/NoSuchElementException" (v + 1) fc pl) (hq : ∀ (r : Int32) (fc pl : Nat → Int32), Q r v fc pl) : wq_X10_range n h row ln kd vl X Y v fc pl p E Q :=
  sf_X10_needHare h0 he (fun a0 a1 => sf_X1_leapable h6 n8 hs a0 a1 hw (fun _ _ _ => hq _ _ _))
theorem sf_X10_undo {rows : Nat → Int32} {kp rs : Int32} {Q : Int32 → Int32 → (Nat → Int32) → Int32 → Prop} (k0 : 0 ≤ kp.toInt) (k1 : kp.toInt ≤ 16) (h6 : h.toInt ≤ 6) (hs : sSits h n row) (hp : sPast kp h n rows) (hq : ∀ (r k2 : Int32) (row : Nat → Int32) (rs : Int32), 0 ≤ k2.toInt → k2.toInt ≤ 16 → sSits h n row → sPast k2 h n rows → Q r k2 row rs) : wq_X10_undo rows kp row rs Q := by
  refine ⟨fun c => ?_, fun _ => hq _ _ _ _ k0 k1 hs hp⟩
  rw [t_eq, t_0] at c
  exact sf_X5_pop (h := h) (n := n) (by omega) (by omega) h6 hp (fun k2 row e hs2 hp2 => hq _ _ _ _ (by omega) (by omega) hs2 hp2)
theorem sl_X10_ahead {ag ar : Nat} {sf : Int32} {sr nw : Nat → Int32} {E : String → Int32 → (Nat → Int32) → Value → Value → Prop} {Q : Int32 → Int32 → (Nat → Int32) → Value → Value → Prop} (h6 : h.toInt ≤ 6) (p1 : p.toInt ≤ 99) (hq : ∀ (r : Int32) (row : Nat → Int32), Q r ci row (.ref ag) (.ref ar)) :
    ∀ (k : Nat) (row : Nat → Int32) (i : Int32), sSits h n row → 0 ≤ i.toInt → i.toInt ≤ 99 → 99 - i.toInt < k → wl_X10_ahead_28 ag ar nw h sf sr E Q k ci row (.ref ag) (.ref ar) p q i := by
  intro k
  induction k with
  | zero => intro row i hs i0 i1 i2; omega
  | succ k ih =>
    intro row i hs i0 i1 i2
    refine ⟨fun _ => ⟨fun _ _ _ => hq _ _, fun _ => ⟨fun _ _ _ => hq _ _, fun _ => sf_X1_allDebts h6 (fun _ => hq _ _)⟩⟩, fun c => ?_⟩
    rw [t_le] at c
    refine sf_X1_passDay h6 hs (fun f10 h10 x11 e11 => ?_)
    have e : x11.toInt = i.toInt + 1 := by rw [e11]; exact t_inc (by omega)
    exact ih f10 x11 h10 (by omega) (by omega) (by omega)
theorem sf_X10_ahead {ag ar : Nat} {sf : Int32} {sr tr : Nat → Int32} {rd rl : Value} {E : String → Int32 → (Nat → Int32) → Value → Value → Prop} {Q : Int32 → Int32 → (Nat → Int32) → Value → Value → Prop} (h6 : h.toInt ≤ 6) (hs : sSits h n row)
    (he : E "java/lang/IllegalArgumentException" (ci + 1) tr rd rl) (hq : ∀ (r : Int32) (row : Nat → Int32), Q r ci row (.ref ag) (.ref ar)) : wq_X10_ahead ag ar row h sf sr ci tr rd rl p q E Q := by
  refine sf_X10_needWithin he (fun a0 a1 => sf_X10_needWithin he (fun _ _ => sf_X1_copyFrom h6 hs (fun f3 h3 => ⟨100, sl_X10_ahead h6 (by rw [t_99] at a1; exact a1) hq 100 f3 0 h3 (by decide) (by decide) (by decide)⟩)))
end Ca
