section Fo
variable {n h ln cn ci p q sf : Int32} {row kd vl fc pl X Y sr : Nat → Int32}
theorem sf_X10_form {E : String → Int32 → Int32 → Prop} {Q : Int32 → Int32 → Int32 → Prop} (h6 : h.toInt ≤ 6) (n0 : 0 ≤ n.toInt) (n8 : n.toInt ≤ 8) (he1 : E "java/util/NoSuchElementException" (cn + 1) ci) (he2 : E "java/lang/IllegalArgumentException" cn (ci + 1)) (hq : ∀ r, Q r cn ci) : wq_X10_form n h sf row X Y cn ci p q E Q :=
  sf_X10_needForm n0 he1 (fun a0 a1 => sf_X10_needWithin he2 (fun _ _ => ⟨fun _ => sf_X1_seatedIn h6 (fun _ => hq _), fun _ => ⟨t_in a0 (by omega), fun _ _ => hq _⟩, fun _ => ⟨t_in a0 (by omega), fun _ _ => hq _⟩, fun _ => sf_X2_isSafe ⟨fun _ => hq _, fun _ => hq _⟩ ⟨fun _ => hq _, fun _ => hq _⟩⟩))
theorem sf_X10_hare {E : String → Int32 → Int32 → (Nat → Int32) → (Nat → Int32) → Prop} {Q : Int32 → Int32 → Int32 → (Nat → Int32) → (Nat → Int32) → Prop} (h0 : 0 ≤ h.toInt) (h6 : h.toInt ≤ 6) (hw : sLaw ln kd vl) (he1 : E "java/util/NoSuchElementException" (cn + 1) ci fc pl) (he2 : E "java/lang/IllegalArgumentException" cn (ci + 1) fc pl) (hq : ∀ (r : Int32) (fc pl : Nat → Int32), Q r cn ci fc pl) : wq_X10_hare h row ln kd vl sr cn ci fc pl p q E Q :=
  sf_X10_needHare h0 he1 (fun a0 a1 => sf_X10_needWithin he2 (fun _ _ => ⟨fun _ => sf_X1_isCaught ⟨fun _ => sf_X1_reach h6 a0 (by omega) hw (fun _ _ _ _ _ => hq _ _ _), fun _ => hq _ _ _⟩ ⟨fun c => absurd c (by decide), fun _ => hq _ _ _⟩, fun _ => sf_X1_isCaught ⟨fun _ => sf_X1_sits a0 (by omega) (fun _ _ => hq _ _ _), fun _ => hq _ _ _⟩ ⟨fun c => absurd c (by decide), fun _ => hq _ _ _⟩, fun _ => sf_X1_strong a0 (by omega) (fun _ => hq _ _ _), fun _ => ⟨t_in a0 (by omega), fun _ _ => hq _ _ _⟩, fun _ => sf_X1_still a0 (by omega) (fun _ => hq _ _ _), fun _ => sf_X1_leaps a0 (by omega) (fun _ => hq _ _ _), fun _ => sf_X1_owes h6 a0 (by omega) (fun _ => hq _ _ _), fun _ => sf_X1_owed h6 a0 (by omega) (fun _ => hq _ _ _)⟩))
theorem sl_X10_ties {E : String → Int32 → Int32 → Prop} {Q : Int32 → Int32 → Int32 → Prop} (h6 : h.toInt ≤ 6) (p0 : 0 ≤ p.toInt) (p1 : p.toInt < 6) (hq : ∀ r, Q r cn ci) : ∀ (k : Nat) (v i : Int32), 0 ≤ i.toInt → i.toInt ≤ 6 → 6 - i.toInt < k → wl_X10_ties_17 h row E Q k cn ci p q v i := by
  intro k
  induction k with
  | zero => intro v i i0 i1 i2; omega
  | succ k ih =>
    intro v i i0 i1 i2
    refine ⟨fun _ => hq _, fun c => ?_⟩
    rw [t_le] at c
    have go : ∀ v x9 : Int32, x9 = i + 1 → wl_X10_ties_17 h row E Q k cn ci p q v x9 := fun v x9 e9 => by
      have e : x9.toInt = i.toInt + 1 := by rw [e9]; exact t_inc (by omega)
      exact ih v x9 (by omega) (by omega) (by omega)
    exact ⟨fun _ => sf_X1_owesTo i0 (by omega) p0 p1 (fun _ => ⟨fun _ => go v, fun _ x8 _ => go x8⟩), fun _ => sf_X1_owesTo p0 p1 i0 (by omega) (fun _ => ⟨fun _ => go v, fun _ x8 _ => go x8⟩)⟩
theorem sf_X10_ties {E : String → Int32 → Int32 → Prop} {Q : Int32 → Int32 → Int32 → Prop} (h0 : 0 ≤ h.toInt) (h6 : h.toInt ≤ 6) (he1 : E "java/util/NoSuchElementException" (cn + 1) ci) (he2 : E "java/lang/IllegalArgumentException" cn (ci + 1)) (hq : ∀ r, Q r cn ci) : wq_X10_ties h row cn ci p q E Q :=
  sf_X10_needHare h0 he1 (fun a0 a1 => sf_X10_needWithin he2 (fun _ _ => ⟨7, sl_X10_ties h6 a0 (by omega) hq 7 0 0 (by decide) (by decide) (by decide)⟩))
theorem sf_X10_would {a1 a2 a3 a4 a5 a6 a7 a8 : Int32} {E : String → Int32 → (Nat → Int32) → (Nat → Int32) → Prop} {Q : Int32 → Int32 → (Nat → Int32) → (Nat → Int32) → Prop} (hw : sLaw ln kd vl) (he : E "java/lang/IllegalArgumentException" (ci + 1) fc pl) (hq : ∀ (r : Int32) (fc pl : Nat → Int32), Q r ci fc pl) : wq_X10_would ln kd vl ci fc pl a1 a2 a3 a4 a5 a6 a7 a8 E Q :=
  sf_X10_needWithin he (fun _ _ => sf_X10_needWithin he (fun _ _ => sf_X10_needWithin he (fun _ _ => sf_X10_needWithin he (fun _ _ => sf_X10_needWithin he (fun _ _ => sf_X10_needWithin he (fun _ _ => sf_X10_needWithin he (fun _ _ => sf_X10_needWithin he (fun _ _ => sf_X4_setFacts (fun _ => sf_X4_setTimes (fun _ => sf_X4_reach hw (fun _ _ _ _ => hq _ _ _)))))))))))
end Fo
