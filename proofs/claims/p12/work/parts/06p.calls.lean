section Mr
variable {n h ln ci a p q sf : Int32} {row kd vl fc pl X Y sr tr : Nat → Int32}
theorem sf_X10_march {ag ar : Nat} {rd rl : Value} {E : String → Int32 → (Nat → Int32) → Value → Value → (Nat → Int32) → (Nat → Int32) → Prop} {Q : Int32 → Int32 → (Nat → Int32) → Value → Value → (Nat → Int32) → (Nat → Int32) → Prop} (h0 : 0 ≤ h.toInt) (h6 : h.toInt ≤ 6) (n8 : n.toInt ≤ 8) (hs : sSits h n row) (hw : sLaw ln kd vl)
    (he : E "java/lang/IllegalArgumentException" (ci + 1) tr rd rl fc pl) (hq : ∀ (r : Int32) (row fc pl : Nat → Int32), Q r ci row (.ref ag) (.ref ar) fc pl) : wq_X10_march ag ar row n h sf X Y ln kd vl sr ci tr rd rl fc pl a p q E Q := by
  refine sf_X10_needWithin he (fun _ a1 => sf_X10_needWithin he (fun _ _ => sf_X1_copyFrom h6 hs (fun f3 h3 => sf_X1_drawDays h0 h6 n8 hw (by rw [t_96] at a1; exact a1) h3 (fun r7 f4 f5 f6 h6' => ?_))))
  exact ⟨fun _ _ _ => hq _ _ _ _, fun _ => hq _ _ _ _, fun _ _ _ => hq _ _ _ _, fun _ => sf_X1_strongTogether h6 (fun _ => hq _ _ _ _)⟩
end Mr
