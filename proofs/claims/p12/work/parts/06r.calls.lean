section To
variable {n h ci p sf : Int32} {row : Nat → Int32}
theorem sf_X10_told {rs fx mn : Int32} {E : String → Int32 → Prop} {Q : Int32 → Int32 → Prop} (h6 : h.toInt ≤ 6) (he : E "java/lang/IllegalArgumentException" (ci + 1)) (hq : ∀ r, Q r ci) : wq_X10_told rs n h fx sf row mn ci p E Q :=
  sf_X10_needWithin he (fun _ _ => ⟨fun _ => sf_X1_endangered h6 (fun _ => hq _), fun _ => hq _, fun _ => hq _, fun _ => hq _, fun _ _ _ => hq _, fun _ _ _ => hq _, fun _ _ _ => hq _, fun _ _ _ => hq _, fun _ => hq _, fun _ => sf_X1_allDebts h6 (fun _ => hq _), fun _ => hq _, fun _ => hq _⟩)
theorem sf_X10_count {a b c : Int32} {Q : Int32 → Prop} (hq : ∀ r, Q r) : wq_X10_count a b c p Q := ⟨fun _ => hq _, fun _ => hq _, fun _ => hq _, fun _ => hq _⟩
theorem sf_X10_fault {a : Int32} {Q : Int32 → Prop} (hq : ∀ r, Q r) : wq_X10_fault a Q := hq _
theorem sf_X10_status {a b : Int32} {Q : Int32 → Prop} (hq : ∀ r, Q r) : wq_X10_status a b p Q := ⟨fun _ => hq _, fun _ => ⟨fun _ => hq _, fun _ => hq _⟩⟩
theorem sl_X10_strongest {E : String → Int32 → Prop} {Q : Int32 → Int32 → Prop} (h6 : h.toInt ≤ 6) (hq : ∀ r, Q r ci) : ∀ (k : Nat) (b i : Int32), (b = -1 ∨ 0 ≤ b.toInt ∧ b.toInt < 6) → 0 ≤ i.toInt → i.toInt ≤ 6 → 6 - i.toInt < k → wl_X10_strongest_11 h row E Q k ci p b i := by
  intro k
  induction k with
  | zero => intro b i hb i0 i1 i2; omega
  | succ k ih =>
    intro b i hb i0 i1 i2
    refine ⟨fun _ => ⟨fun _ => hq _, fun _ => ⟨fun c => ?_, fun _ => hq _⟩⟩, fun c => ?_⟩
    · have g := hb.resolve_left c
      exact sf_X1_strong g.1 g.2 (fun _ => hq _)
    · rw [t_le] at c
      have go : ∀ b x9 : Int32, (b = -1 ∨ 0 ≤ b.toInt ∧ b.toInt < 6) → x9 = i + 1 → wl_X10_strongest_11 h row E Q k ci p b x9 := fun b x9 hb e9 => by
        have e : x9.toInt = i.toInt + 1 := by rw [e9]; exact t_inc (by omega)
        exact ih b x9 hb (by omega) (by omega) (by omega)
      have gi : i = -1 ∨ 0 ≤ i.toInt ∧ i.toInt < 6 := Or.inr ⟨i0, by omega⟩
      refine sf_X1_isCaught ⟨fun c => absurd rfl c, fun _ => ⟨fun _ x12 e12 => go i x12 gi e12, fun c2 => ?_⟩⟩ ⟨fun _ x12 e12 => go b x12 hb e12, fun c => absurd c (by decide)⟩
      have g := hb.resolve_left c2
      exact sf_X1_strong i0 (by omega) (fun _ => sf_X1_strong g.1 g.2 (fun _ => ⟨fun _ x12 e12 => go b x12 hb e12, fun _ x12 e12 => go i x12 gi e12⟩))
theorem sf_X10_strongest {E : String → Int32 → Prop} {Q : Int32 → Int32 → Prop} (h6 : h.toInt ≤ 6) (he : E "java/lang/IllegalArgumentException" (ci + 1)) (hq : ∀ r, Q r ci) : wq_X10_strongest h row ci p E Q :=
  sf_X10_needWithin he (fun _ _ => ⟨7, sl_X10_strongest h6 hq 7 (-1) 0 (Or.inl rfl) (by decide) (by decide) (by decide)⟩)
end To
