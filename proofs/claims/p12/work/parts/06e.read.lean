theorem t_9 : (9 : Int32).toInt = 9 := by decide
theorem sf_X8_blameToken {tk fa fp w : Int32} {Q : Int32 → Int32 → Prop} (hw : ¬ w = 0) (hq : ∀ f2 p2 : Int32, ¬ f2 = 0 → Q f2 p2) : wq_X8_blameToken tk fa fp w Q := sf_X8_blame (fun c => hq _ _ c) (fun _ => hq _ _ hw)
/-- where the hares of a down sit, for those told so far -/
def sSeat (h n : Int32) (st : Nat → Int32) : Prop := ∀ j : Nat, (j : Int) < h.toInt → 0 ≤ (st j).toInt ∧ (st j).toInt < n.toInt
theorem t_nat {x : Int32} (h : 0 ≤ x.toInt) : (x.toNatClampNeg : Int) = x.toInt := by
  rw [Int32.toNatClampNeg]; exact Int.toNat_of_nonneg h
section Rd
variable {len : Int32} {by_ : Nat → Int32} {a fa fp tk p2 : Int32} (hl : len.toInt ≤ 600)
theorem sf_X2_readForm {X Y : Nat → Int32} {n : Int32} {Q : Int32 → Int32 → Int32 → Int32 → (Nat → Int32) → (Nat → Int32) → Int32 → Prop} (hl : len.toInt ≤ 600) (h0 : 0 ≤ a.toInt) (h1 : a.toInt ≤ 600) (n0 : 0 ≤ n.toInt) (n1 : n.toInt ≤ 8)
    (hq : ∀ (a f2 fp2 t2 : Int32) (X Y : Nat → Int32) (n2 : Int32), 0 ≤ a.toInt → a.toInt ≤ 600 → n.toInt ≤ n2.toInt → n2.toInt ≤ 8 → (f2 = 0 → fa = 0) → Q a f2 fp2 t2 X Y n2) : wq_X2_readForm len by_ a fa fp tk X Y n p2 Q := by
  have hb : wb_X2_readForm_13 len by_ Q a fa fp tk X Y n := sf_X8_blameToken (by decide) (fun f2 p2 c => hq _ _ _ _ _ _ _ h0 h1 (Int.le_refl _) n1 (fun z => absurd z c))
  refine ⟨fun _ => hb, fun _ => ⟨fun c => ?_, fun _ => hb⟩⟩
  rw [t_lt, t_8] at c
  refine sf_X8_number hl h0 h1 (fun r7 x3 x4 x5 x6 g0 g1 g2 _ _ => ⟨t_in n0 c, fun f8 _ => sf_X8_number hl g0 g1 (fun r13 x9 x10 x11 x12 k0 k1 k2 _ _ => ⟨t_in n0 c, fun f14 _ => sf_X8_needs hl k0 k1 (fun x15 x16 x17 x18 m0 m1 _ m3 _ x19 e19 => ?_)⟩)⟩)
  have e : x19.toInt = n.toInt + 1 := by rw [e19]; exact t_inc (by omega)
  exact hq _ _ _ _ _ _ _ m0 m1 (by omega) (by omega) (fun z => (g2 (k2 (m3 z)).1).1)
theorem sf_X2_readFox {X Y : Nat → Int32} {n : Int32} {Q : Int32 → Int32 → Int32 → Int32 → (Nat → Int32) → (Nat → Int32) → Int32 → Prop} (hl : len.toInt ≤ 600) (h0 : 0 ≤ a.toInt) (h1 : a.toInt ≤ 600) (n0 : 0 ≤ n.toInt) (n1 : n.toInt ≤ 4)
    (hq : ∀ (a f2 fp2 t2 : Int32) (X Y : Nat → Int32) (n2 : Int32), 0 ≤ a.toInt → a.toInt ≤ 600 → 0 ≤ n2.toInt → n2.toInt ≤ 4 → (f2 = 0 → fa = 0) → Q a f2 fp2 t2 X Y n2) : wq_X2_readFox len by_ a fa fp tk X Y n p2 Q := by
  have hb : wb_X2_readFox_12 len by_ Q a fa fp tk X Y n := sf_X8_blameToken (by decide) (fun f2 p2 c => hq _ _ _ _ _ _ _ h0 h1 n0 n1 (fun z => absurd z c))
  refine ⟨fun _ => hb, fun _ => ⟨fun c => ?_, fun _ => hb⟩⟩
  rw [t_lt, t_4] at c
  refine sf_X8_number hl h0 h1 (fun r7 x3 x4 x5 x6 g0 g1 g2 _ _ => ⟨t_in n0 c, fun f8 _ => sf_X8_number hl g0 g1 (fun r13 x9 x10 x11 x12 k0 k1 k2 _ _ => ⟨t_in n0 c, fun f14 _ => sf_X8_needs hl k0 k1 (fun x15 x16 x17 x18 m0 m1 _ m3 _ x19 e19 => ?_)⟩)⟩)
  have e : x19.toInt = n.toInt + 1 := by rw [e19]; exact t_inc (by omega)
  exact hq _ _ _ _ _ _ _ m0 m1 (by omega) (by omega) (fun z => (g2 (k2 (m3 z)).1).1)
theorem sf_X2_readHare {st sr : Nat → Int32} {n h : Int32} {Q : Int32 → Int32 → Int32 → Int32 → (Nat → Int32) → (Nat → Int32) → Int32 → Prop} (hl : len.toInt ≤ 600) (h0 : 0 ≤ a.toInt) (h1 : a.toInt ≤ 600) (n0 : 0 ≤ n.toInt) (m0 : 0 ≤ h.toInt) (m1 : h.toInt ≤ 6) (hs : fa = 0 → sSeat h n st)
    (hq : ∀ (a f2 fp2 t2 : Int32) (st sr : Nat → Int32) (h2 : Int32), 0 ≤ a.toInt → a.toInt ≤ 600 → 0 ≤ h2.toInt → h2.toInt ≤ 6 → (f2 = 0 → fa = 0 ∧ sSeat h2 n st) → Q a f2 fp2 t2 st sr h2) : wq_X2_readHare n len by_ a fa fp tk st sr h p2 Q := by
  have hb : wb_X2_readHare_13 n len by_ Q a fa fp tk st sr h := sf_X8_blameToken (by decide) (fun f2 p2 c => hq _ _ _ _ _ _ _ h0 h1 m0 m1 (fun z => absurd z c))
  have en : (n - 1).toInt = n.toInt - 1 := t_pred (by omega)
  refine ⟨fun _ => hb, fun _ => ⟨fun c => ?_, fun _ => hb⟩⟩
  rw [t_lt, t_6] at c
  refine sf_X8_number hl h0 h1 (fun r7 x3 x4 x5 x6 g0 g1 g2 _ _ => ⟨t_in m0 c, fun f8 e8 => sf_X8_number hl g0 g1 (fun r13 x9 x10 x11 x12 k0 k1 k2 _ _ => ⟨t_in m0 c, fun f14 _ => sf_X8_needs hl k0 k1 (fun x15 x16 x17 x18 q0 q1 _ q3 _ x19 e19 => ?_)⟩)⟩)
  have e : x19.toInt = h.toInt + 1 := by rw [e19]; exact t_inc (by omega)
  refine hq _ _ _ _ _ _ _ q0 q1 (by omega) (by omega) (fun z => ?_)
  have z7 := g2 (k2 (q3 z)).1
  rw [t_0, en] at z7
  refine ⟨z7.1, fun j hj => ?_⟩
  rw [e8]
  by_cases hjh : j = h.toNatClampNeg
  · rw [hjh, pk_us]; exact ⟨z7.2.1, by omega⟩
  · rw [pk_un hjh]
    have hn := t_nat m0
    exact hs z7.1 j (by omega)
end Rd
