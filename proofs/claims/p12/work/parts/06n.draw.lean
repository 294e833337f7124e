theorem sf_X1_nextSeed {p : Int32} {Q : Int32 → Prop} (hq : ∀ r, Q r) : wq_X1_nextSeed p Q := hq _
section Dr
variable {n h sf ln d : Int32} {X Y kd vl sr : Nat → Int32} {Q : Int32 → (Nat → Int32) → (Nat → Int32) → (Nat → Int32) → Prop}
theorem sl_X1_drawDays (h0 : 0 ≤ h.toInt) (h6 : h.toInt ≤ 6) (n8 : n.toInt ≤ 8) (hw : sLaw ln kd vl) (d1 : d.toInt ≤ 96) (hq : ∀ (r : Int32) (fc pl row : Nat → Int32), sSits h n row → Q r fc pl row) :
    ∀ (k : Nat) (fc pl row : Nat → Int32) (sd lp i : Int32), sSits h n row → 0 ≤ i.toInt → i.toInt ≤ 96 → 96 - i.toInt < k → wl_X1_drawDays_8 n h sf X Y ln kd vl sr Q k fc pl row d sd lp i := by
  intro k
  induction k with
  | zero => intro fc pl row sd lp i hs i0 i1 i2; omega
  | succ k ih =>
    intro fc pl row sd lp i hs i0 i1 i2
    refine ⟨fun _ => hq _ _ _ _ hs, fun c => ?_⟩
    rw [t_le] at c
    have day : ∀ (fc pl row : Nat → Int32) (sd lp : Int32), sSits h n row → wb_X1_drawDays_104 n h sf X Y ln kd vl sr Q (fun fc pl row d sd lp i => wl_X1_drawDays_8 n h sf X Y ln kd vl sr Q k fc pl row d sd lp i) fc pl row d sd lp i := fun fc pl row sd lp hs =>
      sf_X1_passDay h6 hs (fun f19 h19 x20 e20 => by
        have e : x20.toInt = i.toInt + 1 := by rw [e20]; exact t_inc (by omega)
        exact ih fc pl f19 sd lp x20 h19 (by omega) (by omega) (by omega))
    refine ⟨fun _ => day _ _ _ _ _ hs, fun c1 => ⟨fun _ => day _ _ _ _ _ hs, fun c2 => sf_X1_nextSeed (fun r4 => sf_X1_drawnBits (fun r5 a0 _ => ?_))⟩⟩
    rw [t_le, t_0] at c1 c2
    have hne : ¬ h = 0 := fun z => by rw [t_eq, t_0] at z; omega
    have nne : ¬ n = 0 := fun z => by rw [t_eq, t_0] at z; omega
    refine ⟨hne, fun x6 e6 => sf_X1_nextSeed (fun r7 => sf_X1_drawnBits (fun r8 b0 _ => ⟨nne, fun x9 e9 => ?_⟩))⟩
    have g6 := t_rem (b := h) a0 (by omega)
    rw [← e6] at g6
    have g9 := t_rem (b := n) b0 (by omega)
    rw [← e9] at g9
    refine sf_X1_leapIfAllowed h6 n8 hs g6.1 g6.2 g9.1 g9.2 hw (fun r13 f10 f11 f12 h12 x14 _ => sf_X1_nextSeed (fun r15 => sf_X1_drawnBits (fun r16 z0 _ => ⟨hne, fun x17 e17 => ?_⟩)))
    have g17 := t_rem (b := h) z0 (by omega)
    rw [← e17] at g17
    exact sf_X1_fightIfAllowed h6 h12 g6.1 (by omega) g17.1 (by omega) (fun f18 h18 => day _ _ _ _ _ h18)
theorem sf_X1_drawDays {fc pl row : Nat → Int32} {sd : Int32} (h0 : 0 ≤ h.toInt) (h6 : h.toInt ≤ 6) (n8 : n.toInt ≤ 8) (hw : sLaw ln kd vl) (d1 : d.toInt ≤ 96) (hs : sSits h n row) (hq : ∀ (r : Int32) (fc pl row : Nat → Int32), sSits h n row → Q r fc pl row) : wq_X1_drawDays n h sf X Y ln kd vl sr fc pl row sd d Q :=
  ⟨97, sl_X1_drawDays h0 h6 n8 hw d1 hq 97 fc pl row sd 0 0 hs (by decide) (by decide) (by decide)⟩
end Dr
