/-! the reference does a work -/
abbrev gQ := Int32 → (Nat → Int32) → (Nat → Int32) → (Nat → Int32) → Int32 → Int32 → Prop
abbrev mGw := Int32 → Int32 → Int32 → (Nat → Int32) → (Nat → Int32) → (Nat → Int32) → (Nat → Int32) → (Nat → Int32) → (Nat → Int32) → Int32 → (Nat → Int32) → (Nat → Int32) → (Nat → Int32) → Int32 → Int32 → Int32 → Int32 → gQ → Prop
section GM
variable {NH NF : Nat} {F : Nat → Int} {cs : List (Int × Int)} {sfB : Nat → Bool} {fo fx hr cd oc sp : Nat → Int32} {nh nx ct : Int32}
/-- what the reference looks at while it does a work -/
def evM (NH NF : Nat) (F : Nat → Int) (cs : List (Int × Int)) (sfB : Nat → Bool) (hr : Nat → Int32) (nh nx ct : Int32) (fo fx cd oc : Nat → Int32) : Prop := NH ≤ 6 ∧ NF ≤ 8 ∧ (∀ j : Nat, j < 2 * NF → 0 ≤ F j ∧ F j ≤ 30) ∧ pm (2 * NF) fo F ∧ nh.toInt = (NH : Int) ∧ (∃ (ln : Int32) (kd vl : Nat → Int32), relLc cs ln kd vl ct cd oc) ∧ sfM NF sfB nx fo fx ∧ ∀ h : Nat, h < NH → 0 ≤ (hr (2 * h + 1)).toInt ∧ (hr (2 * h + 1)).toInt ≤ 9
/-- steps from i to j, as r tells -/
def MGo (NH NF : Nat) (hr : Nat → Int32) (nh nx ct : Int32) (fo fx cd oc sp : Nat → Int32) (i j : Nat) (r : rSt → rSt) (R : mGw) : Prop := ∀ (Q : gQ) (σ : rSt) (bg p1 p2 : Int32) (fc st : Nat → Int32), (∃ row : Nat → Int32, rOk NH NF row σ) → bg.toInt = (σ.1 : Nat) → p1.toInt = ((4 * i : Nat) : Int) → p2.toInt = ((4 * j : Nat) : Int) → (∀ (bg : Int32) (fc st : Nat → Int32), bg.toInt = ((r σ).1 : Nat) → σ.1 ≤ (r σ).1 → (∃ row : Nat → Int32, rOk NH NF row (r σ)) → Q bg (r σ).2.1 fc st (r σ).2.2.2 (r σ).2.2.1) → R nh nx ct sp fo fx hr cd oc bg σ.2.1 fc st σ.2.2.2 σ.2.2.1 p1 p2 Q
theorem ix4 {p x k : Int32} {i : Nat} {c : Nat} (hx : x = p + k) (ep : p.toInt = ((4 * i : Nat) : Int)) (ek : k.toInt = (c : Int)) (hb : i ≤ 50) (hc : c ≤ 4) : x.toInt = ((4 * i + c : Nat) : Int) := by
  rw [hx, t_add (by omega) (by omega)]; omega
theorem g_list0 {j i0 : Nat} {T0 : TG Empty} (hE : evM NH NF F cs sfB hr nh nx ct fo fx cd oc) (hj : j ≤ 50) (hij0 : sgR (fun _ _ _ _ => False) sp T0 i0 j) (hwf0 : wfG NH NF (fun _ => False) T0) : MGo NH NF hr nh nx ct fo fx cd oc sp i0 j (rnL F cs sfB hr NH (fun _ σ => σ) T0) wq_X11_goesSteps_r0 := by
  have hC : okR (β := Empty) (fun _ => 0) (fun _ _ _ _ => False) := fun A A' B i j h => h.elim
  obtain ⟨H6, h8, hF, hpm, eh, ⟨ln, kd, vl, hLw⟩, hs, hh⟩ := hE
  have go : ∀ (T : TG Empty) (i : Nat) (Q : gQ) (σ : rSt) (bg p1 p2 : Int32) (fc st : Nat → Int32), sgR (fun _ _ _ _ => False) sp T i j → wfG NH NF (fun _ => False) T → (∃ row : Nat → Int32, rOk NH NF row σ) → bg.toInt = (σ.1 : Nat) → p1.toInt = ((4 * i : Nat) : Int) → p2.toInt = ((4 * j : Nat) : Int) → (∀ (bg : Int32) (fc st : Nat → Int32), bg.toInt = ((rnL F cs sfB hr NH (fun _ σ => σ) T σ).1 : Nat) → σ.1 ≤ (rnL F cs sfB hr NH (fun _ σ => σ) T σ).1 → (∃ row : Nat → Int32, rOk NH NF row (rnL F cs sfB hr NH (fun _ σ => σ) T σ)) → Q bg (rnL F cs sfB hr NH (fun _ σ => σ) T σ).2.1 fc st (rnL F cs sfB hr NH (fun _ σ => σ) T σ).2.2.2 (rnL F cs sfB hr NH (fun _ σ => σ) T σ).2.2.1) → wl_X11_goesSteps_r0_2 nh nx ct sp fo fx hr cd oc Q (T.length + 1) bg σ.2.1 fc st σ.2.2.2 σ.2.2.1 p2 p1 := by
    intro T
    induction T with
    | nil =>
      intro i Q σ bg p1 p2 fc st hij _ hok e1 e2 e3 hq
      have hij : i = j := hij
      refine ⟨fun _ => hq bg fc st e1 (Nat.le_refl _) hok, fun d => ?_⟩
      rw [t_le] at d; omega
    | cons x T ih =>
      intro i Q σ bg p1 p2 fc st hij hwf hok e1 e2 e3 hq
      have hlen := (sr_ok hC sp sp (x :: T) i j hij).1
      have hen : 1 ≤ erL (fun _ => 0) (x :: T) := by
        cases x with
        | inl v => show 1 ≤ 1 + _; omega
        | inr v => show 1 ≤ 1 + _ + _; omega
      refine ⟨fun d => ?_, fun _ => ⟨fun d => ?_, fun d x3 ex3 => ⟨t_in (by omega) (by omega), fun x4 ex4 => ?_⟩⟩⟩
      · rw [t_le] at d; omega
      · rw [t_le, t_200] at d
        have c : 200 ≤ σ.1 := by omega
        rw [rn_full c] at hq
        exact hq bg fc st e1 (Nat.le_refl _) hok
      rw [t_le, t_200] at d
      have c : ¬ 200 ≤ σ.1 := by omega
      rw [rn_cons c] at hq
      obtain ⟨row, hR, hy, h200⟩ := hok
      have q3 : x3.toInt = ((σ.1 + 1 : Nat) : Int) := by rw [ex3, t_inc (by omega), e1]; omega
      rw [t_clamp e2] at ex4
      cases x with
      | inl v =>
        obtain ⟨⟨g1, g2, g3, g4⟩, hT⟩ := hij
        obtain ⟨hv, hwT⟩ := hwf
        have hv3 : 0 ≤ v.1 ∧ v.1 ≤ 3 := by unfold wfL at hv; omega
        refine ⟨fun _ => ⟨t_in (by omega) (by omega), fun x6 e6 x7 e7 => ?_⟩, fun d4 => ?_⟩
        · have k7 := ix4 (c := 1) e7 e2 t_1 (by omega) (by omega)
          refine ⟨t_in (by omega) (by omega), fun x8 e8 x9 e9 => ?_⟩
          have k9 := ix4 (c := 2) e9 e2 t_2 (by omega) (by omega)
          refine ⟨t_in (by omega) (by omega), fun x10 e10 x11 e11 => ?_⟩
          have k11 := ix4 (c := 3) e11 e2 t_3 (by omega) (by omega)
          refine ⟨t_in (by omega) (by omega), fun x12 e12 => ?_⟩
          rw [t_clamp e2] at e6
          rw [t_clamp k7] at e8
          rw [t_clamp k9] at e10
          rw [t_clamp k11] at e12
          refine y_isDone (F := F) (cs := cs) (sfB := sfB) (NH := NH) (NF := NF) (v := v) hF H6 h8 hpm eh hLw hs (rg_of hR.1) hv (by rw [e6]; exact g1) (by rw [e8]; exact g2) (by rw [e10]; exact g3) (by rw [e12]; exact g4) (fun w fc st => ⟨fun d => absurd d (by decide), fun _ x19 e19 x22 e22 => ?_⟩) (fun w fc st => ⟨fun _ x18 e18 x22 e22 => ?_, fun d => absurd rfl d⟩)
          · obtain ⟨d1, d2⟩ := do_ok (F := F) (cs := cs) (sfB := sfB) H6 h8 hh hR hy hv w
            have eN : ndR (β := Empty) F cs sfB hr NH (fun _ σ => σ) (Sum.inl v) σ = (σ.1 + 1, doF sfB hr NH v σ.2.1, σ.2.2.1 + 1, σ.2.2.2) := by
              show lfR F cs sfB hr NH v σ = _
              unfold lfR; rw [if_pos w]
            rw [eN] at hq
            rw [e19]
            obtain ⟨row2, hR2⟩ := d1
            exact ih (i + 1) Q (σ.1 + 1, doF sfB hr NH v σ.2.1, σ.2.2.1 + 1, σ.2.2.2) x3 x22 p2 fc st hT hwT ⟨row2, hR2, d2, by show σ.1 + 1 ≤ 200; omega⟩ q3 (by have := ix4 (c := 4) e22 e2 t_4 (by omega) (by omega); omega) e3 (fun bg fc st y1 y2 y3 => hq bg fc st y1 (by have y2 : σ.1 + 1 ≤ _ := y2; omega) y3)
          · have eN : ndR (β := Empty) F cs sfB hr NH (fun _ σ => σ) (Sum.inl v) σ = (σ.1 + 1, σ.2.1, σ.2.2.1, σ.2.2.2 + 1) := by
              show lfR F cs sfB hr NH v σ = _
              unfold lfR; rw [if_neg (by rw [w]; decide)]
            rw [eN] at hq
            rw [e18]
            exact ih (i + 1) Q (σ.1 + 1, σ.2.1, σ.2.2.1, σ.2.2.2 + 1) x3 x22 p2 fc st hT hwT ⟨row, hR, hy, by show σ.1 + 1 ≤ 200; omega⟩ q3 (by have := ix4 (c := 4) e22 e2 t_4 (by omega) (by omega); omega) e3 (fun bg fc st y1 y2 y3 => hq bg fc st y1 (by have y2 : σ.1 + 1 ≤ _ := y2; omega) y3)
        · rw [ex4] at d4
          rw [d4, t_4] at g1; omega
      | inr v =>
        exact v.2.elim
  intro Q σ bg p1 p2 fc st hok e1 e2 e3 hq
  exact ⟨T0.length + 1, go T0 i0 Q σ bg p1 p2 fc st hij0 hwf0 hok e1 e2 e3 hq⟩
theorem g_list {β : Type} {RB : (Nat → Int32) → β → Nat → Nat → Prop} {eR : β → Nat} {wB : β → Prop} {rB : β → rSt → rSt} {RS : mGw} {j i0 : Nat} {T0 : TG β} (hC : okR eR RB) (hE : evM NH NF F cs sfB hr nh nx ct fo fx cd oc) (hj : j ≤ 50)
    (hB : ∀ (B : β) (i j : Nat), RB sp B i j → wB B → j ≤ 50 → MGo NH NF hr nh nx ct fo fx cd oc sp i j (rB B) RS) (hij0 : sgR RB sp T0 i0 j) (hwf0 : wfG NH NF wB T0) : MGo NH NF hr nh nx ct fo fx cd oc sp i0 j (rnL F cs sfB hr NH rB T0) (wq_X11_goesSteps_g RS) := by
  obtain ⟨H6, h8, hF, hpm, eh, ⟨ln, kd, vl, hLw⟩, hs, hh⟩ := hE
  have go : ∀ (T : TG β) (i : Nat) (Q : gQ) (σ : rSt) (bg p1 p2 : Int32) (fc st : Nat → Int32), sgR RB sp T i j → wfG NH NF wB T → (∃ row : Nat → Int32, rOk NH NF row σ) → bg.toInt = (σ.1 : Nat) → p1.toInt = ((4 * i : Nat) : Int) → p2.toInt = ((4 * j : Nat) : Int) → (∀ (bg : Int32) (fc st : Nat → Int32), bg.toInt = ((rnL F cs sfB hr NH rB T σ).1 : Nat) → σ.1 ≤ (rnL F cs sfB hr NH rB T σ).1 → (∃ row : Nat → Int32, rOk NH NF row (rnL F cs sfB hr NH rB T σ)) → Q bg (rnL F cs sfB hr NH rB T σ).2.1 fc st (rnL F cs sfB hr NH rB T σ).2.2.2 (rnL F cs sfB hr NH rB T σ).2.2.1) → wl_X11_goesSteps_g_2 RS nh nx ct sp fo fx hr cd oc Q (T.length + 1) bg σ.2.1 fc st σ.2.2.2 σ.2.2.1 p2 p1 := by
    intro T
    induction T with
    | nil =>
      intro i Q σ bg p1 p2 fc st hij _ hok e1 e2 e3 hq
      have hij : i = j := hij
      refine ⟨fun _ => hq bg fc st e1 (Nat.le_refl _) hok, fun d => ?_⟩
      rw [t_le] at d; omega
    | cons x T ih =>
      intro i Q σ bg p1 p2 fc st hij hwf hok e1 e2 e3 hq
      have hlen := (sr_ok hC sp sp (x :: T) i j hij).1
      have hen : 1 ≤ erL eR (x :: T) := by
        cases x with
        | inl v => show 1 ≤ 1 + _; omega
        | inr v => show 1 ≤ 1 + _ + _; omega
      refine ⟨fun d => ?_, fun _ => ⟨fun d => ?_, fun d x3 ex3 => ⟨t_in (by omega) (by omega), fun x4 ex4 => ?_⟩⟩⟩
      · rw [t_le] at d; omega
      · rw [t_le, t_200] at d
        have c : 200 ≤ σ.1 := by omega
        rw [rn_full c] at hq
        exact hq bg fc st e1 (Nat.le_refl _) hok
      rw [t_le, t_200] at d
      have c : ¬ 200 ≤ σ.1 := by omega
      rw [rn_cons c] at hq
      obtain ⟨row, hR, hy, h200⟩ := hok
      have q3 : x3.toInt = ((σ.1 + 1 : Nat) : Int) := by rw [ex3, t_inc (by omega), e1]; omega
      rw [t_clamp e2] at ex4
      cases x with
      | inl v =>
        obtain ⟨⟨g1, g2, g3, g4⟩, hT⟩ := hij
        obtain ⟨hv, hwT⟩ := hwf
        have hv3 : 0 ≤ v.1 ∧ v.1 ≤ 3 := by unfold wfL at hv; omega
        refine ⟨fun _ => ⟨t_in (by omega) (by omega), fun x6 e6 x7 e7 => ?_⟩, fun d4 => ?_⟩
        · have k7 := ix4 (c := 1) e7 e2 t_1 (by omega) (by omega)
          refine ⟨t_in (by omega) (by omega), fun x8 e8 x9 e9 => ?_⟩
          have k9 := ix4 (c := 2) e9 e2 t_2 (by omega) (by omega)
          refine ⟨t_in (by omega) (by omega), fun x10 e10 x11 e11 => ?_⟩
          have k11 := ix4 (c := 3) e11 e2 t_3 (by omega) (by omega)
          refine ⟨t_in (by omega) (by omega), fun x12 e12 => ?_⟩
          rw [t_clamp e2] at e6
          rw [t_clamp k7] at e8
          rw [t_clamp k9] at e10
          rw [t_clamp k11] at e12
          refine y_isDone (F := F) (cs := cs) (sfB := sfB) (NH := NH) (NF := NF) (v := v) hF H6 h8 hpm eh hLw hs (rg_of hR.1) hv (by rw [e6]; exact g1) (by rw [e8]; exact g2) (by rw [e10]; exact g3) (by rw [e12]; exact g4) (fun w fc st => ⟨fun d => absurd d (by decide), fun _ x19 e19 x22 e22 => ?_⟩) (fun w fc st => ⟨fun _ x18 e18 x22 e22 => ?_, fun d => absurd rfl d⟩)
          · obtain ⟨d1, d2⟩ := do_ok (F := F) (cs := cs) (sfB := sfB) H6 h8 hh hR hy hv w
            have eN : ndR (β := β) F cs sfB hr NH rB (Sum.inl v) σ = (σ.1 + 1, doF sfB hr NH v σ.2.1, σ.2.2.1 + 1, σ.2.2.2) := by
              show lfR F cs sfB hr NH v σ = _
              unfold lfR; rw [if_pos w]
            rw [eN] at hq
            rw [e19]
            obtain ⟨row2, hR2⟩ := d1
            exact ih (i + 1) Q (σ.1 + 1, doF sfB hr NH v σ.2.1, σ.2.2.1 + 1, σ.2.2.2) x3 x22 p2 fc st hT hwT ⟨row2, hR2, d2, by show σ.1 + 1 ≤ 200; omega⟩ q3 (by have := ix4 (c := 4) e22 e2 t_4 (by omega) (by omega); omega) e3 (fun bg fc st y1 y2 y3 => hq bg fc st y1 (by have y2 : σ.1 + 1 ≤ _ := y2; omega) y3)
          · have eN : ndR (β := β) F cs sfB hr NH rB (Sum.inl v) σ = (σ.1 + 1, σ.2.1, σ.2.2.1, σ.2.2.2 + 1) := by
              show lfR F cs sfB hr NH v σ = _
              unfold lfR; rw [if_neg (by rw [w]; decide)]
            rw [eN] at hq
            rw [e18]
            exact ih (i + 1) Q (σ.1 + 1, σ.2.1, σ.2.2.1, σ.2.2.2 + 1) x3 x22 p2 fc st hT hwT ⟨row, hR, hy, by show σ.1 + 1 ≤ 200; omega⟩ q3 (by have := ix4 (c := 4) e22 e2 t_4 (by omega) (by omega); omega) e3 (fun bg fc st y1 y2 y3 => hq bg fc st y1 (by have y2 : σ.1 + 1 ≤ _ := y2; omega) y3)
        · rw [ex4] at d4
          rw [d4, t_4] at g1; omega
      | inr v =>
        obtain ⟨e, ⟨g1, g2, g3⟩, hRBs, hT⟩ := hij
        obtain ⟨⟨v0, v40, hwB⟩, hwT⟩ := hwf
        have hje := (sr_ok hC sp sp T e j hT).1
        have hie := (hC sp sp v.2 (i + 1) e hRBs).1
        have hG := hB v.2 (i + 1) e hRBs hwB (by omega)
        refine ⟨fun d4 => absurd (t_eq.mpr (by rw [ex4, g1, t_4])) d4, fun _ x20 e20 => ?_⟩
        have k20 := ix4 (c := 2) e20 e2 t_2 (by omega) (by omega)
        refine ⟨t_in (by omega) (by omega), fun x21 e21 => ⟨v.1.toNat + 1, ?_⟩⟩
        rw [t_clamp k20] at e21
        have k21 : x21.toInt = ((4 * e : Nat) : Int) := by rw [e21]; exact g3
        have rest : ∀ (τ : rSt) (bg : Int32) (fc st : Nat → Int32), τ = ndR F cs sfB hr NH rB (Sum.inr v) σ → (∃ row : Nat → Int32, rOk NH NF row τ) → σ.1 + 1 ≤ τ.1 → bg.toInt = (τ.1 : Nat) → wb_X11_goesSteps_g_88 RS nh nx ct sp fo fx hr cd oc Q (fun v0_begun f0_s f0_facts f0_stack v0_refusedNow v0_done l2 l3 => wl_X11_goesSteps_g_2 RS nh nx ct sp fo fx hr cd oc Q (T.length + 1) v0_begun f0_s f0_facts f0_stack v0_refusedNow v0_done l2 l3) bg τ.2.1 fc st τ.2.2.2 τ.2.2.1 p2 x21 := fun τ bg fc st eτ hok z0 z1 => by
          rw [← eτ] at hq
          exact ih e Q τ bg x21 p2 fc st hT hwT hok z1 k21 e3 (fun bg fc st y1 y2 y3 => hq bg fc st y1 (by omega) y3)
        have go2 : ∀ (t : Nat) (τ : rSt) (bg l5 : Int32) (fc st : Nat → Int32), itN (rB v.2) t τ = ndR F cs sfB hr NH rB (Sum.inr v) σ → (∃ row : Nat → Int32, rOk NH NF row τ) → σ.1 + 1 ≤ τ.1 → bg.toInt = (τ.1 : Nat) → l5.toInt + (t : Int) = v.1 → 0 ≤ l5.toInt → wl_X11_goesSteps_g_50 RS nh nx ct sp fo fx hr cd oc Q (fun v0_begun f0_s f0_facts f0_stack v0_refusedNow v0_done l2 l3 => wl_X11_goesSteps_g_2 RS nh nx ct sp fo fx hr cd oc Q (T.length + 1) v0_begun f0_s f0_facts f0_stack v0_refusedNow v0_done l2 l3) (t + 1) bg τ.2.1 fc st τ.2.2.2 τ.2.2.1 p2 p1 x21 l5 := by
          intro t
          induction t with
          | zero =>
            intro τ bg l5 fc st eτ hok z0 z1 z2 z3 x23 e23
            have k23 := ix4 (c := 1) e23 e2 t_1 (by omega) (by omega)
            refine ⟨t_in (by omega) (by omega), fun x24 e24 => ⟨fun _ => rest τ bg fc st eτ hok z0 z1, fun d => ?_⟩⟩
            rw [t_clamp k23] at e24
            rw [t_le, e24, g2] at d; omega
          | succ t iht =>
            intro τ bg l5 fc st eτ hok z0 z1 z2 z3 x23 e23
            have k23 := ix4 (c := 1) e23 e2 t_1 (by omega) (by omega)
            refine ⟨t_in (by omega) (by omega), fun x24 e24 => ⟨fun d => ?_, fun _ => ⟨fun d => ?_, fun d x27 e27 => ?_⟩⟩⟩
            · rw [t_clamp k23] at e24
              rw [t_le, e24, g2] at d; omega
            · rw [t_le, t_200] at d
              have cf : 200 ≤ τ.1 := by omega
              rw [it_full cf] at eτ
              exact rest τ bg fc st eτ hok z0 z1
            · rw [t_le, t_200] at d
              rw [it_s (by omega)] at eτ
              have k27 := ix4 (c := 4) e27 e2 t_4 (by omega) (by omega)
              exact hG _ τ bg x27 x21 fc st hok z1 (by rw [k27]; omega) k21 (fun bg fc st y1 y2 y3 x34 e34 => iht (rB v.2 τ) bg x34 fc st eτ y3 (by omega) y1 (by rw [e34, t_inc (by omega)]; omega) (by rw [e34, t_inc (by omega)]; omega))
        exact go2 v.1.toNat (σ.1 + 1, σ.2) x3 0 fc st rfl ⟨row, hR, hy, by show σ.1 + 1 ≤ 200; omega⟩ (Nat.le_refl _) q3 (by rw [t_0]; omega) (by rw [t_0]; decide)
  intro Q σ bg p1 p2 fc st hok e1 e2 e3 hq
  exact ⟨T0.length + 1, go T0 i0 Q σ bg p1 p2 fc st hij0 hwf0 hok e1 e2 e3 hq⟩
theorem g_0 (hE : evM NH NF F cs sfB hr nh nx ct fo fx cd oc) : ∀ (B : TT 0) (i j : Nat), rN 0 sp B i j → wfN NH NF 0 B → j ≤ 50 → MGo NH NF hr nh nx ct fo fx cd oc sp i j (ruN F cs sfB hr NH 0 B) wq_X11_goesSteps_r0 := fun B i j h1 h2 h3 => g_list0 (T0 := B) hE h3 h1 h2
theorem g_1 (hE : evM NH NF F cs sfB hr nh nx ct fo fx cd oc) : ∀ (B : TT 1) (i j : Nat), rN 1 sp B i j → wfN NH NF 1 B → j ≤ 50 → MGo NH NF hr nh nx ct fo fx cd oc sp i j (ruN F cs sfB hr NH 1 B) wq_X11_goesSteps_r1 := fun B i j h1 h2 h3 => g_list (β := TT 0) (RB := rN 0) (eR := erN 0) (wB := wfN NH NF 0) (rB := ruN F cs sfB hr NH 0) (T0 := B) (rN_ok 0) hE h3 (g_0 hE) h1 h2
theorem g_2 (hE : evM NH NF F cs sfB hr nh nx ct fo fx cd oc) : ∀ (B : TT 2) (i j : Nat), rN 2 sp B i j → wfN NH NF 2 B → j ≤ 50 → MGo NH NF hr nh nx ct fo fx cd oc sp i j (ruN F cs sfB hr NH 2 B) wq_X11_goesSteps_r2 := fun B i j h1 h2 h3 => g_list (β := TT 1) (RB := rN 1) (eR := erN 1) (wB := wfN NH NF 1) (rB := ruN F cs sfB hr NH 1) (T0 := B) (rN_ok 1) hE h3 (g_1 hE) h1 h2
theorem g_3 (hE : evM NH NF F cs sfB hr nh nx ct fo fx cd oc) : ∀ (B : TT 3) (i j : Nat), rN 3 sp B i j → wfN NH NF 3 B → j ≤ 50 → MGo NH NF hr nh nx ct fo fx cd oc sp i j (ruN F cs sfB hr NH 3 B) wq_X11_goesSteps_r3 := fun B i j h1 h2 h3 => g_list (β := TT 2) (RB := rN 2) (eR := erN 2) (wB := wfN NH NF 2) (rB := ruN F cs sfB hr NH 2) (T0 := B) (rN_ok 2) hE h3 (g_2 hE) h1 h2
theorem g_4 (hE : evM NH NF F cs sfB hr nh nx ct fo fx cd oc) : ∀ (B : TT 4) (i j : Nat), rN 4 sp B i j → wfN NH NF 4 B → j ≤ 50 → MGo NH NF hr nh nx ct fo fx cd oc sp i j (ruN F cs sfB hr NH 4 B) wq_X11_goesSteps_r4 := fun B i j h1 h2 h3 => g_list (β := TT 3) (RB := rN 3) (eR := erN 3) (wB := wfN NH NF 3) (rB := ruN F cs sfB hr NH 3) (T0 := B) (rN_ok 3) hE h3 (g_3 hE) h1 h2
theorem g_5 (hE : evM NH NF F cs sfB hr nh nx ct fo fx cd oc) : ∀ (B : TT 5) (i j : Nat), rN 5 sp B i j → wfN NH NF 5 B → j ≤ 50 → MGo NH NF hr nh nx ct fo fx cd oc sp i j (ruN F cs sfB hr NH 5 B) wq_X11_goesSteps_r5 := fun B i j h1 h2 h3 => g_list (β := TT 4) (RB := rN 4) (eR := erN 4) (wB := wfN NH NF 4) (rB := ruN F cs sfB hr NH 4) (T0 := B) (rN_ok 4) hE h3 (g_4 hE) h1 h2
theorem g_6 (hE : evM NH NF F cs sfB hr nh nx ct fo fx cd oc) : ∀ (B : TT 6) (i j : Nat), rN 6 sp B i j → wfN NH NF 6 B → j ≤ 50 → MGo NH NF hr nh nx ct fo fx cd oc sp i j (ruN F cs sfB hr NH 6 B) wq_X11_goesSteps_r6 := fun B i j h1 h2 h3 => g_list (β := TT 5) (RB := rN 5) (eR := erN 5) (wB := wfN NH NF 5) (rB := ruN F cs sfB hr NH 5) (T0 := B) (rN_ok 5) hE h3 (g_5 hE) h1 h2
end GM
