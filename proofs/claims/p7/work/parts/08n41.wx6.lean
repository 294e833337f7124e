/-! the class does a work -/
abbrev rQ := Int32 → Int32 → Int32 → (Nat → Int32) → (Nat → Int32) → (Nat → Int32) → (Nat → Int32) → Prop
/-- both rows, and how much is begun -/
def rOk (NH NF : Nat) (row : Nat → Int32) (σ : rSt) : Prop := relN NH NF row σ.2.1 ∧ yrOk σ.2.1 ∧ σ.1 ≤ 200
section RC
variable {NH NF : Nat} {F : Nat → Int} {cs : List (Int × Int)} {sfB : Nat → Bool} {hr sr X Y lk lv : Nat → Int32} {nh sf ln L : Int32} {A : wA} {Q : rQ}
/-- what the class looks at while it does a work -/
def evC (NH NF : Nat) (F : Nat → Int) (cs : List (Int × Int)) (sfB : Nat → Bool) (hr : Nat → Int32) (nh sf ln : Int32) (X Y lk lv sr : Nat → Int32) : Prop := NH ≤ 6 ∧ NF ≤ 8 ∧ (∀ j : Nat, j < 2 * NF → 0 ≤ F j ∧ F j ≤ 30) ∧ pr NF X Y F ∧ nh.toInt = (NH : Int) ∧ (∃ (ct : Int32) (cd oc : Nat → Int32), relLc cs ln lk lv ct cd oc) ∧ sf = Int32.ofNat (orN sfB NF) ∧ relH NH sr hr
def rlA (L nh sf ln : Int32) (A : wA) (X Y lk lv sr : Nat → Int32) (Q : rQ) (k : Nat) (dn rf op : Int32) (fc pl row rd : Nat → Int32) (l2 l3 l4 : Int32) : Prop := wl_X9_runOn_22 L A.1 A.2.1 A.2.2.1 nh sf X Y ln lk lv A.2.2.2 sr Q k dn rf op fc pl row rd l2 l3 l4
/-- the loop of the class, reached behind steps that r tells -/
def RBk (NH NF : Nat) (L nh sf ln : Int32) (A : wA) (X Y lk lv sr : Nat → Int32) (Q : rQ) (o : Nat) (i j : Nat) (r : rSt → rSt) : Prop :=
  ∀ (k : Nat) (σ : rSt) (op : Int32) (fc pl row rd : Nat → Int32) (l2 l3 l4 : Int32), rOk NH NF row σ → op.toInt = (o : Int) → l2.toInt = (σ.1 : Nat) → l3.toInt = (i : Int) → (k : Int) + l4.toInt = 20001 → 0 ≤ l4.toInt → l4.toInt + 41 * (200 - (σ.1 : Int)) ≤ 19000 →
  (200 ≤ (r σ).1 → ∀ (op : Int32) (fc pl row rd : Nat → Int32), rOk NH NF row (r σ) → Q (r σ).2.2.1 (r σ).2.2.2 op fc pl row rd) →
  (¬ 200 ≤ (r σ).1 → σ.1 ≤ (r σ).1 → ∀ (k : Nat) (op : Int32) (fc pl row rd' : Nat → Int32) (l2 l3 l4' : Int32), rOk NH NF row (r σ) → op.toInt = (o : Int) → l2.toInt = ((r σ).1 : Nat) → l3.toInt = (j : Int) → (k : Int) + l4'.toInt = 20001 → 0 ≤ l4'.toInt → l4'.toInt ≤ l4.toInt + 41 * (((r σ).1 : Int) - (σ.1 : Int)) → (∀ q : Nat, q < o → rd' q = rd q) → rlA L nh sf ln A X Y lk lv sr Q k (r σ).2.2.1 (r σ).2.2.2 op fc pl row rd' l2 l3 l4') →
  rlA L nh sf ln A X Y lk lv sr Q k σ.2.2.1 σ.2.2.2 op fc pl row rd l2 l3 l4
theorem r_full {k : Nat} {σ : rSt} {op l2 l3 l4 : Int32} {fc pl row rd : Nat → Int32} (h : 200 ≤ σ.1) (h2 : l2.toInt = (σ.1 : Nat)) (hk : 1 ≤ k) (hq : Q σ.2.2.1 σ.2.2.2 op fc pl row rd) : rlA L nh sf ln A X Y lk lv sr Q k σ.2.2.1 σ.2.2.2 op fc pl row rd l2 l3 l4 := by
  obtain ⟨k, rfl⟩ : ∃ j : Nat, k = j + 1 := ⟨k - 1, by omega⟩
  refine ⟨fun _ => hq, fun _ => ⟨fun _ => hq, fun c => ?_⟩⟩
  rw [t_le, t_200] at c; omega
theorem t_20000 : (20000 : Int32).toInt = 20000 := by decide
/-- steps in a row, at a depth; each loop's block is done by what stands in its place -/
theorem r_list {β : Type} {CB : wA → β → Nat → Nat → Prop} {eB : β → Nat} {wB : β → Prop} {rB : β → rSt → rSt} {o : Nat} (hC : okC eB CB) (hE : evC NH NF F cs sfB hr nh sf ln X Y lk lv sr) (hL : L.toInt ≤ 50) (ho : o ≤ 6)
    (hB : ∀ (B : β) (i j : Nat), CB A B i j → wB B → (j : Int) ≤ L.toInt → o < 6 ∧ RBk NH NF L nh sf ln A X Y lk lv sr Q (o + 1) i j (rB B)) :
    ∀ (T : TG β) (i j : Nat), sgC CB A T i j → wfG NH NF wB T → (j : Int) ≤ L.toInt → RBk NH NF L nh sf ln A X Y lk lv sr Q o i j (rnL F cs sfB hr NH rB T) := by
  obtain ⟨H6, h8, hF, hpr, eh, ⟨ct, cd, oc, hLw⟩, hs, hh⟩ := hE
  have hh2 : ∀ h : Nat, h < NH → 0 ≤ (hr (2 * h + 1)).toInt ∧ (hr (2 * h + 1)).toInt ≤ 9 := fun h hq => by
    have g := hh h hq
    rw [← g.1]; exact g.2
  have t5 := t_5
  intro T
  induction T with
  | nil =>
    intro i j hij _ hjL k σ op fc pl row rd l2 l3 l4 hok eo e2 e3 hk hl0 hbud qx qc
    have hij : i = j := hij
    by_cases c : 200 ≤ σ.1
    · exact r_full c e2 (by have := hok.2.2; omega) (qx c op fc pl row rd hok)
    · exact qc c (Nat.le_refl _) k op fc pl row rd l2 l3 l4 hok eo e2 (by rw [e3, hij]) hk hl0 (by show l4.toInt ≤ l4.toInt + 41 * ((σ.1 : Int) - (σ.1 : Int)); omega) (fun _ _ => rfl)
  | cons x T ih =>
    intro i j hij hwf hjL k σ op fc pl row rd l2 l3 l4 hok eo e2 e3 hk hl0 hbud qx qc
    by_cases c : 200 ≤ σ.1
    · rw [rn_full c] at qx
      exact r_full c e2 (by have := hok.2.2; omega) (qx c op fc pl row rd hok)
    · have hlen := (sg_ok hC A A (x :: T) i j hij).1
      have hen : 1 ≤ enL eB (x :: T) := by
        cases x with
        | inl v => show 1 ≤ 1 + enL eB T; omega
        | inr v => show 1 ≤ 2 + eB v.2 + enL eB T; omega
      rw [rn_cons c] at qx qc
      obtain ⟨k, rfl⟩ : ∃ m : Nat, k = m + 1 := ⟨k - 1, by omega⟩
      obtain ⟨hR, hy, h200⟩ := hok
      refine ⟨fun d => ?_, fun _ => ⟨fun d => ?_, fun _ => ⟨fun d => ?_, fun _ => ⟨t_in (by omega) (by omega), fun x4 e4 => ?_⟩⟩⟩⟩
      · rw [t_le, t_20000] at d; omega
      · rw [t_le, t_200] at d; omega
      · rw [t_le] at d; omega
      rw [t_clamp e3] at e4
      cases x with
      | inl v =>
        obtain ⟨⟨g1, g2, g3, g4⟩, hT⟩ := hij
        obtain ⟨hv, hwT⟩ := hwf
        have hv3 : 0 ≤ v.1 ∧ v.1 ≤ 3 := by unfold wfL at hv; omega
        refine ⟨fun _ x6 e6 => ⟨t_in (by omega) (by omega), fun x7 e7 => ⟨fun _ => ?_, fun d => ?_⟩⟩, fun d => ?_⟩
        · have q6 : x6.toInt = ((σ.1 + 1 : Nat) : Int) := by rw [e6, t_inc (by omega), e2]; omega
          refine c_allowed (F := F) (cs := cs) (v := v) (A := A) (i := i) hF H6 h8 hpr eh hLw hR hy hv e3 (by omega) g1 g2 g3 g4 (fun w fc pl => ⟨fun d => absurd d (by decide), fun _ => ?_⟩) (fun w fc pl => ⟨fun _ x13 e13 x22 e22 x23 e23 => ?_, fun d => absurd rfl d⟩)
          · obtain ⟨d1, d2⟩ := do_ok (F := F) (cs := cs) (sfB := sfB) H6 h8 hh2 hR hy hv w
            refine c_do (cs := cs) (F := F) (v := v) (A := A) (i := i) H6 h8 eh hs hh hR hv w e3 (by omega) g1 g2 g3 g4 (fun r hr2 x15 e15 x22 e22 x23 e23 => ?_)
            have eN : ndR F cs sfB hr NH rB (Sum.inl v) σ = (σ.1 + 1, doF sfB hr NH v σ.2.1, σ.2.2.1 + 1, σ.2.2.2) := by
              show lfR F cs sfB hr NH v σ = _
              unfold lfR; rw [if_pos w]
            rw [eN] at qx qc
            rw [e15]
            have q23 : x23.toInt = l4.toInt + 1 := by rw [e23]; exact t_inc (by omega)
            refine ih (i + 1) j hT hwT hjL k (σ.1 + 1, doF sfB hr NH v σ.2.1, σ.2.2.1 + 1, σ.2.2.2) op fc pl r rd x6 x22 x23 ⟨hr2, d2, by show σ.1 + 1 ≤ 200; omega⟩ eo q6 (by rw [e22, t_inc (by omega), e3]; omega) (by omega) (by omega) (by show x23.toInt + 41 * (200 - ((σ.1 + 1 : Nat) : Int)) ≤ 19000; omega) qx (fun y1 y2 k op fc pl row rd' l2 l3 l4' z1 z2 z3 z4 z5 z6 z7 z8 => qc y1 (by have y2 : σ.1 + 1 ≤ _ := y2; omega) k op fc pl row rd' l2 l3 l4' z1 z2 z3 z4 z5 z6 (by have z7 : l4'.toInt ≤ x23.toInt + 41 * (_ - ((σ.1 + 1 : Nat) : Int)) := z7; omega) z8)
          · have eN : ndR F cs sfB hr NH rB (Sum.inl v) σ = (σ.1 + 1, σ.2.1, σ.2.2.1, σ.2.2.2 + 1) := by
              show lfR F cs sfB hr NH v σ = _
              unfold lfR; rw [if_neg (by rw [w]; decide)]
            rw [eN] at qx qc
            rw [e13]
            have q23 : x23.toInt = l4.toInt + 1 := by rw [e23]; exact t_inc (by omega)
            refine ih (i + 1) j hT hwT hjL k (σ.1 + 1, σ.2.1, σ.2.2.1, σ.2.2.2 + 1) op fc pl row rd x6 x22 x23 ⟨hR, hy, by show σ.1 + 1 ≤ 200; omega⟩ eo q6 (by rw [e22, t_inc (by omega), e3]; omega) (by omega) (by omega) (by show x23.toInt + 41 * (200 - ((σ.1 + 1 : Nat) : Int)) ≤ 19000; omega) qx (fun y1 y2 k op fc pl row rd' l2 l3 l4' z1 z2 z3 z4 z5 z6 z7 z8 => qc y1 (by have y2 : σ.1 + 1 ≤ _ := y2; omega) k op fc pl row rd' l2 l3 l4' z1 z2 z3 z4 z5 z6 (by have z7 : l4'.toInt ≤ x23.toInt + 41 * (_ - ((σ.1 + 1 : Nat) : Int)) := z7; omega) z8)
        · rw [e7, t_clamp e3] at d
          rw [d, t_4] at g1; omega
        · rw [e4] at d
          rw [d, t5] at g1; omega
      | inr v =>
        obtain ⟨e, ⟨g1, g2, g3, g4, g5⟩, hCB, hT⟩ := hij
        obtain ⟨⟨v0, v40, hwB⟩, hwT⟩ := hwf
        have hje := (sg_ok hC A A T (e + 1) j hT).1
        have hie := (hC A A v.2 (i + 1) e hCB).1
        obtain ⟨ho6, hRB⟩ := hB v.2 (i + 1) e hCB hwB (by omega)
        refine ⟨fun _ x6 e6 => ⟨t_in (by omega) (by omega), fun x7 e7 => ⟨fun d => ?_, fun _ => ⟨t_in (by omega) (by omega), fun x1 e1 => ?_⟩⟩⟩, fun d => ?_⟩
        · rw [e7, t_clamp e3] at d
          exact absurd (t_eq.mpr (by rw [g1, t_4])) d
        · have q6 : x6.toInt = ((σ.1 + 1 : Nat) : Int) := by rw [e6, t_inc (by omega), e2]; omega
          rw [t_clamp e3] at e1
          -- behind the loop
          have rest : ∀ (τ : rSt), τ = ndR F cs sfB hr NH rB (Sum.inr v) σ → ∀ (k : Nat) (op : Int32) (fc pl row rd' : Nat → Int32) (l2 l3 l4' : Int32), rOk NH NF row τ → σ.1 + 1 ≤ τ.1 → op.toInt = (o : Int) → l2.toInt = (τ.1 : Nat) → l3.toInt = ((e + 1 : Nat) : Int) → (k : Int) + l4'.toInt = 20001 → 0 ≤ l4'.toInt → l4'.toInt ≤ l4.toInt + 41 * ((τ.1 : Int) - (σ.1 : Int)) → (∀ q : Nat, q < o → rd' q = rd q) → rlA L nh sf ln A X Y lk lv sr Q k τ.2.2.1 τ.2.2.2 op fc pl row rd' l2 l3 l4' := fun τ eτ k op fc pl row rd' l2 l3 l4' z1 z0 z2 z3 z4 z5 z6 z7 z8 => by
            rw [← eτ] at qx qc
            exact ih (e + 1) j hT hwT hjL k τ op fc pl row rd' l2 l3 l4' z1 z2 z3 z4 z5 z6 (by omega) qx (fun y1 y2 k op fc pl row rd2 l2 l3 l42 w1 w2 w3 w4 w5 w6 w7 w8 => qc y1 (by omega) k op fc pl row rd2 l2 l3 l42 w1 w2 w3 w4 w5 w6 (by omega) (fun q hq => (w8 q hq).trans (z8 q hq)))
          have t40 : v.1.toNat ≤ 40 := by omega
          refine ⟨fun d => ⟨t_in (by omega) (by omega), fun x5 e5 x23 e23 => ?_⟩, fun d => ⟨fun _ => ⟨t_in (by omega) (by omega), fun x5 e5 => ⟨t_in (by omega) (by omega), fun f5 ef5 x8 e8 x23 e23 => ?_⟩⟩, fun d2 => ?_⟩⟩
          · rw [t_clamp e3] at e5
            have z : v.1.toNat = 0 := by rw [e1, t_eq, g2, t_0] at d; omega
            have q23 : x23.toInt = l4.toInt + 1 := by rw [e23]; exact t_inc (by omega)
            have eN : (σ.1 + 1, σ.2) = ndR F cs sfB hr NH rB (Sum.inr v) σ := by
              show _ = itN (rB v.2) v.1.toNat (σ.1 + 1, σ.2)
              rw [z]; rfl
            have q5 := g3
            rw [← e5] at q5
            refine rest (σ.1 + 1, σ.2) eN k op fc pl row rd x6 (x5 + 1) x23 ⟨hR, hy, by show σ.1 + 1 ≤ 200; omega⟩ (Nat.le_refl _) eo q6 (by rw [t_inc (by omega), q5]; omega) (by omega) (by omega) (by show x23.toInt ≤ l4.toInt + 41 * (((σ.1 + 1 : Nat) : Int) - (σ.1 : Int)); omega) (fun _ _ => rfl)
          · -- rounds
            rw [t_clamp e3] at e5
            rw [t_clamp eo] at ef5
            have q23 : x23.toInt = l4.toInt + 1 := by rw [e23]; exact t_inc (by omega)
            have q8 : x8.toInt = ((o + 1 : Nat) : Int) := by rw [e8, t_inc (by omega), eo]; omega
            have z : v.1.toNat ≠ 0 := fun z => d (by rw [e1, t_eq, g2, t_0]; omega)
            have go : ∀ (t : Nat) (k : Nat) (τ : rSt) (op : Int32) (fc pl row rd' : Nat → Int32) (l2 l3 l4' : Int32), itN (rB v.2) (t + 1) τ = ndR F cs sfB hr NH rB (Sum.inr v) σ → t + 1 ≤ 40 → rOk NH NF row τ → σ.1 + 1 ≤ τ.1 → op.toInt = ((o + 1 : Nat) : Int) → l2.toInt = (τ.1 : Nat) → l3.toInt = ((i + 1 : Nat) : Int) → (k : Int) + l4'.toInt = 20001 → 0 ≤ l4'.toInt → l4'.toInt ≤ l4.toInt + 1 + 41 * ((τ.1 : Int) - (σ.1 : Int) - 1) + (40 - ((t + 1 : Nat) : Int)) → (rd' o).toInt = ((t + 1 : Nat) : Int) → (∀ q : Nat, q < o → rd' q = rd q) → rlA L nh sf ln A X Y lk lv sr Q k τ.2.2.1 τ.2.2.2 op fc pl row rd' l2 l3 l4' := by
              intro t
              induction t with
              | zero =>
                intro k τ op fc pl row rd' l2 l3 l4' eτ h40 z1 z0 z2 z3 z4 z5 z6 z7 z9 z8
                by_cases cf : 200 ≤ τ.1
                · rw [it_full cf] at eτ
                  rw [← eτ, rn_full cf] at qx
                  exact r_full cf z3 (by have := z1.2.2; omega) (qx cf op fc pl row rd' z1)
                rw [it_s cf] at eτ
                have eτ : rB v.2 τ = ndR F cs sfB hr NH rB (Sum.inr v) σ := eτ
                refine hRB k τ op fc pl row rd' l2 l3 l4' z1 z2 z3 z4 z5 z6 (by omega) (fun y1 op fc pl row rd2 w1 => ?_) (fun y1 y2 k op fc pl row rd2 l2 l3 l42 w1 w2 w3 w4 w5 w6 w7 w8 => ?_)
                · rw [← eτ, rn_full y1] at qx
                  exact qx y1 op fc pl row rd2 w1
                · obtain ⟨k, rfl⟩ : ∃ m : Nat, k = m + 1 := ⟨k - 1, by omega⟩
                  have h20 := w1.2.2
                  refine ⟨fun d => ?_, fun _ => ⟨fun d => ?_, fun _ => ⟨fun d => ?_, fun _ => ⟨t_in (by omega) (by omega), fun y4 ey4 => ⟨fun d => ?_, fun _ => ⟨fun _ a1 ea1 => ?_, fun d => ?_⟩⟩⟩⟩⟩⟩
                  · rw [t_le, t_20000] at d; omega
                  · rw [t_le, t_200] at d; omega
                  · rw [t_le] at d; omega
                  · rw [ey4, t_clamp w4] at d
                    exact absurd (t_eq.mpr (by rw [g4, t5])) d
                  · have k1 : a1.toInt = (o : Int) := by rw [ea1, t_pred (by omega), w2]; omega
                    refine ⟨t_in (by omega) (by omega), fun a3 ea3 a4 ea4 => ⟨t_in (by omega) (by omega), fun f6 ef6 a6 ea6 => ?_⟩⟩
                    have k6 : a6.toInt = (o : Int) := by rw [ea6, t_pred (by omega), w2]; omega
                    refine ⟨t_in (by omega) (by omega), fun a7 ea7 => ?_⟩
                    rw [t_clamp k1] at ea3 ef6
                    rw [t_clamp k6, ef6, pk_us] at ea7
                    have r3 : a3.toInt = ((0 + 1 : Nat) : Int) := by rw [ea3, w8 o (by omega)]; exact z9
                    have r7 : a7.toInt = 0 := by rw [ea7, ea4, t_pred (by omega), r3]; rfl
                    refine ⟨fun _ a9 ea9 b23 eb23 => ?_, fun d => ?_⟩
                    · have k9 : a9.toInt = (o : Int) := by rw [ea9, t_pred (by omega), w2]; omega
                      have qb : b23.toInt = l42.toInt + 1 := by rw [eb23]; exact t_inc (by omega)
                      refine rest (rB v.2 τ) eτ k a9 fc pl row f6 l2 (l3 + 1) b23 w1 (by omega) k9 w3 (by rw [t_inc (by omega), w4]; omega) (by omega) (by omega) (by omega) (fun q hq => by rw [ef6, pk_un (by omega), w8 q (by omega)]; exact z8 q hq)
                    · rw [t_le, t_0, r7] at d
                      exact absurd (Int.le_refl 0) d
                  · rw [t_eq, t_0] at d; omega
              | succ t iht =>
                intro k τ op fc pl row rd' l2 l3 l4' eτ h40 z1 z0 z2 z3 z4 z5 z6 z7 z9 z8
                by_cases cf : 200 ≤ τ.1
                · rw [it_full cf] at eτ
                  rw [← eτ, rn_full cf] at qx
                  exact r_full cf z3 (by have := z1.2.2; omega) (qx cf op fc pl row rd' z1)
                rw [it_s cf] at eτ
                refine hRB k τ op fc pl row rd' l2 l3 l4' z1 z2 z3 z4 z5 z6 (by omega) (fun y1 op fc pl row rd2 w1 => ?_) (fun y1 y2 k op fc pl row rd2 l2 l3 l42 w1 w2 w3 w4 w5 w6 w7 w8 => ?_)
                · rw [it_full y1] at eτ
                  rw [← eτ, rn_full y1] at qx
                  exact qx y1 op fc pl row rd2 w1
                · obtain ⟨k, rfl⟩ : ∃ m : Nat, k = m + 1 := ⟨k - 1, by omega⟩
                  have h20 := w1.2.2
                  refine ⟨fun d => ?_, fun _ => ⟨fun d => ?_, fun _ => ⟨fun d => ?_, fun _ => ⟨t_in (by omega) (by omega), fun y4 ey4 => ⟨fun d => ?_, fun _ => ⟨fun _ a1 ea1 => ?_, fun d => ?_⟩⟩⟩⟩⟩⟩
                  · rw [t_le, t_20000] at d; omega
                  · rw [t_le, t_200] at d; omega
                  · rw [t_le] at d; omega
                  · rw [ey4, t_clamp w4] at d
                    exact absurd (t_eq.mpr (by rw [g4, t5])) d
                  · have k1 : a1.toInt = (o : Int) := by rw [ea1, t_pred (by omega), w2]; omega
                    refine ⟨t_in (by omega) (by omega), fun a3 ea3 a4 ea4 => ⟨t_in (by omega) (by omega), fun f6 ef6 a6 ea6 => ?_⟩⟩
                    have k6 : a6.toInt = (o : Int) := by rw [ea6, t_pred (by omega), w2]; omega
                    refine ⟨t_in (by omega) (by omega), fun a7 ea7 => ?_⟩
                    rw [t_clamp k1] at ea3 ef6
                    rw [t_clamp k6, ef6, pk_us] at ea7
                    have r3 : a3.toInt = ((t + 1 + 1 : Nat) : Int) := by rw [ea3, w8 o (by omega)]; exact z9
                    have r7 : a7.toInt = ((t + 1 : Nat) : Int) := by rw [ea7, ea4, t_pred (by omega), r3]; omega
                    refine ⟨fun d => ?_, fun _ => ⟨t_in (by omega) (by omega), fun a10 ea10 b23 eb23 => ?_⟩⟩
                    · rw [t_le, t_0, r7] at d; omega
                    · have qb : b23.toInt = l42.toInt + 1 := by rw [eb23]; exact t_inc (by omega)
                      rw [t_clamp w4] at ea10
                      have q10 := g5
                      rw [← ea10] at q10
                      refine iht k (rB v.2 τ) op fc pl row f6 l2 (a10 + 1) b23 eτ (by omega) w1 (by omega) w2 w3 (by rw [t_inc (by omega), q10]; omega) (by omega) (by omega) (by omega) (by rw [ef6, pk_us, ← ea7]; exact r7) (fun q hq => by rw [ef6, pk_un (by omega), w8 q (by omega)]; exact z8 q hq)
                  · rw [t_eq, t_0] at d; omega
            obtain ⟨t, et⟩ : ∃ t : Nat, v.1.toNat = t + 1 := ⟨v.1.toNat - 1, by omega⟩
            refine go t k (σ.1 + 1, σ.2) x8 fc pl row f5 x6 (l3 + 1) x23 (by rw [← et]; rfl) (by omega) ⟨hR, hy, by show σ.1 + 1 ≤ 200; omega⟩ (Nat.le_refl _) q8 q6 (by rw [t_inc (by omega), e3]; omega) (by omega) (by omega) (by show x23.toInt ≤ l4.toInt + 1 + 41 * (((σ.1 + 1 : Nat) : Int) - (σ.1 : Int) - 1) + (40 - ((t + 1 : Nat) : Int)); omega) (by rw [ef5, pk_us, e5, g2]; omega) (fun q hq => by rw [ef5, pk_un (by omega)])
          · rw [t_lt, t_6] at d2; omega
        · rw [e4] at d
          rw [d, t5] at g1
          exact absurd g1 (by decide)
/-- blocks of all depths -/
theorem r_ruN (hE : evC NH NF F cs sfB hr nh sf ln X Y lk lv sr) (hL : L.toInt ≤ 50) : ∀ (m : Nat), m ≤ 6 → ∀ (B : TT m) (i j : Nat), cN m A B i j → wfN NH NF m B → (j : Int) ≤ L.toInt → RBk NH NF L nh sf ln A X Y lk lv sr Q (6 - m) i j (ruN F cs sfB hr NH m B) := by
  intro m
  induction m with
  | zero => exact fun _ B i j h1 h2 h3 => r_list (β := Empty) (eB := fun _ => 0) (CB := fun _ _ _ _ => False) (wB := fun _ => False) (rB := fun _ σ => σ) (o := 6) (fun A A' B i j h => h.elim) hE hL (by omega) (fun B i j h => h.elim) B i j h1 h2 h3
  | succ m ih =>
    exact fun hm B i j h1 h2 h3 => r_list (β := TT m) (eB := enN m) (CB := cN m) (wB := wfN NH NF m) (rB := ruN F cs sfB hr NH m) (o := 6 - (m + 1)) (cN_ok m) hE hL (by omega) (fun B i j g1 g2 g3 => ⟨by omega, by rw [show 6 - (m + 1) + 1 = 6 - m by omega]; exact ih (by omega) B i j g1 g2 g3⟩) B i j h1 h2 h3
/-- the class does the whole -/
theorem r_runOn {T : TT 6} {s row fc pl rd : Nat → Int32} {v1 v2 v3 : Int32} (hE : evC NH NF F cs sfB hr nh sf ln X Y lk lv sr) (hL : L.toInt ≤ 50) (eL : L.toInt = ((enN 6 T : Nat) : Int)) (hc : cN 6 A T 0 (enN 6 T)) (hw : wfN NH NF 6 T) (hR : relN NH NF row s) (hy : yrOk s)
    (hq : ∀ (op : Int32) (fc pl r rd : Nat → Int32), relN NH NF r (ruN F cs sfB hr NH 6 T (0, s, 0, 0)).2.1 → yrOk (ruN F cs sfB hr NH 6 T (0, s, 0, 0)).2.1 → Q (ruN F cs sfB hr NH 6 T (0, s, 0, 0)).2.2.1 (ruN F cs sfB hr NH 6 T (0, s, 0, 0)).2.2.2 op fc pl r rd) : wq_X9_runOn L A.1 A.2.1 A.2.2.1 nh sf X Y ln lk lv A.2.2.2 sr v1 v2 v3 fc pl row rd Q := by
  refine ⟨20001, r_ruN (Q := Q) hE hL 6 (Nat.le_refl _) T 0 _ hc hw (by omega) 20001 (0, s, 0, 0) 0 fc pl row rd 0 0 0 ⟨hR, hy, Nat.zero_le _⟩ t_0 t_0 t_0 (by rw [t_0]; rfl) (by rw [t_0]; decide) (by rw [t_0]; show (0 : Int) + 41 * (200 - ((0 : Nat) : Int)) ≤ 19000; decide) (fun _ op fc pl r rd h => hq op fc pl r rd h.1 h.2.1) (fun _ _ k op fc pl r rd l2 l3 l4 h e1 e2 e3 e4 e5 e6 e7 => ?_)⟩
  have fin := hq op fc pl r rd h.1 h.2.1
  obtain ⟨k, rfl⟩ : ∃ m : Nat, k = m + 1 := ⟨k - 1, by
    have e6 : l4.toInt ≤ (0 : Int32).toInt + 41 * (((ruN F cs sfB hr NH 6 T (0, s, 0, 0)).1 : Int) - ((0 : Nat) : Int)) := e6
    have h3 : (ruN F cs sfB hr NH 6 T (0, s, 0, 0)).1 ≤ 200 := h.2.2
    rw [t_0] at e6
    omega⟩
  refine ⟨fun _ => fin, fun _ => ⟨fun _ => fin, fun _ => ⟨fun _ => fin, fun d => ?_⟩⟩⟩
  rw [t_le] at d
  omega
end RC
