section
/-! the class does a work -/
abbrev rQ := Int32 → Int32 → Int32 → NI → NI → NI → NI → Prop
/-- both rows, and how much is begun -/
def rOk (NH NF : Nat) (row : NI) (σ : rSt) : Prop := qWf NH NF row σ.2.1 ∧ yrOk σ.2.1 ∧ σ.1 ≤ 200
section RC
variable {NH NF : Nat} {F : Nat → Int} {cs : List (Int × Int)} {sfB : Nat → Bool} {hr sr X Y lk lv : Nat → Int32} {nh sf ln L : Int32} {A : wA} {Q : rQ}
/-- what the class looks at while it does a work -/
def evC (NH NF : Nat) (F : Nat → Int) (cs : List (Int × Int)) (sfB : Nat → Bool) (hr : NI) (nh sf ln : Int32) (X Y lk lv sr : NI) : Prop := NH ≤ 6 ∧ NF ≤ 8 ∧ (∀ j : Nat, j < 2 * NF → 0 ≤ F j ∧ F j ≤ 30) ∧ pr NF X Y F ∧ nh.toInt = (NH : Int) ∧ (∃ (ct : Int32) (cd oc : NI), qXL cs ln lk lv ct cd oc) ∧ sf = Int32.ofNat (orN sfB NF) ∧ relH NH sr hr
def rlA (L nh sf ln : Int32) (A : wA) (X Y lk lv sr : NI) (Q : rQ) (k : Nat) (dn rf op : Int32) (fc pl row rd : NI) (l2 l3 l4 : Int32) : Prop := qqB L A.1 A.2.1 A.2.2.1 nh sf X Y ln lk lv A.2.2.2 sr Q k dn rf op fc pl row rd l2 l3 l4
/-- the loop of the class, reached behind steps that r tells -/
def RBk (NH NF : Nat) (L nh sf ln : Int32) (A : wA) (X Y lk lv sr : NI) (Q : rQ) (o i j : Nat) (r : rSt → rSt) : Prop :=
  ∀ (k : Nat) (σ : rSt) (op : Int32) (fc pl row rd : NI) (l2 l3 l4 : Int32), rOk NH NF row σ → op.toInt = (o : Int) → l2.toInt = (σ.1 : Nat) → l3.toInt = (i : Int) → (k : Int) + l4.toInt = 20001 → 0 ≤ l4.toInt → l4.toInt + 41 * (200 - (σ.1 : Int)) ≤ 19000 →
  (200 ≤ (r σ).1 → ∀ (op : Int32) (fc pl row rd : NI), rOk NH NF row (r σ) → Q (r σ).2.2.1 (r σ).2.2.2 op fc pl row rd) →
  (¬ 200 ≤ (r σ).1 → σ.1 ≤ (r σ).1 → ∀ (k : Nat) (op : Int32) (fc pl row rd' : NI) (l2 l3 l4' : Int32), rOk NH NF row (r σ) → op.toInt = (o : Int) → l2.toInt = ((r σ).1 : Nat) → l3.toInt = (j : Int) → (k : Int) + l4'.toInt = 20001 → 0 ≤ l4'.toInt → l4'.toInt ≤ l4.toInt + 41 * (((r σ).1 : Int) - (σ.1 : Int)) → (∀ q : Nat, q < o → rd' q = rd q) → rlA L nh sf ln A X Y lk lv sr Q k (r σ).2.2.1 (r σ).2.2.2 op fc pl row rd' l2 l3 l4') →
  rlA L nh sf ln A X Y lk lv sr Q k σ.2.2.1 σ.2.2.2 op fc pl row rd l2 l3 l4
theorem qa0I {k : Nat} {σ : rSt} {op l2 l3 l4 : Int32} {fc pl row rd : Nat → Int32} (h : 200 ≤ σ.1) (h2 : l2.toInt = (σ.1 : Nat)) (hk : 1 ≤ k) (hq : Q σ.2.2.1 σ.2.2.2 op fc pl row rd) : rlA L nh sf ln A X Y lk lv sr Q k σ.2.2.1 σ.2.2.2 op fc pl row rd l2 l3 l4 := by
  obtain ⟨k, rfl⟩ : ∃ j : Nat, k = j + 1 := ⟨k - 1, by omega⟩
  refine ⟨fun _ => hq, fun _ => ⟨fun _ => hq, fun c => ?_⟩⟩
  rw [qak, qaJD] at c; omega
theorem qaZ3 : (20000 : Int32).toInt = 20000 := by decide
/-- steps in a row, at a depth; each loop's block is done by what stands in its place -/
theorem qbet {β : Type} {CB : wA → β → Nat → Nat → Prop} {eB : β → Nat} {wB : β → Prop} {rB : β → rSt → rSt} {o : Nat} (hC : okC eB CB) (hE : evC NH NF F cs sfB hr nh sf ln X Y lk lv sr) (hL : L.toInt ≤ 50) (ho : o ≤ 6)
    (hB : ∀ (B : β) (i j : Nat), CB A B i j → wB B → (j : Int) ≤ L.toInt → o < 6 ∧ RBk NH NF L nh sf ln A X Y lk lv sr Q (o + 1) i j (rB B)) :
    ∀ (T : TG β) (i j : Nat), sgC CB A T i j → wfG NH NF wB T → (j : Int) ≤ L.toInt → RBk NH NF L nh sf ln A X Y lk lv sr Q o i j (rnL F cs sfB hr NH rB T) := by
  obtain ⟨H6, h8, hF, hpr, eh, ⟨ct, cd, oc, hLw⟩, hs, hh⟩ := hE
  have hh2 : ∀ h : Nat, h < NH → 0 ≤ (hr (2 * h + 1)).toInt ∧ (hr (2 * h + 1)).toInt ≤ 9 := fun h hq => by
    have g := hh h hq
    rw [← g.1]; exact g.2
  have t5 := t_5
  intro T
  induction T with
  | nil =>
    intro i j hij _ hjL k σ op fc pl row rd l2 l3 l4 hok eo e2 e3 hk hl0 hbud qx qc
    have hij : i = j := hij
    by_cases c : 200 ≤ σ.1
    · exact qa0I c e2 (by have := hok.2.2; omega) (qx c op fc pl row rd hok)
    · exact qc c (Nat.le_refl _) k op fc pl row rd l2 l3 l4 hok eo e2 (by rw [e3, hij]) hk hl0 (by show l4.toInt ≤ l4.toInt + 41 * ((σ.1 : Int) - (σ.1 : Int)); omega) (fun _ _ => rfl)
  | cons x T ih =>
    intro i j hij hwf hjL k σ op fc pl row rd l2 l3 l4 hok eo e2 e3 hk hl0 hbud qx qc
    by_cases c : 200 ≤ σ.1
    · rw [q8z c] at qx
      exact qa0I c e2 (by have := hok.2.2; omega) (qx c op fc pl row rd hok)
    · have hlen := (qaML hC A A (x :: T) i j hij).1
      have hen : 1 ≤ enL eB (x :: T) := by
        cases x with
        | inl v => show 1 ≤ 1 + enL eB T; omega
        | inr v => show 1 ≤ 2 + eB v.2 + enL eB T; omega
      rw [qaZi c] at qx qc
      obtain ⟨k, rfl⟩ : ∃ m : Nat, k = m + 1 := ⟨k - 1, by omega⟩
      obtain ⟨hR, hy, h200⟩ := hok
      refine ⟨fun d => ?_, fun _ => ⟨fun d => ?_, fun _ => ⟨fun d => ?_, fun _ => ⟨qa6 (by omega) (by omega), fun x4 e4 => ?_⟩⟩⟩⟩
      · rw [qak, qaZ3] at d; omega
      · rw [qak, qaJD] at d; omega
      · rw [qak] at d; omega
      rw [qas e3] at e4
      cases x with
      | inl v =>
        obtain ⟨⟨g1, g2, g3, g4⟩, hT⟩ := hij
        obtain ⟨hv, hwT⟩ := hwf
        have hv3 : 0 ≤ v.1 ∧ v.1 ≤ 3 := by unfold wfL at hv; omega
        refine ⟨fun _ x6 e6 => ⟨qa6 (by omega) (by omega), fun x7 e7 => ⟨fun _ => ?_, fun d => ?_⟩⟩, fun d => ?_⟩
        · have q6 : x6.toInt = ((σ.1 + 1 : Nat) : Int) := by rw [e6, qca (by omega), e2]; omega
          refine qa5i (F := F) (cs := cs) (v := v) (A := A) (i := i) hF H6 h8 hpr eh hLw hR hy hv e3 (by omega) g1 g2 g3 g4 (fun w fc pl => ⟨fun d => absurd d (by decide), fun _ => ?_⟩) (fun w fc pl => ⟨fun _ x13 e13 x22 e22 x23 e23 => ?_, fun d => absurd rfl d⟩)
          · obtain ⟨d1, d2⟩ := qbgD (F := F) (cs := cs) (sfB := sfB) H6 h8 hh2 hR hy hv w
            refine c_do (cs := cs) (F := F) (v := v) (A := A) (i := i) H6 h8 eh hs hh hR hv w e3 (by omega) g1 g2 g3 g4 (fun r hr2 x15 e15 x22 e22 x23 e23 => ?_)
            have eN : ndR F cs sfB hr NH rB (Sum.inl v) σ = (σ.1 + 1, doF sfB hr NH v σ.2.1, σ.2.2.1 + 1, σ.2.2.2) := by
              show lfR F cs sfB hr NH v σ = _
              unfold lfR; rw [if_pos w]
            rw [eN] at qx qc
            rw [e15]
            have q23 : x23.toInt = l4.toInt + 1 := by rw [e23]; exact qca (by omega)
            refine ih (i + 1) j hT hwT hjL k (σ.1 + 1, doF sfB hr NH v σ.2.1, σ.2.2.1 + 1, σ.2.2.2) op fc pl r rd x6 x22 x23 ⟨hr2, d2, by show σ.1 + 1 ≤ 200; omega⟩ eo q6 (by rw [e22, qca (by omega), e3]; omega) (by omega) (by omega) (by show x23.toInt + 41 * (200 - ((σ.1 + 1 : Nat) : Int)) ≤ 19000; omega) qx (fun y1 y2 k op fc pl row rd' l2 l3 l4' z1 z2 z3 z4 z5 z6 z7 z8 => qc y1 (by have y2 : σ.1 + 1 ≤ _ := y2; omega) k op fc pl row rd' l2 l3 l4' z1 z2 z3 z4 z5 z6 (by have z7 : l4'.toInt ≤ x23.toInt + 41 * (_ - ((σ.1 + 1 : Nat) : Int)) := z7; omega) z8)
          · have eN : ndR F cs sfB hr NH rB (Sum.inl v) σ = (σ.1 + 1, σ.2.1, σ.2.2.1, σ.2.2.2 + 1) := by
              show lfR F cs sfB hr NH v σ = _
              unfold lfR; rw [if_neg (by rw [w]; decide)]
            rw [eN] at qx qc
            rw [e13]
            have q23 : x23.toInt = l4.toInt + 1 := by rw [e23]; exact qca (by omega)
            refine ih (i + 1) j hT hwT hjL k (σ.1 + 1, σ.2.1, σ.2.2.1, σ.2.2.2 + 1) op fc pl row rd x6 x22 x23 ⟨hR, hy, by show σ.1 + 1 ≤ 200; omega⟩ eo q6 (by rw [e22, qca (by omega), e3]; omega) (by omega) (by omega) (by show x23.toInt + 41 * (200 - ((σ.1 + 1 : Nat) : Int)) ≤ 19000; omega) qx (fun y1 y2 k op fc pl row rd' l2 l3 l4' z1 z2 z3 z4 z5 z6 z7 z8 => qc y1 (by have y2 : σ.1 + 1 ≤ _ := y2; omega) k op fc pl row rd' l2 l3 l4' z1 z2 z3 z4 z5 z6 (by have z7 : l4'.toInt ≤ x23.toInt + 41 * (_ - ((σ.1 + 1 : Nat) : Int)) := z7; omega) z8)
        · rw [e7, qas e3] at d
          rw [d, t_4] at g1; omega
        · rw [e4] at d
          rw [d, t5] at g1; omega
      | inr v =>
        obtain ⟨e, ⟨g1, g2, g3, g4, g5⟩, hCB, hT⟩ := hij
        obtain ⟨⟨v0, v40, hwB⟩, hwT⟩ := hwf
        have hje := (qaML hC A A T (e + 1) j hT).1
        have hie := (hC A A v.2 (i + 1) e hCB).1
        obtain ⟨ho6, hRB⟩ := hB v.2 (i + 1) e hCB hwB (by omega)
        refine ⟨fun _ x6 e6 => ⟨qa6 (by omega) (by omega), fun x7 e7 => ⟨fun d => ?_, fun _ => ⟨qa6 (by omega) (by omega), fun x1 e1 => ?_⟩⟩⟩, fun d => ?_⟩
        · rw [e7, qas e3] at d
          exact absurd (qan.mpr (by rw [g1, t_4])) d
        · have q6 : x6.toInt = ((σ.1 + 1 : Nat) : Int) := by rw [e6, qca (by omega), e2]; omega
          rw [qas e3] at e1
          -- behind the loop
          have rest : ∀ (τ : rSt), τ = ndR F cs sfB hr NH rB (Sum.inr v) σ → ∀ (k : Nat) (op : Int32) (fc pl row rd' : NI) (l2 l3 l4' : Int32), rOk NH NF row τ → σ.1 + 1 ≤ τ.1 → op.toInt = (o : Int) → l2.toInt = (τ.1 : Nat) → l3.toInt = ((e + 1 : Nat) : Int) → (k : Int) + l4'.toInt = 20001 → 0 ≤ l4'.toInt → l4'.toInt ≤ l4.toInt + 41 * ((τ.1 : Int) - (σ.1 : Int)) → (∀ q : Nat, q < o → rd' q = rd q) → rlA L nh sf ln A X Y lk lv sr Q k τ.2.2.1 τ.2.2.2 op fc pl row rd' l2 l3 l4' := fun τ eτ k op fc pl row rd' l2 l3 l4' z1 z0 z2 z3 z4 z5 z6 z7 z8 => by
            rw [← eτ] at qx qc
            exact ih (e + 1) j hT hwT hjL k τ op fc pl row rd' l2 l3 l4' z1 z2 z3 z4 z5 z6 (by omega) qx (fun y1 y2 k op fc pl row rd2 l2 l3 l42 w1 w2 w3 w4 w5 w6 w7 w8 => qc y1 (by omega) k op fc pl row rd2 l2 l3 l42 w1 w2 w3 w4 w5 w6 (by omega) (fun q hq => (w8 q hq).trans (z8 q hq)))
          have t40 : v.1.toNat ≤ 40 := by omega
          refine ⟨fun d => ⟨qa6 (by omega) (by omega), fun x5 e5 x23 e23 => ?_⟩, fun d => ⟨fun _ => ⟨qa6 (by omega) (by omega), fun x5 e5 => ⟨qa6 (by omega) (by omega), fun f5 ef5 x8 e8 x23 e23 => ?_⟩⟩, fun d2 => ?_⟩⟩
          · rw [qas e3] at e5
            have z : v.1.toNat = 0 := by rw [e1, qan, g2, t_0] at d; omega
            have q23 : x23.toInt = l4.toInt + 1 := by rw [e23]; exact qca (by omega)
            have eN : (σ.1 + 1, σ.2) = ndR F cs sfB hr NH rB (Sum.inr v) σ := by
              show _ = itN (rB v.2) v.1.toNat (σ.1 + 1, σ.2)
              rw [z]; rfl
            have q5 := g3
            rw [← e5] at q5
            refine rest (σ.1 + 1, σ.2) eN k op fc pl row rd x6 (x5 + 1) x23 ⟨hR, hy, by show σ.1 + 1 ≤ 200; omega⟩ (Nat.le_refl _) eo q6 (by rw [qca (by omega), q5]; omega) (by omega) (by omega) (by show x23.toInt ≤ l4.toInt + 41 * (((σ.1 + 1 : Nat) : Int) - (σ.1 : Int)); omega) (fun _ _ => rfl)
          · -- rounds
            rw [qas e3] at e5
            rw [qas eo] at ef5
            have q23 : x23.toInt = l4.toInt + 1 := by rw [e23]; exact qca (by omega)
            have q8 : x8.toInt = ((o + 1 : Nat) : Int) := by rw [e8, qca (by omega), eo]; omega
            have z : v.1.toNat ≠ 0 := fun z => d (by rw [e1, qan, g2, t_0]; omega)
            have go : ∀ (t k : Nat) (τ : rSt) (op : Int32) (fc pl row rd' : NI) (l2 l3 l4' : Int32), itN (rB v.2) (t + 1) τ = ndR F cs sfB hr NH rB (Sum.inr v) σ → t + 1 ≤ 40 → rOk NH NF row τ → σ.1 + 1 ≤ τ.1 → op.toInt = ((o + 1 : Nat) : Int) → l2.toInt = (τ.1 : Nat) → l3.toInt = ((i + 1 : Nat) : Int) → (k : Int) + l4'.toInt = 20001 → 0 ≤ l4'.toInt → l4'.toInt ≤ l4.toInt + 1 + 41 * ((τ.1 : Int) - (σ.1 : Int) - 1) + (40 - ((t + 1 : Nat) : Int)) → (rd' o).toInt = ((t + 1 : Nat) : Int) → (∀ q : Nat, q < o → rd' q = rd q) → rlA L nh sf ln A X Y lk lv sr Q k τ.2.2.1 τ.2.2.2 op fc pl row rd' l2 l3 l4' := by
              intro t
              induction t with
              | zero =>
                intro k τ op fc pl row rd' l2 l3 l4' eτ h40 z1 z0 z2 z3 z4 z5 z6 z7 z9 z8
                by_cases cf : 200 ≤ τ.1
                · rw [qaOe cf] at eτ
                  rw [← eτ, q8z cf] at qx
                  exact qa0I cf z3 (by have := z1.2.2; omega) (qx cf op fc pl row rd' z1)
                rw [it_s cf] at eτ
                have eτ : rB v.2 τ = ndR F cs sfB hr NH rB (Sum.inr v) σ := eτ
                refine hRB k τ op fc pl row rd' l2 l3 l4' z1 z2 z3 z4 z5 z6 (by omega) (fun y1 op fc pl row rd2 w1 => ?_) (fun y1 y2 k op fc pl row rd2 l2 l3 l42 w1 w2 w3 w4 w5 w6 w7 w8 => ?_)
                · rw [← eτ, q8z y1] at qx
                  exact qx y1 op fc pl row rd2 w1
                · obtain ⟨k, rfl⟩ : ∃ m : Nat, k = m + 1 := ⟨k - 1, by omega⟩
                  have h20 := w1.2.2
                  refine ⟨fun d => ?_, fun _ => ⟨fun d => ?_, fun _ => ⟨fun d => ?_, fun _ => ⟨qa6 (by omega) (by omega), fun y4 ey4 => ⟨fun d => ?_, fun _ => ⟨fun _ a1 ea1 => ?_, fun d => ?_⟩⟩⟩⟩⟩⟩
                  · rw [qak, qaZ3] at d; omega
                  · rw [qak, qaJD] at d; omega
                  · rw [qak] at d; omega
                  · rw [ey4, qas w4] at d
                    exact absurd (qan.mpr (by rw [g4, t5])) d
                  · have k1 : a1.toInt = (o : Int) := by rw [ea1, qqj (by omega), w2]; omega
                    refine ⟨qa6 (by omega) (by omega), fun a3 ea3 a4 ea4 => ⟨qa6 (by omega) (by omega), fun f6 ef6 a6 ea6 => ?_⟩⟩
                    have k6 : a6.toInt = (o : Int) := by rw [ea6, qqj (by omega), w2]; omega
                    refine ⟨qa6 (by omega) (by omega), fun a7 ea7 => ?_⟩
                    rw [qas k1] at ea3 ef6
                    rw [qas k6, ef6, pk_us] at ea7
                    have r3 : a3.toInt = ((0 + 1 : Nat) : Int) := by rw [ea3, w8 o (by omega)]; exact z9
                    have r7 : a7.toInt = 0 := by rw [ea7, ea4, qqj (by omega), r3]; rfl
                    refine ⟨fun _ a9 ea9 b23 eb23 => ?_, fun d => ?_⟩
                    · have k9 : a9.toInt = (o : Int) := by rw [ea9, qqj (by omega), w2]; omega
                      have qb : b23.toInt = l42.toInt + 1 := by rw [eb23]; exact qca (by omega)
                      refine rest (rB v.2 τ) eτ k a9 fc pl row f6 l2 (l3 + 1) b23 w1 (by omega) k9 w3 (by rw [qca (by omega), w4]; omega) (by omega) (by omega) (by omega) (fun q hq => by rw [ef6, pk_un (by omega), w8 q (by omega)]; exact z8 q hq)
                    · rw [qak, t_0, r7] at d
                      exact absurd (Int.le_refl 0) d
                  · rw [qan, t_0] at d; omega
              | succ t iht =>
                intro k τ op fc pl row rd' l2 l3 l4' eτ h40 z1 z0 z2 z3 z4 z5 z6 z7 z9 z8
                by_cases cf : 200 ≤ τ.1
                · rw [qaOe cf] at eτ
                  rw [← eτ, q8z cf] at qx
                  exact qa0I cf z3 (by have := z1.2.2; omega) (qx cf op fc pl row rd' z1)
                rw [it_s cf] at eτ
                refine hRB k τ op fc pl row rd' l2 l3 l4' z1 z2 z3 z4 z5 z6 (by omega) (fun y1 op fc pl row rd2 w1 => ?_) (fun y1 y2 k op fc pl row rd2 l2 l3 l42 w1 w2 w3 w4 w5 w6 w7 w8 => ?_)
                · rw [qaOe y1] at eτ
                  rw [← eτ, q8z y1] at qx
                  exact qx y1 op fc pl row rd2 w1
                · obtain ⟨k, rfl⟩ : ∃ m : Nat, k = m + 1 := ⟨k - 1, by omega⟩
                  have h20 := w1.2.2
                  refine ⟨fun d => ?_, fun _ => ⟨fun d => ?_, fun _ => ⟨fun d => ?_, fun _ => ⟨qa6 (by omega) (by omega), fun y4 ey4 => ⟨fun d => ?_, fun _ => ⟨fun _ a1 ea1 => ?_, fun d => ?_⟩⟩⟩⟩⟩⟩
                  · rw [qak, qaZ3] at d; omega
                  · rw [qak, qaJD] at d; omega
                  · rw [qak] at d; omega
                  · rw [ey4, qas w4] at d
                    exact absurd (qan.mpr (by rw [g4, t5])) d
                  · have k1 : a1.toInt = (o : Int) := by rw [ea1, qqj (by omega), w2]; omega
                    refine ⟨qa6 (by omega) (by omega), fun a3 ea3 a4 ea4 => ⟨qa6 (by omega) (by omega), fun f6 ef6 a6 ea6 => ?_⟩⟩
                    have k6 : a6.toInt = (o : Int) := by rw [ea6, qqj (by omega), w2]; omega
                    refine ⟨qa6 (by omega) (by omega), fun a7 ea7 => ?_⟩
                    rw [qas k1] at ea3 ef6
                    rw [qas k6, ef6, pk_us] at ea7
                    have r3 : a3.toInt = ((t + 1 + 1 : Nat) : Int) := by rw [ea3, w8 o (by omega)]; exact z9
                    have r7 : a7.toInt = ((t + 1 : Nat) : Int) := by rw [ea7, ea4, qqj (by omega), r3]; omega
                    refine ⟨fun d => ?_, fun _ => ⟨qa6 (by omega) (by omega), fun a10 ea10 b23 eb23 => ?_⟩⟩
                    · rw [qak, t_0, r7] at d; omega
                    · have qb : b23.toInt = l42.toInt + 1 := by rw [eb23]; exact qca (by omega)
                      rw [qas w4] at ea10
                      have q10 := g5
                      rw [← ea10] at q10
                      refine iht k (rB v.2 τ) op fc pl row f6 l2 (a10 + 1) b23 eτ (by omega) w1 (by omega) w2 w3 (by rw [qca (by omega), q10]; omega) (by omega) (by omega) (by omega) (by rw [ef6, pk_us, ← ea7]; exact r7) (fun q hq => by rw [ef6, pk_un (by omega), w8 q (by omega)]; exact z8 q hq)
                  · rw [qan, t_0] at d; omega
            obtain ⟨t, et⟩ : ∃ t : Nat, v.1.toNat = t + 1 := ⟨v.1.toNat - 1, by omega⟩
            refine go t k (σ.1 + 1, σ.2) x8 fc pl row f5 x6 (l3 + 1) x23 (by rw [← et]; rfl) (by omega) ⟨hR, hy, by show σ.1 + 1 ≤ 200; omega⟩ (Nat.le_refl _) q8 q6 (by rw [qca (by omega), e3]; omega) (by omega) (by omega) (by show x23.toInt ≤ l4.toInt + 1 + 41 * (((σ.1 + 1 : Nat) : Int) - (σ.1 : Int) - 1) + (40 - ((t + 1 : Nat) : Int)); omega) (by rw [ef5, pk_us, e5, g2]; omega) (fun q hq => by rw [ef5, pk_un (by omega)])
          · rw [qao, t_6] at d2; omega
        · rw [e4] at d
          rw [d, t5] at g1
          exact absurd g1 (by decide)
/-- blocks of all depths -/
theorem qbmy (hE : evC NH NF F cs sfB hr nh sf ln X Y lk lv sr) (hL : L.toInt ≤ 50) : ∀ (m : Nat), m ≤ 6 → ∀ (B : TT m) (i j : Nat), cN m A B i j → wfN NH NF m B → (j : Int) ≤ L.toInt → RBk NH NF L nh sf ln A X Y lk lv sr Q (6 - m) i j (ruN F cs sfB hr NH m B) := by
  intro m
  induction m with
  | zero => exact fun _ B i j h1 h2 h3 => qbet (β := Empty) (eB := fun _ => 0) (CB := fun _ _ _ _ => False) (wB := fun _ => False) (rB := fun _ σ => σ) (o := 6) (fun A A' B i j h => h.elim) hE hL (by omega) (fun B i j h => h.elim) B i j h1 h2 h3
  | succ m ih =>
    exact fun hm B i j h1 h2 h3 => qbet (β := TT m) (eB := enN m) (CB := cN m) (wB := wfN NH NF m) (rB := ruN F cs sfB hr NH m) (o := 6 - (m + 1)) (qa2F m) hE hL (by omega) (fun B i j g1 g2 g3 => ⟨by omega, by rw [show 6 - (m + 1) + 1 = 6 - m by omega]; exact ih (by omega) B i j g1 g2 g3⟩) B i j h1 h2 h3
/-- the class does the whole -/
theorem qbgH {T : TT 6} {s row fc pl rd : Nat → Int32} {v1 v2 v3 : Int32} (hE : evC NH NF F cs sfB hr nh sf ln X Y lk lv sr) (hL : L.toInt ≤ 50) (eL : L.toInt = ((enN 6 T : Nat) : Int)) (hc : cN 6 A T 0 (enN 6 T)) (hw : wfN NH NF 6 T) (hR : qWf NH NF row s) (hy : yrOk s)
    (hq : ∀ (op : Int32) (fc pl r rd : NI), qWf NH NF r (ruN F cs sfB hr NH 6 T (0, s, 0, 0)).2.1 → yrOk (ruN F cs sfB hr NH 6 T (0, s, 0, 0)).2.1 → Q (ruN F cs sfB hr NH 6 T (0, s, 0, 0)).2.2.1 (ruN F cs sfB hr NH 6 T (0, s, 0, 0)).2.2.2 op fc pl r rd) : qacn L A.1 A.2.1 A.2.2.1 nh sf X Y ln lk lv A.2.2.2 sr v1 v2 v3 fc pl row rd Q := by
  refine ⟨20001, qbmy (Q := Q) hE hL 6 (Nat.le_refl _) T 0 _ hc hw (by omega) 20001 (0, s, 0, 0) 0 fc pl row rd 0 0 0 ⟨hR, hy, Nat.zero_le _⟩ t_0 t_0 t_0 (by rw [t_0]; rfl) (by rw [t_0]; decide) (by rw [t_0]; show (0 : Int) + 41 * (200 - ((0 : Nat) : Int)) ≤ 19000; decide) (fun _ op fc pl r rd h => hq op fc pl r rd h.1 h.2.1) (fun _ _ k op fc pl r rd l2 l3 l4 h e1 e2 e3 e4 e5 e6 e7 => ?_)⟩
  have fin := hq op fc pl r rd h.1 h.2.1
  obtain ⟨k, rfl⟩ : ∃ m : Nat, k = m + 1 := ⟨k - 1, by
    have e6 : l4.toInt ≤ (0 : Int32).toInt + 41 * (((ruN F cs sfB hr NH 6 T (0, s, 0, 0)).1 : Int) - ((0 : Nat) : Int)) := e6
    have h3 : (ruN F cs sfB hr NH 6 T (0, s, 0, 0)).1 ≤ 200 := h.2.2
    rw [t_0] at e6
    omega⟩
  refine ⟨fun _ => fin, fun _ => ⟨fun _ => fin, fun _ => ⟨fun _ => fin, fun d => ?_⟩⟩⟩
  rw [qak] at d
  omega
end RC
end
section
/-! the reference does a work -/
abbrev gQ := Int32 → NI → NI → NI → Int32 → Int32 → Prop
abbrev mGw := Int32 → Int32 → Int32 → NI → NI → NI → NI → NI → NI → Int32 → NI → NI → NI → Int32 → Int32 → Int32 → Int32 → gQ → Prop
section GM
variable {NH NF : Nat} {F : Nat → Int} {cs : List (Int × Int)} {sfB : Nat → Bool} {fo fx hr cd oc sp : Nat → Int32} {nh nx ct : Int32}
/-- what the reference looks at while it does a work -/
def evM (NH NF : Nat) (F : Nat → Int) (cs : List (Int × Int)) (sfB : Nat → Bool) (hr : NI) (nh nx ct : Int32) (fo fx cd oc : NI) : Prop := NH ≤ 6 ∧ NF ≤ 8 ∧ (∀ j : Nat, j < 2 * NF → 0 ≤ F j ∧ F j ≤ 30) ∧ pm (2 * NF) fo F ∧ nh.toInt = (NH : Int) ∧ (∃ (ln : Int32) (kd vl : NI), qXL cs ln kd vl ct cd oc) ∧ sfM NF sfB nx fo fx ∧ ∀ h : Nat, h < NH → 0 ≤ (hr (2 * h + 1)).toInt ∧ (hr (2 * h + 1)).toInt ≤ 9
/-- steps from i to j, as r tells -/
def MGo (NH NF : Nat) (hr : NI) (nh nx ct : Int32) (fo fx cd oc sp : NI) (i j : Nat) (r : rSt → rSt) (R : mGw) : Prop := ∀ (Q : gQ) (σ : rSt) (bg p1 p2 : Int32) (fc st : NI), (∃ row : NI, rOk NH NF row σ) → bg.toInt = (σ.1 : Nat) → p1.toInt = ((4 * i : Nat) : Int) → p2.toInt = ((4 * j : Nat) : Int) → (∀ (bg : Int32) (fc st : NI), bg.toInt = ((r σ).1 : Nat) → σ.1 ≤ (r σ).1 → (∃ row : NI, rOk NH NF row (r σ)) → Q bg (r σ).2.1 fc st (r σ).2.2.2 (r σ).2.2.1) → R nh nx ct sp fo fx hr cd oc bg σ.2.1 fc st σ.2.2.2 σ.2.2.1 p1 p2 Q
theorem ix4 {p x k : Int32} {i : Nat} {c : Nat} (hx : x = p + k) (ep : p.toInt = ((4 * i : Nat) : Int)) (ek : k.toInt = (c : Int)) (hb : i ≤ 50) (hc : c ≤ 4) : x.toInt = ((4 * i + c : Nat) : Int) := by
  rw [hx, qap (by omega) (by omega)]; omega
theorem qbfT {j i0 : Nat} {T0 : TG Empty} (hE : evM NH NF F cs sfB hr nh nx ct fo fx cd oc) (hj : j ≤ 50) (hij0 : sgR (fun _ _ _ _ => False) sp T0 i0 j) (hwf0 : wfG NH NF (fun _ => False) T0) : MGo NH NF hr nh nx ct fo fx cd oc sp i0 j (rnL F cs sfB hr NH (fun _ σ => σ) T0) qvV := by
  have hC : okR (β := Empty) (fun _ => 0) (fun _ _ _ _ => False) := fun A A' B i j h => h.elim
  obtain ⟨H6, h8, hF, hpm, eh, ⟨ln, kd, vl, hLw⟩, hs, hh⟩ := hE
  have go : ∀ (T : TG Empty) (i : Nat) (Q : gQ) (σ : rSt) (bg p1 p2 : Int32) (fc st : NI), sgR (fun _ _ _ _ => False) sp T i j → wfG NH NF (fun _ => False) T → (∃ row : NI, rOk NH NF row σ) → bg.toInt = (σ.1 : Nat) → p1.toInt = ((4 * i : Nat) : Int) → p2.toInt = ((4 * j : Nat) : Int) → (∀ (bg : Int32) (fc st : NI), bg.toInt = ((rnL F cs sfB hr NH (fun _ σ => σ) T σ).1 : Nat) → σ.1 ≤ (rnL F cs sfB hr NH (fun _ σ => σ) T σ).1 → (∃ row : NI, rOk NH NF row (rnL F cs sfB hr NH (fun _ σ => σ) T σ)) → Q bg (rnL F cs sfB hr NH (fun _ σ => σ) T σ).2.1 fc st (rnL F cs sfB hr NH (fun _ σ => σ) T σ).2.2.2 (rnL F cs sfB hr NH (fun _ σ => σ) T σ).2.2.1) → qk3 nh nx ct sp fo fx hr cd oc Q (T.length + 1) bg σ.2.1 fc st σ.2.2.2 σ.2.2.1 p2 p1 := by
    intro T
    induction T with
    | nil =>
      intro i Q σ bg p1 p2 fc st hij _ hok e1 e2 e3 hq
      have hij : i = j := hij
      refine ⟨fun _ => hq bg fc st e1 (Nat.le_refl _) hok, fun d => ?_⟩
      rw [qak] at d; omega
    | cons x T ih =>
      intro i Q σ bg p1 p2 fc st hij hwf hok e1 e2 e3 hq
      have hlen := (qaxg hC sp sp (x :: T) i j hij).1
      have hen : 1 ≤ erL (fun _ => 0) (x :: T) := by
        cases x with
        | inl v => show 1 ≤ 1 + _; omega
        | inr v => show 1 ≤ 1 + _ + _; omega
      refine ⟨fun d => ?_, fun _ => ⟨fun d => ?_, fun d x3 ex3 => ⟨qa6 (by omega) (by omega), fun x4 ex4 => ?_⟩⟩⟩
      · rw [qak] at d; omega
      · rw [qak, qaJD] at d
        have c : 200 ≤ σ.1 := by omega
        rw [q8z c] at hq
        exact hq bg fc st e1 (Nat.le_refl _) hok
      rw [qak, qaJD] at d
      have c : ¬ 200 ≤ σ.1 := by omega
      rw [qaZi c] at hq
      obtain ⟨row, hR, hy, h200⟩ := hok
      have q3 : x3.toInt = ((σ.1 + 1 : Nat) : Int) := by rw [ex3, qca (by omega), e1]; omega
      rw [qas e2] at ex4
      cases x with
      | inl v =>
        obtain ⟨⟨g1, g2, g3, g4⟩, hT⟩ := hij
        obtain ⟨hv, hwT⟩ := hwf
        have hv3 : 0 ≤ v.1 ∧ v.1 ≤ 3 := by unfold wfL at hv; omega
        refine ⟨fun _ => ⟨qa6 (by omega) (by omega), fun x6 e6 x7 e7 => ?_⟩, fun d4 => ?_⟩
        · have k7 := ix4 (c := 1) e7 e2 t_1 (by omega) (by omega)
          refine ⟨qa6 (by omega) (by omega), fun x8 e8 x9 e9 => ?_⟩
          have k9 := ix4 (c := 2) e9 e2 t_2 (by omega) (by omega)
          refine ⟨qa6 (by omega) (by omega), fun x10 e10 x11 e11 => ?_⟩
          have k11 := ix4 (c := 3) e11 e2 t_3 (by omega) (by omega)
          refine ⟨qa6 (by omega) (by omega), fun x12 e12 => ?_⟩
          rw [qas e2] at e6
          rw [qas k7] at e8
          rw [qas k9] at e10
          rw [qas k11] at e12
          refine qa00 (F := F) (cs := cs) (sfB := sfB) (NH := NH) (NF := NF) (v := v) hF H6 h8 hpm eh hLw hs (qbe2 hR.1) hv (by rw [e6]; exact g1) (by rw [e8]; exact g2) (by rw [e10]; exact g3) (by rw [e12]; exact g4) (fun w fc st => ⟨fun d => absurd d (by decide), fun _ x19 e19 x22 e22 => ?_⟩) (fun w fc st => ⟨fun _ x18 e18 x22 e22 => ?_, fun d => absurd rfl d⟩)
          · obtain ⟨d1, d2⟩ := qbgD (F := F) (cs := cs) (sfB := sfB) H6 h8 hh hR hy hv w
            have eN : ndR (β := Empty) F cs sfB hr NH (fun _ σ => σ) (Sum.inl v) σ = (σ.1 + 1, doF sfB hr NH v σ.2.1, σ.2.2.1 + 1, σ.2.2.2) := by
              show lfR F cs sfB hr NH v σ = _
              unfold lfR; rw [if_pos w]
            rw [eN] at hq
            rw [e19]
            obtain ⟨row2, hR2⟩ := d1
            exact ih (i + 1) Q (σ.1 + 1, doF sfB hr NH v σ.2.1, σ.2.2.1 + 1, σ.2.2.2) x3 x22 p2 fc st hT hwT ⟨row2, hR2, d2, by show σ.1 + 1 ≤ 200; omega⟩ q3 (by have := ix4 (c := 4) e22 e2 t_4 (by omega) (by omega); omega) e3 (fun bg fc st y1 y2 y3 => hq bg fc st y1 (by have y2 : σ.1 + 1 ≤ _ := y2; omega) y3)
          · have eN : ndR (β := Empty) F cs sfB hr NH (fun _ σ => σ) (Sum.inl v) σ = (σ.1 + 1, σ.2.1, σ.2.2.1, σ.2.2.2 + 1) := by
              show lfR F cs sfB hr NH v σ = _
              unfold lfR; rw [if_neg (by rw [w]; decide)]
            rw [eN] at hq
            rw [e18]
            exact ih (i + 1) Q (σ.1 + 1, σ.2.1, σ.2.2.1, σ.2.2.2 + 1) x3 x22 p2 fc st hT hwT ⟨row, hR, hy, by show σ.1 + 1 ≤ 200; omega⟩ q3 (by have := ix4 (c := 4) e22 e2 t_4 (by omega) (by omega); omega) e3 (fun bg fc st y1 y2 y3 => hq bg fc st y1 (by have y2 : σ.1 + 1 ≤ _ := y2; omega) y3)
        · rw [ex4] at d4
          rw [d4, t_4] at g1; omega
      | inr v =>
        exact v.2.elim
  intro Q σ bg p1 p2 fc st hok e1 e2 e3 hq
  exact ⟨T0.length + 1, go T0 i0 Q σ bg p1 p2 fc st hij0 hwf0 hok e1 e2 e3 hq⟩
theorem qaLl {β : Type} {RB : NI → β → Nat → Nat → Prop} {eR : β → Nat} {wB : β → Prop} {rB : β → rSt → rSt} {RS : mGw} {j i0 : Nat} {T0 : TG β} (hC : okR eR RB) (hE : evM NH NF F cs sfB hr nh nx ct fo fx cd oc) (hj : j ≤ 50)
    (hB : ∀ (B : β) (i j : Nat), RB sp B i j → wB B → j ≤ 50 → MGo NH NF hr nh nx ct fo fx cd oc sp i j (rB B) RS) (hij0 : sgR RB sp T0 i0 j) (hwf0 : wfG NH NF wB T0) : MGo NH NF hr nh nx ct fo fx cd oc sp i0 j (rnL F cs sfB hr NH rB T0) (qqg RS) := by
  obtain ⟨H6, h8, hF, hpm, eh, ⟨ln, kd, vl, hLw⟩, hs, hh⟩ := hE
  have go : ∀ (T : TG β) (i : Nat) (Q : gQ) (σ : rSt) (bg p1 p2 : Int32) (fc st : NI), sgR RB sp T i j → wfG NH NF wB T → (∃ row : NI, rOk NH NF row σ) → bg.toInt = (σ.1 : Nat) → p1.toInt = ((4 * i : Nat) : Int) → p2.toInt = ((4 * j : Nat) : Int) → (∀ (bg : Int32) (fc st : NI), bg.toInt = ((rnL F cs sfB hr NH rB T σ).1 : Nat) → σ.1 ≤ (rnL F cs sfB hr NH rB T σ).1 → (∃ row : NI, rOk NH NF row (rnL F cs sfB hr NH rB T σ)) → Q bg (rnL F cs sfB hr NH rB T σ).2.1 fc st (rnL F cs sfB hr NH rB T σ).2.2.2 (rnL F cs sfB hr NH rB T σ).2.2.1) → qgF RS nh nx ct sp fo fx hr cd oc Q (T.length + 1) bg σ.2.1 fc st σ.2.2.2 σ.2.2.1 p2 p1 := by
    intro T
    induction T with
    | nil =>
      intro i Q σ bg p1 p2 fc st hij _ hok e1 e2 e3 hq
      have hij : i = j := hij
      refine ⟨fun _ => hq bg fc st e1 (Nat.le_refl _) hok, fun d => ?_⟩
      rw [qak] at d; omega
    | cons x T ih =>
      intro i Q σ bg p1 p2 fc st hij hwf hok e1 e2 e3 hq
      have hlen := (qaxg hC sp sp (x :: T) i j hij).1
      have hen : 1 ≤ erL eR (x :: T) := by
        cases x with
        | inl v => show 1 ≤ 1 + _; omega
        | inr v => show 1 ≤ 1 + _ + _; omega
      refine ⟨fun d => ?_, fun _ => ⟨fun d => ?_, fun d x3 ex3 => ⟨qa6 (by omega) (by omega), fun x4 ex4 => ?_⟩⟩⟩
      · rw [qak] at d; omega
      · rw [qak, qaJD] at d
        have c : 200 ≤ σ.1 := by omega
        rw [q8z c] at hq
        exact hq bg fc st e1 (Nat.le_refl _) hok
      rw [qak, qaJD] at d
      have c : ¬ 200 ≤ σ.1 := by omega
      rw [qaZi c] at hq
      obtain ⟨row, hR, hy, h200⟩ := hok
      have q3 : x3.toInt = ((σ.1 + 1 : Nat) : Int) := by rw [ex3, qca (by omega), e1]; omega
      rw [qas e2] at ex4
      cases x with
      | inl v =>
        obtain ⟨⟨g1, g2, g3, g4⟩, hT⟩ := hij
        obtain ⟨hv, hwT⟩ := hwf
        have hv3 : 0 ≤ v.1 ∧ v.1 ≤ 3 := by unfold wfL at hv; omega
        refine ⟨fun _ => ⟨qa6 (by omega) (by omega), fun x6 e6 x7 e7 => ?_⟩, fun d4 => ?_⟩
        · have k7 := ix4 (c := 1) e7 e2 t_1 (by omega) (by omega)
          refine ⟨qa6 (by omega) (by omega), fun x8 e8 x9 e9 => ?_⟩
          have k9 := ix4 (c := 2) e9 e2 t_2 (by omega) (by omega)
          refine ⟨qa6 (by omega) (by omega), fun x10 e10 x11 e11 => ?_⟩
          have k11 := ix4 (c := 3) e11 e2 t_3 (by omega) (by omega)
          refine ⟨qa6 (by omega) (by omega), fun x12 e12 => ?_⟩
          rw [qas e2] at e6
          rw [qas k7] at e8
          rw [qas k9] at e10
          rw [qas k11] at e12
          refine qa00 (F := F) (cs := cs) (sfB := sfB) (NH := NH) (NF := NF) (v := v) hF H6 h8 hpm eh hLw hs (qbe2 hR.1) hv (by rw [e6]; exact g1) (by rw [e8]; exact g2) (by rw [e10]; exact g3) (by rw [e12]; exact g4) (fun w fc st => ⟨fun d => absurd d (by decide), fun _ x19 e19 x22 e22 => ?_⟩) (fun w fc st => ⟨fun _ x18 e18 x22 e22 => ?_, fun d => absurd rfl d⟩)
          · obtain ⟨d1, d2⟩ := qbgD (F := F) (cs := cs) (sfB := sfB) H6 h8 hh hR hy hv w
            have eN : ndR (β := β) F cs sfB hr NH rB (Sum.inl v) σ = (σ.1 + 1, doF sfB hr NH v σ.2.1, σ.2.2.1 + 1, σ.2.2.2) := by
              show lfR F cs sfB hr NH v σ = _
              unfold lfR; rw [if_pos w]
            rw [eN] at hq
            rw [e19]
            obtain ⟨row2, hR2⟩ := d1
            exact ih (i + 1) Q (σ.1 + 1, doF sfB hr NH v σ.2.1, σ.2.2.1 + 1, σ.2.2.2) x3 x22 p2 fc st hT hwT ⟨row2, hR2, d2, by show σ.1 + 1 ≤ 200; omega⟩ q3 (by have := ix4 (c := 4) e22 e2 t_4 (by omega) (by omega); omega) e3 (fun bg fc st y1 y2 y3 => hq bg fc st y1 (by have y2 : σ.1 + 1 ≤ _ := y2; omega) y3)
          · have eN : ndR (β := β) F cs sfB hr NH rB (Sum.inl v) σ = (σ.1 + 1, σ.2.1, σ.2.2.1, σ.2.2.2 + 1) := by
              show lfR F cs sfB hr NH v σ = _
              unfold lfR; rw [if_neg (by rw [w]; decide)]
            rw [eN] at hq
            rw [e18]
            exact ih (i + 1) Q (σ.1 + 1, σ.2.1, σ.2.2.1, σ.2.2.2 + 1) x3 x22 p2 fc st hT hwT ⟨row, hR, hy, by show σ.1 + 1 ≤ 200; omega⟩ q3 (by have := ix4 (c := 4) e22 e2 t_4 (by omega) (by omega); omega) e3 (fun bg fc st y1 y2 y3 => hq bg fc st y1 (by have y2 : σ.1 + 1 ≤ _ := y2; omega) y3)
        · rw [ex4] at d4
          rw [d4, t_4] at g1; omega
      | inr v =>
        obtain ⟨e, ⟨g1, g2, g3⟩, hRBs, hT⟩ := hij
        obtain ⟨⟨v0, v40, hwB⟩, hwT⟩ := hwf
        have hje := (qaxg hC sp sp T e j hT).1
        have hie := (hC sp sp v.2 (i + 1) e hRBs).1
        have hG := hB v.2 (i + 1) e hRBs hwB (by omega)
        refine ⟨fun d4 => absurd (qan.mpr (by rw [ex4, g1, t_4])) d4, fun _ x20 e20 => ?_⟩
        have k20 := ix4 (c := 2) e20 e2 t_2 (by omega) (by omega)
        refine ⟨qa6 (by omega) (by omega), fun x21 e21 => ⟨v.1.toNat + 1, ?_⟩⟩
        rw [qas k20] at e21
        have k21 : x21.toInt = ((4 * e : Nat) : Int) := by rw [e21]; exact g3
        have rest : ∀ (τ : rSt) (bg : Int32) (fc st : NI), τ = ndR F cs sfB hr NH rB (Sum.inr v) σ → (∃ row : NI, rOk NH NF row τ) → σ.1 + 1 ≤ τ.1 → bg.toInt = (τ.1 : Nat) → qwP RS nh nx ct sp fo fx hr cd oc Q (fun jja f0_s jb1 jcb jgR jiW l2 l3 => qgF RS nh nx ct sp fo fx hr cd oc Q (T.length + 1) jja f0_s jb1 jcb jgR jiW l2 l3) bg τ.2.1 fc st τ.2.2.2 τ.2.2.1 p2 x21 := fun τ bg fc st eτ hok z0 z1 => by
          rw [← eτ] at hq
          exact ih e Q τ bg x21 p2 fc st hT hwT hok z1 k21 e3 (fun bg fc st y1 y2 y3 => hq bg fc st y1 (by omega) y3)
        have go2 : ∀ (t : Nat) (τ : rSt) (bg l5 : Int32) (fc st : NI), itN (rB v.2) t τ = ndR F cs sfB hr NH rB (Sum.inr v) σ → (∃ row : NI, rOk NH NF row τ) → σ.1 + 1 ≤ τ.1 → bg.toInt = (τ.1 : Nat) → l5.toInt + (t : Int) = v.1 → 0 ≤ l5.toInt → qwS RS nh nx ct sp fo fx hr cd oc Q (fun jja f0_s jb1 jcb jgR jiW l2 l3 => qgF RS nh nx ct sp fo fx hr cd oc Q (T.length + 1) jja f0_s jb1 jcb jgR jiW l2 l3) (t + 1) bg τ.2.1 fc st τ.2.2.2 τ.2.2.1 p2 p1 x21 l5 := by
          intro t
          induction t with
          | zero =>
            intro τ bg l5 fc st eτ hok z0 z1 z2 z3 x23 e23
            have k23 := ix4 (c := 1) e23 e2 t_1 (by omega) (by omega)
            refine ⟨qa6 (by omega) (by omega), fun x24 e24 => ⟨fun _ => rest τ bg fc st eτ hok z0 z1, fun d => ?_⟩⟩
            rw [qas k23] at e24
            rw [qak, e24, g2] at d; omega
          | succ t iht =>
            intro τ bg l5 fc st eτ hok z0 z1 z2 z3 x23 e23
            have k23 := ix4 (c := 1) e23 e2 t_1 (by omega) (by omega)
            refine ⟨qa6 (by omega) (by omega), fun x24 e24 => ⟨fun d => ?_, fun _ => ⟨fun d => ?_, fun d x27 e27 => ?_⟩⟩⟩
            · rw [qas k23] at e24
              rw [qak, e24, g2] at d; omega
            · rw [qak, qaJD] at d
              have cf : 200 ≤ τ.1 := by omega
              rw [qaOe cf] at eτ
              exact rest τ bg fc st eτ hok z0 z1
            · rw [qak, qaJD] at d
              rw [it_s (by omega)] at eτ
              have k27 := ix4 (c := 4) e27 e2 t_4 (by omega) (by omega)
              exact hG _ τ bg x27 x21 fc st hok z1 (by rw [k27]; omega) k21 (fun bg fc st y1 y2 y3 x34 e34 => iht (rB v.2 τ) bg x34 fc st eτ y3 (by omega) y1 (by rw [e34, qca (by omega)]; omega) (by rw [e34, qca (by omega)]; omega))
        exact go2 v.1.toNat (σ.1 + 1, σ.2) x3 0 fc st rfl ⟨row, hR, hy, by show σ.1 + 1 ≤ 200; omega⟩ (Nat.le_refl _) q3 (by rw [t_0]; omega) (by rw [t_0]; decide)
  intro Q σ bg p1 p2 fc st hok e1 e2 e3 hq
  exact ⟨T0.length + 1, go T0 i0 Q σ bg p1 p2 fc st hij0 hwf0 hok e1 e2 e3 hq⟩
theorem g_0 (hE : evM NH NF F cs sfB hr nh nx ct fo fx cd oc) : ∀ (B : TT 0) (i j : Nat), rN 0 sp B i j → wfN NH NF 0 B → j ≤ 50 → MGo NH NF hr nh nx ct fo fx cd oc sp i j (ruN F cs sfB hr NH 0 B) qvV := fun B i j h1 h2 h3 => qbfT (T0 := B) hE h3 h1 h2
theorem g_1 (hE : evM NH NF F cs sfB hr nh nx ct fo fx cd oc) : ∀ (B : TT 1) (i j : Nat), rN 1 sp B i j → wfN NH NF 1 B → j ≤ 50 → MGo NH NF hr nh nx ct fo fx cd oc sp i j (ruN F cs sfB hr NH 1 B) qzH := fun B i j h1 h2 h3 => qaLl (β := TT 0) (RB := rN 0) (eR := erN 0) (wB := wfN NH NF 0) (rB := ruN F cs sfB hr NH 0) (T0 := B) (qT2 0) hE h3 (g_0 hE) h1 h2
theorem g_2 (hE : evM NH NF F cs sfB hr nh nx ct fo fx cd oc) : ∀ (B : TT 2) (i j : Nat), rN 2 sp B i j → wfN NH NF 2 B → j ≤ 50 → MGo NH NF hr nh nx ct fo fx cd oc sp i j (ruN F cs sfB hr NH 2 B) qzJ := fun B i j h1 h2 h3 => qaLl (β := TT 1) (RB := rN 1) (eR := erN 1) (wB := wfN NH NF 1) (rB := ruN F cs sfB hr NH 1) (T0 := B) (qT2 1) hE h3 (g_1 hE) h1 h2
theorem g_3 (hE : evM NH NF F cs sfB hr nh nx ct fo fx cd oc) : ∀ (B : TT 3) (i j : Nat), rN 3 sp B i j → wfN NH NF 3 B → j ≤ 50 → MGo NH NF hr nh nx ct fo fx cd oc sp i j (ruN F cs sfB hr NH 3 B) qzm := fun B i j h1 h2 h3 => qaLl (β := TT 2) (RB := rN 2) (eR := erN 2) (wB := wfN NH NF 2) (rB := ruN F cs sfB hr NH 2) (T0 := B) (qT2 2) hE h3 (g_2 hE) h1 h2
theorem g_4 (hE : evM NH NF F cs sfB hr nh nx ct fo fx cd oc) : ∀ (B : TT 4) (i j : Nat), rN 4 sp B i j → wfN NH NF 4 B → j ≤ 50 → MGo NH NF hr nh nx ct fo fx cd oc sp i j (ruN F cs sfB hr NH 4 B) qze := fun B i j h1 h2 h3 => qaLl (β := TT 3) (RB := rN 3) (eR := erN 3) (wB := wfN NH NF 3) (rB := ruN F cs sfB hr NH 3) (T0 := B) (qT2 3) hE h3 (g_3 hE) h1 h2
theorem g_5 (hE : evM NH NF F cs sfB hr nh nx ct fo fx cd oc) : ∀ (B : TT 5) (i j : Nat), rN 5 sp B i j → wfN NH NF 5 B → j ≤ 50 → MGo NH NF hr nh nx ct fo fx cd oc sp i j (ruN F cs sfB hr NH 5 B) qzo := fun B i j h1 h2 h3 => qaLl (β := TT 4) (RB := rN 4) (eR := erN 4) (wB := wfN NH NF 4) (rB := ruN F cs sfB hr NH 4) (T0 := B) (qT2 4) hE h3 (g_4 hE) h1 h2
theorem g_6 (hE : evM NH NF F cs sfB hr nh nx ct fo fx cd oc) : ∀ (B : TT 6) (i j : Nat), rN 6 sp B i j → wfN NH NF 6 B → j ≤ 50 → MGo NH NF hr nh nx ct fo fx cd oc sp i j (ruN F cs sfB hr NH 6 B) qFG := fun B i j h1 h2 h3 => qaLl (β := TT 5) (RB := rN 5) (eR := erN 5) (wB := wfN NH NF 5) (rB := ruN F cs sfB hr NH 5) (T0 := B) (qT2 5) hE h3 (g_5 hE) h1 h2
end GM
end
section
/-! work, by both, from the same bytes -/
theorem qbcc {f g : Nat → Int32} {d k j : Nat} : va_cpy f g 0 d k j = if d ≤ j ∧ j < d + k then f (j - d) else g j := by
  unfold va_cpy; simp
/-- works that were not undone: as many, and their rows -/
def relW (NH NF : Nat) (kp wo : Int32) (pr pm : NI) : Prop := kp.toInt = wo.toInt ∧ 0 ≤ kp.toInt ∧ kp.toInt ≤ 16 ∧ ∀ r : Nat, (r : Int) < kp.toInt → qWf NH NF (fun j => pr (r * 64 + j)) (fun j => pm (68 * r + j)) ∧ yrOk (fun j => pm (68 * r + j))
theorem qan1 {NH NF : Nat} {r s r' s' : Nat → Int32} (h : qWf NH NF r s) (H6 : NH ≤ 6) (h1 : ∀ j : Nat, j < 64 → r' j = r j) (h2 : ∀ j : Nat, j < 68 → s' j = s j) : qWf NH NF r' s' := by
  obtain ⟨⟨r1, r2, r3, r4, r5, ⟨r6, r7⟩, r8⟩, b1, b2⟩ := h
  refine ⟨⟨?_, fun j hj => ?_, fun j hj => ?_, fun j hj => ?_, fun j hj => ?_, ⟨?_, ?_⟩, fun i k hi hk hn => ?_⟩, ?_, fun j hj => ?_⟩
  · rw [h1 2 (by omega), r1]
    unfold caN
    rw [qHW (R := fun j => decide (s' j = -1)) NH (fun j hj => by rw [h2 j (by omega)])]
  · rw [h2 j (by omega), h1 (4 + j) (by omega), h1 (10 + j) (by omega), h1 (16 + j) (by omega), h2 (6 + j) (by omega), h2 (12 + j) (by omega)]
    exact r2 j hj
  · rw [h1 (4 + j) (by omega)]; exact r3 j hj
  · rw [h1 (22 + j) (by omega), h2 (18 + j) (by omega)]; exact r4 j hj
  · rw [h1 (28 + j) (by omega), h2 (30 + j) (by omega)]; exact r5 j hj
  · rw [h1 0 (by omega), h2 66 (by omega)]; exact r6
  · rw [h1 1 (by omega), h2 67 (by omega)]; exact r7
  · rw [h2 (30 + (6 * i + k)) (by omega)]; exact r8 i k hi hk hn
  · rw [h1 3 (by omega), b1]
    unfold buN
    rw [qHW (R := fun j => decide (s' (24 + j) = 1)) NH (fun j hj => by rw [h2 (24 + j) (by omega)])]
  · rw [h2 (24 + j) (by omega)]; exact b2 j hj
theorem qaqZ {s s' : Nat → Int32} (h : yrOk s) (h2 : s' 67 = s 67) : yrOk s' := by
  unfold yrOk at h ⊢
  rw [h2]; exact h
/-- one work more -/
theorem qbfF {NH NF : Nat} {kp wo kp2 wo2 : Int32} {pr pm pr2 pm2 row nw : Nat → Int32} (h : relW NH NF kp wo pr pm) (H6 : NH ≤ 6) (h16 : kp.toInt < 16) (hR : qWf NH NF row nw) (hy : yrOk nw) (e1 : kp2 = kp + 1) (e2 : wo2 = wo + 1) (g1 : pr2 = va_cpy row pr 0 (kp * 64).toNatClampNeg 64) (g2 : ∀ j : Nat, pm2 j = if 68 * wo.toNatClampNeg ≤ j ∧ j < 68 * wo.toNatClampNeg + 68 then nw (j - 68 * wo.toNatClampNeg) else pm j) : relW NH NF kp2 wo2 pr2 pm2 := by
  obtain ⟨q1, q2, q3, q4⟩ := h
  have k2 : kp2.toInt = kp.toInt + 1 := by rw [e1]; exact qca (by omega)
  have w2 : wo2.toInt = wo.toInt + 1 := by rw [e2]; exact qca (by omega)
  have km := qavn q2 (by omega)
  have n1 := qkX (x := kp * 64) (by omega)
  have n2 := qkX (x := wo) (by omega)
  refine ⟨by omega, by omega, by omega, fun r hr => ?_⟩
  by_cases z : (r : Int) < kp.toInt
  · obtain ⟨y1, y2⟩ := q4 r z
    refine ⟨qan1 y1 H6 (fun j hj => ?_) (fun j hj => ?_), qaqZ y2 ?_⟩
    · show pr2 (r * 64 + j) = pr (r * 64 + j)
      rw [g1, qbcc, if_neg (by omega)]
    · show pm2 (68 * r + j) = pm (68 * r + j)
      rw [g2, if_neg (by omega)]
    · show pm2 (68 * r + 67) = pm (68 * r + 67)
      rw [g2, if_neg (by omega)]
  · refine ⟨qan1 hR H6 (fun j hj => ?_) (fun j hj => ?_), qaqZ hy ?_⟩
    · show pr2 (r * 64 + j) = row j
      rw [g1, qbcc, if_pos (by omega)]
      exact congrArg row (by omega)
    · show pm2 (68 * r + j) = nw j
      rw [g2, if_pos (by omega)]
      exact congrArg nw (by omega)
    · show pm2 (68 * r + 67) = nw 67
      rw [g2, if_pos (by omega)]
      exact congrArg nw (by omega)
section KC
variable {NH NF : Nat} {F : Nat → Int} {cs : List (Int × Int)} {sfB : Nat → Bool} {hr : Nat → Int32} {by_ X Y lk lv st : Nat → Int32} {gf gh gs rl p : Int32}
theorem qa22 {ci ln at_ tk fl fa fp sh sv sl so kp sd sr rs : Int32} {se kd fi th hd pr fc pl row rd s row0 : Nat → Int32} {wo : Int32} {pm9 : Nat → Int32} {P : Nat} {t : Nat → Int}
    {E : String → Int32 → Int32 → Int32 → Int32 → Int32 → Int32 → Int32 → Int32 → Int32 → Int32 → Int32 → NI → NI → NI → NI → NI → NI → Int32 → Int32 → Int32 → NI → NI → NI → NI → Int32 → Prop}
    {Q : Int32 → Int32 → Int32 → Int32 → Int32 → Int32 → Int32 → Int32 → Int32 → Int32 → Int32 → Int32 → NI → NI → NI → NI → NI → NI → Int32 → Int32 → Int32 → NI → NI → NI → NI → Int32 → Prop}
    (hE : evC NH NF F cs sfB hr gh gs rl X Y lk lv st) (egf : gf.toInt = (NF : Int)) (hR : qWf NH NF row s) (hy : yrOk s) (k0 : 0 ≤ kp.toInt) (k16 : kp.toInt ≤ 16) (hf : fl.toInt = P) (hP : P ≤ 600) (ht : tB P by_ t)
    (he : ¬ uOk p fl 150 → E "java/lang/IllegalArgumentException" (ci + 1) ln at_ tk fl fa fp sh sv sl so se kd fi th hd pr kp sd sr fc pl row rd rs)
    (h16 : uOk p fl 150 → kp.toInt = 16 → Q (-20) ci p 0 0 0 0 (-1) sh sv sl so se kd fi th hd pr kp sd sr fc pl row rd rs)
    (hbad : uOk p fl 150 → kp.toInt < 16 → ∀ n : Nat, p.toInt = n → (qxz n t NH NF).1.1 ≠ 0 → ∀ (ln at_ tk fa fp sh sv sl so : Int32) (se kd fi th hd : NI), fa.toInt = (qxz n t NH NF).1.1 → fp.toInt = (qxz n t NH NF).1.2.1 → Q (fa - 10) ci ln at_ tk 0 fa fp sh sv sl so se kd fi th hd pr kp sd sr fc pl row rd rs)
    (e0 : row0 = row) (hok : uOk p fl 150 → kp.toInt < 16 → ∀ n : Nat, p.toInt = n → (qxz n t NH NF).1.1 = 0 → wfN NH NF 6 (qxz n t NH NF).2 → ∀ (ln at_ tk fp sh sv sl so : Int32) (se kd fi th hd pr2 fc pl row rd : NI), fp.toInt = -1 → pr2 = va_cpy row0 pr 0 (kp * 64).toNatClampNeg 64 → qWf NH NF row (ruN F cs sfB hr NH 6 (qxz n t NH NF).2 (0, s, 0, 0)).2.1 → yrOk (ruN F cs sfB hr NH 6 (qxz n t NH NF).2 (0, s, 0, 0)).2.1 → Q (ruN F cs sfB hr NH 6 (qxz n t NH NF).2 (0, s, 0, 0)).2.2.1 ci ln at_ tk 0 0 fp sh sv sl so se kd fi th hd pr2 (kp + 1) (ruN F cs sfB hr NH 6 (qxz n t NH NF).2 (0, s, 0, 0)).2.2.1 (ruN F cs sfB hr NH 6 (qxz n t NH NF).2 (0, s, 0, 0)).2.2.2 fc pl row rd (ruN F cs sfB hr NH 6 (qxz n t NH NF).2 (0, s, 0, 0)).2.2.2) :
    qWs gf gh gs by_ X Y rl lk lv st ci ln at_ tk fl fa fp sh sv sl so se kd fi th hd pr kp sd sr fc pl row rd rs p E Q := by
  obtain ⟨H6, h8, hF, hpr, eh, hlw, hsf, hh⟩ := id hE
  refine qKx (M := 150) (by decide) (by omega) he (fun hu y y0 y1 y2 ey => ?_)
  obtain ⟨n, en⟩ : ∃ n : Nat, p.toInt = n := ⟨p.toInt.toNat, by have := hu.1; omega⟩
  have hn : n ≤ P := by have := hu.2.1; omega
  have hn5 : n ≤ 150 := by have := hu.2.2; omega
  rw [ey]
  refine ⟨fun c => ?_, fun c => ?_⟩
  · rw [qao, t_16] at c
    refine qa1U (n := n) (b := t) (H := NH) (F := NF) (A := (kd, fi, se, th)) en hn5 (qaNp ht hn) eh (by omega) (by omega) egf (by omega) (by omega) ⟨⟨0, t_0, by omega, fun _ => rfl⟩, t_0, fun _ => qam, fun w => absurd rfl w⟩ (fun L op a tk A fa fp hd c9 h9 => ⟨fun z => ⟨fun _ => ?_, fun d => absurd rfl d⟩, fun z => ⟨fun d => absurd d (by decide), fun _ => ?_⟩⟩)
    · have h0 : (qxz n t NH NF).1.1 = 0 := by rw [← c9.2.1, z, t_0]
      obtain ⟨eL, hL, hsg⟩ := h9 h0
      have hw := qbdU (n := n) (b := t) (NH := NH) (NF := NF) h0
      have km := qavn k0 (by omega)
      have n1 := qkX (x := kp * 64) (by omega)
      refine ⟨fun d => ?_, fun _ x2 e2 => ⟨fun d => ?_, ?_, fun f3 e3 x4 e4 => ?_⟩⟩
      · rw [qao, t_16] at d; omega
      · rw [e2, qao, t_0] at d; omega
      · rw [e2, qaYw]; omega
      refine qbgH (T := (qxz n t NH NF).2) (s := s) hE hL eL hsg hw hR hy (fun op fc pl r rd q1 q2 => ?_)
      rw [t_c0, qaYw, e2] at e3
      rw [z, e4]
      exact hok hu (by omega) n en h0 hw _ _ _ _ _ _ _ _ _ _ _ _ _ _ _ _ _ _ (c9.2.2.1 h0) (by rw [e0]; exact e3) q1 q2
    · have h0 : (qxz n t NH NF).1.1 ≠ 0 := fun w => z (qWF c9 w)
      exact hbad hu (by omega) n en h0 _ _ _ _ _ _ _ _ _ _ _ _ _ _ c9.2.1 (c9.2.2.2 h0)
  · rw [qao, t_16] at c
    exact h16 hu (by omega)
end KC
section KM
variable {NH NF : Nat} {F : Nat → Int} {cs : List (Int × Int)} {sfB : Nat → Bool} {hr fo fx cd oc f : Nat → Int32} {nf nh nx ct p1 : Int32}
def tkF (a s0 : NI) (j : Nat) : Int32 := if j < 68 then a j else s0 j
theorem qa7r {a s0 : Nat → Int32} {j : Nat} (h : j < 68) : tkF a s0 j = a j := if_pos h
theorem qbdp {a s0 : Nat → Int32} {Q : NI → Prop} (hq : Q (tkF a s0)) : qoM a s0 Q := qtF (by rw [t_68]; decide) (by rw [t_68]; decide) (fun t h => by
  have e : t = tkF a s0 := funext (fun j => by
    rw [h j, t_68]
    unfold tkF
    by_cases c : j < 68
    · rw [if_pos c, if_pos (by omega)]
    · rw [if_neg c, if_neg (by omega)])
  rw [e]; exact hq)
theorem q4X {thr tp fA sz a0 bd0 op0 nn0 bk0 wo bg0 dn0 rn0 rs0 : Int32} {rf ns0 sp0 s0 fc0 st0 nw pm : Nat → Int32} {P : Nat} {t : Nat → Int}
    {Q : Int32 → Int32 → NI → Int32 → Int32 → Int32 → Int32 → Int32 → Int32 → Int32 → Int32 → NI → NI → Int32 → NI → Int32 → Int32 → Int32 → NI → NI → NI → Int32 → NI → Prop}
    (hE : evM NH NF F cs sfB hr nh nx ct fo fx cd oc) (egf : nf.toInt = (NF : Int)) (hR : ∃ row : NI, qWf NH NF row nw) (hy : yrOk nw) (w0 : 0 ≤ wo.toInt) (w16 : wo.toInt ≤ 16) (hf : tp.toInt = P) (hP : P ≤ 600) (ht : tB P f t)
    (he : ¬ (0 ≤ p1.toInt ∧ p1.toInt ≤ P ∧ p1.toInt ≤ 150) → Q 0 1 (upd rf 1 (rf 1 + 1)) tp fA sz a0 bd0 op0 nn0 bk0 ns0 sp0 wo s0 bg0 dn0 rn0 fc0 st0 nw rs0 pm)
    (h16 : 0 ≤ p1.toInt → p1.toInt ≤ P → p1.toInt ≤ 150 → wo.toInt = 16 → Q (-20) 0 rf 0 (-1) p1 0 (-1) 0 nn0 bk0 ns0 sp0 wo s0 bg0 dn0 rn0 fc0 st0 nw rs0 pm)
    (hbad : 0 ≤ p1.toInt → p1.toInt ≤ P → p1.toInt ≤ 150 → wo.toInt < 16 → ∀ n : Nat, p1.toInt = n → (qxz n t NH NF).1.1 ≠ 0 → ∀ (at_ bd op nn bk : Int32) (ns : NI), bd.toInt = (qxz n t NH NF).1.2.1 → bk.toInt = (qxz n t NH NF).1.1 → Q (bk - 10) 0 rf 0 bd p1 at_ bd op nn bk ns sp0 wo s0 bg0 dn0 rn0 fc0 st0 nw rs0 pm)
    (hok : 0 ≤ p1.toInt → p1.toInt ≤ P → p1.toInt ≤ 150 → wo.toInt < 16 → ∀ n : Nat, p1.toInt = n → (qxz n t NH NF).1.1 = 0 → ∀ (at_ bd op nn bk bg : Int32) (ns sp s fc st now2 pm2 : NI), bd = -1 → (∀ j : Nat, pm2 j = if 68 * wo.toNatClampNeg ≤ j ∧ j < 68 * wo.toNatClampNeg + 68 then nw (j - 68 * wo.toNatClampNeg) else pm j) → (∀ j : Nat, j < 68 → now2 j = (ruN F cs sfB hr NH 6 (qxz n t NH NF).2 (0, tkF nw s0, 0, 0)).2.1 j) → Q (ruN F cs sfB hr NH 6 (qxz n t NH NF).2 (0, tkF nw s0, 0, 0)).2.2.1 0 rf 0 bd p1 at_ bd op nn bk ns sp (wo + 1) s bg (ruN F cs sfB hr NH 6 (qxz n t NH NF).2 (0, tkF nw s0, 0, 0)).2.2.1 (ruN F cs sfB hr NH 6 (qxz n t NH NF).2 (0, tkF nw s0, 0, 0)).2.2.2 fc st now2 (ruN F cs sfB hr NH 6 (qxz n t NH NF).2 (0, tkF nw s0, 0, 0)).2.2.2 pm2) :
    qWp nf nh nx ct f fo fx hr cd oc thr rf tp fA sz a0 bd0 op0 nn0 bk0 ns0 sp0 wo s0 bg0 dn0 rn0 fc0 st0 nw rs0 pm p1 Q := by
  obtain ⟨H6, h8, hF, hpm, eh, hlw, hsm, hh⟩ := id hE
  have bad : ¬ (0 ≤ p1.toInt ∧ p1.toInt ≤ P ∧ p1.toInt ≤ 150) → qAm nf nh nx ct f fo fx hr cd oc Q 0 rf tp fA sz a0 bd0 op0 nn0 bk0 ns0 sp0 wo s0 bg0 dn0 rn0 fc0 st0 nw rs0 pm p1 := fun w =>
    qbdP (k := 1) rfl (by decide) t_1 (by decide) ⟨fun z => absurd rfl z, fun _ => he w⟩
  refine ⟨fun c => bad (by rw [qao, t_0] at c; omega), fun c => ⟨fun c2 => bad (by rw [qao] at c2; omega), fun c2 => ⟨fun c3 => bad (by rw [qao, qV9] at c3; omega), fun c3 => ?_⟩⟩⟩
  rw [qao, t_0] at c
  rw [qao] at c2
  rw [qao, qV9] at c3
  have p0 : 0 ≤ p1.toInt := by omega
  have pP : p1.toInt ≤ P := by omega
  have p5 : p1.toInt ≤ 150 := by omega
  obtain ⟨n, en⟩ : ∃ n : Nat, p1.toInt = n := ⟨p1.toInt.toNat, by omega⟩
  have hb := qaNp ht (show n ≤ P by omega)
  refine qbcC (by decide) ⟨fun _ => ⟨fun d => ?_, fun d => ?_⟩, fun z => absurd z (by decide)⟩
  · -- the text is read, and done
    have hw16 : wo.toInt < 16 := by
      by_cases z : wo.toInt = 16
      · exact absurd (qan.mpr (by rw [z, t_16])) d
      · omega
    have nW := qkX (x := wo) w0
    have fin : ∀ (at_ bd bk op nn : Int32) (ns : NI), mS n t (qxz n t NH NF).1 at_ bd bk → ((qxz n t NH NF).1.1 = 0 → nn.toInt = ((4 * erL (erN 5) (qxz n t NH NF).2 : Nat) : Int) ∧ erL (erN 5) (qxz n t NH NF).2 ≤ 50 ∧ sgR (rN 5) ns (qxz n t NH NF).2 0 (erL (erN 5) (qxz n t NH NF).2)) → qux nf nh nx ct f fo fx hr cd oc Q 0 rf 0 (-1) p1 at_ bd op nn bk ns sp0 wo s0 bg0 dn0 rn0 fc0 st0 nw rs0 pm := fun at_ bd bk op nn ns cm hs => by
      unfold qux qtJ
      refine qnB cm (fun h0 => ⟨fun z => absurd z (by first | decide | simp), fun _ => ⟨fun zb => ?_, fun z => absurd (cm.2.1 h0) z⟩⟩) (fun h0 => ⟨fun _ => ⟨fun z => absurd z (qa30 cm h0), fun _ => hbad p0 pP p5 hw16 n en h0 _ _ _ _ _ _ (cm.2.2 h0).1 (cm.2.2 h0).2⟩, fun z => absurd rfl z⟩)
      obtain ⟨enn, h50, hsg⟩ := hs h0
      have hw := qbdU (n := n) (b := t) (NH := NH) (NF := NF) h0
      refine qtF (by omega) (by omega) (fun sp hsp => ⟨69, ?_⟩)
      have hsg2 : rN 6 sp (qxz n t NH NF).2 0 (erL (erN 5) (qxz n t NH NF).2) := (qaxg (qT2 5) ns sp _ 0 _ hsg).2 (fun q _ hq => by rw [hsp q, if_pos (by rw [enn]; omega)])
      have go : ∀ (m : Nat) (pm2 : NI) (l3 : Int32) (k : Nat), l3.toInt = (k : Int) → k ≤ 68 → (∀ j : Nat, pm2 j = if 68 * wo.toNatClampNeg ≤ j ∧ j < 68 * wo.toNatClampNeg + k then nw (j - 68 * wo.toNatClampNeg) else pm j) → 68 - k < m → qCx nf nh nx ct f fo fx hr cd oc Q m 0 rf 0 bd p1 at_ bd op nn bk ns sp wo s0 bg0 dn0 rn0 fc0 st0 nw rs0 pm2 l3 := by
        intro m
        induction m with
        | zero => intro pm2 l3 k h1 h2 h3 h4; omega
        | succ m ih =>
          intro pm2 l3 k h1 h2 h3 h4
          refine ⟨fun e x33 e33 => ?_, fun e x42 e42 x43 e43 => ?_⟩
          · rw [qak, t_68] at e
            rw [show k = 68 by omega] at h3
            refine qbdp ?_
            obtain ⟨row, hRr⟩ := hR
            have hR0 : ∃ row : NI, rOk NH NF row (0, tkF nw s0, 0, 0) := ⟨row, qan1 hRr H6 (fun _ _ => rfl) (fun j hj => qa7r hj), qaqZ hy (qa7r (a := nw) (s0 := s0) (j := 67) (by omega)), Nat.zero_le _⟩
            refine g_6 hE (qxz n t NH NF).2 0 _ hsg2 hw h50 _ (0, tkF nw s0, 0, 0) 0 0 nn fc0 st0 hR0 t_0 t_0 enn (fun bg fc st q1 _ q2 => qtF (by decide) (by decide) (fun now2 hn2 => ?_))
            rw [e33, zb]
            exact hok p0 pP p5 hw16 n en h0 at_ (-1) op nn bk bg ns sp _ fc st now2 pm2 rfl h3 (fun j hj => by rw [hn2 j, if_pos (by rw [t_68]; omega)])
          · rw [qak, t_68] at e
            have k43 : x43.toInt = ((68 * wo.toNatClampNeg + k : Nat) : Int) := by
              have q42 : x42.toInt = 68 * wo.toInt := by rw [e42, qu8 (by rw [t_68]; omega) (by rw [t_68]; omega), t_68]
              rw [e43, qap (by rw [q42]; omega) (by rw [q42]; omega), q42]; omega
            refine ⟨qa6 (by omega) (by omega), fun x44 e44 => ⟨qa6 (by omega) (by omega), fun f45 e45 x46 e46 => ih f45 x46 (k + 1) (by rw [e46, qca (by omega), h1]; omega) (by omega) (fun j => ?_) (by omega)⟩⟩
            rw [qas h1] at e44
            rw [qas k43] at e45
            rw [e45, e44]
            by_cases z : j = 68 * wo.toNatClampNeg + k
            · rw [z, pk_us, if_pos (by omega)]
              exact congrArg nw (by omega)
            · rw [pk_un z, h3 j]
              by_cases y : 68 * wo.toNatClampNeg ≤ j ∧ j < 68 * wo.toNatClampNeg + k
              · rw [if_pos y, if_pos (by omega)]
              · rw [if_neg y, if_neg (by omega)]
      exact go 69 pm 0 0 t_0 (by omega) (fun j => by rw [if_neg (by omega)]) (by omega)
    have h5 := qbmV (n := n) (b := t) (len := p1) (f := f) (H := NH) (F := NF) (vh := nh) (vf := nf) en (by omega) hb eh (by omega) (by omega) egf (by omega) (by omega)
    have hBg : ∀ g : sT → sT × TT 5, some (blN n t NH NF 5) = some g → gdB n (enN 5) g := fun g hg => by rw [← Option.some.inj hg]; exact qNz 5
    have top : ∀ (kk : Nat) (x : sT × TG (TT 5)) (a bd bk op nn : Int32) (ns : NI) (i : Nat), tpG n t NH NF (some (blN n t NH NF 5)) kk x = qxz n t NH NF → mS n t x.1 a bd bk → (x.1.1 = 0 → x.1.2.2 ≤ n ∧ n < x.1.2.2 + 4 * kk ∧ op.toInt = 0 ∧ nn.toInt = ((4 * i : Nat) : Int) ∧ sgR (rN 5) ns x.2 0 i ∧ 3 * i ≤ x.1.2.2) → qz8 nf nh nx ct f fo fx hr cd oc Q (kk + 1) 0 rf 0 (-1) p1 a bd op nn bk ns sp0 wo s0 bg0 dn0 rn0 fc0 st0 nw rs0 pm := by
      intro kk
      induction kk with
      | zero =>
        intro x a bd bk op nn ns i hR2 hm hx
        have hR2 : x = qxz n t NH NF := hR2
        refine qnB hm (fun z => ?_) (fun z => ⟨fun _ => fin _ _ _ _ _ _ (by rw [← hR2]; exact hm) (fun y => absurd (by rw [← hR2] at y; exact y) z), fun y => absurd rfl y⟩)
        obtain ⟨p1', p2', -⟩ := hx z
        exact absurd p2' (by omega)
      | succ kk ih =>
        intro x a bd bk op nn ns i hR2 hm hx
        have hR2 : (if x.1.1 ≠ 0 ∨ ¬ sk n t x.1.2.2 < n then x else tpG n t NH NF (some (blN n t NH NF 5)) kk ((quq n t NH NF (some (blN n t NH NF 5)) x.1).1, x.2 ++ (quq n t NH NF (some (blN n t NH NF 5)) x.1).2)) = qxz n t NH NF := hR2
        refine qnB hm (fun z => ⟨fun y => absurd y (by first | decide | simp), fun _ => qaw7 en (by omega) hb hm z (fun w x2 cx => ⟨fun y => absurd y (by first | decide | simp), fun _ => ?_⟩) (fun w x2 cx => ⟨fun _ => ?_, fun y => absurd rfl y⟩)⟩) (fun z => ?_)
        · obtain ⟨q1, q2, q3, q4, q5, q7⟩ := hx z
          rw [if_neg (fun y => y.elim (fun y => y z) (fun y => y w))] at hR2
          refine h5 _ x.1 x2 bd bk op ns nn i cx z q1 (by rw [q3]; rfl) q4 q7 (fun a3 bd3 bk3 op3 ns3 nn3 c3 hs3 => ?_)
          refine ih _ a3 bd3 bk3 op3 nn3 ns3 (i + erL (erN 5) (quq n t NH NF (some (blN n t NH NF 5)) x.1).2) hR2 c3 (fun zs => ?_)
          obtain ⟨y3, y6, j, ej, y5⟩ := hs3 zs
          have on := qaTy (eB := enN 5) (B := some (blN n t NH NF 5)) hBg z q1 zs
          obtain ⟨enj, -⟩ := qaxg (qT2 5) ns3 ns3 _ i j y5
          obtain ⟨ex, ey⟩ := qaxg (qT2 5) ns ns3 _ 0 i q5
          have le := qbcs (eR := erN 5) (eB := enN 5) (qaLJ 5) (quq n t NH NF (some (blN n t NH NF 5)) x.1).2
          refine ⟨on.2.1, ?_, by rw [y3]; rfl, by rw [← enj]; exact ej, by rw [← enj]; exact qbcZ y5 _ _ (ey (fun q _ h2 => (y6 q h2).symm)), ?_⟩
          · show n < (quq n t NH NF (some (blN n t NH NF 5)) x.1).1.2.2 + 4 * kk
            omega
          · show 3 * (i + erL (erN 5) (quq n t NH NF (some (blN n t NH NF 5)) x.1).2) ≤ (quq n t NH NF (some (blN n t NH NF 5)) x.1).1.2.2
            omega
        · obtain ⟨q1, q2, q3, q4, q5, q7⟩ := hx z
          rw [if_pos (Or.inr w)] at hR2
          obtain ⟨ex, -⟩ := qaxg (qT2 5) ns ns _ 0 i q5
          have ex : i = erL (erN 5) x.2 := by omega
          exact fin _ _ _ _ _ _ (by rw [← hR2]; exact cx) (fun _ => by rw [← hR2, ← ex]; exact ⟨q4, by omega, q5⟩)
        · rw [if_pos (Or.inl z)] at hR2
          exact ⟨fun _ => fin _ _ _ _ _ _ (by rw [← hR2]; exact hm) (fun y => absurd (by rw [← hR2] at y; exact y) z), fun y => absurd rfl y⟩
    exact ⟨151, top 150 ((0, 0, 0), []) 0 (-1) bk0 0 0 ns0 0 rfl ⟨⟨0, t_0, by omega, fun _ => rfl⟩, fun _ => rfl, fun w => absurd rfl w⟩ (fun _ => ⟨Nat.zero_le _, by show n < 0 + 4 * 150; omega, t_0, t_0, rfl, Nat.le_refl _⟩)⟩
  · rw [qan, t_16] at d
    exact ⟨fun z => absurd rfl z, fun _ => ⟨fun y => absurd y (by first | decide | simp), fun _ => h16 p0 pP p5 d⟩⟩
end KM
end
section
/-! undo, exactly -/
theorem qba8 {kp : Int32} {rows row : Nat → Int32} {Q : Int32 → NI → Prop} (k0 : 0 < kp.toInt) (k1 : kp.toInt ≤ 17) (hq : ∀ (k2 : Int32) (row2 : NI), k2.toInt = kp.toInt - 1 → (∀ j : Nat, j < 64 → row2 j = rows (k2.toNatClampNeg * 64 + j)) → Q k2 row2) : qVT rows kp row Q := by
  refine ⟨fun c => ?_, fun _ x2 e2 x3 e3 => ?_⟩
  · rw [qak, t_0] at c; omega
  · have ea : x2.toInt = kp.toInt - 1 := by rw [e2]; exact qqj (by omega)
    have e := qavn (k := x2) (by omega) (by omega)
    rw [← e3] at e
    have b := qkX (x := x3) (by omega)
    have c := qkX (x := x2) (by omega)
    refine ⟨fun c => ?_, ?_, fun f4 e4 => hq x2 f4 ea (fun j hj => ?_)⟩
    · rw [qao, t_0] at c; omega
    · rw [qaYw]; omega
    · rw [e4, t_c0, qaYw, pk_cpy_in (by omega) (by omega)]
      exact congrArg rows (by omega)
theorem qa4p {kp : Int32} {row rows : Nat → Int32} {Q : NI → Int32 → Prop} (k0 : 0 ≤ kp.toInt) (k1 : kp.toInt ≤ 16) (hq : ∀ (rows2 : NI) (k2 : Int32), k2.toInt = kp.toInt + 1 → (∀ j : Nat, rows2 j = if kp.toNatClampNeg * 64 ≤ j ∧ j < kp.toNatClampNeg * 64 + 64 then row (j - kp.toNatClampNeg * 64) else rows j) → Q rows2 k2) : qwF row rows kp Q := by
  refine ⟨fun c => ?_, fun _ x2 e2 => ?_⟩
  · rw [qao, t_16] at c; omega
  · have e := qavn k0 (by omega)
    rw [← e2] at e
    have b := qkX (x := x2) (by omega)
    have kn := qkX k0
    refine ⟨fun c => ?_, ?_, fun f3 e3 x4 e4 => ?_⟩
    · rw [qao, t_0] at c; omega
    · rw [qaYw]; omega
    · refine hq f3 x4 (by rw [e4]; exact qca (by omega)) (fun j => ?_)
      rw [e3, t_c0, qaYw, qbcc]
      by_cases z : kp.toNatClampNeg * 64 ≤ j ∧ j < kp.toNatClampNeg * 64 + 64
      · rw [if_pos z, if_pos (by omega)]
        exact congrArg row (by omega)
      · rw [if_neg z, if_neg (by omega)]
theorem qOy {k1 k0 : Int32} {r1 r0 : Nat → Int32} {Q : NI → Int32 → Prop} (a0 : 0 ≤ k1.toInt) (a1 : k1.toInt ≤ 17) (hq : ∀ rows : NI, (∀ j : Nat, (j : Int) < 64 * k1.toInt → rows j = r1 j) → Q rows k1) : qnq k1 r1 r0 k0 Q := by
  have e := qavn a0 a1
  have b := qkX (x := k1 * 64) (by omega)
  refine ⟨fun c => ?_, ?_, ?_, fun f1 e1 => hq f1 (fun j hj => ?_)⟩
  · rw [qao, t_0] at c; omega
  · rw [t_c0]; omega
  · rw [t_c0]; omega
  · rw [e1, t_c0, pk_cpy_in (by omega) (by omega)]
    exact congrArg r1 (by omega)
theorem qbdE {pm now : Nat → Int32} {th wo rs : Int32} {Q : Int32 → Int32 → Int32 → Int32 → NI → Prop} (w0 : 0 ≤ wo.toInt) (w16 : wo.toInt ≤ 16) (hz : wo.toInt = 0 → Q (-1) 0 wo rs now) (hq : wo.toInt ≠ 0 → ∀ (wo2 : Int32) (now2 : NI), wo2.toInt = wo.toInt - 1 → (∀ j : Nat, j < 68 → now2 j = pm (68 * wo2.toNatClampNeg + j)) → Q wo2 0 wo2 0 now2) : qXG pm th wo rs now Q := by
  refine ⟨fun c x2 e2 => ?_, fun c => hz (by rw [c]; exact t_0)⟩
  have c : wo.toInt ≠ 0 := fun d => c (qan.mpr (by rw [d, t_0]))
  have q2 : x2.toInt = wo.toInt - 1 := by rw [e2]; exact qqj (by omega)
  have n2 := qkX (x := x2) (by omega)
  have go : ∀ (m : Nat) (nw : NI) (l1 : Int32) (k : Nat), l1.toInt = (k : Int) → k ≤ 68 → (∀ j : Nat, j < k → nw j = pm (68 * x2.toNatClampNeg + j)) → 68 - k < m → qKE pm Q m 0 x2 rs nw l1 := by
    intro m
    induction m with
    | zero => intro nw l1 k h1 h2 h3 h4; omega
    | succ m ih =>
      intro nw l1 k h1 h2 h3 h4
      refine ⟨fun d => ?_, fun d x4 e4 x5 e5 => ?_⟩
      · rw [qak, t_68] at d
        exact hq c x2 nw q2 (fun j hj => h3 j (by omega))
      · rw [qak, t_68] at d
        have q4 : x4.toInt = 68 * x2.toInt := by rw [e4, qu8 (by rw [t_68]; omega) (by rw [t_68]; omega), t_68]
        have q5 : x5.toInt = ((68 * x2.toNatClampNeg + k : Nat) : Int) := by
          rw [e5, qap (by rw [q4]; omega) (by rw [q4]; omega), q4]; omega
        refine ⟨qa6 (by omega) (by omega), fun x6 e6 => ⟨qa6 (by omega) (by omega), fun f7 e7 x8 e8 => ih f7 x8 (k + 1) (by rw [e8, qca (by omega), h1]; omega) (by omega) (fun j hj => ?_) (by omega)⟩⟩
        rw [qas q5] at e6
        rw [qas h1] at e7
        rw [e7]
        by_cases z : j = k
        · rw [z, pk_us]; exact e6
        · rw [pk_un z]; exact h3 j (by omega)
  exact ⟨69, go 69 now 0 0 t_0 (by omega) (fun j hj => absurd hj (Nat.not_lt_zero j)) (by omega)⟩
theorem qbjQ {NH NF : Nat} {kp wo kp2 wo2 : Int32} {pr pm : Nat → Int32} (h : relW NH NF kp wo pr pm) (k0 : 0 < kp.toInt) (e1 : kp2.toInt = kp.toInt - 1) (e2 : wo2.toInt = wo.toInt - 1) : relW NH NF kp2 wo2 pr pm := by
  obtain ⟨q1, q2, q3, q4⟩ := h
  exact ⟨by omega, by omega, by omega, fun r hr => q4 r (by omega)⟩
/-- undo, by both -/
theorem qbih {NH NF : Nat} {kp wo rs1 rs2 th : Int32} {pr pm row s : Nat → Int32} {C : Int32 → Int32 → NI → Int32 → (Int32 → Int32 → Int32 → Int32 → NI → Prop)} (hW : relW NH NF kp wo pr pm) (H6 : NH ≤ 6) (hR : qWf NH NF row s) (hy : yrOk s)
    (hz : C (-1) kp row rs1 (-1) 0 wo rs2 s)
    (hq : ∀ (k2 wo2 : Int32) (row2 s2 : NI), k2 = wo2 → relW NH NF k2 wo2 pr pm → qWf NH NF row2 s2 → yrOk s2 → C k2 k2 row2 0 wo2 0 wo2 0 s2) : q8J pr kp row rs1 (fun a b r d => qXG pm th wo rs2 s (C a b r d)) := by
  have w : kp.toInt = wo.toInt := hW.1
  have k0 := hW.2.1
  have k16 := hW.2.2.1
  refine ⟨fun c => ?_, fun c => qbdE (by omega) (by omega) (fun _ => hz) (fun d => absurd (by rw [← w, c]; exact t_0) d)⟩
  have c : kp.toInt ≠ 0 := fun d => c (qan.mpr (by rw [d, t_0]))
  refine qba8 (by omega) (by omega) (fun k2 row2 e2 h2 => qbdE (by omega) (by omega) (fun d => absurd (w.trans d) c) (fun _ wo2 s2 e3 h3 => ?_))
  have n2 := qkX (x := k2) (by omega)
  have n3 := qkX (x := wo2) (by omega)
  obtain ⟨g1, g2⟩ := hW.2.2.2 k2.toNatClampNeg (by omega)
  have en : wo2.toNatClampNeg = k2.toNatClampNeg := by omega
  refine hq k2 wo2 row2 s2 (qan.mpr (by omega)) (qbjQ hW (by omega) e2 e3) (qan1 g1 H6 (fun j hj => h2 j hj) (fun j hj => ?_)) (qaqZ g2 ?_)
  · show s2 j = pm (68 * k2.toNatClampNeg + j)
    rw [h3 j hj, en]
  · show s2 67 = pm (68 * k2.toNatClampNeg + 67)
    rw [h3 67 (by omega), en]
end
section
/-! images, exactly -/
def imG (NH NF : Nat) (kp : Int32) (rows im : NI) (i : Nat) : Prop := ∃ W : Nat, W ≤ 16 ∧ kp.toInt = (W : Int) + 1 ∧ (im (1157 * i + 1156)).toInt = (W : Int) ∧ qWf NH NF (fun j => rows (W * 64 + j)) (fun j => im (1157 * i + j)) ∧ yrOk (fun j => im (1157 * i + j)) ∧ ∀ r : Nat, r < W → qWf NH NF (fun j => rows (r * 64 + j)) (fun j => im (1157 * i + 68 + (68 * r + j))) ∧ yrOk (fun j => im (1157 * i + 68 + (68 * r + j)))
def relI (NH NF : Nat) (m mi k0 k1 k2 : Int32) (r0 r1 r2 im : NI) : Prop := m.toInt = mi.toInt ∧ (0 ≤ m.toInt ∧ m.toInt ≤ 3) ∧ (1 ≤ m.toInt → imG NH NF k0 r0 im 0) ∧ (2 ≤ m.toInt → imG NH NF k1 r1 im 1) ∧ (3 ≤ m.toInt → imG NH NF k2 r2 im 2)
theorem qbbP {NH NF : Nat} {kp : Int32} {rows im im' : Nat → Int32} {i : Nat} (h : imG NH NF kp rows im i) (H6 : NH ≤ 6) (e : ∀ j : Nat, j < 1157 → im' (1157 * i + j) = im (1157 * i + j)) : imG NH NF kp rows im' i := by
  obtain ⟨W, h1, h2, h3, h4, h5, h6⟩ := h
  refine ⟨W, h1, h2, by rw [e 1156 (by omega)]; exact h3, qan1 h4 H6 (fun _ _ => rfl) (fun j hj => e j (by omega)), qaqZ h5 (e 67 (by omega)), fun r hr => ?_⟩
  obtain ⟨g1, g2⟩ := h6 r hr
  have k : ∀ j : Nat, j < 68 → im' (1157 * i + 68 + (68 * r + j)) = im (1157 * i + 68 + (68 * r + j)) := fun j hj => by
    have := e (68 + (68 * r + j)) (by omega)
    rw [show 1157 * i + 68 + (68 * r + j) = 1157 * i + (68 + (68 * r + j)) by omega]; exact this
  exact ⟨qan1 g1 H6 (fun _ _ => rfl) (fun j hj => k j hj), qaqZ g2 (k 67 (by omega))⟩
theorem qbf3 {NH NF : Nat} {kp wo k2 : Int32} {pr pm row now rows2 im : Nat → Int32} {i : Nat} (hW : relW NH NF kp wo pr pm) (hR : qWf NH NF row now) (hy : yrOk now) (H6 : NH ≤ 6) (e2 : k2.toInt = kp.toInt + 1) (g1 : ∀ j : Nat, (j : Int) < 64 * kp.toInt → rows2 j = pr j) (g2 : ∀ j : Nat, j < 64 → rows2 (kp.toNatClampNeg * 64 + j) = row j) (f1 : ∀ j : Nat, j < 68 → im (1157 * i + j) = now j) (f2 : ∀ j : Nat, j < 1088 → im (1157 * i + 68 + j) = pm j) (f3 : im (1157 * i + 1156) = wo) : imG NH NF k2 rows2 im i := by
  obtain ⟨q1, q2, q3, q4⟩ := hW
  have n := qkX q2
  refine ⟨kp.toNatClampNeg, by omega, by omega, by rw [f3]; omega, qan1 hR H6 (fun j hj => g2 j hj) (fun j hj => f1 j hj), qaqZ hy (f1 67 (by omega)), fun r hr => ?_⟩
  obtain ⟨y1, y2⟩ := q4 r (by omega)
  exact ⟨qan1 y1 H6 (fun j hj => g1 (r * 64 + j) (by omega)) (fun j hj => f2 (68 * r + j) (by omega)), qaqZ y2 (f2 (68 * r + 67) (by omega))⟩
theorem qaRc {th wo mi : Int32} {now im past : Nat → Int32} {Q : Int32 → Int32 → NI → NI → NI → Int32 → Int32 → Prop} (m0 : 0 ≤ mi.toInt) (m3 : mi.toInt ≤ 3) (hz : mi.toInt = 3 → Q (-1) 0 now im past wo mi) (hq : mi.toInt < 3 → ∀ (im2 : NI) (mi2 : Int32), mi2.toInt = mi.toInt + 1 → (∀ j : Nat, j < 68 → im2 (1157 * mi.toNatClampNeg + j) = now j) → (∀ j : Nat, j < 1088 → im2 (1157 * mi.toNatClampNeg + 68 + j) = past j) → im2 (1157 * mi.toNatClampNeg + 1156) = wo → (∀ q : Nat, q < 1157 * mi.toNatClampNeg → im2 q = im q) → Q mi2 0 now im2 past wo mi2) : qR6 th now im past wo mi Q := by
  refine ⟨fun c => ?_, fun c => hz (by rw [c]; decide)⟩
  rw [qan, t_3] at c
  have n0 := qkX m0
  intro x1 e1
  have q1 : x1.toInt = 1157 * mi.toInt := by rw [e1]; exact qbdi m0 (by omega)
  have m1 := qkX (x := x1) (by omega)
  refine ⟨69, qZn (by decide) (by omega) (by decide) (by rw [v_68]; omega) (by decide) (fun G hG => ?_) 69 im 0 (fun j => by rw [if_neg (by rw [t_c0]; omega)]) (by decide) (by decide) (by decide)⟩
  rw [c_68] at hG
  have q4 : (x1 + 68).toInt = x1.toInt + 68 := by rw [qap (by rw [v_68]; omega) (by rw [v_68]; omega), v_68]
  have m4 := qkX (x := x1 + 68) (by omega)
  refine ⟨1089, qZn (by decide) (by omega) (by decide) (by rw [qaod]; omega) (by decide) (fun H hH => ?_) 1089 G 0 (fun j => by rw [if_neg (by rw [t_c0]; omega)]) (by decide) (by decide) (by decide)⟩
  rw [qbdd] at hH
  have q7 : (x1 + 68 + 1088).toInt = x1.toInt + 1156 := by rw [qap (by rw [qaod]; omega) (by rw [qaod]; omega), qaod]; omega
  have m7 := qkX (x := x1 + 68 + 1088) (by omega)
  refine ⟨fun z => absurd z (by decide), fun _ => ⟨qa6 (by omega) (by omega), fun f10 e10 x6 e6 => ?_⟩⟩
  have q6 : x6.toInt = mi.toInt + 1 := by rw [e6]; exact qca (by omega)
  refine hq (by omega) f10 x6 q6 (fun j hj => ?_) (fun j hj => ?_) ?_ (fun q hq => ?_)
  · rw [e10, pk_un (by omega), hH, if_neg (by omega), hG, if_pos (by omega)]; exact congrArg now (by omega)
  · rw [e10, pk_un (by omega), hH, if_pos (by omega)]; exact congrArg past (by omega)
  · rw [e10, show 1157 * mi.toNatClampNeg + 1156 = (x1 + 68 + 1088).toNatClampNeg by omega, pk_us]
  · rw [e10, pk_un (by omega), hH, if_neg (by omega), hG, if_neg (by omega)]
theorem qaTN {th wo mi rs : Int32} {now im past : Nat → Int32} {Q : Int32 → Int32 → Int32 → NI → NI → NI → Int32 → Int32 → Prop} (m0 : 0 ≤ mi.toInt) (m3 : mi.toInt ≤ 3) (hz : mi.toInt = 0 → Q (-1) 0 mi now im past wo rs) (hq : mi.toInt ≠ 0 → ∀ (mi2 : Int32) (now2 past2 : NI), mi2.toInt = mi.toInt - 1 → (∀ j : Nat, j < 68 → now2 j = im (1157 * mi2.toNatClampNeg + j)) → (∀ j : Nat, j < 1088 → past2 j = im (1157 * mi2.toNatClampNeg + 68 + j)) → Q mi2 0 mi2 now2 im past2 (im (1157 * mi2.toNatClampNeg + 1156)) 0) : qD4 th mi now im past wo rs Q := by
  refine ⟨fun c x2 e2 => ?_, fun c => hz (by rw [c]; exact t_0)⟩
  rw [qan, t_0] at c
  have q2 : x2.toInt = mi.toInt - 1 := by rw [e2]; exact qqj (by omega)
  have n2 := qkX (x := x2) (by omega)
  intro x1 e1
  have q1 : x1.toInt = 1157 * x2.toInt := by rw [e1]; exact qbdi (by omega) (by omega)
  have m1 := qkX (x := x1) (by omega)
  refine ⟨69, qZf (by omega) (by decide) (by rw [v_68]; omega) (by decide) (fun F hF => ?_) 69 now 0 (fun j hj => by rw [t_c0] at hj; omega) (by decide) (by decide) (by decide)⟩
  rw [c_68] at hF
  have q4 : (x1 + 68).toInt = x1.toInt + 68 := by rw [qap (by rw [v_68]; omega) (by rw [v_68]; omega), v_68]
  have m4 := qkX (x := x1 + 68) (by omega)
  refine ⟨1089, qZf (by omega) (by decide) (by rw [qaod]; omega) (by decide) (fun H hH => ?_) 1089 past 0 (fun j hj => by rw [t_c0] at hj; omega) (by decide) (by decide) (by decide)⟩
  rw [qbdd] at hH
  have q7 : (x1 + 68 + 1088).toInt = x1.toInt + 1156 := by rw [qap (by rw [qaod]; omega) (by rw [qaod]; omega), qaod]; omega
  have m7 := qkX (x := x1 + 68 + 1088) (by omega)
  refine ⟨fun _ => ⟨qa6 (by omega) (by omega), fun x9 e9 => ?_⟩, fun z => absurd rfl z⟩
  have ew : x9 = im (1157 * x2.toNatClampNeg + 1156) := by rw [e9]; exact congrArg im (by omega)
  rw [ew]
  exact hq c x2 F H q2 (fun j hj => by rw [hF j hj]; exact congrArg im (by omega)) (fun j hj => by rw [hH j hj]; exact congrArg im (by omega))
end
section
/-! image and restore, by both -/
theorem qbft {NH NF : Nat} {kp wo m mi k0 k1 k2 th : Int32} {pr pm row now r0 r1 r2 im : Nat → Int32} {C : Int32 → NI → Int32 → Int32 → NI → Int32 → NI → Int32 → (Int32 → Int32 → NI → NI → NI → Int32 → Int32 → Prop)} (hW : relW NH NF kp wo pr pm) (hI : relI NH NF m mi k0 k1 k2 r0 r1 r2 im) (hR : qWf NH NF row now) (hy : yrOk now) (H6 : NH ≤ 6)
    (hz : C (-1) r0 k0 m r1 k1 r2 k2 (-1) 0 now im pm wo mi)
    (hq : ∀ (r0 r1 r2 im2 : NI) (k0 k1 k2 m2 mi2 : Int32), m2 = mi2 → relI NH NF m2 mi2 k0 k1 k2 r0 r1 r2 im2 → C m2 r0 k0 m2 r1 k1 r2 k2 mi2 0 now im2 pm wo mi2) :
    q2r kp pr row r0 k0 m r1 k1 r2 k2 (fun a b c d e f g h => qR6 th now im pm wo mi (C a b c d e f g h)) := by
  obtain ⟨w1, w2, w3, w4⟩ := id hW
  obtain ⟨e, ⟨m0, m3⟩, i0, i1, i2⟩ := id hI
  refine ⟨fun c => ?_, fun c => qaRc (by omega) (by omega) (fun _ => hz) (fun d => absurd d (by rw [qao, t_3] at c; omega))⟩
  rw [qao, t_3] at c
  have hin : vp_in m 3 := qa6 m0 (by omega)
  have nk := qkX w2
  have nmi := qkX (x := mi) (by omega)
  have q : (m + 1).toInt = m.toInt + 1 := qca (by omega)
  have keep : ∀ (i : Nat) (kq : Int32) (rq im2 : NI), i < mi.toNatClampNeg → (∀ q : Nat, q < 1157 * mi.toNatClampNeg → im2 q = im q) → imG NH NF kq rq im i → imG NH NF kq rq im2 i := fun i kq rq im2 hi hs h => qbbP h H6 (fun j hj => hs _ (by omega))
  have new : ∀ (rows rows2 im2 : NI) (k9 : Int32), (∀ j : Nat, (j : Int) < 64 * kp.toInt → rows j = pr j) → k9.toInt = kp.toInt + 1 → (∀ j : Nat, rows2 j = if kp.toNatClampNeg * 64 ≤ j ∧ j < kp.toNatClampNeg * 64 + 64 then row (j - kp.toNatClampNeg * 64) else rows j) → (∀ j : Nat, j < 68 → im2 (1157 * mi.toNatClampNeg + j) = now j) → (∀ j : Nat, j < 1088 → im2 (1157 * mi.toNatClampNeg + 68 + j) = pm j) → im2 (1157 * mi.toNatClampNeg + 1156) = wo → imG NH NF k9 rows2 im2 mi.toNatClampNeg := fun rows rows2 im2 k9 h1 e2 h2 g1 g2 g3 =>
    qbf3 hW hR hy H6 e2 (fun j hj => by rw [h2 j, if_neg (by omega)]; exact h1 j hj) (fun j hj => by rw [h2, if_pos (by omega)]; exact congrArg row (by omega)) g1 g2 g3
  refine ⟨hin, fun c0 => ?_, fun c1 => ?_, fun c2 => ?_⟩
  · refine qOy w2 (by omega) (fun rows h1 => ⟨hin, fun _ => qa4p w2 w3 (fun rows2 k9 e2 h2 x8 e8 => ?_), fun d => absurd (c0.symm.trans d) (by decide), fun d => absurd (c0.symm.trans d) (by decide)⟩)
    have e0 : m.toInt = 0 := by rw [c0]; decide
    have k8 : x8.toInt = 1 := by rw [e8]; omega
    refine qaRc (by omega) (by omega) (fun d => absurd d (by omega)) (fun _ im2 mi2 g0 g1 g2 g3 g4 => ?_)
    have nw := new rows rows2 im2 k9 h1 e2 h2 g1 g2 g3
    rw [show mi.toNatClampNeg = 0 by omega] at nw
    exact hq rows2 r1 r2 im2 k9 k1 k2 x8 mi2 (qan.mpr (by omega)) ⟨by omega, ⟨by omega, by omega⟩, fun _ => nw, fun z => absurd z (by omega), fun z => absurd z (by omega)⟩
  · refine qOy w2 (by omega) (fun rows h1 => ⟨hin, fun d => absurd (c1.symm.trans d) (by decide), fun _ => qa4p w2 w3 (fun rows2 k9 e2 h2 x8 e8 => ?_), fun d => absurd (c1.symm.trans d) (by decide)⟩)
    have e0 : m.toInt = 1 := by rw [c1]; decide
    have k8 : x8.toInt = 2 := by rw [e8]; omega
    refine qaRc (by omega) (by omega) (fun d => absurd d (by omega)) (fun _ im2 mi2 g0 g1 g2 g3 g4 => ?_)
    have nw := new rows rows2 im2 k9 h1 e2 h2 g1 g2 g3
    rw [show mi.toNatClampNeg = 1 by omega] at nw
    exact hq r0 rows2 r2 im2 k0 k9 k2 x8 mi2 (qan.mpr (by omega)) ⟨by omega, ⟨by omega, by omega⟩, fun _ => keep 0 k0 r0 im2 (by omega) g4 (i0 (by omega)), fun _ => nw, fun z => absurd z (by omega)⟩
  · refine qOy w2 (by omega) (fun rows h1 => ⟨hin, fun d => absurd (c2.symm.trans d) (by decide), fun d => absurd (c2.symm.trans d) (by decide), fun _ => qa4p w2 w3 (fun rows2 k9 e2 h2 x8 e8 => ?_)⟩)
    have e0 : m.toInt = 2 := by rw [c2]; decide
    have k8 : x8.toInt = 3 := by rw [e8]; omega
    refine qaRc (by omega) (by omega) (fun d => absurd d (by omega)) (fun _ im2 mi2 g0 g1 g2 g3 g4 => ?_)
    have nw := new rows rows2 im2 k9 h1 e2 h2 g1 g2 g3
    rw [show mi.toNatClampNeg = 2 by omega] at nw
    exact hq r0 r1 rows2 im2 k0 k1 k9 x8 mi2 (qan.mpr (by omega)) ⟨by omega, ⟨by omega, by omega⟩, fun _ => keep 0 k0 r0 im2 (by omega) g4 (i0 (by omega)), fun _ => keep 1 k1 r1 im2 (by omega) g4 (i1 (by omega)), fun _ => nw⟩
theorem qbfi {NH NF : Nat} {k9 k : Int32} {rows im row2 pr2 now2 pm2 : Nat → Int32} {i : Nat} (h : imG NH NF k rows im i) (H6 : NH ≤ 6) (e : k9.toInt = k.toInt - 1) (h1 : ∀ j : Nat, j < 64 → row2 j = rows (k9.toNatClampNeg * 64 + j)) (h2 : ∀ j : Nat, (j : Int) < 64 * k9.toInt → pr2 j = rows j) (g1 : ∀ j : Nat, j < 68 → now2 j = im (1157 * i + j)) (g2 : ∀ j : Nat, j < 1088 → pm2 j = im (1157 * i + 68 + j)) : relW NH NF k9 (im (1157 * i + 1156)) pr2 pm2 ∧ qWf NH NF row2 now2 ∧ yrOk now2 := by
  obtain ⟨W, a1, a2, a3, a4, a5, a6⟩ := h
  have n := qkX (x := k9) (by omega)
  have en : k9.toNatClampNeg = W := by omega
  rw [en] at h1
  refine ⟨⟨by omega, by omega, by omega, fun r hr => ?_⟩, qan1 a4 H6 h1 g1, qaqZ a5 (g1 67 (by omega))⟩
  obtain ⟨y1, y2⟩ := a6 r (by omega)
  exact ⟨qan1 y1 H6 (fun j hj => h2 (r * 64 + j) (by omega)) (fun j hj => g2 (68 * r + j) (by omega)), qaqZ y2 (g2 (68 * r + 67) (by omega))⟩
theorem qa3g {NH NF : Nat} {kp wo m mi k0 k1 k2 th rs rs2 : Int32} {pr pm row now r0 r1 r2 im : Nat → Int32} {C : Int32 → Int32 → Int32 → NI → NI → Int32 → Int32 → Int32 → Int32 → (Int32 → Int32 → Int32 → NI → NI → NI → Int32 → Int32 → Prop)} (hI : relI NH NF m mi k0 k1 k2 r0 r1 r2 im) (H6 : NH ≤ 6)
    (hz : C (-1) m k0 row pr kp rs k1 k2 (-1) 0 mi now im pm wo rs2)
    (hq : ∀ (m2 k0 : Int32) (row2 pr2 : NI) (kp2 k1 k2 mi2 : Int32) (now2 pm2 : NI) (wo2 : Int32), m2 = mi2 → relI NH NF m2 mi2 k0 k1 k2 r0 r1 r2 im → relW NH NF kp2 wo2 pr2 pm2 → qWf NH NF row2 now2 → yrOk now2 → C m2 m2 k0 row2 pr2 kp2 0 k1 k2 mi2 0 mi2 now2 im pm2 wo2 0) :
    qUl r0 r1 r2 m k0 row pr kp rs k1 k2 (fun a b c d e f g h i => qD4 th mi now im pm wo rs2 (C a b c d e f g h i)) := by
  obtain ⟨e, ⟨m0, m3⟩, i0, i1, i2⟩ := id hI
  refine ⟨fun c x2 e2 => ?_, fun c => qaTN (by omega) (by omega) (fun _ => hz) (fun d => absurd (by rw [← e, c]; exact t_0) d)⟩
  have c : m.toInt ≠ 0 := fun d => c (qan.mpr (by rw [d, t_0]))
  have q2 : x2.toInt = m.toInt - 1 := by rw [e2]; exact qqj (by omega)
  have hin : vp_in x2 3 := qa6 (by omega) (by omega)
  have fin : ∀ (i : Nat) (kq k9 : Int32) (rq row2 pr2 : NI) (ka kb kc : Int32), x2.toInt = (i : Int) → imG NH NF kq rq im i → k9.toInt = kq.toInt - 1 → (∀ j : Nat, j < 64 → row2 j = rq (k9.toNatClampNeg * 64 + j)) → (∀ j : Nat, (j : Int) < 64 * k9.toInt → pr2 j = rq j) → relI NH NF x2 x2 ka kb kc r0 r1 r2 im → qD4 th mi now im pm wo rs2 (C x2 x2 ka row2 pr2 k9 0 kb kc) := fun i kq k9 rq row2 pr2 ka kb kc hi h hk h1 h2 hn => by
    refine qaTN (by omega) (by omega) (fun d => absurd (by omega) c) (fun _ mi2 now2 pm2 g0 g1 g2 => ?_)
    have en : mi2.toNatClampNeg = i := by have := qkX (x := mi2) (by omega); omega
    rw [en] at g1 g2
    obtain ⟨o1, o2, o3⟩ := qbfi h H6 hk h1 h2 g1 g2
    have em : x2 = mi2 := qan.mpr (by omega)
    rw [en]
    exact hq x2 ka row2 pr2 k9 kb kc mi2 now2 pm2 _ em (by rw [em] at hn ⊢; exact hn) o1 o2 o3
  refine ⟨hin, fun c0 => ?_, fun c1 => ?_, fun c2 => ?_⟩
  · have e0 : x2.toInt = 0 := by rw [c0]; decide
    have g := i0 (by omega)
    obtain ⟨W, a1, a2, -⟩ := id g
    exact qba8 (by omega) (by omega) (fun k9 row2 ek h1 => ⟨hin, fun _ => qOy (by omega) (by omega) (fun rows h3 => fin 0 k0 k9 r0 row2 rows k9 k1 k2 (by omega) g ek h1 h3 ⟨rfl, ⟨by omega, by omega⟩, fun z => absurd z (by omega), fun z => absurd z (by omega), fun z => absurd z (by omega)⟩), fun d => absurd (c0.symm.trans d) (by decide), fun d => absurd (c0.symm.trans d) (by decide)⟩)
  · have e0 : x2.toInt = 1 := by rw [c1]; decide
    have g := i1 (by omega)
    obtain ⟨W, a1, a2, -⟩ := id g
    exact qba8 (by omega) (by omega) (fun k9 row2 ek h1 => ⟨hin, fun d => absurd (c1.symm.trans d) (by decide), fun _ => qOy (by omega) (by omega) (fun rows h3 => fin 1 k1 k9 r1 row2 rows k0 k9 k2 (by omega) g ek h1 h3 ⟨rfl, ⟨by omega, by omega⟩, fun _ => i0 (by omega), fun z => absurd z (by omega), fun z => absurd z (by omega)⟩), fun d => absurd (c1.symm.trans d) (by decide)⟩)
  · have e0 : x2.toInt = 2 := by rw [c2]; decide
    have g := i2 (by omega)
    obtain ⟨W, a1, a2, -⟩ := id g
    exact qba8 (by omega) (by omega) (fun k9 row2 ek h1 => ⟨hin, fun d => absurd (c2.symm.trans d) (by decide), fun d => absurd (c2.symm.trans d) (by decide), fun _ => qOy (by omega) (by omega) (fun rows h3 => fin 2 k2 k9 r2 row2 rows k0 k1 k9 (by omega) g ek h1 h3 ⟨rfl, ⟨by omega, by omega⟩, fun _ => i0 (by omega), fun _ => i1 (by omega), fun z => absurd z (by omega)⟩)⟩)
end
section
/-! what is safe follows from what is alike -/
section GS
variable {nh nf : Nat} {h n : Int32}
theorem qaNm {row s : Nat → Int32} (hR : qWf nh nf row s) (eh : h.toInt = (nh : Int)) (en : n.toInt = (nf : Int)) : qrF h n row := fun j hj => by
  have g := hR.1.2.2.1 j (by omega)
  omega
theorem qbbL {row s : Nat → Int32} (hR : qWf nh nf row s) (eh : h.toInt = (nh : Int)) (en : n.toInt = (nf : Int)) (H6 : nh ≤ 6) (h8 : nf ≤ 8) : rS h n s := by
  refine ⟨⟨by omega, by omega, by omega, ?_⟩, fun j hj => ?_, fun j h1 h2 => ?_⟩
  · by_cases z : nh = 0
    · exact Or.inl (by omega)
    · have g := hR.1.2.2.1 0 (by omega)
      exact Or.inr (by omega)
  · have g := hR.1.2.2.1 j (by omega)
    rcases hR.1.2.1 j (by omega) with e | ⟨e, -⟩
    · rw [e, qam]; omega
    · rw [e]; omega
  · have g := (hR.1.2.2.2.2.1 (j - 30) (by omega)).2
    rw [show 30 + (j - 30) = j by omega] at g
    exact g
theorem qa9e {kp wo : Int32} {pr pm : Nat → Int32} (hW : relW nh nf kp wo pr pm) (eh : h.toInt = (nh : Int)) (en : n.toInt = (nf : Int)) (H6 : nh ≤ 6) (h8 : nf ≤ 8) : qbe7 kp h n pr ∧ qbbQ wo h n pm := by
  obtain ⟨q1, q2, q3, q4⟩ := hW
  exact ⟨fun r hr => qaNm (q4 r hr).1 eh en, ⟨by omega, by omega⟩, fun r hr => qbbL (q4 r (by omega)).1 eh en H6 h8⟩
theorem q44 {kp : Int32} {rows im : Nat → Int32} {i : Nat} (hi : imG nh nf kp rows im i) (eh : h.toInt = (nh : Int)) (en : n.toInt = (nf : Int)) (H6 : nh ≤ 6) (h8 : nf ≤ 8) : cI kp h n rows ∧ rS h n (fun j => im (1157 * i + j)) ∧ qbbQ (im (1157 * i + 1156)) h n (fun j => im (1157 * i + 68 + j)) := by
  obtain ⟨W, a1, a2, a3, a4, a5, a6⟩ := hi
  refine ⟨⟨by omega, by omega, fun r hr => ?_⟩, qbbL a4 eh en H6 h8, ⟨by omega, by omega⟩, fun r hr => qbbL (a6 r (by omega)).1 eh en H6 h8⟩
  by_cases z : r = W
  · rw [z]; exact qaNm a4 eh en
  · exact qaNm (a6 r (by omega)).1 eh en
theorem qa6Q {m mi k0 k1 k2 : Int32} {r0 r1 r2 im : Nat → Int32} (hI : relI nh nf m mi k0 k1 k2 r0 r1 r2 im) (eh : h.toInt = (nh : Int)) (en : n.toInt = (nf : Int)) (H6 : nh ≤ 6) (h8 : nf ≤ 8) : cImg m h n k0 k1 k2 r0 r1 r2 ∧ rImg mi h n im := by
  obtain ⟨e, ⟨m0, m3⟩, i0, i1, i2⟩ := hI
  refine ⟨⟨⟨m0, m3⟩, fun z => (q44 (i0 (by omega)) eh en H6 h8).1, fun z => (q44 (i1 (by omega)) eh en H6 h8).1, fun z => (q44 (i2 (by omega)) eh en H6 h8).1⟩, ⟨by omega, by omega⟩, fun i hi => ?_⟩
  by_cases z0 : i = 0
  · rw [z0]; exact (q44 (i0 (by omega)) eh en H6 h8).2
  · by_cases z1 : i = 1
    · rw [z1]; exact (q44 (i1 (by omega)) eh en H6 h8).2
    · rw [show i = 2 by omega]; exact (q44 (i2 (by omega)) eh en H6 h8).2
end GS
end
section
/-! the class's row on the first day, exactly -/
def rbF (k : Nat) (se sr : NI) (j : Nat) : Int32 := if j = 0 then 1 else if 4 ≤ j ∧ j < 4 + k then se (j - 4) else if 10 ≤ j ∧ j < 10 + k then sr (j - 10) else 0
def rbG (k : Nat) (se sr db : NI) (j : Nat) : Int32 := if 28 ≤ j ∧ j < 64 then db (j - 28) else rbF k se sr j
theorem qa3C {nh : Int32} {NH : Nat} {se sr db row0 : Nat → Int32} {Q : NI → Prop} (eh : nh.toInt = (NH : Int)) (H6 : NH ≤ 6) (hq : ∀ row : NI, (∀ j : Nat, j < 64 → row j = rbG NH se sr db j) → Q row) : qFW nh db se sr row0 Q := by
  have t4 : (4 : Int32).toInt = 4 := by decide
  have t10 : (10 : Int32).toInt = 10 := by decide
  have c28 : (28 : Int32).toNatClampNeg = 28 := by decide
  have c36 : (36 : Int32).toNatClampNeg = 36 := by decide
  have in2 : ∀ (m : Nat) (r : NI) (l3 : Int32) (k : Nat), l3.toInt = (k : Int) → k ≤ NH → (∀ j : Nat, j < 64 → r j = rbF k se sr j) → NH - k < m → qD8 nh db se sr Q m r l3 := by
    intro m
    induction m with
    | zero => intro r l3 k h1 h2 h3 h4; omega
    | succ m ih =>
      intro r l3 k h1 h2 h3 h4
      refine ⟨fun c f6 e6 => hq f6 (fun j hj => ?_), fun c x7 e7 => ?_⟩
      · rw [qak] at c
        rw [e6, t_c0, c28, c36, qbcc]
        unfold rbG
        by_cases z : 28 ≤ j ∧ j < 64
        · rw [if_pos (show 28 ≤ j ∧ j < 28 + 36 by omega), if_pos z]
        · rw [if_neg (show ¬ (28 ≤ j ∧ j < 28 + 36) by omega), if_neg z, h3 j hj, show k = NH by omega]
      · rw [qak] at c
        have q7 : x7.toInt = ((4 + k : Nat) : Int) := by rw [e7, qap (by rw [t4]; omega) (by rw [t4]; omega), t4]; omega
        refine ⟨qa6 (by omega) (by omega), fun x8 e8 => ⟨qa6 (by omega) (by omega), fun f9 e9 x10 e10 => ?_⟩⟩
        have q10 : x10.toInt = ((10 + k : Nat) : Int) := by rw [e10, qap (by rw [t10]; omega) (by rw [t10]; omega), t10]; omega
        refine ⟨qa6 (by omega) (by omega), fun x11 e11 => ⟨qa6 (by omega) (by omega), fun f12 e12 x13 e13 => ih f12 x13 (k + 1) (by rw [e13, qca (by omega), h1]; omega) (by omega) (fun j hj => ?_) (by omega)⟩⟩
        rw [qas h1] at e8 e11
        rw [qas q7] at e9
        rw [qas q10] at e12
        rw [e12]
        unfold rbF
        by_cases z : j = 10 + k
        · rw [z, pk_us, e11, if_neg (show ¬ (10 + k = 0) by omega), if_neg (show ¬ (4 ≤ 10 + k ∧ 10 + k < 4 + (k + 1)) by omega), if_pos (show 10 ≤ 10 + k ∧ 10 + k < 10 + (k + 1) by omega), show 10 + k - 10 = k by omega]
        · rw [pk_un z, e9]
          by_cases y : j = 4 + k
          · rw [y, pk_us, e8, if_neg (show ¬ (4 + k = 0) by omega), if_pos (show 4 ≤ 4 + k ∧ 4 + k < 4 + (k + 1) by omega), show 4 + k - 4 = k by omega]
          · rw [pk_un y, h3 j hj]
            unfold rbF
            by_cases y0 : j = 0
            · rw [if_pos y0, if_pos y0]
            · rw [if_neg y0, if_neg y0]
              by_cases y1 : 4 ≤ j ∧ j < 4 + k
              · rw [if_pos y1, if_pos (show 4 ≤ j ∧ j < 4 + (k + 1) by omega)]
              · rw [if_neg y1, if_neg (show ¬ (4 ≤ j ∧ j < 4 + (k + 1)) by omega)]
                by_cases y2 : 10 ≤ j ∧ j < 10 + k
                · rw [if_pos y2, if_pos (show 10 ≤ j ∧ j < 10 + (k + 1) by omega)]
                · rw [if_neg y2, if_neg (show ¬ (10 ≤ j ∧ j < 10 + (k + 1)) by omega)]
  have in1 : ∀ (m : Nat) (r : NI) (l3 : Int32) (k : Nat), l3.toInt = (k : Int) → k ≤ 64 → (∀ j : Nat, j < k → r j = 0) → 64 - k < m → qEp nh db se sr Q m r l3 := by
    intro m
    induction m with
    | zero => intro r l3 k h1 h2 h3 h4; omega
    | succ m ih =>
      intro r l3 k h1 h2 h3 h4
      refine ⟨fun c f2 e2 => ⟨7, in2 7 f2 0 0 t_0 (by omega) (fun j hj => ?_) (by omega)⟩, fun c => ⟨qa6 (by omega) (by rw [qak, t_64] at c; omega), fun f3 e3 x4 e4 => ih f3 x4 (k + 1) (by rw [qak, t_64] at c; rw [e4, qca (by omega), h1]; omega) (by rw [qak, t_64] at c; omega) (fun j hj => ?_) (by rw [qak, t_64] at c; omega)⟩⟩
      · rw [qak, t_64] at c
        rw [t_c0] at e2
        rw [e2]
        unfold rbF
        by_cases z : j = 0
        · rw [z, pk_us, if_pos rfl]
        · rw [pk_un z, h3 j (by omega), if_neg z, if_neg (by omega), if_neg (by omega)]
      · rw [qas h1] at e3
        rw [e3]
        by_cases z : j = k
        · rw [z, pk_us]
        · rw [pk_un z]; exact h3 j (by omega)
  exact ⟨65, in1 65 row0 0 0 t_0 (by omega) (fun j hj => absurd hj (Nat.not_lt_zero j)) (by omega)⟩
end
section
/-! the first day of a down, by both -/
theorem qa5G {k v : Int} {l : List (Int × Int)} : eS k v ((0, 0, 0), l) = ((0, 0, 0), l ++ [(k, v)]) := if_neg (fun h => h rfl)
theorem qaLA {kd vl : Nat → Int32} {n : Int32} {Q : Int32 → NI → NI → Prop} (hq : ∀ (kd vl : NI) (n : Int32), cL ((0, 0, 0), plL) kd vl n → Q n kd vl) : qxG n kd vl Q := by
  have h0 : ∀ kd vl : NI, cL ((0, 0, 0), []) kd vl 0 := fun kd vl => ⟨⟨by decide, by decide⟩, fun _ => ⟨t_0, fun i hi => absurd hi (Nat.not_lt_zero i)⟩⟩
  refine qajY (k := 0) (v := 4) (h0 _ _) (fun _ => ⟨by decide, by decide, by decide⟩) (fun kd vl n h1 => ?_)
  rw [qa5G] at h1
  refine qajY (k := 1) (v := 0) h1 (fun _ => ⟨by decide, by decide, by decide⟩) (fun kd vl n h2 => ?_)
  rw [qa5G] at h2
  refine qajY (k := 2) (v := 0) h2 (fun _ => ⟨by decide, by decide, by decide⟩) (fun kd vl n h3 => ?_)
  rw [qa5G] at h3
  refine qajY (k := 1) (v := 1) h3 (fun _ => ⟨by decide, by decide, by decide⟩) (fun kd vl n h4 => ?_)
  rw [qa5G] at h4
  refine qajY (k := 3) (v := 0) h4 (fun _ => ⟨by decide, by decide, by decide⟩) (fun kd vl n h5 => ?_)
  rw [qa5G] at h5
  exact hq kd vl n h5
theorem qbhP {kd vl cd oc : Nat → Int32} {n : Int32} (h : cL ((0, 0, 0), plL) kd vl n) : qXL plL n kd vl 0 cd oc := ⟨qbmD, h, Or.inr ⟨rfl, rfl⟩⟩
theorem qblj {P : Nat → Bool} {k : Nat} (h : ∀ j : Nat, j < k → P j = false) : orN P k = 0 := by
  refine Nat.eq_of_testBit_eq (fun i => ?_)
  rw [qMw, Nat.zero_testBit]
  by_cases c : i < k
  · rw [h i c, Bool.and_false]
  · rw [decide_eq_false c, Bool.false_and]
section NW
variable {d : dT} {nf nh nx mf mh mx gf gh gx : Int32} {db FX FY se sr X Y db2 fx ha fo g1 g2 g3 row nw : Nat → Int32}
theorem ni_a {h : Nat} {ha db : Nat → Int32} {j : Nat} (hj : j < h) (h6 : h ≤ 6) : ni h ha db j = ha (2 * j) := by
  unfold ni
  rw [if_neg (by omega), if_neg (by omega), if_pos (by omega), if_pos hj]
theorem ni_b {h : Nat} {ha db : Nat → Int32} {j : Nat} (hj : j < h) (h6 : h ≤ 6) : ni h ha db (6 + j) = ha (2 * j + 1) := by
  unfold ni
  rw [if_neg (by omega), if_neg (by omega), if_neg (by omega), if_pos (by omega), show 6 + j - 6 = j by omega, if_pos hj]
theorem ni_c {h : Nat} {ha db : Nat → Int32} {j : Nat} (h1 : 12 ≤ j) (h2 : j < 30) : ni h ha db j = 0 := by
  unfold ni
  rw [if_neg (by omega), if_neg (by omega), if_neg (by omega), if_neg (by omega)]
theorem ni_d {h : Nat} {ha db : Nat → Int32} {j : Nat} (h1 : j < 36) : ni h ha db (30 + j) = db j := by
  unfold ni
  rw [if_neg (by omega), if_pos (by omega), if_pos (by omega), show 30 + j - 30 = j by omega]
theorem qbmu {h : Nat} {ha db : Nat → Int32} : ni h ha db 66 = 1 := if_pos rfl
theorem qbjP {h : Nat} {ha db : Nat → Int32} : ni h ha db 67 = 0 := by
  unfold ni
  rw [if_neg (by omega), if_pos (by omega), if_neg (by omega)]
theorem rb_d {k : Nat} {se sr db : Nat → Int32} {j : Nat} (h : j < 36) : rbG k se sr db (28 + j) = db j := by
  unfold rbG
  rw [if_pos (by omega), show 28 + j - 28 = j by omega]
theorem rb_f {k : Nat} {se sr db : Nat → Int32} {j : Nat} (h : j < 28) : rbG k se sr db j = rbF k se sr j := if_neg (by omega)
theorem rb_a {k : Nat} {se sr db : Nat → Int32} {j : Nat} (hj : j < k) (h6 : k ≤ 6) : rbG k se sr db (4 + j) = se j := by
  rw [rb_f (by omega)]
  unfold rbF
  rw [if_neg (by omega), if_pos (by omega), show 4 + j - 4 = j by omega]
theorem rb_b {k : Nat} {se sr db : Nat → Int32} {j : Nat} (hj : j < k) (h6 : k ≤ 6) : rbG k se sr db (10 + j) = sr j := by
  rw [rb_f (by omega)]
  unfold rbF
  rw [if_neg (by omega), if_neg (by omega), if_pos (by omega), show 10 + j - 10 = j by omega]
theorem rb_0 {k : Nat} {se sr db : Nat → Int32} {j : Nat} (h6 : k ≤ 6) (hj : (1 ≤ j ∧ j < 4) ∨ (16 ≤ j ∧ j < 28)) : rbG k se sr db j = 0 := by
  rw [rb_f (by omega)]
  unfold rbF
  rw [if_neg (by omega), if_neg (by omega), if_neg (by omega)]
theorem rb_1 {k : Nat} {se sr db : Nat → Int32} : rbG k se sr db 0 = 1 := by
  rw [rb_f (by omega)]
  exact if_pos rfl
theorem qbcI (h0 : d.1.1 = 0) (ok : dOk d) (hc : cD d nf nh nx db FX FY se sr X Y) (hm : mD d mf mh mx db2 fx ha fo) (hg : mG d gf gh gx g1 g2 g3) (hr : ∀ j : Nat, j < 64 → row j = rbG d.2.2.1 se sr db j) (hn : ∀ j : Nat, j < 68 → nw j = ni d.2.2.1 g2 db2 j) : qWf d.2.2.1 d.2.1 row nw ∧ yrOk nw := by
  obtain ⟨-, ⟨-, H6⟩, -, c9⟩ := hc
  obtain ⟨-, c2, -, c4⟩ := c9 h0
  obtain ⟨-, -, -, m9⟩ := hm
  obtain ⟨-, -, -, m4⟩ := m9 h0
  obtain ⟨-, -, p2, -⟩ := hg
  obtain ⟨-, o2, o3, o4, o5⟩ := ok
  have hs : ∀ h : Nat, h < d.2.2.1 → nw h = row (4 + h) ∧ nw (6 + h) = row (10 + h) ∧ (nw h).toInt = d.2.2.2.2.2.1 (2 * h) ∧ (nw (6 + h)).toInt = d.2.2.2.2.2.1 (2 * h + 1) := fun h hh => by
    have e1 : nw h = g2 (2 * h) := by rw [hn h (by omega), ni_a hh H6]
    have e2 : nw (6 + h) = g2 (2 * h + 1) := by rw [hn (6 + h) (by omega), ni_b hh H6]
    have e3 : row (4 + h) = se h := by rw [hr (4 + h) (by omega), rb_a hh H6]
    have e4 : row (10 + h) = sr h := by rw [hr (10 + h) (by omega), rb_b hh H6]
    have q1 := p2 (2 * h) (by omega)
    have q2 := p2 (2 * h + 1) (by omega)
    have q3 := c2 h hh
    refine ⟨qan.mpr (by rw [e1, e3, q1, q3.1]), qan.mpr (by rw [e2, e4, q2, q3.2]), by rw [e1, q1], by rw [e2, q2]⟩
  have hne : ∀ h : Nat, h < d.2.2.1 → ¬ nw h = -1 := fun h hh e => by
    have q := (hs h hh).2.2.1
    have g := o3 h hh
    rw [e, qam] at q
    omega
  have h24 : ∀ h : Nat, h < d.2.2.1 → nw (24 + h) = 0 := fun h hh => by rw [hn _ (by omega), ni_c (by omega) (by omega)]
  refine ⟨⟨⟨?_, fun h hh => Or.inr ?_, fun h hh => ?_, fun h hh => ?_, fun j hj => ?_, ⟨?_, ?_⟩, fun i k hi hk w => ?_⟩, ?_, fun h hh => Or.inl (h24 h hh)⟩, ?_⟩
  · rw [hr 2 (by omega), rb_0 H6 (by omega)]
    unfold caN
    rw [qblj (fun j hj => decide_eq_false (hne j hj))]
    rfl
  · have q := hs h hh
    have g := o3 h hh
    refine ⟨q.1, q.2.1.symm, ?_, by omega, by omega⟩
    rw [hr (16 + h) (by omega), rb_0 H6 (by omega), hn (12 + h) (by omega), ni_c (by omega) (by omega)]
  · have q := hs h hh
    have g := o3 h hh
    rw [← q.1, q.2.2.1]
    exact ⟨g.1, g.2.1⟩
  · rw [hr (22 + h) (by omega), rb_0 H6 (by omega), hn (18 + h) (by omega), ni_c (by omega) (by omega)]
  · have g := o5 (j / 6) (j % 6) (by omega) (by omega)
    rw [show 6 * (j / 6) + j % 6 = j by omega] at g
    have q1 := c4 j hj
    have q2 := m4 j hj
    rw [hr (28 + j) (by omega), rb_d hj, hn (30 + j) (by omega), ni_d hj]
    exact ⟨qan.mpr (by rw [q1, q2]), by omega, by omega⟩
  · rw [hr 0 (by omega), rb_1, hn 66 (by omega), qbmu]
  · rw [hr 1 (by omega), rb_0 H6 (by omega), hn 67 (by omega), qbjP]
  · have g := o5 i k hi hk
    have q2 := m4 (6 * i + k) (by omega)
    rw [hn (30 + (6 * i + k)) (by omega), ni_d (by omega)]
    refine qan.mpr ?_
    rw [q2, t_0]
    by_cases z : d.2.2.2.2.2.2.2 (6 * i + k) = 0
    · exact z
    · exact absurd ⟨(g.2.2 z).1, (g.2.2 z).2.1⟩ w
  · rw [hr 3 (by omega), rb_0 H6 (by omega)]
    unfold buN
    rw [qblj (fun j hj => decide_eq_false (by rw [h24 j hj]; decide))]
    rfl
  · unfold yrOk
    rw [hn 67 (by omega), qbjP, t_0]
    omega
theorem qbcM {NH NF : Nat} {pr pm : Nat → Int32} : relW NH NF 0 0 pr pm := ⟨rfl, by decide, by decide, fun r hr => by rw [t_0] at hr; omega⟩
theorem qbdI {NH NF : Nat} {k0 k1 k2 : Int32} {r0 r1 r2 im : Nat → Int32} : relI NH NF 0 0 k0 k1 k2 r0 r1 r2 im := ⟨rfl, ⟨by decide, by decide⟩, fun h => absurd h (by decide), fun h => absurd h (by decide), fun h => absurd h (by decide)⟩
end NW
end
section
/-! all that both keep, held against each other -/
def dR (d : dT) (nf nh nx sf : Int32) (db FX FY se sr X Y : NI) (mf mh mx : Int32) (fo ha fx : NI) : Prop := d.1.1 = 0 ∧ dOk d ∧ cD d nf nh nx db FX FY se sr X Y ∧ sf = sfD d ∧ mG d mf mh mx fo ha fx
def sfO (d : dT) : Nat → Bool := fun i => !(nrB d.2.2.2.2.1 d.2.2.2.2.2.2.1 i d.2.2.2.1)
def relF (nf nh nx sf : Int32) (db FX FY se sr X Y : NI) (mf mh mx : Int32) (fo ha fx : NI) (ln : Int32) (kd vl : NI) (ct : Int32) (cd oc : NI) (many : Int32) (seen : NI) (bs : Int32) (bo row now : NI) (kp wo : Int32) (pr9 pm9 : NI) (m mi k0 k1 k2 : Int32) (r0 r1 r2 im : NI) : Prop :=
  ∃ (d : dT) (cs : List (Int × Int)), dR d nf nh nx sf db FX FY se sr X Y mf mh mx fo ha fx ∧ qXL cs ln kd vl ct cd oc ∧ (many.toInt = bs.toInt ∧ ∀ j : Nat, j < 8 → seen j = bo j) ∧ qWf d.2.2.1 d.2.1 row now ∧ yrOk now ∧ relW d.2.2.1 d.2.1 kp wo pr9 pm9 ∧ relI d.2.2.1 d.2.1 m mi k0 k1 k2 r0 r1 r2 im
section RF
variable {nf nh nx sf : Int32} {db FX FY se sr X Y : Nat → Int32} {mf mh mx : Int32} {fo ha fx : Nat → Int32} {ln : Int32} {kd vl : Nat → Int32} {ct : Int32} {cd oc : Nat → Int32} {many : Int32} {seen : Nat → Int32} {bs : Int32} {bo : Nat → Int32} {row now : Nat → Int32} {kp wo : Int32} {pr9 pm9 : Nat → Int32} {m mi k0 k1 k2 : Int32} {r0 r1 r2 im : Nat → Int32} {d : dT} {cs : List (Int × Int)}
theorem qbgZ (h : qXL cs ln kd vl ct cd oc) : sLaw ln kd vl := qbeW h.2.1 h.1
theorem qbl4 (h : qXL cs ln kd vl ct cd oc) : rC ct cd oc := by
  obtain ⟨h1, -, h3⟩ := h
  rcases h3 with ⟨-, h4, h5⟩ | ⟨e, -⟩
  · exact qbmC h4 h5 h1
  · rw [e]
    exact ⟨⟨by decide, by decide⟩, fun k h => by rw [t_0] at h; omega⟩
theorem qeQ {fl tp : Int32} {by_ ta : Nat → Int32} (hA : relA fl tp by_ ta) (h : relF nf nh nx sf db FX FY se sr X Y mf mh mx fo ha fx ln kd vl ct cd oc many seen bs bo row now kp wo pr9 pm9 m mi k0 k1 k2 r0 r1 r2 im) :
    ((((0 ≤ nf.toInt ∧ nf.toInt ≤ 8) ∧ (0 ≤ nh.toInt ∧ nh.toInt ≤ 6) ∧ (0 ≤ nx.toInt ∧ nx.toInt ≤ 4)) ∧ (0 ≤ fl.toInt ∧ fl.toInt ≤ 600) ∧ sLaw ln kd vl ∧ qrF nh nf row ∧ (0 ≤ kp.toInt ∧ kp.toInt ≤ 16) ∧ qbe7 kp nh nf pr9 ∧ cImg m nh nf k0 k1 k2 r0 r1 r2) ∧ (0 ≤ tp.toInt ∧ tp.toInt ≤ 600) ∧ rG mf mh mx ct wo mi now cd oc pm9 im) := by
  obtain ⟨P, t, a1, a2, a3, -⟩ := hA
  obtain ⟨d, cs, ⟨-, -, ⟨⟨n1, n2⟩, ⟨j1, j2⟩, ⟨i1, i2⟩, -⟩, -, ⟨⟨c1, c2, c3⟩, -⟩⟩, hL, -, hN, -, hW, hI⟩ := h
  have w := qa9e hW j1 n1 j2 n2
  have w2 := qa9e hW c2 c1 j2 n2
  have i := qa6Q hI j1 n1 j2 n2
  have i2 := qa6Q hI c2 c1 j2 n2
  obtain ⟨q1, q2, q3, -⟩ := hW
  exact ⟨⟨⟨⟨by omega, by omega⟩, ⟨by omega, by omega⟩, by omega, by omega⟩, ⟨by omega, by omega⟩, qbgZ hL, qaNm hN j1 n1, ⟨q2, q3⟩, w.1, i.1⟩, ⟨by omega, by omega⟩, ⟨⟨by omega, by omega⟩, ⟨by omega, by omega⟩, by omega, by omega⟩, qbbL hN c2 c1 j2 n2, qbl4 hL, w2.2, i2.2⟩
theorem qbmE (h : dR d nf nh nx sf db FX FY se sr X Y mf mh mx fo ha fx) (hL : qXL cs ln kd vl ct cd oc) : evC d.2.2.1 d.2.1 d.2.2.2.2.1 cs (sfO d) ha nh sf ln X Y kd vl sr := by
  obtain ⟨d0, ⟨-, o2, o3, o4, o5⟩, ⟨⟨n1, n2⟩, ⟨j1, j2⟩, ⟨i1, i2⟩, hr⟩, hsf, ⟨-, g1, g2, g3⟩⟩ := h
  obtain ⟨r1, r2, r3, r4⟩ := hr d0
  refine ⟨j2, n2, o2, r1, j1, ⟨ct, cd, oc, hL⟩, hsf, fun h hh => ?_⟩
  have q1 := (r2 h hh).2
  have q2 := g2 (2 * h + 1) (by omega)
  have q3 := o3 h hh
  exact ⟨qan.mpr (by rw [q1, q2]), by omega, by omega⟩
theorem qbjp (h : dR d nf nh nx sf db FX FY se sr X Y mf mh mx fo ha fx) (hL : qXL cs ln kd vl ct cd oc) : evM d.2.2.1 d.2.1 d.2.2.2.2.1 cs (sfO d) ha mh mx ct fo fx cd oc := by
  obtain ⟨d0, ⟨-, o2, o3, o4, o5⟩, ⟨⟨n1, n2⟩, ⟨j1, j2⟩, ⟨i1, i2⟩, hr⟩, hsf, ⟨⟨c1, c2, c3⟩, g1, g2, g3⟩⟩ := h
  refine ⟨j2, n2, o2, g1, c2, ⟨ln, kd, vl, hL⟩, fun p i Q ep hi q1 q0 => ?_, fun h hh => ?_⟩
  · refine qa9I o2 o4 n2 i2 g1 g3 c3 ep hi (fun w => q0 ?_) (fun w => q1 ?_)
    · unfold sfO
      rw [w]
      rfl
    · unfold sfO
      rw [w]
      rfl
  · have q2 := g2 (2 * h + 1) (by omega)
    have q3 := o3 h hh
    rw [q2]
    omega
end RF
end
section
/-! down, by the class, with all that it begins -/
section TDvF
variable {by_ : Nat → Int32} {ci ln at_ tk fl fa fp p : Int32}
theorem qaXF {ag asg ar : Nat} {f h x : Int32} {db : Nat → Int32} {sf : Int32} {FX FY st sr X Y : Nat → Int32} {rg rs : Value} {rl : Int32} {rk rv : Nat → Int32} {lm : Int32} {sn row : Nat → Int32} {nd nl : Value} {pk ik rf : Int32} {P : Nat} {t : Nat → Int}
    {E : String → Int32 → Int32 → Int32 → Int32 → Int32 → Int32 → Int32 → Int32 → Int32 → Int32 → NI → Int32 → NI → NI → NI → NI → NI → NI → Value → Value → Int32 → NI → NI → Int32 → NI → NI → Value → Value → Int32 → Int32 → Int32 → Prop}
    {Q : Int32 → Int32 → Int32 → Int32 → Int32 → Int32 → Int32 → Int32 → Int32 → Int32 → Int32 → NI → Int32 → NI → NI → NI → NI → NI → NI → Value → Value → Int32 → NI → NI → Int32 → NI → NI → Value → Value → Int32 → Int32 → Int32 → Prop}
    (hf : fl.toInt = P) (hP : P ≤ 600) (ht : tB P by_ t) (he : ¬ uOk p fl 600 → E "java/lang/IllegalArgumentException" (ci + 1) ln at_ tk fl fa fp f h x db sf FX FY st sr X Y (.ref ag) (.ref asg) rl rk rv lm sn row nd nl pk ik rf)
    (hbad : uOk p fl 600 → ∀ n : Nat, p.toInt = n → (dAll n t).1.1 ≠ 0 → ∀ (ln at_ tk fa fp f h x : Int32) (db : NI) (sf : Int32) (FX FY st sr X Y : NI), fa.toInt = (dAll n t).1.1 → fp.toInt = (dAll n t).1.2.1 → Q (fa - 10) ci ln at_ tk 0 fa fp f h x db sf FX FY st sr X Y (.ref ag) (.ref asg) rl rk rv lm sn row nd nl pk ik rf)
    (hok : uOk p fl 600 → ∀ n : Nat, p.toInt = n → (dAll n t).1.1 = 0 → ∀ (ln at_ tk fa fp f h x : Int32) (db : NI) (sf : Int32) (FX FY st sr X Y : NI) (rl : Int32) (rk rv sn row : NI), fp.toInt = -1 → cD (dAll n t) f h x db FX FY st sr X Y → sf = sfD (dAll n t) → cL ((0, 0, 0), plL) rk rv rl → (∀ j : Nat, j < 8 → sn j = -1) → (∀ j : Nat, j < 64 → row j = rbG (dAll n t).2.2.1 st sr db j) → Q h ci ln at_ tk 0 fa fp f h x db sf FX FY st sr X Y (.ref asg) (.ref ag) rl rk rv 0 sn row (.ref asg) (.ref ar) 0 0 0) :
    qYq ag asg ar by_ ci ln at_ tk fl fa fp f h x db sf FX FY st sr X Y rg rs rl rk rv lm sn row nd nl pk ik rf p E Q := by
  refine qKx (M := 600) (by decide) (by omega) he (fun hu y y0 y1 y2 ey => ?_)
  obtain ⟨n, en⟩ : ∃ n : Nat, p.toInt = n := ⟨p.toInt.toNat, by have := hu.1; omega⟩
  have hn : n ≤ P := by have := hu.2.1; omega
  rw [ey]
  refine qaWM (n := n) (b := t) en (by omega) (qaNp ht hn) ⟨⟨0, t_0, by omega, fun _ => rfl⟩, t_0, fun _ => qam, fun w => absurd rfl w⟩ (fun nn h x db a sf t2 f2 fp2 FX FY se sr X Y hc hd => ?_)
  obtain ⟨⟨n1, n2⟩, ⟨m1, m2⟩, ⟨x1, x2⟩, hr⟩ := id hd
  by_cases h0 : (dAll n t).1.1 = 0
  · obtain ⟨r1, r2, r3, r4⟩ := hr h0
    have ok := qaYz h0
    refine qa2W ok.2.1 ok.2.2.2.1 n2 x2 r1 r3 n1 x1 (fun sf2 esf => ⟨fun z => ⟨fun _ => ?_, fun c => absurd rfl c⟩, fun z => absurd (qWF hc h0) z⟩)
    exact qaLA (fun rk rv rl hl => qaWW (fun sn hs => qa3C m1 m2 (fun row hr => hok hu n en h0 _ _ _ _ _ _ _ _ _ _ _ _ _ _ _ _ _ _ _ _ _ (hc.2.2.1 h0) hd esf hl hs hr)))
  · refine qaJ8 (by omega) (by omega) (fun sf2 => ⟨fun z => absurd (by rw [← hc.2.1, z, t_0]) h0, fun z => ⟨fun c => absurd c (by decide), fun _ => ?_⟩⟩)
    exact hbad hu n en h0 _ _ _ _ _ _ _ _ _ _ _ _ _ _ _ _ hc.2.1 (hc.2.2.2 h0)
end TDvF
theorem qbl6 {cs : List (Int × Int)} {cd oc : Nat → Int32} {ct : Int32} (h : mL ((0, 0, 0), cs) cd oc ct) (hr : rn cs = some 1) : ct ≠ 0 := fun z => by
  have e : ct.toInt = (cs.length : Nat) := (h rfl).1
  rw [z, t_0] at e
  have e2 : cs = [] := List.eq_nil_of_length_eq_zero (by omega)
  rw [e2] at hr
  exact absurd hr (by decide)
theorem rF_0 {mf mh mx : Int32} {db9 FX FY se sr X Y fo ha fx : Nat → Int32} {ln : Int32} {kd vl cd oc seen bo row now : Nat → Int32} {pr9 pm9 : Nat → Int32} {k0 k1 k2 : Int32} {r0 r1 r2 im g2 db2 : Nat → Int32} (h1 : mf.toInt = 0) (h2 : mh.toInt = 0) (h3 : mx.toInt = 0) (hl : cL ((0, 0, 0), plL) kd vl ln) (hr : ∀ j : Nat, j < 64 → row j = rbG 0 (fun _ => 0) (fun _ => 0) (fun _ => 0) j) (h0 : ∀ j : Nat, j < 36 → db9 j = 0) (hd : ∀ j : Nat, j < 36 → (db2 j).toInt = 0) (hn : ∀ j : Nat, j < 68 → now j = ni 0 g2 db2 j) (hs : ∀ j : Nat, j < 8 → seen j = -1) (hb : ∀ j : Nat, j < 8 → bo j = -1) :
    relF 0 0 0 0 db9 FX FY se sr X Y mf mh mx fo ha fx ln kd vl 0 cd oc 0 seen 0 bo row now 0 0 pr9 pm9 0 0 k0 k1 k2 r0 r1 r2 im := by
  have no : ∀ {P : Nat → Prop} (j : Nat), j < 0 → P j := fun j hj => absurd hj (Nat.not_lt_zero j)
  have ok : dOk ((0, 0, 0), 0, 0, 0, (fun _ => 0), (fun _ => 0), (fun _ => 0), (fun _ => 0)) := ⟨⟨by decide, by decide, by decide⟩, no, no, no, fun x y _ _ => ⟨Int.le_refl _, (show (0 : Int) ≤ 99 by decide), fun e => absurd rfl e⟩⟩
  have hc : ∀ db FX FY se sr X Y : NI, (∀ j : Nat, j < 36 → db j = 0) → cD ((0, 0, 0), 0, 0, 0, (fun _ => 0), (fun _ => 0), (fun _ => 0), (fun _ => 0)) 0 0 0 db FX FY se sr X Y := fun db FX FY se sr X Y hz => ⟨⟨t_0, by decide⟩, ⟨t_0, by decide⟩, ⟨t_0, by decide⟩, fun _ => ⟨no, no, no, fun j hj => by rw [hz j hj]; exact t_0⟩⟩
  have hm : mD ((0, 0, 0), 0, 0, 0, (fun _ => 0), (fun _ => 0), (fun _ => 0), (fun _ => 0)) 0 0 0 db2 fx ha fo := ⟨⟨t_0, by decide⟩, ⟨t_0, by decide⟩, ⟨t_0, by decide⟩, fun _ => ⟨no, no, no, fun j hj => hd j hj⟩⟩
  have hg : mG ((0, 0, 0), 0, 0, 0, (fun _ => 0), (fun _ => 0), (fun _ => 0), (fun _ => 0)) mf mh mx fo ha fx := ⟨⟨h1, h2, h3⟩, no, no, no⟩
  have hg2 : mG ((0, 0, 0), 0, 0, 0, (fun _ => 0), (fun _ => 0), (fun _ => 0), (fun _ => 0)) 0 0 0 fo g2 fx := ⟨⟨t_0, t_0, t_0⟩, no, no, no⟩
  have hN := qbcI rfl ok (hc (fun _ => 0) FX FY (fun _ => 0) (fun _ => 0) X Y (fun _ _ => rfl)) hm hg2 hr hn
  exact ⟨((0, 0, 0), 0, 0, 0, (fun _ => 0), (fun _ => 0), (fun _ => 0), (fun _ => 0)), plL, ⟨rfl, ok, hc db9 FX FY se sr X Y h0, rfl, hg⟩, qbhP hl, ⟨rfl, fun j hj => by rw [hs j hj, hb j hj]⟩, hN.1, hN.2, qbcM, qbdI⟩
end
