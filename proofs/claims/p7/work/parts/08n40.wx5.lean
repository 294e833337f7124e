/-! the doing of a work: what it comes to -/
abbrev rSt := Nat × (Nat → Int32) × Int32 × Int32
def itN (g : rSt → rSt) : Nat → rSt → rSt
  | 0, σ => σ
  | t + 1, σ => if 200 ≤ σ.1 then σ else itN g t (g σ)
section RN
variable (F : Nat → Int) (cs : List (Int × Int)) (sfB : Nat → Bool) (hr : Nat → Int32) (nh : Nat)
def lfR (v : wLf) (σ : rSt) : rSt := if alB F cs nh v σ.2.1 = true then (σ.1 + 1, doF sfB hr nh v σ.2.1, σ.2.2.1 + 1, σ.2.2.2) else (σ.1 + 1, σ.2.1, σ.2.2.1, σ.2.2.2 + 1)
def ndR {β : Type} (rB : β → rSt → rSt) (x : wLf ⊕ (Int × β)) (σ : rSt) : rSt := match x with
  | Sum.inl v => lfR F cs sfB hr nh v σ
  | Sum.inr v => itN (rB v.2) v.1.toNat (σ.1 + 1, σ.2)
def rnL {β : Type} (rB : β → rSt → rSt) : TG β → rSt → rSt
  | [], σ => σ
  | x :: L, σ => if 200 ≤ σ.1 then σ else rnL rB L (ndR F cs sfB hr nh rB x σ)
def ruN : (m : Nat) → TT m → rSt → rSt
  | 0 => rnL F cs sfB hr nh (β := Empty) (fun _ σ => σ)
  | m + 1 => rnL F cs sfB hr nh (β := TT m) (ruN m)
end RN
/-- texts whose numbers are good -/
def wfG {β : Type} (NH NF : Nat) (wB : β → Prop) : TG β → Prop
  | [] => True
  | Sum.inl v :: L => wfL NH NF v ∧ wfG NH NF wB L
  | Sum.inr v :: L => (0 ≤ v.1 ∧ v.1 ≤ 40 ∧ wB v.2) ∧ wfG NH NF wB L
def wfN (NH NF : Nat) : (m : Nat) → TT m → Prop
  | 0 => wfG NH NF (β := Empty) (fun _ => False)
  | m + 1 => wfG NH NF (β := TT m) (wfN NH NF m)
section WG
variable {F : Nat → Int} {cs : List (Int × Int)} {sfB : Nat → Bool} {hr : Nat → Int32} {NH NF : Nat}
theorem rn_full {β : Type} {rB : β → rSt → rSt} {L : TG β} {σ : rSt} (h : 200 ≤ σ.1) : rnL F cs sfB hr NH rB L σ = σ := by
  cases L with
  | nil => rfl
  | cons x L =>
    show (if 200 ≤ σ.1 then σ else _) = σ
    rw [if_pos h]
theorem it_full {g : rSt → rSt} {t : Nat} {σ : rSt} (h : 200 ≤ σ.1) : itN g t σ = σ := by
  cases t with
  | zero => rfl
  | succ t =>
    show (if 200 ≤ σ.1 then σ else _) = σ
    rw [if_pos h]
theorem rn_cons {β : Type} {rB : β → rSt → rSt} {x : wLf ⊕ (Int × β)} {L : TG β} {σ : rSt} (h : ¬ 200 ≤ σ.1) : rnL F cs sfB hr NH rB (x :: L) σ = rnL F cs sfB hr NH rB L (ndR F cs sfB hr NH rB x σ) := by
  show (if 200 ≤ σ.1 then σ else _) = _
  rw [if_neg h]
theorem it_s {g : rSt → rSt} {t : Nat} {σ : rSt} (h : ¬ 200 ≤ σ.1) : itN g (t + 1) σ = itN g t (g σ) := by
  show (if 200 ≤ σ.1 then σ else _) = _
  rw [if_neg h]
theorem wg_app {β : Type} {wB : β → Prop} {L2 : TG β} (h2 : wfG NH NF wB L2) : ∀ L1 : TG β, wfG NH NF wB L1 → wfG NH NF wB (L1 ++ L2) := by
  intro L1
  induction L1 with
  | nil => intro _; exact h2
  | cons x L ih =>
    intro h
    cases x with
    | inl v => exact ⟨h.1, ih h.2⟩
    | inr v => exact ⟨h.1, ih h.2⟩
end WG
section WW
variable {n : Nat} {b : Nat → Int} {NH NF : Nat} {st : sT}
theorem wf_step {β : Type} {wB : β → Prop} {eB : β → Nat} {B : Option (sT → sT × β)} (hB : ∀ g : sT → sT × β, B = some g → gdB n eB g ∧ ∀ st : sT, st.1 = 0 → st.2.2 ≤ n → (g st).1.1 = 0 → wB (g st).2) (h0 : st.1 = 0) (hp : st.2.2 ≤ n) (h : (stGw n b NH NF B st).1.1 = 0) : wfG NH NF wB (stGw n b NH NF B st).2 := by
  unfold stGw at h ⊢
  by_cases c1 : pw n b (sk n b st.2.2) = 1279278
  · rw [if_pos c1] at h ⊢
    cases B with
    | none => exact absurd h (by show ¬ (3 : Int) = 0; decide)
    | some g =>
      have h : (gS n b 59 (gS n b 93 (g (gS n b 91 (nS n b 0 40 (wE n b st)))).1)).1 = 0 := h
      have h2 := gS_fine (gS_fine h)
      obtain ⟨hg1, hg2⟩ := hB g rfl
      have h1 : (gS n b 91 (nS n b 0 40 (wE n b st))).1 = 0 := by
        by_cases z : (gS n b 91 (nS n b 0 40 (wE n b st))).1 = 0
        · exact z
        · rw [(hg1 _).1 z] at h2; exact h2
      have a1 := gS_on (by decide) h1
      have v := nS_fine (gS_fine h1)
      exact ⟨⟨v.2.1, v.2.2, hg2 _ h1 a1.2 h2⟩, trivial⟩
  · rw [if_neg c1] at h ⊢
    by_cases c2 : pw n b (sk n b st.2.2) = 398384 ∨ pw n b (sk n b st.2.2) = 2552 ∨ pw n b (sk n b st.2.2) = 16441 ∨ pw n b (sk n b st.2.2) = 4153
    · rw [if_pos c2] at h ⊢
      have h : (gS n b 59 (lfS n b NH NF (pw n b (sk n b st.2.2)) st)).1 = 0 := h
      have hz := gS_fine h
      refine ⟨?_, trivial⟩
      generalize pw n b (sk n b st.2.2) = w at c2 hz
      unfold lfS at hz
      unfold lfV wfL
      by_cases d1 : w = 398384
      · rw [if_pos d1] at hz ⊢
        have v2 := nS_fine hz
        have v1 := nS_fine v2.1
        exact Or.inl ⟨rfl, v1.2.1, by have := v1.2.2; show nV n b (wE n b st) < NH; omega, v2.2.1, by have := v2.2.2; show nV n b (nS n b 0 ((NH : Int) - 1) (wE n b st)) < NF; omega⟩
      by_cases d2 : w = 2552
      · rw [if_neg d1, if_pos d2] at hz ⊢
        have v2 := nS_fine hz
        have v1 := nS_fine v2.1
        exact Or.inr (Or.inl ⟨rfl, v1.2.1, by have := v1.2.2; show nV n b (wE n b st) < NH; omega, v2.2.1, by have := v2.2.2; show nV n b (nS n b 0 ((NH : Int) - 1) (wE n b st)) < NH; omega⟩)
      by_cases d3 : w = 16441
      · rw [if_neg d1, if_neg d2, if_pos d3] at hz ⊢
        have v3 := nS_fine hz
        have v2 := nS_fine v3.1
        have v1 := nS_fine v2.1
        exact Or.inr (Or.inr (Or.inl ⟨rfl, v1.2.1, by have := v1.2.2; show nV n b (wE n b st) < NH; omega, v2.2.1, by have := v2.2.2; show nV n b (nS n b 0 ((NH : Int) - 1) (wE n b st)) < NH; omega, v3.2.1, v3.2.2⟩))
      · rw [if_neg d1, if_neg d2, if_neg d3]
        exact Or.inr (Or.inr (Or.inr rfl))
    · rw [if_neg c2] at h
      exact absurd h (by show ¬ (1 : Int) = 0; decide)
theorem wf_bl {β : Type} {wB : β → Prop} {eB : β → Nat} {B : Option (sT → sT × β)} (hB : ∀ g : sT → sT × β, B = some g → gdB n eB g ∧ ∀ st : sT, st.1 = 0 → st.2.2 ≤ n → (g st).1.1 = 0 → wB (g st).2) : ∀ (k : Nat) (x : sT × TG β), x.1.1 = 0 → x.1.2.2 ≤ n → wfG NH NF wB x.2 → (blG n b NH NF B k x).1.1 = 0 → wfG NH NF wB (blG n b NH NF B k x).2 := by
  intro k
  induction k with
  | zero => intro x _ _ h _; exact h
  | succ k ih =>
    intro x h0 hp hw h
    by_cases c : at0 n b (sk n b x.1.2.2) = 93
    · have e : blG n b NH NF B (k + 1) x = x := by
        show (if x.1.1 ≠ 0 ∨ at0 n b (sk n b x.1.2.2) = 93 then x else _) = x
        rw [if_pos (Or.inr c)]
      rw [e]; exact hw
    · have e : blG n b NH NF B (k + 1) x = blG n b NH NF B k ((stGw n b NH NF B x.1).1, x.2 ++ (stGw n b NH NF B x.1).2) := by
        show (if x.1.1 ≠ 0 ∨ at0 n b (sk n b x.1.2.2) = 93 then x else _) = _
        rw [if_neg (fun d => d.elim (fun w => w h0) c)]
      rw [e] at h ⊢
      have hs : (stGw n b NH NF B x.1).1.1 = 0 := by
        by_cases z : (stGw n b NH NF B x.1).1.1 = 0
        · exact z
        · rw [(gd_bl (fun g hg => (hB g hg).1) k ((stGw n b NH NF B x.1).1, x.2 ++ (stGw n b NH NF B x.1).2)).1 z] at h; exact h
      have g := gd_st (fun g hg => (hB g hg).1) h0 hp hs
      exact ih _ hs g.2.1 (wg_app (wf_step hB h0 hp hs) _ hw) h
theorem wf_blN : ∀ (m : Nat) (st : sT), st.1 = 0 → st.2.2 ≤ n → (blN n b NH NF m st).1.1 = 0 → wfN NH NF m (blN n b NH NF m st).2 := by
  intro m
  induction m with
  | zero => intro st h0 hp h; exact wf_bl (β := Empty) (eB := fun _ => 0) (wB := fun _ => False) (B := none) (fun g hg => by cases hg) 150 (st, []) h0 hp trivial h
  | succ m ih => intro st h0 hp h; exact wf_bl (β := TT m) (eB := enN m) (wB := wfN NH NF m) (B := some (blN n b NH NF m)) (fun g hg => by rw [← Option.some.inj hg]; exact ⟨gd_blN m, ih⟩) 150 (st, []) h0 hp trivial h
theorem wf_all (h : (wkAll n b NH NF).1.1 = 0) : wfG NH NF (wfN NH NF 5) (wkAll n b NH NF).2 := by
  have go : ∀ (k : Nat) (x : sT × TG (TT 5)), x.1.1 = 0 → x.1.2.2 ≤ n → wfG NH NF (wfN NH NF 5) x.2 → (tpG n b NH NF (some (blN n b NH NF 5)) k x).1.1 = 0 → wfG NH NF (wfN NH NF 5) (tpG n b NH NF (some (blN n b NH NF 5)) k x).2 := by
    intro k
    induction k with
    | zero => intro x _ _ h _; exact h
    | succ k ih =>
      intro x h0 hp hw h
      by_cases c : sk n b x.1.2.2 < n
      · have e : tpG n b NH NF (some (blN n b NH NF 5)) (k + 1) x = tpG n b NH NF (some (blN n b NH NF 5)) k ((stGw n b NH NF (some (blN n b NH NF 5)) x.1).1, x.2 ++ (stGw n b NH NF (some (blN n b NH NF 5)) x.1).2) := by
          show (if x.1.1 ≠ 0 ∨ ¬ sk n b x.1.2.2 < n then x else _) = _
          rw [if_neg (fun d => d.elim (fun w => w h0) (fun w => w c))]
        rw [e] at h ⊢
        have hs : (stGw n b NH NF (some (blN n b NH NF 5)) x.1).1.1 = 0 := by
          by_cases z : (stGw n b NH NF (some (blN n b NH NF 5)) x.1).1.1 = 0
          · exact z
          · cases k with
            | zero => exact h
            | succ k =>
              have h : (if (stGw n b NH NF (some (blN n b NH NF 5)) x.1).1.1 ≠ 0 ∨ _ then ((stGw n b NH NF (some (blN n b NH NF 5)) x.1).1, x.2 ++ (stGw n b NH NF (some (blN n b NH NF 5)) x.1).2) else _ : sT × TG (TT 5)).1.1 = 0 := h
              rw [if_pos (Or.inl z)] at h
              exact h
        have hBs : ∀ g : sT → sT × TT 5, some (blN n b NH NF 5) = some g → gdB n (enN 5) g ∧ ∀ st : sT, st.1 = 0 → st.2.2 ≤ n → (g st).1.1 = 0 → wfN NH NF 5 (g st).2 := fun g hg => by rw [← Option.some.inj hg]; exact ⟨gd_blN 5, wf_blN 5⟩
        have g := gd_st (fun g hg => (hBs g hg).1) h0 hp hs
        exact ih _ hs g.2.1 (wg_app (wf_step hBs h0 hp hs) _ hw) h
      · have e : tpG n b NH NF (some (blN n b NH NF 5)) (k + 1) x = x := by
          show (if x.1.1 ≠ 0 ∨ ¬ sk n b x.1.2.2 < n then x else _) = x
          rw [if_pos (Or.inr c)]
        rw [e]; exact hw
  exact go 150 ((0, 0, 0), []) rfl (Nat.zero_le _) trivial h
end WW
