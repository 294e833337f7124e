/-! a work's text: what it says -/
abbrev wLf := Int × Int × Int × Int
abbrev TG (β : Type) := List (wLf ⊕ (Int × β))
def TT : Nat → Type
  | 0 => TG Empty
  | m + 1 => TG (TT m)
section WT
variable (n : Nat) (b : Nat → Int) (H F : Int)
def agGw {β : Type} (B : Option (sT → sT × β)) (st : sT) : sT × TG β := match B with
  | none => ((3, sk n b st.2.2, 0), [])
  | some f => (gS n b 59 (gS n b 93 (f (gS n b 91 (nS n b 0 40 (wE n b st)))).1), [Sum.inr (nV n b (wE n b st), (f (gS n b 91 (nS n b 0 40 (wE n b st)))).2)])
def tnS (st : sT) : sT := nS n b 0 (H - 1) (nS n b 0 (H - 1) (wE n b st))
def tfS (st : sT) : sT := nS n b 0 (F - 1) (nS n b 0 (H - 1) (wE n b st))
/-- a step that is no loop: kind and numbers, where it ends ahead of its sign -/
def lfV (w : Int) (st : sT) : wLf := if w = 398384 then (0, nV n b (wE n b st), nV n b (nS n b 0 (H - 1) (wE n b st)), 0) else if w = 2552 then (1, nV n b (wE n b st), nV n b (nS n b 0 (H - 1) (wE n b st)), 0) else if w = 16441 then (2, nV n b (wE n b st), nV n b (nS n b 0 (H - 1) (wE n b st)), nV n b (tnS n b H st)) else (3, 0, 0, 0)
def lfS (w : Int) (st : sT) : sT := if w = 398384 then tfS n b H F st else if w = 2552 then tnS n b H st else if w = 16441 then nS n b 1 99 (tnS n b H st) else wE n b st
def isLf (w : Int) : Prop := w = 398384 ∨ w = 2552 ∨ w = 16441 ∨ w = 4153
def stGw {β : Type} (B : Option (sT → sT × β)) (st : sT) : sT × TG β :=
  if pw n b (sk n b st.2.2) = 1279278 then agGw n b B st
  else if pw n b (sk n b st.2.2) = 398384 ∨ pw n b (sk n b st.2.2) = 2552 ∨ pw n b (sk n b st.2.2) = 16441 ∨ pw n b (sk n b st.2.2) = 4153 then (gS n b 59 (lfS n b H F (pw n b (sk n b st.2.2)) st), [Sum.inl (lfV n b H (pw n b (sk n b st.2.2)) st)])
  else ((1, sk n b st.2.2, 0), [])
def blG {β : Type} (B : Option (sT → sT × β)) : Nat → sT × TG β → sT × TG β
  | 0, x => x
  | k + 1, x => if x.1.1 ≠ 0 ∨ at0 n b (sk n b x.1.2.2) = 93 then x else blG B k ((stGw n b H F B x.1).1, x.2 ++ (stGw n b H F B x.1).2)
def tpG {β : Type} (B : Option (sT → sT × β)) : Nat → sT × TG β → sT × TG β
  | 0, x => x
  | k + 1, x => if x.1.1 ≠ 0 ∨ ¬ sk n b x.1.2.2 < n then x else tpG B k ((stGw n b H F B x.1).1, x.2 ++ (stGw n b H F B x.1).2)
def blN : (m : Nat) → sT → sT × TT m
  | 0, st => blG n b H F (β := Empty) none 150 (st, [])
  | m + 1, st => blG n b H F (β := TT m) (some (blN m)) 150 (st, [])
def wkAll : sT × TG (TT 5) := tpG n b H F (some (blN n b H F 5)) 150 ((0, 0, 0), [])
end WT
/-- how many rows of the class a text wants -/
def enL {β : Type} (eB : β → Nat) : TG β → Nat
  | [] => 0
  | Sum.inl _ :: L => 1 + enL eB L
  | Sum.inr x :: L => 2 + eB x.2 + enL eB L
theorem en_app {β : Type} {eB : β → Nat} {L2 : TG β} : ∀ L1 : TG β, enL eB (L1 ++ L2) = enL eB L1 + enL eB L2 := by
  intro L1
  induction L1 with
  | nil => show enL eB L2 = 0 + enL eB L2; omega
  | cons x L ih =>
    cases x with
    | inl v => show 1 + enL eB (L ++ L2) = 1 + enL eB L + enL eB L2; omega
    | inr v => show 2 + eB v.2 + enL eB (L ++ L2) = 2 + eB v.2 + enL eB L + enL eB L2; omega
section WP
variable {n : Nat} {b : Nat → Int} {H F : Int} {st : sT}
/-- a word of three letters or more -/
theorem wE_3 (hw : 1024 ≤ pw n b (sk n b st.2.2)) : st.2.2 + 3 ≤ (wE n b st).2.2 ∧ (wE n b st).2.2 ≤ n := by
  have h1 := wE_go (n := n) (b := b) (st := st) (by omega)
  have h2 := lE_facts (n := n) (b := b) (s := sk n b st.2.2) _ (sk n b st.2.2) rfl
  have h3 := (sk_facts (n := n) (b := b) _ st.2.2 rfl).1
  refine ⟨?_, h1.2⟩
  show st.2.2 + 3 ≤ lE n b (sk n b st.2.2)
  by_cases c : sk n b st.2.2 + 3 ≤ lE n b (sk n b st.2.2)
  · omega
  · have g := pk_rng (b := b) (s := sk n b st.2.2) (lE n b (sk n b st.2.2) - sk n b st.2.2) (fun j hj => h2.2.2.1 (sk n b st.2.2 + j) (by omega) (by omega))
    unfold pw at hw
    rw [if_pos (by omega)] at hw
    have e : lE n b (sk n b st.2.2) - sk n b st.2.2 = 0 ∨ lE n b (sk n b st.2.2) - sk n b st.2.2 = 1 ∨ lE n b (sk n b st.2.2) - sk n b st.2.2 = 2 := by omega
    rcases e with e | e | e <;> rw [e] at g hw <;> simp at g <;> omega
theorem wE_0 : (wE n b st).1 = 0 := rfl
/-- a number that is read well goes on -/
theorem nS_on {lo hi : Int} (h : (nS n b lo hi st).1 = 0) : st.2.2 < (nS n b lo hi st).2.2 ∧ (nS n b lo hi st).2.2 ≤ n := nS_go (nS_fine h).1 h
theorem gS_on {c : Int} (hc : c ≠ 0) (h : (gS n b c st).1 = 0) : st.2.2 < (gS n b c st).2.2 ∧ (gS n b c st).2.2 ≤ n := gS_go hc (gS_fine h) h
theorem lfS_on {w : Int} (hw : pw n b (sk n b st.2.2) = w) (hl : isLf w) (h : (lfS n b H F w st).1 = 0) : st.2.2 + 3 ≤ (lfS n b H F w st).2.2 ∧ (lfS n b H F w st).2.2 ≤ n := by
  unfold isLf at hl
  have g := wE_3 (n := n) (b := b) (st := st) (by omega)
  unfold lfS at h ⊢
  by_cases c1 : w = 398384
  · rw [if_pos c1] at h ⊢
    have a2 := nS_on h
    have a1 := nS_on (nS_fine h).1
    unfold tfS
    omega
  by_cases c2 : w = 2552
  · rw [if_neg c1, if_pos c2] at h ⊢
    have a2 := nS_on h
    have a1 := nS_on (nS_fine h).1
    unfold tnS
    omega
  by_cases c3 : w = 16441
  · rw [if_neg c1, if_neg c2, if_pos c3] at h ⊢
    have a3 := nS_on h
    have a2 := nS_on (nS_fine h).1
    have a1 := nS_on (nS_fine (nS_fine h).1).1
    have e : (tnS n b H st).2.2 = (nS n b 0 (H - 1) (nS n b 0 (H - 1) (wE n b st))).2.2 := rfl
    omega
  · rw [if_neg c1, if_neg c2, if_neg c3]; exact g
/-- a reader of a block: behind a fault nothing; else it goes on, and tells a third as much as it reads -/
def gdB (n : Nat) {β : Type} (eB : β → Nat) (f : sT → sT × β) : Prop := ∀ st : sT, (st.1 ≠ 0 → (f st).1 = st) ∧ (st.1 = 0 → st.2.2 ≤ n → (f st).1.1 = 0 → st.2.2 ≤ (f st).1.2.2 ∧ (f st).1.2.2 ≤ n ∧ 3 * eB (f st).2 + st.2.2 ≤ (f st).1.2.2)
theorem gd_st {β : Type} {eB : β → Nat} {B : Option (sT → sT × β)} (hB : ∀ f : sT → sT × β, B = some f → gdB n eB f) (h0 : st.1 = 0) (hp : st.2.2 ≤ n) (h : (stGw n b H F B st).1.1 = 0) : st.2.2 + 4 ≤ (stGw n b H F B st).1.2.2 ∧ (stGw n b H F B st).1.2.2 ≤ n ∧ 3 * enL eB (stGw n b H F B st).2 + st.2.2 ≤ (stGw n b H F B st).1.2.2 := by
  unfold stGw at h ⊢
  by_cases c1 : pw n b (sk n b st.2.2) = 1279278
  · rw [if_pos c1] at h ⊢
    have g := wE_3 (n := n) (b := b) (st := st) (by omega)
    cases B with
    | none => exact absurd h (by show ¬ (3 : Int) = 0; decide)
    | some f =>
      have h : (gS n b 59 (gS n b 93 (f (gS n b 91 (nS n b 0 40 (wE n b st)))).1)).1 = 0 := h
      have a4 := gS_on (by decide) h
      have h3 := gS_fine h
      have a3 := gS_on (by decide) h3
      have h2 := gS_fine h3
      have hf := hB f rfl (gS n b 91 (nS n b 0 40 (wE n b st)))
      have h1 : (gS n b 91 (nS n b 0 40 (wE n b st))).1 = 0 := by
        by_cases z : (gS n b 91 (nS n b 0 40 (wE n b st))).1 = 0
        · exact z
        · rw [hf.1 z] at h2; exact h2
      have a1 := gS_on (by decide) h1
      have a0 := nS_on (gS_fine h1)
      have a2 := hf.2 h1 a1.2 h2
      show st.2.2 + 4 ≤ (gS n b 59 (gS n b 93 (f (gS n b 91 (nS n b 0 40 (wE n b st)))).1)).2.2 ∧ (gS n b 59 (gS n b 93 (f (gS n b 91 (nS n b 0 40 (wE n b st)))).1)).2.2 ≤ n ∧ 3 * (2 + eB (f (gS n b 91 (nS n b 0 40 (wE n b st)))).2 + 0) + st.2.2 ≤ (gS n b 59 (gS n b 93 (f (gS n b 91 (nS n b 0 40 (wE n b st)))).1)).2.2
      omega
  · rw [if_neg c1] at h ⊢
    by_cases c2 : pw n b (sk n b st.2.2) = 398384 ∨ pw n b (sk n b st.2.2) = 2552 ∨ pw n b (sk n b st.2.2) = 16441 ∨ pw n b (sk n b st.2.2) = 4153
    · rw [if_pos c2] at h ⊢
      have h : (gS n b 59 (lfS n b H F (pw n b (sk n b st.2.2)) st)).1 = 0 := h
      have a2 := gS_on (by decide) h
      have a1 := lfS_on rfl c2 (gS_fine h)
      show st.2.2 + 4 ≤ (gS n b 59 (lfS n b H F (pw n b (sk n b st.2.2)) st)).2.2 ∧ (gS n b 59 (lfS n b H F (pw n b (sk n b st.2.2)) st)).2.2 ≤ n ∧ 3 * (1 + 0) + st.2.2 ≤ (gS n b 59 (lfS n b H F (pw n b (sk n b st.2.2)) st)).2.2
      omega
    · rw [if_neg c2] at h
      exact absurd h (by show ¬ (1 : Int) = 0; decide)
/-- a block's loop: it goes on; it ends at its end -/
theorem gd_bl {β : Type} {eB : β → Nat} {B : Option (sT → sT × β)} (hB : ∀ f : sT → sT × β, B = some f → gdB n eB f) : ∀ (k : Nat) (x : sT × TG β), (x.1.1 ≠ 0 → blG n b H F B k x = x) ∧ (x.1.1 = 0 → x.1.2.2 ≤ n → (blG n b H F B k x).1.1 = 0 → x.1.2.2 ≤ (blG n b H F B k x).1.2.2 ∧ (blG n b H F B k x).1.2.2 ≤ n ∧ 3 * enL eB (blG n b H F B k x).2 + x.1.2.2 ≤ 3 * enL eB x.2 + (blG n b H F B k x).1.2.2 ∧ (at0 n b (sk n b (blG n b H F B k x).1.2.2) = 93 ∨ x.1.2.2 + 4 * k ≤ (blG n b H F B k x).1.2.2)) := by
  intro k
  induction k with
  | zero => intro x; exact ⟨fun _ => rfl, fun h0 hp _ => ⟨Nat.le_refl _, hp, Nat.le_refl _, Or.inr (by show x.1.2.2 + 4 * 0 ≤ x.1.2.2; omega)⟩⟩
  | succ k ih =>
    intro x
    refine ⟨fun h => ?_, fun h0 hp h => ?_⟩
    · show (if x.1.1 ≠ 0 ∨ at0 n b (sk n b x.1.2.2) = 93 then x else _) = x
      rw [if_pos (Or.inl h)]
    · by_cases c : at0 n b (sk n b x.1.2.2) = 93
      · have e : blG n b H F B (k + 1) x = x := by
          show (if x.1.1 ≠ 0 ∨ at0 n b (sk n b x.1.2.2) = 93 then x else _) = x
          rw [if_pos (Or.inr c)]
        rw [e]
        exact ⟨Nat.le_refl _, hp, Nat.le_refl _, Or.inl c⟩
      · have e : blG n b H F B (k + 1) x = blG n b H F B k ((stGw n b H F B x.1).1, x.2 ++ (stGw n b H F B x.1).2) := by
          show (if x.1.1 ≠ 0 ∨ at0 n b (sk n b x.1.2.2) = 93 then x else _) = _
          rw [if_neg (fun d => d.elim (fun w => w h0) c)]
        rw [e] at h ⊢
        obtain ⟨i1, i2⟩ := ih ((stGw n b H F B x.1).1, x.2 ++ (stGw n b H F B x.1).2)
        have hs : (stGw n b H F B x.1).1.1 = 0 := by
          by_cases z : (stGw n b H F B x.1).1.1 = 0
          · exact z
          · rw [i1 z] at h; exact h
        have g := gd_st hB h0 hp hs
        have i3 := i2 hs g.2.1 h
        rw [en_app] at i3
        obtain ⟨j1, j2, j3, j4⟩ := i3
        have j1 : (stGw n b H F B x.1).1.2.2 ≤ _ := j1
        have j3 : _ + (stGw n b H F B x.1).1.2.2 ≤ _ := j3
        have j4 : _ ∨ (stGw n b H F B x.1).1.2.2 + 4 * k ≤ _ := j4
        refine ⟨by omega, j2, by omega, j4.imp id (fun d => by omega)⟩
def enN : (m : Nat) → TT m → Nat
  | 0 => enL (β := Empty) (fun _ => 0)
  | m + 1 => enL (β := TT m) (enN m)
theorem gd_blN : ∀ m : Nat, gdB n (enN m) (blN n b H F m) := by
  intro m
  induction m with
  | zero =>
    intro st
    have g := gd_bl (n := n) (b := b) (H := H) (F := F) (β := Empty) (eB := fun _ => 0) (B := none) (fun f hf => by cases hf) 150 (st, [])
    refine ⟨fun h => congrArg Prod.fst (g.1 h), fun h0 hp h => ?_⟩
    have g2 := g.2 h0 hp h
    exact ⟨g2.1, g2.2.1, by have h7 : 3 * enL (fun _ => 0) (blG n b H F (β := Empty) none 150 (st, [])).2 + st.2.2 ≤ 3 * enL (fun _ => 0) ([] : TG Empty) + (blG n b H F (β := Empty) none 150 (st, [])).1.2.2 := g2.2.2.1; show 3 * enL (fun _ => 0) (blG n b H F (β := Empty) none 150 (st, [])).2 + st.2.2 ≤ (blG n b H F (β := Empty) none 150 (st, [])).1.2.2; have e : enL (fun _ => 0) ([] : TG Empty) = 0 := rfl; omega⟩
  | succ m ih =>
    intro st
    have g := gd_bl (n := n) (b := b) (H := H) (F := F) (β := TT m) (eB := enN m) (B := some (blN n b H F m)) (fun f hf => by rw [← Option.some.inj hf]; exact ih) 150 (st, [])
    refine ⟨fun h => congrArg Prod.fst (g.1 h), fun h0 hp h => ?_⟩
    have g2 := g.2 h0 hp h
    exact ⟨g2.1, g2.2.1, by have h7 : 3 * enL (enN m) (blG n b H F (β := TT m) (some (blN n b H F m)) 150 (st, [])).2 + st.2.2 ≤ 3 * enL (enN m) ([] : TG (TT m)) + (blG n b H F (β := TT m) (some (blN n b H F m)) 150 (st, [])).1.2.2 := g2.2.2.1; show 3 * enL (enN m) (blG n b H F (β := TT m) (some (blN n b H F m)) 150 (st, [])).2 + st.2.2 ≤ (blG n b H F (β := TT m) (some (blN n b H F m)) 150 (st, [])).1.2.2; have e : enL (enN m) ([] : TG (TT m)) = 0 := rfl; omega⟩
end WP
