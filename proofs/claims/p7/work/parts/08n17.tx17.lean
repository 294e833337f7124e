/-! readers of a law go on, and tell no more than they read -/
section TG
variable {n : Nat} {b : Nat → Int}
theorem gd_sub {f : lX → lX} (hf : gdR n f) {x : lX} (h : (f x).1.1 = 0) : x.1.1 = 0 := by
  by_cases w : x.1.1 = 0
  · exact w
  · rw [(hf x).1 w] at h; exact absurd h w
theorem gd_pr {f : lX → lX} (hf : gdR n f) {k : Int} {s : Nat} {x : lX} (h0 : x.1.1 = 0) (h : (prG n b (some f) k s x).1.1 = 0) : x.1.2.2 < (prG n b (some f) k s x).1.2.2 ∧ (prG n b (some f) k s x).1.2.2 ≤ n ∧ (prG n b (some f) k s x).2.length + x.1.2.2 ≤ x.2.length + (prG n b (some f) k s x).1.2.2 := by
  obtain ⟨y1, e1⟩ : ∃ y : lX, y = f (gS n b 91 x.1, x.2) := ⟨_, rfl⟩
  obtain ⟨y3, e3⟩ : ∃ y : lX, y = f (gS n b 44 y1.1, y1.2) := ⟨_, rfl⟩
  have er : prG n b (some f) k s x = eS k 0 (gS n b 93 y3.1, y3.2) := by
    rw [e3, e1]; rfl
  rw [er] at h ⊢
  rw [eS_st] at h ⊢
  have h4 : (gS n b 93 y3.1).1 = 0 := h
  have h3 : y3.1.1 = 0 := gS_fine h4
  have h2 : (gS n b 44 y1.1).1 = 0 := by rw [e3] at h3; exact gd_sub hf h3
  have h1 : y1.1.1 = 0 := gS_fine h2
  have hz : (gS n b 91 x.1).1 = 0 := by rw [e1] at h1; exact gd_sub hf h1
  have a0 := gS_go (by decide) h0 hz
  have a1 := (hf (gS n b 91 x.1, x.2)).2 hz a0.2 (by rw [← e1]; exact h1)
  rw [← e1] at a1
  have a2 := gS_go (by decide) h1 h2
  have a3 := (hf (gS n b 44 y1.1, y1.2)).2 h2 a2.2 (by rw [← e3]; exact h3)
  rw [← e3] at a3
  have a4 := gS_go (by decide) h3 h4
  have l5 : (eS k 0 (gS n b 93 y3.1, y3.2)).2.length = y3.2.length + 1 := eS_len h4
  simp only at a1 a3
  rw [l5]
  show x.1.2.2 < (gS n b 93 y3.1).2.2 ∧ (gS n b 93 y3.1).2.2 ≤ n ∧ y3.2.length + 1 + x.1.2.2 ≤ x.2.length + (gS n b 93 y3.1).2.2
  omega
theorem gd_un {S : Option (lX → lX)} (hS : ∀ f : lX → lX, S = some f → gdR n f) : gdR n (unG n b S) := by
  intro x
  refine ⟨fun h => if_pos h, fun h0 hp h => ?_⟩
  unfold unG at h ⊢
  rw [if_neg (fun z => z h0)] at h ⊢
  by_cases c1 : isD (at0 n b (sk n b x.1.2.2))
  · rw [if_pos c1] at h ⊢
    rw [eS_st] at h ⊢
    have h : (nS n b 0 999 x.1).1 = 0 := h
    have a := nS_go h0 h
    have l : (eS 0 (nV n b x.1) (nS n b 0 999 x.1, x.2)).2.length = x.2.length + 1 := eS_len h
    rw [l]
    show x.1.2.2 < (nS n b 0 999 x.1).2.2 ∧ (nS n b 0 999 x.1).2.2 ≤ n ∧ x.2.length + 1 + x.1.2.2 ≤ x.2.length + (nS n b 0 999 x.1).2.2
    omega
  rw [if_neg c1] at h ⊢
  by_cases c2 : at0 n b (sk n b x.1.2.2) = 40
  · rw [if_pos c2] at h ⊢
    have hlt := at0_lt c2 (by decide)
    have hsk := (sk_facts (n := n) (b := b) _ x.1.2.2 rfl).1
    cases S with
    | none => exact absurd h (show ¬ (3 : Int) = 0 by decide)
    | some f =>
      have hf := hS f rfl
      obtain ⟨y, e⟩ : ∃ y : lX, y = f ((0, 0, sk n b x.1.2.2 + 1), x.2) := ⟨_, rfl⟩
      have h : (gS n b 41 (f ((0, 0, sk n b x.1.2.2 + 1), x.2)).1).1 = 0 := h
      show x.1.2.2 < (gS n b 41 (f ((0, 0, sk n b x.1.2.2 + 1), x.2)).1).2.2 ∧ (gS n b 41 (f ((0, 0, sk n b x.1.2.2 + 1), x.2)).1).2.2 ≤ n ∧ (f ((0, 0, sk n b x.1.2.2 + 1), x.2)).2.length + x.1.2.2 ≤ x.2.length + (gS n b 41 (f ((0, 0, sk n b x.1.2.2 + 1), x.2)).1).2.2
      have h1 : (f ((0, 0, sk n b x.1.2.2 + 1), x.2)).1.1 = 0 := gS_fine h
      have a1 := (hf ((0, 0, sk n b x.1.2.2 + 1), x.2)).2 rfl (by show sk n b x.1.2.2 + 1 ≤ n; omega) h1
      have a2 := gS_go (by decide) h1 h
      simp only at a1
      rw [← e] at a1 a2 ⊢
      omega
  rw [if_neg c2] at h ⊢
  have pair : ∀ k : Int, 0 < pw n b (sk n b x.1.2.2) → (prG n b S k (sk n b x.1.2.2) (wE n b x.1, x.2)).1.1 = 0 → x.1.2.2 < (prG n b S k (sk n b x.1.2.2) (wE n b x.1, x.2)).1.2.2 ∧ (prG n b S k (sk n b x.1.2.2) (wE n b x.1, x.2)).1.2.2 ≤ n ∧ (prG n b S k (sk n b x.1.2.2) (wE n b x.1, x.2)).2.length + x.1.2.2 ≤ x.2.length + (prG n b S k (sk n b x.1.2.2) (wE n b x.1, x.2)).1.2.2 := fun k hw h => by
    cases S with
    | none => exact absurd h (show ¬ (3 : Int) = 0 by decide)
    | some f =>
      have a := gd_pr (b := b) (hS f rfl) (x := (wE n b x.1, x.2)) rfl h
      have w := wE_go (n := n) (b := b) (st := x.1) hw
      simp only at a
      omega
  by_cases c3 : pw n b (sk n b x.1.2.2) = 12748404
  · rw [if_pos c3] at h ⊢
    exact pair 6 (by rw [c3]; decide) h
  rw [if_neg c3] at h ⊢
  by_cases c4 : pw n b (sk n b x.1.2.2) = 441972
  · rw [if_pos c4] at h ⊢
    exact pair 7 (by rw [c4]; decide) h
  rw [if_neg c4] at h ⊢
  by_cases c5 : fW (pw n b (sk n b x.1.2.2)) = -1
  · rw [if_pos c5] at h; exact absurd h (by first | decide | simp)
  rw [if_neg c5] at h ⊢
  have w := wE_go (n := n) (b := b) (st := x.1) (fW_pos c5).1
  rw [eS_st, eS_len (by rfl)]
  show x.1.2.2 < (wE n b x.1).2.2 ∧ (wE n b x.1).2.2 ≤ n ∧ x.2.length + 1 + x.1.2.2 ≤ x.2.length + (wE n b x.1).2.2
  omega
theorem gd_lp {op : Int → Int} {u : lX → lX} (hu : gdR n u) (h0 : op 0 = -1) : ∀ (k : Nat) (x : lX), (x.1.1 ≠ 0 → lpG n b op u k x = x) ∧ (x.1.1 = 0 → x.1.2.2 ≤ n → (lpG n b op u k x).1.1 = 0 → x.1.2.2 ≤ (lpG n b op u k x).1.2.2 ∧ (lpG n b op u k x).1.2.2 ≤ n ∧ (lpG n b op u k x).2.length + x.1.2.2 ≤ x.2.length + (lpG n b op u k x).1.2.2) := by
  intro k
  induction k with
  | zero => intro x; exact ⟨fun _ => rfl, fun _ hp _ => ⟨Nat.le_refl _, hp, Nat.le_refl _⟩⟩
  | succ k ih =>
    intro x
    refine ⟨fun w => by unfold lpG; rw [if_pos (Or.inl w)], fun w hp h => ?_⟩
    unfold lpG at h ⊢
    by_cases c : x.1.1 ≠ 0 ∨ op (at0 n b (sk n b x.1.2.2)) = -1
    · rw [if_pos c]; exact ⟨Nat.le_refl _, hp, Nat.le_refl _⟩
    rw [if_neg c] at h ⊢
    have hlt : sk n b x.1.2.2 < n := by
      by_cases z : sk n b x.1.2.2 < n
      · exact z
      · exact absurd (Or.inr (by rw [at0_out z]; exact h0)) c
    have hsk := (sk_facts (n := n) (b := b) _ x.1.2.2 rfl).1
    obtain ⟨y, e⟩ : ∃ y : lX, y = u ((0, 0, sk n b x.1.2.2 + 1), x.2) := ⟨_, rfl⟩
    rw [← e] at h ⊢
    obtain ⟨w9, e9⟩ : ∃ w9 : Int, w9 = op (at0 n b (sk n b x.1.2.2)) := ⟨_, rfl⟩
    rw [← e9] at h ⊢
    have hy : (eS w9 0 y).1.1 = 0 := by
      by_cases z : (eS w9 0 y).1.1 = 0
      · exact z
      · rw [(ih _).1 z] at h; exact h
    have a := (ih (eS w9 0 y)).2 hy
    rw [eS_st] at hy a
    have a1 := (hu ((0, 0, sk n b x.1.2.2 + 1), x.2)).2 rfl (by show sk n b x.1.2.2 + 1 ≤ n; omega) (by rw [← e]; exact hy)
    rw [← e] at a1
    simp only at a1
    have a2 := a a1.2.1 h
    rw [eS_len hy] at a2
    omega
theorem gd_pd {S : Option (lX → lX)} (hS : ∀ f : lX → lX, S = some f → gdR n f) : gdR n (pdG n b S) := by
  intro x
  have hu := gd_un (b := b) hS
  refine ⟨fun h => ?_, fun h0 hp h => ?_⟩
  · show lpG n b oP (unG n b S) 150 (unG n b S x) = x
    rw [(hu x).1 h]; exact (gd_lp hu rfl 150 x).1 h
  · have h : (lpG n b oP (unG n b S) 150 (unG n b S x)).1.1 = 0 := h
    have h1 : (unG n b S x).1.1 = 0 := by
      by_cases z : (unG n b S x).1.1 = 0
      · exact z
      · rw [(gd_lp hu rfl 150 _).1 z] at h; exact h
    have a1 := (hu x).2 h0 hp h1
    have a2 := (gd_lp (b := b) (op := oP) hu rfl 150 (unG n b S x)).2 h1 a1.2.1 h
    show x.1.2.2 < (lpG n b oP (unG n b S) 150 (unG n b S x)).1.2.2 ∧ (lpG n b oP (unG n b S) 150 (unG n b S x)).1.2.2 ≤ n ∧ (lpG n b oP (unG n b S) 150 (unG n b S x)).2.length + x.1.2.2 ≤ x.2.length + (lpG n b oP (unG n b S) 150 (unG n b S x)).1.2.2
    omega
theorem gd_su {S : Option (lX → lX)} (hS : ∀ f : lX → lX, S = some f → gdR n f) : gdR n (suG n b S) := by
  intro x
  have hu := gd_pd (b := b) hS
  refine ⟨fun h => ?_, fun h0 hp h => ?_⟩
  · show lpG n b oS (pdG n b S) 150 (pdG n b S x) = x
    rw [(hu x).1 h]; exact (gd_lp hu rfl 150 x).1 h
  · have h : (lpG n b oS (pdG n b S) 150 (pdG n b S x)).1.1 = 0 := h
    have h1 : (pdG n b S x).1.1 = 0 := by
      by_cases z : (pdG n b S x).1.1 = 0
      · exact z
      · rw [(gd_lp hu rfl 150 _).1 z] at h; exact h
    have a1 := (hu x).2 h0 hp h1
    have a2 := (gd_lp (b := b) (op := oS) hu rfl 150 (pdG n b S x)).2 h1 a1.2.1 h
    show x.1.2.2 < (lpG n b oS (pdG n b S) 150 (pdG n b S x)).1.2.2 ∧ (lpG n b oS (pdG n b S) 150 (pdG n b S x)).1.2.2 ≤ n ∧ (lpG n b oS (pdG n b S) 150 (pdG n b S x)).2.length + x.1.2.2 ≤ x.2.length + (lpG n b oS (pdG n b S) 150 (pdG n b S x)).1.2.2
    omega
theorem gd_suN : ∀ m : Nat, gdR n (suN n b m) := by
  intro m
  induction m with
  | zero => exact gd_su (fun f h => absurd h (by simp))
  | succ m ih => exact gd_su (fun f h => by rw [← Option.some.inj h]; exact ih)
end TG
