/-! what a law's words amount to: each sign behind what it joins -/
def cst (o : Option Int) (c : Int × Int) : Option Int := match o with
  | none => none
  | some d => if c.1 = 0 then some (d + 1) else if c.1 = 1 then (if 0 ≤ c.2 ∧ c.2 < 8 then some (d + 1) else none) else if 2 ≤ c.1 ∧ c.1 ≤ 8 ∧ 2 ≤ d then some (d - 1) else none
def rn (cs : List (Int × Int)) : Option Int := cs.foldl cst (some 0)
theorem rn_app {cs : List (Int × Int)} {c : Int × Int} : rn (cs ++ [c]) = cst (rn cs) c := by
  unfold rn; rw [List.foldl_append]; rfl
theorem rn_0 {d v : Int} : cst (some d) (0, v) = some (d + 1) := rfl
theorem rn_1 {d v : Int} (h : 0 ≤ v ∧ v < 8) : cst (some d) (1, v) = some (d + 1) := by
  show (if (1 : Int) = 0 then some (d + 1) else if (1 : Int) = 1 then (if 0 ≤ v ∧ v < 8 then some (d + 1) else none) else if 2 ≤ (1 : Int) ∧ (1 : Int) ≤ 8 ∧ 2 ≤ d then some (d - 1) else none) = _
  rw [if_neg (by decide), if_pos rfl, if_pos h]
theorem rn_2 {d k v : Int} (h : 2 ≤ k ∧ k ≤ 8) (hd : 2 ≤ d) : cst (some d) (k, v) = some (d - 1) := by
  show (if k = 0 then _ else if k = 1 then _ else if 2 ≤ k ∧ k ≤ 8 ∧ 2 ≤ d then some (d - 1) else none) = _
  rw [if_neg (by omega), if_neg (by omega), if_pos ⟨h.1, h.2, hd⟩]
/-- a reader puts one thing more on the pile -/
def gdD (f : lX → lX) : Prop := ∀ (x : lX) (d : Int), x.1.1 = 0 → rn x.2 = some d → 0 ≤ d → (f x).1.1 = 0 → rn (f x).2 = some (d + 1)
section TE
variable {n : Nat} {b : Nat → Int}
theorem rn_eS {k v : Int} {x : lX} (h : x.1.1 = 0) : rn (eS k v x).2 = cst (rn x.2) (k, v) := by rw [eS_0 h]; exact rn_app
theorem dd_pr {f : lX → lX} (hg : gdR n f) (hf : gdD f) {k : Int} (hk : 2 ≤ k ∧ k ≤ 8) {s : Nat} {x : lX} {d : Int} (hr : rn x.2 = some d) (hd : 0 ≤ d) (h : (prG n b (some f) k s x).1.1 = 0) : rn (prG n b (some f) k s x).2 = some (d + 1) := by
  obtain ⟨y1, e1⟩ : ∃ y : lX, y = f (gS n b 91 x.1, x.2) := ⟨_, rfl⟩
  obtain ⟨y3, e3⟩ : ∃ y : lX, y = f (gS n b 44 y1.1, y1.2) := ⟨_, rfl⟩
  have er : prG n b (some f) k s x = eS k 0 (gS n b 93 y3.1, y3.2) := by rw [e3, e1]; rfl
  rw [er] at h ⊢
  rw [eS_st] at h
  have h4 : (gS n b 93 y3.1).1 = 0 := h
  have h3 : y3.1.1 = 0 := gS_fine h4
  have h2 : (gS n b 44 y1.1).1 = 0 := by rw [e3] at h3; exact gd_sub hg h3
  have h1 : y1.1.1 = 0 := gS_fine h2
  have hz : (gS n b 91 x.1).1 = 0 := by rw [e1] at h1; exact gd_sub hg h1
  have r1 : rn y1.2 = some (d + 1) := by rw [e1]; exact hf (gS n b 91 x.1, x.2) d hz hr hd (by rw [← e1]; exact h1)
  have r3 : rn y3.2 = some (d + 1 + 1) := by rw [e3]; exact hf (gS n b 44 y1.1, y1.2) (d + 1) h2 r1 (by omega) (by rw [← e3]; exact h3)
  rw [rn_eS h4]
  show cst (rn y3.2) (k, 0) = _
  rw [r3, rn_2 hk (by omega)]
  congr 1; omega
theorem dd_un {S : Option (lX → lX)} (hS : ∀ f : lX → lX, S = some f → gdR n f ∧ gdD f) : gdD (unG n b S) := by
  intro x d h0 hr hd h
  unfold unG at h ⊢
  rw [if_neg (fun z => z h0)] at h ⊢
  by_cases c1 : isD (at0 n b (sk n b x.1.2.2))
  · rw [if_pos c1] at h ⊢
    rw [eS_st] at h
    rw [rn_eS h]
    show cst (rn x.2) _ = _
    rw [hr]; exact rn_0
  rw [if_neg c1] at h ⊢
  by_cases c2 : at0 n b (sk n b x.1.2.2) = 40
  · rw [if_pos c2] at h ⊢
    cases S with
    | none => exact absurd h (show ¬ (3 : Int) = 0 by decide)
    | some f =>
      have h1 : (f ((0, 0, sk n b x.1.2.2 + 1), x.2)).1.1 = 0 := gS_fine (c := 41) h
      exact (hS f rfl).2 ((0, 0, sk n b x.1.2.2 + 1), x.2) d rfl hr hd h1
  rw [if_neg c2] at h ⊢
  have pair : ∀ k : Int, 2 ≤ k ∧ k ≤ 8 → (prG n b S k (sk n b x.1.2.2) (wE n b x.1, x.2)).1.1 = 0 → rn (prG n b S k (sk n b x.1.2.2) (wE n b x.1, x.2)).2 = some (d + 1) := fun k hk h => by
    cases S with
    | none => exact absurd h (show ¬ (3 : Int) = 0 by decide)
    | some f => exact dd_pr (hS f rfl).1 (hS f rfl).2 hk (x := (wE n b x.1, x.2)) hr hd h
  by_cases c3 : pw n b (sk n b x.1.2.2) = 12748404
  · rw [if_pos c3] at h ⊢; exact pair 6 (by decide) h
  rw [if_neg c3] at h ⊢
  by_cases c4 : pw n b (sk n b x.1.2.2) = 441972
  · rw [if_pos c4] at h ⊢; exact pair 7 (by decide) h
  rw [if_neg c4] at h ⊢
  by_cases c5 : fW (pw n b (sk n b x.1.2.2)) = -1
  · rw [if_pos c5] at h; exact absurd h (by first | decide | simp)
  rw [if_neg c5] at h ⊢
  rw [rn_eS (by rfl)]
  show cst (rn x.2) _ = _
  rw [hr]; exact rn_1 (fW_pos c5).2
theorem dd_lp {op : Int → Int} {u : lX → lX} (hu : gdR n u) (hd : gdD u) (hop : ∀ c : Int, op c ≠ -1 → 2 ≤ op c ∧ op c ≤ 8) : ∀ (k : Nat) (x : lX) (d : Int), x.1.1 = 0 → rn x.2 = some d → 1 ≤ d → (lpG n b op u k x).1.1 = 0 → rn (lpG n b op u k x).2 = some d := by
  intro k
  induction k with
  | zero => intro x d h0 hr h1 _; exact hr
  | succ k ih =>
    intro x d h0 hr h1 h
    unfold lpG at h ⊢
    by_cases c : x.1.1 ≠ 0 ∨ op (at0 n b (sk n b x.1.2.2)) = -1
    · rw [if_pos c]; exact hr
    rw [if_neg c] at h ⊢
    obtain ⟨w, ew⟩ : ∃ w : Int, w = op (at0 n b (sk n b x.1.2.2)) := ⟨_, rfl⟩
    have hw : 2 ≤ w ∧ w ≤ 8 := by rw [ew]; exact hop _ (fun z => c (Or.inr z))
    rw [← ew] at h ⊢
    obtain ⟨y, ey⟩ : ∃ y : lX, y = u ((0, 0, sk n b x.1.2.2 + 1), x.2) := ⟨_, rfl⟩
    rw [← ey] at h ⊢
    have hy : (eS w 0 y).1.1 = 0 := by
      by_cases z : (eS w 0 y).1.1 = 0
      · exact z
      · have e : lpG n b op u k (eS w 0 y) = eS w 0 y := by
          cases k with
          | zero => rfl
          | succ k => unfold lpG; rw [if_pos (Or.inl z)]
        rw [e] at h; exact h
    have hy2 : y.1.1 = 0 := by rw [eS_st] at hy; exact hy
    have ry : rn y.2 = some (d + 1) := by rw [ey]; exact hd ((0, 0, sk n b x.1.2.2 + 1), x.2) d rfl hr (by omega) (by rw [← ey]; exact hy2)
    refine ih (eS w 0 y) d hy ?_ h1 h
    rw [rn_eS hy2, ry, rn_2 hw (by omega)]
    congr 1; omega
theorem oP_ok : ∀ c : Int, oP c ≠ -1 → 2 ≤ oP c ∧ oP c ≤ 8 := fun c h => by
  unfold oP at h ⊢
  by_cases h1 : c = 42
  · rw [if_pos h1]; decide
  rw [if_neg h1] at h ⊢
  by_cases h2 : c = 47
  · rw [if_pos h2]; decide
  rw [if_neg h2] at h ⊢
  by_cases h3 : c = 37
  · rw [if_pos h3]; decide
  rw [if_neg h3] at h; exact absurd rfl h
theorem oS_ok : ∀ c : Int, oS c ≠ -1 → 2 ≤ oS c ∧ oS c ≤ 8 := fun c h => by
  unfold oS at h ⊢
  by_cases h1 : c = 43
  · rw [if_pos h1]; decide
  rw [if_neg h1] at h ⊢
  by_cases h2 : c = 45
  · rw [if_pos h2]; decide
  rw [if_neg h2] at h; exact absurd rfl h
theorem dd_pd {S : Option (lX → lX)} (hS : ∀ f : lX → lX, S = some f → gdR n f ∧ gdD f) : gdD (pdG n b S) := by
  intro x d h0 hr hd h
  have hg := gd_un (b := b) (fun f e => (hS f e).1)
  have h1 : (unG n b S x).1.1 = 0 := by
    by_cases z : (unG n b S x).1.1 = 0
    · exact z
    · have h : (lpG n b oP (unG n b S) 150 (unG n b S x)).1.1 = 0 := h
      rw [(gd_lp hg rfl 150 _).1 z] at h; exact h
  exact dd_lp hg (dd_un hS) oP_ok 150 (unG n b S x) (d + 1) h1 (dd_un hS x d h0 hr hd h1) (by omega) h
theorem dd_su {S : Option (lX → lX)} (hS : ∀ f : lX → lX, S = some f → gdR n f ∧ gdD f) : gdD (suG n b S) := by
  intro x d h0 hr hd h
  have hg := gd_pd (b := b) (fun f e => (hS f e).1)
  have h1 : (pdG n b S x).1.1 = 0 := by
    by_cases z : (pdG n b S x).1.1 = 0
    · exact z
    · have h : (lpG n b oS (pdG n b S) 150 (pdG n b S x)).1.1 = 0 := h
      rw [(gd_lp hg rfl 150 _).1 z] at h; exact h
  exact dd_lp hg (dd_pd hS) oS_ok 150 (pdG n b S x) (d + 1) h1 (dd_pd hS x d h0 hr hd h1) (by omega) h
theorem dd_suN : ∀ m : Nat, gdD (suN n b m) := by
  intro m
  induction m with
  | zero => exact dd_su (fun f h => absurd h (by simp))
  | succ m ih => exact dd_su (fun f h => by rw [← Option.some.inj h]; exact ⟨gd_suN m, ih⟩)
theorem enS_fine {st : sT} (h : (enS n b st).1 = 0) : st.1 = 0 ∧ enS n b st = st := by
  unfold enS at h ⊢
  by_cases z : st.1 ≠ 0
  · rw [if_pos z] at h; exact absurd h z
  · rw [if_neg z] at h ⊢
    by_cases y : sk n b st.2.2 < n
    · rw [if_pos y] at h; exact absurd h (by first | decide | simp)
    · rw [if_neg y]
      exact ⟨by by_cases w : st.1 = 0
                · exact w
                · exact absurd w z, rfl⟩
/-- a law's text without a fault: its words amount to one number -/
theorem lw_one (h : (lwAll n b).1.1 = 0) : rn (lwAll n b).2 = some 1 ∧ (lwAll n b).2.length ≤ n := by
  have h0 : (suN n b 6 ((0, 0, 0), [])).1.1 = 0 := (enS_fine h).1
  refine ⟨dd_suN 6 ((0, 0, 0), []) 0 rfl rfl (by decide) h0, ?_⟩
  have a := (gd_suN (n := n) (b := b) 6 ((0, 0, 0), [])).2 rfl (Nat.zero_le _) h0
  have e : ([] : List (Int × Int)).length = 0 := rfl
  simp only at a
  show (suN n b 6 ((0, 0, 0), [])).2.length ≤ n
  omega
end TE
