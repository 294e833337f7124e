section
/-! what a law's words amount to: each sign behind what it joins -/
def cst (o : Option Int) (c : Int × Int) : Option Int := match o with
  | none => none
  | some d => if c.1 = 0 then some (d + 1) else if c.1 = 1 then (if 0 ≤ c.2 ∧ c.2 < 8 then some (d + 1) else none) else if 2 ≤ c.1 ∧ c.1 ≤ 8 ∧ 2 ≤ d then some (d - 1) else none
def rn (cs : List (Int × Int)) : Option Int := cs.foldl cst (some 0)
theorem qbcO {cs : List (Int × Int)} {c : Int × Int} : rn (cs ++ [c]) = cst (rn cs) c := by
  unfold rn; rw [List.foldl_append]; rfl
theorem rn_0 {d v : Int} : cst (some d) (0, v) = some (d + 1) := rfl
theorem rn_1 {d v : Int} (h : 0 ≤ v ∧ v < 8) : cst (some d) (1, v) = some (d + 1) := by
  show (if (1 : Int) = 0 then some (d + 1) else if (1 : Int) = 1 then (if 0 ≤ v ∧ v < 8 then some (d + 1) else none) else if 2 ≤ (1 : Int) ∧ (1 : Int) ≤ 8 ∧ 2 ≤ d then some (d - 1) else none) = _
  rw [if_neg (by decide), if_pos rfl, if_pos h]
theorem rn_2 {d k v : Int} (h : 2 ≤ k ∧ k ≤ 8) (hd : 2 ≤ d) : cst (some d) (k, v) = some (d - 1) := by
  show (if k = 0 then _ else if k = 1 then _ else if 2 ≤ k ∧ k ≤ 8 ∧ 2 ≤ d then some (d - 1) else none) = _
  rw [if_neg (by omega), if_neg (by omega), if_pos ⟨h.1, h.2, hd⟩]
/-- a reader puts one thing more on the pile -/
def gdD (f : lX → lX) : Prop := ∀ (x : lX) (d : Int), x.1.1 = 0 → rn x.2 = some d → 0 ≤ d → (f x).1.1 = 0 → rn (f x).2 = some (d + 1)
section TE
variable {n : Nat} {b : Nat → Int}
theorem qbbC {k v : Int} {x : lX} (h : x.1.1 = 0) : rn (eS k v x).2 = cst (rn x.2) (k, v) := by rw [eS_0 h]; exact qbcO
theorem qbm8 {f : lX → lX} (hg : gdR n f) (hf : gdD f) {k : Int} (hk : 2 ≤ k ∧ k ≤ 8) {s : Nat} {x : lX} {d : Int} (hr : rn x.2 = some d) (hd : 0 ≤ d) (h : (prG n b (some f) k s x).1.1 = 0) : rn (prG n b (some f) k s x).2 = some (d + 1) := by
  obtain ⟨y1, e1⟩ : ∃ y : lX, y = f (gS n b 91 x.1, x.2) := ⟨_, rfl⟩
  obtain ⟨y3, e3⟩ : ∃ y : lX, y = f (gS n b 44 y1.1, y1.2) := ⟨_, rfl⟩
  have er : prG n b (some f) k s x = eS k 0 (gS n b 93 y3.1, y3.2) := by rw [e3, e1]; rfl
  rw [er] at h ⊢
  rw [qDx] at h
  have h4 : (gS n b 93 y3.1).1 = 0 := h
  have h3 : y3.1.1 = 0 := qlb h4
  have h2 : (gS n b 44 y1.1).1 = 0 := by rw [e3] at h3; exact qaV2 hg h3
  have h1 : y1.1.1 = 0 := qlb h2
  have hz : (gS n b 91 x.1).1 = 0 := by rw [e1] at h1; exact qaV2 hg h1
  have r1 : rn y1.2 = some (d + 1) := by rw [e1]; exact hf (gS n b 91 x.1, x.2) d hz hr hd (by rw [← e1]; exact h1)
  have r3 : rn y3.2 = some (d + 1 + 1) := by rw [e3]; exact hf (gS n b 44 y1.1, y1.2) (d + 1) h2 r1 (by omega) (by rw [← e3]; exact h3)
  rw [qbbC h4]
  show cst (rn y3.2) (k, 0) = _
  rw [r3, rn_2 hk (by omega)]
  congr 1; omega
theorem qbiw {S : Option (lX → lX)} (hS : ∀ f : lX → lX, S = some f → gdR n f ∧ gdD f) : gdD (unG n b S) := by
  intro x d h0 hr hd h
  unfold unG at h ⊢
  rw [if_neg (fun z => z h0)] at h ⊢
  by_cases c1 : isD (at0 n b (sk n b x.1.2.2))
  · rw [if_pos c1] at h ⊢
    rw [qDx] at h
    rw [qbbC h]
    show cst (rn x.2) _ = _
    rw [hr]; exact rn_0
  rw [if_neg c1] at h ⊢
  by_cases c2 : at0 n b (sk n b x.1.2.2) = 40
  · rw [if_pos c2] at h ⊢
    cases S with
    | none => exact absurd h (show ¬ (3 : Int) = 0 by decide)
    | some f =>
      have h1 : (f ((0, 0, sk n b x.1.2.2 + 1), x.2)).1.1 = 0 := qlb (c := 41) h
      exact (hS f rfl).2 ((0, 0, sk n b x.1.2.2 + 1), x.2) d rfl hr hd h1
  rw [if_neg c2] at h ⊢
  have pair : ∀ k : Int, 2 ≤ k ∧ k ≤ 8 → (prG n b S k (sk n b x.1.2.2) (wE n b x.1, x.2)).1.1 = 0 → rn (prG n b S k (sk n b x.1.2.2) (wE n b x.1, x.2)).2 = some (d + 1) := fun k hk h => by
    cases S with
    | none => exact absurd h (show ¬ (3 : Int) = 0 by decide)
    | some f => exact qbm8 (hS f rfl).1 (hS f rfl).2 hk (x := (wE n b x.1, x.2)) hr hd h
  by_cases c3 : pw n b (sk n b x.1.2.2) = 12748404
  · rw [if_pos c3] at h ⊢; exact pair 6 (by decide) h
  rw [if_neg c3] at h ⊢
  by_cases c4 : pw n b (sk n b x.1.2.2) = 441972
  · rw [if_pos c4] at h ⊢; exact pair 7 (by decide) h
  rw [if_neg c4] at h ⊢
  by_cases c5 : fW (pw n b (sk n b x.1.2.2)) = -1
  · rw [if_pos c5] at h; exact absurd h (by first | decide | simp)
  rw [if_neg c5] at h ⊢
  rw [qbbC (by rfl)]
  show cst (rn x.2) _ = _
  rw [hr]; exact rn_1 (qaV3 c5).2
theorem qblu {op : Int → Int} {u : lX → lX} (hu : gdR n u) (hd : gdD u) (hop : ∀ c : Int, op c ≠ -1 → 2 ≤ op c ∧ op c ≤ 8) : ∀ (k : Nat) (x : lX) (d : Int), x.1.1 = 0 → rn x.2 = some d → 1 ≤ d → (lpG n b op u k x).1.1 = 0 → rn (lpG n b op u k x).2 = some d := by
  intro k
  induction k with
  | zero => intro x d h0 hr h1 _; exact hr
  | succ k ih =>
    intro x d h0 hr h1 h
    unfold lpG at h ⊢
    by_cases c : x.1.1 ≠ 0 ∨ op (at0 n b (sk n b x.1.2.2)) = -1
    · rw [if_pos c]; exact hr
    rw [if_neg c] at h ⊢
    obtain ⟨w, ew⟩ : ∃ w : Int, w = op (at0 n b (sk n b x.1.2.2)) := ⟨_, rfl⟩
    have hw : 2 ≤ w ∧ w ≤ 8 := by rw [ew]; exact hop _ (fun z => c (Or.inr z))
    rw [← ew] at h ⊢
    obtain ⟨y, ey⟩ : ∃ y : lX, y = u ((0, 0, sk n b x.1.2.2 + 1), x.2) := ⟨_, rfl⟩
    rw [← ey] at h ⊢
    have hy : (eS w 0 y).1.1 = 0 := by
      by_cases z : (eS w 0 y).1.1 = 0
      · exact z
      · have e : lpG n b op u k (eS w 0 y) = eS w 0 y := by
          cases k with
          | zero => rfl
          | succ k => unfold lpG; rw [if_pos (Or.inl z)]
        rw [e] at h; exact h
    have hy2 : y.1.1 = 0 := by rw [qDx] at hy; exact hy
    have ry : rn y.2 = some (d + 1) := by rw [ey]; exact hd ((0, 0, sk n b x.1.2.2 + 1), x.2) d rfl hr (by omega) (by rw [← ey]; exact hy2)
    refine ih (eS w 0 y) d hy ?_ h1 h
    rw [qbbC hy2, ry, rn_2 hw (by omega)]
    congr 1; omega
theorem qbl1 : ∀ c : Int, oP c ≠ -1 → 2 ≤ oP c ∧ oP c ≤ 8 := fun c h => by
  unfold oP at h ⊢
  by_cases h1 : c = 42
  · rw [if_pos h1]; decide
  rw [if_neg h1] at h ⊢
  by_cases h2 : c = 47
  · rw [if_pos h2]; decide
  rw [if_neg h2] at h ⊢
  by_cases h3 : c = 37
  · rw [if_pos h3]; decide
  rw [if_neg h3] at h; exact absurd rfl h
theorem qblW : ∀ c : Int, oS c ≠ -1 → 2 ≤ oS c ∧ oS c ≤ 8 := fun c h => by
  unfold oS at h ⊢
  by_cases h1 : c = 43
  · rw [if_pos h1]; decide
  rw [if_neg h1] at h ⊢
  by_cases h2 : c = 45
  · rw [if_pos h2]; decide
  rw [if_neg h2] at h; exact absurd rfl h
theorem qbkW {S : Option (lX → lX)} (hS : ∀ f : lX → lX, S = some f → gdR n f ∧ gdD f) : gdD (pdG n b S) := by
  intro x d h0 hr hd h
  have hg := qaIr (b := b) (fun f e => (hS f e).1)
  have h1 : (unG n b S x).1.1 = 0 := by
    by_cases z : (unG n b S x).1.1 = 0
    · exact z
    · have h : (lpG n b oP (unG n b S) 150 (unG n b S x)).1.1 = 0 := h
      rw [(qac9 hg rfl 150 _).1 z] at h; exact h
  exact qblu hg (qbiw hS) qbl1 150 (unG n b S x) (d + 1) h1 (qbiw hS x d h0 hr hd h1) (by omega) h
theorem qbkt {S : Option (lX → lX)} (hS : ∀ f : lX → lX, S = some f → gdR n f ∧ gdD f) : gdD (suG n b S) := by
  intro x d h0 hr hd h
  have hg := qaHx (b := b) (fun f e => (hS f e).1)
  have h1 : (pdG n b S x).1.1 = 0 := by
    by_cases z : (pdG n b S x).1.1 = 0
    · exact z
    · have h : (lpG n b oS (pdG n b S) 150 (pdG n b S x)).1.1 = 0 := h
      rw [(qac9 hg rfl 150 _).1 z] at h; exact h
  exact qblu hg (qbkW hS) qblW 150 (pdG n b S x) (d + 1) h1 (qbkW hS x d h0 hr hd h1) (by omega) h
theorem qbkZ : ∀ m : Nat, gdD (suN n b m) := by
  intro m
  induction m with
  | zero => exact qbkt (fun f h => absurd h (by simp))
  | succ m ih => exact qbkt (fun f h => by rw [← Option.some.inj h]; exact ⟨qS0 m, ih⟩)
theorem qaRj {st : sT} (h : (enS n b st).1 = 0) : st.1 = 0 ∧ enS n b st = st := by
  unfold enS at h ⊢
  by_cases z : st.1 ≠ 0
  · rw [if_pos z] at h; exact absurd h z
  · rw [if_neg z] at h ⊢
    by_cases y : sk n b st.2.2 < n
    · rw [if_pos y] at h; exact absurd h (by first | decide | simp)
    · rw [if_neg y]
      exact ⟨by by_cases w : st.1 = 0
                · exact w
                · exact absurd w z, rfl⟩
/-- a law's text without a fault: its words amount to one number -/
theorem qbel (h : (q0p n b).1.1 = 0) : rn (q0p n b).2 = some 1 ∧ (q0p n b).2.length ≤ n := by
  have h0 : (suN n b 6 ((0, 0, 0), [])).1.1 = 0 := (qaRj h).1
  refine ⟨qbkZ 6 ((0, 0, 0), []) 0 rfl rfl (by decide) h0, ?_⟩
  have a := (qS0 (n := n) (b := b) 6 ((0, 0, 0), [])).2 rfl (Nat.zero_le _) h0
  have e : ([] : List (Int × Int)).length = 0 := rfl
  simp only at a
  show (suN n b 6 ((0, 0, 0), [])).2.length ≤ n
  omega
end TE
end
section
/-! how far by a law: both piles -/
def bo (k : Int) (a c : Int32) : Int32 := if k = 2 then a + c else if k = 3 then a - c else if k = 4 then a * c else if k = 5 then (if c = 0 then 0 else a / c) else if k = 8 then (if c = 0 then 0 else a - a / c * c) else if k = 6 then (if c ≤ a then c else a) else (if a ≤ c then c else a)
theorem qbaJ {k : Int} {p a c : Int32} {Q : Int32 → Prop} (hk : 2 ≤ k ∧ k ≤ 8) (hp : p.toInt = kC k) (hq : Q (bo k a c)) : qSd p a c Q := by
  have hc : k = 2 ∨ k = 3 ∨ k = 4 ∨ k = 5 ∨ k = 6 ∨ k = 7 ∨ k = 8 := by omega
  rcases hc with e | e | e | e | e | e | e <;> subst e
  · have hp : p = 2 := qan.mpr (by rw [hp]; decide)
    subst hp
    exact ⟨fun d => absurd d (by first | decide | simp), fun _ => hq, fun d => absurd d (by first | decide | simp), fun d => absurd d (by first | decide | simp), fun d => absurd d (by first | decide | simp), fun d => absurd d (by first | decide | simp), fun d => absurd d (by first | decide | simp)⟩
  · have hp : p = 3 := qan.mpr (by rw [hp]; decide)
    subst hp
    exact ⟨fun d => absurd d (by first | decide | simp), fun d => absurd d (by first | decide | simp), fun _ => hq, fun d => absurd d (by first | decide | simp), fun d => absurd d (by first | decide | simp), fun d => absurd d (by first | decide | simp), fun d => absurd d (by first | decide | simp)⟩
  · have hp : p = 4 := qan.mpr (by rw [hp]; decide)
    subst hp
    exact ⟨fun d => absurd d (by first | decide | simp), fun d => absurd d (by first | decide | simp), fun d => absurd d (by first | decide | simp), fun _ => hq, fun d => absurd d (by first | decide | simp), fun d => absurd d (by first | decide | simp), fun d => absurd d (by first | decide | simp)⟩
  · have hp : p = 5 := qan.mpr (by rw [hp]; decide)
    subst hp
    have e : bo 5 a c = if c = 0 then 0 else a / c := rfl
    rw [e] at hq
    exact ⟨fun d => absurd d (by first | decide | simp), fun d => absurd d (by first | decide | simp), fun d => absurd d (by first | decide | simp), fun d => absurd d (by first | decide | simp), fun _ => ⟨fun z => ⟨z, fun x ex => by rw [ex]; rw [if_neg z] at hq; exact hq⟩, fun z => by rw [if_pos z] at hq; exact hq⟩, fun d => absurd d (by first | decide | simp), fun d => absurd d (by first | decide | simp)⟩
  · have hp : p = 7 := qan.mpr (by rw [hp]; decide)
    subst hp
    have e : bo 6 a c = if c ≤ a then c else a := rfl
    rw [e] at hq
    exact ⟨fun d => absurd d (by first | decide | simp), fun d => absurd d (by first | decide | simp), fun d => absurd d (by first | decide | simp), fun d => absurd d (by first | decide | simp), fun d => absurd d (by first | decide | simp), fun d => absurd d (by first | decide | simp), fun _ => ⟨fun z => by rw [if_pos z] at hq; exact hq, fun z => by rw [if_neg z] at hq; exact hq⟩⟩
  · have hp : p = 8 := qan.mpr (by rw [hp]; decide)
    subst hp
    have e : bo 7 a c = if a ≤ c then c else a := rfl
    rw [e] at hq
    exact ⟨fun _ => ⟨fun z => by rw [if_pos z] at hq; exact hq, fun z => by rw [if_neg z] at hq; exact hq⟩, fun d => absurd d (by first | decide | simp), fun d => absurd d (by first | decide | simp), fun d => absurd d (by first | decide | simp), fun d => absurd d (by first | decide | simp), fun d => absurd d (by first | decide | simp), fun d => absurd d (by first | decide | simp)⟩
  · have hp : p = 6 := qan.mpr (by rw [hp]; decide)
    subst hp
    have e : bo 8 a c = if c = 0 then 0 else a - a / c * c := rfl
    rw [e] at hq
    exact ⟨fun d => absurd d (by first | decide | simp), fun d => absurd d (by first | decide | simp), fun d => absurd d (by first | decide | simp), fun d => absurd d (by first | decide | simp), fun d => absurd d (by first | decide | simp), fun _ => ⟨fun z => ⟨z, fun x ex => by rw [ex]; rw [if_neg z] at hq; exact hq⟩, fun z => by rw [if_pos z] at hq; exact hq⟩, fun d => absurd d (by first | decide | simp)⟩
theorem qbgE {k : Int} {p a c : Int32} {Q : Int32 → Prop} (hk : 2 ≤ k ∧ k ≤ 8) (hp : p.toInt = k) (hq : Q (bo k a c)) : qXy p a c Q := by
  have hc : k = 2 ∨ k = 3 ∨ k = 4 ∨ k = 5 ∨ k = 6 ∨ k = 7 ∨ k = 8 := by omega
  rcases hc with e | e | e | e | e | e | e <;> subst e
  · have hp : p = 2 := qan.mpr (by rw [hp]; decide)
    subst hp
    exact ⟨fun d => absurd rfl d, fun _ => hq⟩
  · have hp : p = 3 := qan.mpr (by rw [hp]; decide)
    subst hp
    exact ⟨fun _ => ⟨fun d => absurd rfl d, fun _ => hq⟩, fun d => absurd d (by first | decide | simp)⟩
  · have hp : p = 4 := qan.mpr (by rw [hp]; decide)
    subst hp
    exact ⟨fun _ => ⟨fun _ => ⟨fun d => absurd rfl d, fun _ => hq⟩, fun d => absurd d (by first | decide | simp)⟩, fun d => absurd d (by first | decide | simp)⟩
  · have hp : p = 5 := qan.mpr (by rw [hp]; decide)
    subst hp
    have e : bo 5 a c = if c = 0 then 0 else a / c := rfl
    rw [e] at hq
    exact ⟨fun _ => ⟨fun _ => ⟨fun _ => ⟨fun _ => ⟨fun z => ⟨fun d => absurd rfl d, fun _ => ⟨z, fun x ex => by rw [ex]; rw [if_neg z] at hq; exact hq⟩⟩, fun z => by rw [if_pos z] at hq; exact hq⟩, fun d => absurd rfl d⟩, fun d => absurd d (by first | decide | simp)⟩, fun d => absurd d (by first | decide | simp)⟩, fun d => absurd d (by first | decide | simp)⟩
  · have hp : p = 6 := qan.mpr (by rw [hp]; decide)
    subst hp
    have e : bo 6 a c = if c ≤ a then c else a := rfl
    rw [e] at hq
    exact ⟨fun _ => ⟨fun _ => ⟨fun _ => ⟨fun d => absurd d (by first | decide | simp), fun _ => ⟨fun _ => ⟨fun z => ⟨fun d => absurd rfl d, fun _ => ⟨fun _ => by rw [if_pos z] at hq; exact hq, fun d => absurd d (by first | decide | simp)⟩⟩, fun z => ⟨fun d => absurd rfl d, fun _ => ⟨fun d => absurd rfl d, fun _ => by rw [if_neg z] at hq; exact hq⟩⟩⟩, fun d => absurd d (by first | decide | simp)⟩⟩, fun d => absurd d (by first | decide | simp)⟩, fun d => absurd d (by first | decide | simp)⟩, fun d => absurd d (by first | decide | simp)⟩
  · have hp : p = 7 := qan.mpr (by rw [hp]; decide)
    subst hp
    have e : bo 7 a c = if a ≤ c then c else a := rfl
    rw [e] at hq
    refine ⟨fun _ => ⟨fun _ => ⟨fun _ => ⟨fun d => absurd d (by first | decide | simp), fun _ => ⟨fun _ => ⟨fun z => ⟨fun _ => ⟨fun d => absurd rfl d, fun _ => ?_⟩, fun d => absurd d (by first | decide | simp)⟩, fun z => ⟨fun _ => ⟨fun _ => ?_, fun d => absurd d (by first | decide | simp)⟩, fun d => absurd d (by first | decide | simp)⟩⟩, fun d => absurd d (by first | decide | simp)⟩⟩, fun d => absurd d (by first | decide | simp)⟩, fun d => absurd d (by first | decide | simp)⟩, fun d => absurd d (by first | decide | simp)⟩
    · by_cases y : a ≤ c
      · rw [if_pos y] at hq
        have e2 : a = c := qan.mpr (by rw [qak] at y z; omega)
        rw [e2]; exact hq
      · rw [if_neg y] at hq; exact hq
    · have y : a ≤ c := by rw [qak] at z ⊢; omega
      rw [if_pos y] at hq; exact hq
  · have hp : p = 8 := qan.mpr (by rw [hp]; decide)
    subst hp
    have e : bo 8 a c = if c = 0 then 0 else a - a / c * c := rfl
    rw [e] at hq
    exact ⟨fun _ => ⟨fun _ => ⟨fun _ => ⟨fun d => absurd d (by first | decide | simp), fun _ => ⟨fun d => absurd rfl d, fun _ => ⟨fun z => ⟨fun _ => ⟨z, fun x ex => by rw [ex]; rw [if_neg z] at hq; exact hq⟩, fun d => absurd d (by first | decide | simp)⟩, fun z => by rw [if_pos z] at hq; exact hq⟩⟩⟩, fun d => absurd d (by first | decide | simp)⟩, fun d => absurd d (by first | decide | simp)⟩, fun d => absurd d (by first | decide | simp)⟩
abbrev eP := Nat × NI
def evS (fs : NI) (s : eP) (c : Int × Int) : eP := if c.1 = 0 then (s.1 + 1, upd s.2 s.1 (Int32.ofInt c.2)) else if c.1 = 1 then (s.1 + 1, upd s.2 s.1 (fs c.2.toNat)) else (s.1 - 1, upd s.2 (s.1 - 2) (bo c.1 (s.2 (s.1 - 2)) (s.2 (s.1 - 1))))
def evA (fs : NI) (cs : List (Int × Int)) (k : Nat) : eP := (cs.take k).foldl (evS fs) (0, fun _ => 0)
theorem tk_s {cs : List (Int × Int)} {k : Nat} (h : k < cs.length) : cs.take (k + 1) = cs.take k ++ [cs.getD k (0, 0)] := by
  rw [List.take_add_one, List.getD_eq_getElem?_getD, List.getElem?_eq_getElem h]; rfl
theorem ev_s {fs : Nat → Int32} {cs : List (Int × Int)} {k : Nat} (h : k < cs.length) : evA fs cs (k + 1) = evS fs (evA fs cs k) (cs.getD k (0, 0)) := by
  unfold evA; rw [tk_s h, List.foldl_append]; rfl
theorem rn_s {cs : List (Int × Int)} {k : Nat} (h : k < cs.length) : rn (cs.take (k + 1)) = cst (rn (cs.take k)) (cs.getD k (0, 0)) := by
  rw [tk_s h]; exact qbcO
/-- at each word of a law the pile is as high as it must be -/
theorem qa1S {fs : Nat → Int32} {cs : List (Int × Int)} : ∀ k : Nat, k ≤ cs.length → (∀ j : Nat, j ≤ k → rn (cs.take j) ≠ none) → ∃ d : Int, rn (cs.take k) = some d ∧ 0 ≤ d ∧ d ≤ k ∧ ((evA fs cs k).1 : Int) = d := by
  intro k
  induction k with
  | zero => intro _ _; exact ⟨0, rfl, by decide, by decide, rfl⟩
  | succ k ih =>
    intro h hn
    obtain ⟨d, h1, h2, h3, h4⟩ := ih (by omega) (fun j hj => hn j (by omega))
    have e := rn_s (cs := cs) (k := k) (by omega)
    have ev := ev_s (fs := fs) (cs := cs) (k := k) (by omega)
    have nn := hn (k + 1) (Nat.le_refl _)
    rw [e, h1] at nn
    rw [e, ev, h1]
    generalize cs.getD k (0, 0) = c at nn ⊢
    obtain ⟨c1, c2⟩ := c
    by_cases y0 : c1 = 0
    · subst y0
      rw [rn_0]
      refine ⟨d + 1, rfl, by omega, by omega, ?_⟩
      show (((evA fs cs k).1 + 1 : Nat) : Int) = d + 1
      omega
    by_cases y1 : c1 = 1
    · subst y1
      by_cases y2 : 0 ≤ c2 ∧ c2 < 8
      · rw [rn_1 y2]
        refine ⟨d + 1, rfl, by omega, by omega, ?_⟩
        have e9 : evS fs (evA fs cs k) (1, c2) = ((evA fs cs k).1 + 1, upd (evA fs cs k).2 (evA fs cs k).1 (fs c2.toNat)) := by
          unfold evS; rw [if_neg (show ¬ ((1, c2) : Int × Int).1 = 0 from (show ¬ (1 : Int) = 0 by decide)), if_pos rfl]
        rw [e9]
        show (((evA fs cs k).1 + 1 : Nat) : Int) = d + 1
        omega
      · have : cst (some d) (1, c2) = none := by
          show (if (1 : Int) = 0 then some (d + 1) else if (1 : Int) = 1 then (if 0 ≤ c2 ∧ c2 < 8 then some (d + 1) else none) else if 2 ≤ (1 : Int) ∧ (1 : Int) ≤ 8 ∧ 2 ≤ d then some (d - 1) else none) = _
          rw [if_neg (by decide), if_pos rfl, if_neg y2]
        exact absurd this nn
    · by_cases y2 : 2 ≤ c1 ∧ c1 ≤ 8 ∧ 2 ≤ d
      · rw [rn_2 ⟨y2.1, y2.2.1⟩ y2.2.2]
        refine ⟨d - 1, rfl, by omega, by omega, ?_⟩
        have e9 : evS fs (evA fs cs k) (c1, c2) = ((evA fs cs k).1 - 1, upd (evA fs cs k).2 ((evA fs cs k).1 - 2) (bo c1 ((evA fs cs k).2 ((evA fs cs k).1 - 2)) ((evA fs cs k).2 ((evA fs cs k).1 - 1)))) := by
          unfold evS; rw [if_neg y0, if_neg y1]
        rw [e9]
        show (((evA fs cs k).1 - 1 : Nat) : Int) = d - 1
        omega
      · have : cst (some d) (c1, c2) = none := by
          show (if c1 = 0 then _ else if c1 = 1 then _ else if 2 ≤ c1 ∧ c1 ≤ 8 ∧ 2 ≤ d then some (d - 1) else none) = _
          rw [if_neg y0, if_neg y1, if_neg y2]
        exact absurd this nn
/-- what is none stays none -/
theorem qbg8 {cs : List (Int × Int)} : ∀ m k : Nat, k + m ≤ cs.length → rn (cs.take k) = none → rn (cs.take (k + m)) = none := by
  intro m
  induction m with
  | zero => intro k _ h; exact h
  | succ m ih =>
    intro k hk h
    rw [show k + (m + 1) = (k + m) + 1 by omega, rn_s (by omega), ih k (by omega) h]
    rfl
theorem qafF {cs : List (Int × Int)} {d : Int} (h : rn cs = some d) : ∀ j : Nat, j ≤ cs.length → rn (cs.take j) ≠ none := fun j hj e => by
  have := qbg8 (cs := cs) (cs.length - j) j (by omega) e
  rw [show j + (cs.length - j) = cs.length by omega, List.take_length, h] at this
  exact absurd this (by simp)
/-- how far: between 0 and 60 -/
def cl60 (v : Int32) : Int32 := if 0 ≤ v then (if v ≤ 60 then v else 60) else 0
def lV (fs : NI) (cs : List (Int × Int)) : Int32 := cl60 ((evA fs cs cs.length).2 0)
end
section
/-! both ways to reckon a law -/
theorem ofI {x : Int32} {v : Int} (h : x.toInt = v) : x = Int32.ofInt v := by rw [← h, Int32.ofInt_toInt]
theorem kC_0 {k : Int} (h : kC k = 0) : k = 0 := by
  unfold kC at h
  by_cases a : k = 6
  · rw [if_pos a] at h; omega
  rw [if_neg a] at h
  by_cases c : k = 7
  · rw [if_pos c] at h; omega
  rw [if_neg c] at h
  by_cases d : k = 8
  · rw [if_pos d] at h; omega
  rw [if_neg d] at h; exact h
theorem kC_1 {k : Int} (h : kC k = 1) : k = 1 := by
  unfold kC at h
  by_cases a : k = 6
  · rw [if_pos a] at h; omega
  rw [if_neg a] at h
  by_cases c : k = 7
  · rw [if_pos c] at h; omega
  rw [if_neg c] at h
  by_cases d : k = 8
  · rw [if_pos d] at h; omega
  rw [if_neg d] at h; exact h
theorem ev_0 {fs : Nat → Int32} {s : eP} {v : Int} : evS fs s (0, v) = (s.1 + 1, upd s.2 s.1 (Int32.ofInt v)) := rfl
theorem ev_1 {fs : Nat → Int32} {s : eP} {v : Int} : evS fs s (1, v) = (s.1 + 1, upd s.2 s.1 (fs v.toNat)) := by
  unfold evS; rw [if_neg (by decide : ¬ ((1 : Int) = 0)), if_pos rfl]
theorem ev_2 {fs : Nat → Int32} {s : eP} {k v : Int} (h : 2 ≤ k) : evS fs s (k, v) = (s.1 - 1, upd s.2 (s.1 - 2) (bo k (s.2 (s.1 - 2)) (s.2 (s.1 - 1)))) := by
  unfold evS; rw [if_neg (show ¬ k = 0 by omega), if_neg (show ¬ k = 1 by omega)]
/-- a word of a law at its place -/
theorem qaj6 {cs : List (Int × Int)} {k : Nat} {d : Int} (h : k < cs.length) (hr : rn (cs.take k) = some d) (hn : rn (cs.take (k + 1)) ≠ none) : (cs.getD k (0, 0)).1 = 0 ∨ ((cs.getD k (0, 0)).1 = 1 ∧ 0 ≤ (cs.getD k (0, 0)).2 ∧ (cs.getD k (0, 0)).2 < 8) ∨ (2 ≤ (cs.getD k (0, 0)).1 ∧ (cs.getD k (0, 0)).1 ≤ 8 ∧ 2 ≤ d) := by
  rw [rn_s h, hr] at hn
  generalize cs.getD k (0, 0) = c at hn ⊢
  obtain ⟨c1, c2⟩ := c
  show c1 = 0 ∨ (c1 = 1 ∧ 0 ≤ c2 ∧ c2 < 8) ∨ (2 ≤ c1 ∧ c1 ≤ 8 ∧ 2 ≤ d)
  by_cases y0 : c1 = 0
  · exact Or.inl y0
  by_cases y1 : c1 = 1
  · by_cases y2 : 0 ≤ c2 ∧ c2 < 8
    · exact Or.inr (Or.inl ⟨y1, y2⟩)
    · refine absurd ?_ hn
      show (if c1 = 0 then _ else if c1 = 1 then (if 0 ≤ c2 ∧ c2 < 8 then some (d + 1) else none) else _) = _
      rw [if_neg y0, if_pos y1, if_neg y2]
  by_cases y2 : 2 ≤ c1 ∧ c1 ≤ 8 ∧ 2 ≤ d
  · exact Or.inr (Or.inr y2)
  · refine absurd ?_ hn
    show (if c1 = 0 then _ else if c1 = 1 then _ else if 2 ≤ c1 ∧ c1 ≤ 8 ∧ 2 ≤ d then some (d - 1) else none) = _
    rw [if_neg y0, if_neg y1, if_neg y2]
section TV
variable {cs : List (Int × Int)} {fc : Nat → Int32}
theorem qaS7 {h : Nat} {s pl : Nat → Int32} {v w : Int32} (e : v = w) (hp : ∀ j : Nat, j < h → pl j = s j) : ∀ j : Nat, j < h + 1 → upd pl h v j = upd s h w j := fun j hj => by
  by_cases z : j = h
  · rw [z, pk_us, pk_us]; exact e
  · rw [pk_un z, pk_un z]; exact hp j (by omega)
theorem qaVj {h : Nat} {s pl : Nat → Int32} {v w : Int32} (e : v = w) (h2 : 2 ≤ h) (hp : ∀ j : Nat, j < h → pl j = s j) : ∀ j : Nat, j < h - 1 → upd pl (h - 2) v j = upd s (h - 2) w j := fun j hj => by
  by_cases z : j = h - 2
  · rw [z, pk_us, pk_us]; exact e
  · rw [pk_un z, pk_un z]; exact hp j (by omega)
theorem qbfN {kd vl pl : Nat → Int32} {ln : Int32} {Q : Int32 → NI → Prop} (hc : cL ((0, 0, 0), cs) kd vl ln) (hr : rn cs = some 1) (hq : ∀ pl : NI, Q (lV fc cs) pl) : qPZ ln kd vl fc pl Q := by
  obtain ⟨⟨l0, l1⟩, hr2⟩ := hc
  obtain ⟨el, hi⟩ := hr2 rfl
  have el : ln.toInt = (cs.length : Nat) := el
  have hi : ∀ i : Nat, i < cs.length → (kd i).toInt = kC (cs.getD i (0, 0)).1 ∧ (vl i).toInt = (cs.getD i (0, 0)).2 := hi
  have nn := qafF hr
  have go : ∀ (m : Nat) (pl : NI) (l1 l2 : Int32) (k : Nat), l2.toInt = k → k ≤ cs.length → l1.toInt = ((evA fc cs k).1 : Nat) → (∀ j : Nat, j < (evA fc cs k).1 → pl j = (evA fc cs k).2 j) → cs.length - k < m → qmW ln kd vl fc Q m pl l1 l2 := by
    intro m
    induction m with
    | zero => intro pl l1 l2 k h1 h2 h3 h4 h5; omega
    | succ m ih =>
      intro pl l1 l2 k h1 h2 h3 h4 h5
      obtain ⟨d, d1, d2, d3, d4⟩ := qa1S (fs := fc) (cs := cs) k h2 (fun j hj => nn j (by omega))
      refine ⟨fun c => ?_, fun c => ?_⟩
      · rw [qak] at c
        have ek : k = cs.length := by omega
        rw [ek, List.take_length, hr] at d1
        have ed : (1 : Int) = d := Option.some.inj d1
        refine ⟨fun z => ?_, fun _ x3 e3 x15 e15 x16 e16 => ?_⟩
        · rw [qak, t_0] at z; omega
        have e0 : (0 : Int32).toNatClampNeg = 0 := by decide
        rw [e0, h4 0 (by omega), ek] at e3
        have e9 : x16 = lV fc cs := by
          rw [e16, e15, e3]
          unfold lV
          generalize (evA fc cs cs.length).2 0 = v
          unfold cl60
          by_cases z1 : v.toInt < 60
          · rw [if_pos (show v < 60 from qao.mpr (by rw [qlh]; exact z1))]
            by_cases z2 : 0 < v.toInt
            · rw [if_pos (show 0 < v from qao.mpr (by rw [t_0]; exact z2)), if_pos (show 0 ≤ v from qak.mpr (by rw [t_0]; omega)), if_pos (show v ≤ 60 from qak.mpr (by rw [qlh]; omega))]
            · rw [if_neg (show ¬ 0 < v from fun w => z2 (by rw [qao, t_0] at w; exact w))]
              by_cases z3 : 0 ≤ v.toInt
              · rw [if_pos (show 0 ≤ v from qak.mpr (by rw [t_0]; exact z3)), if_pos (show v ≤ 60 from qak.mpr (by rw [qlh]; omega))]
                exact qan.mpr (by rw [t_0]; omega)
              · rw [if_neg (show ¬ 0 ≤ v from fun w => z3 (by rw [qak, t_0] at w; exact w))]
          · rw [if_neg (show ¬ v < 60 from fun w => z1 (by rw [qao, qlh] at w; exact w)), if_pos (by decide), if_pos (show 0 ≤ v from qak.mpr (by rw [t_0]; omega))]
            by_cases z2 : v.toInt ≤ 60
            · rw [if_pos (show v ≤ 60 from qak.mpr (by rw [qlh]; exact z2))]
              exact qan.mpr (by rw [qlh]; omega)
            · rw [if_neg (show ¬ v ≤ 60 from fun w => z2 (by rw [qak, qlh] at w; exact w))]
        rw [e9]; exact hq pl
      · rw [qak] at c
        have hk : k < cs.length := by omega
        have hw := qaj6 hk d1 (nn (k + 1) (by omega))
        obtain ⟨i1, i2⟩ := hi k hk
        have ev := ev_s (fs := fc) (cs := cs) (k := k) hk
        generalize cs.getD k (0, 0) = cc at hw i1 i2 ev
        obtain ⟨c1, c2⟩ := cc
        have hw : c1 = 0 ∨ (c1 = 1 ∧ 0 ≤ c2 ∧ c2 < 8) ∨ (2 ≤ c1 ∧ c1 ≤ 8 ∧ 2 ≤ d) := hw
        have i1 : (kd k).toInt = kC c1 := i1
        have i2 : (vl k).toInt = c2 := i2
        have nx : ∀ x : Int32, x = l2 + 1 → x.toInt = ((k + 1 : Nat) : Int) := fun x e => by rw [e, qca (by omega), h1]; omega
        refine ⟨qa6 (by omega) (by omega), fun x4 e4 => ?_⟩
        rw [qas h1] at e4
        rw [← e4] at i1
        have push : ∀ (s2 w : Int32), s2 = w → evS fc (evA fc cs k) (c1, c2) = ((evA fc cs k).1 + 1, upd (evA fc cs k).2 (evA fc cs k).1 w) → qEj ln kd vl fc Q (fun jnu l1 l2 => qmW ln kd vl fc Q m jnu l1 l2) pl l1 l2 l1 s2 := fun s2 w es e => by
          refine ⟨qa6 (by omega) (by omega), fun f22 e22 x23 e23 x21 e21 => ih f22 x23 x21 (k + 1) (nx x21 e21) (by omega) ?_ ?_ (by omega)⟩
          · rw [ev, e, e23, qca (by omega), h3]
            show ((evA fc cs k).1 : Int) + 1 = (((evA fc cs k).1 + 1 : Nat) : Int)
            omega
          · rw [ev, e, e22, qas h3]
            exact qaS7 es h4
        rcases hw with y | ⟨y, y1, y2⟩ | ⟨y, y1, y2⟩
        · subst y
          have hx : x4 = 0 := qan.mpr (by rw [i1]; decide)
          refine ⟨fun _ => ⟨fun d => absurd hx d, fun _ => ⟨qa6 (by omega) (by omega), fun x20 e20 => ?_⟩⟩, fun d => absurd hx d⟩
          rw [qas h1] at e20
          exact push x20 (Int32.ofInt c2) (ofI (by rw [e20]; exact i2)) ev_0
        · subst y
          have hx : x4 = 1 := qan.mpr (by rw [i1]; decide)
          refine ⟨fun d => absurd (hx.symm.trans d) (by decide), fun _ => ⟨fun d => absurd hx d, fun _ => ⟨fun _ => ⟨qa6 (by omega) (by omega), fun x18 e18 => ?_⟩, fun d => absurd (hx.symm.trans d) (by decide)⟩⟩⟩
          rw [qas h1] at e18
          rw [← e18] at i2
          refine ⟨qa6 (by omega) (by omega), fun x19 e19 => ?_⟩
          have ec : x18.toNatClampNeg = c2.toNat := qas (by rw [i2]; omega)
          exact push x19 (fc c2.toNat) (by rw [e19, ec]) ev_1
        · have hx0 : ¬ x4 = 0 := fun z => by rw [z, t_0] at i1; have := kC_0 i1.symm; omega
          have hx1 : ¬ x4 = 1 := fun z => by rw [z, t_1] at i1; have := kC_1 i1.symm; omega
          refine ⟨fun d => absurd d hx0, fun _ => ⟨fun _ => ⟨fun w => ?_, fun _ x8 e8 x9 e9 x10 e10 => ?_⟩, fun d => absurd d hx1⟩⟩
          · rw [qao, t_2] at w; omega
          have b8 : x8.toInt = (((evA fc cs k).1 - 1 : Nat) : Int) := by rw [e8, qap (by rw [qam]; omega) (by rw [qam]; omega), qam, h3]; omega
          have b9 : x9.toInt = (((evA fc cs k).1 - 2 : Nat) : Int) := by rw [e9, qqj (by omega), b8]; omega
          have b10 : x10.toInt = (((evA fc cs k).1 - 2 : Nat) : Int) := by rw [e10, qqj (by omega), b8]; omega
          refine ⟨qa6 (by omega) (by omega), fun x11 e11 => ⟨qa6 (by omega) (by omega), fun x12 e12 => qbaJ (k := c1) ⟨y, y1⟩ i1 ⟨qa6 (by omega) (by omega), fun f14 e14 x21 e21 => ih f14 x8 x21 (k + 1) (nx x21 e21) (by omega) ?_ ?_ (by omega)⟩⟩⟩
          · rw [ev, ev_2 y]; exact b8
          · rw [ev, ev_2 y, e14, qas b9]
            rw [qas b10, h4 _ (by omega)] at e11
            rw [qas b8, h4 _ (by omega)] at e12
            exact qaVj (by rw [e11, e12]) (by omega) h4
  exact ⟨cs.length + 1, go (cs.length + 1) pl 0 0 0 t_0 (by omega) t_0 (fun j hj => absurd hj (Nat.not_lt_zero j)) (by omega)⟩
theorem qbgG {cd oc sk : Nat → Int32} {ct : Int32} {Q : Int32 → NI → Prop} (hc : mL ((0, 0, 0), cs) cd oc ct) (h150 : cs.length ≤ 150) (hr : rn cs = some 1) (hq : ∀ sk : NI, Q ((evA fc cs cs.length).2 0) sk) : qHi ct cd oc fc sk Q := by
  obtain ⟨el, hi⟩ := hc rfl
  have el : ct.toInt = (cs.length : Nat) := el
  have hi : ∀ i : Nat, i < cs.length → (cd i).toInt = (cs.getD i (0, 0)).1 ∧ (oc i).toInt = (cs.getD i (0, 0)).2 := hi
  have nn := qafF hr
  have go : ∀ (m : Nat) (pl : NI) (l1 l2 : Int32) (k : Nat), l2.toInt = k → k ≤ cs.length → l1.toInt = ((evA fc cs k).1 : Nat) → (∀ j : Nat, j < (evA fc cs k).1 → pl j = (evA fc cs k).2 j) → cs.length - k < m → qm9 ct cd oc fc Q m pl l1 l2 := by
    intro m
    induction m with
    | zero => intro pl l1 l2 k h1 h2 h3 h4 h5; omega
    | succ m ih =>
      intro pl l1 l2 k h1 h2 h3 h4 h5
      obtain ⟨d, d1, d2, d3, d4⟩ := qa1S (fs := fc) (cs := cs) k h2 (fun j hj => nn j (by omega))
      refine ⟨fun c x2 e2 => ?_, fun c => ?_⟩
      · rw [qak] at c
        have ek : k = cs.length := by omega
        rw [ek, List.take_length, hr] at d1
        have ed : (1 : Int) = d := Option.some.inj d1
        have e0 : (0 : Int32).toNatClampNeg = 0 := by decide
        rw [e0, h4 0 (by omega), ek] at e2
        rw [e2]; exact hq pl
      · rw [qak] at c
        have hk : k < cs.length := by omega
        have hw := qaj6 hk d1 (nn (k + 1) (by omega))
        obtain ⟨i1, i2⟩ := hi k hk
        have ev := ev_s (fs := fc) (cs := cs) (k := k) hk
        generalize cs.getD k (0, 0) = cc at hw i1 i2 ev
        obtain ⟨c1, c2⟩ := cc
        have hw : c1 = 0 ∨ (c1 = 1 ∧ 0 ≤ c2 ∧ c2 < 8) ∨ (2 ≤ c1 ∧ c1 ≤ 8 ∧ 2 ≤ d) := hw
        have i1 : (cd k).toInt = c1 := i1
        have i2 : (oc k).toInt = c2 := i2
        have nx : ∀ x : Int32, x = l2 + 1 → x.toInt = ((k + 1 : Nat) : Int) := fun x e => by rw [e, qca (by omega), h1]; omega
        refine ⟨qa6 (by omega) (by omega), fun x3 e3 => ?_⟩
        rw [qas h1] at e3
        rw [← e3] at i1
        have push : ∀ (s2 w : Int32), s2 = w → evS fc (evA fc cs k) (c1, c2) = ((evA fc cs k).1 + 1, upd (evA fc cs k).2 (evA fc cs k).1 w) → qAZ ct cd oc fc Q (fun jcb l1 l2 => qm9 ct cd oc fc Q m jcb l1 l2) pl l1 l2 l1 s2 := fun s2 w es e => by
          refine ⟨qa6 (by omega) (by omega), fun f17 e17 x18 e18 x16 e16 => ih f17 x18 x16 (k + 1) (nx x16 e16) (by omega) ?_ ?_ (by omega)⟩
          · rw [ev, e, e18, qca (by omega), h3]
            show ((evA fc cs k).1 : Int) + 1 = (((evA fc cs k).1 + 1 : Nat) : Int)
            omega
          · rw [ev, e, e17, qas h3]
            exact qaS7 es h4
        rcases hw with y | ⟨y, y1, y2⟩ | ⟨y, y1, y2⟩
        · subst y
          have hx : x3 = 0 := qan.mpr (by rw [i1, t_0])
          refine ⟨fun w => ?_, fun _ => ⟨fun d => absurd hx d, fun _ => ⟨qa6 (by omega) (by omega), fun x15 e15 => ?_⟩⟩⟩
          · rw [qao, t_1] at w; omega
          rw [qas h1] at e15
          exact push x15 (Int32.ofInt c2) (ofI (by rw [e15]; exact i2)) ev_0
        · subst y
          have hx : x3 = 1 := qan.mpr (by rw [i1, t_1])
          refine ⟨fun w => ?_, fun _ => ⟨fun _ => ⟨qa6 (by omega) (by omega), fun x13 e13 => ?_⟩, fun d => absurd (hx.symm.trans d) (by decide)⟩⟩
          · rw [qao, t_1] at w; omega
          rw [qas h1] at e13
          rw [← e13] at i2
          refine ⟨qa6 (by omega) (by omega), fun x14 e14 => ?_⟩
          have ec : x13.toNatClampNeg = c2.toNat := qas (by rw [i2]; omega)
          exact push x14 (fc c2.toNat) (by rw [e14, ec]) ev_1
        · refine ⟨fun _ x5 e5 x6 e6 x7 e7 => ?_, fun w => ?_⟩
          · have b5 : x5.toInt = (((evA fc cs k).1 - 1 : Nat) : Int) := by rw [e5, qap (by rw [qam]; omega) (by rw [qam]; omega), qam, h3]; omega
            have b6 : x6.toInt = (((evA fc cs k).1 - 2 : Nat) : Int) := by rw [e6, qqj (by omega), b5]; omega
            have b7 : x7.toInt = (((evA fc cs k).1 - 2 : Nat) : Int) := by rw [e7, qqj (by omega), b5]; omega
            refine ⟨qa6 (by omega) (by omega), fun x8 e8 => ⟨qa6 (by omega) (by omega), fun x9 e9 => qbgE (k := c1) ⟨y, y1⟩ i1 ⟨qa6 (by omega) (by omega), fun f11 e11 x16 e16 => ih f11 x5 x16 (k + 1) (nx x16 e16) (by omega) ?_ ?_ (by omega)⟩⟩⟩
            · rw [ev, ev_2 y]; exact b5
            · rw [ev, ev_2 y, e11, qas b6]
              rw [qas b7, h4 _ (by omega)] at e8
              rw [qas b5, h4 _ (by omega)] at e9
              exact qaVj (by rw [e8, e9]) (by omega) h4
          · rw [qao, t_1] at w; omega
  exact ⟨cs.length + 1, go (cs.length + 1) sk 0 0 0 t_0 (by omega) t_0 (fun j hj => absurd hj (Nat.not_lt_zero j)) (by omega)⟩
end TV
end
section
/-! law, by both, from the same bytes -/
section TLe
variable {n : Nat} {b : Nat → Int} {st : sT} {len : Int32} {f : Nat → Int32}
theorem qaXD {Q : Int32 → Int32 → Int32 → Prop} {a fa fp : Int32} (hl : len.toInt = n) (hn : n ≤ 600) (hb : tB n f b) (h : cS n b st a fa fp) (hq : ∀ x fa2 fp2 : Int32, cS n b (enS n b st) x fa2 fp2 → Q x fa2 fp2) : qUM len f a fa fp Q := by
  by_cases h0 : st.1 = 0
  · refine qV7 hl hn hb h h0 (fun w x c => ⟨fun d => absurd rfl d, fun _ => q2b hl hn hb c (fun x2 fa2 fp2 c2 => hq x2 fa2 fp2 ?_)⟩) (fun w x c => ⟨fun _ => hq x fa fp ?_, fun d => absurd d (by first | decide | simp)⟩)
    · unfold enS
      rw [if_neg (fun z => z h0), if_pos w]
      rw [q8e h0] at c2; exact c2
    · unfold enS
      rw [if_neg (fun z => z h0), if_neg w]; exact c
  · obtain ⟨⟨q, e, hq6, es⟩, ef, e0, e1⟩ := id h
    have hs := qNi (b := b) hq6 hn
    have e9 : enS n b st = st := by unfold enS; rw [if_pos h0]
    rw [e9] at hq
    have same : ∀ x : Int32, x.toInt = (sk n b q : Nat) → cS n b st x fa fp := fun x ex => ⟨qC3 ex hs (fun w => absurd w h0), ef, e0, e1⟩
    refine qaUb hl hn hb e hq6 (fun w x ex => ⟨fun d => absurd rfl d, fun _ => q2b hl hn hb (same x ex) (fun x2 fa2 fp2 c2 => hq x2 fa2 fp2 ?_)⟩) (fun w x ex => ⟨fun _ => hq x fa fp (same x ex), fun d => absurd d (by first | decide | simp)⟩)
    rw [qadc h0] at c2; exact c2
theorem qa1s {Q : Int32 → Int32 → Prop} {a bd bk : Int32} (hl : len.toInt = n) (hn : n ≤ 600) (hb : tB n f b) (h : mS n b st a bd bk) (h0 : st.1 = 0) (q1 : sk n b st.2.2 < n → ∀ x : Int32, mS n b st x bd bk → x.toInt = (sk n b st.2.2 : Nat) → Q 1 x) (q0 : ¬ sk n b st.2.2 < n → ∀ x : Int32, mS n b st x bd bk → Q 0 x) : qsp len f a Q := by
  obtain ⟨⟨q, e, hq6, es⟩, e0, e1⟩ := id h
  have hs := qNi (b := b) hq6 hn
  have es' := es h0
  rw [es'] at hs
  refine qa0g hl hn hb e hq6 (fun w x ex => ?_) (fun w x ex => ?_)
  · rw [es'] at w ex
    exact q1 w x ⟨qC3 ex hs (fun _ => qauv), e0, e1⟩ ex
  · rw [es'] at w ex
    exact q0 w x ⟨qC3 ex hs (fun _ => qauv), e0, e1⟩
end TLe
theorem qbeW {cs : List (Int × Int)} {kd vl : Nat → Int32} {ln : Int32} (h : cL ((0, 0, 0), cs) kd vl ln) (hr : rn cs = some 1) : sLaw ln kd vl := by
  obtain ⟨⟨l0, l1⟩, hr2⟩ := h
  obtain ⟨el, hi⟩ := hr2 rfl
  have el : ln.toInt = (cs.length : Nat) := el
  refine ⟨l0, l1, fun j hj e => ?_⟩
  have hj : j < cs.length := by omega
  obtain ⟨i1, i2⟩ := hi j hj
  have i1 : (kd j).toInt = kC (cs.getD j (0, 0)).1 := i1
  have i2 : (vl j).toInt = (cs.getD j (0, 0)).2 := i2
  rw [e, t_1] at i1
  have k1 := kC_1 i1.symm
  obtain ⟨d, d1, d2, d3, d4⟩ := qa1S (fs := fun _ => 0) (cs := cs) j (by omega) (fun i hi => qafF hr i (by omega))
  have hw := qaj6 hj d1 (qafF hr (j + 1) (by omega))
  rw [i2]
  omega
theorem qbmC {cs : List (Int × Int)} {cd oc : Nat → Int32} {ct : Int32} (h : mL ((0, 0, 0), cs) cd oc ct) (h150 : cs.length ≤ 150) (hr : rn cs = some 1) : rC ct cd oc := by
  obtain ⟨el, hi⟩ := h rfl
  have el : ct.toInt = (cs.length : Nat) := el
  have hi : ∀ i : Nat, i < cs.length → (cd i).toInt = (cs.getD i (0, 0)).1 ∧ (oc i).toInt = (cs.getD i (0, 0)).2 := hi
  have dep : ∀ k : Nat, k ≤ cs.length → ∀ d : Int, rn (cs.take k) = some d → rD cd k = d := by
    intro k
    induction k with
    | zero => intro _ d e; exact Option.some.inj e
    | succ k ih =>
      intro hk d e
      obtain ⟨d0, q1, q2, q3, q4⟩ := qa1S (fs := fun _ => 0) (cs := cs) k (by omega) (fun i hi => qafF hr i (by omega))
      have hw := qaj6 (show k < cs.length by omega) q1 (qafF hr (k + 1) hk)
      have r := ih (by omega) d0 q1
      obtain ⟨i1, i2⟩ := hi k (by omega)
      rw [rn_s (by omega), q1] at e
      unfold rD
      rw [r, i1]
      generalize cs.getD k (0, 0) = c at hw e i1
      obtain ⟨c1, c2⟩ := c
      have hw : c1 = 0 ∨ (c1 = 1 ∧ 0 ≤ c2 ∧ c2 < 8) ∨ (2 ≤ c1 ∧ c1 ≤ 8 ∧ 2 ≤ d0) := hw
      rcases hw with y | ⟨y, y1, y2⟩ | ⟨y, y1, y2⟩
      · subst y
        rw [rn_0] at e
        rw [if_pos (show ((0, c2) : Int × Int).1 ≤ 1 from (show (0 : Int) ≤ 1 by decide))]; exact Option.some.inj e
      · subst y
        rw [rn_1 ⟨y1, y2⟩] at e
        rw [if_pos (show ((1, c2) : Int × Int).1 ≤ 1 from (show (1 : Int) ≤ 1 by decide))]; exact Option.some.inj e
      · rw [rn_2 ⟨y, y1⟩ y2] at e
        rw [if_neg (show ¬ c1 ≤ 1 by omega)]; exact Option.some.inj e
  refine ⟨⟨by omega, by omega⟩, fun k hk => ?_⟩
  have hk : k < cs.length := by omega
  obtain ⟨d, d1, d2, d3, d4⟩ := qa1S (fs := fun _ => 0) (cs := cs) k (by omega) (fun i hi => qafF hr i (by omega))
  have hw := qaj6 hk d1 (qafF hr (k + 1) (by omega))
  have r := dep k (by omega) d d1
  obtain ⟨i1, i2⟩ := hi k hk
  rw [r, i1, i2]
  refine ⟨by omega, fun _ => by omega, by omega⟩
section TLv
variable {by_ : Nat → Int32} {ci ln at_ tk fl fa fp p : Int32}
theorem qa6W {arl asr : Nat} {sl : Int32} {sk sv : Nat → Int32} {rr rsr nl : Value} {P : Nat} {t : Nat → Int}
    {E : String → Int32 → Int32 → Int32 → Int32 → Int32 → Int32 → Int32 → Int32 → NI → NI → Value → Value → Value → Prop}
    {Q : Int32 → Int32 → Int32 → Int32 → Int32 → Int32 → Int32 → Int32 → Int32 → NI → NI → Value → Value → Value → Prop}
    (hf : fl.toInt = P) (hP : P ≤ 600) (ht : tB P by_ t) (he : ¬ uOk p fl 150 → E "java/lang/IllegalArgumentException" (ci + 1) ln at_ tk fl fa fp sl sk sv (.ref arl) (.ref asr) nl)
    (hbad : uOk p fl 150 → ∀ n : Nat, p.toInt = n → (q0p n t).1.1 ≠ 0 → ∀ (ln at_ tk fa fp sl : Int32) (sk sv : NI), fa.toInt = (q0p n t).1.1 → fp.toInt = (q0p n t).1.2.1 → Q (fa - 10) ci ln at_ tk 0 fa fp sl sk sv (.ref arl) (.ref asr) nl)
    (hok : uOk p fl 150 → ∀ n : Nat, p.toInt = n → (q0p n t).1.1 = 0 → ∀ (ln at_ tk fa fp sl : Int32) (sk sv : NI), fp.toInt = -1 → cL ((0, 0, 0), (q0p n t).2) sk sv sl → Q 1 ci ln at_ tk 0 fa fp sl sk sv (.ref asr) (.ref arl) (.ref asr)) :
    q2T arl asr by_ ci ln at_ tk fl fa fp sl sk sv rr rsr nl p E Q := by
  refine qKx (M := 150) (by decide) (by omega) he (fun hu y y0 y1 y2 ey => ?_)
  obtain ⟨n, en⟩ : ∃ n : Nat, p.toInt = n := ⟨p.toInt.toNat, by have := hu.1; omega⟩
  have hn : n ≤ P := by have := hu.2.1; omega
  have hn5 : n ≤ 150 := by have := hu.2.2; omega
  rw [ey]
  refine cs_6 (n := n) (b := t) en hn5 (qaNp ht hn) 0 0 0 (-1) sk sv 0 0 ((0, 0, 0), []) _ ⟨⟨0, t_0, by omega, fun _ => rfl⟩, t_0, fun _ => qam, fun w => absurd rfl w⟩ ⟨⟨by decide, by decide⟩, fun _ => ⟨t_0, fun i hi => absurd hi (Nat.not_lt_zero i)⟩⟩ t_0 (fun _ => ⟨Nat.le_refl _, Nat.zero_le _⟩) (fun x1 x2 x3 x4 f5 f6 x7 c1 l1 => ?_)
  refine qaXD en (by omega) (qaNp ht hn) c1 (fun x8 x9 x10 c8 => ?_)
  have c8 : cS n t (q0p n t).1 x8 x9 x10 := c8
  refine ⟨fun z => ⟨fun _ => ?_, fun c => absurd rfl c⟩, fun z => ⟨fun c => absurd c (by decide), fun _ => ?_⟩⟩
  · have h0 : (q0p n t).1.1 = 0 := by rw [← c8.2.1, z, t_0]
    have h1 : (suN n t 6 ((0, 0, 0), [])).1.1 = 0 := (qaRj h0).1
    exact hok hu n en h0 _ _ _ _ _ _ _ _ (c8.2.2.1 h0) ⟨l1.1, fun _ => l1.2 h1⟩
  · have h0 : (q0p n t).1.1 ≠ 0 := fun w => z (qWF c8 w)
    exact hbad hu n en h0 _ _ _ _ _ _ _ _ c8.2.1 (c8.2.2.2 h0)
end TLv
section TLm
variable {f : Nat → Int32} {th tp fA sz a0 bd0 op nc bk0 cd p1 : Int32} {rf nC nO co oc : Nat → Int32}
    {Q : Int32 → Int32 → NI → Int32 → Int32 → Int32 → Int32 → Int32 → Int32 → Int32 → Int32 → NI → NI → Int32 → NI → NI → Prop}
theorem qawm {P : Nat} {t : Nat → Int} (hf : tp.toInt = P) (hP : P ≤ 600) (ht : tB P f t)
    (he : ¬ (0 ≤ p1.toInt ∧ p1.toInt ≤ P ∧ p1.toInt ≤ 150) → Q 0 1 (upd rf 1 (rf 1 + 1)) tp fA sz a0 bd0 op nc bk0 nC nO cd co oc)
    (hbad : 0 ≤ p1.toInt → p1.toInt ≤ P → p1.toInt ≤ 150 → ∀ n : Nat, p1.toInt = n → (q0p n t).1.1 ≠ 0 → ∀ (at_ bd op nc bk : Int32) (nC nO : NI), bd.toInt = (q0p n t).1.2.1 → bk.toInt = (q0p n t).1.1 → Q (bk - 10) 0 rf 0 bd p1 at_ bd op nc bk nC nO cd co oc)
    (hok : 0 ≤ p1.toInt → p1.toInt ≤ P → p1.toInt ≤ 150 → ∀ n : Nat, p1.toInt = n → (q0p n t).1.1 = 0 → ∀ (at_ bd op nc bk : Int32) (nC nO c2 o2 : NI), bd = -1 → mL ((0, 0, 0), (q0p n t).2) c2 o2 nc → Q 1 0 rf 0 bd p1 at_ bd op nc bk nC nO nc c2 o2) :
    q1F f th rf tp fA sz a0 bd0 op nc bk0 nC nO cd co oc p1 Q := by
  have e1 : (1 : Int32).toNatClampNeg = 1 := by decide
  have bad : ¬ (0 ≤ p1.toInt ∧ p1.toInt ≤ P ∧ p1.toInt ≤ 150) → qBW f Q 0 rf tp fA sz a0 bd0 op nc bk0 nC nO cd co oc p1 := fun w =>
    ⟨fun z => absurd rfl z, fun _ => ⟨fun z => absurd rfl z, fun _ => ⟨qa6 (by decide) (by decide), fun x3 e3 x4 e4 => ⟨qa6 (by decide) (by decide), fun f5 e5 => ⟨fun _ => ⟨fun z => absurd rfl z, fun _ => by rw [e5, e4, e3, e1]; exact he w⟩, fun z => absurd z (by first | decide | simp)⟩⟩⟩⟩⟩
  refine ⟨fun c => bad (by rw [qao, t_0] at c; omega), fun c => ⟨fun c2 => bad (by rw [qao] at c2; omega), fun c2 => ⟨fun c3 => bad (by rw [qao, qV9] at c3; omega), fun c3 => ?_⟩⟩⟩
  rw [qao, t_0] at c
  rw [qao] at c2
  rw [qao, qV9] at c3
  have p0 : 0 ≤ p1.toInt := by omega
  have pP : p1.toInt ≤ P := by omega
  have p5 : p1.toInt ≤ 150 := by omega
  obtain ⟨n, en⟩ : ∃ n : Nat, p1.toInt = n := ⟨p1.toInt.toNat, by omega⟩
  have hb := qaNp ht (show n ≤ P by omega)
  refine ⟨fun _ => ⟨fun z => absurd rfl z, fun _ => ⟨fun _ => ?_, fun z => absurd z (by first | decide | simp)⟩⟩, fun z => absurd z (by first | decide | simp)⟩
  refine ms_7 (n := n) (b := t) en (by omega) hb 0 (-1) bk0 0 nC nO 0 ((0, 0, 0), []) _ ⟨⟨0, t_0, by omega, fun _ => rfl⟩, fun _ => rfl, fun w => absurd rfl w⟩ (fun _ => ⟨t_0, fun i hi => absurd hi (Nat.not_lt_zero i)⟩) (fun _ => t_0) (fun _ => ⟨Nat.le_refl _, Nat.zero_le _⟩) (fun x14 x15 x16 x17 f18 f19 x20 c14 l14 o14 => ?_)
  have fin : ∀ (at_ bd bk : Int32), mS n t (q0p n t).1 at_ bd bk → qyx f Q 0 rf 0 (-1) p1 at_ bd x17 x20 bk f18 f19 cd co oc := fun at_ bd bk c => by
    unfold qyx qtJ
    refine qnB c (fun h0 => ⟨fun z => absurd z (by first | decide | simp), fun _ => ⟨fun zb => ?_, fun z => absurd (c.2.1 h0) z⟩⟩) (fun h0 => ⟨fun _ => ⟨fun z => absurd z (qa30 c h0), fun _ => hbad p0 pP p5 n en h0 _ _ _ _ _ _ _ (c.2.2 h0).1 (c.2.2 h0).2⟩, fun z => absurd rfl z⟩)
    have h1 : (suN n t 6 ((0, 0, 0), [])).1.1 = 0 := (qaRj h0).1
    obtain ⟨el, hi⟩ := l14 h1
    have hlen := (qbel h0).2
    have hlen : (suN n t 6 ((0, 0, 0), [])).2.length ≤ n := hlen
    refine qtF (by omega) (by omega) (fun t1 h1 => qtF (by omega) (by omega) (fun t2 h2 => hok p0 pP p5 n en h0 _ _ _ _ _ _ _ _ _ zb (fun _ => ⟨el, fun i hh => ?_⟩)))
    have hh : i < (suN n t 6 ((0, 0, 0), [])).2.length := hh
    rw [h1 i, h2 i, if_pos (by omega), if_pos (by omega)]
    exact hi i hh
  by_cases h0 : (suN n t 6 ((0, 0, 0), [])).1.1 = 0
  · refine qnB c14 (fun _ => ⟨fun z => absurd z (by first | decide | simp), fun _ => ?_⟩) (fun d => absurd h0 d)
    refine qa1s en (by omega) hb c14 h0 (fun w x23 c23 ex => ⟨fun z => absurd z (by first | decide | simp), fun _ => ?_⟩) (fun w x23 c23 => ⟨fun _ => fin _ _ _ ?_, fun z => absurd rfl z⟩)
    · refine qKu (s := sk n t (suN n t 6 ((0, 0, 0), [])).1.2.2) c23 (fun _ => ex) (by decide) (fun bd2 bk2 c => fin _ _ _ ?_)
      rw [q8e h0, t_1] at c
      show mS n t (enS n t _) _ _ _
      unfold enS; rw [if_neg (fun z => z h0), if_pos w]; exact c
    · show mS n t (enS n t _) _ _ _
      unfold enS; rw [if_neg (fun z => z h0), if_neg w]; exact c23
  · refine qnB c14 (fun d => absurd d h0) (fun _ => ⟨fun _ => fin _ _ _ ?_, fun z => absurd rfl z⟩)
    show mS n t (enS n t _) _ _ _
    unfold enS; rw [if_pos h0]; exact c14
end TLm
end
section
/-! a book's text, by both -/
abbrev bkT := sT × Nat × (Nat → Int)
def bkM (n : Nat) (b : Nat → Int) (F : Int) (B : Nat → Int) (st : sT) : sT := if B (nV n b st).toNat ≠ -1 then fS 2 (sk n b st.2.2) (nS n b 0 (F - 1) st) else nS n b 0 (F - 1) st
def bkS (n : Nat) (b : Nat → Int) (F : Int) (x : bkT) : bkT := (gS n b 59 (nS n b 0 6 (bkM n b F x.2.2 x.1)), x.2.1 + 1, iu x.2.2 (nV n b x.1).toNat (nV n b (bkM n b F x.2.2 x.1)))
def bkR (n : Nat) (b : Nat → Int) (F : Int) : Nat → bkT → bkT
  | 0, x => x
  | k + 1, x => if x.1.1 ≠ 0 ∨ ¬ sk n b x.1.2.2 < n then x else bkR n b F k (bkS n b F x)
def qaif (n : Nat) (b : Nat → Int) (F : Int) : bkT := bkR n b F 9 ((0, 0, 0), 0, fun _ => -1)
def cnB (B : Nat → Int) : Nat → Nat
  | 0 => 0
  | k + 1 => cnB B k + (if B k ≠ -1 then 1 else 0)
theorem qbc8 {B : Nat → Int} : ∀ k : Nat, cnB B k ≤ k := by
  intro k
  induction k with
  | zero => exact Nat.le_refl _
  | succ k ih =>
    unfold cnB
    by_cases z : B k ≠ -1
    · rw [if_pos z]; omega
    · rw [if_neg z]; omega
theorem qbki {B : Nat → Int} {v : Nat} {w : Int} : ∀ k : Nat, k ≤ v → cnB (iu B v w) k = cnB B k := by
  intro k
  induction k with
  | zero => intro _; rfl
  | succ k ih =>
    intro h
    unfold cnB
    rw [ih (by omega), iu_n (by omega)]
theorem qbim {B : Nat → Int} {v : Nat} {w : Int} (h1 : B v = -1) (h2 : w ≠ -1) : ∀ k : Nat, v < k → cnB (iu B v w) k = cnB B k + 1 := by
  intro k
  induction k with
  | zero => intro h; omega
  | succ k ih =>
    intro h
    unfold cnB
    by_cases z : k = v
    · subst z
      rw [qbki k (Nat.le_refl _), iu_s, if_pos h2, if_neg (fun d => d h1)]
    · rw [ih (by omega), iu_n z]; omega
section TB
variable {n : Nat} {b : Nat → Int} {len : Int32} {f : Nat → Int32}
theorem qaRB {F : Int} {B : Nat → Int} {st : sT} (h : (nS n b 0 (F - 1) st).1 ≠ 0) : bkM n b F B st = nS n b 0 (F - 1) st := by
  unfold bkM
  by_cases z : B (nV n b st).toNat ≠ -1
  · rw [if_pos z, qadc h]
  · rw [if_neg z]
theorem qbbi {F : Int} {B : Nat → Int} {st : sT} (h : (bkM n b F B st).1 = 0) : (nS n b 0 (F - 1) st).1 = 0 ∧ B (nV n b st).toNat = -1 := by
  have h1 : (nS n b 0 (F - 1) st).1 = 0 := by
    by_cases w : (nS n b 0 (F - 1) st).1 = 0
    · exact w
    · rw [qaRB w] at h; exact h
  refine ⟨h1, ?_⟩
  by_cases z : B (nV n b st).toNat = -1
  · exact z
  · unfold bkM at h
    rw [if_pos z, q8e h1] at h
    exact absurd h (by first | decide | simp)
theorem qaSj {F : Int} {x : bkT} (h : (bkS n b F x).1.1 = 0) : (nS n b 0 6 (bkM n b F x.2.2 x.1)).1 = 0 ∧ (bkM n b F x.2.2 x.1).1 = 0 ∧ (nS n b 0 (F - 1) x.1).1 = 0 ∧ x.2.2 (nV n b x.1).toNat = -1 := by
  have h1 : (nS n b 0 6 (bkM n b F x.2.2 x.1)).1 = 0 := qlb (c := 59) h
  have h2 : (bkM n b F x.2.2 x.1).1 = 0 := (qdE h1).1
  exact ⟨h1, h2, qbbi h2⟩
/-- lines as many as forms told -/
def bkO (x : bkT) : Prop := x.1.1 = 0 → cnB x.2.2 8 = x.2.1 ∧ ∀ j : Nat, j < 8 → -1 ≤ x.2.2 j ∧ x.2.2 j ≤ 6
theorem qbkG {F : Int} {x : bkT} (hF : F ≤ 8) (h : bkO x) : bkO (bkS n b F x) := fun z => by
  obtain ⟨h1, h2, h3, h4⟩ := qaSj z
  obtain ⟨h0, a1, a2⟩ := qdE h3
  obtain ⟨-, a3, a4⟩ := qdE h1
  obtain ⟨o1, o2⟩ := h h0
  refine ⟨?_, fun j hj => ?_⟩
  · show cnB (iu x.2.2 (nV n b x.1).toNat (nV n b (bkM n b F x.2.2 x.1))) 8 = x.2.1 + 1
    rw [qbim h4 (by omega) 8 (by omega), o1]
  · show -1 ≤ iu x.2.2 (nV n b x.1).toNat (nV n b (bkM n b F x.2.2 x.1)) j ∧ iu x.2.2 (nV n b x.1).toNat (nV n b (bkM n b F x.2.2 x.1)) j ≤ 6
    by_cases e : j = (nV n b x.1).toNat
    · rw [e, iu_s]; omega
    · rw [iu_n e]; exact o2 j hj
theorem qaxb {F : Int} {k : Nat} {x : bkT} (h : x.1.1 ≠ 0 ∨ ¬ sk n b x.1.2.2 < n) : bkR n b F k x = x := by
  cases k with
  | zero => rfl
  | succ k => unfold bkR; rw [if_pos h]
theorem qbcN {F : Int} {k : Nat} {x : bkT} (h0 : x.1.1 = 0) (h : sk n b x.1.2.2 < n) : bkR n b F (k + 1) x = bkR n b F k (bkS n b F x) := by
  show (if _ then _ else _) = _
  rw [if_neg (fun d => d.elim (fun z => z h0) (fun z => z h))]
def cBk (x : bkT) (many : Int32) (seen : NI) : Prop := x.1.1 = 0 → many.toInt = x.2.1 ∧ pm 8 seen x.2.2
theorem qayM {Q : Int32 → Int32 → Int32 → Int32 → NI → Int32 → Prop} {a fa fp tk many l3 : Int32} {seen : Nat → Int32} {x : bkT} {F : Int} (hl : len.toInt = n) (hn : n ≤ 600) (hb : tB n f b) (hF : F ≤ 8) (h9 : x.1.1 = 0 → x.2.1 ≤ 8) (hc : cS n b (bkM n b F x.2.2 x.1) a fa fp) (hB : cBk x many seen) (hv : (bkM n b F x.2.2 x.1).1 = 0 → l3.toInt = nV n b x.1)
    (hq : ∀ (a fa fp tk : Int32) (seen : NI) (many : Int32), cS n b (bkS n b F x).1 a fa fp → cBk (bkS n b F x) many seen → Q a fa fp tk seen many) : qvy len f Q a fa fp tk seen many l3 := by
  refine qqK hl hn hb hc (by decide) (by decide) (fun r x12 x13 x14 x15 c1 v1 => qCS hl hn hb c1 (by decide) (fun x17 x18 x19 x20 c2 => ?_))
  rw [t_0, t_6] at v1
  rw [t_0, t_6, t_59] at c2
  have c2 : cS n b (bkS n b F x).1 x17 x19 x20 := c2
  refine ⟨fun z => ⟨fun d => absurd rfl d, fun _ => ?_⟩, fun z => ⟨fun _ => hq _ _ _ _ _ _ c2 (fun w => absurd (qWF c2 w) z), fun d => absurd d (by first | decide | simp)⟩⟩
  have hz : (bkS n b F x).1.1 = 0 := by rw [← c2.2.1, z, t_0]
  obtain ⟨h1, h2, h3, h4⟩ := qaSj hz
  obtain ⟨h0, a1, a2⟩ := qdE h3
  obtain ⟨b1, b2⟩ := hB h0
  have el := hv h2
  have k9 := h9 h0
  refine ⟨qa6 (by omega) (by omega), fun f23 e23 x24 e24 => hq _ _ _ _ _ _ c2 (fun _ => ⟨?_, ?_⟩)⟩
  · show x24.toInt = ((x.2.1 + 1 : Nat) : Int)
    rw [e24, qca (by omega), b1]; omega
  · have ec : l3.toNatClampNeg = (nV n b x.1).toNat := qas (by rw [el]; omega)
    rw [e23, ec]
    exact qa1e b2 (v1 h1).1
theorem qbfX {Q : Int32 → Int32 → Int32 → Int32 → NI → Int32 → Prop} {a fa fp tk many p2 : Int32} {seen : Nat → Int32} {x : bkT} {F : Int} (hl : len.toInt = n) (hn : n ≤ 600) (hb : tB n f b) (hp : p2.toInt = F) (hF0 : 0 ≤ F) (hF : F ≤ 8) (h0 : x.1.1 = 0) (h9 : x.1.1 = 0 → x.2.1 ≤ 8) (hc : cS n b x.1 a fa fp) (hB : cBk x many seen)
    (hq : ∀ (a fa fp tk : Int32) (seen : NI) (many : Int32), cS n b (bkS n b F x).1 a fa fp → cBk (bkS n b F x) many seen → Q a fa fp tk seen many) : qTT len f a fa fp tk seen many p2 Q := by
  have en : (p2 - 1).toInt = F - 1 := by rw [qqj (by omega), hp]
  obtain ⟨b1, b2⟩ := hB h0
  refine qqK hl hn hb hc (by decide) (by rw [en]; omega) (fun r5 x1 x2 x3 x4 c1 v1 => ?_)
  rw [t_0, en] at c1 v1
  by_cases hs : (nS n b 0 (F - 1) x.1).1 = 0
  · obtain ⟨-, a1, a2⟩ := qdE hs
    obtain ⟨e5, e4⟩ := v1 hs
    have ec : r5.toNatClampNeg = (nV n b x.1).toNat := qas (by rw [e5]; omega)
    refine qaMH (fun g1 g2 => ⟨fun d => absurd d (by first | decide | simp), fun _ => ?_⟩) (fun w => absurd ⟨by rw [t_0]; omega, by rw [en]; omega⟩ w)
    refine ⟨qa6 (by omega) (by omega), fun x9 e9 => ⟨fun z => ⟨fun _ => ?_, fun d => absurd rfl d⟩, fun z => ⟨fun d => absurd d (by first | decide | simp), fun _ => ?_⟩⟩⟩
    · rw [ec] at e9
      have hz : x.2.2 (nV n b x.1).toNat = -1 := by rw [← b2 _ (by omega), ← e9, z, qam]
      refine qayM hl hn hb hF h9 ?_ hB (fun _ => e5) hq
      unfold bkM
      rw [if_neg (fun d => d hz)]; exact c1
    · rw [ec] at e9
      have hz : x.2.2 (nV n b x.1).toNat ≠ -1 := fun e => z (by rw [qan, qam, e9, b2 _ (by omega)]; exact e)
      refine qCj (s := sk n b x.1.2.2) c1 (by decide) (fun _ => e4) (fun f2 p c => qayM hl hn hb hF h9 ?_ hB (fun _ => e5) hq)
      unfold bkM
      rw [if_pos hz, ← t_2]; exact c
  · have eM : bkM n b F x.2.2 x.1 = nS n b 0 (F - 1) x.1 := qaRB hs
    have go : ∀ (fa fp : Int32), cS n b (nS n b 0 (F - 1) x.1) x1 fa fp → qvy len f Q x1 fa fp x4 seen many r5 := fun fa fp c => qayM hl hn hb hF h9 (by rw [eM]; exact c) hB (fun w => absurd (by rw [eM] at w; exact w) hs) hq
    refine qaMH (fun g1 g2 => ⟨fun d => absurd d (by first | decide | simp), fun _ => ?_⟩) (fun w => ⟨fun _ => go _ _ c1, fun d => absurd rfl d⟩)
    rw [t_0] at g1
    rw [en] at g2
    refine ⟨qa6 g1 (by omega), fun x9 e9 => ⟨fun z => ⟨fun _ => go _ _ c1, fun d => absurd rfl d⟩, fun z => ⟨fun d => absurd d (by first | decide | simp), fun _ => ?_⟩⟩⟩
    refine qCj (s := 0) c1 (by decide) (fun w => absurd w hs) (fun f2 p c => go f2 p ?_)
    rw [qadc hs] at c; exact c
theorem qbbI {Q : Int32 → NI → Int32 → Int32 → Int32 → Int32 → Prop} {F : Int} {p2 : Int32} {R : bkT} (hl : len.toInt = n) (hn : n ≤ 600) (hb : tB n f b) (hp : p2.toInt = F) (hF0 : 0 ≤ F) (hF : F ≤ 8) (hq : ∀ (many : Int32) (seen : NI) (a fa fp tk : Int32), cS n b R.1 a fa fp → cBk R many seen → Q many seen a fa fp tk) :
    ∀ (k : Nat) (many : Int32) (seen : NI) (a fa fp tk l3 : Int32) (i : Nat) (x : bkT), cS n b x.1 a fa fp → cBk x many seen → bkO x → l3.toInt = i → i ≤ 9 → 9 - i < k → bkR n b F (9 - i) x = R → qER len f Q k many seen a fa fp tk p2 l3 := by
  intro k
  induction k with
  | zero => intro many seen a fa fp tk l3 i x hc hB hO h1 h2 h3; omega
  | succ k ih =>
    intro many seen a fa fp tk l3 i x hc hB hO h1 h2 h3 hR
    refine ⟨fun c => ?_, fun c => ⟨fun z => ⟨fun d => absurd rfl d, fun _ => ?_⟩, fun z => ⟨fun _ => ?_, fun d => absurd d (by first | decide | simp)⟩⟩⟩
    · rw [qao, t_8] at c
      rw [show 9 - i = 0 by omega] at hR
      have hR : x = R := hR
      rw [hR] at hc hB
      exact hq _ _ _ _ _ _ hc hB
    · rw [qao, t_8] at c
      have h0 : x.1.1 = 0 := by rw [← hc.2.1, z, t_0]
      refine qV7 hl hn hb hc h0 (fun w y cy => ⟨fun d => absurd rfl d, fun _ => ?_⟩) (fun w y cy => ⟨fun _ => ?_, fun d => absurd d (by first | decide | simp)⟩)
      · rw [show 9 - i = (9 - (i + 1)) + 1 by omega, qbcN h0 w] at hR
        exact qbfX hl hn hb hp hF0 hF h0 (fun h => by have := (hO h).1; have := qbc8 (B := x.2.2) 8; omega) cy hB (fun a fa fp tk seen many c9 b9 x15 e15 => ih _ _ _ _ _ _ x15 (i + 1) _ c9 b9 (qbkG hF hO) (by rw [e15, qca (by omega), h1]; omega) (by omega) (by omega) hR)
      · rw [qaxb (Or.inr w)] at hR
        rw [hR] at cy hB
        exact hq _ _ _ _ _ _ cy hB
    · have h0 : x.1.1 ≠ 0 := fun w => z (qWF hc w)
      rw [qaxb (Or.inl h0)] at hR
      rw [hR] at hc hB
      exact hq _ _ _ _ _ _ hc hB
theorem qaWW {Q : Int32 → NI → Prop} {v : Int32} {seen : Nat → Int32} (hq : ∀ s : NI, (∀ j : Nat, j < 8 → s j = -1) → Q 0 s) : qB2 v seen Q := by
  have go : ∀ (k : Nat) (s : NI) (l1 : Int32) (i : Nat), l1.toInt = i → i ≤ 8 → (∀ j : Nat, j < i → s j = -1) → 8 - i < k → qIT Q k 0 s l1 := by
    intro k
    induction k with
    | zero => intro s l1 i h1 h2 h3 h4; omega
    | succ k ih =>
      intro s l1 i h1 h2 h3 h4
      refine ⟨fun c => hq s (fun j hj => h3 j (by rw [qak, t_8] at c; omega)), fun c => ?_⟩
      rw [qak, t_8] at c
      refine ⟨qa6 (by omega) (by omega), fun f2 e2 x3 e3 => ih f2 x3 (i + 1) (by rw [e3, qca (by omega), h1]; omega) (by omega) (fun j hj => ?_) (by omega)⟩
      rw [e2, qas h1]
      by_cases z : j = i
      · rw [z, pk_us]
      · rw [pk_un z]; exact h3 j (by omega)
  exact ⟨9, go 9 seen 0 0 t_0 (by omega) (fun j hj => by omega) (by omega)⟩
end TB
end
section
/-! a book's text by the reference; book, by both -/
section TBm
variable {n : Nat} {b : Nat → Int} {len : Int32} {f : Nat → Int32}
abbrev bkQ := Int32 → Int32 → NI → Int32 → Int32 → Int32 → Int32 → Int32 → Int32 → NI → Int32 → Int32 → NI → Prop
theorem qa5S {Q : bkQ} {th tp fA op bo fm : Int32} {rf bk0 : Nat → Int32} {F : Int} {R : bkT} (hl : len.toInt = n) (hn : n ≤ 600) (hb : tB n f b) (hp : fm.toInt = F) (hF0 : 0 ≤ F) (hF : F ≤ 8)
    (hq : ∀ (a bd bk many : Int32) (nb : NI), mS n b R.1 a bd bk → cBk R many nb → qt7 fm f Q th rf tp fA len a bd op nb bk bo bk0 many) :
    ∀ (k : Nat) (a bd bk many : Int32) (nb : NI) (i : Nat) (x : bkT), mS n b x.1 a bd bk → cBk x many nb → bkO x → (x.1.1 = 0 → x.2.1 = i) → i ≤ 9 → 9 - i < k → bkR n b F (9 - i) x = R → qof fm f Q k th rf tp fA len a bd op nb bk bo bk0 many := by
  intro k
  induction k with
  | zero => intro a bd bk many nb i x hm hB hO h1 h2 h3; omega
  | succ k ih =>
    intro a bd bk many nb i x hm hB hO h1 h2 h3 hR
    refine qnB hm (fun h0 => ⟨fun z => absurd z (by first | decide | simp), fun _ => ?_⟩) (fun h0 => ⟨fun _ => ?_, fun z => absurd rfl z⟩)
    · have hi : i ≤ 8 := by have := (hO h0).1; have := qbc8 (B := x.2.2) 8; have := h1 h0; omega
      refine qaw7 hl hn hb hm h0 (fun w y cy => ⟨fun z => absurd z (by first | decide | simp), fun _ => ?_⟩) (fun w y cy => ⟨fun _ => ?_, fun z => absurd rfl z⟩)
      · rw [show 9 - i = (9 - (i + 1)) + 1 by omega, qbcN h0 w] at hR
        obtain ⟨b1, b2⟩ := hB h0
        have en : (fm - 1).toInt = F - 1 := by rw [qqj (by omega), hp]
        have i1 := h1 h0
        refine qFe hl hn hb cy (fun r23 x22 c22 v22 => qnZ hl hn hb c22 (by decide) (by rw [en]; omega) (fun r27 x24 x25 x26 c24 v24 => ?_))
        rw [t_0, en] at c24 v24
        have tail : ∀ (a bd bk : Int32), mS n b (bkM n b F x.2.2 x.1) a bd bk → ((bkM n b F x.2.2 x.1).1 = 0 → r27.toInt = nV n b x.1) → qt4 fm f Q (fun jbd ja9 jgt jgo jbx jcP jb8 jbK jlJ jbh jh9 jgv l2 => qof fm f Q k jbd ja9 jgt jgo jbx jcP jb8 jbK jlJ jbh jh9 jgv l2) th rf tp fA len a bd op nb bk bo bk0 many r27 := fun a bd bk c hv => by
          refine qnZ hl hn hb c (by decide) (by decide) (fun r41 x38 x39 x40 c38 v38 => qt9 hl hn hb c38 (by decide) (fun x42 x43 x44 c42 => ?_))
          rw [t_0, t_6] at v38
          rw [t_0, t_6, t_59] at c42
          have c42 : mS n b (bkS n b F x).1 x42 x43 x44 := c42
          refine qnB c42 (fun hz => ⟨fun _ => ?_, fun z => absurd z (by first | decide | simp)⟩) (fun hz => ⟨fun z => absurd rfl z, fun _ => ?_⟩)
          · obtain ⟨s1, s2, s3, s4⟩ := qaSj hz
            obtain ⟨-, a1, a2⟩ := qdE s3
            have el := hv s2
            have ec : r27.toNatClampNeg = (nV n b x.1).toNat := qas (by rw [el]; omega)
            refine ⟨qa6 (by omega) (by omega), fun f47 e47 x48 e48 => ih _ _ _ x48 f47 (i + 1) _ c42 (fun _ => ⟨?_, ?_⟩) (qbkG hF hO) (fun _ => by show x.2.1 + 1 = i + 1; omega) (by omega) (by omega) hR⟩
            · show x48.toInt = ((x.2.1 + 1 : Nat) : Int)
              rw [e48, qca (by omega), b1]; omega
            · rw [e47, ec]
              exact qa1e b2 (v38 s1)
          · rw [qaxb (Or.inl hz)] at hR
            exact hq _ _ _ _ _ (by rw [← hR]; exact c42) (fun w => absurd (by rw [← hR] at w; exact w) hz)
        refine qnB c24 (fun hs => ⟨fun z => absurd z (by first | decide | simp), fun _ => ?_⟩) (fun hs => ⟨fun _ => tail _ _ _ (by rw [qaRB hs]; exact c24) (fun w => absurd (by rw [qaRB hs] at w; exact w) hs), fun z => absurd rfl z⟩)
        obtain ⟨-, a1, a2⟩ := qdE hs
        have el := v24 hs
        have ec : r27.toNatClampNeg = (nV n b x.1).toNat := qas (by rw [el]; omega)
        refine ⟨qa6 (by omega) (by omega), fun x30 e30 => ⟨fun z => tail _ _ _ ?_ (fun _ => el), fun z => ?_⟩⟩
        · rw [ec] at e30
          have hz : x.2.2 (nV n b x.1).toNat = -1 := by rw [← b2 _ (by omega), ← e30, z, qam]
          unfold bkM
          rw [if_neg (fun d => d hz)]; exact c24
        · rw [ec] at e30
          have hz : x.2.2 (nV n b x.1).toNat ≠ -1 := fun e => z (by rw [qan, qam, e30, b2 _ (by omega)]; exact e)
          refine qKu (s := sk n b x.1.2.2) c24 (fun _ => (v22 h0).1) (by decide) (fun bd2 bk2 c => tail _ _ _ ?_ (fun _ => el))
          unfold bkM
          rw [if_pos hz, ← t_2]; exact c
      · rw [qaxb (Or.inr w)] at hR
        rw [hR] at cy hB
        exact hq _ _ _ _ _ cy hB
    · rw [qaxb (Or.inl h0)] at hR
      rw [hR] at hm hB
      exact hq _ _ _ _ _ hm hB
theorem qbis : bkO ((0, 0, 0), 0, fun _ => -1) := fun _ => ⟨rfl, fun j _ => ⟨Int.le_refl _, (show (-1 : Int) ≤ 6 by decide)⟩⟩
end TBm
section TBv
variable {by_ : Nat → Int32} {ci ln at_ tk fl fa fp p : Int32}
theorem qa2X {al asl : Nat} {nf sm : Int32} {ss : Nat → Int32} {rl rsl : Value} {P : Nat} {t : Nat → Int} {F : Int}
    {E : String → Int32 → Int32 → Int32 → Int32 → Int32 → Int32 → Int32 → Int32 → NI → Value → Value → Prop}
    {Q : Int32 → Int32 → Int32 → Int32 → Int32 → Int32 → Int32 → Int32 → Int32 → NI → Value → Value → Prop}
    (hf : fl.toInt = P) (hP : P ≤ 600) (ht : tB P by_ t) (hp : nf.toInt = F) (hF0 : 0 ≤ F) (hF : F ≤ 8) (he : ¬ uOk p fl 60 → E "java/lang/IllegalArgumentException" (ci + 1) ln at_ tk fl fa fp sm ss (.ref al) (.ref asl))
    (hbad : uOk p fl 60 → ∀ n : Nat, p.toInt = n → (qaif n t F).1.1 ≠ 0 → ∀ (ln at_ tk fa fp sm : Int32) (ss : NI), fa.toInt = (qaif n t F).1.1 → fp.toInt = (qaif n t F).1.2.1 → Q (fa - 10) ci ln at_ tk 0 fa fp sm ss (.ref al) (.ref asl))
    (hok : uOk p fl 60 → ∀ n : Nat, p.toInt = n → (qaif n t F).1.1 = 0 → ∀ (ln at_ tk fa fp sm : Int32) (ss : NI), fp.toInt = -1 → cBk (qaif n t F) sm ss → Q sm ci ln at_ tk 0 fa fp sm ss (.ref asl) (.ref al)) :
    qabM al asl nf by_ ci ln at_ tk fl fa fp sm ss rl rsl p E Q := by
  refine qKx (M := 60) (by decide) (by omega) he (fun hu y y0 y1 y2 ey => ?_)
  obtain ⟨n, en⟩ : ∃ n : Nat, p.toInt = n := ⟨p.toInt.toNat, by have := hu.1; omega⟩
  have hn : n ≤ P := by have := hu.2.1; omega
  rw [ey]
  refine qaWW (fun s hs => ⟨10, qbbI (n := n) (b := t) (R := qaif n t F) en (by omega) (qaNp ht hn) hp hF0 hF (fun many seen a fa fp tk c9 b9 => ?_) 10 0 s 0 0 (-1) 0 0 0 ((0, 0, 0), 0, fun _ => -1) ⟨⟨0, t_0, by omega, fun _ => rfl⟩, t_0, fun _ => qam, fun w => absurd rfl w⟩ (fun _ => ⟨t_0, fun j hj => by rw [hs j hj]; exact qam⟩) qbis t_0 (by omega) (by omega) rfl⟩)
  refine ⟨fun z => ⟨fun _ => ?_, fun c => absurd rfl c⟩, fun z => ⟨fun c => absurd c (by decide), fun _ => ?_⟩⟩
  · have h0 : (qaif n t F).1.1 = 0 := by rw [← c9.2.1, z, t_0]
    exact hok hu n en h0 _ _ _ _ _ _ _ (c9.2.2.1 h0) b9
  · have h0 : (qaif n t F).1.1 ≠ 0 := fun w => z (qWF c9 w)
    exact hbad hu n en h0 _ _ _ _ _ _ _ c9.2.1 (c9.2.2.2 h0)
end TBv
section TBw
variable {f : Nat → Int32} {th tp fA sz a0 bd0 op bk0 bo fm p1 : Int32} {rf nb bo0 : Nat → Int32} {Q : bkQ}
theorem qain {P : Nat} {t : Nat → Int} {F : Int} (hf : tp.toInt = P) (hP : P ≤ 600) (ht : tB P f t) (hp : fm.toInt = F) (hF0 : 0 ≤ F) (hF : F ≤ 8)
    (he : ¬ (0 ≤ p1.toInt ∧ p1.toInt ≤ P ∧ p1.toInt ≤ 60) → Q 0 1 (upd rf 1 (rf 1 + 1)) tp fA sz a0 bd0 op nb bk0 bo bo0)
    (hbad : 0 ≤ p1.toInt → p1.toInt ≤ P → p1.toInt ≤ 60 → ∀ n : Nat, p1.toInt = n → (qaif n t F).1.1 ≠ 0 → ∀ (at_ bd bk : Int32) (nb : NI), bd.toInt = (qaif n t F).1.2.1 → bk.toInt = (qaif n t F).1.1 → Q (bk - 10) 0 rf 0 bd p1 at_ bd 0 nb bk bo bo0)
    (hok : 0 ≤ p1.toInt → p1.toInt ≤ P → p1.toInt ≤ 60 → ∀ n : Nat, p1.toInt = n → (qaif n t F).1.1 = 0 → ∀ (at_ bd bk many : Int32) (nb b2 : NI), bd = -1 → cBk (qaif n t F) many b2 → Q many 0 rf 0 bd p1 at_ bd 0 nb bk many b2) :
    qabu fm f th rf tp fA sz a0 bd0 op nb bk0 bo bo0 p1 Q := by
  have e1 : (1 : Int32).toNatClampNeg = 1 := by decide
  have bad : ¬ (0 ≤ p1.toInt ∧ p1.toInt ≤ P ∧ p1.toInt ≤ 60) → qEb fm f Q 0 rf tp fA sz a0 bd0 op nb bk0 bo bo0 p1 := fun w =>
    ⟨fun z => absurd rfl z, fun _ => ⟨fun z => absurd rfl z, fun _ => ⟨qa6 (by decide) (by decide), fun x3 e3 x4 e4 => ⟨qa6 (by decide) (by decide), fun f5 e5 => ⟨fun _ => ⟨fun z => absurd rfl z, fun _ => by rw [e5, e4, e3, e1]; exact he w⟩, fun z => absurd z (by first | decide | simp)⟩⟩⟩⟩⟩
  refine ⟨fun c => bad (by rw [qao, t_0] at c; omega), fun c => ⟨fun c2 => bad (by rw [qao] at c2; omega), fun c2 => ⟨fun c3 => bad (by rw [qao, qlh] at c3; omega), fun c3 => ?_⟩⟩⟩
  rw [qao, t_0] at c
  rw [qao] at c2
  rw [qao, qlh] at c3
  have p0 : 0 ≤ p1.toInt := by omega
  have pP : p1.toInt ≤ P := by omega
  have p6 : p1.toInt ≤ 60 := by omega
  obtain ⟨n, en⟩ : ∃ n : Nat, p1.toInt = n := ⟨p1.toInt.toNat, by omega⟩
  have hb := qaNp ht (show n ≤ P by omega)
  refine ⟨fun _ => ⟨fun z => absurd rfl z, fun _ => ⟨fun _ => ?_, fun z => absurd z (by first | decide | simp)⟩⟩, fun z => absurd z (by first | decide | simp)⟩
  have clr : ∀ (k : Nat) (nb : NI) (l2 : Int32) (i : Nat), l2.toInt = i → i ≤ 8 → (∀ j : Nat, j < i → nb j = -1) → 8 - i < k → qK2 fm f Q k 0 rf 0 (-1) p1 0 (-1) 0 nb bk0 bo bo0 l2 := by
    intro k
    induction k with
    | zero => intro nb l2 i h1 h2 h3 h4; omega
    | succ k ih =>
      intro nb l2 i h1 h2 h3 h4
      refine ⟨fun c => ⟨10, qa5S (n := n) (b := t) (R := qaif n t F) en (by omega) hb hp hF0 hF (fun a bd bk many nb9 c9 b9 => ?_) 10 0 (-1) bk0 0 nb 0 ((0, 0, 0), 0, fun _ => -1) ⟨⟨0, t_0, by omega, fun _ => rfl⟩, fun _ => rfl, fun w => absurd rfl w⟩ (fun _ => ⟨t_0, fun j hj => by rw [h3 j (by rw [qak, t_8] at c; omega)]; exact qam⟩) qbis (fun _ => rfl) (by omega) (by omega) rfl⟩, fun c => ?_⟩
      · unfold qt7 qtJ
        refine qnB c9 (fun h0 => ⟨fun z => absurd z (by first | decide | simp), fun _ => ⟨fun zb => ?_, fun z => absurd (c9.2.1 h0) z⟩⟩) (fun h0 => ⟨fun _ => ⟨fun z => absurd z (qa30 c9 h0), fun _ => hbad p0 pP p6 n en h0 _ _ _ _ (c9.2.2 h0).1 (c9.2.2 h0).2⟩, fun z => absurd rfl z⟩)
        refine qtF (by decide) (by decide) (fun t1 h1 => hok p0 pP p6 n en h0 _ _ _ _ _ _ zb (fun _ => ⟨(b9 h0).1, fun j hj => ?_⟩))
        rw [h1 j, t_8, if_pos (by omega)]
        exact (b9 h0).2 j hj
      · rw [qak, t_8] at c
        refine ⟨qa6 (by omega) (by omega), fun f15 e15 x16 e16 => ih f15 x16 (i + 1) (by rw [e16, qca (by omega), h1]; omega) (by omega) (fun j hj => ?_) (by omega)⟩
        rw [e15, qas h1]
        by_cases z : j = i
        · rw [z, pk_us]
        · rw [pk_un z]; exact h3 j (by omega)
  exact ⟨9, clr 9 nb 0 0 t_0 (by omega) (fun j hj => by omega) (by omega)⟩
end TBw
end
section
/-! days: sums, bits, places -/
theorem ix {k p x : Int32} {K h : Nat} (hx : x = k + p) (ek : k.toInt = (K : Int)) (ep : p.toInt = (h : Int)) (hb : K + h < 2147483648) : x.toInt = ((K + h : Nat) : Int) := by
  rw [hx, qap (by omega) (by omega)]; omega
theorem ixc {p x : Int32} {h i : Nat} (hx : x = 28 + p * 6) (ep : p.toInt = (h : Int)) (hb : h < 6) {q y : Int32} (hy : y = x + q) (eq : q.toInt = (i : Int)) (hi : i < 6) : y.toInt = ((28 + (6 * h + i) : Nat) : Int) := by
  have e := qa0M (a := p) (b := q) (by omega) (by omega) (by omega) (by omega) hx hy
  omega
theorem ixm {p x : Int32} {h i : Nat} (hx : x = 30 + 6 * p) (ep : p.toInt = (h : Int)) (hb : h < 6) {q y : Int32} (hy : y = x + q) (eq : q.toInt = (i : Int)) (hi : i < 6) : y.toInt = ((30 + (6 * h + i) : Nat) : Int) := by
  have e1 : (6 * p).toInt = 6 * p.toInt := by rw [qu8 (by rw [t_6]; omega) (by rw [t_6]; omega), t_6]
  have e2 : (30 + 6 * p).toInt = 30 + 6 * p.toInt := by rw [qap (by rw [qcc, e1]; omega) (by rw [qcc, e1]; omega), qcc, e1]
  rw [hy, hx, qap (by rw [e2]; omega) (by rw [e2]; omega), e2]; omega
def sumI (f : NI) : Nat → Int32
  | 0 => 0
  | k + 1 => sumI f k + f k
theorem qa0Z {f g : Nat → Int32} : ∀ k : Nat, (∀ j : Nat, j < k → f j = g j) → sumI f k = sumI g k := by
  intro k
  induction k with
  | zero => intro _; rfl
  | succ k ih =>
    intro h
    show sumI f k + f k = sumI g k + g k
    rw [ih (fun j hj => h j (by omega)), h k (by omega)]
/-- how many bits below a place -/
def pcB (X : Nat) : Nat → Nat
  | 0 => 0
  | k + 1 => pcB X k + (if X.testBit k = true then 1 else 0)
def bcF (p : Int32) : Int32 :=
  let x1 := (p.toUInt32 >>> ((1 : Int32).toUInt32 &&& Int32.toUInt32 31)).toInt32
  let x2 := p - (x1 &&& 1431655765)
  let x3 := (x2.toUInt32 >>> ((2 : Int32).toUInt32 &&& Int32.toUInt32 31)).toInt32
  let x4 := (x2 &&& 858993459) + (x3 &&& 858993459)
  let x5 := (x4.toUInt32 >>> ((4 : Int32).toUInt32 &&& Int32.toUInt32 31)).toInt32
  let x6 := (x4 + x5) &&& 252645135
  let x7 := (x6.toUInt32 >>> ((8 : Int32).toUInt32 &&& Int32.toUInt32 31)).toInt32
  let x8 := x6 + x7
  let x9 := (x8.toUInt32 >>> ((16 : Int32).toUInt32 &&& Int32.toUInt32 31)).toInt32
  (x8 + x9) &&& 63
theorem c_bc {p : Int32} {Q : Int32 → Prop} (h : Q (bcF p)) : qoE p Q := by
  intro x1 e1 x2 e2 x3 e3 x4 e4 x5 e5 x6 e6 x7 e7 x8 e8 x9 e9 x10 e10
  subst e1; subst e2; subst e3; subst e4; subst e5; subst e6; subst e7; subst e8; subst e9; subst e10
  exact h
theorem qbm6 : ∀ X : Fin 256, ∀ h : Fin 8, X.val.testBit h.val = true → bcF (Int32.ofNat X.val &&& ((1 <<< (Int32.ofNat h.val &&& 31)) ^^^ (-1))) = Int32.ofNat (pcB X.val 8) - 1 := by decide +kernel
theorem qbik : ∀ X : Fin 256, ∀ h : Fin 8, ((Int32.ofNat X.val) >>> (Int32.ofNat h.val &&& 31)) &&& 1 = if X.val.testBit h.val = true then 1 else 0 := by decide +kernel
theorem qaUj {X : Nat} : ∀ k : Nat, pcB X k ≤ k := by
  intro k
  induction k with
  | zero => exact Nat.le_refl 0
  | succ k ih =>
    show pcB X k + _ ≤ k + 1
    by_cases c : X.testBit k = true
    · rw [if_pos c]; omega
    · rw [if_neg c]; omega
theorem qbiP {p : Int32} {X : Nat} {Q : Int32 → Prop} (e : p = Int32.ofNat X) (hX : X < 256) (h : Q (Int32.ofNat (pcB X 8))) : qFo p Q := by
  have go : ∀ (m : Nat) (l1 l2 : Int32) (k : Nat), l2.toInt = (k : Int) → k ≤ 8 → l1 = Int32.ofNat (pcB X k) → 8 - k < m → qHp Q m p l1 l2 := by
    intro m
    induction m with
    | zero => intro l1 l2 k h1 h2 h3 h4; omega
    | succ m ih =>
      intro l1 l2 k h1 h2 h3 h4
      refine ⟨fun c => ?_, fun c x2 e2 x3 e3 => ih x2 x3 (k + 1) (by rw [qak, t_8] at c; rw [e3, qca (by omega), h1]; omega) (by rw [qak, t_8] at c; omega) ?_ (by rw [qak, t_8] at c; omega)⟩
      · rw [qak, t_8] at c
        rw [h3, show k = 8 by omega]; exact h
      · rw [qak, t_8] at c
        have hk : k < 8 := by omega
        rw [e2, h3, e, q7z h1 (by omega), qbik ⟨X, hX⟩ ⟨k, hk⟩]
        show Int32.ofNat (pcB X k) + (if X.testBit k = true then 1 else 0) = Int32.ofNat (pcB X k + (if X.testBit k = true then 1 else 0))
        by_cases d : X.testBit k = true
        · rw [if_pos d, if_pos d]
          rw [qan, qap (by rw [t_1, Int32.toInt_ofNat_of_lt (by have := qaUj (X := X) k; omega)]; omega) (by rw [t_1, Int32.toInt_ofNat_of_lt (by have := qaUj (X := X) k; omega)]; have := qaUj (X := X) k; omega), t_1, Int32.toInt_ofNat_of_lt (by have := qaUj (X := X) k; omega), Int32.toInt_ofNat_of_lt (by have := qaUj (X := X) k; omega)]
          omega
        · rw [if_neg d, if_neg d]
          exact Int32.add_zero _
  exact ⟨9, go 9 0 0 0 t_0 (by omega) rfl (by omega)⟩
theorem qbjU {P R : Nat → Bool} {k h : Nat} (hh : h < k) (h1 : R h = true) (h2 : ∀ j : Nat, j < k → j ≠ h → R j = P j) : orN P k ||| (1 <<< h) = orN R k := by
  apply Nat.eq_of_testBit_eq
  intro j
  rw [Nat.testBit_or, qMw, qMw, Nat.one_shiftLeft, Nat.testBit_two_pow]
  by_cases z : h = j
  · subst z; simp [h1, hh]
  · by_cases y : j < k
    · simp [z, y, h2 j y (fun w => z w.symm)]
    · simp [z, y]
end
section
/-! days: both states held against each other -/
theorem i0 {p x : Int32} {h : Nat} (hx : x = 0 + p) (ep : p.toInt = (h : Int)) (hb : h < 1000) : x.toInt = (h : Int) := by
  rw [hx, Int32.zero_add]; exact ep
theorem i4 {p x : Int32} {h : Nat} (hx : x = 4 + p) (ep : p.toInt = (h : Int)) (hb : h < 1000) : x.toInt = ((4 + h : Nat) : Int) := by
  rw [hx, qap (by rw [t_4]; omega) (by rw [t_4]; omega), t_4]; omega
theorem i6 {p x : Int32} {h : Nat} (hx : x = 6 + p) (ep : p.toInt = (h : Int)) (hb : h < 1000) : x.toInt = ((6 + h : Nat) : Int) := by
  rw [hx, qap (by rw [t_6]; omega) (by rw [t_6]; omega), t_6]; omega
theorem i10 {p x : Int32} {h : Nat} (hx : x = 10 + p) (ep : p.toInt = (h : Int)) (hb : h < 1000) : x.toInt = ((10 + h : Nat) : Int) := by
  rw [hx, qap (by rw [qgg]; omega) (by rw [qgg]; omega), qgg]; omega
theorem i12 {p x : Int32} {h : Nat} (hx : x = 12 + p) (ep : p.toInt = (h : Int)) (hb : h < 1000) : x.toInt = ((12 + h : Nat) : Int) := by
  rw [hx, qap (by rw [qaz]; omega) (by rw [qaz]; omega), qaz]; omega
theorem i16 {p x : Int32} {h : Nat} (hx : x = 16 + p) (ep : p.toInt = (h : Int)) (hb : h < 1000) : x.toInt = ((16 + h : Nat) : Int) := by
  rw [hx, qap (by rw [t_16]; omega) (by rw [t_16]; omega), t_16]; omega
theorem i18 {p x : Int32} {h : Nat} (hx : x = 18 + p) (ep : p.toInt = (h : Int)) (hb : h < 1000) : x.toInt = ((18 + h : Nat) : Int) := by
  rw [hx, qap (by rw [qlg]; omega) (by rw [qlg]; omega), qlg]; omega
theorem i22 {p x : Int32} {h : Nat} (hx : x = 22 + p) (ep : p.toInt = (h : Int)) (hb : h < 1000) : x.toInt = ((22 + h : Nat) : Int) := by
  rw [hx, qap (by rw [t_22]; omega) (by rw [t_22]; omega), t_22]; omega
theorem i24 {p x : Int32} {h : Nat} (hx : x = 24 + p) (ep : p.toInt = (h : Int)) (hb : h < 1000) : x.toInt = ((24 + h : Nat) : Int) := by
  rw [hx, qap (by rw [qbz]; omega) (by rw [qbz]; omega), qbz]; omega
theorem k_c1 : (1 : Int32).toNatClampNeg = 1 := by decide
theorem k_c2 : (2 : Int32).toNatClampNeg = 2 := by decide
theorem k_c3 : (3 : Int32).toNatClampNeg = 3 := by decide
theorem k_c4 : (4 : Int32).toNatClampNeg = 4 := by decide
theorem k_c5 : (5 : Int32).toNatClampNeg = 5 := by decide
theorem k_c6 : (6 : Int32).toNatClampNeg = 6 := by decide
theorem k_c7 : (7 : Int32).toNatClampNeg = 7 := by decide
theorem qbfp : (66 : Int32).toNatClampNeg = 66 := by decide
theorem qblk : (67 : Int32).toNatClampNeg = 67 := by decide
def caN (s : NI) (nh : Nat) : Nat := orN (fun h => decide (s h = -1)) nh
def buN (s : NI) (nh : Nat) : Nat := orN (fun h => decide (s (24 + h) = 1)) nh
/-- who sits in a form -/
def siN (s : NI) (p : Int32) (nh : Nat) : Nat := orN (fun h => decide (s h = p)) nh
def owS (s : NI) (nh h : Nat) : Int32 := sumI (fun o => s (30 + (6 * h + o))) nh
def odS (s : NI) (nh h : Nat) : Int32 := sumI (fun o => s (30 + (6 * o + h))) nh
/-- the row of the class and that of the reference, but for who is busy -/
def qOH (nh nf : Nat) (row s : NI) : Prop :=
  row 2 = Int32.ofNat (caN s nh) ∧
  (∀ h : Nat, h < nh → s h = -1 ∨ (s h = row (4 + h) ∧ row (10 + h) = s (6 + h) ∧ row (16 + h) = s (12 + h) ∧ 0 ≤ (s (6 + h)).toInt ∧ (s (6 + h)).toInt ≤ 9)) ∧
  (∀ h : Nat, h < nh → 0 ≤ (row (4 + h)).toInt ∧ (row (4 + h)).toInt < nf) ∧
  (∀ h : Nat, h < nh → row (22 + h) = s (18 + h)) ∧
  (∀ j : Nat, j < 36 → row (28 + j) = s (30 + j) ∧ 0 ≤ (s (30 + j)).toInt ∧ (s (30 + j)).toInt ≤ 99) ∧
  (row 0 = s 66 ∧ row 1 = s 67) ∧
  (∀ i k : Nat, i < 6 → k < 6 → ¬ (i < nh ∧ k < nh) → s (30 + (6 * i + k)) = 0)
def relB (nh : Nat) (row s : NI) : Prop := row 3 = Int32.ofNat (buN s nh) ∧ ∀ h : Nat, h < nh → s (24 + h) = 0 ∨ s (24 + h) = 1
def qWf (nh nf : Nat) (row s : NI) : Prop := qOH nh nf row s ∧ relB nh row s
section DC
variable {NH NF : Nat} {row s : Nat → Int32} {nh p q : Int32} {h i k : Nat}
theorem qawz (hR : qOH NH NF row s) (hh : h < NH) (hc : s h ≠ -1) : s h = row (4 + h) := ((hR.2.1 h hh).resolve_left hc).1
theorem m_in (hR : qOH NH NF row s) (hh : h < NH) (hc : s h ≠ -1) : ∃ f : Nat, (s h).toInt = (f : Int) ∧ f < NF := by
  have e := hR.2.2.1 h hh
  rw [← qawz hR hh hc] at e
  exact ⟨(s h).toInt.toNat, by omega, by omega⟩
theorem qahE {Q : Int32 → Prop} (ep : p.toInt = (h : Int)) (hh : h < 6) (hq : Q (row (4 + h))) : qrk row p Q := fun x1 e1 => by
  have e := i4 e1 ep (by omega)
  exact ⟨qa6 (by omega) (by omega), fun x2 e2 => by rw [e2, qas e]; exact hq⟩
theorem qau0 {Q : Int32 → Prop} (ep : p.toInt = (h : Int)) (hh : h < 6) (hq : Q (row (10 + h))) : qpb row p Q := fun x1 e1 => by
  have e := i10 e1 ep (by omega)
  exact ⟨qa6 (by omega) (by omega), fun x2 e2 => by rw [e2, qas e]; exact hq⟩
theorem qa5x {Q : Int32 → Prop} (ep : p.toInt = (h : Int)) (hh : h < 6) (hq : Q (row (16 + h))) : qJH row p Q := fun x1 e1 => by
  have e := i16 e1 ep (by omega)
  exact ⟨qa6 (by omega) (by omega), fun x2 e2 => by rw [e2, qas e]; exact hq⟩
theorem qbhe {Q : Int32 → Prop} (ep : p.toInt = (h : Int)) (hh : h < 6) (hq : Q (row (22 + h))) : qOP row p Q := fun x1 e1 => by
  have e := i22 e1 ep (by omega)
  exact ⟨qa6 (by omega) (by omega), fun x2 e2 => by rw [e2, qas e]; exact hq⟩
theorem qbmw {Q : Int32 → Prop} (hq : Q (row 0)) : qVP row Q := fun x1 e1 => by rw [e1, t_c0]; exact hq
theorem qaSd {Q : Int32 → Prop} (ep : p.toInt = (i : Int)) (hi : i < 6) (eq : q.toInt = (k : Int)) (hk : k < 6) (hq : Q (row (28 + (6 * i + k)))) : qxg row p q Q := fun x1 e1 x2 e2 => by
  have e := ixc e1 ep hi e2 eq hk
  exact ⟨qa6 (by omega) (by omega), fun x3 e3 => by rw [e3, qas e]; exact hq⟩
theorem qbcz (hh : h < NH) : (caN s NH).testBit h = true ↔ s h = -1 := by
  rw [show caN s NH = orN (fun h => decide (s h = -1)) NH from rfl, qMw]; simp [hh]
theorem qbcf (H6 : NH ≤ 6) : caN s NH < 256 := q1t (by omega)
theorem qbg4 (H6 : NH ≤ 6) : buN s NH < 256 := q1t (by omega)
theorem qblz (H6 : NH ≤ 6) : siN s p NH < 256 := q1t (by omega)
theorem qbk5 (hh : h < NH) : (buN s NH).testBit h = true ↔ s (24 + h) = 1 := by
  rw [show buN s NH = orN (fun h => decide (s (24 + h) = 1)) NH from rfl, qMw]; simp [hh]
theorem qbib (hh : h < NH) : (siN s p NH).testBit h = true ↔ s h = p := by
  rw [show siN s p NH = orN (fun h => decide (s h = p)) NH from rfl, qMw]; simp [hh]
theorem qSQ {Q : Int32 → Prop} (hR : row 2 = Int32.ofNat (caN s NH)) (H6 : NH ≤ 6) (ep : p.toInt = (h : Int)) (hh : h < NH) (q1 : s h = -1 → Q 1) (q0 : s h ≠ -1 → Q 0) : qdN row p Q := by
  intro x1 e1
  rw [k_c2, hR] at e1
  have hb := qa06 (X := caN s NH) (j := h) e1 (qbcf H6) ep (by omega)
  rw [qbcz hh] at hb
  exact ⟨fun c => q0 (fun w => c (hb.mpr w)), fun c => q1 (hb.mp c)⟩
theorem qblh {Q : Int32 → Prop} (hR : qOH NH NF row s) (H6 : NH ≤ 6) (eh : nh.toInt = (NH : Int)) (ep : p.toInt = (h : Int)) (hh : h < 6) (hq : Q (owS s NH h)) : qOv nh row p Q := by
  have e : sumI (fun o => row (28 + (6 * h + o))) NH = owS s NH h := qa0Z NH (fun o ho => (hR.2.2.2.2.1 (6 * h + o) (by omega)).1)
  have go : ∀ (m : Nat) (l2 l3 : Int32) (k : Nat), l3.toInt = (k : Int) → k ≤ NH → l2 = sumI (fun o => row (28 + (6 * h + o))) k → NH - k < m → qLg nh row Q m p l2 l3 := by
    intro m
    induction m with
    | zero => intro l2 l3 k h1 h2 h3 h4; omega
    | succ m ih =>
      intro l2 l3 k h1 h2 h3 h4
      refine ⟨fun c => ?_, fun c => qaSd ep hh h1 (by rw [qak] at c; omega) (fun x3 e3 x4 e4 => ?_)⟩
      · rw [qak] at c
        rw [h3, show k = NH by omega, e]; exact hq
      · rw [qak] at c
        exact ih x3 x4 (k + 1) (by rw [e4, qca (by omega), h1]; omega) (by omega) (by rw [e3, h3]; rfl) (by omega)
  exact ⟨7, go 7 0 0 0 t_0 (by omega) rfl (by omega)⟩
theorem qblr {Q : Int32 → Prop} (hR : qOH NH NF row s) (H6 : NH ≤ 6) (eh : nh.toInt = (NH : Int)) (ep : p.toInt = (h : Int)) (hh : h < 6) (hq : Q (odS s NH h)) : qOF nh row p Q := by
  have e : sumI (fun o => row (28 + (6 * o + h))) NH = odS s NH h := qa0Z NH (fun o ho => (hR.2.2.2.2.1 (6 * o + h) (by omega)).1)
  have go : ∀ (m : Nat) (l2 l3 : Int32) (k : Nat), l3.toInt = (k : Int) → k ≤ NH → l2 = sumI (fun o => row (28 + (6 * o + h))) k → NH - k < m → qLQ nh row Q m p l2 l3 := by
    intro m
    induction m with
    | zero => intro l2 l3 k h1 h2 h3 h4; omega
    | succ m ih =>
      intro l2 l3 k h1 h2 h3 h4
      refine ⟨fun c => ?_, fun c => qaSd h1 (by rw [qak] at c; omega) ep hh (fun x3 e3 x4 e4 => ?_)⟩
      · rw [qak] at c
        rw [h3, show k = NH by omega, e]; exact hq
      · rw [qak] at c
        exact ih x3 x4 (k + 1) (by rw [e4, qca (by omega), h1]; omega) (by omega) (by rw [e3, h3]; rfl) (by omega)
  exact ⟨7, go 7 0 0 0 t_0 (by omega) rfl (by omega)⟩
theorem qbd0 {l : Int32} {j : Nat} (e : l = Int32.ofNat (siN s p k)) (hk : k < 8) (ej : q.toInt = (k : Int)) (w : s k = p) : l ||| (1 <<< (q &&& 31)) = Int32.ofNat (siN s p (k + 1)) := by
  rw [qaXO e (q1t (by omega)) ej hk]
  show _ = Int32.ofNat (if decide (s k = p) = true then siN s p k ||| (1 <<< k) else siN s p k)
  rw [if_pos (decide_eq_true w)]
theorem qbg9 (w : s k ≠ p) : siN s p (k + 1) = siN s p k := by
  show (if decide (s k = p) = true then siN s p k ||| (1 <<< k) else siN s p k) = _
  rw [if_neg (by rw [decide_eq_true_eq]; exact w)]
theorem qa18 {Q : Int32 → Prop} (hR : qOH NH NF row s) (H6 : NH ≤ 6) (eh : nh.toInt = (NH : Int)) (hp : p ≠ -1) (hq : Q (Int32.ofNat (siN s p NH))) : qAt nh row p Q := by
  have go : ∀ (m : Nat) (l2 l3 : Int32) (k : Nat), l3.toInt = (k : Int) → k ≤ NH → l2 = Int32.ofNat (siN s p k) → NH - k < m → qn9 nh row Q m p l2 l3 := by
    intro m
    induction m with
    | zero => intro l2 l3 k h1 h2 h3 h4; omega
    | succ m ih =>
      intro l2 l3 k h1 h2 h3 h4
      have nx : ∀ x : Int32, x = l3 + 1 → x.toInt = ((k + 1 : Nat) : Int) := fun x e => by rw [e, qca (by omega), h1]; omega
      refine ⟨fun c => ?_, fun c => ?_⟩
      · rw [qak] at c
        rw [h3, show k = NH by omega]; exact hq
      · rw [qak] at c
        have hk : k < NH := by omega
        refine qSQ hR.1 H6 h1 hk (fun w => ⟨fun _ x7 e7 => ih l2 x7 (k + 1) (nx x7 e7) (by omega) ?_ (by omega), fun z => absurd z (by decide)⟩) (fun w => ⟨fun z => absurd rfl z, fun _ => qahE h1 (by omega) ⟨fun z x7 e7 => ih l2 x7 (k + 1) (nx x7 e7) (by omega) ?_ (by omega), fun z x6 e6 x7 e7 => ih x6 x7 (k + 1) (nx x7 e7) (by omega) ?_ (by omega)⟩⟩)
        · rw [qbg9 (by rw [w]; exact fun d => hp d.symm)]; exact h3
        · rw [qbg9 (by rw [qawz hR hk w]; exact z)]; exact h3
        · rw [e6]; exact qbd0 (j := 0) h3 (by omega) h1 (by rw [qawz hR hk w]; exact z)
  exact ⟨7, go 7 0 0 0 t_0 (by omega) rfl (by omega)⟩
end DC
/-! the reference's reading of its row -/
section DM
variable {NH NF : Nat} {s : Nat → Int32} {nh p q : Int32} {h i k : Nat}
theorem qR4 {Q : Int32 → Prop} (ep : p.toInt = (h : Int)) (hh : h < 6) (q1 : s h = -1 → Q 1) (q0 : s h ≠ -1 → Q 0) : qeW s p Q := fun x1 e1 => by
  have e := i0 e1 ep (by omega)
  refine ⟨qa6 (by omega) (by omega), fun x2 e2 => ?_⟩
  rw [qas e] at e2
  exact ⟨fun c => q0 (by rw [← e2]; exact c), fun c => q1 (by rw [← e2]; exact c)⟩
theorem qbhi {Q : Int32 → Prop} (H6 : NH ≤ 6) (eh : nh.toInt = (NH : Int)) (ep : p.toInt = (h : Int)) (hh : h < 6) (hq : Q (owS s NH h)) : qO6 nh s p Q := by
  have go : ∀ (m : Nat) (l2 l3 : Int32) (k : Nat), l3.toInt = (k : Int) → k ≤ NH → l2 = sumI (fun o => s (30 + (6 * h + o))) k → NH - k < m → qIJ nh s Q m p l2 l3 := by
    intro m
    induction m with
    | zero => intro l2 l3 k h1 h2 h3 h4; omega
    | succ m ih =>
      intro l2 l3 k h1 h2 h3 h4
      refine ⟨fun c => ?_, fun c x2 e2 x3 e3 => ?_⟩
      · rw [qak] at c
        rw [h3, show k = NH by omega]; exact hq
      · rw [qak] at c
        have e := ixm e2 ep hh e3 h1 (by omega)
        refine ⟨qa6 (by omega) (by omega), fun x4 e4 x5 e5 x6 e6 => ?_⟩
        rw [qas e] at e4
        exact ih x5 x6 (k + 1) (by rw [e6, qca (by omega), h1]; omega) (by omega) (by rw [e5, e4, h3]; rfl) (by omega)
  exact ⟨7, go 7 0 0 0 t_0 (by omega) rfl (by omega)⟩
theorem qbfJ {Q : Int32 → Prop} (H6 : NH ≤ 6) (eh : nh.toInt = (NH : Int)) (ep : p.toInt = (h : Int)) (hh : h < 6) (hq : Q (odS s NH h)) : qrS nh s p Q := by
  have go : ∀ (m : Nat) (l2 l3 : Int32) (k : Nat), l3.toInt = (k : Int) → k ≤ NH → l2 = sumI (fun o => s (30 + (6 * o + h))) k → NH - k < m → qB4 nh s Q m p l2 l3 := by
    intro m
    induction m with
    | zero => intro l2 l3 k h1 h2 h3 h4; omega
    | succ m ih =>
      intro l2 l3 k h1 h2 h3 h4
      refine ⟨fun c => ?_, fun c x2 e2 x3 e3 => ?_⟩
      · rw [qak] at c
        rw [h3, show k = NH by omega]; exact hq
      · rw [qak] at c
        have e := ixm e2 h1 (by omega) e3 ep hh
        refine ⟨qa6 (by omega) (by omega), fun x4 e4 x5 e5 x6 e6 => ?_⟩
        rw [qas e] at e4
        exact ih x5 x6 (k + 1) (by rw [e6, qca (by omega), h1]; omega) (by omega) (by rw [e5, e4, h3]; rfl) (by omega)
  exact ⟨7, go 7 0 0 0 t_0 (by omega) rfl (by omega)⟩
theorem qbgI {Q : Int32 → Prop} (H6 : NH ≤ 6) (eh : nh.toInt = (NH : Int)) (hq : Q (Int32.ofNat (siN s p NH))) : qGy nh s p Q := by
  have go : ∀ (m : Nat) (l2 l3 : Int32) (k : Nat), l3.toInt = (k : Int) → k ≤ NH → l2 = Int32.ofNat (siN s p k) → NH - k < m → qvh nh s Q m p l2 l3 := by
    intro m
    induction m with
    | zero => intro l2 l3 k h1 h2 h3 h4; omega
    | succ m ih =>
      intro l2 l3 k h1 h2 h3 h4
      have nx : ∀ x : Int32, x = l3 + 1 → x.toInt = ((k + 1 : Nat) : Int) := fun x e => by rw [e, qca (by omega), h1]; omega
      refine ⟨fun c => ?_, fun c x2 e2 => ?_⟩
      · rw [qak] at c
        rw [h3, show k = NH by omega]; exact hq
      · rw [qak] at c
        have e := i0 e2 h1 (by omega)
        refine ⟨qa6 (by omega) (by omega), fun x3 e3 => ?_⟩
        rw [qas e] at e3
        refine ⟨fun z x5 e5 x6 e6 => ih x5 x6 (k + 1) (nx x6 e6) (by omega) ?_ (by omega), fun z x5 e5 x6 e6 => ih x5 x6 (k + 1) (nx x6 e6) (by omega) ?_ (by omega)⟩
        · rw [qbg9 (by rw [← e3]; exact z), e5, Int32.or_zero]; exact h3
        · rw [e5]; exact qbd0 (j := 0) h3 (by omega) h1 (by rw [← e3]; exact z)
  exact ⟨7, go 7 0 0 0 t_0 (by omega) rfl (by omega)⟩
end DM
end
section
/-! how far by the law, by both -/
def f8 (a0 a1 a2 a3 a4 a5 a6 a7 : Int32) (j : Nat) : Int32 := if j = 0 then a0 else if j = 1 then a1 else if j = 2 then a2 else if j = 3 then a3 else if j = 4 then a4 else if j = 5 then a5 else if j = 6 then a6 else a7
/-- the law that is in force at first -/
def plL : List (Int × Int) := [(0, 4), (1, 0), (2, 0), (1, 1), (3, 0)]
def qXL (cs : List (Int × Int)) (ln : Int32) (kd vl : NI) (ct : Int32) (cd oc : NI) : Prop := rn cs = some 1 ∧ cL ((0, 0, 0), cs) kd vl ln ∧ ((ct ≠ 0 ∧ mL ((0, 0, 0), cs) cd oc ct ∧ cs.length ≤ 150) ∨ (ct = 0 ∧ cs = plL))
theorem qbmD : rn plL = some 1 := by decide
theorem qbh6 {fs gs : Nat → Int32} {cs : List (Int × Int)} (hr : rn cs = some 1) (he : ∀ j : Nat, j < 8 → fs j = gs j) : ∀ k : Nat, k ≤ cs.length → evA fs cs k = evA gs cs k := by
  intro k
  induction k with
  | zero => intro _; rfl
  | succ k ih =>
    intro hk
    have nn := qafF hr
    obtain ⟨d, d1, d2, d3, d4⟩ := qa1S (fs := fs) (cs := cs) k (by omega) (fun j hj => nn j (by omega))
    have hw := qaj6 (show k < cs.length by omega) d1 (nn (k + 1) (by omega))
    rw [ev_s (by omega), ev_s (by omega), ih (by omega)]
    generalize cs.getD k (0, 0) = c at hw
    obtain ⟨c1, c2⟩ := c
    have hw : c1 = 0 ∨ (c1 = 1 ∧ 0 ≤ c2 ∧ c2 < 8) ∨ (2 ≤ c1 ∧ c1 ≤ 8 ∧ 2 ≤ d) := hw
    rcases hw with w | ⟨w, w1, w2⟩ | ⟨w, w1, w2⟩
    · rw [w, ev_0, ev_0]
    · rw [w, ev_1, ev_1, he c2.toNat (by omega)]
    · rw [ev_2 w, ev_2 w]
theorem qbcB {fs gs : Nat → Int32} {cs : List (Int × Int)} (hr : rn cs = some 1) (he : ∀ j : Nat, j < 8 → fs j = gs j) : lV fs cs = lV gs cs := by
  unfold lV
  rw [qbh6 hr he cs.length (Nat.le_refl _)]
theorem qbnc {fs : Nat → Int32} : lV fs plL = cl60 (4 + fs 0 - fs 1) := rfl
theorem qbip {fs : Nat → Int32} {a0 a1 a2 a3 a4 a5 a6 a7 : Int32} (h0 : fs 0 = a0) (h1 : fs 1 = a1) (h2 : fs 2 = a2) (h3 : fs 3 = a3) (h4 : fs 4 = a4) (h5 : fs 5 = a5) (h6 : fs 6 = a6) (h7 : fs 7 = a7) : ∀ j : Nat, j < 8 → fs j = f8 a0 a1 a2 a3 a4 a5 a6 a7 j := by
  intro j hj
  have c : j = 0 ∨ j = 1 ∨ j = 2 ∨ j = 3 ∨ j = 4 ∨ j = 5 ∨ j = 6 ∨ j = 7 := by omega
  rcases c with c | c | c | c | c | c | c | c
  · rw [c]; exact h0
  · rw [c]; exact h1
  · rw [c]; exact h2
  · rw [c]; exact h3
  · rw [c]; exact h4
  · rw [c]; exact h5
  · rw [c]; exact h6
  · rw [c]; exact h7
section DL
variable {cs : List (Int × Int)} {ln ct : Int32} {kd vl cd oc fc : Nat → Int32}
theorem qa2b {a0 a1 a2 a3 a4 : Int32} {Q : NI → Prop} (hq : ∀ f : NI, f 0 = a0 → f 1 = a1 → f 2 = a2 → f 3 = a3 → f 4 = a4 → Q f) : qEg fc a0 a1 a2 a3 a4 Q := by
  intro f1 e1 f2 e2 f3 e3 f4 e4 f5 e5
  rw [t_c0] at e1
  rw [k_c1] at e2
  rw [k_c2] at e3
  rw [k_c3] at e4
  rw [k_c4] at e5
  refine hq f5 ?_ ?_ ?_ ?_ ?_ <;> rw [e5] <;> simp [upd, e4, e3, e2, e1]
theorem qa2S {a5 a6 a7 : Int32} {Q : NI → Prop} (hq : ∀ f : NI, (∀ j : Nat, j < 5 → f j = fc j) → f 5 = a5 → f 6 = a6 → f 7 = a7 → Q f) : qDR fc a5 a6 a7 Q := by
  intro f1 e1 f2 e2 f3 e3
  rw [k_c5] at e1
  rw [k_c6] at e2
  rw [k_c7] at e3
  refine hq f3 (fun j hj => ?_) ?_ ?_ ?_
  · rw [e3, pk_un (by omega), e2, pk_un (by omega), e1, pk_un (by omega)]
  · rw [e3, pk_un (by decide), e2, pk_un (by decide), e1, pk_us]
  · rw [e3, pk_un (by decide), e2, pk_us]
  · rw [e3, pk_us]
theorem qbaG {st : Nat → Int32} {Q : Int32 → NI → Prop} (hL : qXL cs ln kd vl ct cd oc) (hq : ∀ st : NI, Q (lV fc cs) st) : qKr ct cd oc fc st Q := by
  obtain ⟨hr, hc, hm⟩ := hL
  have cl : ∀ (v : Int32) (st : NI), cl60 v = lV fc cs → qDc ct cd oc fc Q st v := fun v st e => by
    unfold cl60 at e
    refine ⟨fun c => ⟨fun d => ?_, fun d => ?_⟩, fun c => ?_⟩
    · rw [if_pos c, if_pos d] at e
      rw [e]; exact hq st
    · rw [if_pos c, if_neg d] at e
      rw [e]; exact hq st
    · rw [if_neg c] at e
      rw [e]; exact hq st
  rcases hm with ⟨h0, hm, h150⟩ | ⟨h0, hp⟩
  · exact ⟨fun _ => qbgG hm h150 hr (fun st => cl _ st rfl), fun z => absurd z h0⟩
  · refine ⟨fun z => absurd h0 z, fun _ x4 e4 x5 e5 => cl _ st ?_⟩
    rw [e4, e5, t_c0, k_c1, hp, qbnc]
theorem qbbN {st : Nat → Int32} {a0 a1 a2 a3 a4 a5 a6 a7 : Int32} {Q : Int32 → NI → NI → Prop} (hL : qXL cs ln kd vl ct cd oc) (hq : ∀ fc st : NI, Q (lV (f8 a0 a1 a2 a3 a4 a5 a6 a7) cs) fc st) : qGU ct cd oc fc st a0 a1 a2 a3 a4 a5 a6 a7 Q := by
  intro f1 e1 f2 e2 f3 e3 f4 e4 f5 e5 f6 e6 f7 e7 f9 e9
  rw [t_c0] at e1
  rw [k_c1] at e2
  rw [k_c2] at e3
  rw [k_c3] at e4
  rw [k_c4] at e5
  rw [k_c5] at e6
  rw [k_c6] at e7
  rw [k_c7] at e9
  have e : lV f9 cs = lV (f8 a0 a1 a2 a3 a4 a5 a6 a7) cs := by
    refine qbcB hL.1 (qbip ?_ ?_ ?_ ?_ ?_ ?_ ?_ ?_) <;> rw [e9] <;> simp [upd, e7, e6, e5, e4, e3, e2, e1]
  exact qbaG hL (fun st => by rw [e]; exact hq f9 st)
end DL
/-- the facts of a hare, its leap -/
def lpS (cs : List (Int × Int)) (s : NI) (nh h : Nat) : Int32 := lV (f8 (s (6 + h)) (s (12 + h)) (owS s nh h) (odS s nh h) (Int32.ofNat (pcB (siN s (s h) nh) 8) - 1) (s 66) (Int32.ofNat h) (s (18 + h))) cs
section DR
variable {NH NF : Nat} {row s : Nat → Int32} {nh p : Int32} {h : Nat} {cs : List (Int × Int)} {ln ct : Int32} {kd vl cd oc : Nat → Int32}
theorem qbaf {fc pl : Nat → Int32} {Q : Int32 → NI → NI → Prop} (hR : qOH NH NF row s) (H6 : NH ≤ 6) (eh : nh.toInt = (NH : Int)) (hL : qXL cs ln kd vl ct cd oc) (ep : p.toInt = (h : Int)) (hh : h < NH) (hc : s h ≠ -1) (hq : ∀ fc pl : NI, Q (lpS cs s NH h) fc pl) : qFQ row nh ln kd vl fc pl p Q := by
  have ee := q7z ep (by omega)
  subst ee
  have es := qawz hR hh hc
  obtain ⟨-, es2, es3, -, -⟩ := (hR.2.1 h hh).resolve_left hc
  refine qahE ep (by omega) ?_
  rw [← es]
  refine qa18 hR H6 eh hc (c_bc ?_)
  have e3 := qbm6 ⟨siN s (s h) NH, qblz H6⟩ ⟨h, by omega⟩ ((qbib (p := s h) hh).mpr rfl)
  rw [e3]
  refine qau0 ep (by omega) (qa5x ep (by omega) (qblh hR H6 eh ep (by omega) (qblr hR H6 eh ep (by omega) (qa2b (fun f g0 g1 g2 g3 g4 => qbmw (qbhe ep (by omega) (qa2S (fun f2 g5 g6 g7 g8 => qbfN hL.2.1 hL.1 (fun pl => ?_)))))))))
  have e : lV f2 cs = lpS cs s NH h := by
    refine qbcB hL.1 (qbip ?_ ?_ ?_ ?_ ?_ ?_ ?_ ?_)
    · rw [g5 0 (by decide), g0]; exact es2
    · rw [g5 1 (by decide), g1]; exact es3
    · rw [g5 2 (by decide), g2]
    · rw [g5 3 (by decide), g3]
    · rw [g5 4 (by decide), g4]
    · rw [g6]; exact hR.2.2.2.2.2.1.1
    · rw [g7]
    · rw [g8]; exact hR.2.2.2.1 h hh
  rw [e]; exact hq f2 pl
theorem qbco {fc st : Nat → Int32} {Q : Int32 → NI → NI → Prop} (H6 : NH ≤ 6) (eh : nh.toInt = (NH : Int)) (hL : qXL cs ln kd vl ct cd oc) (ep : p.toInt = (h : Int)) (hh : h < NH) (q1 : s h = -1 → Q 0 fc st) (q0 : s h ≠ -1 → ∀ fc st : NI, Q (lpS cs s NH h) fc st) : qC6 nh ct s cd oc fc st p Q := by
  refine qR4 ep (by omega) (fun w => ⟨fun z => absurd z (by decide), fun _ => q1 w⟩) (fun w => ⟨fun _ x3 e3 => ?_, fun z => absurd rfl z⟩)
  have i3 := i6 e3 ep (by omega)
  refine ⟨qa6 (by omega) (by omega), fun x4 e4 x5 e5 => ?_⟩
  have i5 := i12 e5 ep (by omega)
  refine ⟨qa6 (by omega) (by omega), fun x6 e6 => qbhi H6 eh ep (by omega) (qbfJ H6 eh ep (by omega) (fun x9 e9 => ?_))⟩
  have i9 := i0 e9 ep (by omega)
  refine ⟨qa6 (by omega) (by omega), fun x10 e10 => qbgI H6 eh (qbiP rfl (qblz H6) (fun x13 e13 x14 e14 => ?_))⟩
  have i14 := i18 e14 ep (by omega)
  refine ⟨qa6 (by omega) (by omega), fun x15 e15 => qbbN hL (fun fc st => ?_)⟩
  rw [qas i3] at e4
  rw [qas i5] at e6
  rw [qas i9] at e10
  rw [qbfp] at e13
  rw [qas i14] at e15
  have e := q0 w fc st
  unfold lpS at e
  rw [e4, e6, e10, e13, e15, q7z ep (by omega)]
  exact e
end DR
end
section
/-! leaps, boxing, paying, by both -/
/-- where the reference's hares sit -/
def rgS (NH NF : Nat) (s : NI) : Prop := ∀ h : Nat, h < NH → s h = -1 ∨ ∃ f : Nat, (s h).toInt = (f : Int) ∧ f < NF
theorem qbe2 {NH NF : Nat} {row s : Nat → Int32} (hR : qOH NH NF row s) : rgS NH NF s := fun h hh => by
  by_cases c : s h = -1
  · exact Or.inl c
  · exact Or.inr (m_in hR hh c)
/-- a leap could be done -/
abbrev cnS (F : Nat → Int) (cs : List (Int × Int)) (s : NI) (nh h f : Nat) : Prop := s h ≠ -1 ∧ (s h).toInt ≠ (f : Int) ∧ fr F (s h).toInt.toNat f ≤ (lpS cs s nh h).toInt
def lyS (s : NI) (h : Nat) (q : Int32) : NI := upd (upd (upd (upd s h q) (12 + h) 0) (18 + h) ((upd (upd s h q) (12 + h) 0) (18 + h) + 1)) (24 + h) 1
def stC (r : NI) (h : Nat) : NI := upd (upd r (16 + h) 0) 3 ((upd r (16 + h) 0) 3 ||| (1 <<< (Int32.ofNat h &&& 31)))
def lyC (r : NI) (h : Nat) (q : Int32) : NI := stC (upd (upd r (4 + h) q) (22 + h) ((upd r (4 + h) q) (22 + h) + 1)) h
theorem ly_a {s : Nat → Int32} {h : Nat} {q : Int32} (hh : h < 6) : lyS s h q h = q := by
  unfold lyS; rw [pk_un (by omega), pk_un (by omega), pk_un (by omega), pk_us]
theorem ly_b {s : Nat → Int32} {h : Nat} {q : Int32} (hh : h < 6) : lyS s h q (12 + h) = 0 := by
  unfold lyS; rw [pk_un (by omega), pk_un (by omega), pk_us]
theorem ly_c {s : Nat → Int32} {h : Nat} {q : Int32} (hh : h < 6) : lyS s h q (18 + h) = s (18 + h) + 1 := by
  unfold lyS; rw [pk_un (by omega), pk_us, pk_un (by omega), pk_un (by omega)]
theorem ly_d {s : Nat → Int32} {h : Nat} {q : Int32} : lyS s h q (24 + h) = 1 := by
  unfold lyS; rw [pk_us]
theorem ly_o {s : Nat → Int32} {h j : Nat} {q : Int32} (h1 : j ≠ h) (h2 : j ≠ 12 + h) (h3 : j ≠ 18 + h) (h4 : j ≠ 24 + h) : lyS s h q j = s j := by
  unfold lyS; rw [pk_un h4, pk_un h3, pk_un h2, pk_un h1]
theorem st_b {r : Nat → Int32} {h : Nat} : stC r h (16 + h) = 0 := by
  unfold stC; rw [pk_un (by omega), pk_us]
theorem st_3 {r : Nat → Int32} {h : Nat} : stC r h 3 = r 3 ||| (1 <<< (Int32.ofNat h &&& 31)) := by
  unfold stC; rw [pk_us, pk_un (by omega)]
theorem st_o {r : Nat → Int32} {h j : Nat} (h1 : j ≠ 3) (h2 : j ≠ 16 + h) : stC r h j = r j := by
  unfold stC; rw [pk_un h1, pk_un h2]
theorem lc_a {r : Nat → Int32} {h : Nat} {q : Int32} (hh : h < 6) : lyC r h q (4 + h) = q := by
  unfold lyC; rw [st_o (by omega) (by omega), pk_un (by omega), pk_us]
theorem lc_c {r : Nat → Int32} {h : Nat} {q : Int32} (hh : h < 6) : lyC r h q (22 + h) = r (22 + h) + 1 := by
  unfold lyC; rw [st_o (by omega) (by omega), pk_us, pk_un (by omega)]
theorem lc_3 {r : Nat → Int32} {h : Nat} {q : Int32} : lyC r h q 3 = r 3 ||| (1 <<< (Int32.ofNat h &&& 31)) := by
  unfold lyC; rw [st_3, pk_un (by omega), pk_un (by omega)]
theorem lc_o {r : Nat → Int32} {h j : Nat} {q : Int32} (h1 : j ≠ 3) (h2 : j ≠ 4 + h) (h3 : j ≠ 16 + h) (h4 : j ≠ 22 + h) : lyC r h q j = r j := by
  unfold lyC; rw [st_o h1 h3, pk_un h4, pk_un h2]
/-- one more is busy -/
theorem qaXT {s t : Nat → Int32} {x : Int32} {NH h : Nat} (H6 : NH ≤ 6) (hh : h < NH) (hx : x = Int32.ofNat (buN s NH)) (h1 : t (24 + h) = 1) (h2 : ∀ j : Nat, j < NH → j ≠ h → t (24 + j) = s (24 + j)) : x ||| (1 <<< (Int32.ofNat h &&& 31)) = Int32.ofNat (buN t NH) := by
  rw [qaXO hx (qbg4 H6) (Int32.toInt_ofNat_of_lt (by omega)) (by omega)]
  unfold buN
  rw [qbjU (R := fun h => decide (t (24 + h) = 1)) hh (decide_eq_true h1) (fun j hj hn => by rw [h2 j hj hn])]
section DU
variable {NH NF : Nat} {row s : Nat → Int32} {nh nf p q : Int32} {h f a b : Nat} {cs : List (Int × Int)} {ln ct : Int32} {kd vl cd oc X Y fo : Nat → Int32} {F : Nat → Int}
theorem qaZT {fc pl : Nat → Int32} {Q : Int32 → NI → NI → Prop} (hF : ∀ j : Nat, j < 2 * NF → 0 ≤ F j ∧ F j ≤ 30) (h8 : NF ≤ 8) (hpr : pr NF X Y F) (hR : qOH NH NF row s) (H6 : NH ≤ 6) (eh : nh.toInt = (NH : Int)) (hL : qXL cs ln kd vl ct cd oc) (ep : p.toInt = (h : Int)) (hh : h < NH) (eq : q.toInt = (f : Int)) (hf : f < NF)
    (q1 : cnS F cs s NH h f → ∀ fc pl : NI, Q 1 fc pl) (q0 : ¬ cnS F cs s NH h f → ∀ fc pl : NI, Q 0 fc pl) : qyi row nh X Y ln kd vl fc pl p q Q := by
  refine qSQ hR.1 H6 ep hh (fun w => ⟨fun _ => q0 (fun d => d.1 w) fc pl, fun z => absurd z (by decide)⟩) (fun w => ⟨fun z => absurd rfl z, fun _ => qahE ep (by omega) ⟨fun z => q0 (fun d => d.2.1 (by rw [qawz hR hh w, z]; exact eq)) fc pl, fun z => qahE ep (by omega) ?_⟩⟩)
  rw [← qawz hR hh w] at z ⊢
  obtain ⟨g, eg, hg⟩ := m_in hR hh w
  refine qa9W hF h8 hpr eg hg eq hf (fun r er => qbaf hR H6 eh hL ep hh w (fun fc pl => ⟨fun c => q0 (fun d => ?_) fc pl, fun c => q1 ⟨w, fun d => z (qan.mpr (by rw [d, eq])), ?_⟩ fc pl⟩))
  · have := d.2.2
    rw [eg, Int.toNat_natCast] at this
    rw [qao] at c; omega
  · rw [eg, Int.toNat_natCast]
    rw [qao] at c; omega
theorem qaVn {fc st : Nat → Int32} {Q : Int32 → NI → NI → Prop} (hF : ∀ j : Nat, j < 2 * NF → 0 ≤ F j ∧ F j ≤ 30) (h8 : NF ≤ 8) (hpm : pm (2 * NF) fo F) (hg : rgS NH NF s) (H6 : NH ≤ 6) (eh : nh.toInt = (NH : Int)) (hL : qXL cs ln kd vl ct cd oc) (ep : p.toInt = (h : Int)) (hh : h < NH) (eq : q.toInt = (f : Int)) (hf : f < NF)
    (q1 : cnS F cs s NH h f → ∀ fc st : NI, Q 1 fc st) (q0 : ¬ cnS F cs s NH h f → ∀ fc st : NI, Q 0 fc st) : qAB nh ct s fo cd oc fc st p q Q := by
  refine qR4 ep (by omega) (fun w => ⟨fun _ => q0 (fun d => d.1 w) fc st, fun z => absurd z (by decide)⟩) (fun w => ⟨fun z => absurd rfl z, fun _ x3 e3 => ?_⟩)
  have k3 := i0 e3 ep (by omega)
  refine ⟨qa6 (by omega) (by omega), fun x4 e4 => ?_⟩
  rw [qas k3] at e4
  refine ⟨fun z => q0 (fun d => d.2.1 (by rw [← e4, z]; exact eq)) fc st, fun z x6 e6 => ?_⟩
  have k6 := i0 e6 ep (by omega)
  refine ⟨qa6 (by omega) (by omega), fun x7 e7 => ?_⟩
  rw [qas k6] at e7
  obtain ⟨g, eg, hg⟩ := (hg h hh).resolve_left w
  refine qbgr hF h8 hpm (by rw [e7]; exact eg) hg eq hf (fun r er => qbco H6 eh hL ep hh (fun w2 => absurd w2 w) (fun _ fc st => ⟨fun c => q0 (fun d => ?_) fc st, fun c => q1 ⟨w, fun d => z (qan.mpr (by rw [e4, d, eq])), ?_⟩ fc st⟩))
  · have := d.2.2
    rw [eg, Int.toNat_natCast] at this
    rw [qao] at c; omega
  · rw [eg, Int.toNat_natCast]
    rw [qao] at c; omega
theorem qa5u {Q : NI → Prop} (ep : p.toInt = (h : Int)) (hh : h < 6) (hq : Q (stC row h)) : qOw row p Q := fun x1 e1 => by
  have e := i16 e1 ep (by omega)
  refine ⟨qa6 (by omega) (by omega), fun f2 e2 x3 e3 x4 e4 f5 e5 => ?_⟩
  rw [qas e] at e2
  rw [k_c3] at e3 e5
  rw [e5, e4, e3, e2, q7z ep (by omega)]; exact hq
theorem qba6 {Q : NI → Prop} (ep : p.toInt = (h : Int)) (hh : h < 6) (hq : Q (lyC row h q)) : qLa row p q Q := fun x1 e1 => by
  have k1 := i4 e1 ep (by omega)
  refine ⟨qa6 (by omega) (by omega), fun f2 e2 x3 e3 => ?_⟩
  have k3 := i22 e3 ep (by omega)
  refine ⟨qa6 (by omega) (by omega), fun x4 e4 x5 e5 => ⟨qa6 (by omega) (by omega), fun f6 e6 => qa5u ep hh ?_⟩⟩
  rw [qas k1] at e2
  rw [qas k3] at e4 e6
  rw [e6, e5, e4, e2]; exact hq
theorem qa97 {fc st : Nat → Int32} {Q : Int32 → NI → NI → NI → Prop} (hF : ∀ j : Nat, j < 2 * NF → 0 ≤ F j ∧ F j ≤ 30) (h8 : NF ≤ 8) (hpm : pm (2 * NF) fo F) (hg : rgS NH NF s) (H6 : NH ≤ 6) (eh : nh.toInt = (NH : Int)) (hL : qXL cs ln kd vl ct cd oc) (ep : p.toInt = (h : Int)) (hh : h < NH) (eq : q.toInt = (f : Int)) (hf : f < NF)
    (q1 : cnS F cs s NH h f → ∀ fc st : NI, Q 1 fc st (lyS s h q)) (q0 : ¬ cnS F cs s NH h f → ∀ fc st : NI, Q 0 fc st s) : qEr nh ct fo cd oc fc st s p q Q := by
  refine qaVn hF h8 hpm hg H6 eh hL ep hh eq hf (fun w fc st => ⟨fun _ x5 e5 => ?_, fun z => absurd z (by decide)⟩) (fun w fc st => ⟨fun z => absurd rfl z, fun _ => q0 w fc st⟩)
  have k5 := i0 e5 ep (by omega)
  refine ⟨qa6 (by omega) (by omega), fun g6 e6 x7 e7 => ?_⟩
  have k7 := i12 e7 ep (by omega)
  refine ⟨qa6 (by omega) (by omega), fun g8 e8 x9 e9 => ?_⟩
  have k9 := i18 e9 ep (by omega)
  refine ⟨qa6 (by omega) (by omega), fun x10 e10 x11 e11 => ⟨qa6 (by omega) (by omega), fun g12 e12 x13 e13 => ?_⟩⟩
  have k13 := i24 e13 ep (by omega)
  refine ⟨qa6 (by omega) (by omega), fun g14 e14 => ?_⟩
  rw [qas k5] at e6
  rw [qas k7] at e8
  rw [qas k9] at e10 e12
  rw [qas k13] at e14
  have e := q1 w fc st
  unfold lyS at e
  rw [e14, e12, e11, e10, e8, e6]; exact e
theorem qa07 (hR : qWf NH NF row s) (H6 : NH ≤ 6) (hh : h < NH) (hc : s h ≠ -1) (eq : q.toInt = (f : Int)) (hf : f < NF) : qWf NH NF (lyC row h q) (lyS s h q) := by
  obtain ⟨⟨r1, r2, r3, r4, r5, ⟨r6, r7⟩, r8⟩, b1, b2⟩ := hR
  have hq1 : q ≠ -1 := fun w => by rw [w, qam] at eq; omega
  refine ⟨⟨?_, fun j hj => ?_, fun j hj => ?_, fun j hj => ?_, fun j hj => ?_, ⟨?_, ?_⟩, fun i k hi hk hn => ?_⟩, ?_, fun j hj => ?_⟩
  · rw [lc_o (by omega) (by omega) (by omega) (by omega), r1]
    unfold caN
    rw [qHW (R := fun j => decide (lyS s h q j = -1)) NH (fun j hj => ?_)]
    by_cases z : j = h
    · rw [z, ly_a (by omega), decide_eq_false hc, decide_eq_false hq1]
    · rw [ly_o z (by omega) (by omega) (by omega)]
  · by_cases z : j = h
    · rw [z, ly_a (by omega), lc_a (by omega)]
      obtain ⟨g1, g2, g3, g4, g5⟩ := (r2 h hh).resolve_left hc
      refine Or.inr ⟨rfl, ?_, ?_, ?_, ?_⟩
      · rw [lc_o (by omega) (by omega) (by omega) (by omega), ly_o (by omega) (by omega) (by omega) (by omega)]; exact g2
      · rw [ly_b (by omega)]
        unfold lyC; rw [st_b]
      · rw [ly_o (by omega) (by omega) (by omega) (by omega)]; exact g4
      · rw [ly_o (by omega) (by omega) (by omega) (by omega)]; exact g5
    · rw [ly_o z (by omega) (by omega) (by omega)]
      refine (r2 j hj).imp id (fun ⟨g1, g2, g3, g4, g5⟩ => ⟨?_, ?_, ?_, ?_, ?_⟩)
      · rw [lc_o (by omega) (by omega) (by omega) (by omega)]; exact g1
      · rw [lc_o (by omega) (by omega) (by omega) (by omega), ly_o (by omega) (by omega) (by omega) (by omega)]; exact g2
      · rw [lc_o (by omega) (by omega) (by omega) (by omega), ly_o (by omega) (by omega) (by omega) (by omega)]; exact g3
      · rw [ly_o (by omega) (by omega) (by omega) (by omega)]; exact g4
      · rw [ly_o (by omega) (by omega) (by omega) (by omega)]; exact g5
  · by_cases z : j = h
    · rw [z, lc_a (by omega)]; omega
    · rw [lc_o (by omega) (by omega) (by omega) (by omega)]; exact r3 j hj
  · by_cases z : j = h
    · rw [z, lc_c (by omega), ly_c (by omega), r4 h hh]
    · rw [lc_o (by omega) (by omega) (by omega) (by omega), ly_o (by omega) (by omega) (by omega) (by omega)]; exact r4 j hj
  · rw [lc_o (by omega) (by omega) (by omega) (by omega), ly_o (by omega) (by omega) (by omega) (by omega)]; exact r5 j hj
  · rw [lc_o (by omega) (by omega) (by omega) (by omega), ly_o (by omega) (by omega) (by omega) (by omega)]; exact r6
  · rw [lc_o (by omega) (by omega) (by omega) (by omega), ly_o (by omega) (by omega) (by omega) (by omega)]; exact r7
  · rw [ly_o (by omega) (by omega) (by omega) (by omega)]; exact r8 i k hi hk hn
  · rw [lc_3]
    exact qaXT H6 hh b1 ly_d (fun j hj hn => ly_o (by omega) (by omega) (by omega) (by omega))
  · by_cases z : j = h
    · rw [z, ly_d]; exact Or.inr rfl
    · rw [ly_o (by omega) (by omega) (by omega) (by omega)]; exact b2 j hj
end DU
end
section
/-! boxing and paying, by both -/
abbrev bxS (s : NI) (a b : Nat) : Prop := a ≠ b ∧ s a ≠ -1 ∧ s a = s b
def loS (s : NI) (a b : Nat) : Nat := if s (6 + a) < s (6 + b) then a else b
def bxF (s : NI) (a b lo : Nat) : NI := upd (upd (upd (upd (upd s (6 + lo) (s (6 + lo) - (if s (6 + lo) ≤ 0 then 0 else 1))) (12 + a) 0) (12 + b) 0) (24 + a) 1) (24 + b) 1
def bxC (r : NI) (a b lo : Nat) : NI := stC (stC (upd r (10 + lo) (if 0 < r (10 + lo) - 1 then r (10 + lo) - 1 else 0)) a) b
abbrev pyS (s : NI) (a b : Nat) (n : Int32) : Prop := s a ≠ -1 ∧ s b ≠ -1 ∧ n ≤ s (30 + (6 * a + b))
def pyF (s : NI) (a b : Nat) (n : Int32) : NI := upd s (30 + (6 * a + b)) (s (30 + (6 * a + b)) - n)
def pyC (r : NI) (a b : Nat) (n : Int32) : NI := upd r (28 + (6 * a + b)) (r (28 + (6 * a + b)) - n)
theorem bf_l {s : Nat → Int32} {a b lo : Nat} (ha : a < 6) (hb : b < 6) (hl : lo < 6) : bxF s a b lo (6 + lo) = s (6 + lo) - (if s (6 + lo) ≤ 0 then 0 else 1) := by
  unfold bxF; rw [pk_un (by omega), pk_un (by omega), pk_un (by omega), pk_un (by omega), pk_us]
theorem bf_s {s : Nat → Int32} {a b lo j : Nat} (ha : a < 6) (hb : b < 6) (h : j = 12 + a ∨ j = 12 + b) : bxF s a b lo j = 0 := by
  unfold bxF
  rw [pk_un (by omega), pk_un (by omega)]
  by_cases z : j = 12 + b
  · rw [z, pk_us]
  · rw [pk_un z, h.resolve_right z, pk_us]
theorem bf_u {s : Nat → Int32} {a b lo j : Nat} (h : j = 24 + a ∨ j = 24 + b) : bxF s a b lo j = 1 := by
  unfold bxF
  by_cases z : j = 24 + b
  · rw [z, pk_us]
  · rw [pk_un z, h.resolve_right z, pk_us]
theorem bf_o {s : Nat → Int32} {a b lo j : Nat} (h1 : j ≠ 6 + lo) (h2 : j ≠ 12 + a) (h3 : j ≠ 12 + b) (h4 : j ≠ 24 + a) (h5 : j ≠ 24 + b) : bxF s a b lo j = s j := by
  unfold bxF; rw [pk_un h5, pk_un h4, pk_un h3, pk_un h2, pk_un h1]
theorem bc_l {r : Nat → Int32} {a b lo : Nat} (ha : a < 6) (hb : b < 6) (hl : lo < 6) : bxC r a b lo (10 + lo) = if 0 < r (10 + lo) - 1 then r (10 + lo) - 1 else 0 := by
  unfold bxC; rw [st_o (by omega) (by omega), st_o (by omega) (by omega), pk_us]
theorem bc_s {r : Nat → Int32} {a b lo j : Nat} (ha : a < 6) (h : j = 16 + a ∨ j = 16 + b) : bxC r a b lo j = 0 := by
  unfold bxC
  by_cases z : j = 16 + b
  · rw [z, st_b]
  · rw [st_o (by omega) z, h.resolve_right z, st_b]
theorem bc_3 {r : Nat → Int32} {a b lo : Nat} : bxC r a b lo 3 = (r 3 ||| (1 <<< (Int32.ofNat a &&& 31))) ||| (1 <<< (Int32.ofNat b &&& 31)) := by
  unfold bxC; rw [st_3, st_3, pk_un (by omega)]
theorem bc_o {r : Nat → Int32} {a b lo j : Nat} (h1 : j ≠ 3) (h2 : j ≠ 10 + lo) (h3 : j ≠ 16 + a) (h4 : j ≠ 16 + b) : bxC r a b lo j = r j := by
  unfold bxC; rw [st_o h1 h4, st_o h1 h3, pk_un h2]
theorem qbmt {x : Int32} (h0 : 0 ≤ x.toInt) (h9 : x.toInt ≤ 9) : (if 0 < x - 1 then x - 1 else 0) = x - (if x ≤ 0 then 0 else 1) ∧ 0 ≤ (x - (if x ≤ 0 then 0 else 1)).toInt ∧ (x - (if x ≤ 0 then 0 else 1)).toInt ≤ 9 := by
  have e : (x - 1).toInt = x.toInt - 1 := qqj (by omega)
  by_cases c : x ≤ 0
  · rw [if_pos c, Int32.sub_zero]
    have c' := c
    rw [qak, t_0] at c'
    rw [if_neg (by rw [qao, t_0, e]; omega)]
    exact ⟨qan.mpr (by rw [t_0]; omega), h0, h9⟩
  · rw [if_neg c]
    have c' := c
    rw [qak, t_0] at c'
    refine ⟨?_, by rw [e]; omega, by rw [e]; omega⟩
    by_cases d : 0 < x - 1
    · rw [if_pos d]
    · rw [if_neg d]
      rw [qao, t_0, e] at d
      exact qan.mpr (by rw [t_0, e]; omega)
section DB
variable {NH NF : Nat} {row s : Nat → Int32} {nh p q n : Int32} {a b lo : Nat}
theorem qaVK {Q : Int32 → Prop} (hR : qOH NH NF row s) (H6 : NH ≤ 6) (ea : p.toInt = (a : Int)) (ha : a < NH) (eb : q.toInt = (b : Int)) (hb : b < NH) (q1 : bxS s a b → Q 1) (q0 : ¬ bxS s a b → Q 0) : qAd row p q Q := by
  refine ⟨fun z => q0 (fun d => d.1 (by rw [z, eb] at ea; omega)), fun z => qSQ hR.1 H6 ea ha (fun w => ⟨fun _ => q0 (fun d => d.2.1 w), fun z => absurd z (by decide)⟩) (fun w => ⟨fun z => absurd rfl z, fun _ => qSQ hR.1 H6 eb hb (fun w2 => ⟨fun _ => q0 (fun d => d.2.1 (by rw [d.2.2]; exact w2)), fun z => absurd z (by decide)⟩) (fun w2 => ⟨fun z => absurd rfl z, fun _ => qahE ea (by omega) (qahE eb (by omega) ?_)⟩)⟩)⟩
  rw [← qawz hR ha w, ← qawz hR hb w2]
  exact ⟨fun y => q0 (fun d => y d.2.2), fun y => q1 ⟨fun d => z (qan.mpr (by rw [ea, eb, d])), w, y⟩⟩
theorem qbff {Q : NI → Prop} (hR : qOH NH NF row s) (H6 : NH ≤ 6) (ea : p.toInt = (a : Int)) (ha : a < NH) (eb : q.toInt = (b : Int)) (hb : b < NH) (hx : bxS s a b) (hq : Q (bxC row a b (loS s a b))) : qPm row p q Q := by
  have sb : s b ≠ -1 := by rw [← hx.2.2]; exact hx.2.1
  obtain ⟨-, g2, -, -, -⟩ := (hR.2.1 a ha).resolve_left hx.2.1
  obtain ⟨-, k2, -, -, -⟩ := (hR.2.1 b hb).resolve_left sb
  have fin : ∀ (l : Int32) (lo : Nat), l.toInt = (lo : Int) → lo < 6 → lo = loS s a b → qEo Q row p q l := fun l lo el hl e x4 e4 => by
    have i4 := i10 e4 el (by omega)
    refine qau0 el hl (fun x6 e6 => ⟨qa6 (by omega) (by omega), fun f7 e7 => qa5u ea (by omega) (qa5u eb (by omega) ?_)⟩)
    rw [qas i4] at e7
    rw [e7, e6, e]; exact hq
  refine qau0 ea (by omega) (qau0 eb (by omega) ?_)
  rw [g2, k2]
  refine ⟨fun c => fin p a ea (by omega) ?_, fun c => fin q b eb (by omega) ?_⟩
  · unfold loS; rw [if_pos c]
  · unfold loS; rw [if_neg c]
theorem qbgg {Q : Int32 → NI → Prop} (H6 : NH ≤ 6) (ea : p.toInt = (a : Int)) (ha : a < NH) (eb : q.toInt = (b : Int)) (hb : b < NH) (q1 : bxS s a b → Q 1 (bxF s a b (loS s a b))) (q0 : ¬ bxS s a b → Q 0 s) : qLE s p q Q := by
  have fin : ∀ (l : Int32) (lo : Nat), l.toInt = (lo : Int) → lo < 6 → lo = loS s a b → bxS s a b → qG3 Q s p q l := fun l lo el hl e hx x14 e14 => by
    have i14 := i6 e14 el (by omega)
    refine ⟨qa6 (by omega) (by omega), fun x15 e15 x16 e16 => ?_⟩
    have i16 := i6 e16 el (by omega)
    refine ⟨qa6 (by omega) (by omega), fun x17 e17 => ?_⟩
    rw [qas i14] at e15
    rw [qas i16] at e17
    have last : ∀ d : Int32, d = (if s (6 + lo) ≤ 0 then 0 else 1) → qHz Q s p q x14 x15 d := fun d ed x19 e19 => by
      refine ⟨qa6 (by omega) (by omega), fun f20 e20 x21 e21 => ?_⟩
      have i21 := i12 e21 ea (by omega)
      refine ⟨qa6 (by omega) (by omega), fun f22 e22 x23 e23 => ?_⟩
      have i23 := i12 e23 eb (by omega)
      refine ⟨qa6 (by omega) (by omega), fun f24 e24 x25 e25 => ?_⟩
      have i25 := i24 e25 ea (by omega)
      refine ⟨qa6 (by omega) (by omega), fun f26 e26 x27 e27 => ?_⟩
      have i27 := i24 e27 eb (by omega)
      refine ⟨qa6 (by omega) (by omega), fun f28 e28 => ?_⟩
      rw [qas i14] at e20
      rw [qas i21] at e22
      rw [qas i23] at e24
      rw [qas i25] at e26
      rw [qas i27] at e28
      have g := q1 hx
      rw [← e] at g
      unfold bxF at g
      rw [e28, e26, e24, e22, e20, e19, ed, e15]; exact g
    refine ⟨fun c => last 0 ?_, fun c => last 1 ?_⟩
    · rw [e17] at c; rw [if_pos c]
    · rw [e17] at c; rw [if_neg c]
  refine ⟨fun z => q0 (fun d => d.1 (by rw [z, eb] at ea; omega)), fun z => qR4 ea (by omega) (fun w => ⟨fun _ => q0 (fun d => d.2.1 w), fun z => absurd z (by decide)⟩) (fun w => ⟨fun z => absurd rfl z, fun _ x4 e4 => ?_⟩)⟩
  have k4 := i0 e4 ea (by omega)
  refine ⟨qa6 (by omega) (by omega), fun x5 e5 x6 e6 => ?_⟩
  have k6 := i0 e6 eb (by omega)
  refine ⟨qa6 (by omega) (by omega), fun x7 e7 => ?_⟩
  rw [qas k4] at e5
  rw [qas k6] at e7
  refine ⟨fun y x9 e9 => ?_, fun y => q0 (fun d => y (by rw [e5, e7]; exact d.2.2))⟩
  have hx : bxS s a b := ⟨fun d => z (qan.mpr (by rw [ea, eb, d])), w, by rw [← e5, ← e7]; exact y⟩
  have k9 := i6 e9 eb (by omega)
  refine ⟨qa6 (by omega) (by omega), fun x10 e10 x11 e11 => ?_⟩
  have k11 := i6 e11 ea (by omega)
  refine ⟨qa6 (by omega) (by omega), fun x12 e12 => ?_⟩
  rw [qas k9] at e10
  rw [qas k11] at e12
  rw [e10, e12]
  refine ⟨fun c => fin q b eb (by omega) ?_ hx, fun c => fin p a ea (by omega) ?_ hx⟩
  · unfold loS; rw [if_neg (by rw [qak] at c; rw [qao]; omega)]
  · unfold loS; rw [if_pos (by rw [qak] at c; rw [qao]; omega)]
theorem qbkf : loS s a b = a ∨ loS s a b = b := by
  unfold loS
  by_cases c : s (6 + a) < s (6 + b)
  · rw [if_pos c]; exact Or.inl rfl
  · rw [if_neg c]; exact Or.inr rfl
theorem qaUr (hR : qWf NH NF row s) (H6 : NH ≤ 6) (ha : a < NH) (hb : b < NH) (hx : bxS s a b) (hl : lo = a ∨ lo = b) : qWf NH NF (bxC row a b lo) (bxF s a b lo) := by
  obtain ⟨⟨r1, r2, r3, r4, r5, ⟨r6, r7⟩, r8⟩, b1, b2⟩ := hR
  have sb : s b ≠ -1 := by rw [← hx.2.2]; exact hx.2.1
  have hlo : lo < NH := by omega
  have slo : s lo ≠ -1 := by
    rcases hl with hl | hl
    · rw [hl]; exact hx.2.1
    · rw [hl]; exact sb
  have sit : ∀ j : Nat, j < 6 → bxF s a b lo j = s j := fun j hj => bf_o (by omega) (by omega) (by omega) (by omega) (by omega)
  refine ⟨⟨?_, fun j hj => ?_, fun j hj => ?_, fun j hj => ?_, fun j hj => ?_, ⟨?_, ?_⟩, fun i k hi hk hn => ?_⟩, ?_, fun j hj => ?_⟩
  · rw [bc_o (by omega) (by omega) (by omega) (by omega), r1]
    unfold caN
    rw [qHW (R := fun j => decide (bxF s a b lo j = -1)) NH (fun j hj => by rw [sit j (by omega)])]
  · rw [sit j (by omega)]
    refine (r2 j hj).imp id (fun ⟨g1, g2, g3, g4, g5⟩ => ?_)
    have v3 : bxC row a b lo (16 + j) = bxF s a b lo (12 + j) := by
      by_cases z : j = a ∨ j = b
      · rw [bc_s (by omega) (by omega), bf_s (by omega) (by omega) (by omega)]
      · rw [bc_o (by omega) (by omega) (by omega) (by omega), bf_o (by omega) (by omega) (by omega) (by omega) (by omega)]; exact g3
    by_cases z : j = lo
    · subst z
      have e := qbmt g4 g5
      rw [bc_o (j := 4 + j) (by omega) (by omega) (by omega) (by omega), bc_l (by omega) (by omega) (by omega), bf_l (by omega) (by omega) (by omega), g2]
      exact ⟨g1, e.1, v3, e.2.1, e.2.2⟩
    · rw [bc_o (j := 4 + j) (by omega) (by omega) (by omega) (by omega), bc_o (j := 10 + j) (by omega) (by omega) (by omega) (by omega), bf_o (j := 6 + j) (by omega) (by omega) (by omega) (by omega) (by omega)]
      exact ⟨g1, g2, v3, g4, g5⟩
  · rw [bc_o (by omega) (by omega) (by omega) (by omega)]; exact r3 j hj
  · rw [bc_o (by omega) (by omega) (by omega) (by omega), bf_o (by omega) (by omega) (by omega) (by omega) (by omega)]; exact r4 j hj
  · rw [bc_o (by omega) (by omega) (by omega) (by omega), bf_o (by omega) (by omega) (by omega) (by omega) (by omega)]; exact r5 j hj
  · rw [bc_o (by omega) (by omega) (by omega) (by omega), bf_o (by omega) (by omega) (by omega) (by omega) (by omega)]; exact r6
  · rw [bc_o (by omega) (by omega) (by omega) (by omega), bf_o (by omega) (by omega) (by omega) (by omega) (by omega)]; exact r7
  · rw [bf_o (by omega) (by omega) (by omega) (by omega) (by omega)]; exact r8 i k hi hk hn
  · rw [bc_3]
    refine qaXT (s := upd s (24 + a) 1) H6 hb (qaXT (s := s) H6 ha b1 pk_us (fun j hj hn => pk_un (by omega))) (bf_u (Or.inr rfl)) (fun j hj hn => ?_)
    by_cases z : j = a
    · rw [z, pk_us]; exact bf_u (Or.inl rfl)
    · rw [pk_un (by omega), bf_o (by omega) (by omega) (by omega) (by omega) (by omega)]
  · by_cases z : j = a ∨ j = b
    · rw [bf_u (by omega)]; exact Or.inr rfl
    · rw [bf_o (by omega) (by omega) (by omega) (by omega) (by omega)]; exact b2 j hj
theorem qa2q {Q : Int32 → Prop} (hR : qOH NH NF row s) (H6 : NH ≤ 6) (ea : p.toInt = (a : Int)) (ha : a < NH) (eb : q.toInt = (b : Int)) (hb : b < NH) (q1 : pyS s a b n → Q 1) (q0 : ¬ pyS s a b n → Q 0) : qTv row p q n Q := by
  refine qSQ hR.1 H6 ea ha (fun w => ⟨fun _ => q0 (fun d => d.1 w), fun z => absurd z (by decide)⟩) (fun w => ⟨fun z => absurd rfl z, fun _ => qSQ hR.1 H6 eb hb (fun w2 => ⟨fun _ => q0 (fun d => d.2.1 w2), fun z => absurd z (by decide)⟩) (fun w2 => ⟨fun z => absurd rfl z, fun _ => qaSd ea (by omega) eb (by omega) ?_⟩)⟩)
  rw [(hR.2.2.2.2.1 (6 * a + b) (by omega)).1]
  exact ⟨fun c => q0 (fun d => by have := d.2.2; rw [qak] at this; rw [qao] at c; omega), fun c => q1 ⟨w, w2, by rw [qao] at c; rw [qak]; omega⟩⟩
theorem qa7b {Q : NI → Prop} (ea : p.toInt = (a : Int)) (ha : a < 6) (eb : q.toInt = (b : Int)) (hb : b < 6) (hq : Q (pyC row a b n)) : qYo row p q n Q := fun x1 e1 x2 e2 => by
  have e := ixc e1 ea ha e2 eb hb
  refine ⟨qa6 (by omega) (by omega), fun x3 e3 x4 e4 => ⟨qa6 (by omega) (by omega), fun f5 e5 => ?_⟩⟩
  rw [qas e] at e3 e5
  rw [e5, e4, e3]; exact hq
theorem qbjE {Q : Int32 → NI → Prop} (H6 : NH ≤ 6) (ea : p.toInt = (a : Int)) (ha : a < NH) (eb : q.toInt = (b : Int)) (hb : b < NH) (q1 : pyS s a b n → Q 1 (pyF s a b n)) (q0 : ¬ pyS s a b n → Q 0 s) : q8X s p q n Q := by
  refine qR4 ea (by omega) (fun w => ⟨fun _ => q0 (fun d => d.1 w), fun z => absurd z (by decide)⟩) (fun w => ⟨fun z => absurd rfl z, fun _ => qR4 eb (by omega) (fun w2 => ⟨fun _ => q0 (fun d => d.2.1 w2), fun z => absurd z (by decide)⟩) (fun w2 => ⟨fun z => absurd rfl z, fun _ x5 e5 x6 e6 => ?_⟩)⟩)
  have k6 := ixm e5 ea (by omega) e6 eb (by omega)
  refine ⟨qa6 (by omega) (by omega), fun x7 e7 => ?_⟩
  rw [qas k6] at e7
  refine ⟨fun c x9 e9 x10 e10 => ?_, fun c => q0 (fun d => c (by rw [e7]; exact d.2.2))⟩
  have k10 := ixm e9 ea (by omega) e10 eb (by omega)
  refine ⟨qa6 (by omega) (by omega), fun x11 e11 x12 e12 => ⟨qa6 (by omega) (by omega), fun f13 e13 => ?_⟩⟩
  rw [qas k10] at e11 e13
  have g := q1 ⟨w, w2, by rw [← e7]; exact c⟩
  unfold pyF at g
  rw [e13, e12, e11]; exact g
theorem qa7e (hR : qWf NH NF row s) (H6 : NH ≤ 6) (ha : a < NH) (hb : b < NH) (hn0 : 0 ≤ n.toInt) (hx : pyS s a b n) : qWf NH NF (pyC row a b n) (pyF s a b n) := by
  obtain ⟨⟨r1, r2, r3, r4, r5, ⟨r6, r7⟩, r8⟩, b1, b2⟩ := hR
  have oc : ∀ j : Nat, j < 28 → pyC row a b n j = row j := fun j hj => by unfold pyC; rw [pk_un (by omega)]
  have om : ∀ j : Nat, (j < 30 ∨ 66 ≤ j) → pyF s a b n j = s j := fun j hj => by unfold pyF; rw [pk_un (by omega)]
  refine ⟨⟨?_, fun j hj => ?_, fun j hj => ?_, fun j hj => ?_, fun j hj => ?_, ⟨?_, ?_⟩, fun i k hi hk hn => ?_⟩, ?_, fun j hj => ?_⟩
  · rw [oc 2 (by omega), r1]
    unfold caN
    rw [qHW (R := fun j => decide (pyF s a b n j = -1)) NH (fun j hj => by rw [om j (by omega)])]
  · rw [om j (by omega), oc (4 + j) (by omega), oc (10 + j) (by omega), oc (16 + j) (by omega), om (6 + j) (by omega), om (12 + j) (by omega)]
    exact r2 j hj
  · rw [oc (4 + j) (by omega)]; exact r3 j hj
  · rw [oc (22 + j) (by omega), om (18 + j) (by omega)]; exact r4 j hj
  · have g := r5 j hj
    by_cases z : j = 6 * a + b
    · rw [z] at g ⊢
      unfold pyC pyF
      rw [pk_us, pk_us, g.1]
      have h3 := hx.2.2
      rw [qak] at h3
      have e : (s (30 + (6 * a + b)) - n).toInt = (s (30 + (6 * a + b))).toInt - n.toInt := qpT (by omega) (by omega)
      exact ⟨rfl, by rw [e]; omega, by rw [e]; omega⟩
    · unfold pyC pyF
      rw [pk_un (by omega), pk_un (by omega)]; exact g
  · rw [oc 0 (by omega), om 66 (by omega)]; exact r6
  · rw [oc 1 (by omega), om 67 (by omega)]; exact r7
  · unfold pyF
    rw [pk_un (by omega)]; exact r8 i k hi hk hn
  · rw [oc 3 (by omega), b1]
    unfold buN
    rw [qHW (R := fun j => decide (pyF s a b n (24 + j) = 1)) NH (fun j hj => by rw [om (24 + j) (by omega)])]
  · rw [om (24 + j) (by omega)]; exact b2 j hj
end DB
end
section
/-! a day goes by: what the reference makes of its row -/
def psS (s : NI) (h : Nat) : NI := if s h ≠ -1 ∧ s (24 + h) = 0 then upd s (12 + h) (s (12 + h) + 1) else s
def psF (s : NI) : Nat → Nat → Int32
  | 0 => s
  | k + 1 => psS (psF s k) k
def ndS (s : NI) : NI := upd s 66 (s 66 + 1)
def dpF (s : NI) (h : Nat) : Nat → Nat → Int32
  | 0 => s
  | o + 1 => upd (upd (dpF s h o) (30 + (6 * h + o)) 0) (30 + (6 * o + h)) 0
def wbB (sfB : Nat → Bool) (s : NI) (h : Nat) : Bool := decide (s h ≠ -1) && (!(sfB (s h).toInt.toNat) && decide ((s (12 + h)).toInt < 3))
def stS (sfB : Nat → Bool) (hr : NI) (nh : Nat) (s : NI) (h : Nat) : NI := if wbB sfB s h = true then dpF (upd s h (-1)) h nh else if s h = -1 then s else upd (upd s (6 + h) (hr (2 * h + 1))) (12 + h) 0
def stF (sfB : Nat → Bool) (hr : NI) (nh : Nat) (s : NI) : Nat → Nat → Int32
  | 0 => s
  | h + 1 => stS sfB hr nh (stF sfB hr nh s h) h
def yrS (s : NI) : NI := upd (upd s 66 1) 67 ((upd s 66 1) 67 + 1)
def bzF (s : NI) : Nat → Nat → Int32
  | 0 => s
  | k + 1 => upd (bzF s k) (24 + k) 0
def paS (sfB : Nat → Bool) (hr : NI) (nh : Nat) (s : NI) : NI := bzF (if ndS (psF s nh) 66 ≤ 31 then ndS (psF s nh) else yrS (stF sfB hr nh (ndS (psF s nh)) nh)) 6
theorem dp_o {s : Nat → Int32} {h j : Nat} : ∀ k : Nat, (j < 30 ∨ 66 ≤ j) → h < 6 → k ≤ 6 → dpF s h k j = s j := by
  intro k
  induction k with
  | zero => intro _ _ _; rfl
  | succ k ih =>
    intro h1 h2 h3
    show upd (upd (dpF s h k) (30 + (6 * h + k)) 0) (30 + (6 * k + h)) 0 j = s j
    rw [pk_un (by omega), pk_un (by omega)]; exact ih h1 h2 (by omega)
theorem ps_o {s : Nat → Int32} {j : Nat} : ∀ k : Nat, (j < 12 ∨ 12 + k ≤ j) → psF s k j = s j := by
  intro k
  induction k with
  | zero => intro _; rfl
  | succ k ih =>
    intro h1
    show psS (psF s k) k j = s j
    unfold psS
    by_cases c : psF s k k ≠ -1 ∧ psF s k (24 + k) = 0
    · rw [if_pos c, pk_un (by omega)]; exact ih (by omega)
    · rw [if_neg c]; exact ih (by omega)
theorem qbm1 {sfB : Nat → Bool} {hr s : Nat → Int32} {nh h j : Nat} (h6 : h < 6) (hn : nh ≤ 6) (h1 : j < 30 ∨ 66 ≤ j) (h2 : j ≠ h) (h3 : j ≠ 6 + h) (h4 : j ≠ 12 + h) : stS sfB hr nh s h j = s j := by
  unfold stS
  by_cases c : wbB sfB s h = true
  · rw [if_pos c, dp_o nh h1 h6 hn, pk_un h2]
  · rw [if_neg c]
    by_cases d : s h = -1
    · rw [if_pos d]
    · rw [if_neg d, pk_un h4, pk_un h3]
/-- what a stroke leaves as it is behind k hares -/
theorem qaQJ {sfB : Nat → Bool} {hr s : Nat → Int32} {nh j : Nat} (hn : nh ≤ 6) : ∀ k : Nat, k ≤ 6 → ((k ≤ j ∧ j < 6) ∨ (6 + k ≤ j ∧ j < 12) ∨ (12 + k ≤ j ∧ j < 30) ∨ 66 ≤ j) → stF sfB hr nh s k j = s j := by
  intro k
  induction k with
  | zero => intro _ _; rfl
  | succ k ih =>
    intro h1 h2
    show stS sfB hr nh (stF sfB hr nh s k) k j = s j
    rw [qbm1 (by omega) hn (by omega) (by omega) (by omega) (by omega)]
    exact ih (by omega) (by omega)
theorem qbfZ {sfB : Nat → Bool} {hr s : Nat → Int32} {nh k : Nat} (hn : nh ≤ 6) (hk : k < 6) : wbB sfB (stF sfB hr nh s k) k = wbB sfB s k := by
  unfold wbB
  rw [qaQJ (j := k) hn k (by omega) (by omega), qaQJ (j := 12 + k) hn k (by omega) (by omega)]
theorem bz_o {s : Nat → Int32} {j : Nat} : ∀ k : Nat, (j < 24 ∨ 24 + k ≤ j) → bzF s k j = s j := by
  intro k
  induction k with
  | zero => intro _; rfl
  | succ k ih =>
    intro h1
    show upd (bzF s k) (24 + k) 0 j = s j
    rw [pk_un (by omega)]; exact ih (by omega)
theorem bz_z {s : Nat → Int32} {h : Nat} : ∀ k : Nat, h < k → bzF s k (24 + h) = 0 := by
  intro k
  induction k with
  | zero => intro h1; omega
  | succ k ih =>
    intro h1
    show upd (bzF s k) (24 + k) 0 (24 + h) = 0
    by_cases z : h = k
    · rw [z, pk_us]
    · rw [pk_un (by omega)]; exact ih (by omega)
/-! the reference makes it -/
section DP
variable {NH NF : Nat} {s : Nat → Int32} {nh nx p : Int32} {h : Nat} {fo fx hr : Nat → Int32} {sfB : Nat → Bool}
/-- the reference's look at what is safe -/
def sfM (NF : Nat) (sfB : Nat → Bool) (nx : Int32) (fo fx : NI) : Prop := ∀ (p : Int32) (i : Nat) (Q : Int32 → Prop), p.toInt = (i : Int) → i < NF → (sfB i = true → Q 1) → (sfB i = false → Q 0) → qw0 nx fo fx p Q
theorem qbe0 {Q : Int32 → Prop} (hs : sfM NF sfB nx fo fx) (hg : s h = -1 ∨ ∃ f : Nat, (s h).toInt = (f : Int) ∧ f < NF) (ep : p.toInt = (h : Int)) (hh : h < 6) (q1 : wbB sfB s h = true → Q 1) (q0 : wbB sfB s h = false → Q 0) : quN nx s fo fx p Q := by
  refine qR4 ep hh (fun w => ⟨fun _ => q0 (by unfold wbB; simp [w]), fun z => absurd z (by decide)⟩) (fun w => ⟨fun z => absurd rfl z, fun _ x3 e3 => ?_⟩)
  have k3 := i0 e3 ep (by omega)
  refine ⟨qa6 (by omega) (by omega), fun x4 e4 => ?_⟩
  rw [qas k3] at e4
  obtain ⟨f, ef, hf⟩ := hg.resolve_left w
  have et : (s h).toInt.toNat = f := by omega
  refine hs x4 f _ (by rw [e4]; exact ef) hf (fun y => ⟨fun _ => q0 ?_, fun z => absurd z (by decide)⟩) (fun y => ⟨fun z => absurd rfl z, fun _ x7 e7 => ?_⟩)
  · unfold wbB; rw [et, y]; simp
  have k7 := i12 e7 ep (by omega)
  refine ⟨qa6 (by omega) (by omega), fun x8 e8 => ?_⟩
  rw [qas k7] at e8
  refine ⟨fun c => q0 ?_, fun c => q1 ?_⟩
  · rw [qak, t_3, e8] at c
    unfold wbB; rw [decide_eq_false (show ¬ (s (12 + h)).toInt < 3 by omega)]; simp
  · rw [qak, t_3, e8] at c
    unfold wbB; rw [et, y, decide_eq_true (show (s (12 + h)).toInt < 3 by omega), decide_eq_true w]; rfl
theorem qa8K {Q : NI → Prop} (hs : sfM NF sfB nx fo fx) (H6 : NH ≤ 6) (eh : nh.toInt = (NH : Int)) (hg : rgS NH NF s) (hq : Q (yrS (stF sfB hr NH s NH))) : qKJ nh nx fo fx hr s Q := by
  have go : ∀ (m : Nat) (t : NI) (l1 : Int32) (k : Nat), l1.toInt = (k : Int) → k ≤ NH → t = stF sfB hr NH s k → NH - k < m → qm2 nh nx fo fx hr Q m t l1 := by
    intro m
    induction m with
    | zero => intro t l1 k h1 h2 h3 h4; omega
    | succ m ih =>
      intro t l1 k h1 h2 h3 h4
      refine ⟨fun c f2 e2 x3 e3 x4 e4 f5 e5 => ?_, fun c => ?_⟩
      · rw [qak] at c
        rw [qbfp] at e2
        rw [qblk] at e3 e5
        rw [show k = NH by omega] at h3
        rw [e5, e4, e3, e2, h3]; exact hq
      · rw [qak] at c
        have hk : k < NH := by omega
        have next : ∀ t2 : NI, t2 = stF sfB hr NH s (k + 1) → qwI nh nx fo fx hr Q (fun f0_s l1 => qm2 nh nx fo fx hr Q m f0_s l1) t2 l1 := fun t2 e x19 e19 =>
          ih t2 x19 (k + 1) (by rw [e19, qca (by omega), h1]; omega) (by omega) e (by omega)
        have keep : t k = s k := by rw [h3]; exact qaQJ (by omega) k (by omega) (by omega)
        have wk : wbB sfB t k = wbB sfB (stF sfB hr NH s k) k := by rw [h3]
        refine qbe0 hs (by rw [keep]; exact hg k hk) h1 (by omega) (fun w => ⟨fun z => absurd z (by decide), fun _ x17 e17 => ?_⟩) (fun w => ⟨fun _ => qR4 h1 (by omega) (fun d => ⟨fun _ => next t ?_, fun z => absurd z (by decide)⟩) (fun d => ⟨fun z => absurd rfl z, fun _ x10 e10 x11 e11 x12 e12 => ?_⟩), fun z => absurd rfl z⟩)
        · have k17 := i0 e17 h1 (by omega)
          refine ⟨qa6 (by omega) (by omega), fun f18 e18 => ?_⟩
          rw [qas k17] at e18
          have fin : stF sfB hr NH s (k + 1) = dpF (upd t k (-1)) k NH := by
            show stS sfB hr NH (stF sfB hr NH s k) k = _
            rw [← h3]
            unfold stS; rw [if_pos w]
          have go2 : ∀ (m2 : Nat) (u : NI) (l2 : Int32) (o : Nat), l2.toInt = (o : Int) → o ≤ NH → u = dpF (upd t k (-1)) k o → NH - o < m2 → qyH nh nx fo fx hr Q (fun f0_s l1 => qm2 nh nx fo fx hr Q m f0_s l1) m2 u l1 l2 := by
            intro m2
            induction m2 with
            | zero => intro u l2 o g1 g2 g3 g4; omega
            | succ m2 ih2 =>
              intro u l2 o g1 g2 g3 g4
              refine ⟨fun c2 => next u ?_, fun c2 x21 e21 x22 e22 => ?_⟩
              · rw [qak] at c2
                rw [fin, g3, show o = NH by omega]
              · rw [qak] at c2
                have k22 := ixm e21 h1 (by omega) e22 g1 (by omega)
                refine ⟨qa6 (by omega) (by omega), fun f23 e23 x24 e24 x25 e25 => ?_⟩
                have k25 := ixm e24 g1 (by omega) e25 h1 (by omega)
                refine ⟨qa6 (by omega) (by omega), fun f26 e26 x27 e27 => ih2 f26 x27 (o + 1) (by rw [e27, qca (by omega), g1]; omega) (by omega) ?_ (by omega)⟩
                rw [qas k22] at e23
                rw [qas k25] at e26
                rw [e26, e23, g3]; rfl
          exact ⟨7, go2 7 f18 0 0 t_0 (by omega) e18 (by omega)⟩
        · rw [h3]
          show _ = stS sfB hr NH (stF sfB hr NH s k) k
          unfold stS; rw [if_neg (by rw [← wk, w]; decide), if_pos (by rw [← h3]; exact d)]
        · have k10 := i6 e10 h1 (by omega)
          have k12 : x12.toInt = ((2 * k + 1 : Nat) : Int) := by rw [e12]; exact qah1 (by rw [e11]; exact q0N h1 (by omega)) (by omega)
          refine ⟨qa6 (by omega) (by omega), fun x13 e13 => ⟨qa6 (by omega) (by omega), fun f14 e14 x15 e15 => ?_⟩⟩
          have k15 := i12 e15 h1 (by omega)
          refine ⟨qa6 (by omega) (by omega), fun f16 e16 => next f16 ?_⟩
          rw [qas k12] at e13
          rw [qas k10] at e14
          rw [qas k15] at e16
          show _ = stS sfB hr NH (stF sfB hr NH s k) k
          unfold stS; rw [if_neg (by rw [← wk, w]; decide), if_neg (by rw [← h3]; exact d), e16, e14, e13, h3]
  exact ⟨7, go 7 s 0 0 t_0 (by omega) rfl (by omega)⟩
theorem qbbM {Q : NI → Prop} (hs : sfM NF sfB nx fo fx) (H6 : NH ≤ 6) (eh : nh.toInt = (NH : Int)) (hg : rgS NH NF s) (hq : Q (paS sfB hr NH s)) : qCW nh nx fo fx hr s Q := by
  have last : ∀ t : NI, t = (if ndS (psF s NH) 66 ≤ 31 then ndS (psF s NH) else yrS (stF sfB hr NH (ndS (psF s NH)) NH)) → qEQ nh nx fo fx hr Q t := fun t et => by
    have go : ∀ (m : Nat) (u : NI) (l1 : Int32) (k : Nat), l1.toInt = (k : Int) → k ≤ 6 → u = bzF t k → 6 - k < m → qAj nh nx fo fx hr Q m u l1 := by
      intro m
      induction m with
      | zero => intro u l1 k h1 h2 h3 h4; omega
      | succ m ih =>
        intro u l1 k h1 h2 h3 h4
        refine ⟨fun c => ?_, fun c x19 e19 => ?_⟩
        · rw [qak, t_6] at c
          rw [h3, show k = 6 by omega, et]; exact hq
        · rw [qak, t_6] at c
          have k19 := i24 e19 h1 (by omega)
          refine ⟨qa6 (by omega) (by omega), fun f20 e20 x21 e21 => ih f20 x21 (k + 1) (by rw [e21, qca (by omega), h1]; omega) (by omega) ?_ (by omega)⟩
          rw [qas k19] at e20
          rw [e20, h3]; rfl
    exact ⟨7, go 7 t 0 0 t_0 (by omega) rfl (by omega)⟩
  have go : ∀ (m : Nat) (t : NI) (l1 : Int32) (k : Nat), l1.toInt = (k : Int) → k ≤ NH → t = psF s k → NH - k < m → qpd nh nx fo fx hr Q m t l1 := by
    intro m
    induction m with
    | zero => intro t l1 k h1 h2 h3 h4; omega
    | succ m ih =>
      intro t l1 k h1 h2 h3 h4
      refine ⟨fun c x2 e2 x3 e3 f4 e4 x5 e5 => ?_, fun c => ?_⟩
      · rw [qak] at c
        rw [qbfp] at e2 e4 e5
        rw [show k = NH by omega] at h3
        have e9 : f4 = ndS (psF s NH) := by rw [e4, e3, e2, h3]; rfl
        rw [e9] at e5
        refine ⟨fun d => last f4 ?_, fun d => qa8K hs H6 eh ?_ (last _ ?_)⟩
        · rw [if_pos (by rw [← e5]; exact d)]; exact e9
        · intro j hj
          have e : f4 j = s j := by
            rw [e9]
            unfold ndS
            rw [pk_un (by omega)]; exact ps_o NH (by omega)
          rw [e]; exact hg j hj
        · rw [if_neg (by rw [← e5]; exact d), e9]
      · rw [qak] at c
        have hk : k < NH := by omega
        have next : ∀ t2 : NI, t2 = psF s (k + 1) → qAa nh nx fo fx hr Q (fun f0_s l1 => qpd nh nx fo fx hr Q m f0_s l1) t2 l1 := fun t2 e x17 e17 =>
          ih t2 x17 (k + 1) (by rw [e17, qca (by omega), h1]; omega) (by omega) e (by omega)
        refine qR4 h1 (by omega) (fun w => ⟨fun _ => next t ?_, fun z => absurd z (by decide)⟩) (fun w => ⟨fun z => absurd rfl z, fun _ x10 e10 => ?_⟩)
        · show t = psS (psF s k) k
          rw [← h3]
          unfold psS; rw [if_neg (fun d => d.1 w)]
        · have k10 := i24 e10 h1 (by omega)
          refine ⟨qa6 (by omega) (by omega), fun x11 e11 => ?_⟩
          rw [qas k10] at e11
          refine ⟨fun d => next t ?_, fun d x13 e13 => ?_⟩
          · show t = psS (psF s k) k
            rw [← h3]
            unfold psS; rw [if_neg (fun g => d (by rw [e11]; exact g.2))]
          · have k13 := i12 e13 h1 (by omega)
            refine ⟨qa6 (by omega) (by omega), fun x14 e14 x15 e15 => ⟨qa6 (by omega) (by omega), fun f16 e16 => next f16 ?_⟩⟩
            rw [qas k13] at e14 e16
            show f16 = psS (psF s k) k
            rw [← h3]
            unfold psS; rw [if_pos ⟨w, by rw [← e11]; exact d⟩, e16, e15, e14]
  exact ⟨7, go 7 s 0 0 t_0 (by omega) rfl (by omega)⟩
end DP
end
