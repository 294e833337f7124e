/-! how far by a law: both piles -/
def bo (k : Int) (a c : Int32) : Int32 := if k = 2 then a + c else if k = 3 then a - c else if k = 4 then a * c else if k = 5 then (if c = 0 then 0 else a / c) else if k = 8 then (if c = 0 then 0 else a - a / c * c) else if k = 6 then (if c ≤ a then c else a) else (if a ≤ c then c else a)
theorem bo_joined {k : Int} {p a c : Int32} {Q : Int32 → Prop} (hk : 2 ≤ k ∧ k ≤ 8) (hp : p.toInt = kC k) (hq : Q (bo k a c)) : wq_X4_joined p a c Q := by
  have hc : k = 2 ∨ k = 3 ∨ k = 4 ∨ k = 5 ∨ k = 6 ∨ k = 7 ∨ k = 8 := by omega
  rcases hc with e | e | e | e | e | e | e <;> subst e
  · have hp : p = 2 := t_eq.mpr (by rw [hp]; decide)
    subst hp
    exact ⟨fun d => absurd d (by first | decide | simp), fun _ => hq, fun d => absurd d (by first | decide | simp), fun d => absurd d (by first | decide | simp), fun d => absurd d (by first | decide | simp), fun d => absurd d (by first | decide | simp), fun d => absurd d (by first | decide | simp)⟩
  · have hp : p = 3 := t_eq.mpr (by rw [hp]; decide)
    subst hp
    exact ⟨fun d => absurd d (by first | decide | simp), fun d => absurd d (by first | decide | simp), fun _ => hq, fun d => absurd d (by first | decide | simp), fun d => absurd d (by first | decide | simp), fun d => absurd d (by first | decide | simp), fun d => absurd d (by first | decide | simp)⟩
  · have hp : p = 4 := t_eq.mpr (by rw [hp]; decide)
    subst hp
    exact ⟨fun d => absurd d (by first | decide | simp), fun d => absurd d (by first | decide | simp), fun d => absurd d (by first | decide | simp), fun _ => hq, fun d => absurd d (by first | decide | simp), fun d => absurd d (by first | decide | simp), fun d => absurd d (by first | decide | simp)⟩
  · have hp : p = 5 := t_eq.mpr (by rw [hp]; decide)
    subst hp
    have e : bo 5 a c = if c = 0 then 0 else a / c := rfl
    rw [e] at hq
    exact ⟨fun d => absurd d (by first | decide | simp), fun d => absurd d (by first | decide | simp), fun d => absurd d (by first | decide | simp), fun d => absurd d (by first | decide | simp), fun _ => ⟨fun z => ⟨z, fun x ex => by rw [ex]; rw [if_neg z] at hq; exact hq⟩, fun z => by rw [if_pos z] at hq; exact hq⟩, fun d => absurd d (by first | decide | simp), fun d => absurd d (by first | decide | simp)⟩
  · have hp : p = 7 := t_eq.mpr (by rw [hp]; decide)
    subst hp
    have e : bo 6 a c = if c ≤ a then c else a := rfl
    rw [e] at hq
    exact ⟨fun d => absurd d (by first | decide | simp), fun d => absurd d (by first | decide | simp), fun d => absurd d (by first | decide | simp), fun d => absurd d (by first | decide | simp), fun d => absurd d (by first | decide | simp), fun d => absurd d (by first | decide | simp), fun _ => ⟨fun z => by rw [if_pos z] at hq; exact hq, fun z => by rw [if_neg z] at hq; exact hq⟩⟩
  · have hp : p = 8 := t_eq.mpr (by rw [hp]; decide)
    subst hp
    have e : bo 7 a c = if a ≤ c then c else a := rfl
    rw [e] at hq
    exact ⟨fun _ => ⟨fun z => by rw [if_pos z] at hq; exact hq, fun z => by rw [if_neg z] at hq; exact hq⟩, fun d => absurd d (by first | decide | simp), fun d => absurd d (by first | decide | simp), fun d => absurd d (by first | decide | simp), fun d => absurd d (by first | decide | simp), fun d => absurd d (by first | decide | simp), fun d => absurd d (by first | decide | simp)⟩
  · have hp : p = 6 := t_eq.mpr (by rw [hp]; decide)
    subst hp
    have e : bo 8 a c = if c = 0 then 0 else a - a / c * c := rfl
    rw [e] at hq
    exact ⟨fun d => absurd d (by first | decide | simp), fun d => absurd d (by first | decide | simp), fun d => absurd d (by first | decide | simp), fun d => absurd d (by first | decide | simp), fun d => absurd d (by first | decide | simp), fun _ => ⟨fun z => ⟨z, fun x ex => by rw [ex]; rw [if_neg z] at hq; exact hq⟩, fun z => by rw [if_pos z] at hq; exact hq⟩, fun d => absurd d (by first | decide | simp)⟩
theorem bo_both {k : Int} {p a c : Int32} {Q : Int32 → Prop} (hk : 2 ≤ k ∧ k ≤ 8) (hp : p.toInt = k) (hq : Q (bo k a c)) : wq_X11_both p a c Q := by
  have hc : k = 2 ∨ k = 3 ∨ k = 4 ∨ k = 5 ∨ k = 6 ∨ k = 7 ∨ k = 8 := by omega
  rcases hc with e | e | e | e | e | e | e <;> subst e
  · have hp : p = 2 := t_eq.mpr (by rw [hp]; decide)
    subst hp
    exact ⟨fun d => absurd rfl d, fun _ => hq⟩
  · have hp : p = 3 := t_eq.mpr (by rw [hp]; decide)
    subst hp
    exact ⟨fun _ => ⟨fun d => absurd rfl d, fun _ => hq⟩, fun d => absurd d (by first | decide | simp)⟩
  · have hp : p = 4 := t_eq.mpr (by rw [hp]; decide)
    subst hp
    exact ⟨fun _ => ⟨fun _ => ⟨fun d => absurd rfl d, fun _ => hq⟩, fun d => absurd d (by first | decide | simp)⟩, fun d => absurd d (by first | decide | simp)⟩
  · have hp : p = 5 := t_eq.mpr (by rw [hp]; decide)
    subst hp
    have e : bo 5 a c = if c = 0 then 0 else a / c := rfl
    rw [e] at hq
    exact ⟨fun _ => ⟨fun _ => ⟨fun _ => ⟨fun _ => ⟨fun z => ⟨fun d => absurd rfl d, fun _ => ⟨z, fun x ex => by rw [ex]; rw [if_neg z] at hq; exact hq⟩⟩, fun z => by rw [if_pos z] at hq; exact hq⟩, fun d => absurd rfl d⟩, fun d => absurd d (by first | decide | simp)⟩, fun d => absurd d (by first | decide | simp)⟩, fun d => absurd d (by first | decide | simp)⟩
  · have hp : p = 6 := t_eq.mpr (by rw [hp]; decide)
    subst hp
    have e : bo 6 a c = if c ≤ a then c else a := rfl
    rw [e] at hq
    exact ⟨fun _ => ⟨fun _ => ⟨fun _ => ⟨fun d => absurd d (by first | decide | simp), fun _ => ⟨fun _ => ⟨fun z => ⟨fun d => absurd rfl d, fun _ => ⟨fun _ => by rw [if_pos z] at hq; exact hq, fun d => absurd d (by first | decide | simp)⟩⟩, fun z => ⟨fun d => absurd rfl d, fun _ => ⟨fun d => absurd rfl d, fun _ => by rw [if_neg z] at hq; exact hq⟩⟩⟩, fun d => absurd d (by first | decide | simp)⟩⟩, fun d => absurd d (by first | decide | simp)⟩, fun d => absurd d (by first | decide | simp)⟩, fun d => absurd d (by first | decide | simp)⟩
  · have hp : p = 7 := t_eq.mpr (by rw [hp]; decide)
    subst hp
    have e : bo 7 a c = if a ≤ c then c else a := rfl
    rw [e] at hq
    refine ⟨fun _ => ⟨fun _ => ⟨fun _ => ⟨fun d => absurd d (by first | decide | simp), fun _ => ⟨fun _ => ⟨fun z => ⟨fun _ => ⟨fun d => absurd rfl d, fun _ => ?_⟩, fun d => absurd d (by first | decide | simp)⟩, fun z => ⟨fun _ => ⟨fun _ => ?_, fun d => absurd d (by first | decide | simp)⟩, fun d => absurd d (by first | decide | simp)⟩⟩, fun d => absurd d (by first | decide | simp)⟩⟩, fun d => absurd d (by first | decide | simp)⟩, fun d => absurd d (by first | decide | simp)⟩, fun d => absurd d (by first | decide | simp)⟩
    · by_cases y : a ≤ c
      · rw [if_pos y] at hq
        have e2 : a = c := t_eq.mpr (by rw [t_le] at y z; omega)
        rw [e2]; exact hq
      · rw [if_neg y] at hq; exact hq
    · have y : a ≤ c := by rw [t_le] at z ⊢; omega
      rw [if_pos y] at hq; exact hq
  · have hp : p = 8 := t_eq.mpr (by rw [hp]; decide)
    subst hp
    have e : bo 8 a c = if c = 0 then 0 else a - a / c * c := rfl
    rw [e] at hq
    exact ⟨fun _ => ⟨fun _ => ⟨fun _ => ⟨fun d => absurd d (by first | decide | simp), fun _ => ⟨fun d => absurd rfl d, fun _ => ⟨fun z => ⟨fun _ => ⟨z, fun x ex => by rw [ex]; rw [if_neg z] at hq; exact hq⟩, fun d => absurd d (by first | decide | simp)⟩, fun z => by rw [if_pos z] at hq; exact hq⟩⟩⟩, fun d => absurd d (by first | decide | simp)⟩, fun d => absurd d (by first | decide | simp)⟩, fun d => absurd d (by first | decide | simp)⟩
abbrev eP := Nat × (Nat → Int32)
def evS (fs : Nat → Int32) (s : eP) (c : Int × Int) : eP := if c.1 = 0 then (s.1 + 1, upd s.2 s.1 (Int32.ofInt c.2)) else if c.1 = 1 then (s.1 + 1, upd s.2 s.1 (fs c.2.toNat)) else (s.1 - 1, upd s.2 (s.1 - 2) (bo c.1 (s.2 (s.1 - 2)) (s.2 (s.1 - 1))))
def evA (fs : Nat → Int32) (cs : List (Int × Int)) (k : Nat) : eP := (cs.take k).foldl (evS fs) (0, fun _ => 0)
theorem tk_s {cs : List (Int × Int)} {k : Nat} (h : k < cs.length) : cs.take (k + 1) = cs.take k ++ [cs.getD k (0, 0)] := by
  rw [List.take_add_one, List.getD_eq_getElem?_getD, List.getElem?_eq_getElem h]; rfl
theorem ev_s {fs : Nat → Int32} {cs : List (Int × Int)} {k : Nat} (h : k < cs.length) : evA fs cs (k + 1) = evS fs (evA fs cs k) (cs.getD k (0, 0)) := by
  unfold evA; rw [tk_s h, List.foldl_append]; rfl
theorem rn_s {cs : List (Int × Int)} {k : Nat} (h : k < cs.length) : rn (cs.take (k + 1)) = cst (rn (cs.take k)) (cs.getD k (0, 0)) := by
  rw [tk_s h]; exact rn_app
/-- at each word of a law the pile is as high as it must be -/
theorem rn_at {fs : Nat → Int32} {cs : List (Int × Int)} : ∀ k : Nat, k ≤ cs.length → (∀ j : Nat, j ≤ k → rn (cs.take j) ≠ none) → ∃ d : Int, rn (cs.take k) = some d ∧ 0 ≤ d ∧ d ≤ k ∧ ((evA fs cs k).1 : Int) = d := by
  intro k
  induction k with
  | zero => intro _ _; exact ⟨0, rfl, by decide, by decide, rfl⟩
  | succ k ih =>
    intro h hn
    obtain ⟨d, h1, h2, h3, h4⟩ := ih (by omega) (fun j hj => hn j (by omega))
    have e := rn_s (cs := cs) (k := k) (by omega)
    have ev := ev_s (fs := fs) (cs := cs) (k := k) (by omega)
    have nn := hn (k + 1) (Nat.le_refl _)
    rw [e, h1] at nn
    rw [e, ev, h1]
    generalize cs.getD k (0, 0) = c at nn ⊢
    obtain ⟨c1, c2⟩ := c
    by_cases y0 : c1 = 0
    · subst y0
      rw [rn_0]
      refine ⟨d + 1, rfl, by omega, by omega, ?_⟩
      show (((evA fs cs k).1 + 1 : Nat) : Int) = d + 1
      omega
    by_cases y1 : c1 = 1
    · subst y1
      by_cases y2 : 0 ≤ c2 ∧ c2 < 8
      · rw [rn_1 y2]
        refine ⟨d + 1, rfl, by omega, by omega, ?_⟩
        have e9 : evS fs (evA fs cs k) (1, c2) = ((evA fs cs k).1 + 1, upd (evA fs cs k).2 (evA fs cs k).1 (fs c2.toNat)) := by
          unfold evS; rw [if_neg (show ¬ ((1, c2) : Int × Int).1 = 0 from (show ¬ (1 : Int) = 0 by decide)), if_pos rfl]
        rw [e9]
        show (((evA fs cs k).1 + 1 : Nat) : Int) = d + 1
        omega
      · have : cst (some d) (1, c2) = none := by
          show (if (1 : Int) = 0 then some (d + 1) else if (1 : Int) = 1 then (if 0 ≤ c2 ∧ c2 < 8 then some (d + 1) else none) else if 2 ≤ (1 : Int) ∧ (1 : Int) ≤ 8 ∧ 2 ≤ d then some (d - 1) else none) = _
          rw [if_neg (by decide), if_pos rfl, if_neg y2]
        exact absurd this nn
    · by_cases y2 : 2 ≤ c1 ∧ c1 ≤ 8 ∧ 2 ≤ d
      · rw [rn_2 ⟨y2.1, y2.2.1⟩ y2.2.2]
        refine ⟨d - 1, rfl, by omega, by omega, ?_⟩
        have e9 : evS fs (evA fs cs k) (c1, c2) = ((evA fs cs k).1 - 1, upd (evA fs cs k).2 ((evA fs cs k).1 - 2) (bo c1 ((evA fs cs k).2 ((evA fs cs k).1 - 2)) ((evA fs cs k).2 ((evA fs cs k).1 - 1)))) := by
          unfold evS; rw [if_neg y0, if_neg y1]
        rw [e9]
        show (((evA fs cs k).1 - 1 : Nat) : Int) = d - 1
        omega
      · have : cst (some d) (c1, c2) = none := by
          show (if c1 = 0 then _ else if c1 = 1 then _ else if 2 ≤ c1 ∧ c1 ≤ 8 ∧ 2 ≤ d then some (d - 1) else none) = _
          rw [if_neg y0, if_neg y1, if_neg y2]
        exact absurd this nn
/-- what is none stays none -/
theorem rn_none {cs : List (Int × Int)} : ∀ m k : Nat, k + m ≤ cs.length → rn (cs.take k) = none → rn (cs.take (k + m)) = none := by
  intro m
  induction m with
  | zero => intro k _ h; exact h
  | succ m ih =>
    intro k hk h
    rw [show k + (m + 1) = (k + m) + 1 by omega, rn_s (by omega), ih k (by omega) h]
    rfl
theorem rn_all {cs : List (Int × Int)} {d : Int} (h : rn cs = some d) : ∀ j : Nat, j ≤ cs.length → rn (cs.take j) ≠ none := fun j hj e => by
  have := rn_none (cs := cs) (cs.length - j) j (by omega) e
  rw [show j + (cs.length - j) = cs.length by omega, List.take_length, h] at this
  exact absurd this (by simp)
/-- how far: between 0 and 60 -/
def cl60 (v : Int32) : Int32 := if 0 ≤ v then (if v ≤ 60 then v else 60) else 0
def lV (fs : Nat → Int32) (cs : List (Int × Int)) : Int32 := cl60 ((evA fs cs cs.length).2 0)
