/-! reading: the state of both readers by kind and place of the fault, and where they are -/
abbrev sT := Int × Nat × Nat
def nS (n : Nat) (b : Nat → Int) (lo hi : Int) (st : sT) : sT :=
  if st.1 ≠ 0 then st else if ¬ isD (at0 n b (sk n b st.2.2)) then (1, sk n b st.2.2, 0) else if lo ≤ dv n b (sk n b st.2.2) 0 ∧ dv n b (sk n b st.2.2) 0 ≤ hi then (0, 0, dE n b (sk n b st.2.2)) else (2, sk n b st.2.2, 0)
def nV (n : Nat) (b : Nat → Int) (st : sT) : Int := dv n b (sk n b st.2.2) 0
def gS (n : Nat) (b : Nat → Int) (c : Int) (st : sT) : sT :=
  if st.1 ≠ 0 then st else if at0 n b (sk n b st.2.2) = c then (0, 0, sk n b st.2.2 + 1) else (1, sk n b st.2.2, 0)
/-- a fault, if there is none -/
def fS (kind : Int) (place : Nat) (st : sT) : sT := if st.1 ≠ 0 then st else (kind, place, 0)
def aS (n : Nat) (b : Nat → Int) (st : sT) (at_ : Int32) : Prop := ∃ q : Nat, at_.toInt = q ∧ q ≤ 600 ∧ (st.1 = 0 → sk n b q = sk n b st.2.2)
def cS (n : Nat) (b : Nat → Int) (st : sT) (at_ fa fp : Int32) : Prop := aS n b st at_ ∧ fa.toInt = st.1 ∧ (st.1 = 0 → fp.toInt = -1) ∧ (st.1 ≠ 0 → fp.toInt = st.2.1)
def mS (n : Nat) (b : Nat → Int) (st : sT) (at_ bd bk : Int32) : Prop := aS n b st at_ ∧ (st.1 = 0 → bd = -1) ∧ (st.1 ≠ 0 → bd.toInt = st.2.1 ∧ bk.toInt = st.1)
section TXs
variable {n : Nat} {b : Nat → Int} {st : sT}
theorem nS_bad {lo hi : Int} (h : st.1 ≠ 0) : nS n b lo hi st = st := if_pos h
theorem nS_1 {lo hi : Int} (h : st.1 = 0) (h2 : ¬ isD (at0 n b (sk n b st.2.2))) : nS n b lo hi st = (1, sk n b st.2.2, 0) := by
  unfold nS; rw [if_neg (fun z => z h), if_pos h2]
theorem nS_0 {lo hi : Int} (h : st.1 = 0) (h2 : isD (at0 n b (sk n b st.2.2))) (h3 : lo ≤ dv n b (sk n b st.2.2) 0 ∧ dv n b (sk n b st.2.2) 0 ≤ hi) : nS n b lo hi st = (0, 0, dE n b (sk n b st.2.2)) := by
  unfold nS; rw [if_neg (fun z => z h), if_neg (fun z => z h2), if_pos h3]
theorem nS_2 {lo hi : Int} (h : st.1 = 0) (h2 : isD (at0 n b (sk n b st.2.2))) (h3 : ¬ (lo ≤ dv n b (sk n b st.2.2) 0 ∧ dv n b (sk n b st.2.2) 0 ≤ hi)) : nS n b lo hi st = (2, sk n b st.2.2, 0) := by
  unfold nS; rw [if_neg (fun z => z h), if_neg (fun z => z h2), if_neg h3]
theorem gS_bad {c : Int} (h : st.1 ≠ 0) : gS n b c st = st := if_pos h
theorem gS_0 {c : Int} (h : st.1 = 0) (h2 : at0 n b (sk n b st.2.2) = c) : gS n b c st = (0, 0, sk n b st.2.2 + 1) := by
  unfold gS; rw [if_neg (fun z => z h), if_pos h2]
theorem gS_1 {c : Int} (h : st.1 = 0) (h2 : at0 n b (sk n b st.2.2) ≠ c) : gS n b c st = (1, sk n b st.2.2, 0) := by
  unfold gS; rw [if_neg (fun z => z h), if_neg h2]
theorem fS_bad {k : Int} {p : Nat} (h : st.1 ≠ 0) : fS k p st = st := if_pos h
theorem fS_0 {k : Int} {p : Nat} (h : st.1 = 0) : fS k p st = (k, p, 0) := if_neg (fun z => z h)
theorem nS_fine {lo hi : Int} (h : (nS n b lo hi st).1 = 0) : st.1 = 0 ∧ lo ≤ nV n b st ∧ nV n b st ≤ hi := by
  by_cases z : st.1 = 0
  · refine ⟨z, ?_⟩
    by_cases h2 : isD (at0 n b (sk n b st.2.2))
    · by_cases h3 : lo ≤ dv n b (sk n b st.2.2) 0 ∧ dv n b (sk n b st.2.2) 0 ≤ hi
      · exact h3
      · rw [nS_2 z h2 h3] at h; exact absurd h (by first | decide | simp)
    · rw [nS_1 z h2] at h; exact absurd h (by first | decide | simp)
  · rw [nS_bad z] at h; exact absurd h z
theorem aS_ex {x : Int32} {s : Nat} (e : x.toInt = s) (h : s ≤ 600) (h2 : st.1 = 0 → sk n b s = sk n b st.2.2) : aS n b st x := ⟨s, e, h, h2⟩
variable {len : Int32} {f : Nat → Int32}
theorem cs_number {Q : Int32 → Int32 → Int32 → Int32 → Int32 → Prop} {a fa fp tk lo hi : Int32} (hl : len.toInt = n) (hn : n ≤ 600) (hb : tB n f b) (h : cS n b st a fa fp) (hlo : 0 ≤ lo.toInt) (hhi : hi.toInt ≤ 999)
    (hq : ∀ r x fa2 fp2 t : Int32, cS n b (nS n b lo.toInt hi.toInt st) x fa2 fp2 → ((nS n b lo.toInt hi.toInt st).1 = 0 → r.toInt = nV n b st ∧ t.toInt = (sk n b st.2.2 : Nat)) → Q r x fa2 fp2 t) : wq_X8_number len f a fa fp tk lo hi Q := by
  obtain ⟨⟨q, e, hq6, es⟩, ef, e0, e1⟩ := h
  have hs := sk_le (b := b) hq6 hn
  have fz : fa = 0 → st.1 = 0 := fun z => by rw [z, t_0] at ef; exact ef.symm
  have fn : ¬ fa = 0 → st.1 ≠ 0 := fun z w => z (by rw [t_eq, t_0]; omega)
  refine x_number hl hn hb e hq6 hlo hhi (fun z x ex => ?_) (fun z y x ex => ?_) (fun z y w r x t er ex et => ?_) (fun z y w r x t ex et => ?_)
  · have hz := fn z
    refine hq 0 x fa fp tk ?_ (fun w => ?_)
    · rw [nS_bad hz]; exact ⟨aS_ex ex hs (fun w => absurd w hz), ef, e0, e1⟩
    · rw [nS_bad hz] at w; exact absurd w hz
  · have hz := fz z
    rw [es hz] at y ex hs
    refine hq 0 x 1 x tk ?_ (fun w => ?_)
    · rw [nS_1 hz y]; exact ⟨aS_ex ex hs (fun w => absurd w (by first | decide | simp)), t_1, fun w => absurd w (by first | decide | simp), fun _ => ex⟩
    · rw [nS_1 hz y] at w; exact absurd w (by first | decide | simp)
  · have hz := fz z
    rw [es hz] at y w er ex et
    refine hq r x 0 fp t ?_ (fun _ => ⟨er, et⟩)
    rw [nS_0 hz y w]
    exact ⟨aS_ex ex (dE_le (by rw [← es hz]; exact hs) hn) (fun _ => rfl), t_0, fun _ => e0 hz, fun w => absurd rfl w⟩
  · have hz := fz z
    rw [es hz] at y w ex et hs
    refine hq r x 2 t t ?_ (fun w2 => ?_)
    · rw [nS_2 hz y w]; exact ⟨aS_ex ex (dE_le hs hn) (fun w => absurd w (by first | decide | simp)), t_2, fun w => absurd w (by first | decide | simp), fun _ => et⟩
    · rw [nS_2 hz y w] at w2; exact absurd w2 (by first | decide | simp)
theorem cs_needs {Q : Int32 → Int32 → Int32 → Int32 → Prop} {a fa fp tk c : Int32} (hl : len.toInt = n) (hn : n ≤ 600) (hb : tB n f b) (h : cS n b st a fa fp) (hc : 1 ≤ c.toInt ∧ c.toInt ≤ 127)
    (hq : ∀ x t fa2 fp2 : Int32, cS n b (gS n b c.toInt st) x fa2 fp2 → Q x t fa2 fp2) : wq_X8_needs len f a tk fa fp c Q := by
  obtain ⟨⟨q, e, hq6, es⟩, ef, e0, e1⟩ := h
  have hs := sk_le (b := b) hq6 hn
  have fz : fa = 0 → st.1 = 0 := fun z => by rw [z, t_0] at ef; exact ef.symm
  have fn : ¬ fa = 0 → st.1 ≠ 0 := fun z w => z (by rw [t_eq, t_0]; omega)
  refine x_needs hl hn hb e hq6 hc (fun z x ex => ?_) (fun z y x t ex => ?_) (fun z y x ex => ?_)
  · have hz := fn z
    refine hq x tk fa fp ?_
    rw [gS_bad hz]; exact ⟨aS_ex ex hs (fun w => absurd w hz), ef, e0, e1⟩
  · have hz := fz z
    have hlt : sk n b q < n := by
      by_cases w : sk n b q < n
      · exact w
      · rw [at0_out w] at y; omega
    rw [es hz] at y ex hlt
    refine hq x t 0 fp ?_
    rw [gS_0 hz y]
    exact ⟨aS_ex ex (by omega) (fun _ => rfl), t_0, fun _ => e0 hz, fun w => absurd rfl w⟩
  · have hz := fz z
    rw [es hz] at y ex hs
    refine hq x tk 1 x ?_
    rw [gS_1 hz y]; exact ⟨aS_ex ex hs (fun w => absurd w (by first | decide | simp)), t_1, fun w => absurd w (by first | decide | simp), fun _ => ex⟩
theorem ms_number {Q : Int32 → Int32 → Int32 → Int32 → Prop} {a bd bk lo hi : Int32} (hl : len.toInt = n) (hn : n ≤ 600) (hb : tB n f b) (h : mS n b st a bd bk) (hlo : 0 ≤ lo.toInt) (hhi : hi.toInt ≤ 999)
    (hq : ∀ r x bd2 bk2 : Int32, mS n b (nS n b lo.toInt hi.toInt st) x bd2 bk2 → ((nS n b lo.toInt hi.toInt st).1 = 0 → r.toInt = nV n b st) → Q r x bd2 bk2) : wq_X11_readNumber len f a bd bk lo hi Q := by
  obtain ⟨⟨q, e, hq6, es⟩, e0, e1⟩ := id h
  have hs := sk_le (b := b) hq6 hn
  have fz : bd = -1 → st.1 = 0 := fun z => by
    by_cases w : st.1 = 0
    · exact w
    · have := (e1 w).1; rw [z, t_m1] at this; omega
  have fn : ¬ bd = -1 → st.1 ≠ 0 := fun z w => z (e0 w)
  refine y_number hl hn hb e hq6 hlo hhi (fun z => ?_) (fun z y x ex => ?_) (fun z y w r x er ex => ?_) (fun z y w x t ex et => ?_)
  · have hz := fn z
    refine hq 0 a bd bk ?_ (fun w => ?_)
    · rw [nS_bad hz]; exact h
    · rw [nS_bad hz] at w; exact absurd w hz
  · have hz := fz z
    rw [es hz] at y ex hs
    refine hq 0 x x 1 ?_ (fun w => ?_)
    · rw [nS_1 hz y]; exact ⟨aS_ex ex hs (fun w => absurd w (by first | decide | simp)), fun w => absurd w (by first | decide | simp), fun _ => ⟨ex, t_1⟩⟩
    · rw [nS_1 hz y] at w; exact absurd w (by first | decide | simp)
  · have hz := fz z
    rw [es hz] at y w er ex
    refine hq r x (-1) bk ?_ (fun _ => er)
    rw [nS_0 hz y w]
    exact ⟨aS_ex ex (dE_le (by rw [← es hz]; exact hs) hn) (fun _ => rfl), fun _ => rfl, fun w => absurd rfl w⟩
  · have hz := fz z
    rw [es hz] at y w ex et hs
    refine hq 0 x t 2 ?_ (fun w2 => ?_)
    · rw [nS_2 hz y w]; exact ⟨aS_ex ex (dE_le hs hn) (fun w => absurd w (by first | decide | simp)), fun w => absurd w (by first | decide | simp), fun _ => ⟨et, t_2⟩⟩
    · rw [nS_2 hz y w] at w2; exact absurd w2 (by first | decide | simp)
theorem ms_sign {Q : Int32 → Int32 → Int32 → Prop} {a bd bk c : Int32} (hl : len.toInt = n) (hn : n ≤ 600) (hb : tB n f b) (h : mS n b st a bd bk) (hc : 1 ≤ c.toInt ∧ c.toInt ≤ 127)
    (hq : ∀ x bd2 bk2 : Int32, mS n b (gS n b c.toInt st) x bd2 bk2 → Q x bd2 bk2) : wq_X11_sign len f a bd bk c Q := by
  obtain ⟨⟨q, e, hq6, es⟩, e0, e1⟩ := id h
  have hs := sk_le (b := b) hq6 hn
  have fz : bd = -1 → st.1 = 0 := fun z => by
    by_cases w : st.1 = 0
    · exact w
    · have := (e1 w).1; rw [z, t_m1] at this; omega
  have fn : ¬ bd = -1 → st.1 ≠ 0 := fun z w => z (e0 w)
  refine y_sign hl hn hb e hq6 hc (fun z => ?_) (fun z y x ex => ?_) (fun z y x ex => ?_)
  · have hz := fn z
    refine hq a bd bk ?_
    rw [gS_bad hz]; exact h
  · have hz := fz z
    have hlt : sk n b q < n := by
      by_cases w : sk n b q < n
      · exact w
      · rw [at0_out w] at y; omega
    rw [es hz] at y ex hlt
    refine hq x (-1) bk ?_
    rw [gS_0 hz y]
    exact ⟨aS_ex ex (by omega) (fun _ => rfl), fun _ => rfl, fun w => absurd rfl w⟩
  · have hz := fz z
    rw [es hz] at y ex hs
    refine hq x x 1 ?_
    rw [gS_1 hz y]; exact ⟨aS_ex ex hs (fun w => absurd w (by first | decide | simp)), fun w => absurd w (by first | decide | simp), fun _ => ⟨ex, t_1⟩⟩
end TXs
