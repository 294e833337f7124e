/-! a law's text: what it says (kinds by the reference's numbers) -/
abbrev lX := sT × List (Int × Int)
def eS (k v : Int) (x : lX) : lX := if x.1.1 ≠ 0 then x else (x.1, x.2 ++ [(k, v)])
/-- the facts' words -/
def fW (w : Int) : Int := if w = 659111367 then 0 else if w = 20587916 then 1 else if w = 515251 then 2 else if w = 515236 then 3 else if w = 524555859 then 4 else if w = 4153 then 5 else if w = 263749 then 6 else if w = 12748307 then 7 else -1
def opt (S : Option (lX → lX)) (bad : lX) (go : (lX → lX) → lX) : lX := match S with
  | none => bad
  | some f => go f
section TL
variable (n : Nat) (b : Nat → Int)
def prG (S : Option (lX → lX)) (k : Int) (s : Nat) (x : lX) : lX := opt S ((3, s, 0), x.2) (fun f => eS k 0 (gS n b 93 (f (gS n b 44 (f (gS n b 91 x.1, x.2)).1, (f (gS n b 91 x.1, x.2)).2)).1, (f (gS n b 44 (f (gS n b 91 x.1, x.2)).1, (f (gS n b 91 x.1, x.2)).2)).2))
def unG (S : Option (lX → lX)) (x : lX) : lX :=
  if x.1.1 ≠ 0 then x
  else if isD (at0 n b (sk n b x.1.2.2)) then eS 0 (nV n b x.1) (nS n b 0 999 x.1, x.2)
  else if at0 n b (sk n b x.1.2.2) = 40 then opt S ((3, sk n b x.1.2.2, 0), x.2) (fun f => (gS n b 41 (f ((0, 0, sk n b x.1.2.2 + 1), x.2)).1, (f ((0, 0, sk n b x.1.2.2 + 1), x.2)).2))
  else if pw n b (sk n b x.1.2.2) = 12748404 then prG n b S 6 (sk n b x.1.2.2) (wE n b x.1, x.2)
  else if pw n b (sk n b x.1.2.2) = 441972 then prG n b S 7 (sk n b x.1.2.2) (wE n b x.1, x.2)
  else if fW (pw n b (sk n b x.1.2.2)) = -1 then ((1, sk n b x.1.2.2, 0), x.2)
  else eS 1 (fW (pw n b (sk n b x.1.2.2))) (wE n b x.1, x.2)
/-- the sign that goes on, or -1 -/
def oP (c : Int) : Int := if c = 42 then 4 else if c = 47 then 5 else if c = 37 then 8 else -1
def oS (c : Int) : Int := if c = 43 then 2 else if c = 45 then 3 else -1
def lpG (op : Int → Int) (u : lX → lX) : Nat → lX → lX
  | 0, x => x
  | k + 1, x => if x.1.1 ≠ 0 ∨ op (at0 n b (sk n b x.1.2.2)) = -1 then x else lpG op u k (eS (op (at0 n b (sk n b x.1.2.2))) 0 (u ((0, 0, sk n b x.1.2.2 + 1), x.2)))
def pdG (S : Option (lX → lX)) (x : lX) : lX := lpG n b oP (unG n b S) 150 (unG n b S x)
def suG (S : Option (lX → lX)) (x : lX) : lX := lpG n b oS (pdG n b S) 150 (pdG n b S x)
def suN : Nat → lX → lX
  | 0 => suG n b none
  | m + 1 => suG n b (some (suN m))
def enS (st : sT) : sT := if st.1 ≠ 0 then st else if sk n b st.2.2 < n then (1, sk n b st.2.2, 0) else st
def lwAll : lX := (enS n b (suN n b 6 ((0, 0, 0), [])).1, (suN n b 6 ((0, 0, 0), [])).2)
end TL
/-- a reader of a part of a law: nothing behind a fault; else it goes on, and tells no more words than it reads -/
def gdR (n : Nat) (f : lX → lX) : Prop := ∀ x : lX, (x.1.1 ≠ 0 → f x = x) ∧ (x.1.1 = 0 → x.1.2.2 ≤ n → (f x).1.1 = 0 → x.1.2.2 < (f x).1.2.2 ∧ (f x).1.2.2 ≤ n ∧ (f x).2.length + x.1.2.2 ≤ x.2.length + (f x).1.2.2)
section TLp
variable {n : Nat} {b : Nat → Int}
theorem eS_bad {k v : Int} {x : lX} (h : x.1.1 ≠ 0) : eS k v x = x := if_pos h
theorem eS_0 {k v : Int} {x : lX} (h : x.1.1 = 0) : eS k v x = (x.1, x.2 ++ [(k, v)]) := if_neg (fun z => z h)
theorem eS_st {k v : Int} {x : lX} : (eS k v x).1 = x.1 := by
  by_cases h : x.1.1 = 0
  · rw [eS_0 h]
  · rw [eS_bad h]
theorem eS_len {k v : Int} {x : lX} (h : x.1.1 = 0) : (eS k v x).2.length = x.2.length + 1 := by rw [eS_0 h]; simp
theorem at0_lt {p : Nat} {c : Int} (h : at0 n b p = c) (hc : c ≠ 0) : p < n := by
  by_cases w : p < n
  · exact w
  · rw [at0_out w] at h; exact absurd h.symm hc
theorem gS_go {c : Int} {st : sT} (hc : c ≠ 0) (h0 : st.1 = 0) (h : (gS n b c st).1 = 0) : st.2.2 < (gS n b c st).2.2 ∧ (gS n b c st).2.2 ≤ n := by
  by_cases w : at0 n b (sk n b st.2.2) = c
  · rw [gS_0 h0 w]
    have h1 := at0_lt w hc
    have h2 := (sk_facts (n := n) (b := b) _ st.2.2 rfl).1
    exact ⟨by show st.2.2 < sk n b st.2.2 + 1; omega, by show sk n b st.2.2 + 1 ≤ n; omega⟩
  · rw [gS_1 h0 w] at h; exact absurd h (by first | decide | simp)
theorem isD_lt {p : Nat} (h : isD (at0 n b p)) : p < n := by
  by_cases w : p < n
  · exact w
  · rw [at0_out w] at h; omega
theorem nS_go {lo hi : Int} {st : sT} (h0 : st.1 = 0) (h : (nS n b lo hi st).1 = 0) : st.2.2 < (nS n b lo hi st).2.2 ∧ (nS n b lo hi st).2.2 ≤ n := by
  by_cases y : isD (at0 n b (sk n b st.2.2))
  · by_cases w : lo ≤ dv n b (sk n b st.2.2) 0 ∧ dv n b (sk n b st.2.2) 0 ≤ hi
    · rw [nS_0 h0 y w]
      have h1 := isD_lt y
      have h2 := (sk_facts (n := n) (b := b) _ st.2.2 rfl).1
      have h3 : dE n b (sk n b st.2.2) = dE n b (sk n b st.2.2 + 1) := dE_step ⟨h1, by rw [at0_in h1] at y; exact y⟩
      have h4 := dE_facts (n := n) (b := b) _ (sk n b st.2.2 + 1) rfl
      show st.2.2 < dE n b (sk n b st.2.2) ∧ dE n b (sk n b st.2.2) ≤ n
      rw [h3]; omega
    · rw [nS_2 h0 y w] at h; exact absurd h (by first | decide | simp)
  · rw [nS_1 h0 y] at h; exact absurd h (by first | decide | simp)
/-- a word of one letter and more goes on -/
theorem wE_go {st : sT} (hw : 0 < pw n b (sk n b st.2.2)) : st.2.2 < (wE n b st).2.2 ∧ (wE n b st).2.2 ≤ n := by
  have h2 := (sk_facts (n := n) (b := b) _ st.2.2 rfl).1
  have h4 := lE_facts (n := n) (b := b) (s := 0) _ (sk n b st.2.2) rfl
  have hne : lE n b (sk n b st.2.2) ≠ sk n b st.2.2 := fun e => by
    unfold pw at hw
    rw [e, if_pos (by omega), Nat.sub_self] at hw
    exact absurd hw (show ¬ (0 : Int) < 0 by decide)
  show st.2.2 < lE n b (sk n b st.2.2) ∧ lE n b (sk n b st.2.2) ≤ n
  omega
theorem fW_pos {w : Int} (h : fW w ≠ -1) : 0 < w ∧ 0 ≤ fW w ∧ fW w < 8 := by
  unfold fW at h ⊢
  by_cases h0 : w = 659111367
  · rw [if_pos h0]; omega
  rw [if_neg h0] at h ⊢
  by_cases h1 : w = 20587916
  · rw [if_pos h1]; omega
  rw [if_neg h1] at h ⊢
  by_cases h2 : w = 515251
  · rw [if_pos h2]; omega
  rw [if_neg h2] at h ⊢
  by_cases h3 : w = 515236
  · rw [if_pos h3]; omega
  rw [if_neg h3] at h ⊢
  by_cases h4 : w = 524555859
  · rw [if_pos h4]; omega
  rw [if_neg h4] at h ⊢
  by_cases h5 : w = 4153
  · rw [if_pos h5]; omega
  rw [if_neg h5] at h ⊢
  by_cases h6 : w = 263749
  · rw [if_pos h6]; omega
  rw [if_neg h6] at h ⊢
  by_cases h7 : w = 12748307
  · rw [if_pos h7]; omega
  rw [if_neg h7] at h
  exact absurd rfl h
end TLp
