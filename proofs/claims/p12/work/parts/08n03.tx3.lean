/-! the reference's words -/
def pk (b : Nat → Int) (s : Nat) : Nat → Int
  | 0 => 0
  | i + 1 => pk b s i * 32 + (b (s + i) - 96)
theorem t_w5e {a c : Int32} (a0 : 0 ≤ a.toInt) (a1 : a.toInt < 33554432) (c0 : 0 ≤ c.toInt) (c1 : c.toInt < 32) : ((a <<< (5 &&& 31)) ||| c).toInt = a.toInt * 32 + c.toInt := by
  have ha := t_bvn a0
  have hc := t_bvn c0
  have hs : (a <<< (5 &&& 31)).toBitVec.toNat = a.toBitVec.toNat <<< 5 := by
    have e : (a <<< (5 &&& 31)).toBitVec = a.toBitVec <<< 5 := rfl
    rw [e, BitVec.toNat_shiftLeft, Nat.mod_eq_of_lt (by rw [Nat.shiftLeft_eq]; omega)]
  have ho : ((a <<< (5 &&& 31)) ||| c).toBitVec.toNat = a.toBitVec.toNat * 32 + c.toBitVec.toNat := by
    rw [t_orn, hs, ← Nat.shiftLeft_add_eq_or_of_lt (by omega), Nat.shiftLeft_eq]
  have e := t_ofn (x := (a <<< (5 &&& 31)) ||| c) (by omega)
  omega
section TXp
variable {n : Nat} {b : Nat → Int} {len : Int32} {f : Nat → Int32}
theorem pk_rng {s : Nat} : ∀ (i : Nat), (∀ j : Nat, j < i → isL (b (s + j))) → 0 ≤ pk b s i ∧ pk b s i < (32 ^ i : Nat) := by
  intro i
  induction i with
  | zero => intro _; exact ⟨Int.le_refl _, by show (0 : Int) < ((32 ^ 0 : Nat) : Int); decide⟩
  | succ i ih =>
    intro h
    obtain ⟨h1, h2⟩ := ih (fun j hj => h j (by omega))
    have h3 := h i (by omega)
    have e : (32 : Nat) ^ (i + 1) = 32 ^ i * 32 := Nat.pow_succ ..
    unfold pk
    rw [e]
    refine ⟨by omega, ?_⟩
    have e2 : ((32 ^ i * 32 : Nat) : Int) = ((32 ^ i : Nat) : Int) * 32 := by rw [Int.natCast_mul]; rfl
    omega
theorem lE_facts {s : Nat} : ∀ (m a : Nat), n - a = m → a ≤ lE n b a ∧ (lE n b a ≤ n ∨ lE n b a = a) ∧ (∀ j : Nat, a ≤ j → j < lE n b a → isL (b j)) ∧ ¬ isL (at0 n b (lE n b a)) := by
  intro m
  induction m with
  | zero =>
    intro a h
    have z : ¬ (a < n ∧ isL (b a)) := fun w => by omega
    rw [lE_stop z]
    exact ⟨Nat.le_refl _, Or.inr rfl, fun j h1 h2 => by omega, by rw [at0_out (by omega)]; omega⟩
  | succ m ih =>
    intro a h
    by_cases c : a < n ∧ isL (b a)
    · rw [lE_step c]
      obtain ⟨h1, h2, h3, h4⟩ := ih (a + 1) (by omega)
      refine ⟨by omega, by omega, fun j g1 g2 => ?_, h4⟩
      by_cases z : j = a
      · rw [z]; exact c.2
      · exact h3 j (by omega) g2
    · rw [lE_stop c]
      refine ⟨Nat.le_refl _, Or.inr rfl, fun j g1 g2 => by omega, fun w => c ?_⟩
      rw [at0_in (by omega)] at w
      exact ⟨by omega, w⟩
/-- what word() answers -/
def pw (n : Nat) (b : Nat → Int) (s : Nat) : Int := if lE n b s ≤ s + 6 then pk b s (lE n b s - s) else 0
theorem y_wl {Q : Int32 → Int32 → Prop} {a : Int32} {s : Nat} (hl : len.toInt = n) (hn : n ≤ 600) (hb : tB n f b) (ha : a.toInt = s) (hs : s ≤ 600) (hq : ∀ r : Int32, r.toInt = pw n b s → Q r a) :
    ∀ (k : Nat) (l1 l2 l3 : Int32) (i : Nat), l2.toInt = i → l3.toInt = ((s + i : Nat) : Int) → s + i ≤ 600 → lE n b (s + i) = lE n b s → (i ≤ 6 → l1.toInt = pk b s i) → (∀ j : Nat, j < i → isL (b (s + j))) → 600 - (s + i) < k → wl_X11_word_14 len f Q k a l1 l2 l3 := by
  intro k
  induction k with
  | zero => intro l1 l2 l3 i h0 h1 h2 h3 h4 h5 h6; omega
  | succ k ih =>
    intro l1 l2 l3 i h0 h1 h2 h3 h4 h5 h6
    have hc : l3.toNatClampNeg = s + i := t_clamp h1
    have stop : ¬ (s + i < n ∧ isL (b (s + i))) → wb_X11_word_67 len f Q a l1 l2 := fun z => by
      rw [lE_stop z] at h3
      refine ⟨fun c => hq l1 ?_, fun c => hq 0 ?_⟩
      · rw [t_le, t_6] at c
        unfold pw
        rw [← h3, if_pos (by omega), h4 (by omega)]
        congr 1
        omega
      · rw [t_le, t_6] at c
        unfold pw
        rw [← h3, if_neg (by omega)]
        exact t_0
    refine ⟨fun c => stop ?_, fun c => ?_⟩
    · rw [t_le] at c; exact fun w => by omega
    rw [t_le] at c
    have hp : s + i < n := by omega
    have hy := hb (s + i) hp
    refine ⟨t_in (by omega) (by omega), fun x4 e4 => ?_⟩
    rw [hc] at e4
    rw [← e4] at hy
    refine y_isSmall hy (fun y => ⟨fun d => absurd d (by decide), fun _ => ?_⟩) (fun y => ⟨fun _ => stop (fun w => y w.2), fun d => absurd rfl d⟩)
    unfold cR at hy
    have hall : ∀ j : Nat, j < i + 1 → isL (b (s + j)) := fun j hj => by
      by_cases z : j = i
      · rw [z]; exact y
      · exact h5 j (by omega)
    have h3' : lE n b (s + (i + 1)) = lE n b s := by rw [← h3, lE_step ⟨hp, y⟩]; rfl
    refine ⟨fun c6 x10 e10 x11 e11 => ?_, fun c6 => ⟨t_in (by omega) (by omega), fun x8 e8 x10 e10 x11 e11 => ?_⟩⟩
    · rw [t_le, t_6] at c6
      have e2 : x10.toInt = ((i + 1 : Nat) : Int) := by rw [e10, t_inc (by omega), h0]; omega
      have e3 : x11.toInt = ((s + (i + 1) : Nat) : Int) := by rw [e11, t_inc (by omega), h1]; omega
      exact ih _ x10 x11 (i + 1) e2 e3 (by omega) h3' (fun w => by omega) hall (by omega)
    · rw [t_le, t_6] at c6
      rw [hc, ← e4] at e8
      have e2 : x10.toInt = ((i + 1 : Nat) : Int) := by rw [e10, t_inc (by omega), h0]; omega
      have e3 : x11.toInt = ((s + (i + 1) : Nat) : Int) := by rw [e11, t_inc (by omega), h1]; omega
      refine ih _ x10 x11 (i + 1) e2 e3 (by omega) h3' (fun w => ?_) hall (by omega)
      have hr := pk_rng (b := b) (s := s) i h5
      have hp5 : 32 ^ i ≤ 32 ^ 5 := Nat.pow_le_pow_right (by decide) (by omega)
      have h55 : (32 : Nat) ^ 5 = 33554432 := by decide
      have h4i := h4 (by omega)
      have e96 : (x8 - 96).toInt = b (s + i) - 96 := by rw [t_sub (by rw [t_96, e8]; omega) (by rw [t_96, e8]; omega), t_96, e8]; omega
      rw [t_w5e (by omega) (by omega) (by omega) (by omega), h4i, e96]
      rfl
theorem y_word {Q : Int32 → Int32 → Prop} {a : Int32} {p : Nat} (hl : len.toInt = n) (hn : n ≤ 600) (hb : tB n f b) (h0 : a.toInt = p) (h1 : p ≤ 600) (hq : ∀ r x : Int32, x.toInt = (sk n b p : Nat) → r.toInt = pw n b (sk n b p) → Q r x) : wq_X11_word len f a Q :=
  y_here hl hn hb h0 h1 (fun _ x e _ => ⟨601, y_wl hl hn hb e (sk_le h1 hn) (fun r er => hq r x e er) 601 0 0 x 0 t_0 e (sk_le h1 hn) rfl (fun _ => t_0) (fun j hj => by omega) (by omega)⟩)
theorem y_pl {Q : Int32 → Prop} (hl : len.toInt = n) (hn : n ≤ 600) (hb : tB n f b) : ∀ (k : Nat) (a : Int32) (p : Nat), a.toInt = p → p ≤ 600 → 600 - p < k → (∀ x : Int32, x.toInt = (lE n b p : Nat) → Q x) → wl_X11_pass_0 len f Q k a := by
  intro k
  induction k with
  | zero => intro a p h0 h1 h2; omega
  | succ k ih =>
    intro a p h0 h1 h2 hq
    have hc : a.toNatClampNeg = p := t_clamp h0
    have stop : ¬ (p < n ∧ isL (b p)) → Q a := fun z => by
      rw [lE_stop z] at hq
      exact hq a h0
    refine ⟨fun c => stop ?_, fun c => ?_⟩
    · rw [t_le] at c; exact fun w => by omega
    rw [t_le] at c
    have hp : p < n := by omega
    have hy := hb p hp
    refine ⟨t_in (by omega) (by omega), fun x2 e2 => ?_⟩
    rw [hc] at e2
    rw [← e2] at hy
    refine y_isSmall hy (fun y => ⟨fun d => absurd d (by decide), fun _ x5 e5 => ?_⟩) (fun y => ⟨fun _ => stop (fun w => y w.2), fun d => absurd rfl d⟩)
    rw [lE_step ⟨hp, y⟩] at hq
    exact ih x5 (p + 1) (by rw [e5, t_inc (by omega), h0]; omega) (by omega) (by omega) hq
theorem y_pass {Q : Int32 → Prop} {a : Int32} {p : Nat} (hl : len.toInt = n) (hn : n ≤ 600) (hb : tB n f b) (h0 : a.toInt = p) (h1 : p ≤ 600) (hq : ∀ x : Int32, x.toInt = (lE n b p : Nat) → Q x) : wq_X11_pass len f a Q :=
  ⟨601, y_pl hl hn hb 601 a p h0 h1 (by omega) hq⟩
/-- words of three letters and more -/
theorem pw_3 {s : Nat} {w0 w1 w2 : Int} {w : Nat → Int} (hs : s ≤ 600) (e0 : w 0 = w0) (e1 : w 1 = w1) (e2 : w 2 = w2) (g0 : isL w0) (g1 : isL w1) (g2 : isL w2) :
    (pw n b s = (((w0 - 96) * 32 + (w1 - 96)) * 32 + (w2 - 96)) ↔ isW n b 3 w s) ∧ (isW n b 3 w s → lE n b s = s + 3) := by
  obtain ⟨h1, h2, h3, h4⟩ := lE_facts (n := n) (b := b) (s := s) _ s rfl
  have back : isW n b 3 w s → lE n b s = s + 3 := fun h => by
    obtain ⟨k1, k2, k3⟩ := h
    have c0 := k3 0 (by omega)
    have c1 := k3 1 (by omega)
    have c2 := k3 2 (by omega)
    rw [Nat.add_zero] at c0
    rw [lE_step ⟨by omega, by rw [c0, e0]; exact g0⟩, lE_step ⟨by omega, by rw [c1, e1]; exact g1⟩, lE_step ⟨by omega, by rw [show s + 1 + 1 = s + 2 by omega, c2, e2]; exact g2⟩]
    refine lE_stop (fun z => k2 ?_)
    rw [at0_in (by omega)]
    exact z.2
  refine ⟨⟨fun h => ?_, fun h => ?_⟩, back⟩
  · unfold pw at h
    by_cases c : lE n b s ≤ s + 6
    · rw [if_pos c] at h
      have hl : lE n b s = s + 3 := by
        have hcs : lE n b s - s = 0 ∨ lE n b s - s = 1 ∨ lE n b s - s = 2 ∨ lE n b s - s = 3 ∨ lE n b s - s = 4 ∨ lE n b s - s = 5 ∨ lE n b s - s = 6 := by omega
        have y0 : 0 < lE n b s - s → isL (b (s)) := fun z => h3 _ (by omega) (by omega)
        have y1 : 1 < lE n b s - s → isL (b (s + 1)) := fun z => h3 _ (by omega) (by omega)
        have y2 : 2 < lE n b s - s → isL (b (s + 2)) := fun z => h3 _ (by omega) (by omega)
        have y3 : 3 < lE n b s - s → isL (b (s + 3)) := fun z => h3 _ (by omega) (by omega)
        have y4 : 4 < lE n b s - s → isL (b (s + 4)) := fun z => h3 _ (by omega) (by omega)
        have y5 : 5 < lE n b s - s → isL (b (s + 5)) := fun z => h3 _ (by omega) (by omega)
        rcases hcs with z | z | z | z | z | z | z <;> rw [z] at h y0 y1 y2 y3 y4 y5 <;> simp only [pk, Nat.add_zero] at h
        · omega
        · have := y0 (by omega); omega
        · have := y0 (by omega); have := y1 (by omega); omega
        · omega
        · have := y0 (by omega); have := y1 (by omega); have := y2 (by omega); have := y3 (by omega); omega
        · have := y0 (by omega); have := y1 (by omega); have := y2 (by omega); have := y3 (by omega); have := y4 (by omega); omega
        · have := y0 (by omega); have := y1 (by omega); have := y2 (by omega); have := y3 (by omega); have := y4 (by omega); have := y5 (by omega); omega
      have y0 := h3 (s) (by omega) (by omega)
      have y1 := h3 (s + 1) (by omega) (by omega)
      have y2 := h3 (s + 2) (by omega) (by omega)
      rw [show lE n b s - s = 3 by omega] at h
      simp only [pk, Nat.add_zero] at h
      rw [hl] at h4
      refine ⟨by omega, h4, fun j hj => ?_⟩
      rcases (show j = 0 ∨ j = 1 ∨ j = 2 by omega) with rfl | rfl | rfl
      · rw [Nat.add_zero, e0]; omega
      · rw [e1]; omega
      · rw [e2]; omega
    · rw [if_neg c] at h; omega
  · have hl := back h
    obtain ⟨k1, k2, k3⟩ := h
    have c0 := k3 0 (by omega)
    have c1 := k3 1 (by omega)
    have c2 := k3 2 (by omega)
    unfold pw
    rw [if_pos (by omega), show lE n b s - s = 3 by omega]
    simp only [pk, Nat.add_zero] at c0 ⊢
    rw [c0, c1, c2, e0, e1, e2]
    omega
theorem pw_4 {s : Nat} {w0 w1 w2 w3 : Int} {w : Nat → Int} (hs : s ≤ 600) (e0 : w 0 = w0) (e1 : w 1 = w1) (e2 : w 2 = w2) (e3 : w 3 = w3) (g0 : isL w0) (g1 : isL w1) (g2 : isL w2) (g3 : isL w3) :
    (pw n b s = ((((w0 - 96) * 32 + (w1 - 96)) * 32 + (w2 - 96)) * 32 + (w3 - 96)) ↔ isW n b 4 w s) ∧ (isW n b 4 w s → lE n b s = s + 4) := by
  obtain ⟨h1, h2, h3, h4⟩ := lE_facts (n := n) (b := b) (s := s) _ s rfl
  have back : isW n b 4 w s → lE n b s = s + 4 := fun h => by
    obtain ⟨k1, k2, k3⟩ := h
    have c0 := k3 0 (by omega)
    have c1 := k3 1 (by omega)
    have c2 := k3 2 (by omega)
    have c3 := k3 3 (by omega)
    rw [Nat.add_zero] at c0
    rw [lE_step ⟨by omega, by rw [c0, e0]; exact g0⟩, lE_step ⟨by omega, by rw [c1, e1]; exact g1⟩, lE_step ⟨by omega, by rw [show s + 1 + 1 = s + 2 by omega, c2, e2]; exact g2⟩, lE_step ⟨by omega, by rw [show s + 1 + 1 + 1 = s + 3 by omega, c3, e3]; exact g3⟩]
    refine lE_stop (fun z => k2 ?_)
    rw [at0_in (by omega)]
    exact z.2
  refine ⟨⟨fun h => ?_, fun h => ?_⟩, back⟩
  · unfold pw at h
    by_cases c : lE n b s ≤ s + 6
    · rw [if_pos c] at h
      have hl : lE n b s = s + 4 := by
        have hcs : lE n b s - s = 0 ∨ lE n b s - s = 1 ∨ lE n b s - s = 2 ∨ lE n b s - s = 3 ∨ lE n b s - s = 4 ∨ lE n b s - s = 5 ∨ lE n b s - s = 6 := by omega
        have y0 : 0 < lE n b s - s → isL (b (s)) := fun z => h3 _ (by omega) (by omega)
        have y1 : 1 < lE n b s - s → isL (b (s + 1)) := fun z => h3 _ (by omega) (by omega)
        have y2 : 2 < lE n b s - s → isL (b (s + 2)) := fun z => h3 _ (by omega) (by omega)
        have y3 : 3 < lE n b s - s → isL (b (s + 3)) := fun z => h3 _ (by omega) (by omega)
        have y4 : 4 < lE n b s - s → isL (b (s + 4)) := fun z => h3 _ (by omega) (by omega)
        have y5 : 5 < lE n b s - s → isL (b (s + 5)) := fun z => h3 _ (by omega) (by omega)
        rcases hcs with z | z | z | z | z | z | z <;> rw [z] at h y0 y1 y2 y3 y4 y5 <;> simp only [pk, Nat.add_zero] at h
        · omega
        · have := y0 (by omega); omega
        · have := y0 (by omega); have := y1 (by omega); omega
        · have := y0 (by omega); have := y1 (by omega); have := y2 (by omega); omega
        · omega
        · have := y0 (by omega); have := y1 (by omega); have := y2 (by omega); have := y3 (by omega); have := y4 (by omega); omega
        · have := y0 (by omega); have := y1 (by omega); have := y2 (by omega); have := y3 (by omega); have := y4 (by omega); have := y5 (by omega); omega
      have y0 := h3 (s) (by omega) (by omega)
      have y1 := h3 (s + 1) (by omega) (by omega)
      have y2 := h3 (s + 2) (by omega) (by omega)
      have y3 := h3 (s + 3) (by omega) (by omega)
      rw [show lE n b s - s = 4 by omega] at h
      simp only [pk, Nat.add_zero] at h
      rw [hl] at h4
      refine ⟨by omega, h4, fun j hj => ?_⟩
      rcases (show j = 0 ∨ j = 1 ∨ j = 2 ∨ j = 3 by omega) with rfl | rfl | rfl | rfl
      · rw [Nat.add_zero, e0]; omega
      · rw [e1]; omega
      · rw [e2]; omega
      · rw [e3]; omega
    · rw [if_neg c] at h; omega
  · have hl := back h
    obtain ⟨k1, k2, k3⟩ := h
    have c0 := k3 0 (by omega)
    have c1 := k3 1 (by omega)
    have c2 := k3 2 (by omega)
    have c3 := k3 3 (by omega)
    unfold pw
    rw [if_pos (by omega), show lE n b s - s = 4 by omega]
    simp only [pk, Nat.add_zero] at c0 ⊢
    rw [c0, c1, c2, c3, e0, e1, e2, e3]
    omega
theorem pw_5 {s : Nat} {w0 w1 w2 w3 w4 : Int} {w : Nat → Int} (hs : s ≤ 600) (e0 : w 0 = w0) (e1 : w 1 = w1) (e2 : w 2 = w2) (e3 : w 3 = w3) (e4 : w 4 = w4) (g0 : isL w0) (g1 : isL w1) (g2 : isL w2) (g3 : isL w3) (g4 : isL w4) :
    (pw n b s = (((((w0 - 96) * 32 + (w1 - 96)) * 32 + (w2 - 96)) * 32 + (w3 - 96)) * 32 + (w4 - 96)) ↔ isW n b 5 w s) ∧ (isW n b 5 w s → lE n b s = s + 5) := by
  obtain ⟨h1, h2, h3, h4⟩ := lE_facts (n := n) (b := b) (s := s) _ s rfl
  have back : isW n b 5 w s → lE n b s = s + 5 := fun h => by
    obtain ⟨k1, k2, k3⟩ := h
    have c0 := k3 0 (by omega)
    have c1 := k3 1 (by omega)
    have c2 := k3 2 (by omega)
    have c3 := k3 3 (by omega)
    have c4 := k3 4 (by omega)
    rw [Nat.add_zero] at c0
    rw [lE_step ⟨by omega, by rw [c0, e0]; exact g0⟩, lE_step ⟨by omega, by rw [c1, e1]; exact g1⟩, lE_step ⟨by omega, by rw [show s + 1 + 1 = s + 2 by omega, c2, e2]; exact g2⟩, lE_step ⟨by omega, by rw [show s + 1 + 1 + 1 = s + 3 by omega, c3, e3]; exact g3⟩, lE_step ⟨by omega, by rw [show s + 1 + 1 + 1 + 1 = s + 4 by omega, c4, e4]; exact g4⟩]
    refine lE_stop (fun z => k2 ?_)
    rw [at0_in (by omega)]
    exact z.2
  refine ⟨⟨fun h => ?_, fun h => ?_⟩, back⟩
  · unfold pw at h
    by_cases c : lE n b s ≤ s + 6
    · rw [if_pos c] at h
      have hl : lE n b s = s + 5 := by
        have hcs : lE n b s - s = 0 ∨ lE n b s - s = 1 ∨ lE n b s - s = 2 ∨ lE n b s - s = 3 ∨ lE n b s - s = 4 ∨ lE n b s - s = 5 ∨ lE n b s - s = 6 := by omega
        have y0 : 0 < lE n b s - s → isL (b (s)) := fun z => h3 _ (by omega) (by omega)
        have y1 : 1 < lE n b s - s → isL (b (s + 1)) := fun z => h3 _ (by omega) (by omega)
        have y2 : 2 < lE n b s - s → isL (b (s + 2)) := fun z => h3 _ (by omega) (by omega)
        have y3 : 3 < lE n b s - s → isL (b (s + 3)) := fun z => h3 _ (by omega) (by omega)
        have y4 : 4 < lE n b s - s → isL (b (s + 4)) := fun z => h3 _ (by omega) (by omega)
        have y5 : 5 < lE n b s - s → isL (b (s + 5)) := fun z => h3 _ (by omega) (by omega)
        rcases hcs with z | z | z | z | z | z | z <;> rw [z] at h y0 y1 y2 y3 y4 y5 <;> simp only [pk, Nat.add_zero] at h
        · omega
        · have := y0 (by omega); omega
        · have := y0 (by omega); have := y1 (by omega); omega
        · have := y0 (by omega); have := y1 (by omega); have := y2 (by omega); omega
        · have := y0 (by omega); have := y1 (by omega); have := y2 (by omega); have := y3 (by omega); omega
        · omega
        · have := y0 (by omega); have := y1 (by omega); have := y2 (by omega); have := y3 (by omega); have := y4 (by omega); have := y5 (by omega); omega
      have y0 := h3 (s) (by omega) (by omega)
      have y1 := h3 (s + 1) (by omega) (by omega)
      have y2 := h3 (s + 2) (by omega) (by omega)
      have y3 := h3 (s + 3) (by omega) (by omega)
      have y4 := h3 (s + 4) (by omega) (by omega)
      rw [show lE n b s - s = 5 by omega] at h
      simp only [pk, Nat.add_zero] at h
      rw [hl] at h4
      refine ⟨by omega, h4, fun j hj => ?_⟩
      rcases (show j = 0 ∨ j = 1 ∨ j = 2 ∨ j = 3 ∨ j = 4 by omega) with rfl | rfl | rfl | rfl | rfl
      · rw [Nat.add_zero, e0]; omega
      · rw [e1]; omega
      · rw [e2]; omega
      · rw [e3]; omega
      · rw [e4]; omega
    · rw [if_neg c] at h; omega
  · have hl := back h
    obtain ⟨k1, k2, k3⟩ := h
    have c0 := k3 0 (by omega)
    have c1 := k3 1 (by omega)
    have c2 := k3 2 (by omega)
    have c3 := k3 3 (by omega)
    have c4 := k3 4 (by omega)
    unfold pw
    rw [if_pos (by omega), show lE n b s - s = 5 by omega]
    simp only [pk, Nat.add_zero] at c0 ⊢
    rw [c0, c1, c2, c3, c4, e0, e1, e2, e3, e4]
    omega
theorem pw_6 {s : Nat} {w0 w1 w2 w3 w4 w5 : Int} {w : Nat → Int} (hs : s ≤ 600) (e0 : w 0 = w0) (e1 : w 1 = w1) (e2 : w 2 = w2) (e3 : w 3 = w3) (e4 : w 4 = w4) (e5 : w 5 = w5) (g0 : isL w0) (g1 : isL w1) (g2 : isL w2) (g3 : isL w3) (g4 : isL w4) (g5 : isL w5) :
    (pw n b s = ((((((w0 - 96) * 32 + (w1 - 96)) * 32 + (w2 - 96)) * 32 + (w3 - 96)) * 32 + (w4 - 96)) * 32 + (w5 - 96)) ↔ isW n b 6 w s) ∧ (isW n b 6 w s → lE n b s = s + 6) := by
  obtain ⟨h1, h2, h3, h4⟩ := lE_facts (n := n) (b := b) (s := s) _ s rfl
  have back : isW n b 6 w s → lE n b s = s + 6 := fun h => by
    obtain ⟨k1, k2, k3⟩ := h
    have c0 := k3 0 (by omega)
    have c1 := k3 1 (by omega)
    have c2 := k3 2 (by omega)
    have c3 := k3 3 (by omega)
    have c4 := k3 4 (by omega)
    have c5 := k3 5 (by omega)
    rw [Nat.add_zero] at c0
    rw [lE_step ⟨by omega, by rw [c0, e0]; exact g0⟩, lE_step ⟨by omega, by rw [c1, e1]; exact g1⟩, lE_step ⟨by omega, by rw [show s + 1 + 1 = s + 2 by omega, c2, e2]; exact g2⟩, lE_step ⟨by omega, by rw [show s + 1 + 1 + 1 = s + 3 by omega, c3, e3]; exact g3⟩, lE_step ⟨by omega, by rw [show s + 1 + 1 + 1 + 1 = s + 4 by omega, c4, e4]; exact g4⟩, lE_step ⟨by omega, by rw [show s + 1 + 1 + 1 + 1 + 1 = s + 5 by omega, c5, e5]; exact g5⟩]
    refine lE_stop (fun z => k2 ?_)
    rw [at0_in (by omega)]
    exact z.2
  refine ⟨⟨fun h => ?_, fun h => ?_⟩, back⟩
  · unfold pw at h
    by_cases c : lE n b s ≤ s + 6
    · rw [if_pos c] at h
      have hl : lE n b s = s + 6 := by
        have hcs : lE n b s - s = 0 ∨ lE n b s - s = 1 ∨ lE n b s - s = 2 ∨ lE n b s - s = 3 ∨ lE n b s - s = 4 ∨ lE n b s - s = 5 ∨ lE n b s - s = 6 := by omega
        have y0 : 0 < lE n b s - s → isL (b (s)) := fun z => h3 _ (by omega) (by omega)
        have y1 : 1 < lE n b s - s → isL (b (s + 1)) := fun z => h3 _ (by omega) (by omega)
        have y2 : 2 < lE n b s - s → isL (b (s + 2)) := fun z => h3 _ (by omega) (by omega)
        have y3 : 3 < lE n b s - s → isL (b (s + 3)) := fun z => h3 _ (by omega) (by omega)
        have y4 : 4 < lE n b s - s → isL (b (s + 4)) := fun z => h3 _ (by omega) (by omega)
        have y5 : 5 < lE n b s - s → isL (b (s + 5)) := fun z => h3 _ (by omega) (by omega)
        rcases hcs with z | z | z | z | z | z | z <;> rw [z] at h y0 y1 y2 y3 y4 y5 <;> simp only [pk, Nat.add_zero] at h
        · omega
        · have := y0 (by omega); omega
        · have := y0 (by omega); have := y1 (by omega); omega
        · have := y0 (by omega); have := y1 (by omega); have := y2 (by omega); omega
        · have := y0 (by omega); have := y1 (by omega); have := y2 (by omega); have := y3 (by omega); omega
        · have := y0 (by omega); have := y1 (by omega); have := y2 (by omega); have := y3 (by omega); have := y4 (by omega); omega
        · omega
      have y0 := h3 (s) (by omega) (by omega)
      have y1 := h3 (s + 1) (by omega) (by omega)
      have y2 := h3 (s + 2) (by omega) (by omega)
      have y3 := h3 (s + 3) (by omega) (by omega)
      have y4 := h3 (s + 4) (by omega) (by omega)
      have y5 := h3 (s + 5) (by omega) (by omega)
      rw [show lE n b s - s = 6 by omega] at h
      simp only [pk, Nat.add_zero] at h
      rw [hl] at h4
      refine ⟨by omega, h4, fun j hj => ?_⟩
      rcases (show j = 0 ∨ j = 1 ∨ j = 2 ∨ j = 3 ∨ j = 4 ∨ j = 5 by omega) with rfl | rfl | rfl | rfl | rfl | rfl
      · rw [Nat.add_zero, e0]; omega
      · rw [e1]; omega
      · rw [e2]; omega
      · rw [e3]; omega
      · rw [e4]; omega
      · rw [e5]; omega
    · rw [if_neg c] at h; omega
  · have hl := back h
    obtain ⟨k1, k2, k3⟩ := h
    have c0 := k3 0 (by omega)
    have c1 := k3 1 (by omega)
    have c2 := k3 2 (by omega)
    have c3 := k3 3 (by omega)
    have c4 := k3 4 (by omega)
    have c5 := k3 5 (by omega)
    unfold pw
    rw [if_pos (by omega), show lE n b s - s = 6 by omega]
    simp only [pk, Nat.add_zero] at c0 ⊢
    rw [c0, c1, c2, c3, c4, c5, e0, e1, e2, e3, e4, e5]
    omega
end TXp
