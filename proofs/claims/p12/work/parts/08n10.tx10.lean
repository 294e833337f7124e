/-! what a down's text without a fault tells is within its bounds -/
def dOk (d : dT) : Prop := (d.2.1 ≤ 8 ∧ d.2.2.1 ≤ 6 ∧ d.2.2.2.1 ≤ 4) ∧ (∀ j : Nat, j < 2 * d.2.1 → 0 ≤ d.2.2.2.2.1 j ∧ d.2.2.2.2.1 j ≤ 30) ∧ (∀ j : Nat, j < d.2.2.1 → 0 ≤ d.2.2.2.2.2.1 (2 * j) ∧ d.2.2.2.2.2.1 (2 * j) < d.2.1 ∧ 1 ≤ d.2.2.2.2.2.1 (2 * j + 1) ∧ d.2.2.2.2.2.1 (2 * j + 1) ≤ 9) ∧ (∀ j : Nat, j < 2 * d.2.2.2.1 → 0 ≤ d.2.2.2.2.2.2.1 j ∧ d.2.2.2.2.2.2.1 j ≤ 30) ∧ (∀ x y : Nat, x < 6 → y < 6 → 0 ≤ d.2.2.2.2.2.2.2 (6 * x + y) ∧ d.2.2.2.2.2.2.2 (6 * x + y) ≤ 99 ∧ (d.2.2.2.2.2.2.2 (6 * x + y) ≠ 0 → x < d.2.2.1 ∧ y < d.2.2.1 ∧ x ≠ y))
section TO
variable {n : Nat} {b : Nat → Int} {st : sT}
theorem dOk_step {i NF NH NX : Nat} {F H G D : Nat → Int} (h0 : st.1 = 0) (h : dOk (st, NF, NH, NX, F, H, G, D)) (hz : (dStep n b i st NF NH NX F H G D).1.1 = 0) : dOk (dStep n b i st NF NH NX F H G D) := by
  have h : (NF ≤ 8 ∧ NH ≤ 6 ∧ NX ≤ 4) ∧ (∀ j : Nat, j < 2 * NF → 0 ≤ F j ∧ F j ≤ 30) ∧ (∀ j : Nat, j < NH → 0 ≤ H (2 * j) ∧ H (2 * j) < NF ∧ 1 ≤ H (2 * j + 1) ∧ H (2 * j + 1) ≤ 9) ∧ (∀ j : Nat, j < 2 * NX → 0 ≤ G j ∧ G j ≤ 30) ∧ (∀ x y : Nat, x < 6 → y < 6 → 0 ≤ D (6 * x + y) ∧ D (6 * x + y) ≤ 99 ∧ (D (6 * x + y) ≠ 0 → x < NH ∧ y < NH ∧ x ≠ y)) := h
  obtain ⟨⟨k1, k2, k3⟩, h1, h2, h3, h4⟩ := h
  by_cases w1 : pw n b (sk n b st.2.2) = 212557
  · rw [ds_form w1] at hz ⊢
    by_cases g : i = 60 ∨ NF = 8
    · rw [if_pos g] at hz
      rw [fS_0 h0] at hz
      exact absurd hz (by first | decide | simp)
    · rw [if_neg g] at hz ⊢
      have hz : (twS n b 0 30 0 30 (wE n b st)).1 = 0 := hz
      obtain ⟨z1, z2⟩ := twS_fine hz
      obtain ⟨-, a1, a2⟩ := nS_fine z1
      obtain ⟨-, a3, a4⟩ := nS_fine z2
      refine ⟨⟨by show NF + 1 ≤ 8; omega, k2, k3⟩, fun j hj => ?_, fun j hj => ?_, h3, h4⟩
      · have hj : j < 2 * (NF + 1) := hj
        show 0 ≤ iu (iu F (2 * NF) _) (2 * NF + 1) _ j ∧ iu (iu F (2 * NF) _) (2 * NF + 1) _ j ≤ 30
        by_cases e : j = 2 * NF + 1
        · rw [e, iu_s]; exact ⟨a3, a4⟩
        · rw [iu_n e]
          by_cases e2 : j = 2 * NF
          · rw [e2, iu_s]; exact ⟨a1, a2⟩
          · rw [iu_n e2]; exact h1 j (by omega)
      · obtain ⟨b1, b2, b3, b4⟩ := h2 j hj
        exact ⟨b1, by show H (2 * j) < ((NF + 1 : Nat) : Int); omega, b3, b4⟩
  by_cases w2 : pw n b (sk n b st.2.2) = 263749
  · rw [ds_hare w2] at hz ⊢
    by_cases g : i = 60 ∨ NH = 6
    · rw [if_pos g] at hz
      rw [fS_0 h0] at hz
      exact absurd hz (by first | decide | simp)
    · rw [if_neg g] at hz ⊢
      have hz : (twS n b 0 ((NF : Int) - 1) 1 9 (wE n b st)).1 = 0 := hz
      obtain ⟨z1, z2⟩ := twS_fine hz
      obtain ⟨-, a1, a2⟩ := nS_fine z1
      obtain ⟨-, a3, a4⟩ := nS_fine z2
      refine ⟨⟨k1, by show NH + 1 ≤ 6; omega, k3⟩, h1, fun j hj => ?_, h3, fun x y hx hy => ?_⟩
      · have hj : j < NH + 1 := hj
        show 0 ≤ iu (iu H (2 * NH) _) (2 * NH + 1) _ (2 * j) ∧ iu (iu H (2 * NH) _) (2 * NH + 1) _ (2 * j) < NF ∧ 1 ≤ iu (iu H (2 * NH) _) (2 * NH + 1) _ (2 * j + 1) ∧ iu (iu H (2 * NH) _) (2 * NH + 1) _ (2 * j + 1) ≤ 9
        by_cases e : j = NH
        · rw [e, iu_s, iu_n (by omega), iu_s]; exact ⟨a1, by omega, a3, a4⟩
        · rw [iu_n (by omega), iu_n (by omega), iu_n (by omega), iu_n (by omega)]; exact h2 j (by omega)
      · obtain ⟨b1, b2, b3⟩ := h4 x y hx hy
        refine ⟨b1, b2, fun e => ?_⟩
        obtain ⟨c1, c2, c3⟩ := b3 e
        exact ⟨by show x < NH + 1; omega, by show y < NH + 1; omega, c3⟩
  by_cases w3 : pw n b (sk n b st.2.2) = 6648
  · rw [ds_fox w3] at hz ⊢
    by_cases g : i = 60 ∨ NX = 4
    · rw [if_pos g] at hz
      rw [fS_0 h0] at hz
      exact absurd hz (by first | decide | simp)
    · rw [if_neg g] at hz ⊢
      have hz : (twS n b 0 30 0 30 (wE n b st)).1 = 0 := hz
      obtain ⟨z1, z2⟩ := twS_fine hz
      obtain ⟨-, a1, a2⟩ := nS_fine z1
      obtain ⟨-, a3, a4⟩ := nS_fine z2
      refine ⟨⟨k1, k2, by show NX + 1 ≤ 4; omega⟩, h1, h2, fun j hj => ?_, h4⟩
      have hj : j < 2 * (NX + 1) := hj
      show 0 ≤ iu (iu G (2 * NX) _) (2 * NX + 1) _ j ∧ iu (iu G (2 * NX) _) (2 * NX + 1) _ j ≤ 30
      by_cases e : j = 2 * NX + 1
      · rw [e, iu_s]; exact ⟨a3, a4⟩
      · rw [iu_n e]
        by_cases e2 : j = 2 * NX
        · rw [e2, iu_s]; exact ⟨a1, a2⟩
        · rw [iu_n e2]; exact h3 j (by omega)
  by_cases w4 : pw n b (sk n b st.2.2) = 136276
  · rw [ds_debt w4] at hz ⊢
    by_cases g : i = 60
    · rw [if_pos g] at hz
      rw [fS_0 h0] at hz
      exact absurd hz (by first | decide | simp)
    · rw [if_neg g] at hz ⊢
      have hz : (dbS n b NH (wE n b st)).1 = 0 := hz
      obtain ⟨z1, z2, z3, z4⟩ := dbS_fine hz
      obtain ⟨-, a1, a2⟩ := nS_fine (lo := 0) (hi := (NH : Int) - 1) (st := wE n b st) z4
      obtain ⟨-, a3, a4⟩ := nS_fine (lo := 0) (hi := (NH : Int) - 1) (st := nS n b 0 ((NH : Int) - 1) (wE n b st)) z3
      obtain ⟨-, a5, a6⟩ := nS_fine (lo := 0) (hi := 99) (st := dbB n b NH (wE n b st)) z1
      have ne : ¬ nV n b (wE n b st) = nV n b (nS n b 0 ((NH : Int) - 1) (wE n b st)) := fun e => by
        rw [dbB_eq e, fS_0 z3] at z2
        exact absurd z2 (by first | decide | simp)
      refine ⟨⟨k1, k2, k3⟩, h1, h2, h3, fun x y hx hy => ?_⟩
      show 0 ≤ iu D _ _ (6 * x + y) ∧ iu D _ _ (6 * x + y) ≤ 99 ∧ (iu D _ _ (6 * x + y) ≠ 0 → x < NH ∧ y < NH ∧ x ≠ y)
      by_cases e : 6 * x + y = (6 * nV n b (wE n b st) + nV n b (nS n b 0 ((NH : Int) - 1) (wE n b st))).toNat
      · rw [e, iu_s]
        exact ⟨a5, a6, fun _ => ⟨by omega, by omega, by omega⟩⟩
      · rw [iu_n e]; exact h4 x y hx hy
  · rw [ds_none w1 w2 w3 w4] at hz
    rw [fS_0 h0] at hz
    exact absurd hz (by first | decide | simp)
theorem dOk_run : ∀ (k i : Nat) (d : dT), (d.1.1 = 0 → dOk d) → (dRun n b k i d).1.1 = 0 → dOk (dRun n b k i d) := by
  intro k
  induction k with
  | zero => intro i d h hz; exact h hz
  | succ k ih =>
    intro i d h hz
    by_cases e : d.1.1 ≠ 0 ∨ ¬ sk n b d.1.2.2 < n
    · rw [dRun_end e] at hz ⊢
      exact h hz
    · have h0 : d.1.1 = 0 := by
        by_cases w : d.1.1 = 0
        · exact w
        · exact absurd (Or.inl w) e
      have h1 : sk n b d.1.2.2 < n := by
        by_cases w : sk n b d.1.2.2 < n
        · exact w
        · exact absurd (Or.inr w) e
      obtain ⟨st, NF, NH, NX, F, H, G, D⟩ := d
      rw [dRun_go h0 h1] at hz ⊢
      exact ih (i + 1) _ (dOk_step h0 (h h0)) hz
theorem dOk_all (hz : (dAll n b).1.1 = 0) : dOk (dAll n b) :=
  dOk_run 61 0 _ (fun _ => ⟨⟨by decide, by decide, by decide⟩, fun j hj => absurd hj (Nat.not_lt_zero j), fun j hj => absurd hj (Nat.not_lt_zero j), fun j hj => absurd hj (Nat.not_lt_zero j), fun x y _ _ => ⟨Int.le_refl _, (show (0 : Int) ≤ 99 by decide), fun e => absurd rfl e⟩⟩) hz
end TO
