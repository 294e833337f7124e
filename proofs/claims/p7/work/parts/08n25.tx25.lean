/-! a book's text, by both -/
abbrev bkT := sT × Nat × (Nat → Int)
def bkM (n : Nat) (b : Nat → Int) (F : Int) (B : Nat → Int) (st : sT) : sT := if B (nV n b st).toNat ≠ -1 then fS 2 (sk n b st.2.2) (nS n b 0 (F - 1) st) else nS n b 0 (F - 1) st
def bkS (n : Nat) (b : Nat → Int) (F : Int) (x : bkT) : bkT := (gS n b 59 (nS n b 0 6 (bkM n b F x.2.2 x.1)), x.2.1 + 1, iu x.2.2 (nV n b x.1).toNat (nV n b (bkM n b F x.2.2 x.1)))
def bkR (n : Nat) (b : Nat → Int) (F : Int) : Nat → bkT → bkT
  | 0, x => x
  | k + 1, x => if x.1.1 ≠ 0 ∨ ¬ sk n b x.1.2.2 < n then x else bkR n b F k (bkS n b F x)
def bkAll (n : Nat) (b : Nat → Int) (F : Int) : bkT := bkR n b F 9 ((0, 0, 0), 0, fun _ => -1)
def cnB (B : Nat → Int) : Nat → Nat
  | 0 => 0
  | k + 1 => cnB B k + (if B k ≠ -1 then 1 else 0)
theorem cnB_le {B : Nat → Int} : ∀ k : Nat, cnB B k ≤ k := by
  intro k
  induction k with
  | zero => exact Nat.le_refl _
  | succ k ih =>
    unfold cnB
    by_cases z : B k ≠ -1
    · rw [if_pos z]; omega
    · rw [if_neg z]; omega
theorem cnB_ge {B : Nat → Int} {v : Nat} {w : Int} : ∀ k : Nat, k ≤ v → cnB (iu B v w) k = cnB B k := by
  intro k
  induction k with
  | zero => intro _; rfl
  | succ k ih =>
    intro h
    unfold cnB
    rw [ih (by omega), iu_n (by omega)]
theorem cnB_up {B : Nat → Int} {v : Nat} {w : Int} (h1 : B v = -1) (h2 : w ≠ -1) : ∀ k : Nat, v < k → cnB (iu B v w) k = cnB B k + 1 := by
  intro k
  induction k with
  | zero => intro h; omega
  | succ k ih =>
    intro h
    unfold cnB
    by_cases z : k = v
    · subst z
      rw [cnB_ge k (Nat.le_refl _), iu_s, if_pos h2, if_neg (fun d => d h1)]
    · rw [ih (by omega), iu_n z]; omega
section TB
variable {n : Nat} {b : Nat → Int} {len : Int32} {f : Nat → Int32}
theorem bkM_bad {F : Int} {B : Nat → Int} {st : sT} (h : (nS n b 0 (F - 1) st).1 ≠ 0) : bkM n b F B st = nS n b 0 (F - 1) st := by
  unfold bkM
  by_cases z : B (nV n b st).toNat ≠ -1
  · rw [if_pos z, fS_bad h]
  · rw [if_neg z]
theorem bkM_fine {F : Int} {B : Nat → Int} {st : sT} (h : (bkM n b F B st).1 = 0) : (nS n b 0 (F - 1) st).1 = 0 ∧ B (nV n b st).toNat = -1 := by
  have h1 : (nS n b 0 (F - 1) st).1 = 0 := by
    by_cases w : (nS n b 0 (F - 1) st).1 = 0
    · exact w
    · rw [bkM_bad w] at h; exact h
  refine ⟨h1, ?_⟩
  by_cases z : B (nV n b st).toNat = -1
  · exact z
  · unfold bkM at h
    rw [if_pos z, fS_0 h1] at h
    exact absurd h (by first | decide | simp)
theorem bkS_fine {F : Int} {x : bkT} (h : (bkS n b F x).1.1 = 0) : (nS n b 0 6 (bkM n b F x.2.2 x.1)).1 = 0 ∧ (bkM n b F x.2.2 x.1).1 = 0 ∧ (nS n b 0 (F - 1) x.1).1 = 0 ∧ x.2.2 (nV n b x.1).toNat = -1 := by
  have h1 : (nS n b 0 6 (bkM n b F x.2.2 x.1)).1 = 0 := gS_fine (c := 59) h
  have h2 : (bkM n b F x.2.2 x.1).1 = 0 := (nS_fine h1).1
  exact ⟨h1, h2, bkM_fine h2⟩
/-- lines as many as forms told -/
def bkO (x : bkT) : Prop := x.1.1 = 0 → cnB x.2.2 8 = x.2.1 ∧ ∀ j : Nat, j < 8 → -1 ≤ x.2.2 j ∧ x.2.2 j ≤ 6
theorem bkO_s {F : Int} {x : bkT} (hF : F ≤ 8) (h : bkO x) : bkO (bkS n b F x) := fun z => by
  obtain ⟨h1, h2, h3, h4⟩ := bkS_fine z
  obtain ⟨h0, a1, a2⟩ := nS_fine h3
  obtain ⟨-, a3, a4⟩ := nS_fine h1
  obtain ⟨o1, o2⟩ := h h0
  refine ⟨?_, fun j hj => ?_⟩
  · show cnB (iu x.2.2 (nV n b x.1).toNat (nV n b (bkM n b F x.2.2 x.1))) 8 = x.2.1 + 1
    rw [cnB_up h4 (by omega) 8 (by omega), o1]
  · show -1 ≤ iu x.2.2 (nV n b x.1).toNat (nV n b (bkM n b F x.2.2 x.1)) j ∧ iu x.2.2 (nV n b x.1).toNat (nV n b (bkM n b F x.2.2 x.1)) j ≤ 6
    by_cases e : j = (nV n b x.1).toNat
    · rw [e, iu_s]; omega
    · rw [iu_n e]; exact o2 j hj
theorem bkR_end {F : Int} {k : Nat} {x : bkT} (h : x.1.1 ≠ 0 ∨ ¬ sk n b x.1.2.2 < n) : bkR n b F k x = x := by
  cases k with
  | zero => rfl
  | succ k => unfold bkR; rw [if_pos h]
theorem bkR_go {F : Int} {k : Nat} {x : bkT} (h0 : x.1.1 = 0) (h : sk n b x.1.2.2 < n) : bkR n b F (k + 1) x = bkR n b F k (bkS n b F x) := by
  show (if _ then _ else _) = _
  rw [if_neg (fun d => d.elim (fun z => z h0) (fun z => z h))]
theorem bkR_ok {F : Int} (hF : F ≤ 8) : ∀ (k : Nat) (x : bkT), bkO x → bkO (bkR n b F k x) := by
  intro k
  induction k with
  | zero => intro x h; exact h
  | succ k ih =>
    intro x h
    unfold bkR
    by_cases c : x.1.1 ≠ 0 ∨ ¬ sk n b x.1.2.2 < n
    · rw [if_pos c]; exact h
    · rw [if_neg c]; exact ih _ (bkO_s hF h)
def cBk (x : bkT) (many : Int32) (seen : Nat → Int32) : Prop := x.1.1 = 0 → many.toInt = x.2.1 ∧ pm 8 seen x.2.2
theorem cs_line33 {Q : Int32 → Int32 → Int32 → Int32 → (Nat → Int32) → Int32 → Prop} {a fa fp tk many l3 : Int32} {seen : Nat → Int32} {x : bkT} {F : Int} (hl : len.toInt = n) (hn : n ≤ 600) (hb : tB n f b) (hF : F ≤ 8) (h9 : x.1.1 = 0 → x.2.1 ≤ 8) (hc : cS n b (bkM n b F x.2.2 x.1) a fa fp) (hB : cBk x many seen) (hv : (bkM n b F x.2.2 x.1).1 = 0 → l3.toInt = nV n b x.1)
    (hq : ∀ (a fa fp tk : Int32) (seen : Nat → Int32) (many : Int32), cS n b (bkS n b F x).1 a fa fp → cBk (bkS n b F x) many seen → Q a fa fp tk seen many) : wb_X0_readLine_33 len f Q a fa fp tk seen many l3 := by
  refine cs_number hl hn hb hc (by decide) (by decide) (fun r x12 x13 x14 x15 c1 v1 => cs_needs hl hn hb c1 (by decide) (fun x17 x18 x19 x20 c2 => ?_))
  rw [t_0, t_6] at v1
  rw [t_0, t_6, t_59] at c2
  have c2 : cS n b (bkS n b F x).1 x17 x19 x20 := c2
  refine ⟨fun z => ⟨fun d => absurd rfl d, fun _ => ?_⟩, fun z => ⟨fun _ => hq _ _ _ _ _ _ c2 (fun w => absurd (cS_fa c2 w) z), fun d => absurd d (by first | decide | simp)⟩⟩
  have hz : (bkS n b F x).1.1 = 0 := by rw [← c2.2.1, z, t_0]
  obtain ⟨h1, h2, h3, h4⟩ := bkS_fine hz
  obtain ⟨h0, a1, a2⟩ := nS_fine h3
  obtain ⟨b1, b2⟩ := hB h0
  have el := hv h2
  have k9 := h9 h0
  refine ⟨t_in (by omega) (by omega), fun f23 e23 x24 e24 => hq _ _ _ _ _ _ c2 (fun _ => ⟨?_, ?_⟩)⟩
  · show x24.toInt = ((x.2.1 + 1 : Nat) : Int)
    rw [e24, t_inc (by omega), b1]; omega
  · have ec : l3.toNatClampNeg = (nV n b x.1).toNat := t_clamp (by rw [el]; omega)
    rw [e23, ec]
    exact pm_upd b2 (v1 h1).1
theorem cs_line {Q : Int32 → Int32 → Int32 → Int32 → (Nat → Int32) → Int32 → Prop} {a fa fp tk many p2 : Int32} {seen : Nat → Int32} {x : bkT} {F : Int} (hl : len.toInt = n) (hn : n ≤ 600) (hb : tB n f b) (hp : p2.toInt = F) (hF0 : 0 ≤ F) (hF : F ≤ 8) (h0 : x.1.1 = 0) (h9 : x.1.1 = 0 → x.2.1 ≤ 8) (hc : cS n b x.1 a fa fp) (hB : cBk x many seen)
    (hq : ∀ (a fa fp tk : Int32) (seen : Nat → Int32) (many : Int32), cS n b (bkS n b F x).1 a fa fp → cBk (bkS n b F x) many seen → Q a fa fp tk seen many) : wq_X0_readLine len f a fa fp tk seen many p2 Q := by
  have en : (p2 - 1).toInt = F - 1 := by rw [t_pred (by omega), hp]
  obtain ⟨b1, b2⟩ := hB h0
  refine cs_number hl hn hb hc (by decide) (by rw [en]; omega) (fun r5 x1 x2 x3 x4 c1 v1 => ?_)
  rw [t_0, en] at c1 v1
  by_cases hs : (nS n b 0 (F - 1) x.1).1 = 0
  · obtain ⟨-, a1, a2⟩ := nS_fine hs
    obtain ⟨e5, e4⟩ := v1 hs
    have ec : r5.toNatClampNeg = (nV n b x.1).toNat := t_clamp (by rw [e5]; omega)
    refine z_within (fun g1 g2 => ⟨fun d => absurd d (by first | decide | simp), fun _ => ?_⟩) (fun w => absurd ⟨by rw [t_0]; omega, by rw [en]; omega⟩ w)
    refine ⟨t_in (by omega) (by omega), fun x9 e9 => ⟨fun z => ⟨fun _ => ?_, fun d => absurd rfl d⟩, fun z => ⟨fun d => absurd d (by first | decide | simp), fun _ => ?_⟩⟩⟩
    · rw [ec] at e9
      have hz : x.2.2 (nV n b x.1).toNat = -1 := by rw [← b2 _ (by omega), ← e9, z, t_m1]
      refine cs_line33 hl hn hb hF h9 ?_ hB (fun _ => e5) hq
      unfold bkM
      rw [if_neg (fun d => d hz)]; exact c1
    · rw [ec] at e9
      have hz : x.2.2 (nV n b x.1).toNat ≠ -1 := fun e => z (by rw [t_eq, t_m1, e9, b2 _ (by omega)]; exact e)
      refine cs_blameT (s := sk n b x.1.2.2) c1 (by decide) (fun _ => e4) (fun f2 p c => cs_line33 hl hn hb hF h9 ?_ hB (fun _ => e5) hq)
      unfold bkM
      rw [if_pos hz, ← t_2]; exact c
  · have eM : bkM n b F x.2.2 x.1 = nS n b 0 (F - 1) x.1 := bkM_bad hs
    have go : ∀ (fa fp : Int32), cS n b (nS n b 0 (F - 1) x.1) x1 fa fp → wb_X0_readLine_33 len f Q x1 fa fp x4 seen many r5 := fun fa fp c => cs_line33 hl hn hb hF h9 (by rw [eM]; exact c) hB (fun w => absurd (by rw [eM] at w; exact w) hs) hq
    refine z_within (fun g1 g2 => ⟨fun d => absurd d (by first | decide | simp), fun _ => ?_⟩) (fun w => ⟨fun _ => go _ _ c1, fun d => absurd rfl d⟩)
    rw [t_0] at g1
    rw [en] at g2
    refine ⟨t_in g1 (by omega), fun x9 e9 => ⟨fun z => ⟨fun _ => go _ _ c1, fun d => absurd rfl d⟩, fun z => ⟨fun d => absurd d (by first | decide | simp), fun _ => ?_⟩⟩⟩
    refine cs_blameT (s := 0) c1 (by decide) (fun w => absurd w hs) (fun f2 p c => go f2 p ?_)
    rw [fS_bad hs] at c; exact c
theorem cs_lines {Q : Int32 → (Nat → Int32) → Int32 → Int32 → Int32 → Int32 → Prop} {F : Int} {p2 : Int32} {R : bkT} (hl : len.toInt = n) (hn : n ≤ 600) (hb : tB n f b) (hp : p2.toInt = F) (hF0 : 0 ≤ F) (hF : F ≤ 8) (hq : ∀ (many : Int32) (seen : Nat → Int32) (a fa fp tk : Int32), cS n b R.1 a fa fp → cBk R many seen → Q many seen a fa fp tk) :
    ∀ (k : Nat) (many : Int32) (seen : Nat → Int32) (a fa fp tk l3 : Int32) (i : Nat) (x : bkT), cS n b x.1 a fa fp → cBk x many seen → bkO x → l3.toInt = i → i ≤ 9 → 9 - i < k → bkR n b F (9 - i) x = R → wl_X0_readFrom_6 len f Q k many seen a fa fp tk p2 l3 := by
  intro k
  induction k with
  | zero => intro many seen a fa fp tk l3 i x hc hB hO h1 h2 h3; omega
  | succ k ih =>
    intro many seen a fa fp tk l3 i x hc hB hO h1 h2 h3 hR
    refine ⟨fun c => ?_, fun c => ⟨fun z => ⟨fun d => absurd rfl d, fun _ => ?_⟩, fun z => ⟨fun _ => ?_, fun d => absurd d (by first | decide | simp)⟩⟩⟩
    · rw [t_lt, t_8] at c
      rw [show 9 - i = 0 by omega] at hR
      have hR : x = R := hR
      rw [hR] at hc hB
      exact hq _ _ _ _ _ _ hc hB
    · rw [t_lt, t_8] at c
      have h0 : x.1.1 = 0 := by rw [← hc.2.1, z, t_0]
      refine cs_isEnded hl hn hb hc h0 (fun w y cy => ⟨fun d => absurd rfl d, fun _ => ?_⟩) (fun w y cy => ⟨fun _ => ?_, fun d => absurd d (by first | decide | simp)⟩)
      · rw [show 9 - i = (9 - (i + 1)) + 1 by omega, bkR_go h0 w] at hR
        exact cs_line hl hn hb hp hF0 hF h0 (fun h => by have := (hO h).1; have := cnB_le (B := x.2.2) 8; omega) cy hB (fun a fa fp tk seen many c9 b9 x15 e15 => ih _ _ _ _ _ _ x15 (i + 1) _ c9 b9 (bkO_s hF hO) (by rw [e15, t_inc (by omega), h1]; omega) (by omega) (by omega) hR)
      · rw [bkR_end (Or.inr w)] at hR
        rw [hR] at cy hB
        exact hq _ _ _ _ _ _ cy hB
    · have h0 : x.1.1 ≠ 0 := fun w => z (cS_fa hc w)
      rw [bkR_end (Or.inl h0)] at hR
      rw [hR] at hc hB
      exact hq _ _ _ _ _ _ hc hB
theorem c_clear {Q : Int32 → (Nat → Int32) → Prop} {v : Int32} {seen : Nat → Int32} (hq : ∀ s : Nat → Int32, (∀ j : Nat, j < 8 → s j = -1) → Q 0 s) : wq_X0_clear v seen Q := by
  have go : ∀ (k : Nat) (s : Nat → Int32) (l1 : Int32) (i : Nat), l1.toInt = i → i ≤ 8 → (∀ j : Nat, j < i → s j = -1) → 8 - i < k → wl_X0_clear_7 Q k 0 s l1 := by
    intro k
    induction k with
    | zero => intro s l1 i h1 h2 h3 h4; omega
    | succ k ih =>
      intro s l1 i h1 h2 h3 h4
      refine ⟨fun c => hq s (fun j hj => h3 j (by rw [t_le, t_8] at c; omega)), fun c => ?_⟩
      rw [t_le, t_8] at c
      refine ⟨t_in (by omega) (by omega), fun f2 e2 x3 e3 => ih f2 x3 (i + 1) (by rw [e3, t_inc (by omega), h1]; omega) (by omega) (fun j hj => ?_) (by omega)⟩
      rw [e2, t_clamp h1]
      by_cases z : j = i
      · rw [z, pk_us]
      · rw [pk_un z]; exact h3 j (by omega)
  exact ⟨9, go 9 seen 0 0 t_0 (by omega) (fun j hj => by omega) (by omega)⟩
end TB
