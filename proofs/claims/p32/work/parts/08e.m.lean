section
theorem sf_X4_readFrom_s {v1_length : Int32} {f1_bytes : Nat → Int32} {v0_length : Int32} {v1_at : Int32} {v1_token : Int32} {v1_fault : Int32} {v1_faultPlace : Int32} {f0_kinds : Nat → Int32} {f0_values : Nat → Int32} {Q : Int32 → Int32 → Int32 → Int32 → Int32 → (Nat → Int32) → (Nat → Int32) → Prop}  (a0 : v1_length.toInt ≤ 600) (a1 : 0 ≤ v1_at.toInt) (a2 : v1_at.toInt ≤ 600) (hq : ∀ (length : Int32) (at_ : Int32) (token : Int32) (fault : Int32) (faultPlace : Int32) (kinds : (Nat → Int32)) (values : (Nat → Int32)), (0 ≤ at_.toInt) → (at_.toInt ≤ 600) → (sLaw length kinds values) → Q length at_ token fault faultPlace kinds values) : wq_X4_readFrom_s v1_length f1_bytes v0_length v1_at v1_token v1_fault v1_faultPlace f0_kinds f0_values Q := by
  refine sf_X4_readSum_s_r6  (by first | with_reducible assumption | omega | (simp only [t_0, t_1, t_2, t_3, t_4, t_6, t_8, t_m1, false_and, true_and, and_true, and_false, or_false, false_or, true_or, or_true, ne_eq, not_false_eq_true, not_true_eq_false]; done) | (simp only [t_0, t_1, t_2, t_3, t_4, t_6, t_8, t_m1, false_and, true_and, and_true, and_false, or_false, false_or, true_or, or_true, ne_eq, not_false_eq_true, not_true_eq_false]; omega) | exact sLaw_zero (by first | omega | decide)) (by first | with_reducible assumption | omega | (simp only [t_0, t_1, t_2, t_3, t_4, t_6, t_8, t_m1, false_and, true_and, and_true, and_false, or_false, false_or, true_or, or_true, ne_eq, not_false_eq_true, not_true_eq_false]; done) | (simp only [t_0, t_1, t_2, t_3, t_4, t_6, t_8, t_m1, false_and, true_and, and_true, and_false, or_false, false_or, true_or, or_true, ne_eq, not_false_eq_true, not_true_eq_false]; omega) | exact sLaw_zero (by first | omega | decide)) (by first | with_reducible assumption | omega | (simp only [t_0, t_1, t_2, t_3, t_4, t_6, t_8, t_m1, false_and, true_and, and_true, and_false, or_false, false_or, true_or, or_true, ne_eq, not_false_eq_true, not_true_eq_false]; done) | (simp only [t_0, t_1, t_2, t_3, t_4, t_6, t_8, t_m1, false_and, true_and, and_true, and_false, or_false, false_or, true_or, or_true, ne_eq, not_false_eq_true, not_true_eq_false]; omega) | exact sLaw_zero (by first | omega | decide)) (by first | with_reducible assumption | omega | (simp only [t_0, t_1, t_2, t_3, t_4, t_6, t_8, t_m1, false_and, true_and, and_true, and_false, or_false, false_or, true_or, or_true, ne_eq, not_false_eq_true, not_true_eq_false]; done) | (simp only [t_0, t_1, t_2, t_3, t_4, t_6, t_8, t_m1, false_and, true_and, and_true, and_false, or_false, false_or, true_or, or_true, ne_eq, not_false_eq_true, not_true_eq_false]; omega) | exact sLaw_zero (by first | omega | decide)) (by first | with_reducible assumption | omega | (simp only [t_0, t_1, t_2, t_3, t_4, t_6, t_8, t_m1, false_and, true_and, and_true, and_false, or_false, false_or, true_or, or_true, ne_eq, not_false_eq_true, not_true_eq_false]; done) | (simp only [t_0, t_1, t_2, t_3, t_4, t_6, t_8, t_m1, false_and, true_and, and_true, and_false, or_false, false_or, true_or, or_true, ne_eq, not_false_eq_true, not_true_eq_false]; omega) | exact sLaw_zero (by first | omega | decide)) (fun y1 y2 y3 y4 y5 y6 y7 po8 po9 po10 => ?_)
  try simp only [t_0, t_1, t_2, t_3, t_4, t_6, t_8, t_m1] at po8
  try simp only [t_0, t_1, t_2, t_3, t_4, t_6, t_8, t_m1] at po9
  refine sg_X8_needsEnd  (by first | with_reducible assumption | omega | (simp only [t_0, t_1, t_2, t_3, t_4, t_6, t_8, t_m1, false_and, true_and, and_true, and_false, or_false, false_or, true_or, or_true, ne_eq, not_false_eq_true, not_true_eq_false]; done) | (simp only [t_0, t_1, t_2, t_3, t_4, t_6, t_8, t_m1, false_and, true_and, and_true, and_false, or_false, false_or, true_or, or_true, ne_eq, not_false_eq_true, not_true_eq_false]; omega) | exact sLaw_zero (by first | omega | decide)) (by first | with_reducible assumption | omega | (simp only [t_0, t_1, t_2, t_3, t_4, t_6, t_8, t_m1, false_and, true_and, and_true, and_false, or_false, false_or, true_or, or_true, ne_eq, not_false_eq_true, not_true_eq_false]; done) | (simp only [t_0, t_1, t_2, t_3, t_4, t_6, t_8, t_m1, false_and, true_and, and_true, and_false, or_false, false_or, true_or, or_true, ne_eq, not_false_eq_true, not_true_eq_false]; omega) | exact sLaw_zero (by first | omega | decide)) (by first | with_reducible assumption | omega | (simp only [t_0, t_1, t_2, t_3, t_4, t_6, t_8, t_m1, false_and, true_and, and_true, and_false, or_false, false_or, true_or, or_true, ne_eq, not_false_eq_true, not_true_eq_false]; done) | (simp only [t_0, t_1, t_2, t_3, t_4, t_6, t_8, t_m1, false_and, true_and, and_true, and_false, or_false, false_or, true_or, or_true, ne_eq, not_false_eq_true, not_true_eq_false]; omega) | exact sLaw_zero (by first | omega | decide)) (fun y11 y12 y13 po14 po15 => ?_)
  try simp only [t_0, t_1, t_2, t_3, t_4, t_6, t_8, t_m1] at po14
  try simp only [t_0, t_1, t_2, t_3, t_4, t_6, t_8, t_m1] at po15
  exact hq _ _ _ _ _ _ _ (by first | with_reducible assumption | omega | (simp only [t_0, t_1, t_2, t_3, t_4, t_6, t_8, t_m1, false_and, true_and, and_true, and_false, or_false, false_or, true_or, or_true, ne_eq, not_false_eq_true, not_true_eq_false]; done) | (simp only [t_0, t_1, t_2, t_3, t_4, t_6, t_8, t_m1, false_and, true_and, and_true, and_false, or_false, false_or, true_or, or_true, ne_eq, not_false_eq_true, not_true_eq_false]; omega) | exact sLaw_zero (by first | omega | decide)) (by first | with_reducible assumption | omega | (simp only [t_0, t_1, t_2, t_3, t_4, t_6, t_8, t_m1, false_and, true_and, and_true, and_false, or_false, false_or, true_or, or_true, ne_eq, not_false_eq_true, not_true_eq_false]; done) | (simp only [t_0, t_1, t_2, t_3, t_4, t_6, t_8, t_m1, false_and, true_and, and_true, and_false, or_false, false_or, true_or, or_true, ne_eq, not_false_eq_true, not_true_eq_false]; omega) | exact sLaw_zero (by first | omega | decide)) (by first | with_reducible assumption | omega | (simp only [t_0, t_1, t_2, t_3, t_4, t_6, t_8, t_m1, false_and, true_and, and_true, and_false, or_false, false_or, true_or, or_true, ne_eq, not_false_eq_true, not_true_eq_false]; done) | (simp only [t_0, t_1, t_2, t_3, t_4, t_6, t_8, t_m1, false_and, true_and, and_true, and_false, or_false, false_or, true_or, or_true, ne_eq, not_false_eq_true, not_true_eq_false]; omega) | exact sLaw_zero (by first | omega | decide))
/-- steps of the class told so far -/
def wC (b : Int32) (kd f s : Nat → Int32) (ln h n : Int32) : Prop := (0 ≤ ln.toInt ∧ ln.toInt ≤ 50) ∧ (b.toInt = 0 → ∀ j : Nat, (j : Int) < ln.toInt → (0 ≤ (f j).toInt ∧ (f j).toInt ≤ 99 ∧ 0 ≤ (s j).toInt ∧ (s j).toInt ≤ 99) ∧ ((kd j).toInt ≠ 0 ∨ ((f j).toInt < h.toInt ∧ (s j).toInt < n.toInt)) ∧ (((kd j).toInt ≠ 1 ∧ (kd j).toInt ≠ 2) ∨ ((f j).toInt < h.toInt ∧ (s j).toInt < h.toInt)))
/-- where its begun loops stand -/
def hC (hd kd : Nat → Int32) (op ln : Int32) : Prop := (0 ≤ op.toInt ∧ op.toInt ≤ 6) ∧ ∀ j : Nat, (j : Int) < op.toInt → (hd j).toInt = 50 ∨ (0 ≤ (hd j).toInt ∧ (hd j).toInt < ln.toInt ∧ (kd (hd j).toNatClampNeg).toInt = 4)
theorem wC_bad {b c ln h n : Int32} {kd f s : Nat → Int32} (q : wC b kd f s ln h n) (e : c.toInt ≠ 0 ∨ b.toInt = 0) : wC c kd f s ln h n := ⟨q.1, fun z => q.2 (by omega)⟩
theorem wC_zero {b ln h n : Int32} {kd f s : Nat → Int32} (e : ln.toInt = 0) : wC b kd f s ln h n := ⟨by omega, fun _ j hj => by omega⟩
theorem hC_zero {op ln : Int32} {hd kd : Nat → Int32} (e : op.toInt = 0) : hC hd kd op ln := ⟨by omega, fun j hj => by omega⟩
theorem sf_X9_add {f0_kinds f0_first f0_second f0_third : Nat → Int32} {v0_length p1 p2 p3 p4 b h n op : Int32} {hd : Nat → Int32} {Q : (Nat → Int32) → (Nat → Int32) → (Nat → Int32) → (Nat → Int32) → Int32 → Prop} (a0 : wC b f0_kinds f0_first f0_second v0_length h n) (a1 : hC hd f0_kinds op v0_length) (a2 : b.toInt ≠ 0 ∨ ((0 ≤ p2.toInt ∧ p2.toInt ≤ 99 ∧ 0 ≤ p3.toInt ∧ p3.toInt ≤ 99) ∧ (p1.toInt ≠ 0 ∨ (p2.toInt < h.toInt ∧ p3.toInt < n.toInt)) ∧ ((p1.toInt ≠ 1 ∧ p1.toInt ≠ 2) ∨ (p2.toInt < h.toInt ∧ p3.toInt < h.toInt))))
    (hq : ∀ (kd f s t : Nat → Int32) (ln : Int32), wC b kd f s ln h n → hC hd kd op ln → ((ln.toInt = v0_length.toInt + 1 ∧ (kd v0_length.toNatClampNeg).toInt = p1.toInt) ∨ v0_length.toInt = 50) → Q kd f s t ln) : wq_X9_add f0_kinds f0_first f0_second f0_third v0_length p1 p2 p3 p4 Q := by
  have hl := a0.1
  have n0 := t_nat hl.1
  have t50 : (50 : Int32).toInt = 50 := by decide
  refine ⟨fun c => ?_, fun c => ?_⟩
  · rw [t_le, t50] at c
    exact hq _ _ _ _ _ a0 a1 (Or.inr (by omega))
  · rw [t_le, t50] at c
    refine ⟨t_in (by omega) (by omega), fun f2 e2 => ⟨t_in (by omega) (by omega), fun f3 e3 => ⟨t_in (by omega) (by omega), fun f4 e4 => ⟨t_in (by omega) (by omega), fun f5 e5 x6 e6 => ?_⟩⟩⟩⟩
    have q6 : x6.toInt = v0_length.toInt + 1 := by rw [e6]; exact t_inc (by omega)
    refine hq f2 f3 f4 f5 x6 ⟨by omega, fun z j hj => ?_⟩ ⟨a1.1, fun j hj => ?_⟩ (Or.inl ⟨q6, by rw [e2, pk_us]⟩)
    · by_cases w : j = v0_length.toNatClampNeg
      · rw [e2, e3, e4, w, pk_us, pk_us, pk_us]
        exact a2.resolve_left (by omega)
      · rw [e2, e3, e4, pk_un w, pk_un w, pk_un w]
        exact a0.2 z j (by omega)
    · rcases a1.2 j hj with w | ⟨w0, w1, w2⟩
      · exact Or.inl w
      · have nh := t_nat w0
        refine Or.inr ⟨w0, by omega, ?_⟩
        rw [e2, pk_un (by omega)]; exact w2
theorem sf_X9_closeLoop {f0_heads : Nat → Int32} {v0_open : Int32} {f0_second f0_kinds f0_first f0_third : Nat → Int32} {v0_length b h n : Int32} {Q : Int32 → (Nat → Int32) → (Nat → Int32) → (Nat → Int32) → (Nat → Int32) → Int32 → Prop} (a0 : wC b f0_kinds f0_first f0_second v0_length h n) (a1 : hC f0_heads f0_kinds v0_open v0_length) (a2 : 0 < v0_open.toInt)
    (hq : ∀ (op : Int32) (s kd f t : Nat → Int32) (ln : Int32), wC b kd f s ln h n → hC f0_heads kd op ln → Q op s kd f t ln) : wq_X9_closeLoop f0_heads v0_open f0_second f0_kinds f0_first f0_third v0_length Q := by
  intro x1 e1
  have ho := a1.1
  have hl := a0.1
  have q1 : x1.toInt = v0_open.toInt - 1 := by rw [e1]; exact t_pred (by omega)
  have n1 := t_nat (x := x1) (by omega)
  have t50 : (50 : Int32).toInt = 50 := by decide
  refine ⟨t_in (by omega) (by omega), fun x2 e2 => ?_⟩
  have hx := a1.2 x1.toNatClampNeg (by omega)
  rw [← e2] at hx
  have hc2 : hC f0_heads f0_kinds x1 v0_length := ⟨by omega, fun j hj => a1.2 j (by omega)⟩
  have go : ∀ s : Nat → Int32, wC b f0_kinds f0_first s v0_length h n → wb_X9_closeLoop_36 f0_heads Q x1 s f0_kinds f0_first f0_third v0_length x2 := fun s hs =>
    sf_X9_add (hd := f0_heads) (op := x1) hs hc2 (Or.inr ⟨⟨by omega, by omega, by decide, by decide⟩, Or.inl (by decide), Or.inl (by decide)⟩) (fun kd f s t ln h1 h2 _ => hq _ _ _ _ _ _ h1 h2)
  refine ⟨fun _ => go _ a0, fun c => ⟨t_in (by omega) ?_, fun f4 e4 => go f4 ?_⟩⟩
  · rw [t_le, t50] at c; omega
  · rw [t_le, t50] at c
    obtain ⟨w0, w1, w2⟩ := hx.resolve_left (by omega)
    have n2 := t_nat w0
    refine ⟨hl, fun z j hj => ?_⟩
    have g := a0.2 z j hj
    by_cases w : j = x2.toNatClampNeg
    · rw [e4, w, pk_us]
      rw [w] at g
      exact ⟨⟨g.1.1, g.1.2.1, by omega, by omega⟩, Or.inl (by omega), Or.inl (by omega)⟩
    · rw [e4, pk_un w]; exact g
theorem sf_X9_openLoop {v1_length : Int32} {f1_bytes : Nat → Int32} {v1_at v1_fault v1_faultPlace v1_token : Int32} {f0_heads : Nat → Int32} {v0_open : Int32} {f0_kinds f0_first f0_second f0_third : Nat → Int32} {v0_length h n : Int32} {Q : Int32 → Int32 → Int32 → Int32 → (Nat → Int32) → Int32 → (Nat → Int32) → (Nat → Int32) → (Nat → Int32) → (Nat → Int32) → Int32 → Prop} (a0 : wC v1_fault f0_kinds f0_first f0_second v0_length h n) (a1 : hC f0_heads f0_kinds v0_open v0_length) (a2 : v1_length.toInt ≤ 600) (a3 : 0 ≤ v1_at.toInt) (a4 : v1_at.toInt ≤ 600)
    (hq : ∀ (a f fp t : Int32) (hd : Nat → Int32) (op : Int32) (kd fi s th : Nat → Int32) (ln : Int32), 0 ≤ a.toInt → a.toInt ≤ 600 → wC f kd fi s ln h n → hC hd kd op ln → Q a f fp t hd op kd fi s th ln) : wq_X9_openLoop v1_length f1_bytes v1_at v1_fault v1_faultPlace v1_token f0_heads v0_open f0_kinds f0_first f0_second f0_third v0_length Q := by
  have ho := a1.1
  have hl := a0.1
  have n0 := t_nat hl.1
  have no := t_nat ho.1
  refine ⟨fun c => ?_, fun _ => sg_X8_blameToken (by decide) (fun f fp hf => hq _ _ _ _ _ _ _ _ _ _ _ a3 a4 (wC_bad a0 (Or.inl hf)) a1)⟩
  rw [t_lt, t_6] at c
  refine sg_X8_number a2 a3 a4 (fun r a f fp t h0 h1 h2 => sg_X8_needs a2 h0 h1 (fun a t f2 fp2 k0 k1 k2 => ?_))
  refine ⟨t_in ho.1 (by omega), fun f11 e11 x12 e12 => ?_⟩
  have q12 : x12.toInt = v0_open.toInt + 1 := by rw [e12]; exact t_inc (by omega)
  have hb : wC f2 f0_kinds f0_first f0_second v0_length h n := wC_bad a0 (by omega)
  have h40 : (40 : Int32).toInt = 40 := by decide
  have h4 : (4 : Int32).toInt = 4 := t_4
  have hold : hC f11 f0_kinds v0_open v0_length := ⟨a1.1, fun j hj => by rw [e11, pk_un (by omega)]; exact a1.2 j hj⟩
  refine sf_X9_add (hd := f11) (op := v0_open) hb hold ?_ (fun kd fi s th ln g1 g2 g3 => hq _ _ _ _ _ _ _ _ _ _ _ k0 k1 g1 ⟨by omega, fun j hj => ?_⟩)
  · rcases k2 with k2 | k2
    · exact Or.inl k2
    · have h2' := h2.resolve_left (by omega)
      rw [t_0, h40] at h2'
      exact Or.inr ⟨⟨by omega, by omega, by decide, by decide⟩, Or.inl (by decide), Or.inl (by decide)⟩
  · by_cases w : j = v0_open.toNatClampNeg
    · rw [w, e11, pk_us]
      rcases g3 with ⟨g3, g4⟩ | g3
      · exact Or.inr ⟨hl.1, by omega, by rw [g4]; decide⟩
      · exact Or.inl g3
    · exact g2.2 j (by omega)
end
section
section Wk
variable {len : Int32} {by_ : Nat → Int32} {h n : Int32}
theorem sf_X9_readStep_s {a tk fa fp : Int32} {kd fi s th : Nat → Int32} {ln : Int32} {hd : Nat → Int32} {op : Int32} {Q : Int32 → Int32 → Int32 → Int32 → (Nat → Int32) → (Nat → Int32) → (Nat → Int32) → (Nat → Int32) → Int32 → (Nat → Int32) → Int32 → Prop} (hw : wC fa kd fi s ln h n) (hc : hC hd kd op ln) (a2 : len.toInt ≤ 600) (a3 : 0 ≤ a.toInt) (a4 : a.toInt ≤ 600) (h0 : 0 ≤ h.toInt) (h6 : h.toInt ≤ 6) (n0 : 0 ≤ n.toInt) (n8 : n.toInt ≤ 8)
    (hq : ∀ (a t f fp : Int32) (kd fi s th : Nat → Int32) (ln : Int32) (hd : Nat → Int32) (op : Int32), 0 ≤ a.toInt → a.toInt ≤ 600 → wC f kd fi s ln h n → hC hd kd op ln → Q a t f fp kd fi s th ln hd op) : wq_X9_readStep_s h n len by_ a tk fa fp kd fi s th ln hd op Q := by
  have e1 : (h - 1).toInt = h.toInt - 1 := t_pred (by omega)
  have e2 : (n - 1).toInt = n.toInt - 1 := t_pred (by omega)
  have e99 : (99 : Int32).toInt = 99 := by decide
  have fin : ∀ (a t f fp : Int32) (kd fi s th : Nat → Int32) (ln : Int32), 0 ≤ a.toInt → a.toInt ≤ 600 → wC f kd fi s ln h n → hC hd kd op ln → wb_X9_readStep_s_173 h n len by_ Q a t f fp kd fi s th ln hd op := fun a t f fp kd fi s th ln b0 b1 b2 b3 =>
    sg_X8_needs a2 b0 b1 (fun a t f2 fp2 k0 k1 k2 => hq _ _ _ _ _ _ _ _ _ _ _ k0 k1 (wC_bad b2 (by omega)) b3)
  refine sg_word (by decide) (by decide) (by decide) a2 a3 a4 (fun r4 x2 x3 b0 b1 _ => ⟨fun _ => ?_, fun _ => sf_X9_openLoop hw hc a2 b0 b1 (fun a f fp t hd op kd fi s th ln k0 k1 k2 k3 => hq _ _ _ _ _ _ _ _ _ _ _ k0 k1 k2 k3)⟩)
  refine sg_word (by decide) (by decide) (by decide) a2 b0 b1 (fun r9 x7 x8 c0 c1 _ => ⟨fun _ => ?_, fun _ => ?_⟩)
  · refine sg_word (by decide) (by decide) (by decide) a2 c0 c1 (fun r14 x12 x13 d0 d1 _ => ⟨fun _ => ?_, fun _ => ?_⟩)
    · refine sg_word (by decide) (by decide) (by decide) a2 d0 d1 (fun r19 x17 x18 f0 f1 _ => ⟨fun _ => ?_, fun _ => ?_⟩)
      · refine sg_word (by decide) (by decide) (by decide) a2 f0 f1 (fun r24 x22 x23 g0 g1 _ => ⟨fun _ => ?_, fun _ => ?_⟩)
        · exact sg_X8_blameSign a2 g0 g1 (fun a f fp k0 k1 k2 => fin _ _ _ _ _ _ _ _ _ k0 k1 (wC_bad hw (Or.inl k2)) hc)
        · exact sf_X9_add (hd := hd) (op := op) hw hc (Or.inr ⟨⟨by decide, by decide, by decide, by decide⟩, Or.inl (by decide), Or.inl (by decide)⟩) (fun kd fi s th ln k1 k2 _ => fin _ _ _ _ _ _ _ _ _ g0 g1 k1 k2)
      · refine sg_X8_number a2 f0 f1 (fun r38 x34 x35 x36 x37 g0 g1 g2 => sg_X8_number a2 g0 g1 (fun r43 x39 x40 x41 x42 i0 i1 i2 => sg_X8_number a2 i0 i1 (fun r48 x44 x45 x46 x47 j0 j1 j2 => ?_)))
        refine sf_X9_add (b := x45) (hd := hd) (op := op) (wC_bad hw (by omega)) hc ?_ (fun kd fi s th ln k1 k2 _ => fin _ _ _ _ _ _ _ _ _ j0 j1 k1 k2)
        rw [t_0, e1] at g2 i2
        by_cases z : x45.toInt = 0
        · exact Or.inr ⟨⟨by omega, by omega, by omega, by omega⟩, Or.inl (by decide), Or.inr ⟨by omega, by omega⟩⟩
        · exact Or.inl z
    · refine sg_X8_number a2 d0 d1 (fun r58 x54 x55 x56 x57 g0 g1 g2 => sg_X8_number a2 g0 g1 (fun r63 x59 x60 x61 x62 i0 i1 i2 => ?_))
      refine sf_X9_add (b := x60) (hd := hd) (op := op) (wC_bad hw (by omega)) hc ?_ (fun kd fi s th ln k1 k2 _ => fin _ _ _ _ _ _ _ _ _ i0 i1 k1 k2)
      rw [t_0, e1] at g2 i2
      by_cases z : x60.toInt = 0
      · exact Or.inr ⟨⟨by omega, by omega, by omega, by omega⟩, Or.inl (by decide), Or.inr ⟨by omega, by omega⟩⟩
      · exact Or.inl z
  · refine sg_X8_number a2 c0 c1 (fun r73 x69 x70 x71 x72 g0 g1 g2 => sg_X8_number a2 g0 g1 (fun r78 x74 x75 x76 x77 i0 i1 i2 => ?_))
    refine sf_X9_add (b := x75) (hd := hd) (op := op) (wC_bad hw (by omega)) hc ?_ (fun kd fi s th ln k1 k2 _ => fin _ _ _ _ _ _ _ _ _ i0 i1 k1 k2)
    rw [t_0, e1] at g2
    rw [t_0, e2] at i2
    by_cases z : x75.toInt = 0
    · exact Or.inr ⟨⟨by omega, by omega, by omega, by omega⟩, Or.inr ⟨by omega, by omega⟩, Or.inl (by decide)⟩
    · exact Or.inl z
theorem sl_X9_readFrom {Q : Int32 → Int32 → Int32 → Int32 → Int32 → Int32 → (Nat → Int32) → (Nat → Int32) → (Nat → Int32) → (Nat → Int32) → Int32 → Int32 → (Nat → Int32) → Prop} (a2 : len.toInt ≤ 600) (h0 : 0 ≤ h.toInt) (h6 : h.toInt ≤ 6) (n0 : 0 ≤ n.toInt) (n8 : n.toInt ≤ 8)
    (hq : ∀ (ln op a t : Int32) (s kd fi th : Nat → Int32) (f fp : Int32) (hd : Nat → Int32), 0 ≤ a.toInt → a.toInt ≤ 600 → wC f kd fi s ln h n → hC hd kd op ln → Q h n ln op a t s kd fi th f fp hd) :
    ∀ (k : Nat) (ln op a t : Int32) (s kd fi th : Nat → Int32) (f fp : Int32) (hd : Nat → Int32) (i : Int32), 0 ≤ a.toInt → a.toInt ≤ 600 → wC f kd fi s ln h n → hC hd kd op ln → 0 ≤ i.toInt → i.toInt ≤ 151 → 151 - i.toInt < k → wl_X9_readFrom_s_23 len by_ Q k h n ln op a t s kd fi th f fp hd i := by
  intro k
  induction k with
  | zero => intro ln op a t s kd fi th f fp hd i b0 b1 hw hc i0 i1 i2; omega
  | succ k ih =>
    intro ln op a t s kd fi th f fp hd i b0 b1 hw hc i0 i1 i2
    have ho := hc.1
    have t150 : (150 : Int32).toInt = 150 := by decide
    refine ⟨fun _ => hq _ _ _ _ _ _ _ _ _ _ _ b0 b1 hw hc, fun c => ?_⟩
    rw [t_lt, t150] at c
    have go : ∀ (ln op a t : Int32) (s kd fi th : Nat → Int32) (f fp : Int32) (hd : Nat → Int32), 0 ≤ a.toInt → a.toInt ≤ 600 → wC f kd fi s ln h n → hC hd kd op ln → wb_X9_readFrom_s_87 len by_ Q (fun v0_hares v0_forms v0_length v0_open v1_at v1_token f0_second f0_kinds f0_first f0_third v1_fault v1_faultPlace f0_heads l4 => wl_X9_readFrom_s_23 len by_ Q k v0_hares v0_forms v0_length v0_open v1_at v1_token f0_second f0_kinds f0_first f0_third v1_fault v1_faultPlace f0_heads l4) h n ln op a t s kd fi th f fp hd i := fun ln op a t s kd fi th f fp hd b0 b1 hw hc x34 e34 => by
      have q : x34.toInt = i.toInt + 1 := by rw [e34]; exact t_inc (by omega)
      exact ih ln op a t s kd fi th f fp hd x34 b0 b1 hw hc (by omega) (by omega) (by omega)
    have go82 : ∀ a t : Int32, 0 ≤ a.toInt → a.toInt ≤ 600 → wb_X9_readFrom_s_82 len by_ Q (fun v0_hares v0_forms v0_length v0_open v1_at v1_token f0_second f0_kinds f0_first f0_third v1_fault v1_faultPlace f0_heads l4 => wl_X9_readFrom_s_23 len by_ Q k v0_hares v0_forms v0_length v0_open v1_at v1_token f0_second f0_kinds f0_first f0_third v1_fault v1_faultPlace f0_heads l4) h n ln op a t s kd fi th f fp hd i := fun a t b0 b1 =>
      sf_X9_readStep_s hw hc a2 b0 b1 h0 h6 n0 n8 (fun a t f fp kd fi s th ln hd op k0 k1 k2 k3 => go _ _ _ _ _ _ _ _ _ _ _ k0 k1 k2 k3)
    have go53 : ∀ a : Int32, 0 ≤ a.toInt → a.toInt ≤ 600 → wb_X9_readFrom_s_53 len by_ Q (fun v0_hares v0_forms v0_length v0_open v1_at v1_token f0_second f0_kinds f0_first f0_third v1_fault v1_faultPlace f0_heads l4 => wl_X9_readFrom_s_23 len by_ Q k v0_hares v0_forms v0_length v0_open v1_at v1_token f0_second f0_kinds f0_first f0_third v1_fault v1_faultPlace f0_heads l4) h n ln op a t s kd fi th f fp hd i := fun a b0 b1 => by
      refine ⟨fun _ => go82 a t b0 b1, fun c2 => sg_X8_takes a2 b0 b1 (fun r x y g0 g1 _ => ⟨fun _ => go82 x y g0 g1, fun _ => ?_⟩)⟩
      rw [t_le, t_0] at c2
      exact sf_X9_closeLoop hw hc (by omega) (fun op s kd fi th ln k2 k3 => sg_X8_needs a2 g0 g1 (fun a t f2 fp2 m0 m1 m2 => go _ _ _ _ _ _ _ _ _ _ _ m0 m1 (wC_bad k2 (by omega)) k3))
    exact sg_X8_isFaulty (fun r _ => ⟨fun _ => hq _ _ _ _ _ _ _ _ _ _ _ b0 b1 hw hc, fun _ => ⟨fun _ => go53 a b0 b1, fun _ => sg_X8_isEnded a2 b0 b1 (fun r x g0 g1 => ⟨fun _ => go53 x g0 g1, fun _ => hq _ _ _ _ _ _ _ _ _ _ _ g0 g1 hw hc⟩)⟩⟩)
theorem sf_X9_readFrom {h1 n1 ln op a t : Int32} {s kd fi th : Nat → Int32} {f fp : Int32} {hd : Nat → Int32} {Q : Int32 → Int32 → Int32 → Int32 → Int32 → Int32 → (Nat → Int32) → (Nat → Int32) → (Nat → Int32) → (Nat → Int32) → Int32 → Int32 → (Nat → Int32) → Prop} (a2 : len.toInt ≤ 600) (b0 : 0 ≤ a.toInt) (b1 : a.toInt ≤ 600) (h0 : 0 ≤ h.toInt) (h6 : h.toInt ≤ 6) (n0 : 0 ≤ n.toInt) (n8 : n.toInt ≤ 8)
    (hq : ∀ (ln op a t : Int32) (s kd fi th : Nat → Int32) (f fp : Int32) (hd : Nat → Int32), 0 ≤ a.toInt → a.toInt ≤ 600 → wC f kd fi s ln h n → hC hd kd op ln → Q h n ln op a t s kd fi th f fp hd) : wq_X9_readFrom_s len by_ h1 n1 ln op a t s kd fi th f fp hd h n Q :=
  ⟨152, sl_X9_readFrom a2 h0 h6 n0 n8 hq 152 0 0 a t s kd fi th f fp hd 0 b0 b1 (wC_zero (by decide)) (hC_zero (by decide)) (by decide) (by decide) (by decide)⟩
theorem sf_X9_behindEnd {fi rounds : Nat → Int32} {op p : Int32} {Q : Int32 → (Nat → Int32) → Int32 → Prop} (o0 : 0 ≤ op.toInt) (o6 : op.toInt ≤ 6) (p0 : 0 ≤ p.toInt) (p1 : p.toInt < 50) (hf : 0 ≤ (fi p.toNatClampNeg).toInt ∧ (fi p.toNatClampNeg).toInt ≤ 99) (hq : ∀ (r : Int32) (rounds : Nat → Int32) (op : Int32), 0 ≤ r.toInt → r.toInt ≤ 100 → 0 ≤ op.toInt → op.toInt ≤ 6 → Q r rounds op) : wq_X9_behindEnd fi rounds op p Q := by
  have ep : (p + 1).toInt = p.toInt + 1 := t_inc (by omega)
  refine ⟨fun c x2 e2 => ?_, fun _ => hq _ _ _ (by omega) (by omega) o0 o6⟩
  rw [t_eq, t_0] at c
  have q2 : x2.toInt = op.toInt - 1 := by rw [e2]; exact t_pred (by omega)
  refine ⟨t_in (by omega) (by omega), fun x3 e3 x4 e4 => ⟨t_in (by omega) (by omega), fun f5 e5 x6 e6 => ?_⟩⟩
  have q6 : x6.toInt = op.toInt - 1 := by rw [e6]; exact t_pred (by omega)
  refine ⟨t_in (by omega) (by omega), fun x7 e7 => ⟨fun _ x9 e9 => ?_, fun _ => ⟨t_in p0 p1, fun x10 e10 => ?_⟩⟩⟩
  · have q9 : x9.toInt = op.toInt - 1 := by rw [e9]; exact t_pred (by omega)
    exact hq _ _ _ (by omega) (by omega) (by omega) (by omega)
  · rw [← e10] at hf
    have q10 : (x10 + 1).toInt = x10.toInt + 1 := t_inc (by omega)
    exact hq _ _ _ (by omega) (by omega) o0 o6
theorem sf_X9_behindAgain {fi s rounds : Nat → Int32} {op p : Int32} {Q : Int32 → (Nat → Int32) → Int32 → Prop} (o0 : 0 ≤ op.toInt) (o6 : op.toInt ≤ 6) (p0 : 0 ≤ p.toInt) (p1 : p.toInt < 50) (hf : 0 ≤ (s p.toNatClampNeg).toInt ∧ (s p.toNatClampNeg).toInt ≤ 99) (hq : ∀ (r : Int32) (rounds : Nat → Int32) (op : Int32), 0 ≤ r.toInt → r.toInt ≤ 100 → 0 ≤ op.toInt → op.toInt ≤ 6 → Q r rounds op) : wq_X9_behindAgain fi s rounds op p Q := by
  have ep : (p + 1).toInt = p.toInt + 1 := t_inc (by omega)
  have go : wb_X9_behindAgain_18 fi s Q rounds op p := ⟨t_in p0 p1, fun x7 e7 => by
    rw [← e7] at hf
    have q7 : (x7 + 1).toInt = x7.toInt + 1 := t_inc (by omega)
    exact hq _ _ _ (by omega) (by omega) o0 o6⟩
  refine ⟨t_in p0 p1, fun x1 _ => ⟨fun _ => go, fun _ => ⟨fun c => ⟨t_in p0 p1, fun x4 _ => ⟨t_in o0 ?_, fun f5 _ x6 e6 => ?_⟩⟩, fun _ => go⟩⟩⟩
  · rw [t_lt, t_6] at c; omega
  · rw [t_lt, t_6] at c
    have q6 : x6.toInt = op.toInt + 1 := by rw [e6]; exact t_inc (by omega)
    exact hq _ _ _ (by omega) (by omega) (by omega) (by omega)
section Rn
variable {ln lw sf : Int32} {kd fi s th X Y lk lv sr : Nat → Int32}
theorem sf_X9_isAllowed {row fc pl : Nat → Int32} {p : Int32} {Q : Int32 → (Nat → Int32) → (Nat → Int32) → Prop} (hw : wC 0 kd fi s ln h n) (h6 : h.toInt ≤ 6) (n8 : n.toInt ≤ 8) (hl : sLaw lw lk lv) (hs : sSits h n row) (p0 : 0 ≤ p.toInt) (p1 : p.toInt < ln.toInt) (hq : ∀ (r : Int32) (fc pl : Nat → Int32), Q r fc pl) : wq_X9_isAllowed kd row fi s h X Y lw lk lv th fc pl p Q := by
  have hn := t_nat p0
  have hl0 := hw.1
  have g := hw.2 t_0 p.toNatClampNeg (by omega)
  have nb : ∀ r : Int32, r = 0 ∨ r = 1 → narrow .boolean (.int r) = .int r := fun r hr => by rcases hr with rfl | rfl <;> rfl
  refine ⟨t_in p0 (by omega), fun x1 e1 => ⟨fun _ x _ => ⟨fun _ => hq _ _ _, fun _ => hq _ _ _⟩, fun z => ⟨t_in p0 (by omega), fun x5 e5 => ⟨t_in p0 (by omega), fun x6 e6 => ?_⟩⟩, fun z => ⟨t_in p0 (by omega), fun x10 e10 => ⟨t_in p0 (by omega), fun x11 e11 => ?_⟩⟩, fun z => ⟨t_in p0 (by omega), fun x13 e13 => ⟨t_in p0 (by omega), fun x14 e14 => ⟨t_in p0 (by omega), fun x15 e15 => ?_⟩⟩⟩⟩⟩
  · rw [t_eq, t_0, e1] at z
    rw [← e5, ← e6] at g
    exact sf_X1_couldLeap h6 n8 hs (by omega) (by omega) (by omega) (by omega) hl (fun r fc pl hr => ⟨nb r hr, hq _ _ _⟩)
  · rw [t_eq, t_1, e1] at z
    rw [← e10, ← e11] at g
    exact sf_X1_couldFight (by omega) (by omega) (by omega) (by omega) ⟨rfl, hq _ _ _⟩ ⟨rfl, hq _ _ _⟩
  · rw [t_eq, t_2, e1] at z
    rw [← e13, ← e14] at g
    exact sf_X1_couldPay (by omega) (by omega) (by omega) (by omega) ⟨rfl, hq _ _ _⟩ ⟨rfl, hq _ _ _⟩
theorem sf_X9_doStep {row : Nat → Int32} {p : Int32} {Q : (Nat → Int32) → Prop} (hw : wC 0 kd fi s ln h n) (h6 : h.toInt ≤ 6) (n8 : n.toInt ≤ 8) (hs : sSits h n row) (p0 : 0 ≤ p.toInt) (p1 : p.toInt < ln.toInt) (hq : ∀ row : Nat → Int32, sSits h n row → Q row) : wq_X9_doStep kd h sf sr fi s th row p Q := by
  have hn := t_nat p0
  have hl0 := hw.1
  have g := hw.2 t_0 p.toNatClampNeg (by omega)
  refine ⟨t_in p0 (by omega), fun x1 e1 => ⟨fun _ => sf_X1_passDay h6 hs (fun _ h2 => hq _ h2), fun z => ⟨t_in p0 (by omega), fun x5 e5 => ⟨t_in p0 (by omega), fun x6 e6 => ?_⟩⟩, fun z => ⟨t_in p0 (by omega), fun x10 e10 => ⟨t_in p0 (by omega), fun x11 e11 => ?_⟩⟩, fun z => ⟨t_in p0 (by omega), fun x13 e13 => ⟨t_in p0 (by omega), fun x14 e14 => ⟨t_in p0 (by omega), fun x15 e15 => ?_⟩⟩⟩⟩⟩
  · rw [t_eq, t_0, e1] at z
    rw [← e5, ← e6] at g
    exact sf_X1_leapTo h6 hs (by omega) (by omega) (by omega) (by omega) (fun _ h2 => hq _ h2)
  · rw [t_eq, t_1, e1] at z
    rw [← e10, ← e11] at g
    exact sf_X1_fight h6 hs (by omega) (by omega) (by omega) (by omega) (fun _ h2 => hq _ h2)
  · rw [t_eq, t_2, e1] at z
    rw [← e13, ← e14] at g
    exact sf_X1_payBack h6 hs (by omega) (by omega) (by omega) (by omega) (fun _ h2 => hq _ h2)
theorem sl_X9_runOn {Q : Int32 → Int32 → Int32 → (Nat → Int32) → (Nat → Int32) → (Nat → Int32) → (Nat → Int32) → Prop} (hw : wC 0 kd fi s ln h n) (h6 : h.toInt ≤ 6) (n8 : n.toInt ≤ 8) (hl : sLaw lw lk lv) (hq : ∀ (d rf op : Int32) (fc pl row ro : Nat → Int32), sSits h n row → Q d rf op fc pl row ro) :
    ∀ (k : Nat) (d rf op : Int32) (fc pl row ro : Nat → Int32) (l2 l3 l4 : Int32), sSits h n row → 0 ≤ op.toInt → op.toInt ≤ 6 → 0 ≤ l3.toInt → l3.toInt ≤ 100 → 0 ≤ l4.toInt → l4.toInt ≤ 20000 → 20000 - l4.toInt < k → wl_X9_runOn_22 ln kd fi s h sf X Y lw lk lv th sr Q k d rf op fc pl row ro l2 l3 l4 := by
  have hl0 := hw.1
  have t20 : (20000 : Int32).toInt = 20000 := by decide
  intro k
  induction k with
  | zero => intro d rf op fc pl row ro l2 l3 l4 hs o0 o6 i0 i1 j0 j1 j2; omega
  | succ k ih =>
    intro d rf op fc pl row ro l2 l3 l4 hs o0 o6 i0 i1 j0 j1 j2
    refine ⟨fun _ => hq _ _ _ _ _ _ _ hs, fun c => ⟨fun _ => hq _ _ _ _ _ _ _ hs, fun _ => ⟨fun _ => hq _ _ _ _ _ _ _ hs, fun c3 => ?_⟩⟩⟩
    rw [t_le, t20] at c
    rw [t_le] at c3
    have hn := t_nat i0
    have g := hw.2 t_0 l3.toNatClampNeg (by omega)
    have go : ∀ (d rf op : Int32) (fc pl row ro : Nat → Int32) (l2 l3 x23 : Int32), sSits h n row → 0 ≤ op.toInt → op.toInt ≤ 6 → 0 ≤ l3.toInt → l3.toInt ≤ 100 → x23 = l4 + 1 → wl_X9_runOn_22 ln kd fi s h sf X Y lw lk lv th sr Q k d rf op fc pl row ro l2 l3 x23 := fun d rf op fc pl row ro l2 l3 x23 hs o0 o6 i0 i1 e23 => by
      have q : x23.toInt = l4.toInt + 1 := by rw [e23]; exact t_inc (by omega)
      exact ih d rf op fc pl row ro l2 l3 x23 hs o0 o6 i0 i1 (by omega) (by omega) (by omega)
    have nx : ∀ x22 : Int32, x22 = l3 + 1 → 0 ≤ x22.toInt ∧ x22.toInt ≤ 100 := fun x22 e22 => by
      have q : x22.toInt = l3.toInt + 1 := by rw [e22]; exact t_inc (by omega)
      omega
    refine ⟨t_in i0 (by omega), fun x4 e4 => ⟨fun _ x6 e6 => ⟨t_in i0 (by omega), fun x7 e7 => ⟨fun _ => ?_, fun _ => ?_⟩⟩, fun _ => ?_⟩⟩
    · exact sf_X9_isAllowed hw h6 n8 hl hs i0 (by omega) (fun r fc pl => ⟨fun _ x13 _ x22 e22 x23 e23 => go _ _ _ _ _ _ _ _ _ x23 hs o0 o6 (nx x22 e22).1 (nx x22 e22).2 e23, fun _ => sf_X9_doStep hw h6 n8 hs i0 (by omega) (fun row h2 x15 _ x22 e22 x23 e23 => go _ _ _ _ _ _ _ _ _ x23 h2 o0 o6 (nx x22 e22).1 (nx x22 e22).2 e23)⟩)
    · exact sf_X9_behindAgain o0 o6 i0 (by omega) ⟨by omega, by omega⟩ (fun r ro op r0 r1 o0 o6 x23 e23 => go _ _ _ _ _ _ _ _ _ x23 hs o0 o6 r0 r1 e23)
    · exact sf_X9_behindEnd o0 o6 i0 (by omega) ⟨by omega, by omega⟩ (fun r ro op r0 r1 o0 o6 x23 e23 => go _ _ _ _ _ _ _ _ _ x23 hs o0 o6 r0 r1 e23)
theorem sf_X9_runOn {d rf op : Int32} {fc pl row ro : Nat → Int32} {Q : Int32 → Int32 → Int32 → (Nat → Int32) → (Nat → Int32) → (Nat → Int32) → (Nat → Int32) → Prop} (hw : wC 0 kd fi s ln h n) (h6 : h.toInt ≤ 6) (n8 : n.toInt ≤ 8) (hl : sLaw lw lk lv) (hs : sSits h n row) (hq : ∀ (d rf op : Int32) (fc pl row ro : Nat → Int32), sSits h n row → Q d rf op fc pl row ro) : wq_X9_runOn ln kd fi s h sf X Y lw lk lv th sr d rf op fc pl row ro Q :=
  ⟨20001, sl_X9_runOn hw h6 n8 hl hq 20001 0 0 0 fc pl row ro 0 0 0 hs (by decide) (by decide) (by decide) (by decide) (by decide) (by decide) (by decide)⟩
end Rn
end Wk
end
section
section Cs
variable {n h ci cn p : Int32} {row : Nat → Int32}
theorem sf_X10_watch {X Y nr : Nat → Int32} {E : String → Int32 → (Nat → Int32) → Prop} {Q : Int32 → Int32 → (Nat → Int32) → Prop} (n0 : 0 ≤ n.toInt) (n8 : n.toInt ≤ 8) (he : E "java/lang/IllegalArgumentException" (ci + 1) nr) (hq : ∀ (r : Int32) (nr : Nat → Int32), Q r ci nr) : wq_X10_watch n X Y ci nr p E Q :=
  sf_X10_needWithin he (fun _ _ => sf_X2_watchers n0 n8 (fun r nr => hq r nr))
theorem sl_X10_bouts {E : String → Int32 → Prop} {Q : Int32 → Int32 → Prop} (h6 : h.toInt ≤ 6) (hq : ∀ r, Q r cn) : ∀ (k : Nat) (l2 v i : Int32), 0 ≤ l2.toInt → l2.toInt < 64 → 0 ≤ i.toInt → i.toInt ≤ 6 → 6 - i.toInt < k → wl_X10_bouts_31 h row E Q k cn p l2 v i := by
  intro k
  induction k with
  | zero => intro l2 v i a0 a1 i0 i1 i2; omega
  | succ k ih =>
    intro l2 v i a0 a1 i0 i1 i2
    refine ⟨fun _ => hq _, fun c => ?_⟩
    rw [t_le] at c
    have go : ∀ v x9 : Int32, x9 = i + 1 → wl_X10_bouts_31 h row E Q k cn p l2 v x9 := fun v x9 e9 => by
      have e : x9.toInt = i.toInt + 1 := by rw [e9]; exact t_inc (by omega)
      exact ih l2 v x9 a0 a1 (by omega) (by omega) (by omega)
    have h5 := pc_le6 a0 a1
    refine sg_X10_holdsB a0 a1 i0 (by omega) (fun r hr => ⟨fun _ => go v, fun cr => ?_⟩)
    rw [t_eq, t_0] at cr
    have g := hr.resolve_left cr
    exact sf_X1_strong i0 (by omega) (fun r8 => sf_X10_ordersWon_r5 g.2.1 g.2.2.1 (by omega) (fun r9 x10 _ => go x10))
theorem sf_X10_bouts {E : String → Int32 → Prop} {Q : Int32 → Int32 → Prop} (h0 : 0 ≤ h.toInt) (h6 : h.toInt ≤ 6) (he : E "java/util/NoSuchElementException" (cn + 1)) (hq : ∀ r, Q r cn) : wq_X10_bouts h row cn p E Q := by
  refine sf_X10_needHare h0 he (fun _ _ => sf_X1_isCaught ⟨fun _ => ?_, fun c => absurd rfl c⟩ ⟨fun c => absurd c (by decide), fun _ => hq _⟩)
  intro x1 _ x2 e2
  have hs := t_shl h0 (by omega)
  have hp : ((1 <<< (h &&& 31)) - 1 : Int32).toInt = (1 <<< (h &&& 31) : Int32).toInt - 1 := t_pred (by omega)
  have g := t_andle (a := (1 <<< (h &&& 31)) - 1) (b := x1 ^^^ (-1)) (by omega)
  rw [← e2] at g
  exact ⟨7, sl_X10_bouts h6 hq 7 x2 0 0 g.1 (by omega) (by decide) (by decide) (by decide)⟩
theorem sf_X10_fits {al : Nat} {sn : Nat → Int32} {a b c d : Int32} {f1 f2 f3 : Nat → Int32} {rb : Value} {E : String → Int32 → Int32 → Int32 → Int32 → Int32 → (Nat → Int32) → (Nat → Int32) → (Nat → Int32) → Value → Prop} {Q : Int32 → Int32 → Int32 → Int32 → Int32 → Int32 → (Nat → Int32) → (Nat → Int32) → (Nat → Int32) → Value → Prop} (n8 : n.toInt ≤ 8) (h6 : h.toInt ≤ 6) (he : E "java/lang/IllegalArgumentException" (ci + 1) a b c d f1 f2 f3 rb) (hq : ∀ (r a b c d : Int32) (f1 f2 f3 : Nat → Int32), Q r ci a b c d f1 f2 f3 (.ref al)) : wq_X10_fits al n h row sn ci a b c d f1 f2 f3 rb p E Q :=
  sf_X10_needWithin he (fun _ _ => sf_X3_settle n8 h6 (fun _ _ _ _ _ _ _ _ _ => ⟨fun _ => hq _ _ _ _ _ _ _ _, fun _ => hq _ _ _ _ _ _ _ _⟩))
theorem sf_X10_look {al : Nat} {sn : Nat → Int32} {a b c d e f : Int32} {f1 f2 f3 f4 : Nat → Int32} {rb : Value} {E : String → Int32 → Int32 → Int32 → Int32 → Int32 → (Nat → Int32) → (Nat → Int32) → (Nat → Int32) → Value → Int32 → Int32 → (Nat → Int32) → Prop} {Q : Int32 → Int32 → Int32 → Int32 → Int32 → Int32 → (Nat → Int32) → (Nat → Int32) → (Nat → Int32) → Value → Int32 → Int32 → (Nat → Int32) → Prop} (n8 : n.toInt ≤ 8) (h6 : h.toInt ≤ 6) (he : E "java/lang/IllegalArgumentException" (ci + 1) a b c d f1 f2 f3 rb e f f4) (hq : ∀ (r a b c d : Int32) (f1 f2 f3 : Nat → Int32) (e f : Int32) (f4 : Nat → Int32), Q r ci a b c d f1 f2 f3 (.ref al) e f f4) : wq_X10_look al n h row sn ci a b c d f1 f2 f3 rb e f f4 p E Q :=
  sf_X10_needWithin he (fun _ _ => sf_X3_settle n8 h6 (fun _ _ _ _ _ _ _ g1 g2 => sf_X3_lookAhead (by omega) (by omega) (fun _ _ _ => ⟨fun _ => hq _ _ _ _ _ _ _ _ _ _ _, fun _ => hq _ _ _ _ _ _ _ _ _ _ _⟩)))
theorem sf_X10_ring {X Y : Nat → Int32} {l : Int32} {f1 f2 : Nat → Int32} {Q : Int32 → Int32 → (Nat → Int32) → (Nat → Int32) → Prop} (n0 : 0 ≤ n.toInt) (n8 : n.toInt ≤ 8) (hq : ∀ (r l : Int32) (f1 f2 : Nat → Int32), Q r l f1 f2) : wq_X10_ring n X Y l f1 f2 Q :=
  sf_X6_settle n0 n8 (fun _ _ _ => hq _ _ _ _)
theorem sf_X10_ringed {X Y : Nat → Int32} {l : Int32} {f1 f2 : Nat → Int32} {E : String → Int32 → Int32 → (Nat → Int32) → (Nat → Int32) → Prop} {Q : Int32 → Int32 → Int32 → (Nat → Int32) → (Nat → Int32) → Prop} (n0 : 0 ≤ n.toInt) (n8 : n.toInt ≤ 8) (he : E "java/lang/IllegalArgumentException" (ci + 1) l f1 f2) (hq : ∀ (r l : Int32) (f1 f2 : Nat → Int32), Q r ci l f1 f2) : wq_X10_ringed n X Y ci l f1 f2 p E Q := by
  refine ⟨fun _ => ⟨fun c => absurd rfl c, fun _ x2 e2 => by rw [e2]; exact he⟩, fun c => ⟨fun _ => ⟨fun c2 => sf_X6_settle n0 n8 (fun _ _ _ => ⟨t_in ?_ ?_, fun _ _ => hq _ _ _ _⟩), fun _ => hq _ _ _ _⟩, fun c2 => absurd c2 (by decide)⟩⟩
  · rw [t_lt, t_0] at c; omega
  · rw [t_lt] at c2; omega
section Se
variable {sf ln : Int32} {kd vl X Y : Nat → Int32} {mo gv fc pl al : Nat → Int32} {sd : Int32}
theorem sf_X10_seat {E : String → Int32 → (Nat → Int32) → Int32 → (Nat → Int32) → (Nat → Int32) → (Nat → Int32) → (Nat → Int32) → Prop} {Q : Int32 → Int32 → (Nat → Int32) → Int32 → (Nat → Int32) → (Nat → Int32) → (Nat → Int32) → (Nat → Int32) → Prop} (hs : sSits h n row) (hl : sLaw ln kd vl) (h0 : 0 ≤ h.toInt) (h6 : h.toInt ≤ 6) (n0 : 0 ≤ n.toInt) (n8 : n.toInt ≤ 8) (he : E "java/util/NoSuchElementException" (cn + 1) mo sd gv fc pl al) (hq : ∀ (r : Int32) (mo : Nat → Int32) (sd : Int32) (gv fc pl al : Nat → Int32), Q r cn mo sd gv fc pl al) : wq_X10_seat n h sf row ln kd vl X Y cn mo sd gv fc pl al p E Q :=
  sf_X10_needHare h0 he (fun p0 p1 => sf_X7_settle hs hl h0 h6 n0 n8 (fun _ _ _ _ _ _ => ⟨t_in p0 (by omega), fun _ _ => hq _ _ _ _ _ _ _⟩))
theorem sf_X10_seats {Q : Int32 → (Nat → Int32) → Int32 → (Nat → Int32) → (Nat → Int32) → (Nat → Int32) → (Nat → Int32) → Prop} (hs : sSits h n row) (hl : sLaw ln kd vl) (h0 : 0 ≤ h.toInt) (h6 : h.toInt ≤ 6) (n0 : 0 ≤ n.toInt) (n8 : n.toInt ≤ 8) (hq : ∀ (r : Int32) (mo : Nat → Int32) (sd : Int32) (gv fc pl al : Nat → Int32), Q r mo sd gv fc pl al) : wq_X10_seats n h sf row ln kd vl X Y mo sd gv fc pl al Q :=
  sf_X7_settle hs hl h0 h6 n0 n8 (fun _ _ _ _ _ _ => hq _ _ _ _ _ _ _)
end Se
/-- an image kept -/
def cI (k h n : Int32) (r : Nat → Int32) : Prop := 1 ≤ k.toInt ∧ k.toInt ≤ 17 ∧ sPast k h n r
/-- the images of the class -/
def cImg (m h n k0 k1 k2 : Int32) (r0 r1 r2 : Nat → Int32) : Prop := (0 ≤ m.toInt ∧ m.toInt ≤ 3) ∧ (0 < m.toInt → cI k0 h n r0) ∧ (1 < m.toInt → cI k1 h n r1) ∧ (2 < m.toInt → cI k2 h n r2)
section Mg
variable {pk m k0 k1 k2 : Int32} {pr r0 r1 r2 : Nat → Int32}
theorem sf_X10_image {Q : Int32 → (Nat → Int32) → Int32 → Int32 → (Nat → Int32) → Int32 → (Nat → Int32) → Int32 → Prop} (p0 : 0 ≤ pk.toInt) (p1 : pk.toInt ≤ 16) (h6 : h.toInt ≤ 6) (hs : sSits h n row) (hp : sPast pk h n pr) (hi : cImg m h n k0 k1 k2 r0 r1 r2) (hq : ∀ (r : Int32) (r0 : Nat → Int32) (k0 m : Int32) (r1 : Nat → Int32) (k1 : Int32) (r2 : Nat → Int32) (k2 : Int32), cImg m h n k0 k1 k2 r0 r1 r2 → Q r r0 k0 m r1 k1 r2 k2) : wq_X10_image pk pr row r0 k0 m r1 k1 r2 k2 Q := by
  obtain ⟨m0, i0, i1, i2⟩ := hi
  refine ⟨fun c => ?_, fun _ => hq _ _ _ _ _ _ _ _ ⟨m0, i0, i1, i2⟩⟩
  rw [t_lt, t_3] at c
  have hin : vp_in m 3 := t_in m0.1 (by omega)
  have q : (m + 1).toInt = m.toInt + 1 := t_inc (by omega)
  refine ⟨hin, fun c0 => ?_, fun c1 => ?_, fun c2 => ?_⟩
  · refine sf_X5_copyFrom p0 (by omega) h6 hp (fun rows hr => ⟨hin, fun _ => sf_X5_push p0 p1 h6 hs hr (fun rows k e h2 x8 e8 => ?_), fun d => absurd (c0.symm.trans d) (by decide), fun d => absurd (c0.symm.trans d) (by decide)⟩)
    have e0 : m.toInt = 0 := by rw [c0]; decide
    exact hq _ _ _ _ _ _ _ _ ⟨by rw [e8]; omega, fun _ => ⟨by omega, by omega, h2⟩, fun z => by rw [e8] at z; omega, fun z => by rw [e8] at z; omega⟩
  · refine sf_X5_copyFrom p0 (by omega) h6 hp (fun rows hr => ⟨hin, fun d => absurd (c1.symm.trans d) (by decide), fun _ => sf_X5_push p0 p1 h6 hs hr (fun rows k e h2 x8 e8 => ?_), fun d => absurd (c1.symm.trans d) (by decide)⟩)
    have e0 : m.toInt = 1 := by rw [c1]; decide
    exact hq _ _ _ _ _ _ _ _ ⟨by rw [e8]; omega, fun _ => i0 (by omega), fun _ => ⟨by omega, by omega, h2⟩, fun z => by rw [e8] at z; omega⟩
  · refine sf_X5_copyFrom p0 (by omega) h6 hp (fun rows hr => ⟨hin, fun d => absurd (c2.symm.trans d) (by decide), fun d => absurd (c2.symm.trans d) (by decide), fun _ => sf_X5_push p0 p1 h6 hs hr (fun rows k e h2 x8 e8 => ?_)⟩)
    have e0 : m.toInt = 2 := by rw [c2]; decide
    exact hq _ _ _ _ _ _ _ _ ⟨by rw [e8]; omega, fun _ => i0 (by omega), fun _ => i1 (by omega), fun _ => ⟨by omega, by omega, h2⟩⟩
theorem sf_X10_restore {rs : Int32} {Q : Int32 → Int32 → Int32 → (Nat → Int32) → (Nat → Int32) → Int32 → Int32 → Int32 → Int32 → Prop} (p0 : 0 ≤ pk.toInt) (p1 : pk.toInt ≤ 16) (h6 : h.toInt ≤ 6) (hs : sSits h n row) (hp : sPast pk h n pr) (hi : cImg m h n k0 k1 k2 r0 r1 r2) (hq : ∀ (r m k0 : Int32) (row pr : Nat → Int32) (pk rs k1 k2 : Int32), 0 ≤ pk.toInt → pk.toInt ≤ 16 → sSits h n row → sPast pk h n pr → cImg m h n k0 k1 k2 r0 r1 r2 → Q r m k0 row pr pk rs k1 k2) : wq_X10_restore r0 r1 r2 m k0 row pr pk rs k1 k2 Q := by
  have hi' := hi
  obtain ⟨m0, i0, i1, i2⟩ := hi
  refine ⟨fun c x2 e2 => ?_, fun _ => hq _ _ _ _ _ _ _ _ _ p0 p1 hs hp hi'⟩
  rw [t_eq, t_0] at c
  have q2 : x2.toInt = m.toInt - 1 := by rw [e2]; exact t_pred (by omega)
  have hin : vp_in x2 3 := t_in (by omega) (by omega)
  refine ⟨hin, fun c0 => ?_, fun c1 => ?_, fun c2 => ?_⟩
  · have e0 : x2.toInt = 0 := by rw [c0]; decide
    obtain ⟨g0, g1, g2⟩ := i0 (by omega)
    exact sf_X5_pop (by omega) g1 h6 g2 (fun k row e h1 h2 => ⟨hin, fun _ => sf_X5_copyFrom (by omega) (by omega) h6 h2 (fun rows h3 => hq _ _ _ _ _ _ _ _ _ (by omega) (by omega) h1 h3 ⟨by omega, fun z => by omega, fun z => by omega, fun z => by omega⟩), fun d => absurd (c0.symm.trans d) (by decide), fun d => absurd (c0.symm.trans d) (by decide)⟩)
  · have e0 : x2.toInt = 1 := by rw [c1]; decide
    obtain ⟨g0, g1, g2⟩ := i1 (by omega)
    exact sf_X5_pop (by omega) g1 h6 g2 (fun k row e h1 h2 => ⟨hin, fun d => absurd (c1.symm.trans d) (by decide), fun _ => sf_X5_copyFrom (by omega) (by omega) h6 h2 (fun rows h3 => hq _ _ _ _ _ _ _ _ _ (by omega) (by omega) h1 h3 ⟨by omega, fun z => i0 (by omega), fun z => by omega, fun z => by omega⟩), fun d => absurd (c1.symm.trans d) (by decide)⟩)
  · have e0 : x2.toInt = 2 := by rw [c2]; decide
    obtain ⟨g0, g1, g2⟩ := i2 (by omega)
    exact sf_X5_pop (by omega) g1 h6 g2 (fun k row e h1 h2 => ⟨hin, fun d => absurd (c2.symm.trans d) (by decide), fun d => absurd (c2.symm.trans d) (by decide), fun _ => sf_X5_copyFrom (by omega) (by omega) h6 h2 (fun rows h3 => hq _ _ _ _ _ _ _ _ _ (by omega) (by omega) h1 h3 ⟨by omega, fun z => i0 (by omega), fun z => i1 (by omega), fun z => by omega⟩)⟩)
end Mg
end Cs
section Tx
variable {by_ : Nat → Int32} {ci ln at_ tk fl fa fp p : Int32}
end Tx
end
section
/-! few for many calls -/
theorem q_nlt {a b : Int32} : ¬ a < b ↔ b ≤ a := by rw [Int32.lt_iff_toInt_lt, Int32.le_iff_toInt_le]; omega
theorem q_nle {a b : Int32} : ¬ a ≤ b ↔ b < a := by rw [Int32.lt_iff_toInt_lt, Int32.le_iff_toInt_le]; omega
theorem q_cmp (x : Int64) : lg_cmp x x = 0 := by simp [lg_cmp]
section PuX
variable {Q : Int32 → Prop}
theorem q_w {p a b : Int32} (h1 : a ≤ p ∧ p ≤ b → Q 1) (h0 : ¬ (a ≤ p ∧ p ≤ b) → Q 0) : wq_X10_within p a b Q :=
  ⟨fun c => h0 (fun z => absurd z.1 (q_nle.mpr c)), fun c => ⟨fun c2 => h0 (fun z => absurd z.2 (q_nle.mpr c2)), fun c2 => h1 ⟨q_nlt.mp c, q_nlt.mp c2⟩⟩⟩
theorem q_wm {p a b : Int32} (h1 : a ≤ p ∧ p ≤ b → Q 1) (h0 : ¬ (a ≤ p ∧ p ≤ b) → Q 0) : wq_X11_within p a b Q :=
  ⟨fun c => h0 (fun z => absurd z.1 (q_nle.mpr c)), fun c => ⟨fun c2 => h0 (fun z => absurd z.2 (q_nle.mpr c2)), fun c2 => h1 ⟨q_nlt.mp c, q_nlt.mp c2⟩⟩⟩
end PuX
theorem q_nw {v p a b : Int32} {E : String → Int32 → Prop} {Q : Int32 → Prop} (hq : a ≤ p ∧ p ≤ b → Q v) (he : ¬ (a ≤ p ∧ p ≤ b) → E "java/lang/IllegalArgumentException" (v + 1)) : wq_X10_needWithin v p a b E Q :=
  q_w (fun h => ⟨fun _ => hq h, fun c => absurd c (by decide)⟩) (fun h => ⟨fun c => absurd rfl c, fun _ x e => by rw [e]; exact he h⟩)
theorem q_mayT {f : Nat → Int32} {a b : Int32} {Q : Int32 → Int32 → (Nat → Int32) → Prop} (h : Q 1 0 f) : wq_X11_may 0 f 1 a b Q :=
  ⟨fun _ => ⟨fun c => absurd rfl c, fun _ => h⟩, fun c => absurd c (by decide)⟩
theorem q_mayF {f : Nat → Int32} {a b : Int32} {Q : Int32 → Int32 → (Nat → Int32) → Prop} (ha : ¬ a = 0) (hb : vp_in b 2) (h : ∀ g, Q 0 a g) : wq_X11_may 0 f 0 a b Q :=
  ⟨fun c => absurd rfl c, fun _ => ⟨fun c => absurd rfl c, fun _ => ⟨hb, fun x3 _ x4 _ => ⟨hb, fun f5 _ => ⟨fun _ => h f5, fun c => absurd c ha⟩⟩⟩⟩⟩
theorem q_finO {fo : Nat → Int64} {r : Int64} : (((0 : Int32) = 0 → ((¬ (0 : Int32) = 0 → True) ∧ ((0 : Int32) = 0 → ∀ x16 : Int64, x16 = vp_updL fo (0 : Int32).toNatClampNeg r (0 : Int32).toNatClampNeg → (((lg_cmp x16 r) = 0 → True) ∧ (¬ (lg_cmp x16 r) = 0 → False))))) ∧ (¬ (0 : Int32) = 0 → False)) :=
  ⟨fun _ => ⟨fun _ => trivial, fun _ x16 e => by rw [e, pk_uLs]; exact ⟨fun _ => trivial, fun c => c (q_cmp r)⟩⟩, fun c => c rfl⟩
/-! few -/
theorem lN_div' {a b : Nat} (ha : a < 2 ^ 63) (hb : b < 2 ^ 63) : lN a / lN b = lN (a / b) := (Int64.ofNat_div ha hb).symm
theorem lN_rem {a b : Nat} (ha : a < 2 ^ 63) (hb : b < 2 ^ 63) : lN a - lN a / lN b * lN b = lN (a % b) := by
  rw [lN_div' ha hb, lN_mul, lN_sub (Nat.div_mul_le_self a b)]
  have h := Nat.mod_add_div' a b
  have e : a - a / b * b = a % b := by omega
  rw [e]
theorem lN_tI {a : Nat} (h : a < 2 ^ 63) : (lN a).toInt = (a : Int) := Int64.toInt_ofNat_of_lt h
theorem lN_and1 {a : Nat} (ha : a < 2 ^ 64) : lN a &&& 1 = lN (a % 2) := by
  apply Int64.toBitVec_inj.mp
  rw [Int64.toBitVec_and]
  apply BitVec.eq_of_toNat_eq
  show (BitVec.ofNat 64 a &&& BitVec.ofNat 64 1).toNat = (BitVec.ofNat 64 (a % 2)).toNat
  rw [BitVec.toNat_and, BitVec.toNat_ofNat, BitVec.toNat_ofNat, BitVec.toNat_ofNat, Nat.mod_eq_of_lt ha, Nat.mod_eq_of_lt (show a % 2 < 2 ^ 64 by omega)]
  exact Nat.and_one_is_mod a
theorem lN_shr {a d : Nat} {D : Int64} (hD : (D.toBitVec.smod 64).toNat = d) (h : a < 2 ^ 62) : lN a >>> D = lN (a / 2 ^ d) := by
  have hd : a / 2 ^ d ≤ a := Nat.div_le_self _ _
  apply Int64.toInt_inj.mp
  have e : (lN a >>> D).toInt = (lN a).toInt >>> d := by
    rw [← hD]
    exact BitVec.toInt_sshiftRight ..
  rw [e, Int.shiftRight_eq_div_pow, lN_tI (by omega), lN_tI (by omega)]
  rfl
theorem lN_shr1 {a : Nat} (h : a < 2 ^ 62) : lN a >>> ((1 : Int32).toInt64 &&& 63) = lN (a / 2) := lN_shr (d := 1) (by decide) h
theorem q_cmpI {x : Int64} : lg_cmp x 0 = 0 ↔ x = 0 := by
  constructor
  · intro h
    by_cases h1 : x > 0
    · unfold lg_cmp at h; rw [if_pos h1] at h; exact absurd h (by decide)
    · by_cases h2 : x = 0
      · exact h2
      · unfold lg_cmp at h; rw [if_neg h1, if_neg h2] at h; exact absurd h (by decide)
  · intro h; rw [h]; exact q_cmp 0
theorem lN_ne0 {a : Nat} (h0 : 0 < a) (h : a < 2 ^ 63) : ¬ lN a = 0 := fun e => by
  have h1 := congrArg Int64.toInt e
  rw [lN_tI h] at h1
  have z : (0 : Int64).toInt = 0 := by decide
  omega
def cbl : List (List Nat) := [[1], [1, 1], [1, 2, 1], [1, 3, 3, 1], [1, 4, 6, 4, 1], [1, 5, 10, 10, 5, 1], [1, 6, 15, 20, 15, 6, 1], [1, 7, 21, 35, 35, 21, 7, 1], [1, 8, 28, 56, 70, 56, 28, 8, 1], [1, 9, 36, 84, 126, 126, 84, 36, 9, 1], [1, 10, 45, 120, 210, 252, 210, 120, 45, 10, 1], [1, 11, 55, 165, 330, 462, 462, 330, 165, 55, 11, 1], [1, 12, 66, 220, 495, 792, 924, 792, 495, 220, 66, 12, 1]]
def cbn (n j : Nat) : Nat := (cbl.getD n []).getD j 0
def tt (n j q : Nat) : Nat := cbn n j * q ^ j * (16 - q) ^ (n - j)
def ss (n q : Nat) : Nat → Nat
  | 0 => 0
  | i + 1 => ss n q i + tt n i q
def hv : Nat → Nat → Nat → Nat × Nat
  | 0, a, b => (a, b)
  | k + 1, a, b => if a % 2 = 0 ∧ b % 2 = 0 then hv k (a / 2) (b / 2) else (a, b)
theorem pas_all : ((List.range 12).all fun n => (List.range 14).all fun j => (List.range 17).all fun q => tt (n + 1) j q == tt n j q * (16 - q) + (if j = 0 then 0 else tt n (j - 1) q * q)) = true := by decide +kernel
theorem pas {n j q : Nat} (hn : n < 12) (hj : j < 14) (hq : q < 17) : tt (n + 1) j q = tt n j q * (16 - q) + (if j = 0 then 0 else tt n (j - 1) q * q) := by
  have h1 := List.all_eq_true.mp pas_all n (List.mem_range.mpr hn)
  have h2 := List.all_eq_true.mp h1 j (List.mem_range.mpr hj)
  exact eq_of_beq (List.all_eq_true.mp h2 q (List.mem_range.mpr hq))
def fin1 (n k q : Nat) : Bool := decide (ss n q (min k n + 1) = ss n q (k + 1)) && (decide (ss n q (k + 1) < 2 ^ 50) && decide (hv 48 (ss n q (k + 1)) (16 ^ n) = (ss n q (k + 1) / Nat.gcd (ss n q (k + 1)) (16 ^ n), 16 ^ n / Nat.gcd (ss n q (k + 1)) (16 ^ n))))
theorem fin_all : ((List.range 13).all fun n => (List.range 13).all fun k => (List.range 17).all fun q => fin1 n k q) = true := by decide +kernel
theorem fin_at {n k q : Nat} (hn : n < 13) (hk : k < 13) (hq : q < 17) : ss n q (min k n + 1) = ss n q (k + 1) ∧ ss n q (k + 1) < 2 ^ 50 ∧ hv 48 (ss n q (k + 1)) (16 ^ n) = (ss n q (k + 1) / Nat.gcd (ss n q (k + 1)) (16 ^ n), 16 ^ n / Nat.gcd (ss n q (k + 1)) (16 ^ n)) := by
  have h1 := List.all_eq_true.mp fin_all n (List.mem_range.mpr hn)
  have h2 := List.all_eq_true.mp h1 k (List.mem_range.mpr hk)
  have h3 := List.all_eq_true.mp h2 q (List.mem_range.mpr hq)
  unfold fin1 at h3
  rw [Bool.and_eq_true, Bool.and_eq_true] at h3
  exact ⟨of_decide_eq_true h3.1, of_decide_eq_true h3.2.1, of_decide_eq_true h3.2.2⟩
theorem p16 {n : Nat} (hn : n < 13) : 0 < 16 ^ n ∧ 16 ^ n < 2 ^ 62 := ⟨Nat.pow_pos (by decide), Nat.lt_of_le_of_lt (Nat.pow_le_pow_right (by decide) (show n ≤ 12 by omega)) (by decide)⟩
/-- choices -/
def chF : Nat → Int32 → Int32 → Int64 → Int32 → Option Int64
  | 0, _, _, _, _ => none
  | n + 1, l0, l1, l2, l4 => if l1 < l4 then some l2 else if l4.toInt64 = 0 then none else chF n l0 l1 ((l2 * (((l0 - l4) + 1).toInt64)) / l4.toInt64) (l4 + 1)
theorem chF_wl {Q : Int64 → Prop} {r : Int64} (hq : Q r) : ∀ (n : Nat) (l0 l1 : Int32) (l2 : Int64) (l4 : Int32), chF n l0 l1 l2 l4 = some r → wl_X10_choices_5 Q n l0 l1 l2 l4 := by
  intro n
  induction n with
  | zero => intro l0 l1 l2 l4 h; exact absurd h (by simp [chF])
  | succ n ih =>
    intro l0 l1 l2 l4 h
    rw [chF] at h
    refine ⟨fun c => ?_, fun c => ?_⟩
    · rw [if_pos c] at h; cases h; exact hq
    · rw [if_neg c] at h
      by_cases h0 : l4.toInt64 = 0
      · rw [if_pos h0] at h; cases h
      · rw [if_neg h0] at h
        refine ⟨h0, fun x2 e2 x3 e3 => ?_⟩
        rw [e2, e3]
        exact ih _ _ _ _ h
theorem ch_tab : ∀ a : Fin 13, ∀ b : Fin 13, chF 14 (nI a.val) (nI b.val) 1 1 = some (lN (cbn a.val b.val)) := by decide +kernel
theorem q_chs {Q : Int64 → Prop} {a b : Nat} (ha : a < 13) (hb : b < 13) (hq : Q (lN (cbn a b))) : wq_X10_choices (nI a) (nI b) Q := ⟨14, chF_wl hq 14 _ _ _ _ (ch_tab ⟨a, ha⟩ ⟨b, hb⟩)⟩
theorem q_pow {Q : Int64 → Prop} {base : Int32} {B T : Nat} (hb : base.toInt64 = lN B) (hT : T < 1000) (hq : Q (lN (B ^ T))) : ∀ (k i : Nat), i + k = T → wl_X10_power_5 Q (k + 1) base (nI T) (lN (B ^ i)) (nI i) := by
  intro k
  induction k with
  | zero =>
    intro i hi
    obtain rfl : i = T := by omega
    exact ⟨fun _ => hq, fun c => absurd (nI_le (Nat.le_refl _) (by omega)) c⟩
  | succ k ih =>
    intro i hi
    refine ⟨fun c => absurd c (nI_ge (by omega) (by omega)), fun _ x2 e2 x3 e3 => ?_⟩
    rw [e2, e3, hb, nI_1, lN_mul, ← Nat.pow_succ]
    exact ih (i + 1) (by omega)
theorem q_pw {Q : Int64 → Prop} {base : Int32} {B T : Nat} (hb : base.toInt64 = lN B) (hT : T < 1000) (hq : Q (lN (B ^ T))) : wq_X10_power base (nI T) Q := ⟨T + 1, q_pow hb hT hq T 0 (by omega)⟩
theorem q_w16 : ∀ q : Fin 17, (nI q.val).toInt64 = lN q.val ∧ (16 - nI q.val : Int32).toInt64 = lN (16 - q.val) := by decide +kernel
theorem q_s13 : ∀ a : Fin 13, ∀ b : Fin 13, b.val ≤ a.val → nI a.val - nI b.val = nI (a.val - b.val) := by decide +kernel
theorem q_sh : ∀ a : Fin 13, (1 : Int64) <<< ((4 * nI a.val).toInt64 &&& 63) = lN (16 ^ a.val) := by decide +kernel
section FewC
variable {E : String → Int32 → Prop} {Q : Int64 → Int32 → Prop} {v p4 : Int32}
theorem q_hv : ∀ (k i a b : Nat), i + k = 48 → a < 2 ^ 62 → b < 2 ^ 62 → wb_X10_few_139 E Q v p4 (lN (hv k a b).1) (lN (hv k a b).2) → wl_X10_few_96 E Q (k + 1) v p4 (lN a) (lN b) (nI i) := by
  intro k
  induction k with
  | zero =>
    intro i a b hi ha hb h
    obtain rfl : i = 48 := by omega
    exact ⟨fun _ => h, fun c => absurd (by decide) c⟩
  | succ k ih =>
    intro i a b hi ha hb h
    rw [hv] at h
    refine ⟨fun c => absurd c (nI_ge (b := 48) (by omega) (by omega)), fun _ => ?_⟩
    rw [lN_and1 (by omega), lN_and1 (by omega)]
    refine ⟨fun c => ?_, fun c => ⟨fun c2 => ?_, fun c2 x16 e16 x17 e17 x18 e18 => ?_⟩⟩
    · rw [if_neg (fun z => c (q_cmpI.mpr (by rw [z.1]; rfl)))] at h
      exact h
    · rw [if_neg (fun z => c2 (q_cmpI.mpr (by rw [z.2]; rfl)))] at h
      exact h
    · have ea : a % 2 = 0 := by
        rcases Nat.mod_two_eq_zero_or_one a with z | z
        · exact z
        · rw [z] at c; exact absurd (q_cmpI.mp c) (by decide)
      have eb : b % 2 = 0 := by
        rcases Nat.mod_two_eq_zero_or_one b with z | z
        · exact z
        · rw [z] at c2; exact absurd (q_cmpI.mp c2) (by decide)
      rw [if_pos ⟨ea, eb⟩] at h
      rw [e16, e17, e18, nI_1, lN_shr1 ha, lN_shr1 hb]
      exact ih (i + 1) (a / 2) (b / 2) (by omega) (by omega) (by omega) h
theorem q_fewC {N K q : Nat} (hN : N < 13) (hK : K < 13) (hq : q < 17) (h : wb_X10_few_139 E Q v p4 (lN (hv 48 (ss N q (min K N + 1)) (16 ^ N)).1) (lN (hv 48 (ss N q (min K N + 1)) (16 ^ N)).2)) :
    ∀ (k i : Nat), i + k = min K N + 1 → wl_X10_few_38 E Q (k + 1) v (nI N) (nI K) (nI q) p4 (lN (ss N q i)) (nI i) := by
  intro k
  induction k with
  | zero =>
    intro i hi
    obtain rfl : i = min K N + 1 := by omega
    have hx : wb_X10_few_86 E Q v (nI N) p4 (lN (ss N q (min K N + 1))) := by
      intro x12 e12
      have e13 : x12 = lN (16 ^ N) := e12.trans (q_sh ⟨N, hN⟩)
      rw [e13]
      have hb := fin_at hN hK hq
      exact ⟨49, q_hv 48 0 _ _ (by omega) (by rw [hb.1]; exact Nat.lt_of_lt_of_le hb.2.1 (by decide)) (p16 hN).2 h⟩
    by_cases hKN : K ≤ N
    · have e : min K N = K := Nat.min_eq_left hKN
      exact ⟨fun _ => hx, fun c => absurd (by rw [e]; exact nI_lt (Nat.lt_succ_self K) (by omega)) c⟩
    · have e : min K N = N := Nat.min_eq_right (by omega)
      exact ⟨fun _ => hx, fun _ => ⟨fun _ => hx, fun c => absurd (by rw [e]; exact nI_lt (Nat.lt_succ_self N) (by omega)) c⟩⟩
  | succ k ih =>
    intro i hi
    have h1 : i ≤ K := Nat.le_trans (by omega) (Nat.min_le_left K N)
    have h2 : i ≤ N := Nat.le_trans (by omega) (Nat.min_le_right K N)
    refine ⟨fun c => absurd c (nI_nlt h1 (by omega)), fun _ => ⟨fun c => absurd c (nI_nlt h2 (by omega)), fun _ => ?_⟩⟩
    refine q_chs hN (by omega) ?_
    refine q_pw (q_w16 ⟨q, hq⟩).1 (by omega) ?_
    have es : nI N - nI i = nI (N - i) := q_s13 ⟨N, hN⟩ ⟨i, by omega⟩ h2
    rw [es]
    refine q_pw (q_w16 ⟨q, hq⟩).2 (by omega) ?_
    intro x10 e10 x11 e11
    rw [e10, e11, nI_1, lN_mul, lN_mul, lN_add]
    exact ih (i + 1) (by omega)
end FewC
theorem q_ls {Q : Int64 → Prop} {p4 : Int32} {U B g : Nat} (hU : U < 2 ^ 62) (hB : B < 2 ^ 62) (hq : Q (lN ((if p4 = 0 then U else B) / g))) : ∀ (k x y : Nat), y < k → x < 2 ^ 62 → y < 2 ^ 62 → (0 < x ∨ 0 < y) → Nat.gcd x y = g → wl_X11_least_6 Q k (lN U) (lN B) p4 (lN x) (lN y) := by
  intro k
  induction k with
  | zero => intro x y hy; exact absurd hy (Nat.not_lt_zero y)
  | succ k ih =>
    intro x y hy hx hy2 hp hg
    by_cases y0 : y = 0
    · subst y0
      rw [Nat.gcd_zero_right] at hg
      subst hg
      have hx0 : 0 < x := hp.resolve_right (Nat.lt_irrefl 0)
      refine ⟨fun _ => ⟨fun c => ⟨lN_ne0 hx0 (by omega), fun x3 e3 => ?_⟩, fun c => ⟨lN_ne0 hx0 (by omega), fun x3 e3 => ?_⟩⟩, fun c => absurd (q_cmpI.mpr rfl) c⟩
      · rw [e3, lN_div' (by omega) (by omega)]; rw [if_neg c] at hq; exact hq
      · rw [e3, lN_div' (by omega) (by omega)]; rw [if_pos c] at hq; exact hq
    · have hy0 : 0 < y := Nat.pos_of_ne_zero y0
      have hm : x % y < y := Nat.mod_lt x hy0
      refine ⟨fun c => absurd (q_cmpI.mp c) (lN_ne0 hy0 (by omega)), fun _ => ⟨lN_ne0 hy0 (by omega), fun x5 e5 => ?_⟩⟩
      rw [e5, lN_rem (by omega) (by omega)]
      refine ih y (x % y) (by omega) hy2 (by omega) (Or.inl hy0) ?_
      rw [Nat.gcd_comm, ← Nat.gcd_rec, Nat.gcd_comm]
      exact hg
theorem q_least {Q : Int64 → Prop} {p4 : Int32} {U B : Nat} (hU : U < 2 ^ 62) (hB : B < 2 ^ 62) (hB0 : 0 < B) (hq : Q (lN ((if p4 = 0 then U else B) / Nat.gcd U B))) : wq_X11_least (lN U) (lN B) p4 Q :=
  ⟨B + 1, q_ls hU hB hq (B + 1) U B (by omega) hU hB (Or.inr hB0) rfl⟩
section FewM
variable {Q : Int64 → Int32 → (Nat → Int32) → (Nat → Int64) → Prop} {v p4 : Int32} {rf : Nat → Int32} {N K q : Nat}
theorem q_f183 {f : Nat → Int64} {B : Nat} (hK : K < 13) (hf : ∀ j, j < 14 → f j = lN (tt N j q)) (h : wq_X11_least (lN (ss N q (K + 1))) (lN B) p4 (fun r => Q r v rf f)) :
    ∀ (k i : Nat), i + k = K + 1 → wl_X11_few_183 Q (k + 1) v rf f (nI K) p4 (lN B) (lN (ss N q i)) (nI i) := by
  intro k
  induction k with
  | zero =>
    intro i hi
    obtain rfl : i = K + 1 := by omega
    exact ⟨fun _ => h, fun c => absurd (nI_lt (Nat.lt_succ_self K) (by omega)) c⟩
  | succ k ih =>
    intro i hi
    refine ⟨fun c => absurd c (nI_nlt (by omega) (by omega)), fun _ => ⟨vp_in_nI (by omega) (by omega), fun x20 e20 x21 e21 x22 e22 => ?_⟩⟩
    rw [nI_clamp (by omega), hf i (by omega)] at e20
    rw [e21, e20, e22, nI_1, lN_add]
    exact ih (i + 1) (by omega)
theorem q_m1 : ∀ m : Fin 14, nI (m.val + 1) - 1 = nI m.val ∧ nI m.val + (-1) = nI m.val - 1 ∧ (¬ nI m.val < 0) ∧ (m.val ≠ 0 → ¬ nI m.val ≤ 0) ∧ (m.val ≠ 0 → nI m.val - 1 = nI (m.val - 1)) := by decide +kernel
theorem q_f110 {K100 : Int32 → (Nat → Int32) → (Nat → Int64) → Int32 → Int32 → Int32 → Int32 → Int64 → Int32 → Prop} {i : Nat} (hi : i < 12) (hq : q < 17) (hK : ∀ f : Nat → Int64, (∀ j, j < 14 → f j = lN (tt (i + 1) j q)) → K100 v rf f (nI N) (nI K) (nI q) p4 (lN (16 ^ (i + 1))) (nI (i + 1))) :
    ∀ (m : Nat) (f : Nat → Int64), m ≤ 14 → (∀ j, j < m → f j = lN (tt i j q)) → (∀ j, m ≤ j → j < 14 → f j = lN (tt (i + 1) j q)) → wl_X11_few_110 Q K100 (m + 1) v rf f (nI N) (nI K) (nI q) p4 (lN (16 ^ i)) (nI i) (nI m - 1) := by
  intro m
  induction m with
  | zero =>
    intro f hm h1 h2
    refine ⟨fun _ x24 e24 x25 e25 => ?_, fun c => absurd (by decide) c⟩
    have e : (16 : Int64) = lN 16 := rfl
    rw [e24, e25, nI_1, e, lN_mul, ← Nat.pow_succ]
    exact hK f (fun j hj => h2 j (Nat.zero_le j) hj)
  | succ m ih =>
    intro f hm h1 h2
    obtain ⟨z1, z2, z3, z4, z5⟩ := q_m1 ⟨m, by omega⟩
    have z1 : nI (m + 1) - 1 = nI m := z1
    have z2 : nI m + (-1) = nI m - 1 := z2
    rw [z1]
    have step : ∀ x30 : Int64, x30 = lN (tt (i + 1) m q) → vp_in (nI m) 14 ∧ ∀ f31 : Nat → Int64, f31 = vp_updL f (nI m).toNatClampNeg x30 → ∀ x32 : Int32, x32 = nI m + (-1) → wl_X11_few_110 Q K100 (m + 1) v rf f31 (nI N) (nI K) (nI q) p4 (lN (16 ^ i)) (nI i) x32 := by
      intro x30 e30
      refine ⟨vp_in_nI (by omega) (by omega), fun f31 e31 x32 e32 => ?_⟩
      rw [e32, z2]
      rw [nI_clamp (by omega)] at e31
      refine ih f31 (by omega) (fun j hj => ?_) (fun j hj hj2 => ?_)
      · rw [e31, pk_uLn (by omega)]; exact h1 j (by omega)
      · by_cases hjm : j = m
        · rw [e31, hjm, pk_uLs, e30]
        · rw [e31, pk_uLn hjm]; exact h2 j (by omega) hj2
    have w1 : (nI q).toInt64 = lN q := (q_w16 ⟨q, hq⟩).1
    have w2 : (16 - nI q : Int32).toInt64 = lN (16 - q) := (q_w16 ⟨q, hq⟩).2
    have hp := pas (n := i) (j := m) (q := q) hi (by omega) hq
    refine ⟨fun c => absurd c z3, fun _ => ⟨vp_in_nI (by omega) (by omega), fun x26 e26 => ?_⟩⟩
    rw [nI_clamp (by omega), h1 m (by omega)] at e26
    by_cases hm0 : m = 0
    · rw [if_pos hm0] at hp
      refine ⟨fun _ x30 e30 => step x30 ?_, fun c => absurd (by rw [hm0]; decide) c⟩
      rw [e30, e26, w2, lN_mul, hp]
      exact lN_add _ 0
    · rw [if_neg hm0] at hp
      refine ⟨fun c => absurd c (z4 hm0), fun _ x28 e28 => ?_⟩
      have e28 : x28 = nI (m - 1) := by rw [e28]; exact z5 hm0
      refine ⟨by rw [e28]; exact vp_in_nI (by omega) (by omega), fun x29 e29 x30 e30 => step x30 ?_⟩
      rw [e28, nI_clamp (by omega), h1 (m - 1) (by omega)] at e29
      rw [e30, e26, e29, w2, w1, lN_mul, lN_mul, lN_add, hp]
theorem q_f100 (hN : N < 13) (hK : K < 13) (hq : q < 17) (h : ∀ f : Nat → Int64, (∀ j, j < 14 → f j = lN (tt N j q)) → wq_X11_least (lN (ss N q (K + 1))) (lN (16 ^ N)) p4 (fun r => Q r v rf f)) :
    ∀ (k i : Nat) (f : Nat → Int64), i + k = N → (∀ j, j < 14 → f j = lN (tt i j q)) → wl_X11_few_100 Q (k + 1) v rf f (nI N) (nI K) (nI q) p4 (lN (16 ^ i)) (nI i) := by
  intro k
  induction k with
  | zero =>
    intro i f hi hf
    obtain rfl : i = N := by omega
    exact ⟨fun _ => ⟨K + 2, q_f183 hK hf (h f hf) (K + 1) 0 (by omega)⟩, fun c => absurd (nI_le (Nat.le_refl _) (by omega)) c⟩
  | succ k ih =>
    intro i f hi hf
    refine ⟨fun c => absurd c (nI_ge (by omega) (by omega)), fun _ => ⟨15, ?_⟩⟩
    exact q_f110 (by omega) hq (fun g hg => ih (i + 1) g (by omega) hg) 14 f (Nat.le_refl _) (fun j hj => hf j hj) (fun j h1 h2 => absurd h2 (by omega))
theorem cbn0 : ∀ i : Fin 14, i.val ≠ 0 → cbn 0 i.val = 0 := by decide +kernel
theorem q_f64 (hN : N < 13) (hK : K < 13) (hq : q < 17) (h : ∀ f : Nat → Int64, (∀ j, j < 14 → f j = lN (tt N j q)) → wq_X11_least (lN (ss N q (K + 1))) (lN (16 ^ N)) p4 (fun r => Q r v rf f)) :
    ∀ (k i : Nat) (f : Nat → Int64), i + k = 14 → (∀ j, j < i → f j = lN (tt 0 j q)) → wl_X11_few_64 Q (k + 1) v rf f (nI N) (nI K) (nI q) p4 (nI i) := by
  intro k
  induction k with
  | zero =>
    intro i f hi hf
    obtain rfl : i = 14 := by omega
    exact ⟨fun _ => ⟨N + 1, q_f100 hN hK hq h N 0 f (by omega) hf⟩, fun c => absurd (by decide) c⟩
  | succ k ih =>
    intro i f hi hf
    have step : ∀ w : Int64, w = lN (tt 0 i q) → vp_in (nI i) 14 ∧ ∀ f16 : Nat → Int64, f16 = vp_updL f (nI i).toNatClampNeg w → ∀ x17 : Int32, x17 = nI i + 1 → wl_X11_few_64 Q (k + 1) v rf f16 (nI N) (nI K) (nI q) p4 x17 := by
      intro w ew
      refine ⟨vp_in_nI (by omega) (by omega), fun f16 e16 x17 e17 => ?_⟩
      rw [e17, nI_1]
      rw [nI_clamp (by omega)] at e16
      refine ih (i + 1) f16 (by omega) (fun j hj => ?_)
      by_cases hji : j = i
      · rw [e16, hji, pk_uLs, ew]
      · rw [e16, pk_uLn hji]; exact hf j (by omega)
    refine ⟨fun c => absurd c (nI_ge (b := 14) (by omega) (by omega)), fun _ => ?_⟩
    by_cases hi0 : i = 0
    · refine ⟨fun c => absurd (by rw [hi0]; rfl) c, fun _ => step 1 ?_⟩
      rw [hi0]
      have e : tt 0 0 q = 1 := by show 1 * q ^ 0 * (16 - q) ^ 0 = 1; simp
      exact (congrArg lN e).symm
    · refine ⟨fun _ => step 0 ?_, fun c => absurd c (nI_ne0 (by omega) (by omega))⟩
      have e : tt 0 i q = 0 := by unfold tt; rw [cbn0 ⟨i, by omega⟩ hi0, Nat.zero_mul, Nat.zero_mul]
      exact (congrArg lN e).symm
end FewM
end
section
/-- few of the class, whatever its answer is -/
theorem sf_L_few {cl y1 y2 y3 y4 : Int32} {fo : Nat → Int64} {Q : Int32 → Int32 → (Nat → Int64) → Prop} (hq : ∀ (r x : Int32) (f : Nat → Int64), Q r x f) : wq_L_few 1 cl fo y1 y2 y3 y4 Q := by
  refine q_nw (fun h1 => ?_) (fun c => ⟨rfl, hq _ _ _⟩)
  refine q_nw (fun h2 => ?_) (fun c => ⟨rfl, hq _ _ _⟩)
  refine q_nw (fun h3 => ?_) (fun c => ⟨rfl, hq _ _ _⟩)
  refine q_nw (fun h4 => ?_) (fun c => ⟨rfl, hq _ _ _⟩)
  obtain ⟨N, hN, rfl⟩ := nI_of2 (M := 12) (n := 12) rfl (q_nlt.mpr h1.1) h1.2
  obtain ⟨K, hK, rfl⟩ := nI_of2 (M := 12) (n := 12) rfl (q_nlt.mpr h2.1) h2.2
  obtain ⟨q, hq', rfl⟩ := nI_of2 (M := 16) (n := 16) rfl (q_nlt.mpr h3.1) h3.2
  refine ⟨min K N + 2, q_fewC (by omega) (by omega) (by omega) ?_ (min K N + 1) 0 (by omega)⟩
  exact ⟨fun c => ⟨vin (by decide), fun f5 e5 => hq _ _ _⟩, fun c => ⟨vin (by decide), fun f5 e5 => hq _ _ _⟩⟩
/-- few of the reference, whatever its answer is -/
theorem sf_X11_few {th y1 y2 y3 y4 : Int32} {rf : Nat → Int32} {sn : Nat → Int64} {Q : Int64 → Int32 → (Nat → Int32) → (Nat → Int64) → Prop} (hq : ∀ (r : Int64) (x : Int32) (f : Nat → Int32) (g : Nat → Int64), Q r x f g) : wq_X11_few th rf sn y1 y2 y3 y4 Q := by
  have hf : wb_X11_few_50 Q 0 rf sn y1 y2 y3 y4 := q_mayF (by decide) (vin (by decide)) (fun g => ⟨fun c => absurd rfl c, fun _ => hq _ _ _ _⟩)
  refine q_wm (fun h1 => ⟨fun c => absurd c (by decide), fun _ => ?_⟩) (fun _ => ⟨fun _ => hf, fun c => absurd rfl c⟩)
  refine q_wm (fun h2 => ⟨fun c => absurd c (by decide), fun _ => ?_⟩) (fun _ => ⟨fun _ => hf, fun c => absurd rfl c⟩)
  refine q_wm (fun h3 => ⟨fun c => absurd c (by decide), fun _ => ?_⟩) (fun _ => ⟨fun _ => hf, fun c => absurd rfl c⟩)
  refine q_wm (fun h4 => ⟨fun c => absurd c (by decide), fun _ => ?_⟩) (fun _ => ⟨fun _ => hf, fun c => absurd rfl c⟩)
  clear hf
  obtain ⟨N, hN, rfl⟩ := nI_of2 (M := 12) (n := 12) rfl (q_nlt.mpr h1.1) h1.2
  obtain ⟨K, hK, rfl⟩ := nI_of2 (M := 12) (n := 12) rfl (q_nlt.mpr h2.1) h2.2
  obtain ⟨q, hq', rfl⟩ := nI_of2 (M := 16) (n := 16) rfl (q_nlt.mpr h3.1) h3.2
  have hb := fin_at (n := N) (k := K) (q := q) (by omega) (by omega) (by omega)
  have hp := p16 (n := N) (by omega)
  have hU : ss N q (K + 1) < 2 ^ 62 := Nat.lt_of_lt_of_le hb.2.1 (by decide)
  refine q_mayT ⟨fun _ => ?_, fun c => absurd c (by decide)⟩
  exact ⟨15, q_f64 (by omega) (by omega) (by omega) (fun f hf => q_least hU hp.2 hp.1 (hq _ _ _ _)) 14 0 _ (by omega) (fun j h => absurd h (Nat.not_lt_zero j))⟩
end
section
/-! the tape's count of the class, told exactly (p2) -/
/-- a text of p signs can be opened on a tape of a, where at most M are let through -/
def uOk (p a : Int32) (M : Int) : Prop := 0 ≤ p.toInt ∧ p.toInt ≤ a.toInt ∧ p.toInt ≤ M
theorem u_X10_needWithin {v p a b : Int32} {E : String → Int32 → Prop} {Q : Int32 → Prop} (he : ¬ (a.toInt ≤ p.toInt ∧ p.toInt ≤ b.toInt) → E "java/lang/IllegalArgumentException" (v + 1)) (hq : a.toInt ≤ p.toInt → p.toInt ≤ b.toInt → Q v) : wq_X10_needWithin v p a b E Q :=
  q_nw (fun h => hq (t_le.mp h.1) (t_le.mp h.2)) (fun h => he (fun z => h ⟨t_le.mpr z.1, t_le.mpr z.2⟩))
theorem u_X10_openText {ci ln at_ tk fi fa fp p most : Int32} {M : Int} (eM : most.toInt = M) {E : String → Int32 → Int32 → Int32 → Int32 → Int32 → Int32 → Int32 → Prop} {Q : Int32 → Int32 → Int32 → Int32 → Int32 → Int32 → Int32 → Prop} (hf : fi.toInt ≤ 600)
    (he : ¬ uOk p fi M → E "java/lang/IllegalArgumentException" (ci + 1) ln at_ tk fi fa fp) (hq : uOk p fi M → ∀ x : Int32, 0 ≤ x.toInt → x.toInt ≤ fi.toInt → x.toInt ≤ most.toInt → x = p → Q ci x 0 0 0 0 (-1)) : wq_X10_openText ci ln at_ tk fi fa fp p most E Q := by
  intro x1 e1
  have hx1 : (fi.toInt < most.toInt ∧ x1.toInt = fi.toInt) ∨ (most.toInt ≤ fi.toInt ∧ x1.toInt = most.toInt) := by
    rw [e1]
    by_cases c : fi < most
    · rw [if_pos c]; rw [t_lt] at c; omega
    · rw [if_neg c]; rw [t_lt] at c; omega
  refine u_X10_needWithin (fun h => he (fun z => h ⟨by rw [t_0]; exact z.1, by have z1 := z.2.1; have z2 := z.2.2; omega⟩)) (fun g0 g1 x e => ?_)
  rw [t_0] at g0
  have ex : x = p := by
    rw [e]
    by_cases c : 600 < p
    · rw [t_lt, t_600] at c; omega
    · rw [if_neg c]
  exact hq ⟨g0, by omega, by omega⟩ x (by rw [ex]; exact g0) (by rw [ex]; omega) (by rw [ex]; omega) ex
theorem u_X10_book {al as_ : Nat} {fo ci ln at_ tk fi fa fp mn p : Int32} {by_ sn : Nat → Int32} {r1 r2 : Value} {E : String → Int32 → Int32 → Int32 → Int32 → Int32 → Int32 → Int32 → Int32 → (Nat → Int32) → Value → Value → Prop} {Q : Int32 → Int32 → Int32 → Int32 → Int32 → Int32 → Int32 → Int32 → Int32 → (Nat → Int32) → Value → Value → Prop} (hf : fi.toInt ≤ 600) (h0 : 0 ≤ fo.toInt) (h1 : fo.toInt ≤ 8)
    (he : ¬ uOk p fi 60 → E "java/lang/IllegalArgumentException" (ci + 1) ln at_ tk fi fa fp mn sn (.ref al) (.ref as_))
    (hq : uOk p fi 60 → ∀ (r ln2 at2 tk2 fa2 fp2 mn2 : Int32) (sn2 : Nat → Int32) (q1 q2 : Value), 0 ≤ ln2.toInt → ln2.toInt ≤ 600 → 0 ≤ at2.toInt → at2.toInt ≤ 600 → (q1 = .ref as_ ∧ q2 = .ref al ∨ q1 = .ref al ∧ q2 = .ref as_) → Q r ci ln2 at2 tk2 0 fa2 fp2 mn2 sn2 q1 q2) : wq_X10_book al as_ fo by_ ci ln at_ tk fi fa fp mn sn r1 r2 p E Q := by
  refine u_X10_openText (by decide) hf he (fun hu x g0 g1 g2 _ => sf_X0_readFrom (by omega) (by decide) (by decide) h0 h1 (fun mn2 sn2 a f2 fp2 t2 k0 k1 => sf_X8_isFaulty (fun _ => ⟨fun _ => ?_, fun c => absurd rfl c⟩) (fun _ => ⟨fun c => absurd c (by decide), fun _ => ?_⟩)))
  · exact hq hu _ _ _ _ _ _ _ _ _ _ g0 (by omega) k0 k1 (Or.inl ⟨rfl, rfl⟩)
  · exact hq hu _ _ _ _ _ _ _ _ _ _ g0 (by omega) k0 k1 (Or.inr ⟨rfl, rfl⟩)
theorem u_X10_law {by_ : Nat → Int32} {ci ln at_ tk fl fa fp p : Int32} {arl asr : Nat} {sl : Int32} {sk sv : Nat → Int32} {rr rsr nl : Value}
    {E : String → Int32 → Int32 → Int32 → Int32 → Int32 → Int32 → Int32 → Int32 → (Nat → Int32) → (Nat → Int32) → Value → Value → Value → Prop}
    {Q : Int32 → Int32 → Int32 → Int32 → Int32 → Int32 → Int32 → Int32 → Int32 → (Nat → Int32) → (Nat → Int32) → Value → Value → Value → Prop}
    (f1 : fl.toInt ≤ 600) (he : ¬ uOk p fl 150 → E "java/lang/IllegalArgumentException" (ci + 1) ln at_ tk fl fa fp sl sk sv (.ref arl) (.ref asr) nl)
    (hbad : uOk p fl 150 → ∀ (r ln at_ tk fa fp sl : Int32) (sk sv : Nat → Int32), Q r ci ln at_ tk 0 fa fp sl sk sv (.ref arl) (.ref asr) nl)
    (hok : uOk p fl 150 → ∀ (r ln at_ tk fa fp sl : Int32) (sk sv : Nat → Int32), sLaw sl sk sv → Q r ci ln at_ tk 0 fa fp sl sk sv (.ref asr) (.ref arl) (.ref asr)) :
    wq_X10_law_s arl asr by_ ci ln at_ tk fl fa fp sl sk sv rr rsr nl p E Q := by
  refine u_X10_openText (by decide) f1 he (fun hu y y0 y1 y2 _ => sf_X4_readFrom_s (by omega) (by decide) (by decide) (fun ln a t f fp kd vl a0 a1 hl => sf_X8_isFaulty (fun z => ⟨fun _ => ?_, fun c => absurd rfl c⟩) (fun z => ⟨fun c => absurd c (by decide), fun _ => hbad hu _ _ _ _ _ _ _ _ _⟩)))
  exact hok hu _ _ _ _ _ _ _ _ _ hl
theorem u_X10_work {n h sf : Int32} {by_ X Y : Nat → Int32} {rl : Int32} {rk rv sr : Nat → Int32} {ci ln at_ tk fl fa fp sh sn sl so : Int32} {s2 sk s1 s3 hd pr : Nat → Int32} {pk dn rf : Int32} {fc pl row ro : Nat → Int32} {rs p : Int32}
    {E : String → Int32 → Int32 → Int32 → Int32 → Int32 → Int32 → Int32 → Int32 → Int32 → Int32 → Int32 → (Nat → Int32) → (Nat → Int32) → (Nat → Int32) → (Nat → Int32) → (Nat → Int32) → (Nat → Int32) → Int32 → Int32 → Int32 → (Nat → Int32) → (Nat → Int32) → (Nat → Int32) → (Nat → Int32) → Int32 → Prop}
    {Q : Int32 → Int32 → Int32 → Int32 → Int32 → Int32 → Int32 → Int32 → Int32 → Int32 → Int32 → Int32 → (Nat → Int32) → (Nat → Int32) → (Nat → Int32) → (Nat → Int32) → (Nat → Int32) → (Nat → Int32) → Int32 → Int32 → Int32 → (Nat → Int32) → (Nat → Int32) → (Nat → Int32) → (Nat → Int32) → Int32 → Prop}
    (f1 : fl.toInt ≤ 600) (h0 : 0 ≤ h.toInt) (h6 : h.toInt ≤ 6) (n0 : 0 ≤ n.toInt) (n8 : n.toInt ≤ 8) (hl : sLaw rl rk rv) (hs : sSits h n row) (k0 : 0 ≤ pk.toInt) (k1 : pk.toInt ≤ 16) (hp : sPast pk h n pr)
    (he : ¬ uOk p fl 150 → E "java/lang/IllegalArgumentException" (ci + 1) ln at_ tk fl fa fp sh sn sl so s2 sk s1 s3 hd pr pk dn rf fc pl row ro rs)
    (hq : uOk p fl 150 → ∀ (r ln at_ tk fa fp sh sn sl so : Int32) (s2 sk s1 s3 hd pr : Nat → Int32) (pk dn rf : Int32) (fc pl row ro : Nat → Int32) (rs : Int32), 0 ≤ pk.toInt → pk.toInt ≤ 16 → sPast pk h n pr → sSits h n row → Q r ci ln at_ tk 0 fa fp sh sn sl so s2 sk s1 s3 hd pr pk dn rf fc pl row ro rs) :
    wq_X10_work_s n h sf by_ X Y rl rk rv sr ci ln at_ tk fl fa fp sh sn sl so s2 sk s1 s3 hd pr pk dn rf fc pl row ro rs p E Q := by
  refine u_X10_openText (by decide) f1 he (fun hu y y0 y1 y2 _ => ⟨fun c => sf_X9_readFrom (by omega) (by decide) (by decide) h0 h6 n0 n8 (fun ln op a t s kd fi th f fp hd a0 a1 hw hc => sf_X8_isFaulty (fun z => ⟨fun _ => ?_, fun c => absurd rfl c⟩) (fun z => ⟨fun c => absurd c (by decide), fun _ => hq hu _ _ _ _ _ _ _ _ _ _ _ _ _ _ _ _ _ _ _ _ _ _ _ _ k0 k1 hp hs⟩)), fun _ => hq hu _ _ _ _ _ _ _ _ _ _ _ _ _ _ _ _ _ _ _ _ _ _ _ _ k0 k1 hp hs⟩)
  rw [t_lt, t_16] at c
  rw [z] at hw
  exact sf_X5_push k0 k1 h6 hs hp (fun rows k2 e h2 => sf_X9_runOn hw h6 n8 hl hs (fun d rf op fc pl row ro hr => hq hu _ _ _ _ _ _ _ _ _ _ _ _ _ _ _ _ _ _ _ _ _ _ _ _ (by omega) (by omega) h2 hr))
end
