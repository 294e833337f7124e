theorem sf_X4_readFrom_s {v1_length : Int32} {f1_bytes : Nat → Int32} {v0_length : Int32} {v1_at : Int32} {v1_token : Int32} {v1_fault : Int32} {v1_faultPlace : Int32} {f0_kinds : Nat → Int32} {f0_values : Nat → Int32} {Q : Int32 → Int32 → Int32 → Int32 → Int32 → (Nat → Int32) → (Nat → Int32) → Prop}  (a0 : v1_length.toInt ≤ 600) (a1 : 0 ≤ v1_at.toInt) (a2 : v1_at.toInt ≤ 600) (hq : ∀ (length : Int32) (at_ : Int32) (token : Int32) (fault : Int32) (faultPlace : Int32) (kinds : (Nat → Int32)) (values : (Nat → Int32)), (0 ≤ at_.toInt) → (at_.toInt ≤ 600) → (sLaw length kinds values) → Q length at_ token fault faultPlace kinds values) : wq_X4_readFrom_s v1_length f1_bytes v0_length v1_at v1_token v1_fault v1_faultPlace f0_kinds f0_values Q := by
  refine sf_X4_readSum_s_r6  (by first | with_reducible assumption | omega | (simp only [t_0, t_1, t_2, t_3, t_4, t_6, t_8, t_m1, false_and, true_and, and_true, and_false, or_false, false_or, true_or, or_true, ne_eq, not_false_eq_true, not_true_eq_false]; done) | (simp only [t_0, t_1, t_2, t_3, t_4, t_6, t_8, t_m1, false_and, true_and, and_true, and_false, or_false, false_or, true_or, or_true, ne_eq, not_false_eq_true, not_true_eq_false]; omega) | exact sLaw_zero (by first | omega | decide)) (by first | with_reducible assumption | omega | (simp only [t_0, t_1, t_2, t_3, t_4, t_6, t_8, t_m1, false_and, true_and, and_true, and_false, or_false, false_or, true_or, or_true, ne_eq, not_false_eq_true, not_true_eq_false]; done) | (simp only [t_0, t_1, t_2, t_3, t_4, t_6, t_8, t_m1, false_and, true_and, and_true, and_false, or_false, false_or, true_or, or_true, ne_eq, not_false_eq_true, not_true_eq_false]; omega) | exact sLaw_zero (by first | omega | decide)) (by first | with_reducible assumption | omega | (simp only [t_0, t_1, t_2, t_3, t_4, t_6, t_8, t_m1, false_and, true_and, and_true, and_false, or_false, false_or, true_or, or_true, ne_eq, not_false_eq_true, not_true_eq_false]; done) | (simp only [t_0, t_1, t_2, t_3, t_4, t_6, t_8, t_m1, false_and, true_and, and_true, and_false, or_false, false_or, true_or, or_true, ne_eq, not_false_eq_true, not_true_eq_false]; omega) | exact sLaw_zero (by first | omega | decide)) (by first | with_reducible assumption | omega | (simp only [t_0, t_1, t_2, t_3, t_4, t_6, t_8, t_m1, false_and, true_and, and_true, and_false, or_false, false_or, true_or, or_true, ne_eq, not_false_eq_true, not_true_eq_false]; done) | (simp only [t_0, t_1, t_2, t_3, t_4, t_6, t_8, t_m1, false_and, true_and, and_true, and_false, or_false, false_or, true_or, or_true, ne_eq, not_false_eq_true, not_true_eq_false]; omega) | exact sLaw_zero (by first | omega | decide)) (by first | with_reducible assumption | omega | (simp only [t_0, t_1, t_2, t_3, t_4, t_6, t_8, t_m1, false_and, true_and, and_true, and_false, or_false, false_or, true_or, or_true, ne_eq, not_false_eq_true, not_true_eq_false]; done) | (simp only [t_0, t_1, t_2, t_3, t_4, t_6, t_8, t_m1, false_and, true_and, and_true, and_false, or_false, false_or, true_or, or_true, ne_eq, not_false_eq_true, not_true_eq_false]; omega) | exact sLaw_zero (by first | omega | decide)) (fun y1 y2 y3 y4 y5 y6 y7 po8 po9 po10 => ?_)
  try simp only [t_0, t_1, t_2, t_3, t_4, t_6, t_8, t_m1] at po8
  try simp only [t_0, t_1, t_2, t_3, t_4, t_6, t_8, t_m1] at po9
  refine sg_X8_needsEnd  (by first | with_reducible assumption | omega | (simp only [t_0, t_1, t_2, t_3, t_4, t_6, t_8, t_m1, false_and, true_and, and_true, and_false, or_false, false_or, true_or, or_true, ne_eq, not_false_eq_true, not_true_eq_false]; done) | (simp only [t_0, t_1, t_2, t_3, t_4, t_6, t_8, t_m1, false_and, true_and, and_true, and_false, or_false, false_or, true_or, or_true, ne_eq, not_false_eq_true, not_true_eq_false]; omega) | exact sLaw_zero (by first | omega | decide)) (by first | with_reducible assumption | omega | (simp only [t_0, t_1, t_2, t_3, t_4, t_6, t_8, t_m1, false_and, true_and, and_true, and_false, or_false, false_or, true_or, or_true, ne_eq, not_false_eq_true, not_true_eq_false]; done) | (simp only [t_0, t_1, t_2, t_3, t_4, t_6, t_8, t_m1, false_and, true_and, and_true, and_false, or_false, false_or, true_or, or_true, ne_eq, not_false_eq_true, not_true_eq_false]; omega) | exact sLaw_zero (by first | omega | decide)) (by first | with_reducible assumption | omega | (simp only [t_0, t_1, t_2, t_3, t_4, t_6, t_8, t_m1, false_and, true_and, and_true, and_false, or_false, false_or, true_or, or_true, ne_eq, not_false_eq_true, not_true_eq_false]; done) | (simp only [t_0, t_1, t_2, t_3, t_4, t_6, t_8, t_m1, false_and, true_and, and_true, and_false, or_false, false_or, true_or, or_true, ne_eq, not_false_eq_true, not_true_eq_false]; omega) | exact sLaw_zero (by first | omega | decide)) (fun y11 y12 y13 po14 po15 => ?_)
  try simp only [t_0, t_1, t_2, t_3, t_4, t_6, t_8, t_m1] at po14
  try simp only [t_0, t_1, t_2, t_3, t_4, t_6, t_8, t_m1] at po15
  exact hq _ _ _ _ _ _ _ (by first | with_reducible assumption | omega | (simp only [t_0, t_1, t_2, t_3, t_4, t_6, t_8, t_m1, false_and, true_and, and_true, and_false, or_false, false_or, true_or, or_true, ne_eq, not_false_eq_true, not_true_eq_false]; done) | (simp only [t_0, t_1, t_2, t_3, t_4, t_6, t_8, t_m1, false_and, true_and, and_true, and_false, or_false, false_or, true_or, or_true, ne_eq, not_false_eq_true, not_true_eq_false]; omega) | exact sLaw_zero (by first | omega | decide)) (by first | with_reducible assumption | omega | (simp only [t_0, t_1, t_2, t_3, t_4, t_6, t_8, t_m1, false_and, true_and, and_true, and_false, or_false, false_or, true_or, or_true, ne_eq, not_false_eq_true, not_true_eq_false]; done) | (simp only [t_0, t_1, t_2, t_3, t_4, t_6, t_8, t_m1, false_and, true_and, and_true, and_false, or_false, false_or, true_or, or_true, ne_eq, not_false_eq_true, not_true_eq_false]; omega) | exact sLaw_zero (by first | omega | decide)) (by first | with_reducible assumption | omega | (simp only [t_0, t_1, t_2, t_3, t_4, t_6, t_8, t_m1, false_and, true_and, and_true, and_false, or_false, false_or, true_or, or_true, ne_eq, not_false_eq_true, not_true_eq_false]; done) | (simp only [t_0, t_1, t_2, t_3, t_4, t_6, t_8, t_m1, false_and, true_and, and_true, and_false, or_false, false_or, true_or, or_true, ne_eq, not_false_eq_true, not_true_eq_false]; omega) | exact sLaw_zero (by first | omega | decide))
/-- steps of the class told so far -/
def wC (b : Int32) (kd f s : Nat → Int32) (ln h n : Int32) : Prop := (0 ≤ ln.toInt ∧ ln.toInt ≤ 50) ∧ (b.toInt = 0 → ∀ j : Nat, (j : Int) < ln.toInt → (0 ≤ (f j).toInt ∧ (f j).toInt ≤ 99 ∧ 0 ≤ (s j).toInt ∧ (s j).toInt ≤ 99) ∧ ((kd j).toInt ≠ 0 ∨ ((f j).toInt < h.toInt ∧ (s j).toInt < n.toInt)) ∧ (((kd j).toInt ≠ 1 ∧ (kd j).toInt ≠ 2) ∨ ((f j).toInt < h.toInt ∧ (s j).toInt < h.toInt)))
/-- where its begun loops stand -/
def hC (hd kd : Nat → Int32) (op ln : Int32) : Prop := (0 ≤ op.toInt ∧ op.toInt ≤ 6) ∧ ∀ j : Nat, (j : Int) < op.toInt → (hd j).toInt = 50 ∨ (0 ≤ (hd j).toInt ∧ (hd j).toInt < ln.toInt ∧ (kd (hd j).toNatClampNeg).toInt = 4)
theorem wC_l {b ln h n : Int32} {kd f s : Nat → Int32} (q : wC b kd f s ln h n) : 0 ≤ ln.toInt ∧ ln.toInt ≤ 50 := q.1
theorem hC_o {op ln : Int32} {hd kd : Nat → Int32} (q : hC hd kd op ln) : 0 ≤ op.toInt ∧ op.toInt ≤ 6 := q.1
theorem wC_bad {b c ln h n : Int32} {kd f s : Nat → Int32} (q : wC b kd f s ln h n) (e : c.toInt ≠ 0 ∨ b.toInt = 0) : wC c kd f s ln h n := ⟨q.1, fun z => q.2 (by omega)⟩
theorem wC_zero {b ln h n : Int32} {kd f s : Nat → Int32} (e : ln.toInt = 0) : wC b kd f s ln h n := ⟨by omega, fun _ j hj => by omega⟩
theorem hC_zero {op ln : Int32} {hd kd : Nat → Int32} (e : op.toInt = 0) : hC hd kd op ln := ⟨by omega, fun j hj => by omega⟩
theorem sf_X9_add {f0_kinds f0_first f0_second f0_third : Nat → Int32} {v0_length p1 p2 p3 p4 b h n op : Int32} {hd : Nat → Int32} {Q : (Nat → Int32) → (Nat → Int32) → (Nat → Int32) → (Nat → Int32) → Int32 → Prop} (a0 : wC b f0_kinds f0_first f0_second v0_length h n) (a1 : hC hd f0_kinds op v0_length) (a2 : b.toInt ≠ 0 ∨ ((0 ≤ p2.toInt ∧ p2.toInt ≤ 99 ∧ 0 ≤ p3.toInt ∧ p3.toInt ≤ 99) ∧ (p1.toInt ≠ 0 ∨ (p2.toInt < h.toInt ∧ p3.toInt < n.toInt)) ∧ ((p1.toInt ≠ 1 ∧ p1.toInt ≠ 2) ∨ (p2.toInt < h.toInt ∧ p3.toInt < h.toInt))))
    (hq : ∀ (kd f s t : Nat → Int32) (ln : Int32), wC b kd f s ln h n → hC hd kd op ln → ((ln.toInt = v0_length.toInt + 1 ∧ (kd v0_length.toNatClampNeg).toInt = p1.toInt) ∨ v0_length.toInt = 50) → Q kd f s t ln) : wq_X9_add f0_kinds f0_first f0_second f0_third v0_length p1 p2 p3 p4 Q := by
  have hl := a0.1
  have n0 := t_nat hl.1
  have t50 : (50 : Int32).toInt = 50 := by decide
  refine ⟨fun c => ?_, fun c => ?_⟩
  · rw [t_le, t50] at c
    exact hq _ _ _ _ _ a0 a1 (Or.inr (by omega))
  · rw [t_le, t50] at c
    refine ⟨t_in (by omega) (by omega), fun f2 e2 => ⟨t_in (by omega) (by omega), fun f3 e3 => ⟨t_in (by omega) (by omega), fun f4 e4 => ⟨t_in (by omega) (by omega), fun f5 e5 x6 e6 => ?_⟩⟩⟩⟩
    have q6 : x6.toInt = v0_length.toInt + 1 := by rw [e6]; exact t_inc (by omega)
    refine hq f2 f3 f4 f5 x6 ⟨by omega, fun z j hj => ?_⟩ ⟨a1.1, fun j hj => ?_⟩ (Or.inl ⟨q6, by rw [e2, pk_us]⟩)
    · by_cases w : j = v0_length.toNatClampNeg
      · rw [e2, e3, e4, w, pk_us, pk_us, pk_us]
        exact a2.resolve_left (by omega)
      · rw [e2, e3, e4, pk_un w, pk_un w, pk_un w]
        exact a0.2 z j (by omega)
    · rcases a1.2 j hj with w | ⟨w0, w1, w2⟩
      · exact Or.inl w
      · have nh := t_nat w0
        refine Or.inr ⟨w0, by omega, ?_⟩
        rw [e2, pk_un (by omega)]; exact w2
theorem sf_X9_closeLoop {f0_heads : Nat → Int32} {v0_open : Int32} {f0_second f0_kinds f0_first f0_third : Nat → Int32} {v0_length b h n : Int32} {Q : Int32 → (Nat → Int32) → (Nat → Int32) → (Nat → Int32) → (Nat → Int32) → Int32 → Prop} (a0 : wC b f0_kinds f0_first f0_second v0_length h n) (a1 : hC f0_heads f0_kinds v0_open v0_length) (a2 : 0 < v0_open.toInt)
    (hq : ∀ (op : Int32) (s kd f t : Nat → Int32) (ln : Int32), wC b kd f s ln h n → hC f0_heads kd op ln → Q op s kd f t ln) : wq_X9_closeLoop f0_heads v0_open f0_second f0_kinds f0_first f0_third v0_length Q := by
  intro x1 e1
  have ho := a1.1
  have hl := a0.1
  have q1 : x1.toInt = v0_open.toInt - 1 := by rw [e1]; exact t_pred (by omega)
  have n1 := t_nat (x := x1) (by omega)
  have t50 : (50 : Int32).toInt = 50 := by decide
  refine ⟨t_in (by omega) (by omega), fun x2 e2 => ?_⟩
  have hx := a1.2 x1.toNatClampNeg (by omega)
  rw [← e2] at hx
  have hc2 : hC f0_heads f0_kinds x1 v0_length := ⟨by omega, fun j hj => a1.2 j (by omega)⟩
  have go : ∀ s : Nat → Int32, wC b f0_kinds f0_first s v0_length h n → wb_X9_closeLoop_36 f0_heads Q x1 s f0_kinds f0_first f0_third v0_length x2 := fun s hs =>
    sf_X9_add (hd := f0_heads) (op := x1) hs hc2 (Or.inr ⟨⟨by omega, by omega, by decide, by decide⟩, Or.inl (by decide), Or.inl (by decide)⟩) (fun kd f s t ln h1 h2 _ => hq _ _ _ _ _ _ h1 h2)
  refine ⟨fun _ => go _ a0, fun c => ⟨t_in (by omega) ?_, fun f4 e4 => go f4 ?_⟩⟩
  · rw [t_le, t50] at c; omega
  · rw [t_le, t50] at c
    obtain ⟨w0, w1, w2⟩ := hx.resolve_left (by omega)
    have n2 := t_nat w0
    refine ⟨hl, fun z j hj => ?_⟩
    have g := a0.2 z j hj
    by_cases w : j = x2.toNatClampNeg
    · rw [e4, w, pk_us]
      rw [w] at g
      exact ⟨⟨g.1.1, g.1.2.1, by omega, by omega⟩, Or.inl (by omega), Or.inl (by omega)⟩
    · rw [e4, pk_un w]; exact g
theorem sf_X9_openLoop {v1_length : Int32} {f1_bytes : Nat → Int32} {v1_at v1_fault v1_faultPlace v1_token : Int32} {f0_heads : Nat → Int32} {v0_open : Int32} {f0_kinds f0_first f0_second f0_third : Nat → Int32} {v0_length h n : Int32} {Q : Int32 → Int32 → Int32 → Int32 → (Nat → Int32) → Int32 → (Nat → Int32) → (Nat → Int32) → (Nat → Int32) → (Nat → Int32) → Int32 → Prop} (a0 : wC v1_fault f0_kinds f0_first f0_second v0_length h n) (a1 : hC f0_heads f0_kinds v0_open v0_length) (a2 : v1_length.toInt ≤ 600) (a3 : 0 ≤ v1_at.toInt) (a4 : v1_at.toInt ≤ 600)
    (hq : ∀ (a f fp t : Int32) (hd : Nat → Int32) (op : Int32) (kd fi s th : Nat → Int32) (ln : Int32), 0 ≤ a.toInt → a.toInt ≤ 600 → wC f kd fi s ln h n → hC hd kd op ln → Q a f fp t hd op kd fi s th ln) : wq_X9_openLoop v1_length f1_bytes v1_at v1_fault v1_faultPlace v1_token f0_heads v0_open f0_kinds f0_first f0_second f0_third v0_length Q := by
  have ho := a1.1
  have hl := a0.1
  have n0 := t_nat hl.1
  have no := t_nat ho.1
  refine ⟨fun c => ?_, fun _ => sg_X8_blameToken (by decide) (fun f fp hf => hq _ _ _ _ _ _ _ _ _ _ _ a3 a4 (wC_bad a0 (Or.inl hf)) a1)⟩
  rw [t_lt, t_6] at c
  refine sg_X8_number a2 a3 a4 (fun r a f fp t h0 h1 h2 => sg_X8_needs a2 h0 h1 (fun a t f2 fp2 k0 k1 k2 => ?_))
  refine ⟨t_in ho.1 (by omega), fun f11 e11 x12 e12 => ?_⟩
  have q12 : x12.toInt = v0_open.toInt + 1 := by rw [e12]; exact t_inc (by omega)
  have hb : wC f2 f0_kinds f0_first f0_second v0_length h n := wC_bad a0 (by omega)
  have h40 : (40 : Int32).toInt = 40 := by decide
  have h4 : (4 : Int32).toInt = 4 := t_4
  have hold : hC f11 f0_kinds v0_open v0_length := ⟨a1.1, fun j hj => by rw [e11, pk_un (by omega)]; exact a1.2 j hj⟩
  refine sf_X9_add (hd := f11) (op := v0_open) hb hold ?_ (fun kd fi s th ln g1 g2 g3 => hq _ _ _ _ _ _ _ _ _ _ _ k0 k1 g1 ⟨by omega, fun j hj => ?_⟩)
  · rcases k2 with k2 | k2
    · exact Or.inl k2
    · have h2' := h2.resolve_left (by omega)
      rw [t_0, h40] at h2'
      exact Or.inr ⟨⟨by omega, by omega, by decide, by decide⟩, Or.inl (by decide), Or.inl (by decide)⟩
  · by_cases w : j = v0_open.toNatClampNeg
    · rw [w, e11, pk_us]
      rcases g3 with ⟨g3, g4⟩ | g3
      · exact Or.inr ⟨hl.1, by omega, by rw [g4]; decide⟩
      · exact Or.inl g3
    · exact g2.2 j (by omega)
