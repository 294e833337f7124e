/-! texts: what both readers see of them -/
theorem t_100000 : (100000 : Int32).toInt = 100000 := by decide
/-- a byte as it is seen: by its number, or (of the class, above 127) below 0 -/
def cR (x : Int32) (c : Int) : Prop := 0 ≤ c ∧ (x.toInt = c ∨ (128 ≤ c ∧ x.toInt < 0))
/-- the text's bytes -/
def tB (n : Nat) (f : Nat → Int32) (b : Nat → Int) : Prop := ∀ j : Nat, j < n → cR (f j) (b j)
abbrev isD (c : Int) : Prop := 48 ≤ c ∧ c ≤ 57
abbrev isL (c : Int) : Prop := 97 ≤ c ∧ c ≤ 122
def skF (n : Nat) (b : Nat → Int) : Nat → Nat → Nat
  | 0, a => a
  | k + 1, a => if a < n ∧ b a = 32 then skF n b k (a + 1) else a
def sk (n : Nat) (b : Nat → Int) (a : Nat) : Nat := skF n b (n - a) a
def dEF (n : Nat) (b : Nat → Int) : Nat → Nat → Nat
  | 0, a => a
  | k + 1, a => if a < n ∧ isD (b a) then dEF n b k (a + 1) else a
def dE (n : Nat) (b : Nat → Int) (a : Nat) : Nat := dEF n b (n - a) a
def dvF (n : Nat) (b : Nat → Int) : Nat → Nat → Int → Int
  | 0, _, v => v
  | k + 1, a, v => if a < n ∧ isD (b a) then dvF n b k (a + 1) (10 * v + (b a - 48)) else v
def dv (n : Nat) (b : Nat → Int) (a : Nat) (v : Int) : Int := dvF n b (n - a) a v
def lEF (n : Nat) (b : Nat → Int) : Nat → Nat → Nat
  | 0, a => a
  | k + 1, a => if a < n ∧ isL (b a) then lEF n b k (a + 1) else a
def lE (n : Nat) (b : Nat → Int) (a : Nat) : Nat := lEF n b (n - a) a
/-- the byte at a place, 0 behind the end -/
def at0 (n : Nat) (b : Nat → Int) (p : Nat) : Int := if p < n then b p else 0
section TXa
variable {n : Nat} {b : Nat → Int} {a : Nat}
theorem at0_in (h : a < n) : at0 n b a = b a := if_pos h
theorem at0_out (h : ¬ a < n) : at0 n b a = 0 := if_neg h
theorem sk_step (h : a < n ∧ b a = 32) : sk n b a = sk n b (a + 1) := by
  unfold sk
  rw [show n - a = (n - (a + 1)) + 1 by omega, skF, if_pos h]
theorem sk_stop (h : ¬ (a < n ∧ b a = 32)) : sk n b a = a := by
  unfold sk
  cases n - a with
  | zero => rfl
  | succ k => rw [skF, if_neg h]
theorem dE_step (h : a < n ∧ isD (b a)) : dE n b a = dE n b (a + 1) := by
  unfold dE
  rw [show n - a = (n - (a + 1)) + 1 by omega, dEF, if_pos h]
theorem dE_stop (h : ¬ (a < n ∧ isD (b a))) : dE n b a = a := by
  unfold dE
  cases n - a with
  | zero => rfl
  | succ k => rw [dEF, if_neg h]
theorem dv_step {v : Int} (h : a < n ∧ isD (b a)) : dv n b a v = dv n b (a + 1) (10 * v + (b a - 48)) := by
  unfold dv
  rw [show n - a = (n - (a + 1)) + 1 by omega, dvF, if_pos h]
theorem dv_stop {v : Int} (h : ¬ (a < n ∧ isD (b a))) : dv n b a v = v := by
  unfold dv
  cases n - a with
  | zero => rfl
  | succ k => rw [dvF, if_neg h]
theorem lE_step (h : a < n ∧ isL (b a)) : lE n b a = lE n b (a + 1) := by
  unfold lE
  rw [show n - a = (n - (a + 1)) + 1 by omega, lEF, if_pos h]
theorem lE_stop (h : ¬ (a < n ∧ isL (b a))) : lE n b a = a := by
  unfold lE
  cases n - a with
  | zero => rfl
  | succ k => rw [lEF, if_neg h]
theorem sk_facts : ∀ (m a : Nat), n - a = m → a ≤ sk n b a ∧ (sk n b a ≤ n ∨ sk n b a = a) ∧ ¬ (sk n b a < n ∧ b (sk n b a) = 32) := by
  intro m
  induction m with
  | zero =>
    intro a h
    have z : ¬ (a < n ∧ b a = 32) := fun w => by omega
    rw [sk_stop z]
    exact ⟨Nat.le_refl _, Or.inr rfl, z⟩
  | succ m ih =>
    intro a h
    by_cases c : a < n ∧ b a = 32
    · rw [sk_step c]
      obtain ⟨h1, h2, h3⟩ := ih (a + 1) (by omega)
      exact ⟨by omega, by omega, h3⟩
    · rw [sk_stop c]
      exact ⟨Nat.le_refl _, Or.inr rfl, c⟩
theorem dE_facts : ∀ (m a : Nat), n - a = m → a ≤ dE n b a ∧ (dE n b a ≤ n ∨ dE n b a = a) := by
  intro m
  induction m with
  | zero =>
    intro a h
    have z : ¬ (a < n ∧ isD (b a)) := fun w => by omega
    rw [dE_stop z]
    exact ⟨Nat.le_refl _, Or.inr rfl⟩
  | succ m ih =>
    intro a h
    by_cases c : a < n ∧ isD (b a)
    · rw [dE_step c]
      obtain ⟨h1, h2⟩ := ih (a + 1) (by omega)
      exact ⟨by omega, by omega⟩
    · rw [dE_stop c]
      exact ⟨Nat.le_refl _, Or.inr rfl⟩
theorem dv_facts : ∀ (m a : Nat) (v : Int), n - a = m → 0 ≤ v → v ≤ dv n b a v := by
  intro m
  induction m with
  | zero =>
    intro a v h hv
    have z : ¬ (a < n ∧ isD (b a)) := fun w => by omega
    rw [dv_stop z]
    exact Int.le_refl _
  | succ m ih =>
    intro a v h hv
    by_cases c : a < n ∧ isD (b a)
    · rw [dv_step c]
      have h1 := ih (a + 1) (10 * v + (b a - 48)) (by omega) (by omega)
      omega
    · rw [dv_stop c]
      exact Int.le_refl _
theorem sk_sk : sk n b (sk n b a) = sk n b a := sk_stop (sk_facts _ a rfl).2.2
theorem sk_le (h : a ≤ 600) (hn : n ≤ 600) : sk n b a ≤ 600 := by
  have := (sk_facts (n := n) (b := b) _ a rfl).2.1
  omega
theorem dE_le (h : a ≤ 600) (hn : n ≤ 600) : dE n b a ≤ 600 := by
  have := (dE_facts (n := n) (b := b) _ a rfl).2
  omega
end TXa
/-! the class -/
section TXc
variable {n : Nat} {b : Nat → Int} {len : Int32} {f : Nat → Int32}
theorem x_skip {Q : Int32 → Prop} (hl : len.toInt = n) (hn : n ≤ 600) (hb : tB n f b) : ∀ (k : Nat) (a : Int32) (p : Nat), a.toInt = p → p ≤ 600 → 600 - p < k → (∀ x : Int32, x.toInt = (sk n b p : Nat) → Q x) → wl_X8_skipBlanks_0 len f Q k a := by
  intro k
  induction k with
  | zero => intro a p h0 h1 h2; omega
  | succ k ih =>
    intro a p h0 h1 h2 hq
    have hc : a.toNatClampNeg = p := t_clamp h0
    refine ⟨fun c => hq a ?_, fun c => ?_⟩
    · rw [t_le] at c
      rw [sk_stop (fun w => by omega)]; exact h0
    rw [t_le] at c
    have hp : p < n := by omega
    have hy := hb p hp
    unfold cR at hy
    refine ⟨t_in (by omega) (by omega), fun x2 e2 => ⟨fun c2 => hq a ?_, fun c2 x4 e4 => ?_⟩⟩
    · rw [hc] at e2
      rw [e2, t_eq, t_32] at c2
      rw [sk_stop (fun w => by omega)]; exact h0
    · rw [hc] at e2
      rw [e2, t_eq, t_32] at c2
      have z : b p = 32 := by omega
      have e : x4.toInt = ((p + 1 : Nat) : Int) := by rw [e4, t_inc (by omega), h0]; omega
      exact ih x4 (p + 1) e (by omega) (by omega) (fun x hx => hq x (by rw [sk_step ⟨hp, z⟩]; exact hx))
theorem x_skipBlanks {Q : Int32 → Prop} (hl : len.toInt = n) (hn : n ≤ 600) (hb : tB n f b) {a : Int32} {p : Nat} (h0 : a.toInt = p) (h1 : p ≤ 600) (hq : ∀ x : Int32, x.toInt = (sk n b p : Nat) → Q x) : wq_X8_skipBlanks len f a Q :=
  ⟨601, x_skip hl hn hb 601 a p h0 h1 (by omega) hq⟩
theorem x_digitAt {Q : Int32 → Prop} (hl : len.toInt = n) (hn : n ≤ 600) (hb : tB n f b) {a : Int32} {p : Nat} (h0 : a.toInt = p) (hy : isD (at0 n b p) → ∀ r : Int32, r.toInt = at0 n b p - 48 → Q r) (hz : ¬ isD (at0 n b p) → Q (-1)) : wq_X8_digitAt len f a Q := by
  have hc : a.toNatClampNeg = p := t_clamp h0
  refine ⟨fun c => hz ?_, fun c => ?_⟩
  · rw [t_le] at c
    rw [at0_out (by omega)]; omega
  rw [t_le] at c
  have hp : p < n := by omega
  have hw := hb p hp
  unfold cR at hw
  rw [at0_in hp] at hy hz
  refine ⟨t_in (by omega) (by omega), fun x2 e2 => ⟨fun c2 => hz ?_, fun c2 => ⟨t_in (by omega) (by omega), fun x4 e4 => ⟨fun c4 => ⟨t_in (by omega) (by omega), fun x6 e6 => ?_⟩, fun c4 => hz ?_⟩⟩⟩⟩
  · rw [hc] at e2; rw [e2, t_lt, t_48] at c2; omega
  · rw [hc] at e2 e4 e6
    rw [e2, t_lt, t_48] at c2
    rw [e4, t_le, t_57] at c4
    refine hy (by omega) _ ?_
    rw [e6, t_sub (by rw [t_48]; omega) (by rw [t_48]; omega), t_48]
    omega
  · rw [hc] at e4
    rw [e4, t_le, t_57] at c4
    omega
theorem x_num {Q : Int32 → Int32 → Int32 → Int32 → Int32 → Prop} {fa fp tk lo hi : Int32} (hl : len.toInt = n) (hn : n ≤ 600) (hb : tB n f b) : ∀ (k : Nat) (a l3 : Int32) (p : Nat) (V : Int), a.toInt = p → p ≤ 600 → 600 - p < k → 0 ≤ V → (V < 100000 → l3.toInt = V) → (100000 ≤ V → l3.toInt = 100000) →
    (∀ x l : Int32, x.toInt = (dE n b p : Nat) → (dv n b p V < 100000 → l.toInt = dv n b p V) → (100000 ≤ dv n b p V → l.toInt = 100000) → wb_X8_number_97 len f Q x fa fp tk lo hi l) → wl_X8_number_43 len f Q k a fa fp tk lo hi l3 := by
  intro k
  induction k with
  | zero => intro a l3 p V h0 h1 h2; omega
  | succ k ih =>
    intro a l3 p V h0 h1 h2 hV g1 g2 hq
    have stop : ¬ (p < n ∧ isD (b p)) → wb_X8_number_97 len f Q a fa fp tk lo hi l3 := fun z => by
      rw [dE_stop z, dv_stop z] at hq
      exact hq a l3 h0 g1 g2
    refine ⟨fun c => stop ?_, fun c => ?_⟩
    · rw [t_le] at c; exact fun w => by omega
    rw [t_le] at c
    have hp : p < n := by omega
    refine x_digitAt hl hn hb h0 (fun y r er => ?_) (fun y => ?_)
    · rw [at0_in hp] at y er
      refine ⟨fun c2 => ?_, fun c2 => ?_⟩
      · rw [t_lt, t_0] at c2; omega
      refine x_digitAt hl hn hb h0 (fun y2 r2 er2 => ?_) (fun y2 => ?_)
      · rw [at0_in hp] at er2
        intro x12 e12 x13 e13
        have ea : x13.toInt = ((p + 1 : Nat) : Int) := by rw [e13, t_inc (by omega), h0]; omega
        have el : (l3 * 10 + r2).toInt = l3.toInt * 10 + r2.toInt := by
          have em : (l3 * 10).toInt = l3.toInt * 10 := by rw [t_mul (by rw [t_10]; omega) (by rw [t_10]; omega), t_10]
          rw [t_add (by rw [em]; omega) (by rw [em]; omega), em]
        rw [dE_step ⟨hp, y⟩, dv_step ⟨hp, y⟩] at hq
        refine ih x13 x12 (p + 1) (10 * V + (b p - 48)) ea (by omega) (by omega) (by omega) (fun w => ?_) (fun w => ?_) hq
        · have w2 : V < 100000 := by omega
          have e3 := g1 w2
          rw [e12, if_pos (by rw [t_lt, el, t_100000]; omega), el]
          omega
        · by_cases w2 : V < 100000
          · have e3 := g1 w2
            rw [e12, if_neg (by rw [t_lt, el, t_100000]; omega), t_100000]
          · have e3 := g2 (by omega)
            rw [e12, if_neg (by rw [t_lt, el, t_100000]; omega), t_100000]
      · exact absurd (by rw [at0_in hp]; exact y) y2
    · rw [at0_in hp] at y
      exact ⟨fun _ => stop (fun w => y w.2), fun c2 => absurd (by decide) c2⟩
/-- a number of the class: with a fault before, without a digit, out of its bounds, or well -/
theorem x_number {Q : Int32 → Int32 → Int32 → Int32 → Int32 → Prop} {a fa fp tk lo hi : Int32} {p : Nat} (hl : len.toInt = n) (hn : n ≤ 600) (hb : tB n f b) (h0 : a.toInt = p) (h1 : p ≤ 600) (hlo : 0 ≤ lo.toInt) (hhi : hi.toInt ≤ 999)
    (q1 : ¬ fa = 0 → ∀ x : Int32, x.toInt = (sk n b p : Nat) → Q 0 x fa fp tk)
    (q2 : fa = 0 → ¬ isD (at0 n b (sk n b p)) → ∀ x : Int32, x.toInt = (sk n b p : Nat) → Q 0 x 1 x tk)
    (q3 : fa = 0 → isD (at0 n b (sk n b p)) → (lo.toInt ≤ dv n b (sk n b p) 0 ∧ dv n b (sk n b p) 0 ≤ hi.toInt) → ∀ r x t : Int32, r.toInt = dv n b (sk n b p) 0 → x.toInt = (dE n b (sk n b p) : Nat) → t.toInt = (sk n b p : Nat) → Q r x 0 fp t)
    (q4 : fa = 0 → isD (at0 n b (sk n b p)) → ¬ (lo.toInt ≤ dv n b (sk n b p) 0 ∧ dv n b (sk n b p) 0 ≤ hi.toInt) → ∀ r x t : Int32, x.toInt = (dE n b (sk n b p) : Nat) → t.toInt = (sk n b p : Nat) → Q r x 2 t t) : wq_X8_number len f a fa fp tk lo hi Q := by
  refine x_skipBlanks hl hn hb h0 h1 (fun x1 e1 => ?_)
  have hs := sk_le (b := b) h1 hn
  refine x_digitAt hl hn hb e1 (fun y r er => ?_) (fun y => ?_)
  · refine ⟨fun _ => ⟨fun z => ⟨fun _ => ?_, fun c => absurd rfl c⟩, fun z => ⟨fun c => absurd c (by decide), fun _ => q1 z x1 e1⟩⟩, fun c => ?_⟩
    · refine ⟨601, x_num hl hn hb 601 x1 0 (sk n b p) 0 e1 hs (by omega) (by omega) (fun _ => t_0) (fun w => by omega) (fun x l ex g1 g2 => ?_)⟩
      have hv := dv_facts (n := n) (b := b) _ (sk n b p) 0 rfl (by omega)
      by_cases hr : lo.toInt ≤ dv n b (sk n b p) 0 ∧ dv n b (sk n b p) 0 ≤ hi.toInt
      · have e := g1 (by omega)
        refine ⟨fun c => ?_, fun c => ⟨fun c2 => ?_, fun c2 => ⟨fun _ => ?_, fun d => absurd d (by decide)⟩⟩⟩
        · rw [t_lt] at c; omega
        · rw [t_lt] at c2; omega
        · rw [z]; exact q3 z y hr l x x1 e ex e1
      · have bad : wq_X8_blame fa fp 2 x1 (fun x16 x17 => Q l x x16 x17 x1) := ⟨fun d => absurd z d, fun _ => q4 z y hr l x x1 ex e1⟩
        refine ⟨fun c => ⟨fun d => absurd rfl d, fun _ => bad⟩, fun c => ⟨fun c2 => ⟨fun d => absurd rfl d, fun _ => bad⟩, fun c2 => ?_⟩⟩
        rw [t_lt] at c c2
        by_cases w : dv n b (sk n b p) 0 < 100000
        · have e := g1 w
          exact absurd ⟨by omega, by omega⟩ hr
        · have e := g2 (by omega)
          omega
    · rw [t_le, t_0] at c; omega
  · refine ⟨fun c => absurd c (by decide), fun _ => ⟨fun z => ?_, fun z => ?_⟩⟩
    · refine ⟨fun d => absurd d z, fun _ => ⟨fun c => absurd c (by decide), fun _ => ?_⟩⟩
      exact q1 z x1 e1
    · refine ⟨fun d => absurd d (by decide), fun _ => ⟨fun c => absurd c (by decide), fun _ => ?_⟩⟩
      exact q2 z y x1 e1
/-- a sign that is wanted -/
theorem x_needs {Q : Int32 → Int32 → Int32 → Int32 → Prop} {a tk fa fp c : Int32} {p : Nat} (hl : len.toInt = n) (hn : n ≤ 600) (hb : tB n f b) (h0 : a.toInt = p) (h1 : p ≤ 600) (hc : 1 ≤ c.toInt ∧ c.toInt ≤ 127)
    (q1 : ¬ fa = 0 → ∀ x : Int32, x.toInt = (sk n b p : Nat) → Q x tk fa fp)
    (q2 : fa = 0 → at0 n b (sk n b p) = c.toInt → ∀ x t : Int32, x.toInt = ((sk n b p + 1 : Nat) : Int) → Q x t 0 fp)
    (q3 : fa = 0 → at0 n b (sk n b p) ≠ c.toInt → ∀ x : Int32, x.toInt = (sk n b p : Nat) → Q x tk 1 x) : wq_X8_needs len f a tk fa fp c Q := by
  have hs := sk_le (b := b) h1 hn
  have no : ∀ x1 : Int32, x1.toInt = (sk n b p : Nat) → (¬ fa = 0 ∨ at0 n b (sk n b p) ≠ c.toInt) → wq_X8_blameSign len f x1 fa fp (fun x5 x6 x7 => Q x5 tk x6 x7) := fun x1 e1 w => by
    refine x_skipBlanks hl hn hb e1 hs (fun x2 e2 => ?_)
    rw [sk_sk] at e2
    refine ⟨fun z => q1 z x2 e2, fun z => q3 z (w.resolve_left (fun d => d z)) x2 e2⟩
  refine x_skipBlanks hl hn hb h0 h1 (fun x1 e1 => ⟨fun z => ⟨fun d => absurd rfl d, fun _ => ?_⟩, fun z => ⟨fun _ => ⟨fun d => absurd rfl d, fun _ => no x1 e1 (Or.inl z)⟩, fun d => absurd d (by decide)⟩⟩)
  refine ⟨fun c1 => ⟨fun d => absurd rfl d, fun _ => no x1 e1 (Or.inr ?_)⟩, fun c1 => ?_⟩
  · rw [t_le] at c1
    rw [at0_out (by omega)]; omega
  rw [t_le] at c1
  have hp : sk n b p < n := by omega
  have hw := hb _ hp
  unfold cR at hw
  have hcl : x1.toNatClampNeg = sk n b p := t_clamp e1
  refine ⟨t_in (by omega) (by omega), fun x5 e5 => ⟨fun c5 x7 e7 => ⟨fun _ => ?_, fun d => absurd d (by decide)⟩, fun c5 => ⟨fun d => absurd rfl d, fun _ => no x1 e1 (Or.inr ?_)⟩⟩⟩
  · rw [hcl] at e5
    rw [e5, t_eq] at c5
    rw [z]
    exact q2 z (by rw [at0_in hp]; omega) x7 x1 (by rw [e7, t_inc (by omega), e1]; omega)
  · rw [hcl] at e5
    rw [e5, t_eq] at c5
    rw [at0_in hp]; omega
theorem x_isEnded {Q : Int32 → Int32 → Prop} {a : Int32} {p : Nat} (hl : len.toInt = n) (hn : n ≤ 600) (hb : tB n f b) (h0 : a.toInt = p) (h1 : p ≤ 600)
    (q0 : sk n b p < n → ∀ x : Int32, x.toInt = (sk n b p : Nat) → Q 0 x) (q1 : ¬ sk n b p < n → ∀ x : Int32, x.toInt = (sk n b p : Nat) → Q 1 x) : wq_X8_isEnded len f a Q :=
  x_skipBlanks hl hn hb h0 h1 (fun x e => ⟨fun c => q0 (by rw [t_lt] at c; omega) x e, fun c => q1 (by rw [t_lt] at c; omega) x e⟩)
theorem x_isLetter {Q : Int32 → Prop} {a : Int32} {p : Nat} (hl : len.toInt = n) (hn : n ≤ 600) (hb : tB n f b) (h0 : a.toInt = p) (q1 : isL (at0 n b p) → Q 1) (q0 : ¬ isL (at0 n b p) → Q 0) : wq_X8_isLetter len f a Q := by
  have hc : a.toNatClampNeg = p := t_clamp h0
  refine ⟨fun c => q0 ?_, fun c => ?_⟩
  · rw [t_le] at c
    rw [at0_out (by omega)]; omega
  rw [t_le] at c
  have hp : p < n := by omega
  have hw := hb p hp
  unfold cR at hw
  rw [at0_in hp] at q0 q1
  refine ⟨t_in (by omega) (by omega), fun x2 e2 => ⟨fun c2 => q0 ?_, fun c2 => ⟨t_in (by omega) (by omega), fun x4 e4 => ⟨fun c4 => q0 ?_, fun c4 => q1 ?_⟩⟩⟩⟩
  · rw [hc] at e2; rw [e2, t_lt, t_97] at c2; omega
  · rw [hc] at e4; rw [e4, t_lt, t_122] at c4; omega
  · rw [hc] at e2 e4; rw [e2, t_lt, t_97] at c2; rw [e4, t_lt, t_122] at c4; omega
end TXc
