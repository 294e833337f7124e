section
/-! texts: what both readers see of them -/
theorem t_100000 : (100000 : Int32).toInt = 100000 := by decide
/-- a byte as it is seen: by its number, or (of the class, above 127) below 0 -/
def cR (x : Int32) (c : Int) : Prop := 0 ≤ c ∧ (x.toInt = c ∨ (128 ≤ c ∧ x.toInt < 0))
/-- the text's bytes -/
def tB (n : Nat) (f : Nat → Int32) (b : Nat → Int) : Prop := ∀ j : Nat, j < n → cR (f j) (b j)
abbrev isD (c : Int) : Prop := 48 ≤ c ∧ c ≤ 57
abbrev isL (c : Int) : Prop := 97 ≤ c ∧ c ≤ 122
def skF (n : Nat) (b : Nat → Int) : Nat → Nat → Nat
  | 0, a => a
  | k + 1, a => if a < n ∧ b a = 32 then skF n b k (a + 1) else a
def sk (n : Nat) (b : Nat → Int) (a : Nat) : Nat := skF n b (n - a) a
def dEF (n : Nat) (b : Nat → Int) : Nat → Nat → Nat
  | 0, a => a
  | k + 1, a => if a < n ∧ isD (b a) then dEF n b k (a + 1) else a
def dE (n : Nat) (b : Nat → Int) (a : Nat) : Nat := dEF n b (n - a) a
def dvF (n : Nat) (b : Nat → Int) : Nat → Nat → Int → Int
  | 0, _, v => v
  | k + 1, a, v => if a < n ∧ isD (b a) then dvF n b k (a + 1) (10 * v + (b a - 48)) else v
def dv (n : Nat) (b : Nat → Int) (a : Nat) (v : Int) : Int := dvF n b (n - a) a v
def lEF (n : Nat) (b : Nat → Int) : Nat → Nat → Nat
  | 0, a => a
  | k + 1, a => if a < n ∧ isL (b a) then lEF n b k (a + 1) else a
def lE (n : Nat) (b : Nat → Int) (a : Nat) : Nat := lEF n b (n - a) a
/-- the byte at a place, 0 behind the end -/
def at0 (n : Nat) (b : Nat → Int) (p : Nat) : Int := if p < n then b p else 0
section TXa
variable {n : Nat} {b : Nat → Int} {a : Nat}
theorem at0_in (h : a < n) : at0 n b a = b a := if_pos h
theorem at0_out (h : ¬ a < n) : at0 n b a = 0 := if_neg h
theorem sk_step (h : a < n ∧ b a = 32) : sk n b a = sk n b (a + 1) := by
  unfold sk
  rw [show n - a = (n - (a + 1)) + 1 by omega, skF, if_pos h]
theorem sk_stop (h : ¬ (a < n ∧ b a = 32)) : sk n b a = a := by
  unfold sk
  cases n - a with
  | zero => rfl
  | succ k => rw [skF, if_neg h]
theorem dE_step (h : a < n ∧ isD (b a)) : dE n b a = dE n b (a + 1) := by
  unfold dE
  rw [show n - a = (n - (a + 1)) + 1 by omega, dEF, if_pos h]
theorem dE_stop (h : ¬ (a < n ∧ isD (b a))) : dE n b a = a := by
  unfold dE
  cases n - a with
  | zero => rfl
  | succ k => rw [dEF, if_neg h]
theorem dv_step {v : Int} (h : a < n ∧ isD (b a)) : dv n b a v = dv n b (a + 1) (10 * v + (b a - 48)) := by
  unfold dv
  rw [show n - a = (n - (a + 1)) + 1 by omega, dvF, if_pos h]
theorem dv_stop {v : Int} (h : ¬ (a < n ∧ isD (b a))) : dv n b a v = v := by
  unfold dv
  cases n - a with
  | zero => rfl
  | succ k => rw [dvF, if_neg h]
theorem lE_step (h : a < n ∧ isL (b a)) : lE n b a = lE n b (a + 1) := by
  unfold lE
  rw [show n - a = (n - (a + 1)) + 1 by omega, lEF, if_pos h]
theorem lE_stop (h : ¬ (a < n ∧ isL (b a))) : lE n b a = a := by
  unfold lE
  cases n - a with
  | zero => rfl
  | succ k => rw [lEF, if_neg h]
theorem sk_facts : ∀ (m a : Nat), n - a = m → a ≤ sk n b a ∧ (sk n b a ≤ n ∨ sk n b a = a) ∧ ¬ (sk n b a < n ∧ b (sk n b a) = 32) := by
  intro m
  induction m with
  | zero =>
    intro a h
    have z : ¬ (a < n ∧ b a = 32) := fun w => by omega
    rw [sk_stop z]
    exact ⟨Nat.le_refl _, Or.inr rfl, z⟩
  | succ m ih =>
    intro a h
    by_cases c : a < n ∧ b a = 32
    · rw [sk_step c]
      obtain ⟨h1, h2, h3⟩ := ih (a + 1) (by omega)
      exact ⟨by omega, by omega, h3⟩
    · rw [sk_stop c]
      exact ⟨Nat.le_refl _, Or.inr rfl, c⟩
theorem dE_facts : ∀ (m a : Nat), n - a = m → a ≤ dE n b a ∧ (dE n b a ≤ n ∨ dE n b a = a) := by
  intro m
  induction m with
  | zero =>
    intro a h
    have z : ¬ (a < n ∧ isD (b a)) := fun w => by omega
    rw [dE_stop z]
    exact ⟨Nat.le_refl _, Or.inr rfl⟩
  | succ m ih =>
    intro a h
    by_cases c : a < n ∧ isD (b a)
    · rw [dE_step c]
      obtain ⟨h1, h2⟩ := ih (a + 1) (by omega)
      exact ⟨by omega, by omega⟩
    · rw [dE_stop c]
      exact ⟨Nat.le_refl _, Or.inr rfl⟩
theorem dv_facts : ∀ (m a : Nat) (v : Int), n - a = m → 0 ≤ v → v ≤ dv n b a v := by
  intro m
  induction m with
  | zero =>
    intro a v h hv
    have z : ¬ (a < n ∧ isD (b a)) := fun w => by omega
    rw [dv_stop z]
    exact Int.le_refl _
  | succ m ih =>
    intro a v h hv
    by_cases c : a < n ∧ isD (b a)
    · rw [dv_step c]
      have h1 := ih (a + 1) (10 * v + (b a - 48)) (by omega) (by omega)
      omega
    · rw [dv_stop c]
      exact Int.le_refl _
theorem sk_sk : sk n b (sk n b a) = sk n b a := sk_stop (sk_facts _ a rfl).2.2
theorem sk_le (h : a ≤ 600) (hn : n ≤ 600) : sk n b a ≤ 600 := by
  have := (sk_facts (n := n) (b := b) _ a rfl).2.1
  omega
theorem dE_le (h : a ≤ 600) (hn : n ≤ 600) : dE n b a ≤ 600 := by
  have := (dE_facts (n := n) (b := b) _ a rfl).2
  omega
end TXa
/-! the class -/
section TXc
variable {n : Nat} {b : Nat → Int} {len : Int32} {f : Nat → Int32}
theorem x_skip {Q : Int32 → Prop} (hl : len.toInt = n) (hn : n ≤ 600) (hb : tB n f b) : ∀ (k : Nat) (a : Int32) (p : Nat), a.toInt = p → p ≤ 600 → 600 - p < k → (∀ x : Int32, x.toInt = (sk n b p : Nat) → Q x) → wl_X8_skipBlanks_0 len f Q k a := by
  intro k
  induction k with
  | zero => intro a p h0 h1 h2; omega
  | succ k ih =>
    intro a p h0 h1 h2 hq
    have hc : a.toNatClampNeg = p := t_clamp h0
    refine ⟨fun c => hq a ?_, fun c => ?_⟩
    · rw [t_le] at c
      rw [sk_stop (fun w => by omega)]; exact h0
    rw [t_le] at c
    have hp : p < n := by omega
    have hy := hb p hp
    unfold cR at hy
    refine ⟨t_in (by omega) (by omega), fun x2 e2 => ⟨fun c2 => hq a ?_, fun c2 x4 e4 => ?_⟩⟩
    · rw [hc] at e2
      rw [e2, t_eq, t_32] at c2
      rw [sk_stop (fun w => by omega)]; exact h0
    · rw [hc] at e2
      rw [e2, t_eq, t_32] at c2
      have z : b p = 32 := by omega
      have e : x4.toInt = ((p + 1 : Nat) : Int) := by rw [e4, t_inc (by omega), h0]; omega
      exact ih x4 (p + 1) e (by omega) (by omega) (fun x hx => hq x (by rw [sk_step ⟨hp, z⟩]; exact hx))
theorem x_skipBlanks {Q : Int32 → Prop} (hl : len.toInt = n) (hn : n ≤ 600) (hb : tB n f b) {a : Int32} {p : Nat} (h0 : a.toInt = p) (h1 : p ≤ 600) (hq : ∀ x : Int32, x.toInt = (sk n b p : Nat) → Q x) : wq_X8_skipBlanks len f a Q :=
  ⟨601, x_skip hl hn hb 601 a p h0 h1 (by omega) hq⟩
theorem x_digitAt {Q : Int32 → Prop} (hl : len.toInt = n) (hn : n ≤ 600) (hb : tB n f b) {a : Int32} {p : Nat} (h0 : a.toInt = p) (hy : isD (at0 n b p) → ∀ r : Int32, r.toInt = at0 n b p - 48 → Q r) (hz : ¬ isD (at0 n b p) → Q (-1)) : wq_X8_digitAt len f a Q := by
  have hc : a.toNatClampNeg = p := t_clamp h0
  refine ⟨fun c => hz ?_, fun c => ?_⟩
  · rw [t_le] at c
    rw [at0_out (by omega)]; omega
  rw [t_le] at c
  have hp : p < n := by omega
  have hw := hb p hp
  unfold cR at hw
  rw [at0_in hp] at hy hz
  refine ⟨t_in (by omega) (by omega), fun x2 e2 => ⟨fun c2 => hz ?_, fun c2 => ⟨t_in (by omega) (by omega), fun x4 e4 => ⟨fun c4 => ⟨t_in (by omega) (by omega), fun x6 e6 => ?_⟩, fun c4 => hz ?_⟩⟩⟩⟩
  · rw [hc] at e2; rw [e2, t_lt, t_48] at c2; omega
  · rw [hc] at e2 e4 e6
    rw [e2, t_lt, t_48] at c2
    rw [e4, t_le, t_57] at c4
    refine hy (by omega) _ ?_
    rw [e6, t_sub (by rw [t_48]; omega) (by rw [t_48]; omega), t_48]
    omega
  · rw [hc] at e4
    rw [e4, t_le, t_57] at c4
    omega
theorem x_num {Q : Int32 → Int32 → Int32 → Int32 → Int32 → Prop} {fa fp tk lo hi : Int32} (hl : len.toInt = n) (hn : n ≤ 600) (hb : tB n f b) : ∀ (k : Nat) (a l3 : Int32) (p : Nat) (V : Int), a.toInt = p → p ≤ 600 → 600 - p < k → 0 ≤ V → (V < 100000 → l3.toInt = V) → (100000 ≤ V → l3.toInt = 100000) →
    (∀ x l : Int32, x.toInt = (dE n b p : Nat) → (dv n b p V < 100000 → l.toInt = dv n b p V) → (100000 ≤ dv n b p V → l.toInt = 100000) → wb_X8_number_97 len f Q x fa fp tk lo hi l) → wl_X8_number_43 len f Q k a fa fp tk lo hi l3 := by
  intro k
  induction k with
  | zero => intro a l3 p V h0 h1 h2; omega
  | succ k ih =>
    intro a l3 p V h0 h1 h2 hV g1 g2 hq
    have stop : ¬ (p < n ∧ isD (b p)) → wb_X8_number_97 len f Q a fa fp tk lo hi l3 := fun z => by
      rw [dE_stop z, dv_stop z] at hq
      exact hq a l3 h0 g1 g2
    refine ⟨fun c => stop ?_, fun c => ?_⟩
    · rw [t_le] at c; exact fun w => by omega
    rw [t_le] at c
    have hp : p < n := by omega
    refine x_digitAt hl hn hb h0 (fun y r er => ?_) (fun y => ?_)
    · rw [at0_in hp] at y er
      refine ⟨fun c2 => ?_, fun c2 => ?_⟩
      · rw [t_lt, t_0] at c2; omega
      refine x_digitAt hl hn hb h0 (fun y2 r2 er2 => ?_) (fun y2 => ?_)
      · rw [at0_in hp] at er2
        intro x12 e12 x13 e13
        have ea : x13.toInt = ((p + 1 : Nat) : Int) := by rw [e13, t_inc (by omega), h0]; omega
        have el : (l3 * 10 + r2).toInt = l3.toInt * 10 + r2.toInt := by
          have em : (l3 * 10).toInt = l3.toInt * 10 := by rw [t_mul (by rw [t_10]; omega) (by rw [t_10]; omega), t_10]
          rw [t_add (by rw [em]; omega) (by rw [em]; omega), em]
        rw [dE_step ⟨hp, y⟩, dv_step ⟨hp, y⟩] at hq
        refine ih x13 x12 (p + 1) (10 * V + (b p - 48)) ea (by omega) (by omega) (by omega) (fun w => ?_) (fun w => ?_) hq
        · have w2 : V < 100000 := by omega
          have e3 := g1 w2
          rw [e12, if_pos (by rw [t_lt, el, t_100000]; omega), el]
          omega
        · by_cases w2 : V < 100000
          · have e3 := g1 w2
            rw [e12, if_neg (by rw [t_lt, el, t_100000]; omega), t_100000]
          · have e3 := g2 (by omega)
            rw [e12, if_neg (by rw [t_lt, el, t_100000]; omega), t_100000]
      · exact absurd (by rw [at0_in hp]; exact y) y2
    · rw [at0_in hp] at y
      exact ⟨fun _ => stop (fun w => y w.2), fun c2 => absurd (by decide) c2⟩
/-- a number of the class: with a fault before, without a digit, out of its bounds, or well -/
theorem x_number {Q : Int32 → Int32 → Int32 → Int32 → Int32 → Prop} {a fa fp tk lo hi : Int32} {p : Nat} (hl : len.toInt = n) (hn : n ≤ 600) (hb : tB n f b) (h0 : a.toInt = p) (h1 : p ≤ 600) (hlo : 0 ≤ lo.toInt) (hhi : hi.toInt ≤ 999)
    (q1 : ¬ fa = 0 → ∀ x : Int32, x.toInt = (sk n b p : Nat) → Q 0 x fa fp tk)
    (q2 : fa = 0 → ¬ isD (at0 n b (sk n b p)) → ∀ x : Int32, x.toInt = (sk n b p : Nat) → Q 0 x 1 x tk)
    (q3 : fa = 0 → isD (at0 n b (sk n b p)) → (lo.toInt ≤ dv n b (sk n b p) 0 ∧ dv n b (sk n b p) 0 ≤ hi.toInt) → ∀ r x t : Int32, r.toInt = dv n b (sk n b p) 0 → x.toInt = (dE n b (sk n b p) : Nat) → t.toInt = (sk n b p : Nat) → Q r x 0 fp t)
    (q4 : fa = 0 → isD (at0 n b (sk n b p)) → ¬ (lo.toInt ≤ dv n b (sk n b p) 0 ∧ dv n b (sk n b p) 0 ≤ hi.toInt) → ∀ r x t : Int32, x.toInt = (dE n b (sk n b p) : Nat) → t.toInt = (sk n b p : Nat) → Q r x 2 t t) : wq_X8_number len f a fa fp tk lo hi Q := by
  refine x_skipBlanks hl hn hb h0 h1 (fun x1 e1 => ?_)
  have hs := sk_le (b := b) h1 hn
  refine x_digitAt hl hn hb e1 (fun y r er => ?_) (fun y => ?_)
  · refine ⟨fun _ => ⟨fun z => ⟨fun _ => ?_, fun c => absurd rfl c⟩, fun z => ⟨fun c => absurd c (by decide), fun _ => q1 z x1 e1⟩⟩, fun c => ?_⟩
    · refine ⟨601, x_num hl hn hb 601 x1 0 (sk n b p) 0 e1 hs (by omega) (by omega) (fun _ => t_0) (fun w => by omega) (fun x l ex g1 g2 => ?_)⟩
      have hv := dv_facts (n := n) (b := b) _ (sk n b p) 0 rfl (by omega)
      by_cases hr : lo.toInt ≤ dv n b (sk n b p) 0 ∧ dv n b (sk n b p) 0 ≤ hi.toInt
      · have e := g1 (by omega)
        refine ⟨fun c => ?_, fun c => ⟨fun c2 => ?_, fun c2 => ⟨fun _ => ?_, fun d => absurd d (by decide)⟩⟩⟩
        · rw [t_lt] at c; omega
        · rw [t_lt] at c2; omega
        · rw [z]; exact q3 z y hr l x x1 e ex e1
      · have bad : wq_X8_blame fa fp 2 x1 (fun x16 x17 => Q l x x16 x17 x1) := ⟨fun d => absurd z d, fun _ => q4 z y hr l x x1 ex e1⟩
        refine ⟨fun c => ⟨fun d => absurd rfl d, fun _ => bad⟩, fun c => ⟨fun c2 => ⟨fun d => absurd rfl d, fun _ => bad⟩, fun c2 => ?_⟩⟩
        rw [t_lt] at c c2
        by_cases w : dv n b (sk n b p) 0 < 100000
        · have e := g1 w
          exact absurd ⟨by omega, by omega⟩ hr
        · have e := g2 (by omega)
          omega
    · rw [t_le, t_0] at c; omega
  · refine ⟨fun c => absurd c (by decide), fun _ => ⟨fun z => ?_, fun z => ?_⟩⟩
    · refine ⟨fun d => absurd d z, fun _ => ⟨fun c => absurd c (by decide), fun _ => ?_⟩⟩
      exact q1 z x1 e1
    · refine ⟨fun d => absurd d (by decide), fun _ => ⟨fun c => absurd c (by decide), fun _ => ?_⟩⟩
      exact q2 z y x1 e1
/-- a sign that is wanted -/
theorem x_needs {Q : Int32 → Int32 → Int32 → Int32 → Prop} {a tk fa fp c : Int32} {p : Nat} (hl : len.toInt = n) (hn : n ≤ 600) (hb : tB n f b) (h0 : a.toInt = p) (h1 : p ≤ 600) (hc : 1 ≤ c.toInt ∧ c.toInt ≤ 127)
    (q1 : ¬ fa = 0 → ∀ x : Int32, x.toInt = (sk n b p : Nat) → Q x tk fa fp)
    (q2 : fa = 0 → at0 n b (sk n b p) = c.toInt → ∀ x t : Int32, x.toInt = ((sk n b p + 1 : Nat) : Int) → Q x t 0 fp)
    (q3 : fa = 0 → at0 n b (sk n b p) ≠ c.toInt → ∀ x : Int32, x.toInt = (sk n b p : Nat) → Q x tk 1 x) : wq_X8_needs len f a tk fa fp c Q := by
  have hs := sk_le (b := b) h1 hn
  have no : ∀ x1 : Int32, x1.toInt = (sk n b p : Nat) → (¬ fa = 0 ∨ at0 n b (sk n b p) ≠ c.toInt) → wq_X8_blameSign len f x1 fa fp (fun x5 x6 x7 => Q x5 tk x6 x7) := fun x1 e1 w => by
    refine x_skipBlanks hl hn hb e1 hs (fun x2 e2 => ?_)
    rw [sk_sk] at e2
    refine ⟨fun z => q1 z x2 e2, fun z => q3 z (w.resolve_left (fun d => d z)) x2 e2⟩
  refine x_skipBlanks hl hn hb h0 h1 (fun x1 e1 => ⟨fun z => ⟨fun d => absurd rfl d, fun _ => ?_⟩, fun z => ⟨fun _ => ⟨fun d => absurd rfl d, fun _ => no x1 e1 (Or.inl z)⟩, fun d => absurd d (by decide)⟩⟩)
  refine ⟨fun c1 => ⟨fun d => absurd rfl d, fun _ => no x1 e1 (Or.inr ?_)⟩, fun c1 => ?_⟩
  · rw [t_le] at c1
    rw [at0_out (by omega)]; omega
  rw [t_le] at c1
  have hp : sk n b p < n := by omega
  have hw := hb _ hp
  unfold cR at hw
  have hcl : x1.toNatClampNeg = sk n b p := t_clamp e1
  refine ⟨t_in (by omega) (by omega), fun x5 e5 => ⟨fun c5 x7 e7 => ⟨fun _ => ?_, fun d => absurd d (by decide)⟩, fun c5 => ⟨fun d => absurd rfl d, fun _ => no x1 e1 (Or.inr ?_)⟩⟩⟩
  · rw [hcl] at e5
    rw [e5, t_eq] at c5
    rw [z]
    exact q2 z (by rw [at0_in hp]; omega) x7 x1 (by rw [e7, t_inc (by omega), e1]; omega)
  · rw [hcl] at e5
    rw [e5, t_eq] at c5
    rw [at0_in hp]; omega
theorem x_isEnded {Q : Int32 → Int32 → Prop} {a : Int32} {p : Nat} (hl : len.toInt = n) (hn : n ≤ 600) (hb : tB n f b) (h0 : a.toInt = p) (h1 : p ≤ 600)
    (q0 : sk n b p < n → ∀ x : Int32, x.toInt = (sk n b p : Nat) → Q 0 x) (q1 : ¬ sk n b p < n → ∀ x : Int32, x.toInt = (sk n b p : Nat) → Q 1 x) : wq_X8_isEnded len f a Q :=
  x_skipBlanks hl hn hb h0 h1 (fun x e => ⟨fun c => q0 (by rw [t_lt] at c; omega) x e, fun c => q1 (by rw [t_lt] at c; omega) x e⟩)
theorem x_isLetter {Q : Int32 → Prop} {a : Int32} {p : Nat} (hl : len.toInt = n) (hn : n ≤ 600) (hb : tB n f b) (h0 : a.toInt = p) (q1 : isL (at0 n b p) → Q 1) (q0 : ¬ isL (at0 n b p) → Q 0) : wq_X8_isLetter len f a Q := by
  have hc : a.toNatClampNeg = p := t_clamp h0
  refine ⟨fun c => q0 ?_, fun c => ?_⟩
  · rw [t_le] at c
    rw [at0_out (by omega)]; omega
  rw [t_le] at c
  have hp : p < n := by omega
  have hw := hb p hp
  unfold cR at hw
  rw [at0_in hp] at q0 q1
  refine ⟨t_in (by omega) (by omega), fun x2 e2 => ⟨fun c2 => q0 ?_, fun c2 => ⟨t_in (by omega) (by omega), fun x4 e4 => ⟨fun c4 => q0 ?_, fun c4 => q1 ?_⟩⟩⟩⟩
  · rw [hc] at e2; rw [e2, t_lt, t_97] at c2; omega
  · rw [hc] at e4; rw [e4, t_lt, t_122] at c4; omega
  · rw [hc] at e2 e4; rw [e2, t_lt, t_97] at c2; rw [e4, t_lt, t_122] at c4; omega
end TXc
end
section
/-! words, and the reference's tokens -/
def isW (n : Nat) (b : Nat → Int) (m : Nat) (w : Nat → Int) (s : Nat) : Prop := s + m ≤ n ∧ ¬ isL (at0 n b (s + m)) ∧ ∀ j : Nat, j < m → b (s + j) = w j
/-- a String's letters -/
def wSt (m : Nat) (b1 : Nat → Int32) (w : Nat → Int) : Prop := (Int32.ofNat m >>> ((0 : Int32) &&& 31)).toInt = m ∧ (Int32.ofNat m).toInt = m ∧ m ≤ 6 ∧ ∀ j : Nat, j < m → ((((b1 j) &&& 255).toUInt32 % 65536).toInt32).toInt = w j ∧ isL (w j)
section TXw
variable {n : Nat} {b : Nat → Int} {len : Int32} {f : Nat → Int32}
theorem x_wl {Q : Int32 → Int32 → Int32 → Prop} {m : Nat} {b1 : Nat → Int32} {w : Nat → Int} {a fa tk l2 : Int32} {s : Nat} (hn : n ≤ 600) (hb : tB n f b) (hS : wSt m b1 w) (ha : a.toInt = s) (hs : s + m ≤ n)
    (q0 : ¬ (∀ j : Nat, j < m → b (s + j) = w j) → Q 0 a tk) (q1 : (∀ j : Nat, j < m → b (s + j) = w j) → Q 1 l2 a) :
    ∀ (k : Nat) (l3 : Int32) (i : Nat), l3.toInt = i → i ≤ m → m - i < k → (∀ j : Nat, j < i → b (s + j) = w j) → wl_X8_takesWord_s_41 m b1 len fa f Q k a tk l2 l3 := by
  obtain ⟨z1, z2, z3, z4⟩ := hS
  intro k
  induction k with
  | zero => intro l3 i h0 h1 h2; omega
  | succ k ih =>
    intro l3 i h0 h1 h2 hj
    refine ⟨fun c => q1 (fun j hj2 => hj j ?_), fun c x11 e11 => ?_⟩
    · rw [t_le, z1] at c; omega
    rw [t_le, z1] at c
    have hi : i < m := by omega
    have e : x11.toInt = ((s + i : Nat) : Int) := by rw [e11, t_add (by omega) (by omega)]; omega
    have hc : x11.toNatClampNeg = s + i := t_clamp e
    have hci : l3.toNatClampNeg = i := t_clamp h0
    have hw := hb (s + i) (by omega)
    unfold cR at hw
    obtain ⟨y1, y2⟩ := z4 i hi
    refine ⟨t_in (by omega) (by omega), fun x12 e12 => ⟨fun d => ?_, ?_, t_in (by omega) (by omega), fun x ex => ⟨by rw [ex]; exact n_char _, fun c2 x15 e15 => ?_, fun c2 => q0 (fun hall => ?_)⟩⟩⟩
    · rw [t_lt, t_0] at d; omega
    · rw [t_lt, z2]; omega
    · rw [hc] at e12
      rw [hci] at ex
      rw [e12, ex, t_eq, y1] at c2
      have e5 : x15.toInt = ((i + 1 : Nat) : Int) := by rw [e15, t_inc (by omega), h0]; omega
      refine ih x15 (i + 1) e5 (by omega) (by omega) (fun j hj2 => ?_)
      by_cases z : j = i
      · rw [z]; omega
      · exact hj j (by omega)
    · have h9 := hall i hi
      rw [hc] at e12
      rw [hci] at ex
      exact c2 (by rw [e12, ex, t_eq, y1]; omega)
theorem x_word {Q : Int32 → Int32 → Int32 → Prop} {m : Nat} {b1 : Nat → Int32} {w : Nat → Int} {a fa tk : Int32} {p : Nat} (hl : len.toInt = n) (hn : n ≤ 600) (hb : tB n f b) (h0 : a.toInt = p) (h1 : p ≤ 600) (hS : wSt m b1 w)
    (q0 : (¬ fa = 0 ∨ ¬ isW n b m w (sk n b p)) → ∀ x : Int32, x.toInt = (sk n b p : Nat) → Q 0 x tk)
    (q1 : fa = 0 → isW n b m w (sk n b p) → ∀ x t : Int32, x.toInt = ((sk n b p + m : Nat) : Int) → t.toInt = (sk n b p : Nat) → Q 1 x t) : wq_X8_takesWord_s m b1 len fa f a tk Q := by
  obtain ⟨z1, z2, z3, z4⟩ := id hS
  refine x_skipBlanks hl hn hb h0 h1 (fun x1 e1 x3 e3 => ?_)
  have hs := sk_le (b := b) h1 hn
  have e : x3.toInt = ((sk n b p + m : Nat) : Int) := by rw [e3, t_add (by rw [z1]; omega) (by rw [z1]; omega), z1]; omega
  refine ⟨fun z => ⟨fun d => absurd rfl d, fun _ => ?_⟩, fun z => ⟨fun _ => q0 (Or.inl z) x1 e1, fun d => absurd d (by first | decide | simp)⟩⟩
  refine ⟨fun c => q0 (Or.inr (fun w9 => ?_)) x1 e1, fun c => ?_⟩
  · rw [t_lt] at c
    have := w9.1
    omega
  rw [t_lt] at c
  refine x_isLetter hl hn hb e (fun y => ⟨fun d => absurd d (by first | decide | simp), fun _ => q0 (Or.inr (fun w9 => w9.2.1 y)) x1 e1⟩) (fun y => ⟨fun _ => ?_, fun d => absurd rfl d⟩)
  refine ⟨m + 1, x_wl hn hb hS e1 (by omega) (fun w9 => q0 (Or.inr (fun w8 => w9 w8.2.2)) x1 e1) (fun w9 => q1 z ⟨by omega, y, w9⟩ x3 x1 e e1) (m + 1) 0 0 t_0 (by omega) (by omega) (fun j hj => by omega)⟩
/-! the reference -/
theorem y_hl {Q : Int32 → Int32 → Prop} (hl : len.toInt = n) (hn : n ≤ 600) (hb : tB n f b) : ∀ (k : Nat) (a : Int32) (p : Nat), a.toInt = p → p ≤ 600 → 600 - p < k → (∀ r x : Int32, x.toInt = (sk n b p : Nat) → cR r (at0 n b (sk n b p)) → Q r x) → wl_X11_here_0 len f Q k a := by
  intro k
  induction k with
  | zero => intro a p h0 h1 h2; omega
  | succ k ih =>
    intro a p h0 h1 h2 hq
    have hc : a.toNatClampNeg = p := t_clamp h0
    have stop : ¬ (p < n ∧ b p = 32) → wb_X11_here_38 len f Q a := fun z => by
      rw [sk_stop z] at hq
      refine ⟨fun c => hq 0 a h0 ?_, fun c => ?_⟩
      · rw [t_le] at c
        rw [at0_out (by omega)]
        exact ⟨Int.le_refl _, Or.inl t_0⟩
      · rw [t_le] at c
        have hp : p < n := by omega
        refine ⟨t_in (by omega) (by omega), fun x6 e6 => hq x6 a h0 ?_⟩
        rw [at0_in hp, e6, hc]
        exact hb p hp
    refine ⟨fun c => stop ?_, fun c => ?_⟩
    · rw [t_le] at c; exact fun w => by omega
    rw [t_le] at c
    have hp : p < n := by omega
    have hy := hb p hp
    unfold cR at hy
    refine ⟨t_in (by omega) (by omega), fun x2 e2 => ⟨fun c2 => stop ?_, fun c2 x4 e4 => ?_⟩⟩
    · rw [hc] at e2
      rw [e2, t_eq, t_32] at c2
      exact fun w => by omega
    · rw [hc] at e2
      rw [e2, t_eq, t_32] at c2
      have z : b p = 32 := by omega
      have e : x4.toInt = ((p + 1 : Nat) : Int) := by rw [e4, t_inc (by omega), h0]; omega
      rw [sk_step ⟨hp, z⟩] at hq
      exact ih x4 (p + 1) e (by omega) (by omega) hq
theorem y_here {Q : Int32 → Int32 → Prop} {a : Int32} {p : Nat} (hl : len.toInt = n) (hn : n ≤ 600) (hb : tB n f b) (h0 : a.toInt = p) (h1 : p ≤ 600) (hq : ∀ r x : Int32, x.toInt = (sk n b p : Nat) → cR r (at0 n b (sk n b p)) → Q r x) : wq_X11_here len f a Q :=
  ⟨601, y_hl hl hn hb 601 a p h0 h1 (by omega) hq⟩
theorem y_isMore {Q : Int32 → Int32 → Prop} {a : Int32} {p : Nat} (hl : len.toInt = n) (hn : n ≤ 600) (hb : tB n f b) (h0 : a.toInt = p) (h1 : p ≤ 600)
    (q1 : sk n b p < n → ∀ x : Int32, x.toInt = (sk n b p : Nat) → Q 1 x) (q0 : ¬ sk n b p < n → ∀ x : Int32, x.toInt = (sk n b p : Nat) → Q 0 x) : wq_X11_isMore len f a Q :=
  y_here hl hn hb h0 h1 (fun r x e _ => ⟨fun c => q0 (by rw [t_le] at c; omega) x e, fun c => q1 (by rw [t_le] at c; omega) x e⟩)
theorem y_isDigit {Q : Int32 → Prop} {r : Int32} {c : Int} (h : cR r c) (q1 : isD c → Q 1) (q0 : ¬ isD c → Q 0) : wq_X11_isDigit r Q := by
  unfold cR at h
  refine ⟨fun z => q0 ?_, fun z => ⟨fun z2 => q0 ?_, fun z2 => q1 ?_⟩⟩
  · simp only [t_lt, t_le, t_48, t_57] at z; omega
  · simp only [t_lt, t_le, t_48, t_57] at z z2; omega
  · simp only [t_lt, t_le, t_48, t_57] at z z2; omega
theorem y_isSmall {Q : Int32 → Prop} {r : Int32} {c : Int} (h : cR r c) (q1 : isL c → Q 1) (q0 : ¬ isL c → Q 0) : wq_X11_isSmall r Q := by
  unfold cR at h
  refine ⟨fun z => q0 ?_, fun z => ⟨fun z2 => q0 ?_, fun z2 => q1 ?_⟩⟩
  · simp only [t_lt, t_le, t_97, t_122] at z; omega
  · simp only [t_lt, t_le, t_97, t_122] at z z2; omega
  · simp only [t_lt, t_le, t_97, t_122] at z z2; omega
theorem y_num {Q : Int32 → Int32 → Int32 → Int32 → Prop} {bd bk lo hi l4 : Int32} (hl : len.toInt = n) (hn : n ≤ 600) (hb : tB n f b) : ∀ (k : Nat) (a l5 : Int32) (p : Nat) (V : Int), a.toInt = p → p ≤ 600 → 600 - p < k → 0 ≤ V → (V ≤ 9999 → l5.toInt = V) → (9999 < V → 9999 < l5.toInt ∧ l5.toInt ≤ 99999) →
    (∀ x l : Int32, x.toInt = (dE n b p : Nat) → (dv n b p V ≤ 9999 → l.toInt = dv n b p V) → (9999 < dv n b p V → 9999 < l.toInt) → wb_X11_readNumber_114 len f Q x bd bk lo hi l4 l) → wl_X11_readNumber_41 len f Q k a bd bk lo hi l4 l5 := by
  intro k
  induction k with
  | zero => intro a l5 p V h0 h1 h2; omega
  | succ k ih =>
    intro a l5 p V h0 h1 h2 hV g1 g2 hq
    have hc : a.toNatClampNeg = p := t_clamp h0
    have stop : ¬ (p < n ∧ isD (b p)) → wb_X11_readNumber_114 len f Q a bd bk lo hi l4 l5 := fun z => by
      rw [dE_stop z, dv_stop z] at hq
      exact hq a l5 h0 g1 (fun w => (g2 w).1)
    refine ⟨fun c => stop ?_, fun c => ?_⟩
    · rw [t_le] at c; exact fun w => by omega
    rw [t_le] at c
    have hp : p < n := by omega
    have hy := hb p hp
    refine ⟨t_in (by omega) (by omega), fun x10 e10 => ?_⟩
    rw [hc] at e10
    rw [← e10] at hy
    refine y_isDigit hy (fun y => ⟨fun d => absurd d (by first | decide | simp), fun _ => ?_⟩) (fun y => ⟨fun _ => stop (fun w => y w.2), fun d => absurd rfl d⟩)
    unfold cR at hy
    rw [dE_step ⟨hp, y⟩, dv_step ⟨hp, y⟩] at hq
    refine ⟨fun c5 => ⟨t_in (by omega) (by omega), fun x14 e14 x17 e17 => ?_⟩, fun c5 x17 e17 => ?_⟩
    · rw [hc, ← e10] at e14
      rw [t_le, t_9999] at c5
      have hV2 : V ≤ 9999 := by
        by_cases w : V ≤ 9999
        · exact w
        · have := g2 (by omega); omega
      have e5 := g1 hV2
      have ea : x17.toInt = ((p + 1 : Nat) : Int) := by rw [e17, t_inc (by omega), h0]; omega
      have em : (10 * l5).toInt = 10 * l5.toInt := by rw [t_mul (by rw [t_10]; omega) (by rw [t_10]; omega), t_10]
      have ep : (10 * l5 + x14).toInt = 10 * l5.toInt + x14.toInt := by rw [t_add (by rw [em, e14]; omega) (by rw [em, e14]; omega), em]
      have el : (10 * l5 + x14 - 48).toInt = 10 * V + (b p - 48) := by
        rw [t_sub (by rw [ep, t_48, e14]; omega) (by rw [ep, t_48, e14]; omega), ep, t_48, e14]; omega
      exact ih x17 _ (p + 1) (10 * V + (b p - 48)) ea (by omega) (by omega) (by omega) (fun w => el) (fun w => by rw [el]; omega) hq
    · rw [t_le, t_9999] at c5
      have ea : x17.toInt = ((p + 1 : Nat) : Int) := by rw [e17, t_inc (by omega), h0]; omega
      have hV2 : 9999 < V := by
        by_cases w : V ≤ 9999
        · have := g1 w; omega
        · omega
      exact ih x17 _ (p + 1) (10 * V + (b p - 48)) ea (by omega) (by omega) (by omega) (fun w => by omega) (fun w => by rw [t_10000]; omega) hq
/-- a number of the reference -/
theorem y_number {Q : Int32 → Int32 → Int32 → Int32 → Prop} {a bd bk lo hi : Int32} {p : Nat} (hl : len.toInt = n) (hn : n ≤ 600) (hb : tB n f b) (h0 : a.toInt = p) (h1 : p ≤ 600) (hlo : 0 ≤ lo.toInt) (hhi : hi.toInt ≤ 999)
    (q1 : ¬ bd = -1 → Q 0 a bd bk)
    (q2 : bd = -1 → ¬ isD (at0 n b (sk n b p)) → ∀ x : Int32, x.toInt = (sk n b p : Nat) → Q 0 x x 1)
    (q3 : bd = -1 → isD (at0 n b (sk n b p)) → (lo.toInt ≤ dv n b (sk n b p) 0 ∧ dv n b (sk n b p) 0 ≤ hi.toInt) → ∀ r x : Int32, r.toInt = dv n b (sk n b p) 0 → x.toInt = (dE n b (sk n b p) : Nat) → Q r x (-1) bk)
    (q4 : bd = -1 → isD (at0 n b (sk n b p)) → ¬ (lo.toInt ≤ dv n b (sk n b p) 0 ∧ dv n b (sk n b p) 0 ≤ hi.toInt) → ∀ x t : Int32, x.toInt = (dE n b (sk n b p) : Nat) → t.toInt = (sk n b p : Nat) → Q 0 x t 2) : wq_X11_readNumber len f a bd bk lo hi Q := by
  have hs := sk_le (b := b) h1 hn
  refine ⟨fun z => ⟨fun d => absurd rfl d, fun _ => q1 z⟩, fun z => ⟨fun _ => ?_, fun d => absurd d (by first | decide | simp)⟩⟩
  refine y_here hl hn hb h0 h1 (fun r x e hr => y_isDigit hr (fun y => ⟨fun _ => ?_, fun d => absurd d (by first | decide | simp)⟩) (fun y => ⟨fun d => absurd rfl d, fun _ => ⟨fun _ => q2 z y x e, fun d => absurd z d⟩⟩))
  refine ⟨601, y_num hl hn hb 601 x 0 (sk n b p) 0 e hs (by omega) (by omega) (fun _ => t_0) (fun w => by omega) (fun x2 l ex g1 g2 => ?_)⟩
  have hv := dv_facts (n := n) (b := b) _ (sk n b p) 0 rfl (by omega)
  by_cases hr2 : lo.toInt ≤ dv n b (sk n b p) 0 ∧ dv n b (sk n b p) 0 ≤ hi.toInt
  · have e9 := g1 (by omega)
    refine ⟨fun c => ?_, fun c => ⟨fun c2 => ?_, fun c2 => ?_⟩⟩
    · rw [t_lt] at c; omega
    · rw [z]; exact q3 z y hr2 l x2 e9 ex
    · rw [t_le] at c2; omega
  · have bad : wb_X11_readNumber_126 len f Q x2 bd bk x := ⟨fun _ => q4 z y hr2 x2 x ex e, fun d => absurd z d⟩
    refine ⟨fun c => bad, fun c => ⟨fun c2 => ?_, fun c2 => bad⟩⟩
    rw [t_lt] at c
    rw [t_le] at c2
    by_cases w : dv n b (sk n b p) 0 ≤ 9999
    · have e9 := g1 w
      exact absurd ⟨by omega, by omega⟩ hr2
    · have e9 := g2 (by omega)
      omega
theorem y_sign {Q : Int32 → Int32 → Int32 → Prop} {a bd bk c : Int32} {p : Nat} (hl : len.toInt = n) (hn : n ≤ 600) (hb : tB n f b) (h0 : a.toInt = p) (h1 : p ≤ 600) (hc : 1 ≤ c.toInt ∧ c.toInt ≤ 127)
    (q1 : ¬ bd = -1 → Q a bd bk)
    (q2 : bd = -1 → at0 n b (sk n b p) = c.toInt → ∀ x : Int32, x.toInt = ((sk n b p + 1 : Nat) : Int) → Q x (-1) bk)
    (q3 : bd = -1 → at0 n b (sk n b p) ≠ c.toInt → ∀ x : Int32, x.toInt = (sk n b p : Nat) → Q x x 1) : wq_X11_sign len f a bd bk c Q := by
  have hs := sk_le (b := b) h1 hn
  refine ⟨fun z => ⟨fun _ => ⟨fun z2 => ⟨fun _ => q1 z, fun d => absurd rfl d⟩, fun z2 => absurd z2 z⟩, fun d => absurd rfl d⟩, fun z => ⟨fun d => absurd d (by first | decide | simp), fun _ => ?_⟩⟩
  refine y_here hl hn hb h0 h1 (fun r x e hr => ⟨fun c1 => ?_, fun c1 => ?_⟩)
  · unfold cR at hr
    rw [t_eq] at c1
    refine ⟨fun z2 => absurd z z2, fun _ => ⟨fun d => absurd d (by first | decide | simp), fun _ x10 e10 => ?_⟩⟩
    rw [z]
    exact q2 z (by omega) x10 (by rw [e10, t_inc (by omega), e]; omega)
  · unfold cR at hr
    rw [t_eq] at c1
    refine ⟨fun _ => ?_, fun d => absurd z d⟩
    have hx : ¬ x = -1 := fun w => by rw [w, t_m1] at e; omega
    exact ⟨fun z2 => ⟨fun _ => q3 z (by omega) x e, fun d => absurd rfl d⟩, fun z2 => absurd z2 hx⟩
end TXw
end
section
/-! the reference's words -/
def pk (b : Nat → Int) (s : Nat) : Nat → Int
  | 0 => 0
  | i + 1 => pk b s i * 32 + (b (s + i) - 96)
theorem t_w5e {a c : Int32} (a0 : 0 ≤ a.toInt) (a1 : a.toInt < 33554432) (c0 : 0 ≤ c.toInt) (c1 : c.toInt < 32) : ((a <<< (5 &&& 31)) ||| c).toInt = a.toInt * 32 + c.toInt := by
  have ha := t_bvn a0
  have hc := t_bvn c0
  have hs : (a <<< (5 &&& 31)).toBitVec.toNat = a.toBitVec.toNat <<< 5 := by
    have e : (a <<< (5 &&& 31)).toBitVec = a.toBitVec <<< 5 := rfl
    rw [e, BitVec.toNat_shiftLeft, Nat.mod_eq_of_lt (by rw [Nat.shiftLeft_eq]; omega)]
  have ho : ((a <<< (5 &&& 31)) ||| c).toBitVec.toNat = a.toBitVec.toNat * 32 + c.toBitVec.toNat := by
    rw [t_orn, hs, ← Nat.shiftLeft_add_eq_or_of_lt (by omega), Nat.shiftLeft_eq]
  have e := t_ofn (x := (a <<< (5 &&& 31)) ||| c) (by omega)
  omega
section TXp
variable {n : Nat} {b : Nat → Int} {len : Int32} {f : Nat → Int32}
theorem pk_rng {s : Nat} : ∀ (i : Nat), (∀ j : Nat, j < i → isL (b (s + j))) → 0 ≤ pk b s i ∧ pk b s i < (32 ^ i : Nat) := by
  intro i
  induction i with
  | zero => intro _; exact ⟨Int.le_refl _, by show (0 : Int) < ((32 ^ 0 : Nat) : Int); decide⟩
  | succ i ih =>
    intro h
    obtain ⟨h1, h2⟩ := ih (fun j hj => h j (by omega))
    have h3 := h i (by omega)
    have e : (32 : Nat) ^ (i + 1) = 32 ^ i * 32 := Nat.pow_succ ..
    unfold pk
    rw [e]
    refine ⟨by omega, ?_⟩
    have e2 : ((32 ^ i * 32 : Nat) : Int) = ((32 ^ i : Nat) : Int) * 32 := by rw [Int.natCast_mul]; rfl
    omega
theorem lE_facts {s : Nat} : ∀ (m a : Nat), n - a = m → a ≤ lE n b a ∧ (lE n b a ≤ n ∨ lE n b a = a) ∧ (∀ j : Nat, a ≤ j → j < lE n b a → isL (b j)) ∧ ¬ isL (at0 n b (lE n b a)) := by
  intro m
  induction m with
  | zero =>
    intro a h
    have z : ¬ (a < n ∧ isL (b a)) := fun w => by omega
    rw [lE_stop z]
    exact ⟨Nat.le_refl _, Or.inr rfl, fun j h1 h2 => by omega, by rw [at0_out (by omega)]; omega⟩
  | succ m ih =>
    intro a h
    by_cases c : a < n ∧ isL (b a)
    · rw [lE_step c]
      obtain ⟨h1, h2, h3, h4⟩ := ih (a + 1) (by omega)
      refine ⟨by omega, by omega, fun j g1 g2 => ?_, h4⟩
      by_cases z : j = a
      · rw [z]; exact c.2
      · exact h3 j (by omega) g2
    · rw [lE_stop c]
      refine ⟨Nat.le_refl _, Or.inr rfl, fun j g1 g2 => by omega, fun w => c ?_⟩
      rw [at0_in (by omega)] at w
      exact ⟨by omega, w⟩
/-- what word() answers -/
def pw (n : Nat) (b : Nat → Int) (s : Nat) : Int := if lE n b s ≤ s + 6 then pk b s (lE n b s - s) else 0
theorem y_wl {Q : Int32 → Int32 → Prop} {a : Int32} {s : Nat} (hl : len.toInt = n) (hn : n ≤ 600) (hb : tB n f b) (ha : a.toInt = s) (hs : s ≤ 600) (hq : ∀ r : Int32, r.toInt = pw n b s → Q r a) :
    ∀ (k : Nat) (l1 l2 l3 : Int32) (i : Nat), l2.toInt = i → l3.toInt = ((s + i : Nat) : Int) → s + i ≤ 600 → lE n b (s + i) = lE n b s → (i ≤ 6 → l1.toInt = pk b s i) → (∀ j : Nat, j < i → isL (b (s + j))) → 600 - (s + i) < k → wl_X11_word_14 len f Q k a l1 l2 l3 := by
  intro k
  induction k with
  | zero => intro l1 l2 l3 i h0 h1 h2 h3 h4 h5 h6; omega
  | succ k ih =>
    intro l1 l2 l3 i h0 h1 h2 h3 h4 h5 h6
    have hc : l3.toNatClampNeg = s + i := t_clamp h1
    have stop : ¬ (s + i < n ∧ isL (b (s + i))) → wb_X11_word_67 len f Q a l1 l2 := fun z => by
      rw [lE_stop z] at h3
      refine ⟨fun c => hq l1 ?_, fun c => hq 0 ?_⟩
      · rw [t_le, t_6] at c
        unfold pw
        rw [← h3, if_pos (by omega), h4 (by omega)]
        congr 1
        omega
      · rw [t_le, t_6] at c
        unfold pw
        rw [← h3, if_neg (by omega)]
        exact t_0
    refine ⟨fun c => stop ?_, fun c => ?_⟩
    · rw [t_le] at c; exact fun w => by omega
    rw [t_le] at c
    have hp : s + i < n := by omega
    have hy := hb (s + i) hp
    refine ⟨t_in (by omega) (by omega), fun x4 e4 => ?_⟩
    rw [hc] at e4
    rw [← e4] at hy
    refine y_isSmall hy (fun y => ⟨fun d => absurd d (by decide), fun _ => ?_⟩) (fun y => ⟨fun _ => stop (fun w => y w.2), fun d => absurd rfl d⟩)
    unfold cR at hy
    have hall : ∀ j : Nat, j < i + 1 → isL (b (s + j)) := fun j hj => by
      by_cases z : j = i
      · rw [z]; exact y
      · exact h5 j (by omega)
    have h3' : lE n b (s + (i + 1)) = lE n b s := by rw [← h3, lE_step ⟨hp, y⟩]; rfl
    refine ⟨fun c6 x10 e10 x11 e11 => ?_, fun c6 => ⟨t_in (by omega) (by omega), fun x8 e8 x10 e10 x11 e11 => ?_⟩⟩
    · rw [t_le, t_6] at c6
      have e2 : x10.toInt = ((i + 1 : Nat) : Int) := by rw [e10, t_inc (by omega), h0]; omega
      have e3 : x11.toInt = ((s + (i + 1) : Nat) : Int) := by rw [e11, t_inc (by omega), h1]; omega
      exact ih _ x10 x11 (i + 1) e2 e3 (by omega) h3' (fun w => by omega) hall (by omega)
    · rw [t_le, t_6] at c6
      rw [hc, ← e4] at e8
      have e2 : x10.toInt = ((i + 1 : Nat) : Int) := by rw [e10, t_inc (by omega), h0]; omega
      have e3 : x11.toInt = ((s + (i + 1) : Nat) : Int) := by rw [e11, t_inc (by omega), h1]; omega
      refine ih _ x10 x11 (i + 1) e2 e3 (by omega) h3' (fun w => ?_) hall (by omega)
      have hr := pk_rng (b := b) (s := s) i h5
      have hp5 : 32 ^ i ≤ 32 ^ 5 := Nat.pow_le_pow_right (by decide) (by omega)
      have h55 : (32 : Nat) ^ 5 = 33554432 := by decide
      have h4i := h4 (by omega)
      have e96 : (x8 - 96).toInt = b (s + i) - 96 := by rw [t_sub (by rw [t_96, e8]; omega) (by rw [t_96, e8]; omega), t_96, e8]; omega
      rw [t_w5e (by omega) (by omega) (by omega) (by omega), h4i, e96]
      rfl
theorem y_word {Q : Int32 → Int32 → Prop} {a : Int32} {p : Nat} (hl : len.toInt = n) (hn : n ≤ 600) (hb : tB n f b) (h0 : a.toInt = p) (h1 : p ≤ 600) (hq : ∀ r x : Int32, x.toInt = (sk n b p : Nat) → r.toInt = pw n b (sk n b p) → Q r x) : wq_X11_word len f a Q :=
  y_here hl hn hb h0 h1 (fun _ x e _ => ⟨601, y_wl hl hn hb e (sk_le h1 hn) (fun r er => hq r x e er) 601 0 0 x 0 t_0 e (sk_le h1 hn) rfl (fun _ => t_0) (fun j hj => by omega) (by omega)⟩)
theorem y_pl {Q : Int32 → Prop} (hl : len.toInt = n) (hn : n ≤ 600) (hb : tB n f b) : ∀ (k : Nat) (a : Int32) (p : Nat), a.toInt = p → p ≤ 600 → 600 - p < k → (∀ x : Int32, x.toInt = (lE n b p : Nat) → Q x) → wl_X11_pass_0 len f Q k a := by
  intro k
  induction k with
  | zero => intro a p h0 h1 h2; omega
  | succ k ih =>
    intro a p h0 h1 h2 hq
    have hc : a.toNatClampNeg = p := t_clamp h0
    have stop : ¬ (p < n ∧ isL (b p)) → Q a := fun z => by
      rw [lE_stop z] at hq
      exact hq a h0
    refine ⟨fun c => stop ?_, fun c => ?_⟩
    · rw [t_le] at c; exact fun w => by omega
    rw [t_le] at c
    have hp : p < n := by omega
    have hy := hb p hp
    refine ⟨t_in (by omega) (by omega), fun x2 e2 => ?_⟩
    rw [hc] at e2
    rw [← e2] at hy
    refine y_isSmall hy (fun y => ⟨fun d => absurd d (by decide), fun _ x5 e5 => ?_⟩) (fun y => ⟨fun _ => stop (fun w => y w.2), fun d => absurd rfl d⟩)
    rw [lE_step ⟨hp, y⟩] at hq
    exact ih x5 (p + 1) (by rw [e5, t_inc (by omega), h0]; omega) (by omega) (by omega) hq
theorem y_pass {Q : Int32 → Prop} {a : Int32} {p : Nat} (hl : len.toInt = n) (hn : n ≤ 600) (hb : tB n f b) (h0 : a.toInt = p) (h1 : p ≤ 600) (hq : ∀ x : Int32, x.toInt = (lE n b p : Nat) → Q x) : wq_X11_pass len f a Q :=
  ⟨601, y_pl hl hn hb 601 a p h0 h1 (by omega) hq⟩
/-- words of three letters and more -/
theorem pw_3 {s : Nat} {w0 w1 w2 : Int} {w : Nat → Int} (hs : s ≤ 600) (e0 : w 0 = w0) (e1 : w 1 = w1) (e2 : w 2 = w2) (g0 : isL w0) (g1 : isL w1) (g2 : isL w2) :
    (pw n b s = (((w0 - 96) * 32 + (w1 - 96)) * 32 + (w2 - 96)) ↔ isW n b 3 w s) ∧ (isW n b 3 w s → lE n b s = s + 3) := by
  obtain ⟨h1, h2, h3, h4⟩ := lE_facts (n := n) (b := b) (s := s) _ s rfl
  have back : isW n b 3 w s → lE n b s = s + 3 := fun h => by
    obtain ⟨k1, k2, k3⟩ := h
    have c0 := k3 0 (by omega)
    have c1 := k3 1 (by omega)
    have c2 := k3 2 (by omega)
    rw [Nat.add_zero] at c0
    rw [lE_step ⟨by omega, by rw [c0, e0]; exact g0⟩, lE_step ⟨by omega, by rw [c1, e1]; exact g1⟩, lE_step ⟨by omega, by rw [show s + 1 + 1 = s + 2 by omega, c2, e2]; exact g2⟩]
    refine lE_stop (fun z => k2 ?_)
    rw [at0_in (by omega)]
    exact z.2
  refine ⟨⟨fun h => ?_, fun h => ?_⟩, back⟩
  · unfold pw at h
    by_cases c : lE n b s ≤ s + 6
    · rw [if_pos c] at h
      have hl : lE n b s = s + 3 := by
        have hcs : lE n b s - s = 0 ∨ lE n b s - s = 1 ∨ lE n b s - s = 2 ∨ lE n b s - s = 3 ∨ lE n b s - s = 4 ∨ lE n b s - s = 5 ∨ lE n b s - s = 6 := by omega
        have y0 : 0 < lE n b s - s → isL (b (s)) := fun z => h3 _ (by omega) (by omega)
        have y1 : 1 < lE n b s - s → isL (b (s + 1)) := fun z => h3 _ (by omega) (by omega)
        have y2 : 2 < lE n b s - s → isL (b (s + 2)) := fun z => h3 _ (by omega) (by omega)
        have y3 : 3 < lE n b s - s → isL (b (s + 3)) := fun z => h3 _ (by omega) (by omega)
        have y4 : 4 < lE n b s - s → isL (b (s + 4)) := fun z => h3 _ (by omega) (by omega)
        have y5 : 5 < lE n b s - s → isL (b (s + 5)) := fun z => h3 _ (by omega) (by omega)
        rcases hcs with z | z | z | z | z | z | z <;> rw [z] at h y0 y1 y2 y3 y4 y5 <;> simp only [pk, Nat.add_zero] at h
        · omega
        · have := y0 (by omega); omega
        · have := y0 (by omega); have := y1 (by omega); omega
        · omega
        · have := y0 (by omega); have := y1 (by omega); have := y2 (by omega); have := y3 (by omega); omega
        · have := y0 (by omega); have := y1 (by omega); have := y2 (by omega); have := y3 (by omega); have := y4 (by omega); omega
        · have := y0 (by omega); have := y1 (by omega); have := y2 (by omega); have := y3 (by omega); have := y4 (by omega); have := y5 (by omega); omega
      have y0 := h3 (s) (by omega) (by omega)
      have y1 := h3 (s + 1) (by omega) (by omega)
      have y2 := h3 (s + 2) (by omega) (by omega)
      rw [show lE n b s - s = 3 by omega] at h
      simp only [pk, Nat.add_zero] at h
      rw [hl] at h4
      refine ⟨by omega, h4, fun j hj => ?_⟩
      rcases (show j = 0 ∨ j = 1 ∨ j = 2 by omega) with rfl | rfl | rfl
      · rw [Nat.add_zero, e0]; omega
      · rw [e1]; omega
      · rw [e2]; omega
    · rw [if_neg c] at h; omega
  · have hl := back h
    obtain ⟨k1, k2, k3⟩ := h
    have c0 := k3 0 (by omega)
    have c1 := k3 1 (by omega)
    have c2 := k3 2 (by omega)
    unfold pw
    rw [if_pos (by omega), show lE n b s - s = 3 by omega]
    simp only [pk, Nat.add_zero] at c0 ⊢
    rw [c0, c1, c2, e0, e1, e2]
    omega
theorem pw_4 {s : Nat} {w0 w1 w2 w3 : Int} {w : Nat → Int} (hs : s ≤ 600) (e0 : w 0 = w0) (e1 : w 1 = w1) (e2 : w 2 = w2) (e3 : w 3 = w3) (g0 : isL w0) (g1 : isL w1) (g2 : isL w2) (g3 : isL w3) :
    (pw n b s = ((((w0 - 96) * 32 + (w1 - 96)) * 32 + (w2 - 96)) * 32 + (w3 - 96)) ↔ isW n b 4 w s) ∧ (isW n b 4 w s → lE n b s = s + 4) := by
  obtain ⟨h1, h2, h3, h4⟩ := lE_facts (n := n) (b := b) (s := s) _ s rfl
  have back : isW n b 4 w s → lE n b s = s + 4 := fun h => by
    obtain ⟨k1, k2, k3⟩ := h
    have c0 := k3 0 (by omega)
    have c1 := k3 1 (by omega)
    have c2 := k3 2 (by omega)
    have c3 := k3 3 (by omega)
    rw [Nat.add_zero] at c0
    rw [lE_step ⟨by omega, by rw [c0, e0]; exact g0⟩, lE_step ⟨by omega, by rw [c1, e1]; exact g1⟩, lE_step ⟨by omega, by rw [show s + 1 + 1 = s + 2 by omega, c2, e2]; exact g2⟩, lE_step ⟨by omega, by rw [show s + 1 + 1 + 1 = s + 3 by omega, c3, e3]; exact g3⟩]
    refine lE_stop (fun z => k2 ?_)
    rw [at0_in (by omega)]
    exact z.2
  refine ⟨⟨fun h => ?_, fun h => ?_⟩, back⟩
  · unfold pw at h
    by_cases c : lE n b s ≤ s + 6
    · rw [if_pos c] at h
      have hl : lE n b s = s + 4 := by
        have hcs : lE n b s - s = 0 ∨ lE n b s - s = 1 ∨ lE n b s - s = 2 ∨ lE n b s - s = 3 ∨ lE n b s - s = 4 ∨ lE n b s - s = 5 ∨ lE n b s - s = 6 := by omega
        have y0 : 0 < lE n b s - s → isL (b (s)) := fun z => h3 _ (by omega) (by omega)
        have y1 : 1 < lE n b s - s → isL (b (s + 1)) := fun z => h3 _ (by omega) (by omega)
        have y2 : 2 < lE n b s - s → isL (b (s + 2)) := fun z => h3 _ (by omega) (by omega)
        have y3 : 3 < lE n b s - s → isL (b (s + 3)) := fun z => h3 _ (by omega) (by omega)
        have y4 : 4 < lE n b s - s → isL (b (s + 4)) := fun z => h3 _ (by omega) (by omega)
        have y5 : 5 < lE n b s - s → isL (b (s + 5)) := fun z => h3 _ (by omega) (by omega)
        rcases hcs with z | z | z | z | z | z | z <;> rw [z] at h y0 y1 y2 y3 y4 y5 <;> simp only [pk, Nat.add_zero] at h
        · omega
        · have := y0 (by omega); omega
        · have := y0 (by omega); have := y1 (by omega); omega
        · have := y0 (by omega); have := y1 (by omega); have := y2 (by omega); omega
        · omega
        · have := y0 (by omega); have := y1 (by omega); have := y2 (by omega); have := y3 (by omega); have := y4 (by omega); omega
        · have := y0 (by omega); have := y1 (by omega); have := y2 (by omega); have := y3 (by omega); have := y4 (by omega); have := y5 (by omega); omega
      have y0 := h3 (s) (by omega) (by omega)
      have y1 := h3 (s + 1) (by omega) (by omega)
      have y2 := h3 (s + 2) (by omega) (by omega)
      have y3 := h3 (s + 3) (by omega) (by omega)
      rw [show lE n b s - s = 4 by omega] at h
      simp only [pk, Nat.add_zero] at h
      rw [hl] at h4
      refine ⟨by omega, h4, fun j hj => ?_⟩
      rcases (show j = 0 ∨ j = 1 ∨ j = 2 ∨ j = 3 by omega) with rfl | rfl | rfl | rfl
      · rw [Nat.add_zero, e0]; omega
      · rw [e1]; omega
      · rw [e2]; omega
      · rw [e3]; omega
    · rw [if_neg c] at h; omega
  · have hl := back h
    obtain ⟨k1, k2, k3⟩ := h
    have c0 := k3 0 (by omega)
    have c1 := k3 1 (by omega)
    have c2 := k3 2 (by omega)
    have c3 := k3 3 (by omega)
    unfold pw
    rw [if_pos (by omega), show lE n b s - s = 4 by omega]
    simp only [pk, Nat.add_zero] at c0 ⊢
    rw [c0, c1, c2, c3, e0, e1, e2, e3]
    omega
end TXp
end
section
/-! reading: the state of both readers by kind and place of the fault, and where they are -/
abbrev sT := Int × Nat × Nat
def nS (n : Nat) (b : Nat → Int) (lo hi : Int) (st : sT) : sT :=
  if st.1 ≠ 0 then st else if ¬ isD (at0 n b (sk n b st.2.2)) then (1, sk n b st.2.2, 0) else if lo ≤ dv n b (sk n b st.2.2) 0 ∧ dv n b (sk n b st.2.2) 0 ≤ hi then (0, 0, dE n b (sk n b st.2.2)) else (2, sk n b st.2.2, 0)
def nV (n : Nat) (b : Nat → Int) (st : sT) : Int := dv n b (sk n b st.2.2) 0
def gS (n : Nat) (b : Nat → Int) (c : Int) (st : sT) : sT :=
  if st.1 ≠ 0 then st else if at0 n b (sk n b st.2.2) = c then (0, 0, sk n b st.2.2 + 1) else (1, sk n b st.2.2, 0)
/-- a fault, if there is none -/
def fS (kind : Int) (place : Nat) (st : sT) : sT := if st.1 ≠ 0 then st else (kind, place, 0)
def aS (n : Nat) (b : Nat → Int) (st : sT) (at_ : Int32) : Prop := ∃ q : Nat, at_.toInt = q ∧ q ≤ 600 ∧ (st.1 = 0 → sk n b q = sk n b st.2.2)
def cS (n : Nat) (b : Nat → Int) (st : sT) (at_ fa fp : Int32) : Prop := aS n b st at_ ∧ fa.toInt = st.1 ∧ (st.1 = 0 → fp.toInt = -1) ∧ (st.1 ≠ 0 → fp.toInt = st.2.1)
def mS (n : Nat) (b : Nat → Int) (st : sT) (at_ bd bk : Int32) : Prop := aS n b st at_ ∧ (st.1 = 0 → bd = -1) ∧ (st.1 ≠ 0 → bd.toInt = st.2.1 ∧ bk.toInt = st.1)
section TXs
variable {n : Nat} {b : Nat → Int} {st : sT}
theorem nS_bad {lo hi : Int} (h : st.1 ≠ 0) : nS n b lo hi st = st := if_pos h
theorem nS_1 {lo hi : Int} (h : st.1 = 0) (h2 : ¬ isD (at0 n b (sk n b st.2.2))) : nS n b lo hi st = (1, sk n b st.2.2, 0) := by
  unfold nS; rw [if_neg (fun z => z h), if_pos h2]
theorem nS_0 {lo hi : Int} (h : st.1 = 0) (h2 : isD (at0 n b (sk n b st.2.2))) (h3 : lo ≤ dv n b (sk n b st.2.2) 0 ∧ dv n b (sk n b st.2.2) 0 ≤ hi) : nS n b lo hi st = (0, 0, dE n b (sk n b st.2.2)) := by
  unfold nS; rw [if_neg (fun z => z h), if_neg (fun z => z h2), if_pos h3]
theorem nS_2 {lo hi : Int} (h : st.1 = 0) (h2 : isD (at0 n b (sk n b st.2.2))) (h3 : ¬ (lo ≤ dv n b (sk n b st.2.2) 0 ∧ dv n b (sk n b st.2.2) 0 ≤ hi)) : nS n b lo hi st = (2, sk n b st.2.2, 0) := by
  unfold nS; rw [if_neg (fun z => z h), if_neg (fun z => z h2), if_neg h3]
theorem gS_bad {c : Int} (h : st.1 ≠ 0) : gS n b c st = st := if_pos h
theorem gS_0 {c : Int} (h : st.1 = 0) (h2 : at0 n b (sk n b st.2.2) = c) : gS n b c st = (0, 0, sk n b st.2.2 + 1) := by
  unfold gS; rw [if_neg (fun z => z h), if_pos h2]
theorem gS_1 {c : Int} (h : st.1 = 0) (h2 : at0 n b (sk n b st.2.2) ≠ c) : gS n b c st = (1, sk n b st.2.2, 0) := by
  unfold gS; rw [if_neg (fun z => z h), if_neg h2]
theorem fS_bad {k : Int} {p : Nat} (h : st.1 ≠ 0) : fS k p st = st := if_pos h
theorem fS_0 {k : Int} {p : Nat} (h : st.1 = 0) : fS k p st = (k, p, 0) := if_neg (fun z => z h)
theorem nS_fine {lo hi : Int} (h : (nS n b lo hi st).1 = 0) : st.1 = 0 ∧ lo ≤ nV n b st ∧ nV n b st ≤ hi := by
  by_cases z : st.1 = 0
  · refine ⟨z, ?_⟩
    by_cases h2 : isD (at0 n b (sk n b st.2.2))
    · by_cases h3 : lo ≤ dv n b (sk n b st.2.2) 0 ∧ dv n b (sk n b st.2.2) 0 ≤ hi
      · exact h3
      · rw [nS_2 z h2 h3] at h; exact absurd h (by first | decide | simp)
    · rw [nS_1 z h2] at h; exact absurd h (by first | decide | simp)
  · rw [nS_bad z] at h; exact absurd h z
theorem aS_ex {x : Int32} {s : Nat} (e : x.toInt = s) (h : s ≤ 600) (h2 : st.1 = 0 → sk n b s = sk n b st.2.2) : aS n b st x := ⟨s, e, h, h2⟩
variable {len : Int32} {f : Nat → Int32}
theorem cs_number {Q : Int32 → Int32 → Int32 → Int32 → Int32 → Prop} {a fa fp tk lo hi : Int32} (hl : len.toInt = n) (hn : n ≤ 600) (hb : tB n f b) (h : cS n b st a fa fp) (hlo : 0 ≤ lo.toInt) (hhi : hi.toInt ≤ 999)
    (hq : ∀ r x fa2 fp2 t : Int32, cS n b (nS n b lo.toInt hi.toInt st) x fa2 fp2 → ((nS n b lo.toInt hi.toInt st).1 = 0 → r.toInt = nV n b st ∧ t.toInt = (sk n b st.2.2 : Nat)) → Q r x fa2 fp2 t) : wq_X8_number len f a fa fp tk lo hi Q := by
  obtain ⟨⟨q, e, hq6, es⟩, ef, e0, e1⟩ := h
  have hs := sk_le (b := b) hq6 hn
  have fz : fa = 0 → st.1 = 0 := fun z => by rw [z, t_0] at ef; exact ef.symm
  have fn : ¬ fa = 0 → st.1 ≠ 0 := fun z w => z (by rw [t_eq, t_0]; omega)
  refine x_number hl hn hb e hq6 hlo hhi (fun z x ex => ?_) (fun z y x ex => ?_) (fun z y w r x t er ex et => ?_) (fun z y w r x t ex et => ?_)
  · have hz := fn z
    refine hq 0 x fa fp tk ?_ (fun w => ?_)
    · rw [nS_bad hz]; exact ⟨aS_ex ex hs (fun w => absurd w hz), ef, e0, e1⟩
    · rw [nS_bad hz] at w; exact absurd w hz
  · have hz := fz z
    rw [es hz] at y ex hs
    refine hq 0 x 1 x tk ?_ (fun w => ?_)
    · rw [nS_1 hz y]; exact ⟨aS_ex ex hs (fun w => absurd w (by first | decide | simp)), t_1, fun w => absurd w (by first | decide | simp), fun _ => ex⟩
    · rw [nS_1 hz y] at w; exact absurd w (by first | decide | simp)
  · have hz := fz z
    rw [es hz] at y w er ex et
    refine hq r x 0 fp t ?_ (fun _ => ⟨er, et⟩)
    rw [nS_0 hz y w]
    exact ⟨aS_ex ex (dE_le (by rw [← es hz]; exact hs) hn) (fun _ => rfl), t_0, fun _ => e0 hz, fun w => absurd rfl w⟩
  · have hz := fz z
    rw [es hz] at y w ex et hs
    refine hq r x 2 t t ?_ (fun w2 => ?_)
    · rw [nS_2 hz y w]; exact ⟨aS_ex ex (dE_le hs hn) (fun w => absurd w (by first | decide | simp)), t_2, fun w => absurd w (by first | decide | simp), fun _ => et⟩
    · rw [nS_2 hz y w] at w2; exact absurd w2 (by first | decide | simp)
theorem cs_needs {Q : Int32 → Int32 → Int32 → Int32 → Prop} {a fa fp tk c : Int32} (hl : len.toInt = n) (hn : n ≤ 600) (hb : tB n f b) (h : cS n b st a fa fp) (hc : 1 ≤ c.toInt ∧ c.toInt ≤ 127)
    (hq : ∀ x t fa2 fp2 : Int32, cS n b (gS n b c.toInt st) x fa2 fp2 → Q x t fa2 fp2) : wq_X8_needs len f a tk fa fp c Q := by
  obtain ⟨⟨q, e, hq6, es⟩, ef, e0, e1⟩ := h
  have hs := sk_le (b := b) hq6 hn
  have fz : fa = 0 → st.1 = 0 := fun z => by rw [z, t_0] at ef; exact ef.symm
  have fn : ¬ fa = 0 → st.1 ≠ 0 := fun z w => z (by rw [t_eq, t_0]; omega)
  refine x_needs hl hn hb e hq6 hc (fun z x ex => ?_) (fun z y x t ex => ?_) (fun z y x ex => ?_)
  · have hz := fn z
    refine hq x tk fa fp ?_
    rw [gS_bad hz]; exact ⟨aS_ex ex hs (fun w => absurd w hz), ef, e0, e1⟩
  · have hz := fz z
    have hlt : sk n b q < n := by
      by_cases w : sk n b q < n
      · exact w
      · rw [at0_out w] at y; omega
    rw [es hz] at y ex hlt
    refine hq x t 0 fp ?_
    rw [gS_0 hz y]
    exact ⟨aS_ex ex (by omega) (fun _ => rfl), t_0, fun _ => e0 hz, fun w => absurd rfl w⟩
  · have hz := fz z
    rw [es hz] at y ex hs
    refine hq x tk 1 x ?_
    rw [gS_1 hz y]; exact ⟨aS_ex ex hs (fun w => absurd w (by first | decide | simp)), t_1, fun w => absurd w (by first | decide | simp), fun _ => ex⟩
theorem ms_number {Q : Int32 → Int32 → Int32 → Int32 → Prop} {a bd bk lo hi : Int32} (hl : len.toInt = n) (hn : n ≤ 600) (hb : tB n f b) (h : mS n b st a bd bk) (hlo : 0 ≤ lo.toInt) (hhi : hi.toInt ≤ 999)
    (hq : ∀ r x bd2 bk2 : Int32, mS n b (nS n b lo.toInt hi.toInt st) x bd2 bk2 → ((nS n b lo.toInt hi.toInt st).1 = 0 → r.toInt = nV n b st) → Q r x bd2 bk2) : wq_X11_readNumber len f a bd bk lo hi Q := by
  obtain ⟨⟨q, e, hq6, es⟩, e0, e1⟩ := id h
  have hs := sk_le (b := b) hq6 hn
  have fz : bd = -1 → st.1 = 0 := fun z => by
    by_cases w : st.1 = 0
    · exact w
    · have := (e1 w).1; rw [z, t_m1] at this; omega
  have fn : ¬ bd = -1 → st.1 ≠ 0 := fun z w => z (e0 w)
  refine y_number hl hn hb e hq6 hlo hhi (fun z => ?_) (fun z y x ex => ?_) (fun z y w r x er ex => ?_) (fun z y w x t ex et => ?_)
  · have hz := fn z
    refine hq 0 a bd bk ?_ (fun w => ?_)
    · rw [nS_bad hz]; exact h
    · rw [nS_bad hz] at w; exact absurd w hz
  · have hz := fz z
    rw [es hz] at y ex hs
    refine hq 0 x x 1 ?_ (fun w => ?_)
    · rw [nS_1 hz y]; exact ⟨aS_ex ex hs (fun w => absurd w (by first | decide | simp)), fun w => absurd w (by first | decide | simp), fun _ => ⟨ex, t_1⟩⟩
    · rw [nS_1 hz y] at w; exact absurd w (by first | decide | simp)
  · have hz := fz z
    rw [es hz] at y w er ex
    refine hq r x (-1) bk ?_ (fun _ => er)
    rw [nS_0 hz y w]
    exact ⟨aS_ex ex (dE_le (by rw [← es hz]; exact hs) hn) (fun _ => rfl), fun _ => rfl, fun w => absurd rfl w⟩
  · have hz := fz z
    rw [es hz] at y w ex et hs
    refine hq 0 x t 2 ?_ (fun w2 => ?_)
    · rw [nS_2 hz y w]; exact ⟨aS_ex ex (dE_le hs hn) (fun w => absurd w (by first | decide | simp)), fun w => absurd w (by first | decide | simp), fun _ => ⟨et, t_2⟩⟩
    · rw [nS_2 hz y w] at w2; exact absurd w2 (by first | decide | simp)
theorem ms_sign {Q : Int32 → Int32 → Int32 → Prop} {a bd bk c : Int32} (hl : len.toInt = n) (hn : n ≤ 600) (hb : tB n f b) (h : mS n b st a bd bk) (hc : 1 ≤ c.toInt ∧ c.toInt ≤ 127)
    (hq : ∀ x bd2 bk2 : Int32, mS n b (gS n b c.toInt st) x bd2 bk2 → Q x bd2 bk2) : wq_X11_sign len f a bd bk c Q := by
  obtain ⟨⟨q, e, hq6, es⟩, e0, e1⟩ := id h
  have hs := sk_le (b := b) hq6 hn
  have fz : bd = -1 → st.1 = 0 := fun z => by
    by_cases w : st.1 = 0
    · exact w
    · have := (e1 w).1; rw [z, t_m1] at this; omega
  have fn : ¬ bd = -1 → st.1 ≠ 0 := fun z w => z (e0 w)
  refine y_sign hl hn hb e hq6 hc (fun z => ?_) (fun z y x ex => ?_) (fun z y x ex => ?_)
  · have hz := fn z
    refine hq a bd bk ?_
    rw [gS_bad hz]; exact h
  · have hz := fz z
    have hlt : sk n b q < n := by
      by_cases w : sk n b q < n
      · exact w
      · rw [at0_out w] at y; omega
    rw [es hz] at y ex hlt
    refine hq x (-1) bk ?_
    rw [gS_0 hz y]
    exact ⟨aS_ex ex (by omega) (fun _ => rfl), fun _ => rfl, fun w => absurd rfl w⟩
  · have hz := fz z
    rw [es hz] at y ex hs
    refine hq x x 1 ?_
    rw [gS_1 hz y]; exact ⟨aS_ex ex hs (fun w => absurd w (by first | decide | simp)), fun w => absurd w (by first | decide | simp), fun _ => ⟨ex, t_1⟩⟩
end TXs
end
section
/-! a down's text: what it says, and the class's reading of it -/
abbrev dT := sT × Nat × Nat × Nat × (Nat → Int) × (Nat → Int) × (Nat → Int) × (Nat → Int)
def iu (f : Nat → Int) (k : Nat) (v : Int) : Nat → Int := fun j => if j = k then v else f j
theorem iu_s {f : Nat → Int} {k : Nat} {v : Int} : iu f k v k = v := if_pos rfl
theorem iu_n {f : Nat → Int} {k j : Nat} {v : Int} (h : j ≠ k) : iu f k v j = f j := if_neg h
/-- two numbers and the sign behind them -/
def twS (n : Nat) (b : Nat → Int) (lo hi lo2 hi2 : Int) (st : sT) : sT := gS n b 59 (nS n b lo2 hi2 (nS n b lo hi st))
def dbA (n : Nat) (b : Nat → Int) (h : Int) (st : sT) : sT := nS n b 0 (h - 1) (nS n b 0 (h - 1) st)
def dbB (n : Nat) (b : Nat → Int) (h : Int) (st : sT) : sT := if nV n b st = nV n b (nS n b 0 (h - 1) st) then fS 2 (sk n b (nS n b 0 (h - 1) st).2.2) (dbA n b h st) else dbA n b h st
def dbC (n : Nat) (b : Nat → Int) (h : Int) (st : sT) : sT := nS n b 0 99 (dbB n b h st)
def dbS (n : Nat) (b : Nat → Int) (h : Int) (st : sT) : sT := gS n b 59 (dbC n b h st)
/-- behind a word -/
def wE (n : Nat) (b : Nat → Int) (st : sT) : sT := (0, 0, lE n b (sk n b st.2.2))
def dStep (n : Nat) (b : Nat → Int) (i : Nat) (st : sT) (nf nh nx : Nat) (F H X D : Nat → Int) : dT :=
  if pw n b (sk n b st.2.2) = 212557 then
    (if i = 60 ∨ nf = 8 then (fS 3 (sk n b st.2.2) st, nf, nh, nx, F, H, X, D) else (twS n b 0 30 0 30 (wE n b st), nf + 1, nh, nx, iu (iu F (2 * nf) (nV n b (wE n b st))) (2 * nf + 1) (nV n b (nS n b 0 30 (wE n b st))), H, X, D))
  else if pw n b (sk n b st.2.2) = 263749 then
    (if i = 60 ∨ nh = 6 then (fS 3 (sk n b st.2.2) st, nf, nh, nx, F, H, X, D) else (twS n b 0 ((nf : Int) - 1) 1 9 (wE n b st), nf, nh + 1, nx, F, iu (iu H (2 * nh) (nV n b (wE n b st))) (2 * nh + 1) (nV n b (nS n b 0 ((nf : Int) - 1) (wE n b st))), X, D))
  else if pw n b (sk n b st.2.2) = 6648 then
    (if i = 60 ∨ nx = 4 then (fS 3 (sk n b st.2.2) st, nf, nh, nx, F, H, X, D) else (twS n b 0 30 0 30 (wE n b st), nf, nh, nx + 1, F, H, iu (iu X (2 * nx) (nV n b (wE n b st))) (2 * nx + 1) (nV n b (nS n b 0 30 (wE n b st))), D))
  else if pw n b (sk n b st.2.2) = 136276 then
    (if i = 60 then (fS 3 (sk n b st.2.2) st, nf, nh, nx, F, H, X, D) else (dbS n b nh (wE n b st), nf, nh, nx, F, H, X, iu D (6 * nV n b (wE n b st) + nV n b (nS n b 0 ((nh : Int) - 1) (wE n b st))).toNat (nV n b (dbB n b nh (wE n b st)))))
  else (fS 1 (sk n b st.2.2) st, nf, nh, nx, F, H, X, D)
def dRun (n : Nat) (b : Nat → Int) : Nat → Nat → dT → dT
  | 0, _, d => d
  | k + 1, i, d => if d.1.1 ≠ 0 ∨ ¬ sk n b d.1.2.2 < n then d else dRun n b k (i + 1) (dStep n b i d.1 d.2.1 d.2.2.1 d.2.2.2.1 d.2.2.2.2.1 d.2.2.2.2.2.1 d.2.2.2.2.2.2.1 d.2.2.2.2.2.2.2)
/-- rows of pairs: the class keeps them in two rows, the reference in one -/
def pr (k : Nat) (A B : Nat → Int32) (G : Nat → Int) : Prop := ∀ j : Nat, j < k → (A j).toInt = G (2 * j) ∧ (B j).toInt = G (2 * j + 1)
def pm (k : Nat) (A : Nat → Int32) (G : Nat → Int) : Prop := ∀ j : Nat, j < k → (A j).toInt = G j
def cD (d : dT) (nf nh nx : Int32) (db FX FY se sr X Y : Nat → Int32) : Prop :=
  (nf.toInt = d.2.1 ∧ d.2.1 ≤ 8) ∧ (nh.toInt = d.2.2.1 ∧ d.2.2.1 ≤ 6) ∧ (nx.toInt = d.2.2.2.1 ∧ d.2.2.2.1 ≤ 4) ∧
  (d.1.1 = 0 → pr d.2.1 X Y d.2.2.2.2.1 ∧ pr d.2.2.1 se sr d.2.2.2.2.2.1 ∧ pr d.2.2.2.1 FX FY d.2.2.2.2.2.2.1 ∧ pm 36 db d.2.2.2.2.2.2.2)
theorem pr_push {k : Nat} {A B : Nat → Int32} {G : Nat → Int} {r s : Int32} {v w : Int} (h : pr k A B G) (e1 : r.toInt = v) (e2 : s.toInt = w) : pr (k + 1) (upd A k r) (upd B k s) (iu (iu G (2 * k) v) (2 * k + 1) w) := by
  intro j hj
  by_cases z : j = k
  · rw [z, pk_us, pk_us, iu_s, iu_n (by omega), iu_s]
    exact ⟨e1, e2⟩
  · rw [pk_un z, pk_un z, iu_n (by omega), iu_n (by omega), iu_n (by omega), iu_n (by omega)]
    exact h j (by omega)
section TD
variable {n : Nat} {b : Nat → Int} {st : sT} {len : Int32} {f : Nat → Int32}
/-- a word of the program's, known by its number -/
def wK (n : Nat) (b : Nat → Int) (m : Nat) (z : Nat → Int32) (c : Int) : Prop := wSt m z (fun j => (z j).toInt) ∧ ∀ s : Nat, s ≤ 600 → (pw n b s = c ↔ isW n b m (fun j => (z j).toInt) s) ∧ (isW n b m (fun j => (z j).toInt) s → lE n b s = s + m)
theorem wK_3 {z : Nat → Int32} {c : Int} (h : wSt 3 z (fun j => (z j).toInt)) (e : ((((z 0).toInt - 96) * 32 + ((z 1).toInt - 96)) * 32 + ((z 2).toInt - 96)) = c) : wK n b 3 z c :=
  ⟨h, fun s hs => by rw [← e]; exact pw_3 hs rfl rfl rfl (h.2.2.2 0 (by decide)).2 (h.2.2.2 1 (by decide)).2 (h.2.2.2 2 (by decide)).2⟩
theorem wK_4 {z : Nat → Int32} {c : Int} (h : wSt 4 z (fun j => (z j).toInt)) (e : (((((z 0).toInt - 96) * 32 + ((z 1).toInt - 96)) * 32 + ((z 2).toInt - 96)) * 32 + ((z 3).toInt - 96)) = c) : wK n b 4 z c :=
  ⟨h, fun s hs => by rw [← e]; exact pw_4 hs rfl rfl rfl rfl (h.2.2.2 0 (by decide)).2 (h.2.2.2 1 (by decide)).2 (h.2.2.2 2 (by decide)).2 (h.2.2.2 3 (by decide)).2⟩
theorem wz_form : wSt 4 zb_X2_62 (fun j => (zb_X2_62 j).toInt) := ⟨by decide, by decide, by decide, by decide⟩
theorem wz_hare : wSt 4 zb_X2_71 (fun j => (zb_X2_71 j).toInt) := ⟨by decide, by decide, by decide, by decide⟩
theorem wz_fox : wSt 3 zb_X2_76 (fun j => (zb_X2_76 j).toInt) := ⟨by decide, by decide, by decide, by decide⟩
theorem wz_debt : wSt 4 zb_X2_81 (fun j => (zb_X2_81 j).toInt) := ⟨by decide, by decide, by decide, by decide⟩
theorem wk_form : wK n b 4 zb_X2_62 212557 := wK_4 wz_form (by decide)
theorem wk_hare : wK n b 4 zb_X2_71 263749 := wK_4 wz_hare (by decide)
theorem wk_fox : wK n b 3 zb_X2_76 6648 := wK_3 wz_fox (by decide)
theorem wk_debt : wK n b 4 zb_X2_81 136276 := wK_4 wz_debt (by decide)
theorem lE_le {a : Nat} (h : a ≤ 600) (hn : n ≤ 600) : lE n b a ≤ 600 := by
  have := (lE_facts (n := n) (b := b) (s := 0) _ a rfl).2.1
  omega
theorem cS_fa {a fa fp : Int32} (h : cS n b st a fa fp) (h0 : st.1 = 0) : fa = 0 := by rw [t_eq, t_0, h.2.1]; exact h0
theorem cs_word {Q : Int32 → Int32 → Int32 → Prop} {m : Nat} {z : Nat → Int32} {c : Int} {a fa fp tk : Int32} (hl : len.toInt = n) (hn : n ≤ 600) (hb : tB n f b) (hw : wK n b m z c) (h : cS n b st a fa fp) (h0 : st.1 = 0)
    (q0 : pw n b (sk n b st.2.2) ≠ c → ∀ x : Int32, cS n b st x fa fp → Q 0 x tk)
    (q1 : pw n b (sk n b st.2.2) = c → ∀ x t : Int32, cS n b (wE n b st) x fa fp → t.toInt = (sk n b st.2.2 : Nat) → Q 1 x t) : wq_X8_takesWord_s m z len fa f a tk Q := by
  have hfa := cS_fa h h0
  obtain ⟨⟨q, e, hq6, es⟩, ef, e0, e1⟩ := h
  have hs := sk_le (b := b) hq6 hn
  have es' := es h0
  rw [es'] at hs
  refine x_word hl hn hb e hq6 hw.1 (fun w x ex => q0 (fun z2 => ?_) x ?_) (fun _ w x t ex et => q1 ?_ x t ?_ ?_)
  · rw [es'] at w
    exact (w.resolve_left (fun d => d hfa)) ((hw.2 _ hs).1.mp z2)
  · rw [es'] at ex
    exact ⟨aS_ex ex hs (fun _ => sk_sk), ef, e0, e1⟩
  · rw [es'] at w
    exact (hw.2 _ hs).1.mpr w
  · rw [es'] at w ex
    rw [← (hw.2 _ hs).2 w] at ex
    exact ⟨aS_ex ex (lE_le hs hn) (fun _ => rfl), ef.trans h0, fun _ => e0 h0, fun d => absurd rfl d⟩
  · rw [es'] at et
    exact et
theorem cs_blameT {Q : Int32 → Int32 → Prop} {a tk fa fp w : Int32} {s : Nat} (h : cS n b st a fa fp) (hw : w.toInt ≠ 0) (ht : st.1 = 0 → tk.toInt = s) (hq : ∀ fa2 fp2 : Int32, cS n b (fS w.toInt s st) a fa2 fp2 → Q fa2 fp2) : wq_X8_blameToken tk fa fp w Q := by
  refine ⟨fun z => hq fa fp ?_, fun z => hq w tk ?_⟩
  · have hz : st.1 ≠ 0 := fun d => z (cS_fa h d)
    rw [fS_bad hz]; exact h
  · have hz : st.1 = 0 := by rw [← h.2.1, z, t_0]
    rw [fS_0 hz]
    obtain ⟨⟨q, g1, g2, g3⟩, ef, e0, e1⟩ := h
    exact ⟨⟨q, g1, g2, fun d => absurd d hw⟩, rfl, fun d => absurd d hw, fun _ => ht hz⟩
theorem cs_blameS {Q : Int32 → Int32 → Int32 → Prop} {a fa fp : Int32} (hl : len.toInt = n) (hn : n ≤ 600) (hb : tB n f b) (h : cS n b st a fa fp) (hq : ∀ x fa2 fp2 : Int32, cS n b (fS 1 (sk n b st.2.2) st) x fa2 fp2 → Q x fa2 fp2) : wq_X8_blameSign len f a fa fp Q := by
  obtain ⟨⟨q, e, hq6, es⟩, ef, e0, e1⟩ := id h
  have hs := sk_le (b := b) hq6 hn
  refine x_skipBlanks hl hn hb e hq6 (fun x ex => ⟨fun z => hq x fa fp ?_, fun z => hq x 1 x ?_⟩)
  · have hz : st.1 ≠ 0 := fun d => z (cS_fa h d)
    rw [fS_bad hz]; exact ⟨aS_ex ex hs (fun d => absurd d hz), ef, e0, e1⟩
  · have hz : st.1 = 0 := by rw [← ef, z, t_0]
    rw [fS_0 hz]
    rw [es hz] at ex hs
    exact ⟨aS_ex ex hs (fun d => absurd d (by first | decide | simp)), t_1, fun d => absurd d (by first | decide | simp), fun _ => ex⟩
theorem cs_isEnded {Q : Int32 → Int32 → Prop} {a fa fp : Int32} (hl : len.toInt = n) (hn : n ≤ 600) (hb : tB n f b) (h : cS n b st a fa fp) (h0 : st.1 = 0) (q0 : sk n b st.2.2 < n → ∀ x : Int32, cS n b st x fa fp → Q 0 x) (q1 : ¬ sk n b st.2.2 < n → ∀ x : Int32, cS n b st x fa fp → Q 1 x) : wq_X8_isEnded len f a Q := by
  obtain ⟨⟨q, e, hq6, es⟩, ef, e0, e1⟩ := id h
  have hs := sk_le (b := b) hq6 hn
  have es' := es h0
  rw [es'] at hs
  refine x_isEnded hl hn hb e hq6 (fun w x ex => ?_) (fun w x ex => ?_)
  · rw [es'] at w ex
    exact q0 w x ⟨aS_ex ex hs (fun _ => sk_sk), ef, e0, e1⟩
  · rw [es'] at w ex
    exact q1 w x ⟨aS_ex ex hs (fun _ => sk_sk), ef, e0, e1⟩
theorem gS_fine {c : Int} (h : (gS n b c st).1 = 0) : st.1 = 0 := by
  by_cases w : st.1 = 0
  · exact w
  · rw [gS_bad w] at h; exact absurd h w
theorem twS_fine {l1 h1 l2 h2 : Int} (h : (twS n b l1 h1 l2 h2 st).1 = 0) : (nS n b l1 h1 st).1 = 0 ∧ (nS n b l2 h2 (nS n b l1 h1 st)).1 = 0 := by
  have z := gS_fine (c := 59) (st := nS n b l2 h2 (nS n b l1 h1 st)) h
  exact ⟨(nS_fine z).1, z⟩
theorem dbB_bad {h : Int} (w : (dbA n b h st).1 ≠ 0) : dbB n b h st = dbA n b h st := by
  unfold dbB
  by_cases z : nV n b st = nV n b (nS n b 0 (h - 1) st)
  · rw [if_pos z, fS_bad w]
  · rw [if_neg z]
theorem dbB_eq {h : Int} (z : nV n b st = nV n b (nS n b 0 (h - 1) st)) : dbB n b h st = fS 2 (sk n b (nS n b 0 (h - 1) st).2.2) (dbA n b h st) := if_pos z
theorem dbB_ne {h : Int} (z : ¬ nV n b st = nV n b (nS n b 0 (h - 1) st)) : dbB n b h st = dbA n b h st := if_neg z
theorem dbB_fine {h : Int} (z : (dbB n b h st).1 = 0) : (dbA n b h st).1 = 0 := by
  by_cases w : (dbA n b h st).1 = 0
  · exact w
  · rw [dbB_bad w] at z; exact z
theorem dbS_fine {h : Int} (z : (dbS n b h st).1 = 0) : (dbC n b h st).1 = 0 ∧ (dbB n b h st).1 = 0 ∧ (dbA n b h st).1 = 0 ∧ (nS n b 0 (h - 1) st).1 = 0 := by
  have z1 : (dbC n b h st).1 = 0 := gS_fine (c := 59) (st := dbC n b h st) z
  have z2 : (dbB n b h st).1 = 0 := (nS_fine (lo := 0) (hi := 99) (st := dbB n b h st) z1).1
  have z3 := dbB_fine z2
  exact ⟨z1, z2, z3, (nS_fine (lo := 0) (hi := h - 1) (st := nS n b 0 (h - 1) st) z3).1⟩
end TD
end
section
/-! the class's clauses of a down -/
section TDc
variable {n : Nat} {b : Nat → Int} {st : sT} {len : Int32} {f : Nat → Int32}
theorem cs_readForm {Q : Int32 → Int32 → Int32 → Int32 → (Nat → Int32) → (Nat → Int32) → Int32 → Prop} {a fa fp tk nn p2 : Int32} {X Y : Nat → Int32} {NF s0 : Nat} (hl : len.toInt = n) (hn : n ≤ 600) (hb : tB n f b) (hc : cS n b st a fa fp) (h0 : st.1 = 0) (ht : tk.toInt = s0) (n1 : nn.toInt = NF) (n2 : NF ≤ 8)
    (q1 : (¬ p2 = 0 ∨ NF = 8) → ∀ f2 p : Int32, cS n b (3, s0, 0) a f2 p → Q a f2 p tk X Y nn)
    (q2 : p2 = 0 → NF ≠ 8 → ∀ (r s x t f2 p : Int32) (n2 : Int32), cS n b (twS n b 0 30 0 30 st) x f2 p → ((twS n b 0 30 0 30 st).1 = 0 → r.toInt = nV n b st ∧ s.toInt = nV n b (nS n b 0 30 st)) → n2.toInt = ((NF + 1 : Nat) : Int) → Q x f2 p t (upd X NF r) (upd Y NF s) n2) : wq_X2_readForm len f a fa fp tk X Y nn p2 Q := by
  have hbad : (¬ p2 = 0 ∨ NF = 8) → wb_X2_readForm_13 len f Q a fa fp tk X Y nn := fun w => cs_blameT (s := s0) hc (by decide) (fun _ => ht) (fun f2 p c => q1 w f2 p (by rw [fS_0 h0, t_3] at c; exact c))
  refine ⟨fun w => hbad (Or.inl w), fun w => ⟨fun w2 => ?_, fun w2 => hbad (Or.inr (by rw [t_lt, t_8] at w2; omega))⟩⟩
  rw [t_lt, t_8] at w2
  have hk : nn.toNatClampNeg = NF := t_clamp n1
  refine cs_number hl hn hb hc (by decide) (by decide) (fun r x3 x4 x5 x6 c1 v1 => ⟨t_in (by omega) (by omega), fun f8 e8 => cs_number hl hn hb c1 (by decide) (by decide) (fun r2 x9 x10 x11 x12 c2 v2 => ⟨t_in (by omega) (by omega), fun f14 e14 => cs_needs hl hn hb c2 (by decide) (fun x15 x16 x17 x18 c3 x19 e19 => ?_)⟩)⟩)
  rw [hk] at e8 e14
  rw [t_0, t_30] at v1 v2
  rw [t_0, t_30, t_59] at c3
  rw [e8, e14]
  exact q2 w (by omega) r r2 x15 x16 x17 x18 x19 c3 (fun z => ⟨(v1 (twS_fine z).1).1, (v2 (twS_fine z).2).1⟩) (by rw [e19, t_inc (by omega), n1]; omega)
theorem cs_readHare {Q : Int32 → Int32 → Int32 → Int32 → (Nat → Int32) → (Nat → Int32) → Int32 → Prop} {a fa fp tk nn hh p2 : Int32} {X Y : Nat → Int32} {NF NH s0 : Nat} (hl : len.toInt = n) (hn : n ≤ 600) (hb : tB n f b) (hc : cS n b st a fa fp) (h0 : st.1 = 0) (ht : tk.toInt = s0) (n1 : nn.toInt = NF) (n2 : NF ≤ 8) (m1 : hh.toInt = NH) (m2 : NH ≤ 6)
    (q1 : (¬ p2 = 0 ∨ NH = 6) → ∀ f2 p : Int32, cS n b (3, s0, 0) a f2 p → Q a f2 p tk X Y hh)
    (q2 : p2 = 0 → NH ≠ 6 → ∀ (r s x t f2 p : Int32) (n2 : Int32), cS n b (twS n b 0 ((NF : Int) - 1) 1 9 st) x f2 p → ((twS n b 0 ((NF : Int) - 1) 1 9 st).1 = 0 → r.toInt = nV n b st ∧ s.toInt = nV n b (nS n b 0 ((NF : Int) - 1) st)) → n2.toInt = ((NH + 1 : Nat) : Int) → Q x f2 p t (upd X NH r) (upd Y NH s) n2) : wq_X2_readHare nn len f a fa fp tk X Y hh p2 Q := by
  have en : (nn - 1).toInt = (NF : Int) - 1 := by rw [t_pred (by omega), n1]
  have hbad : (¬ p2 = 0 ∨ NH = 6) → wb_X2_readHare_13 nn len f Q a fa fp tk X Y hh := fun w => cs_blameT (s := s0) hc (by decide) (fun _ => ht) (fun f2 p c => q1 w f2 p (by rw [fS_0 h0, t_3] at c; exact c))
  refine ⟨fun w => hbad (Or.inl w), fun w => ⟨fun w2 => ?_, fun w2 => hbad (Or.inr (by rw [t_lt, t_6] at w2; omega))⟩⟩
  rw [t_lt, t_6] at w2
  have hk : hh.toNatClampNeg = NH := t_clamp m1
  refine cs_number hl hn hb hc (by decide) (by rw [en]; omega) (fun r x3 x4 x5 x6 c1 v1 => ⟨t_in (by omega) (by omega), fun f8 e8 => cs_number hl hn hb c1 (by decide) (by decide) (fun r2 x9 x10 x11 x12 c2 v2 => ⟨t_in (by omega) (by omega), fun f14 e14 => cs_needs hl hn hb c2 (by decide) (fun x15 x16 x17 x18 c3 x19 e19 => ?_)⟩)⟩)
  rw [hk] at e8 e14
  rw [t_0, en] at v1
  rw [t_0, en, t_1, t_9] at v2
  rw [t_0, en, t_1, t_9, t_59] at c3
  rw [e8, e14]
  exact q2 w (by omega) r r2 x15 x16 x17 x18 x19 c3 (fun z => ⟨(v1 (twS_fine z).1).1, (v2 (twS_fine z).2).1⟩) (by rw [e19, t_inc (by omega), m1]; omega)
theorem cs_readFox {Q : Int32 → Int32 → Int32 → Int32 → (Nat → Int32) → (Nat → Int32) → Int32 → Prop} {a fa fp tk nn p2 : Int32} {X Y : Nat → Int32} {NX s0 : Nat} (hl : len.toInt = n) (hn : n ≤ 600) (hb : tB n f b) (hc : cS n b st a fa fp) (h0 : st.1 = 0) (ht : tk.toInt = s0) (n1 : nn.toInt = NX) (n2 : NX ≤ 4)
    (q1 : (¬ p2 = 0 ∨ NX = 4) → ∀ f2 p : Int32, cS n b (3, s0, 0) a f2 p → Q a f2 p tk X Y nn)
    (q2 : p2 = 0 → NX ≠ 4 → ∀ (r s x t f2 p : Int32) (n2 : Int32), cS n b (twS n b 0 30 0 30 st) x f2 p → ((twS n b 0 30 0 30 st).1 = 0 → r.toInt = nV n b st ∧ s.toInt = nV n b (nS n b 0 30 st)) → n2.toInt = ((NX + 1 : Nat) : Int) → Q x f2 p t (upd X NX r) (upd Y NX s) n2) : wq_X2_readFox len f a fa fp tk X Y nn p2 Q := by
  have hbad : (¬ p2 = 0 ∨ NX = 4) → wb_X2_readFox_12 len f Q a fa fp tk X Y nn := fun w => cs_blameT (s := s0) hc (by decide) (fun _ => ht) (fun f2 p c => q1 w f2 p (by rw [fS_0 h0, t_3] at c; exact c))
  refine ⟨fun w => hbad (Or.inl w), fun w => ⟨fun w2 => ?_, fun w2 => hbad (Or.inr (by rw [t_lt, t_4] at w2; omega))⟩⟩
  rw [t_lt, t_4] at w2
  have hk : nn.toNatClampNeg = NX := t_clamp n1
  refine cs_number hl hn hb hc (by decide) (by decide) (fun r x3 x4 x5 x6 c1 v1 => ⟨t_in (by omega) (by omega), fun f8 e8 => cs_number hl hn hb c1 (by decide) (by decide) (fun r2 x9 x10 x11 x12 c2 v2 => ⟨t_in (by omega) (by omega), fun f14 e14 => cs_needs hl hn hb c2 (by decide) (fun x15 x16 x17 x18 c3 x19 e19 => ?_)⟩)⟩)
  rw [hk] at e8 e14
  rw [t_0, t_30] at v1 v2
  rw [t_0, t_30, t_59] at c3
  rw [e8, e14]
  exact q2 w (by omega) r r2 x15 x16 x17 x18 x19 c3 (fun z => ⟨(v1 (twS_fine z).1).1, (v2 (twS_fine z).2).1⟩) (by rw [e19, t_inc (by omega), n1]; omega)
theorem cs_debt46 {h : Int32} {db : Nat → Int32} {r6 r11 a fa fp tk : Int32} {NH : Nat} {Q : Int32 → Int32 → Int32 → Int32 → (Nat → Int32) → Prop} (hl : len.toInt = n) (hn : n ≤ 600) (hb : tB n f b) (m2 : NH ≤ 6) (hc : cS n b (dbB n b NH st) a fa fp) (hv : (dbB n b NH st).1 = 0 → r6.toInt = nV n b st ∧ r11.toInt = nV n b (nS n b 0 ((NH : Int) - 1) st))
    (hq : ∀ (x t f2 p : Int32) (db2 : Nat → Int32), cS n b (dbS n b NH st) x f2 p → ((dbS n b NH st).1 = 0 → ∃ (r : Int32) (k : Nat), k < 36 ∧ (k : Int) = 6 * nV n b st + nV n b (nS n b 0 ((NH : Int) - 1) st) ∧ r.toInt = nV n b (dbB n b NH st) ∧ db2 = upd db k r) → Q x f2 p t db2) : wb_X2_readDebt_46 h len f Q a fa fp tk db r6 r11 := by
  refine cs_number hl hn hb hc (by decide) (by decide) (fun r x17 x18 x19 x20 c1 v1 => cs_needs hl hn hb c1 (by decide) (fun x22 x23 x24 x25 c2 => ?_))
  rw [t_0, t_99] at v1
  rw [t_0, t_99, t_59] at c2
  have c2 : cS n b (dbS n b NH st) x22 x24 x25 := c2
  refine ⟨fun z => ⟨fun d => absurd rfl d, fun _ x28 e28 x29 e29 => ?_⟩, fun z => ⟨fun _ => hq _ _ _ _ _ c2 (fun w => absurd (cS_fa c2 w) z), fun d => absurd d (by first | decide | simp)⟩⟩
  have hz : (dbS n b NH st).1 = 0 := by rw [← c2.2.1, z, t_0]
  obtain ⟨z1, z2, z3, z4⟩ := dbS_fine hz
  obtain ⟨w1, w2⟩ := hv z2
  obtain ⟨-, g1, g2⟩ := nS_fine (lo := 0) (hi := (NH : Int) - 1) (st := st) z4
  obtain ⟨-, g3, g4⟩ := nS_fine (lo := 0) (hi := (NH : Int) - 1) (st := nS n b 0 ((NH : Int) - 1) st) z3
  have e1 : x28.toInt = r6.toInt * 6 := by rw [e28, t_mul (by rw [t_6]; omega) (by rw [t_6]; omega), t_6]
  have e2 : x29.toInt = r6.toInt * 6 + r11.toInt := by rw [e29, t_add (by omega) (by omega), e1]
  refine ⟨t_in (by omega) (by omega), fun f30 e30 => hq _ _ _ _ _ c2 (fun _ => ⟨r, x29.toNatClampNeg, ?_, ?_, (v1 z1).1, e30⟩)⟩
  · have := t_nat (x := x29) (by omega); omega
  · have := t_nat (x := x29) (by omega); omega
theorem cs_readDebt {Q : Int32 → Int32 → Int32 → Int32 → (Nat → Int32) → Prop} {a fa fp tk hh p2 : Int32} {db : Nat → Int32} {NH s0 : Nat} (hl : len.toInt = n) (hn : n ≤ 600) (hb : tB n f b) (hc : cS n b st a fa fp) (h0 : st.1 = 0) (ht : tk.toInt = s0) (m1 : hh.toInt = NH) (m2 : NH ≤ 6)
    (q1 : ¬ p2 = 0 → ∀ f2 p : Int32, cS n b (3, s0, 0) a f2 p → Q a f2 p tk db)
    (q2 : p2 = 0 → ∀ (x t f2 p : Int32) (db2 : Nat → Int32), cS n b (dbS n b NH st) x f2 p → ((dbS n b NH st).1 = 0 → ∃ (r : Int32) (k : Nat), k < 36 ∧ (k : Int) = 6 * nV n b st + nV n b (nS n b 0 ((NH : Int) - 1) st) ∧ r.toInt = nV n b (dbB n b NH st) ∧ db2 = upd db k r) → Q x f2 p t db2) : wq_X2_readDebt hh len f a fa fp tk db p2 Q := by
  have en : (hh - 1).toInt = (NH : Int) - 1 := by rw [t_pred (by omega), m1]
  refine ⟨fun w => ?_, fun w => cs_blameT (s := s0) hc (by decide) (fun _ => ht) (fun f2 p c => q1 w f2 p (by rw [fS_0 h0, t_3] at c; exact c))⟩
  refine cs_number hl hn hb hc (by decide) (by rw [en]; omega) (fun r6 x2 x3 x4 x5 c1 v1 => cs_number hl hn hb c1 (by decide) (by rw [en]; omega) (fun r11 x7 x8 x9 x10 c2 v2 => ?_))
  rw [t_0, en] at v1 v2 c2
  have c2 : cS n b (dbA n b NH st) x7 x8 x9 := c2
  have v2 : (dbA n b NH st).1 = 0 → r11.toInt = nV n b (nS n b 0 ((NH : Int) - 1) st) ∧ x10.toInt = (sk n b (nS n b 0 ((NH : Int) - 1) st).2.2 : Nat) := v2
  have vz : (dbA n b NH st).1 = 0 → r6.toInt = nV n b st ∧ r11.toInt = nV n b (nS n b 0 ((NH : Int) - 1) st) := fun z => ⟨(v1 (nS_fine (lo := 0) (hi := (NH : Int) - 1) (st := nS n b 0 ((NH : Int) - 1) st) z).1).1, (v2 z).1⟩
  refine ⟨fun z => cs_debt46 hl hn hb m2 ?_ (fun w => vz (dbB_fine w)) (q2 w), fun z => cs_blameT (s := sk n b (nS n b 0 ((NH : Int) - 1) st).2.2) c2 (by decide) (fun w => (v2 w).2) (fun f2 p c => cs_debt46 hl hn hb m2 ?_ (fun w => vz (dbB_fine w)) (q2 w))⟩
  · by_cases g : (dbA n b NH st).1 = 0
    · obtain ⟨w1, w2⟩ := vz g
      rw [t_eq] at z
      rw [dbB_ne (fun w => z (by omega))]; exact c2
    · rw [dbB_bad g]; exact c2
  · rw [t_2] at c
    by_cases g : (dbA n b NH st).1 = 0
    · obtain ⟨w1, w2⟩ := vz g
      rw [t_eq] at z
      rw [dbB_eq (by omega)]; exact c
    · rw [fS_bad g] at c
      rw [dbB_bad g]; exact c
end TDc
end
section
/-! a clause, all clauses: the class -/
section TDd
variable {n : Nat} {b : Nat → Int} {st : sT} {len : Int32} {f : Nat → Int32}
theorem ds_form {i NF NH NX : Nat} {F H G D : Nat → Int} (w : pw n b (sk n b st.2.2) = 212557) : dStep n b i st NF NH NX F H G D = if i = 60 ∨ NF = 8 then (fS 3 (sk n b st.2.2) st, NF, NH, NX, F, H, G, D) else (twS n b 0 30 0 30 (wE n b st), NF + 1, NH, NX, iu (iu F (2 * NF) (nV n b (wE n b st))) (2 * NF + 1) (nV n b (nS n b 0 30 (wE n b st))), H, G, D) := by
  unfold dStep; rw [if_pos w]
theorem ds_hare {i NF NH NX : Nat} {F H G D : Nat → Int} (w : pw n b (sk n b st.2.2) = 263749) : dStep n b i st NF NH NX F H G D = if i = 60 ∨ NH = 6 then (fS 3 (sk n b st.2.2) st, NF, NH, NX, F, H, G, D) else (twS n b 0 ((NF : Int) - 1) 1 9 (wE n b st), NF, NH + 1, NX, F, iu (iu H (2 * NH) (nV n b (wE n b st))) (2 * NH + 1) (nV n b (nS n b 0 ((NF : Int) - 1) (wE n b st))), G, D) := by
  unfold dStep; rw [if_neg (by omega), if_pos w]
theorem ds_fox {i NF NH NX : Nat} {F H G D : Nat → Int} (w : pw n b (sk n b st.2.2) = 6648) : dStep n b i st NF NH NX F H G D = if i = 60 ∨ NX = 4 then (fS 3 (sk n b st.2.2) st, NF, NH, NX, F, H, G, D) else (twS n b 0 30 0 30 (wE n b st), NF, NH, NX + 1, F, H, iu (iu G (2 * NX) (nV n b (wE n b st))) (2 * NX + 1) (nV n b (nS n b 0 30 (wE n b st))), D) := by
  unfold dStep; rw [if_neg (by omega), if_neg (by omega), if_pos w]
theorem ds_debt {i NF NH NX : Nat} {F H G D : Nat → Int} (w : pw n b (sk n b st.2.2) = 136276) : dStep n b i st NF NH NX F H G D = if i = 60 then (fS 3 (sk n b st.2.2) st, NF, NH, NX, F, H, G, D) else (dbS n b NH (wE n b st), NF, NH, NX, F, H, G, iu D (6 * nV n b (wE n b st) + nV n b (nS n b 0 ((NH : Int) - 1) (wE n b st))).toNat (nV n b (dbB n b NH (wE n b st)))) := by
  unfold dStep; rw [if_neg (by omega), if_neg (by omega), if_neg (by omega), if_pos w]
theorem ds_none {i NF NH NX : Nat} {F H G D : Nat → Int} (w1 : pw n b (sk n b st.2.2) ≠ 212557) (w2 : pw n b (sk n b st.2.2) ≠ 263749) (w3 : pw n b (sk n b st.2.2) ≠ 6648) (w4 : pw n b (sk n b st.2.2) ≠ 136276) : dStep n b i st NF NH NX F H G D = (fS 1 (sk n b st.2.2) st, NF, NH, NX, F, H, G, D) := by
  unfold dStep; rw [if_neg w1, if_neg w2, if_neg w3, if_neg w4]
theorem pm_upd {k m : Nat} {A : Nat → Int32} {G : Nat → Int} {r : Int32} {v : Int} (h : pm m A G) (e : r.toInt = v) : pm m (upd A k r) (iu G k v) := by
  intro j hj
  by_cases z : j = k
  · rw [z, pk_us, iu_s]; exact e
  · rw [pk_un z, iu_n z]; exact h j hj
theorem cs_clause {Q : Int32 → Int32 → Int32 → Int32 → (Nat → Int32) → (Nat → Int32) → (Nat → Int32) → Int32 → (Nat → Int32) → (Nat → Int32) → Int32 → (Nat → Int32) → (Nat → Int32) → Int32 → Prop} {a tk fa fp x h nn p2 : Int32} {db FX FY se sr X Y : Nat → Int32} {i NF NH NX : Nat} {F H G D : Nat → Int}
    (hl : len.toInt = n) (hn : n ≤ 600) (hb : tB n f b) (hc : cS n b st a fa fp) (h0 : st.1 = 0) (hd : cD (st, NF, NH, NX, F, H, G, D) nn h x db FX FY se sr X Y) (hp1 : p2 = 0 → i ≠ 60) (hp2 : ¬ p2 = 0 → i = 60)
    (hq : ∀ (a t f2 fp2 : Int32) (db FX FY : Nat → Int32) (x : Int32) (se sr : Nat → Int32) (h : Int32) (X Y : Nat → Int32) (nn : Int32), cS n b (dStep n b i st NF NH NX F H G D).1 a f2 fp2 → cD (dStep n b i st NF NH NX F H G D) nn h x db FX FY se sr X Y → Q a t f2 fp2 db FX FY x se sr h X Y nn) :
    wq_X2_readClause_s len f a tk fa fp db FX FY x se sr h X Y nn p2 Q := by
  have hd : (nn.toInt = NF ∧ NF ≤ 8) ∧ (h.toInt = NH ∧ NH ≤ 6) ∧ (x.toInt = NX ∧ NX ≤ 4) ∧ (st.1 = 0 → pr NF X Y F ∧ pr NH se sr H ∧ pr NX FX FY G ∧ pm 36 db D) := hd
  obtain ⟨⟨n1, n2⟩, ⟨m1, m2⟩, ⟨x1, x2⟩, hr⟩ := hd
  obtain ⟨r1, r2, r3, r4⟩ := hr h0
  have bad : ∀ (a t f2 fp2 : Int32), dStep n b i st NF NH NX F H G D = (fS 3 (sk n b st.2.2) st, NF, NH, NX, F, H, G, D) → cS n b (3, sk n b st.2.2, 0) a f2 fp2 → Q a t f2 fp2 db FX FY x se sr h X Y nn := fun a t f2 fp2 e c => by
    rw [fS_0 h0] at e
    refine hq _ _ _ _ _ _ _ _ _ _ _ _ _ _ (by rw [e]; exact c) ?_
    rw [e]
    exact ⟨⟨n1, n2⟩, ⟨m1, m2⟩, ⟨x1, x2⟩, fun z => absurd z (by first | decide | simp)⟩
  refine cs_word hl hn hb wk_form hc h0 (fun w1 y2 c2 => ⟨fun _ => ?_, fun d => absurd rfl d⟩) (fun w1 y2 t2 c2 e2 => ⟨fun d => absurd d (by first | decide | simp), fun _ => ?_⟩)
  · refine cs_word hl hn hb wk_hare c2 h0 (fun w2 y3 c3 => ⟨fun _ => ?_, fun d => absurd rfl d⟩) (fun w2 y3 t3 c3 e3 => ⟨fun d => absurd d (by first | decide | simp), fun _ => ?_⟩)
    · refine cs_word hl hn hb wk_fox c3 h0 (fun w3 y4 c4 => ⟨fun _ => ?_, fun d => absurd rfl d⟩) (fun w3 y4 t4 c4 e4 => ⟨fun d => absurd d (by first | decide | simp), fun _ => ?_⟩)
      · refine cs_word hl hn hb wk_debt c4 h0 (fun w4 y5 c5 => ⟨fun _ => ?_, fun d => absurd rfl d⟩) (fun w4 y5 t5 c5 e5 => ⟨fun d => absurd d (by first | decide | simp), fun _ => ?_⟩)
        · refine cs_blameS hl hn hb c5 (fun z f2 p3 c6 => ?_)
          have e := ds_none (i := i) (NF := NF) (NH := NH) (NX := NX) (F := F) (H := H) (G := G) (D := D) w1 w2 w3 w4
          refine hq _ _ _ _ _ _ _ _ _ _ _ _ _ _ (by rw [e]; exact c6) ?_
          rw [e]
          rw [fS_0 h0]
          exact ⟨⟨n1, n2⟩, ⟨m1, m2⟩, ⟨x1, x2⟩, fun z => absurd z (by first | decide | simp)⟩
        · refine cs_readDebt hl hn hb c5 rfl e5 m1 m2 (fun g f2 p c => bad _ _ _ _ (by rw [ds_debt w4, if_pos (hp2 g)]) c) (fun g y t f2 p db2 c hv => ?_)
          have e := (ds_debt (i := i) (NF := NF) (NH := NH) (NX := NX) (F := F) (H := H) (G := G) (D := D) w4).trans (if_neg (hp1 g))
          refine hq _ _ _ _ _ _ _ _ _ _ _ _ _ _ (by rw [e]; exact c) ?_
          rw [e]
          refine ⟨⟨n1, n2⟩, ⟨m1, m2⟩, ⟨x1, x2⟩, fun z => ⟨r1, r2, r3, ?_⟩⟩
          obtain ⟨r, k, k1, k2, k3, k4⟩ := hv z
          rw [k4, ← k2, Int.toNat_natCast]
          exact pm_upd r4 k3
      · refine cs_readFox hl hn hb c4 rfl e4 x1 x2 (fun g f2 p c => bad _ _ _ _ (by rw [ds_fox w3, if_pos (g.elim (fun d => Or.inl (hp2 d)) Or.inr)]) c) (fun g g2 r s y t f2 p n9 c hv e9 => ?_)
        have e := (ds_fox (i := i) (NF := NF) (NH := NH) (NX := NX) (F := F) (H := H) (G := G) (D := D) w3).trans (if_neg (fun d => d.elim (hp1 g) g2))
        refine hq _ _ _ _ _ _ _ _ _ _ _ _ _ _ (by rw [e]; exact c) ?_
        rw [e]
        exact ⟨⟨n1, n2⟩, ⟨m1, m2⟩, ⟨e9, by show NX + 1 ≤ 4; omega⟩, fun z => ⟨r1, r2, pr_push r3 (hv z).1 (hv z).2, r4⟩⟩
    · refine cs_readHare hl hn hb c3 rfl e3 n1 n2 m1 m2 (fun g f2 p c => bad _ _ _ _ (by rw [ds_hare w2, if_pos (g.elim (fun d => Or.inl (hp2 d)) Or.inr)]) c) (fun g g2 r s y t f2 p n9 c hv e9 => ?_)
      have e := (ds_hare (i := i) (NF := NF) (NH := NH) (NX := NX) (F := F) (H := H) (G := G) (D := D) w2).trans (if_neg (fun d => d.elim (hp1 g) g2))
      refine hq _ _ _ _ _ _ _ _ _ _ _ _ _ _ (by rw [e]; exact c) ?_
      rw [e]
      exact ⟨⟨n1, n2⟩, ⟨e9, by show NH + 1 ≤ 6; omega⟩, ⟨x1, x2⟩, fun z => ⟨r1, pr_push r2 (hv z).1 (hv z).2, r3, r4⟩⟩
  · refine cs_readForm hl hn hb c2 rfl e2 n1 n2 (fun g f2 p c => bad _ _ _ _ (by rw [ds_form w1, if_pos (g.elim (fun d => Or.inl (hp2 d)) Or.inr)]) c) (fun g g2 r s y t f2 p n9 c hv e9 => ?_)
    have e := (ds_form (i := i) (NF := NF) (NH := NH) (NX := NX) (F := F) (H := H) (G := G) (D := D) w1).trans (if_neg (fun d => d.elim (hp1 g) g2))
    refine hq _ _ _ _ _ _ _ _ _ _ _ _ _ _ (by rw [e]; exact c) ?_
    rw [e]
    exact ⟨⟨e9, by show NF + 1 ≤ 8; omega⟩, ⟨m1, m2⟩, ⟨x1, x2⟩, fun z => ⟨pr_push r1 (hv z).1 (hv z).2, r2, r3, r4⟩⟩
theorem dRun_end {k i : Nat} {d : dT} (h : d.1.1 ≠ 0 ∨ ¬ sk n b d.1.2.2 < n) : dRun n b k i d = d := by
  cases k with
  | zero => rfl
  | succ k => unfold dRun; rw [if_pos h]
theorem dRun_go {k i NF NH NX : Nat} {F H G D : Nat → Int} (h0 : st.1 = 0) (h : sk n b st.2.2 < n) : dRun n b (k + 1) i (st, NF, NH, NX, F, H, G, D) = dRun n b k (i + 1) (dStep n b i st NF NH NX F H G D) := by
  show (if _ then _ else _) = _
  rw [if_neg (fun d => d.elim (fun z => z h0) (fun z => z h))]
theorem cs_from41 {Q : Int32 → Int32 → Int32 → (Nat → Int32) → Int32 → Int32 → Int32 → Int32 → Int32 → (Nat → Int32) → (Nat → Int32) → (Nat → Int32) → (Nat → Int32) → (Nat → Int32) → (Nat → Int32) → Prop} {R : dT} (hl : len.toInt = n) (hn : n ≤ 600) (hb : tB n f b)
    (hq : ∀ (nn h x : Int32) (db : Nat → Int32) (a sf t f2 fp2 : Int32) (FX FY se sr X Y : Nat → Int32), cS n b R.1 a f2 fp2 → cD R nn h x db FX FY se sr X Y → wb_X2_readFrom_s_83 len f Q nn h x db a sf t f2 fp2 FX FY se sr X Y) :
    ∀ (k : Nat) (nn h x : Int32) (db : Nat → Int32) (a sf t f2 fp2 : Int32) (FX FY se sr X Y : Nat → Int32) (l2 : Int32) (i : Nat) (d : dT), cS n b d.1 a f2 fp2 → cD d nn h x db FX FY se sr X Y → l2.toInt = i → i ≤ 61 → 61 - i < k → dRun n b (61 - i) i d = R → wl_X2_readFrom_s_41 len f Q k nn h x db a sf t f2 fp2 FX FY se sr X Y l2 := by
  intro k
  induction k with
  | zero => intro nn h x db a sf t f2 fp2 FX FY se sr X Y l2 i d hc hd h1 h2 h3; omega
  | succ k ih =>
    intro nn h x db a sf t f2 fp2 FX FY se sr X Y l2 i d hc hd h1 h2 h3 hR
    refine ⟨fun c => ?_, fun c => ⟨fun z => ⟨fun w => absurd rfl w, fun _ => ?_⟩, fun z => ⟨fun _ => ?_, fun w => absurd w (by first | decide | simp)⟩⟩⟩
    · rw [t_lt, t_60] at c
      rw [show 61 - i = 0 by omega] at hR
      have hR : d = R := hR
      rw [hR] at hc hd
      exact hq _ _ _ _ _ _ _ _ _ _ _ _ _ _ _ hc hd
    · rw [t_lt, t_60] at c
      have h0 : d.1.1 = 0 := by rw [← hc.2.1, z, t_0]
      refine cs_isEnded hl hn hb hc h0 (fun w y cy => ⟨fun d => absurd rfl d, fun _ => ?_⟩) (fun w y cy => ⟨fun _ => ?_, fun d => absurd d (by first | decide | simp)⟩)
      · obtain ⟨st, NF, NH, NX, F, H, G, D⟩ := d
        rw [show 61 - i = (61 - (i + 1)) + 1 by omega, dRun_go h0 w] at hR
        have go : ∀ s2 : Int32, (s2 = 0 → i ≠ 60) → (¬ s2 = 0 → i = 60) → wb_X2_readFrom_s_74 len f Q (fun n h x db a sf t f2 fp2 FX FY se sr X Y i => wl_X2_readFrom_s_41 len f Q k n h x db a sf t f2 fp2 FX FY se sr X Y i) nn h x db y sf t f2 fp2 FX FY se sr X Y l2 s2 := fun s2 g1 g2 =>
          cs_clause hl hn hb cy h0 hd g1 g2 (fun a t f2 fp2 db FX FY x se sr h X Y nn c9 d9 x26 e26 => ih _ _ _ _ _ _ _ _ _ _ _ _ _ _ _ x26 (i + 1) _ c9 d9 (by rw [e26, t_inc (by omega), h1]; omega) (by omega) (by omega) hR)
        exact ⟨fun g => go 0 (fun _ g9 => g (by rw [t_eq, t_60]; omega)) (fun g9 => absurd rfl g9), fun g => go 1 (fun g9 => absurd g9 (by decide)) (fun _ => by rw [t_eq, t_60] at g; omega)⟩
      · rw [dRun_end (Or.inr w)] at hR
        rw [hR] at cy hd
        exact hq _ _ _ _ _ _ _ _ _ _ _ _ _ _ _ cy hd
    · have h0 : d.1.1 ≠ 0 := fun w => z (cS_fa hc w)
      rw [dRun_end (Or.inl h0)] at hR
      rw [hR] at hc hd
      exact hq _ _ _ _ _ _ _ _ _ _ _ _ _ _ _ hc hd
theorem cs_from17 {Q : Int32 → Int32 → Int32 → (Nat → Int32) → Int32 → Int32 → Int32 → Int32 → Int32 → (Nat → Int32) → (Nat → Int32) → (Nat → Int32) → (Nat → Int32) → (Nat → Int32) → (Nat → Int32) → Prop} {nn h x a sf t f2 fp2 : Int32} {FX FY se sr X Y : Nat → Int32} (hk : ∀ db : Nat → Int32, pm 36 db (fun _ => 0) → ∃ k : Nat, wl_X2_readFrom_s_41 len f Q k nn h x db a sf t f2 fp2 FX FY se sr X Y 0) :
    ∀ (k : Nat) (db : Nat → Int32) (l2 : Int32) (i : Nat), l2.toInt = i → i ≤ 36 → 36 - i < k → pm i db (fun _ => 0) → wl_X2_readFrom_s_17 len f Q k nn h x db a sf t f2 fp2 FX FY se sr X Y l2 := by
  intro k
  induction k with
  | zero => intro db l2 i i0 i1 i2; omega
  | succ k ih =>
    intro db l2 i i0 i1 i2 hz
    refine ⟨fun c => hk db ?_, fun c => ?_⟩
    · rw [t_le, t_36] at c
      have e : i = 36 := by omega
      rw [← e]; exact hz
    rw [t_le, t_36] at c
    refine ⟨t_in (by omega) (by omega), fun f2' e2 x3 e3 => ?_⟩
    have e : x3.toInt = ((i + 1 : Nat) : Int) := by rw [e3, t_inc (by omega), i0]; omega
    refine ih f2' x3 (i + 1) e (by omega) (by omega) (fun j hj => ?_)
    rw [t_clamp i0] at e2
    by_cases z : j = i
    · rw [e2, z, pk_us]; exact t_0
    · rw [e2, pk_un z]; exact hz j (by omega)
/-- the text of a down, as it is read from its first byte on -/
def dAll (n : Nat) (b : Nat → Int) : dT := dRun n b 61 0 ((0, 0, 0), 0, 0, 0, (fun _ => 0), (fun _ => 0), (fun _ => 0), (fun _ => 0))
theorem cs_readFrom {Q : Int32 → Int32 → Int32 → (Nat → Int32) → Int32 → Int32 → Int32 → Int32 → Int32 → (Nat → Int32) → (Nat → Int32) → (Nat → Int32) → (Nat → Int32) → (Nat → Int32) → (Nat → Int32) → Prop} {nn h x a sf t f2 fp2 : Int32} {db FX FY se sr X Y : Nat → Int32} (hl : len.toInt = n) (hn : n ≤ 600) (hb : tB n f b) (hc : cS n b (0, 0, 0) a f2 fp2)
    (hq : ∀ (nn h x : Int32) (db : Nat → Int32) (a sf t f2 fp2 : Int32) (FX FY se sr X Y : Nat → Int32), cS n b (dAll n b).1 a f2 fp2 → cD (dAll n b) nn h x db FX FY se sr X Y → wb_X2_readFrom_s_83 len f Q nn h x db a sf t f2 fp2 FX FY se sr X Y) :
    wq_X2_readFrom_s len f nn h x db a sf t f2 fp2 FX FY se sr X Y Q :=
  ⟨37, cs_from17 (fun db hz => ⟨62, cs_from41 hl hn hb hq 62 0 0 0 db a sf t f2 fp2 FX FY se sr X Y 0 0 ((0, 0, 0), 0, 0, 0, (fun _ => 0), (fun _ => 0), (fun _ => 0), (fun _ => 0)) hc ⟨⟨t_0, by decide⟩, ⟨t_0, by decide⟩, ⟨t_0, by decide⟩, fun _ => ⟨fun j hj => absurd hj (Nat.not_lt_zero j), fun j hj => absurd hj (Nat.not_lt_zero j), fun j hj => absurd hj (Nat.not_lt_zero j), hz⟩⟩ t_0 (by decide) (by decide) rfl⟩) 37 db 0 0 t_0 (by decide) (by decide) (fun j hj => absurd hj (Nat.not_lt_zero j))⟩
end TDd
end
section
/-! a down's text by the reference -/
def mD (d : dT) (nf nh nx : Int32) (db fx ha fo : Nat → Int32) : Prop :=
  (nf.toInt = d.2.1 ∧ d.2.1 ≤ 8) ∧ (nh.toInt = d.2.2.1 ∧ d.2.2.1 ≤ 6) ∧ (nx.toInt = d.2.2.2.1 ∧ d.2.2.2.1 ≤ 4) ∧
  (d.1.1 = 0 → pm (2 * d.2.1) fo d.2.2.2.2.1 ∧ pm (2 * d.2.2.1) ha d.2.2.2.2.2.1 ∧ pm (2 * d.2.2.2.1) fx d.2.2.2.2.2.2.1 ∧ pm 36 db d.2.2.2.2.2.2.2)
theorem pm_push {k : Nat} {A : Nat → Int32} {G : Nat → Int} {r s : Int32} {v w : Int} (h : pm (2 * k) A G) (e1 : r.toInt = v) (e2 : s.toInt = w) : pm (2 * (k + 1)) (upd (upd A (2 * k) r) (2 * k + 1) s) (iu (iu G (2 * k) v) (2 * k + 1) w) := by
  intro j hj
  by_cases z : j = 2 * k + 1
  · rw [z, pk_us, iu_s]; exact e2
  · rw [pk_un z, iu_n z]
    by_cases z2 : j = 2 * k
    · rw [z2, pk_us, iu_s]; exact e1
    · rw [pk_un z2, iu_n z2]; exact h j (by omega)
theorem t_dbl {x : Int32} {k : Nat} (h : x.toInt = k) (h2 : k ≤ 100) : (2 * x).toInt = ((2 * k : Nat) : Int) := by
  rw [t_mul (by rw [t_2]; omega) (by rw [t_2]; omega), t_2]; omega
theorem t_dbl1 {x : Int32} {k : Nat} (h : x.toInt = ((2 * k : Nat) : Int)) (h2 : k ≤ 100) : (x + 1).toInt = ((2 * k + 1 : Nat) : Int) := by
  rw [t_inc (by omega), h]; omega
theorem y_of {m : Nat} {z : Nat → Int32} {c : Int} {Q : Int32 → Prop} (e1 : (Int32.ofNat m >>> ((0 : Int32) &&& 31)).toInt = m) (e2 : (Int32.ofNat m).toInt = m) (ec : (oW z m).toInt = c) (hq : ∀ r : Int32, r.toInt = c → Q r) : wq_X11_of_s m z Q :=
  sf_X11_of_s e1 e2 (fun r e => hq r (by rw [e]; exact ec))
theorem y_form {Q : Int32 → Prop} (hq : ∀ r : Int32, r.toInt = 212557 → Q r) : wq_X11_of_s 4 zb_X11_201 Q := y_of (by decide) (by decide) (by decide) hq
theorem y_hare {Q : Int32 → Prop} (hq : ∀ r : Int32, r.toInt = 263749 → Q r) : wq_X11_of_s 4 zb_X11_206 Q := y_of (by decide) (by decide) (by decide) hq
theorem y_fox {Q : Int32 → Prop} (hq : ∀ r : Int32, r.toInt = 6648 → Q r) : wq_X11_of_s 3 zb_X11_207 Q := y_of (by decide) (by decide) (by decide) hq
theorem y_debt {Q : Int32 → Prop} (hq : ∀ r : Int32, r.toInt = 136276 → Q r) : wq_X11_of_s 4 zb_X11_208 Q := y_of (by decide) (by decide) (by decide) hq
abbrev isR (c : Int) : Prop := c = 212557 ∨ c = 263749 ∨ c = 6648 ∨ c = 136276
theorem y_isRow {p0 : Int32} {Q : Int32 → Prop} (q1 : isR p0.toInt → Q 1) (q0 : ¬ isR p0.toInt → Q 0) : wq_X11_isRow_s p0 Q := by
  refine y_form (fun r2 e2 => ⟨fun z => q1 (Or.inl (by rw [z]; exact e2)), fun z2 => ?_⟩)
  refine y_hare (fun r5 e5 => ⟨fun z => q1 (Or.inr (Or.inl (by rw [z]; exact e5))), fun z5 => ?_⟩)
  refine y_fox (fun r8 e8 => ⟨fun z => q1 (Or.inr (Or.inr (Or.inl (by rw [z]; exact e8)))), fun z8 => ?_⟩)
  refine y_debt (fun r11 e11 => ⟨fun z11 => q0 ?_, fun z => q1 (Or.inr (Or.inr (Or.inr (by rw [z]; exact e11))))⟩)
  rw [t_eq] at z2 z5 z8 z11
  intro w
  rcases w with w | w | w | w <;> omega
theorem y_isFull {p1 nf nh nx : Int32} {Q : Int32 → Prop} (q1 : ((p1.toInt = 212557 ∧ nf.toInt = 8) ∨ (p1.toInt = 263749 ∧ nh.toInt = 6) ∨ (p1.toInt = 6648 ∧ nx.toInt = 4)) → Q 1) (q0 : ¬ ((p1.toInt = 212557 ∧ nf.toInt = 8) ∨ (p1.toInt = 263749 ∧ nh.toInt = 6) ∨ (p1.toInt = 6648 ∧ nx.toInt = 4)) → Q 0) : wq_X11_isFull_s nf nh nx p1 Q := by
  refine y_form (fun r2 e2 => ⟨fun z2 => ?_, fun z2 => ⟨fun z => q0 ?_, fun z => q1 (Or.inl ⟨by rw [z2]; exact e2, by rw [z]; exact t_8⟩)⟩⟩)
  · refine y_hare (fun r5 e5 => ⟨fun z5 => ?_, fun z5 => ⟨fun z => q0 ?_, fun z => q1 (Or.inr (Or.inl ⟨by rw [z5]; exact e5, by rw [z]; exact t_6⟩))⟩⟩)
    · refine y_fox (fun r8 e8 => ⟨fun z8 => q0 ?_, fun z8 => ⟨fun z => q0 ?_, fun z => q1 (Or.inr (Or.inr ⟨by rw [z8]; exact e8, by rw [z]; exact t_4⟩))⟩⟩)
      · rw [t_eq] at z2 z5 z8
        omega
      · rw [t_eq] at z2 z5 z8 z
        rw [t_4] at z
        omega
    · rw [t_eq] at z2 z5 z
      rw [t_6] at z
      omega
  · rw [t_eq] at z2 z
    rw [t_8] at z
    omega
section TM
variable {n : Nat} {b : Nat → Int} {st : sT} {len : Int32} {f : Nat → Int32}
theorem mS_nb {a bd bk : Int32} (h : mS n b st a bd bk) (h0 : st.1 ≠ 0) : ¬ bd = -1 := fun z => by
  have := (h.2.2 h0).1
  rw [z, t_m1] at this; omega
theorem mS_f0 {a bd bk : Int32} (h : mS n b st a bd bk) (z : bd = -1) : st.1 = 0 := by
  by_cases w : st.1 = 0
  · exact w
  · exact absurd z (mS_nb h w)
theorem ms_fine {Q : Int32 → Prop} {a bd bk : Int32} (h : mS n b st a bd bk) (q1 : st.1 = 0 → Q 1) (q0 : st.1 ≠ 0 → Q 0) : wq_X11_fine bd Q := ⟨fun z => q0 (fun w => z (h.2.1 w)), fun z => q1 (mS_f0 h z)⟩
theorem ms_wrong {Q : Int32 → Int32 → Prop} {a bd bk kind place : Int32} {s : Nat} (h : mS n b st a bd bk) (hp : st.1 = 0 → place.toInt = s) (hk : kind.toInt ≠ 0) (hq : ∀ bd2 bk2 : Int32, mS n b (fS kind.toInt s st) a bd2 bk2 → Q bd2 bk2) : wq_X11_wrong bd bk kind place Q := by
  refine ⟨fun z => hq place kind ?_, fun z => hq bd bk ?_⟩
  · have hz := mS_f0 h z
    rw [fS_0 hz]
    obtain ⟨⟨q, g1, g2, g3⟩, e0, e1⟩ := h
    exact ⟨⟨q, g1, g2, fun d => absurd d hk⟩, fun d => absurd d hk, fun _ => ⟨hp hz, rfl⟩⟩
  · have hz : st.1 ≠ 0 := fun w => z (h.2.1 w)
    rw [fS_bad hz]; exact h
theorem ms_here {Q : Int32 → Int32 → Prop} {a bd bk : Int32} (hl : len.toInt = n) (hn : n ≤ 600) (hb : tB n f b) (h : mS n b st a bd bk) (hq : ∀ r x : Int32, mS n b st x bd bk → (st.1 = 0 → x.toInt = (sk n b st.2.2 : Nat) ∧ cR r (at0 n b (sk n b st.2.2))) → Q r x) : wq_X11_here len f a Q := by
  obtain ⟨⟨q, e, hq6, es⟩, e0, e1⟩ := id h
  have hs := sk_le (b := b) hq6 hn
  refine y_here hl hn hb e hq6 (fun r x ex hr => hq r x ⟨aS_ex ex hs (fun w => by rw [sk_sk]; exact es w), e0, e1⟩ (fun w => ?_))
  rw [es w] at ex hr
  exact ⟨ex, hr⟩
theorem ms_isMore {Q : Int32 → Int32 → Prop} {a bd bk : Int32} (hl : len.toInt = n) (hn : n ≤ 600) (hb : tB n f b) (h : mS n b st a bd bk) (h0 : st.1 = 0) (q1 : sk n b st.2.2 < n → ∀ x : Int32, mS n b st x bd bk → Q 1 x) (q0 : ¬ sk n b st.2.2 < n → ∀ x : Int32, mS n b st x bd bk → Q 0 x) : wq_X11_isMore len f a Q := by
  obtain ⟨⟨q, e, hq6, es⟩, e0, e1⟩ := id h
  have hs := sk_le (b := b) hq6 hn
  have es' := es h0
  rw [es'] at hs
  refine y_isMore hl hn hb e hq6 (fun w x ex => ?_) (fun w x ex => ?_)
  · rw [es'] at w ex
    exact q1 w x ⟨aS_ex ex hs (fun _ => sk_sk), e0, e1⟩
  · rw [es'] at w ex
    exact q0 w x ⟨aS_ex ex hs (fun _ => sk_sk), e0, e1⟩
theorem ms_word {Q : Int32 → Int32 → Prop} {a bd bk : Int32} (hl : len.toInt = n) (hn : n ≤ 600) (hb : tB n f b) (h : mS n b st a bd bk) (h0 : st.1 = 0) (hq : ∀ r x : Int32, mS n b st x bd bk → x.toInt = (sk n b st.2.2 : Nat) → r.toInt = pw n b (sk n b st.2.2) → Q r x) : wq_X11_word len f a Q := by
  obtain ⟨⟨q, e, hq6, es⟩, e0, e1⟩ := id h
  have hs := sk_le (b := b) hq6 hn
  have es' := es h0
  rw [es'] at hs
  refine y_word hl hn hb e hq6 (fun r x ex er => ?_)
  rw [es'] at ex er
  exact hq r x ⟨aS_ex ex hs (fun _ => sk_sk), e0, e1⟩ ex er
/-- pass, from a word's first letter on -/
theorem ms_pass {Q : Int32 → Prop} {a bd bk : Int32} (hl : len.toInt = n) (hn : n ≤ 600) (hb : tB n f b) (h : mS n b st a bd bk) (h0 : st.1 = 0) (ha : a.toInt = (sk n b st.2.2 : Nat)) (hq : ∀ x : Int32, mS n b (wE n b st) x bd bk → Q x) : wq_X11_pass len f a Q := by
  have hs : sk n b st.2.2 ≤ 600 := by
    obtain ⟨⟨q, e, hq6, es⟩, e0, e1⟩ := id h
    have := sk_le (b := b) hq6 hn
    rw [es h0] at this; exact this
  exact y_pass hl hn hb ha hs (fun x ex => hq x ⟨aS_ex ex (lE_le hs hn) (fun _ => rfl), fun _ => h.2.1 h0, fun d => absurd rfl d⟩)
theorem ms_debt38 {Q : Int32 → Int32 → Int32 → (Nat → Int32) → Prop} {nh a bd bk r4 r10 : Int32} {db : Nat → Int32} {NH : Nat} (hl : len.toInt = n) (hn : n ≤ 600) (hb : tB n f b) (m2 : NH ≤ 6) (h : mS n b (dbB n b NH st) a bd bk) (hv : (dbB n b NH st).1 = 0 → r4.toInt = nV n b st ∧ r10.toInt = nV n b (nS n b 0 ((NH : Int) - 1) st))
    (hq : ∀ (x bd2 bk2 : Int32) (db2 : Nat → Int32), mS n b (dbC n b NH st) x bd2 bk2 → ((dbC n b NH st).1 = 0 → ∃ (r : Int32) (k : Nat), k < 36 ∧ (k : Int) = 6 * nV n b st + nV n b (nS n b 0 ((NH : Int) - 1) st) ∧ r.toInt = nV n b (dbB n b NH st) ∧ db2 = upd db k r) → Q x bd2 bk2 db2) : wb_X11_readDebt_38 len nh f Q a bd bk db r4 r10 := by
  refine ms_number hl hn hb h (by decide) (by decide) (fun r x16 x17 x18 c1 v1 => ?_)
  rw [t_0, t_99] at c1 v1
  have c1 : mS n b (dbC n b NH st) x16 x17 x18 := c1
  refine ms_fine c1 (fun z => ⟨fun d => absurd d (by first | decide | simp), fun _ x22 e22 x23 e23 => ?_⟩) (fun z => ⟨fun _ => hq _ _ _ _ c1 (fun w => absurd w z), fun d => absurd rfl d⟩)
  have z2 : (dbB n b NH st).1 = 0 := (nS_fine (lo := 0) (hi := 99) (st := dbB n b NH st) z).1
  have z3 := dbB_fine z2
  have z4 : (nS n b 0 ((NH : Int) - 1) st).1 = 0 := (nS_fine (lo := 0) (hi := (NH : Int) - 1) (st := nS n b 0 ((NH : Int) - 1) st) z3).1
  obtain ⟨w1, w2⟩ := hv z2
  obtain ⟨-, g1, g2⟩ := nS_fine (lo := 0) (hi := (NH : Int) - 1) (st := st) z4
  obtain ⟨-, g3, g4⟩ := nS_fine (lo := 0) (hi := (NH : Int) - 1) (st := nS n b 0 ((NH : Int) - 1) st) z3
  have e1 : x22.toInt = 6 * r4.toInt := by rw [e22, t_mul (by rw [t_6]; omega) (by rw [t_6]; omega), t_6]
  have e2 : x23.toInt = 6 * r4.toInt + r10.toInt := by rw [e23, t_add (by omega) (by omega), e1]
  refine ⟨t_in (by omega) (by omega), fun f24 e24 => hq _ _ _ _ c1 (fun _ => ⟨r, x23.toNatClampNeg, ?_, ?_, v1 z, e24⟩)⟩
  · have := t_nat (x := x23) (by omega); omega
  · have := t_nat (x := x23) (by omega); omega
theorem ms_readDebt {Q : Int32 → Int32 → Int32 → (Nat → Int32) → Prop} {nh a bd bk : Int32} {db : Nat → Int32} {NH : Nat} (hl : len.toInt = n) (hn : n ≤ 600) (hb : tB n f b) (m1 : nh.toInt = NH) (m2 : NH ≤ 6) (h : mS n b st a bd bk)
    (hq : ∀ (x bd2 bk2 : Int32) (db2 : Nat → Int32), mS n b (dbC n b NH st) x bd2 bk2 → ((dbC n b NH st).1 = 0 → ∃ (r : Int32) (k : Nat), k < 36 ∧ (k : Int) = 6 * nV n b st + nV n b (nS n b 0 ((NH : Int) - 1) st) ∧ r.toInt = nV n b (dbB n b NH st) ∧ db2 = upd db k r) → Q x bd2 bk2 db2) : wq_X11_readDebt len nh f a bd bk db Q := by
  have en : (nh - 1).toInt = (NH : Int) - 1 := by rw [t_pred (by omega), m1]
  refine ms_number hl hn hb h (by decide) (by rw [en]; omega) (fun r4 x1 x2 x3 c1 v1 => ms_here hl hn hb c1 (fun r6 x5 c5 v5 => ms_number hl hn hb c5 (by decide) (by rw [en]; omega) (fun r10 x7 x8 x9 c2 v2 => ?_)))
  rw [t_0, en] at v1 v2 c2 v5
  have c2 : mS n b (dbA n b NH st) x7 x8 x9 := c2
  have v2 : (dbA n b NH st).1 = 0 → r10.toInt = nV n b (nS n b 0 ((NH : Int) - 1) st) := v2
  have vz : (dbA n b NH st).1 = 0 → (r4.toInt = nV n b st ∧ r10.toInt = nV n b (nS n b 0 ((NH : Int) - 1) st)) ∧ x5.toInt = (sk n b (nS n b 0 ((NH : Int) - 1) st).2.2 : Nat) := fun z => by
    have z1 := (nS_fine (lo := 0) (hi := (NH : Int) - 1) (st := nS n b 0 ((NH : Int) - 1) st) z).1
    exact ⟨⟨v1 z1, v2 z⟩, (v5 z1).1⟩
  refine ms_fine c2 (fun z => ⟨fun d => absurd d (by first | decide | simp), fun _ => ⟨fun g => ?_, fun g => ?_⟩⟩) (fun z => ⟨fun _ => ?_, fun d => absurd rfl d⟩)
  · obtain ⟨⟨w1, w2⟩, w3⟩ := vz z
    rw [t_eq] at g
    have e := dbB_ne (n := n) (b := b) (h := (NH : Int)) (st := st) (fun w => g (by omega))
    rw [← e] at c2
    exact ms_debt38 hl hn hb m2 c2 (fun w => (vz (dbB_fine w)).1) hq
  · obtain ⟨⟨w1, w2⟩, w3⟩ := vz z
    rw [t_eq] at g
    have e := dbB_eq (n := n) (b := b) (h := (NH : Int)) (st := st) (by omega)
    refine ms_wrong (s := sk n b (nS n b 0 ((NH : Int) - 1) st).2.2) c2 (fun _ => w3) (by decide) (fun bd2 bk2 c => ?_)
    rw [t_2, ← e] at c
    exact ms_debt38 hl hn hb m2 c (fun w => (vz (dbB_fine w)).1) hq
  · rw [← dbB_bad z] at c2
    exact ms_debt38 hl hn hb m2 c2 (fun w => (vz (dbB_fine w)).1) hq
end TM
end
section
/-! the reference's rows of a down, all of them -/
section TN
variable {n : Nat} {b : Nat → Int} {st : sT} {len : Int32} {f : Nat → Int32}
theorem ms_row {Q : Int32 → Int32 → Int32 → (Nat → Int32) → (Nat → Int32) → Int32 → (Nat → Int32) → Int32 → (Nat → Int32) → Int32 → Prop} {a bd bk nx nh nf p1 : Int32} {db fx ha fo : Nat → Int32} {NF NH NX : Nat}
    (hl : len.toInt = n) (hn : n ≤ 600) (hb : tB n f b) (h : mS n b st a bd bk) (n1 : nf.toInt = NF) (n2 : NF ≤ 8) (m1 : nh.toInt = NH) (m2 : NH ≤ 6) (x1 : nx.toInt = NX) (x2 : NX ≤ 4) (hr : isR p1.toInt) (hf1 : p1.toInt = 212557 → NF ≠ 8) (hf2 : p1.toInt = 263749 → NH ≠ 6) (hf3 : p1.toInt = 6648 → NX ≠ 4)
    (q1 : p1.toInt = 212557 → ∀ (r s x bd2 bk2 n9 : Int32), mS n b (nS n b 0 30 (nS n b 0 30 st)) x bd2 bk2 → ((nS n b 0 30 (nS n b 0 30 st)).1 = 0 → r.toInt = nV n b st ∧ s.toInt = nV n b (nS n b 0 30 st)) → n9.toInt = ((NF + 1 : Nat) : Int) → Q x bd2 bk2 db fx nx ha nh (upd (upd fo (2 * NF) r) (2 * NF + 1) s) n9)
    (q2 : p1.toInt = 263749 → ∀ (r s x bd2 bk2 n9 : Int32), mS n b (nS n b 1 9 (nS n b 0 ((NF : Int) - 1) st)) x bd2 bk2 → ((nS n b 1 9 (nS n b 0 ((NF : Int) - 1) st)).1 = 0 → r.toInt = nV n b st ∧ s.toInt = nV n b (nS n b 0 ((NF : Int) - 1) st)) → n9.toInt = ((NH + 1 : Nat) : Int) → Q x bd2 bk2 db fx nx (upd (upd ha (2 * NH) r) (2 * NH + 1) s) n9 fo nf)
    (q3 : p1.toInt = 6648 → ∀ (r s x bd2 bk2 n9 : Int32), mS n b (nS n b 0 30 (nS n b 0 30 st)) x bd2 bk2 → ((nS n b 0 30 (nS n b 0 30 st)).1 = 0 → r.toInt = nV n b st ∧ s.toInt = nV n b (nS n b 0 30 st)) → n9.toInt = ((NX + 1 : Nat) : Int) → Q x bd2 bk2 db (upd (upd fx (2 * NX) r) (2 * NX + 1) s) n9 ha nh fo nf)
    (q4 : p1.toInt = 136276 → ∀ (x bd2 bk2 : Int32) (db2 : Nat → Int32), mS n b (dbC n b NH st) x bd2 bk2 → ((dbC n b NH st).1 = 0 → ∃ (r : Int32) (k : Nat), k < 36 ∧ (k : Int) = 6 * nV n b st + nV n b (nS n b 0 ((NH : Int) - 1) st) ∧ r.toInt = nV n b (dbB n b NH st) ∧ db2 = upd db k r) → Q x bd2 bk2 db2 fx nx ha nh fo nf) : wq_X11_readRow_s len f a bd bk db fx nx ha nh fo nf p1 Q := by
  refine y_form (fun r2 e2 => ⟨fun z2 => y_hare (fun r5 e5 => ⟨fun z5 => y_fox (fun r8 e8 => ⟨fun z8 => ?_, fun z8 x14 e14 => ?_⟩), fun z5 x28 e28 => ?_⟩), fun z2 x42 e42 => ?_⟩)
  · rw [t_eq] at z2 z5 z8
    have hw : p1.toInt = 136276 := by
      rcases hr with w | w | w | w <;> omega
    exact ms_readDebt hl hn hb m1 m2 h (q4 hw)
  · have hw : p1.toInt = 6648 := by rw [z8]; exact e8
    have hx := hf3 hw
    have i1 : x14.toInt = ((2 * NX : Nat) : Int) := by rw [e14]; exact t_dbl x1 (by omega)
    refine ms_number hl hn hb h (by decide) (by decide) (fun r18 x15 x16 x17 c1 v1 => ⟨t_in (by omega) (by omega), fun f19 e19 x20 e20 x21 e21 => ms_number hl hn hb c1 (by decide) (by decide) (fun r25 x22 x23 x24 c2 v2 => ?_)⟩)
    have i2 : x21.toInt = ((2 * NX + 1 : Nat) : Int) := by rw [e21]; exact t_dbl1 (by rw [e20]; exact t_dbl x1 (by omega)) (by omega)
    refine ⟨t_in (by omega) (by omega), fun f26 e26 x27 e27 => ?_⟩
    rw [t_0, t_30] at v1 v2 c2
    rw [t_clamp i1] at e19
    rw [t_clamp i2, e19] at e26
    rw [e26]
    exact q3 hw r18 r25 x22 x23 x24 x27 c2 (fun z => ⟨v1 (nS_fine (lo := 0) (hi := 30) (st := nS n b 0 30 st) z).1, v2 z⟩) (by rw [e27, t_inc (by omega), x1]; omega)
  · have hw : p1.toInt = 263749 := by rw [z5]; exact e5
    have hx := hf2 hw
    have en : (nf - 1).toInt = (NF : Int) - 1 := by rw [t_pred (by omega), n1]
    have i1 : x28.toInt = ((2 * NH : Nat) : Int) := by rw [e28]; exact t_dbl m1 (by omega)
    refine ms_number hl hn hb h (by decide) (by rw [en]; omega) (fun r18 x15 x16 x17 c1 v1 => ⟨t_in (by omega) (by omega), fun f19 e19 x20 e20 x21 e21 => ms_number hl hn hb c1 (by decide) (by decide) (fun r25 x22 x23 x24 c2 v2 => ?_)⟩)
    have i2 : x21.toInt = ((2 * NH + 1 : Nat) : Int) := by rw [e21]; exact t_dbl1 (by rw [e20]; exact t_dbl m1 (by omega)) (by omega)
    refine ⟨t_in (by omega) (by omega), fun f26 e26 x27 e27 => ?_⟩
    rw [t_0, en] at v1
    rw [t_0, en, t_1, t_9] at v2 c2
    rw [t_clamp i1] at e19
    rw [t_clamp i2, e19] at e26
    rw [e26]
    exact q2 hw r18 r25 x22 x23 x24 x27 c2 (fun z => ⟨v1 (nS_fine (lo := 1) (hi := 9) (st := nS n b 0 ((NF : Int) - 1) st) z).1, v2 z⟩) (by rw [e27, t_inc (by omega), m1]; omega)
  · have hw : p1.toInt = 212557 := by rw [z2]; exact e2
    have hx := hf1 hw
    have i1 : x42.toInt = ((2 * NF : Nat) : Int) := by rw [e42]; exact t_dbl n1 (by omega)
    refine ms_number hl hn hb h (by decide) (by decide) (fun r18 x15 x16 x17 c1 v1 => ⟨t_in (by omega) (by omega), fun f19 e19 x20 e20 x21 e21 => ms_number hl hn hb c1 (by decide) (by decide) (fun r25 x22 x23 x24 c2 v2 => ?_)⟩)
    have i2 : x21.toInt = ((2 * NF + 1 : Nat) : Int) := by rw [e21]; exact t_dbl1 (by rw [e20]; exact t_dbl n1 (by omega)) (by omega)
    refine ⟨t_in (by omega) (by omega), fun f26 e26 x27 e27 => ?_⟩
    rw [t_0, t_30] at v1 v2 c2
    rw [t_clamp i1] at e19
    rw [t_clamp i2, e19] at e26
    rw [e26]
    exact q1 hw r18 r25 x22 x23 x24 x27 c2 (fun z => ⟨v1 (nS_fine (lo := 0) (hi := 30) (st := nS n b 0 30 st) z).1, v2 z⟩) (by rw [e27, t_inc (by omega), n1]; omega)
abbrev dQ := Int32 → Int32 → (Nat → Int32) → Int32 → Int32 → Int32 → Int32 → Int32 → Int32 → Int32 → Int32 → Int32 → (Nat → Int32) → Int32 → Int32 → Int32 → Int32 → (Nat → Int32) → (Nat → Int32) → (Nat → Int32) → Int32 → Int32 → Int32 → Int32 → Int32 → (Nat → Int32) → (Nat → Int32) → (Nat → Int32) → (Nat → Int32) → (Nat → Int32) → Prop
/-- a row that is too many -/
theorem ds_full {i NF NH NX : Nat} {F H G D : Nat → Int} (hr : isR (pw n b (sk n b st.2.2))) (hf : i = 60 ∨ ((pw n b (sk n b st.2.2) = 212557 ∧ NF = 8) ∨ (pw n b (sk n b st.2.2) = 263749 ∧ NH = 6) ∨ (pw n b (sk n b st.2.2) = 6648 ∧ NX = 4))) : dStep n b i st NF NH NX F H G D = (fS 3 (sk n b st.2.2) st, NF, NH, NX, F, H, G, D) := by
  rcases hr with w | w | w | w
  · rw [ds_form w, if_pos (by omega)]
  · rw [ds_hare w, if_pos (by omega)]
  · rw [ds_fox w, if_pos (by omega)]
  · rw [ds_debt w, if_pos (by omega)]
theorem ms_down44 {Q : dQ} {th tp fA op fm hm0 xm cd bo wo im rs : Int32} {rf fo0 ha0 fx0 bk0 nw : Nat → Int32} {R : dT} (hl : len.toInt = n) (hn : n ≤ 600) (hb : tB n f b)
    (hq : ∀ (a bd bk nf nh nx : Int32) (db fx ha fo : Nat → Int32), mS n b R.1 a bd bk → mD R nf nh nx db fx ha fo → wb_X11_down_s_136 f Q th rf tp fA len a bd op nf nh nx db bk fm hm0 xm fo0 ha0 fx0 cd bo wo im rs bk0 nw fx ha fo) :
    ∀ (k : Nat) (a bd bk nf nh nx : Int32) (db fx ha fo : Nat → Int32) (l2 : Int32) (i : Nat) (d : dT), mS n b d.1 a bd bk → mD d nf nh nx db fx ha fo → l2.toInt = i → i ≤ 61 → (d.1.1 = 0 → i ≤ 60) → 61 - i < k → dRun n b (61 - i) i d = R → wl_X11_down_s_44 f Q k th rf tp fA len a bd op nf nh nx db bk fm hm0 xm fo0 ha0 fx0 cd bo wo im rs bk0 nw fx ha fo l2 := by
  intro k
  induction k with
  | zero => intro a bd bk nf nh nx db fx ha fo l2 i d hm hd h1 h2 h3 h4; omega
  | succ k ih =>
    intro a bd bk nf nh nx db fx ha fo l2 i d hm hd h1 h2 h3 h4 hR
    refine ms_fine hm (fun h0 => ⟨fun z => absurd z (by first | decide | simp), fun _ => ?_⟩) (fun h0 => ⟨fun _ => ?_, fun z => absurd rfl z⟩)
    · have h3 := h3 h0
      refine ms_isMore hl hn hb hm h0 (fun w y cy => ⟨fun z => absurd z (by first | decide | simp), fun _ => ?_⟩) (fun w y cy => ⟨fun _ => ?_, fun z => absurd rfl z⟩)
      · obtain ⟨st, NF, NH, NX, F, H, G, D⟩ := d
        have h0 : st.1 = 0 := h0
        have w : sk n b st.2.2 < n := w
        have cy : mS n b st y bd bk := cy
        have hd : (nf.toInt = NF ∧ NF ≤ 8) ∧ (nh.toInt = NH ∧ NH ≤ 6) ∧ (nx.toInt = NX ∧ NX ≤ 4) ∧ (st.1 = 0 → pm (2 * NF) fo F ∧ pm (2 * NH) ha H ∧ pm (2 * NX) fx G ∧ pm 36 db D) := hd
        obtain ⟨⟨n1, n2⟩, ⟨m1, m2⟩, ⟨x1, x2⟩, hr⟩ := hd
        obtain ⟨r1, r2, r3, r4⟩ := hr h0
        rw [show 61 - i = (61 - (i + 1)) + 1 by omega, dRun_go h0 w] at hR
        have bad : ∀ (kd : Int) (a bd bk : Int32), kd ≠ 0 → dStep n b i st NF NH NX F H G D = (fS kd (sk n b st.2.2) st, NF, NH, NX, F, H, G, D) → mS n b (fS kd (sk n b st.2.2) st) a bd bk → ∀ l3 : Int32, wb_X11_down_s_105 f Q (fun v0_thrown f0_refused v0_taped v0_faultAt v0_size v0_at v0_bad v0_opens v0_newForms v0_newHares v0_newFoxes f0_newDebt v0_badKind v0_forms v0_hares v0_foxes f0_form f0_hare f0_fox v0_codes v0_books v0_works v0_images v0_refusedSteps f0_book f0_now f0_newFox f0_newHare f0_newForm l2 => wl_X11_down_s_44 f Q k v0_thrown f0_refused v0_taped v0_faultAt v0_size v0_at v0_bad v0_opens v0_newForms v0_newHares v0_newFoxes f0_newDebt v0_badKind v0_forms v0_hares v0_foxes f0_form f0_hare f0_fox v0_codes v0_books v0_works v0_images v0_refusedSteps f0_book f0_now f0_newFox f0_newHare f0_newForm l2) th rf tp fA len a bd op nf nh nx db bk fm hm0 xm fo0 ha0 fx0 cd bo wo im rs bk0 nw fx ha fo l2 l3 := fun kd a bd bk hk e c l3 => by
          rw [e, dRun_end (Or.inl (by rw [fS_0 h0]; exact hk))] at hR
          refine ms_fine c (fun z => absurd (by rw [fS_0 h0] at z; exact z) hk) (fun z => ⟨fun g => absurd rfl g, fun _ => hq _ _ _ _ _ _ _ _ _ _ (by rw [← hR]; exact c) ?_⟩)
          rw [← hR]
          exact ⟨⟨n1, n2⟩, ⟨m1, m2⟩, ⟨x1, x2⟩, fun g => absurd (by rw [fS_0 h0] at g; exact g) hk⟩
        refine ms_word hl hn hb cy h0 (fun r23 x22 c22 e22 e23 => y_isRow (fun z24 => ⟨fun _ => ?_, fun z => absurd z (by first | decide | simp)⟩) (fun z24 => ⟨fun z => absurd rfl z, fun _ => ?_⟩))
        · have full : (i = 60 ∨ ((pw n b (sk n b st.2.2) = 212557 ∧ NF = 8) ∨ (pw n b (sk n b st.2.2) = 263749 ∧ NH = 6) ∨ (pw n b (sk n b st.2.2) = 6648 ∧ NX = 4))) → wb_X11_down_s_96 f Q (fun v0_thrown f0_refused v0_taped v0_faultAt v0_size v0_at v0_bad v0_opens v0_newForms v0_newHares v0_newFoxes f0_newDebt v0_badKind v0_forms v0_hares v0_foxes f0_form f0_hare f0_fox v0_codes v0_books v0_works v0_images v0_refusedSteps f0_book f0_now f0_newFox f0_newHare f0_newForm l2 => wl_X11_down_s_44 f Q k v0_thrown f0_refused v0_taped v0_faultAt v0_size v0_at v0_bad v0_opens v0_newForms v0_newHares v0_newFoxes f0_newDebt v0_badKind v0_forms v0_hares v0_foxes f0_form f0_hare f0_fox v0_codes v0_books v0_works v0_images v0_refusedSteps f0_book f0_now f0_newFox f0_newHare f0_newForm l2) th rf tp fA len x22 bd op nf nh nx db bk fm hm0 xm fo0 ha0 fx0 cd bo wo im rs bk0 nw fx ha fo l2 r23 := fun hf =>
            ms_wrong (s := sk n b st.2.2) c22 (fun _ => e22) (by decide) (fun bd2 bk2 c => bad 3 _ _ _ (by decide) (ds_full (by rw [← e23]; exact z24) hf) (by rw [t_3] at c; exact c) r23)
          refine ⟨fun g => full (Or.inl (by rw [t_eq, t_60] at g; omega)), fun g => ?_⟩
          rw [t_eq, t_60] at g
          refine y_isFull (fun hf => ⟨fun z => absurd z (by first | decide | simp), fun _ => full (Or.inr (by rw [← e23]; omega))⟩) (fun hf => ⟨fun _ => ?_, fun z => absurd rfl z⟩)
          refine ms_fine c22 (fun _ => ⟨fun _ => ?_, fun z => absurd z (by first | decide | simp)⟩) (fun z => absurd h0 z)
          refine ms_pass hl hn hb c22 h0 e22 (fun x51 c51 => ?_)
          have nx1 : ∀ x65 : Int32, x65 = l2 + 1 → x65.toInt = ((i + 1 : Nat) : Int) := fun x65 e => by rw [e, t_inc (by omega), h1]; omega
          refine ms_row hl hn hb c51 n1 n2 m1 m2 x1 x2 z24 (by omega) (by omega) (by omega) (fun hw r s x bd2 bk2 n9 c v e9 => ?_) (fun hw r s x bd2 bk2 n9 c v e9 => ?_) (fun hw r s x bd2 bk2 n9 c v e9 => ?_) (fun hw x bd2 bk2 db2 c v => ?_)
          · rw [e23] at hw
            rw [ds_form hw, if_neg (by omega)] at hR
            refine ms_sign hl hn hb c (by decide) (fun x62 x63 x64 c9 x65 e65 => ih _ _ _ _ _ _ _ _ _ _ x65 (i + 1) _ ?_ ?_ (nx1 x65 e65) (by omega) (fun _ => by omega) (by omega) hR)
            · rw [t_59] at c9; exact c9
            · exact ⟨⟨e9, by show NF + 1 ≤ 8; omega⟩, ⟨m1, m2⟩, ⟨x1, x2⟩, fun z => ⟨pm_push r1 (v (twS_fine z).2).1 (v (twS_fine z).2).2, r2, r3, r4⟩⟩
          · rw [e23] at hw
            rw [ds_hare hw, if_neg (by omega)] at hR
            refine ms_sign hl hn hb c (by decide) (fun x62 x63 x64 c9 x65 e65 => ih _ _ _ _ _ _ _ _ _ _ x65 (i + 1) _ ?_ ?_ (nx1 x65 e65) (by omega) (fun _ => by omega) (by omega) hR)
            · rw [t_59] at c9; exact c9
            · exact ⟨⟨n1, n2⟩, ⟨e9, by show NH + 1 ≤ 6; omega⟩, ⟨x1, x2⟩, fun z => ⟨r1, pm_push r2 (v (twS_fine z).2).1 (v (twS_fine z).2).2, r3, r4⟩⟩
          · rw [e23] at hw
            rw [ds_fox hw, if_neg (by omega)] at hR
            refine ms_sign hl hn hb c (by decide) (fun x62 x63 x64 c9 x65 e65 => ih _ _ _ _ _ _ _ _ _ _ x65 (i + 1) _ ?_ ?_ (nx1 x65 e65) (by omega) (fun _ => by omega) (by omega) hR)
            · rw [t_59] at c9; exact c9
            · exact ⟨⟨n1, n2⟩, ⟨m1, m2⟩, ⟨e9, by show NX + 1 ≤ 4; omega⟩, fun z => ⟨r1, r2, pm_push r3 (v (twS_fine z).2).1 (v (twS_fine z).2).2, r4⟩⟩
          · rw [e23] at hw
            rw [ds_debt hw, if_neg (by omega)] at hR
            refine ms_sign hl hn hb c (by decide) (fun x62 x63 x64 c9 x65 e65 => ih _ _ _ _ _ _ _ _ _ _ x65 (i + 1) _ ?_ ?_ (nx1 x65 e65) (by omega) (fun _ => by omega) (by omega) hR)
            · rw [t_59] at c9; exact c9
            · refine ⟨⟨n1, n2⟩, ⟨m1, m2⟩, ⟨x1, x2⟩, fun z => ⟨r1, r2, r3, ?_⟩⟩
              obtain ⟨r, kk, k1, k2, k3, k4⟩ := v (dbS_fine z).1
              rw [k4, ← k2, Int.toNat_natCast]
              exact pm_upd r4 k3
        · rw [e23] at z24
          refine ms_wrong (s := sk n b st.2.2) c22 (fun _ => e22) (by decide) (fun bd2 bk2 c => bad 1 _ _ _ (by decide) (ds_none (fun z => z24 (Or.inl z)) (fun z => z24 (Or.inr (Or.inl z))) (fun z => z24 (Or.inr (Or.inr (Or.inl z)))) (fun z => z24 (Or.inr (Or.inr (Or.inr z))))) (by rw [t_1] at c; exact c) r23)
      · rw [dRun_end (Or.inr w)] at hR
        rw [hR] at cy hd
        exact hq _ _ _ _ _ _ _ _ _ _ cy hd
    · rw [dRun_end (Or.inl h0)] at hR
      rw [hR] at hm hd
      exact hq _ _ _ _ _ _ _ _ _ _ hm hd
end TN
end
section
/-! what a down's text without a fault tells is within its bounds -/
def dOk (d : dT) : Prop := (d.2.1 ≤ 8 ∧ d.2.2.1 ≤ 6 ∧ d.2.2.2.1 ≤ 4) ∧ (∀ j : Nat, j < 2 * d.2.1 → 0 ≤ d.2.2.2.2.1 j ∧ d.2.2.2.2.1 j ≤ 30) ∧ (∀ j : Nat, j < d.2.2.1 → 0 ≤ d.2.2.2.2.2.1 (2 * j) ∧ d.2.2.2.2.2.1 (2 * j) < d.2.1 ∧ 1 ≤ d.2.2.2.2.2.1 (2 * j + 1) ∧ d.2.2.2.2.2.1 (2 * j + 1) ≤ 9) ∧ (∀ j : Nat, j < 2 * d.2.2.2.1 → 0 ≤ d.2.2.2.2.2.2.1 j ∧ d.2.2.2.2.2.2.1 j ≤ 30) ∧ (∀ x y : Nat, x < 6 → y < 6 → 0 ≤ d.2.2.2.2.2.2.2 (6 * x + y) ∧ d.2.2.2.2.2.2.2 (6 * x + y) ≤ 99 ∧ (d.2.2.2.2.2.2.2 (6 * x + y) ≠ 0 → x < d.2.2.1 ∧ y < d.2.2.1 ∧ x ≠ y))
section TO
variable {n : Nat} {b : Nat → Int} {st : sT}
theorem dOk_step {i NF NH NX : Nat} {F H G D : Nat → Int} (h0 : st.1 = 0) (h : dOk (st, NF, NH, NX, F, H, G, D)) (hz : (dStep n b i st NF NH NX F H G D).1.1 = 0) : dOk (dStep n b i st NF NH NX F H G D) := by
  have h : (NF ≤ 8 ∧ NH ≤ 6 ∧ NX ≤ 4) ∧ (∀ j : Nat, j < 2 * NF → 0 ≤ F j ∧ F j ≤ 30) ∧ (∀ j : Nat, j < NH → 0 ≤ H (2 * j) ∧ H (2 * j) < NF ∧ 1 ≤ H (2 * j + 1) ∧ H (2 * j + 1) ≤ 9) ∧ (∀ j : Nat, j < 2 * NX → 0 ≤ G j ∧ G j ≤ 30) ∧ (∀ x y : Nat, x < 6 → y < 6 → 0 ≤ D (6 * x + y) ∧ D (6 * x + y) ≤ 99 ∧ (D (6 * x + y) ≠ 0 → x < NH ∧ y < NH ∧ x ≠ y)) := h
  obtain ⟨⟨k1, k2, k3⟩, h1, h2, h3, h4⟩ := h
  by_cases w1 : pw n b (sk n b st.2.2) = 212557
  · rw [ds_form w1] at hz ⊢
    by_cases g : i = 60 ∨ NF = 8
    · rw [if_pos g] at hz
      rw [fS_0 h0] at hz
      exact absurd hz (by first | decide | simp)
    · rw [if_neg g] at hz ⊢
      have hz : (twS n b 0 30 0 30 (wE n b st)).1 = 0 := hz
      obtain ⟨z1, z2⟩ := twS_fine hz
      obtain ⟨-, a1, a2⟩ := nS_fine z1
      obtain ⟨-, a3, a4⟩ := nS_fine z2
      refine ⟨⟨by show NF + 1 ≤ 8; omega, k2, k3⟩, fun j hj => ?_, fun j hj => ?_, h3, h4⟩
      · have hj : j < 2 * (NF + 1) := hj
        show 0 ≤ iu (iu F (2 * NF) _) (2 * NF + 1) _ j ∧ iu (iu F (2 * NF) _) (2 * NF + 1) _ j ≤ 30
        by_cases e : j = 2 * NF + 1
        · rw [e, iu_s]; exact ⟨a3, a4⟩
        · rw [iu_n e]
          by_cases e2 : j = 2 * NF
          · rw [e2, iu_s]; exact ⟨a1, a2⟩
          · rw [iu_n e2]; exact h1 j (by omega)
      · obtain ⟨b1, b2, b3, b4⟩ := h2 j hj
        exact ⟨b1, by show H (2 * j) < ((NF + 1 : Nat) : Int); omega, b3, b4⟩
  by_cases w2 : pw n b (sk n b st.2.2) = 263749
  · rw [ds_hare w2] at hz ⊢
    by_cases g : i = 60 ∨ NH = 6
    · rw [if_pos g] at hz
      rw [fS_0 h0] at hz
      exact absurd hz (by first | decide | simp)
    · rw [if_neg g] at hz ⊢
      have hz : (twS n b 0 ((NF : Int) - 1) 1 9 (wE n b st)).1 = 0 := hz
      obtain ⟨z1, z2⟩ := twS_fine hz
      obtain ⟨-, a1, a2⟩ := nS_fine z1
      obtain ⟨-, a3, a4⟩ := nS_fine z2
      refine ⟨⟨k1, by show NH + 1 ≤ 6; omega, k3⟩, h1, fun j hj => ?_, h3, fun x y hx hy => ?_⟩
      · have hj : j < NH + 1 := hj
        show 0 ≤ iu (iu H (2 * NH) _) (2 * NH + 1) _ (2 * j) ∧ iu (iu H (2 * NH) _) (2 * NH + 1) _ (2 * j) < NF ∧ 1 ≤ iu (iu H (2 * NH) _) (2 * NH + 1) _ (2 * j + 1) ∧ iu (iu H (2 * NH) _) (2 * NH + 1) _ (2 * j + 1) ≤ 9
        by_cases e : j = NH
        · rw [e, iu_s, iu_n (by omega), iu_s]; exact ⟨a1, by omega, a3, a4⟩
        · rw [iu_n (by omega), iu_n (by omega), iu_n (by omega), iu_n (by omega)]; exact h2 j (by omega)
      · obtain ⟨b1, b2, b3⟩ := h4 x y hx hy
        refine ⟨b1, b2, fun e => ?_⟩
        obtain ⟨c1, c2, c3⟩ := b3 e
        exact ⟨by show x < NH + 1; omega, by show y < NH + 1; omega, c3⟩
  by_cases w3 : pw n b (sk n b st.2.2) = 6648
  · rw [ds_fox w3] at hz ⊢
    by_cases g : i = 60 ∨ NX = 4
    · rw [if_pos g] at hz
      rw [fS_0 h0] at hz
      exact absurd hz (by first | decide | simp)
    · rw [if_neg g] at hz ⊢
      have hz : (twS n b 0 30 0 30 (wE n b st)).1 = 0 := hz
      obtain ⟨z1, z2⟩ := twS_fine hz
      obtain ⟨-, a1, a2⟩ := nS_fine z1
      obtain ⟨-, a3, a4⟩ := nS_fine z2
      refine ⟨⟨k1, k2, by show NX + 1 ≤ 4; omega⟩, h1, h2, fun j hj => ?_, h4⟩
      have hj : j < 2 * (NX + 1) := hj
      show 0 ≤ iu (iu G (2 * NX) _) (2 * NX + 1) _ j ∧ iu (iu G (2 * NX) _) (2 * NX + 1) _ j ≤ 30
      by_cases e : j = 2 * NX + 1
      · rw [e, iu_s]; exact ⟨a3, a4⟩
      · rw [iu_n e]
        by_cases e2 : j = 2 * NX
        · rw [e2, iu_s]; exact ⟨a1, a2⟩
        · rw [iu_n e2]; exact h3 j (by omega)
  by_cases w4 : pw n b (sk n b st.2.2) = 136276
  · rw [ds_debt w4] at hz ⊢
    by_cases g : i = 60
    · rw [if_pos g] at hz
      rw [fS_0 h0] at hz
      exact absurd hz (by first | decide | simp)
    · rw [if_neg g] at hz ⊢
      have hz : (dbS n b NH (wE n b st)).1 = 0 := hz
      obtain ⟨z1, z2, z3, z4⟩ := dbS_fine hz
      obtain ⟨-, a1, a2⟩ := nS_fine (lo := 0) (hi := (NH : Int) - 1) (st := wE n b st) z4
      obtain ⟨-, a3, a4⟩ := nS_fine (lo := 0) (hi := (NH : Int) - 1) (st := nS n b 0 ((NH : Int) - 1) (wE n b st)) z3
      obtain ⟨-, a5, a6⟩ := nS_fine (lo := 0) (hi := 99) (st := dbB n b NH (wE n b st)) z1
      have ne : ¬ nV n b (wE n b st) = nV n b (nS n b 0 ((NH : Int) - 1) (wE n b st)) := fun e => by
        rw [dbB_eq e, fS_0 z3] at z2
        exact absurd z2 (by first | decide | simp)
      refine ⟨⟨k1, k2, k3⟩, h1, h2, h3, fun x y hx hy => ?_⟩
      show 0 ≤ iu D _ _ (6 * x + y) ∧ iu D _ _ (6 * x + y) ≤ 99 ∧ (iu D _ _ (6 * x + y) ≠ 0 → x < NH ∧ y < NH ∧ x ≠ y)
      by_cases e : 6 * x + y = (6 * nV n b (wE n b st) + nV n b (nS n b 0 ((NH : Int) - 1) (wE n b st))).toNat
      · rw [e, iu_s]
        exact ⟨a5, a6, fun _ => ⟨by omega, by omega, by omega⟩⟩
      · rw [iu_n e]; exact h4 x y hx hy
  · rw [ds_none w1 w2 w3 w4] at hz
    rw [fS_0 h0] at hz
    exact absurd hz (by first | decide | simp)
theorem dOk_run : ∀ (k i : Nat) (d : dT), (d.1.1 = 0 → dOk d) → (dRun n b k i d).1.1 = 0 → dOk (dRun n b k i d) := by
  intro k
  induction k with
  | zero => intro i d h hz; exact h hz
  | succ k ih =>
    intro i d h hz
    by_cases e : d.1.1 ≠ 0 ∨ ¬ sk n b d.1.2.2 < n
    · rw [dRun_end e] at hz ⊢
      exact h hz
    · have h0 : d.1.1 = 0 := by
        by_cases w : d.1.1 = 0
        · exact w
        · exact absurd (Or.inl w) e
      have h1 : sk n b d.1.2.2 < n := by
        by_cases w : sk n b d.1.2.2 < n
        · exact w
        · exact absurd (Or.inr w) e
      obtain ⟨st, NF, NH, NX, F, H, G, D⟩ := d
      rw [dRun_go h0 h1] at hz ⊢
      exact ih (i + 1) _ (dOk_step h0 (h h0)) hz
theorem dOk_all (hz : (dAll n b).1.1 = 0) : dOk (dAll n b) :=
  dOk_run 61 0 _ (fun _ => ⟨⟨by decide, by decide, by decide⟩, fun j hj => absurd hj (Nat.not_lt_zero j), fun j hj => absurd hj (Nat.not_lt_zero j), fun j hj => absurd hj (Nat.not_lt_zero j), fun x y _ _ => ⟨Int.le_refl _, (show (0 : Int) ≤ 99 by decide), fun e => absurd rfl e⟩⟩) hz
end TO
end
section
/-! feeding: the bytes that both tapes hold -/
def sh8 (v : Int32) (i : Nat) : Int32 := v >>> (Int32.ofNat (24 - 8 * i) &&& 31)
def cb (v : Int32) (i : Nat) : Int32 := vp_nar .byte ((sh8 v i).toInt8.toInt32)
def mb (v : Int32) (i : Nat) : Int32 := (sh8 v i) &&& 255
theorem t_and255 {y : Int32} : 0 ≤ (y &&& 255).toInt ∧ (y &&& 255).toInt < 256 ∧ (y &&& 255).toInt = y.toInt % 256 := by
  have h : (y &&& 255).toBitVec.toNat = y.toBitVec.toNat % 256 := by
    rw [t_andn]
    show y.toBitVec.toNat &&& 255 = _
    exact Nat.and_two_pow_sub_one_eq_mod _ 8
  have e := t_ofn (x := y &&& 255) (by rw [h]; omega)
  have hy : y.toInt = (y.toBitVec.toNat : Int) ∨ y.toInt = (y.toBitVec.toNat : Int) - 4294967296 := by
    have h2 : y.toInt = y.toBitVec.toInt := rfl
    rw [h2, BitVec.toInt_eq_toNat_cond]
    by_cases c : 2 * y.toBitVec.toNat < 2 ^ 32
    · rw [if_pos c]; exact Or.inl rfl
    · rw [if_neg c]; exact Or.inr rfl
  rw [h] at e
  omega
theorem cb_mb (v : Int32) (i : Nat) : cR (cb v i) (mb v i).toInt := by
  unfold cb mb
  generalize sh8 v i = y
  obtain ⟨h1, h2, h3⟩ := t_and255 (y := y)
  rw [vp_nar_byte]
  have e1 : (y.toInt8.toInt32).toInt = y.toInt.bmod 256 := by rw [Int8.toInt_toInt32, Int32.toInt_toInt8]
  have e2 : ((y.toInt8.toInt32).toInt8.toInt32).toInt = (y.toInt.bmod 256).bmod 256 := by rw [Int8.toInt_toInt32, Int32.toInt_toInt8, e1]
  rw [Int.bmod_bmod] at e2
  unfold cR
  rw [e2]
  have e3 : y.toInt.bmod 256 = if y.toInt % 256 < 128 then y.toInt % 256 else y.toInt % 256 - 256 := rfl
  rw [e3]
  by_cases c : y.toInt % 256 < 128
  · rw [if_pos c]; exact ⟨h1, Or.inl h3.symm⟩
  · rw [if_neg c]; exact ⟨h1, Or.inr ⟨by omega, by omega⟩⟩
theorem mb_mb (v : Int32) (i : Nat) : cR (mb v i) (mb v i).toInt := ⟨(t_and255 (y := sh8 v i)).1, Or.inl rfl⟩
def w5 (a b c d e : Int32) (k : Nat) : Int32 := if k = 0 then a else if k = 1 then b else if k = 2 then c else if k = 3 then d else e
theorem x_put {Q : (Nat → Int32) → Int32 → Prop} {v : Int32} {p : Nat} {f0 : Nat → Int32} (hp : p ≤ 596) (hq : ∀ (f : Nat → Int32) (x : Int32), x.toInt = ((p + 4 : Nat) : Int) → (∀ j : Nat, f j = if p ≤ j ∧ j < p + 4 then cb v (j - p) else f0 j) → Q f x) :
    ∀ (k : Nat) (f : Nat → Int32) (fi sh : Int32) (i : Nat), i ≤ 4 → fi.toInt = ((p + i : Nat) : Int) → sh.toInt = 24 - 8 * (i : Int) → (∀ j : Nat, f j = if p ≤ j ∧ j < p + i then cb v (j - p) else f0 j) → 4 - i < k → wl_X8_put_3 Q k f fi v sh := by
  intro k
  induction k with
  | zero => intro f fi sh i h1 h2 h3 h4 h5; omega
  | succ k ih =>
    intro f fi sh i h1 h2 h3 h4 h5
    refine ⟨fun c => ?_, fun c => ⟨fun c2 => ?_, fun c2 x3 e3 => ⟨t_in (by omega) (by rw [t_lt, t_0] at c; omega), fun f4 e4 x5 e5 x6 e6 => ?_⟩⟩⟩
    · rw [t_lt, t_0] at c
      have ei : i = 4 := by omega
      rw [ei] at h2 h4
      exact hq f fi h2 h4
    · rw [t_lt, t_0] at c
      rw [t_le, t_600] at c2
      omega
    · rw [t_lt, t_0] at c
      have hi : i < 4 := by omega
      have a5 : x5.toInt = ((p + (i + 1) : Nat) : Int) := by rw [e5, t_inc (by omega), h2]; omega
      have a6 : x6.toInt = 24 - 8 * ((i + 1 : Nat) : Int) := by rw [e6, t_add (by rw [t_m8]; omega) (by rw [t_m8]; omega), t_m8]; omega
      refine ih f4 x5 x6 (i + 1) (by omega) a5 a6 (fun j => ?_) (by omega)
      rw [e4, t_clamp h2]
      have es : sh = Int32.ofNat (24 - 8 * i) := by
        rw [t_eq, h3, Int32.toInt_ofNat_of_lt (by omega)]; omega
      by_cases z : j = p + i
      · rw [z, pk_us, if_pos ⟨by omega, by omega⟩, e3, es, show p + i - p = i by omega]; rfl
      · rw [pk_un z, h4 j]
        by_cases z2 : p ≤ j ∧ j < p + i
        · rw [if_pos z2, if_pos ⟨z2.1, by omega⟩]
        · rw [if_neg z2, if_neg (by omega)]
theorem x_X8_put {Q : (Nat → Int32) → Int32 → Prop} {v fi : Int32} {f : Nat → Int32} {p : Nat} (h0 : fi.toInt = p) (hp : p ≤ 596) (hq : ∀ (g : Nat → Int32) (x : Int32), x.toInt = ((p + 4 : Nat) : Int) → (∀ j : Nat, g j = if p ≤ j ∧ j < p + 4 then cb v (j - p) else f j) → Q g x) : wq_X8_put f fi v Q :=
  ⟨5, x_put hp hq 5 f fi 24 0 (by omega) h0 (by decide) (fun j => by rw [if_neg (by omega)]) (by omega)⟩
/-- the bytes behind a feeding -/
def fB (p : Nat) (a b c d e : Int32) (t : Nat → Int) : Nat → Int := fun j => if p ≤ j ∧ j < p + 20 then (mb (w5 a b c d e ((j - p) / 4)) ((j - p) % 4)).toInt else t j
theorem x_X10_feed {f : Nat → Int32} {fi a b c d e : Int32} {p : Nat} {t : Nat → Int} {Q : Int32 → (Nat → Int32) → Int32 → Prop} (h0 : fi.toInt = p) (h1 : p ≤ 600) (ht : tB p f t)
    (q1 : p ≤ 580 → ∀ (r : Int32) (g : Nat → Int32), r.toInt = ((p + 20 : Nat) : Int) → tB (p + 20) g (fB p a b c d e t) → Q r g r) (q0 : 580 < p → Q (-1) f fi) : wq_X10_feed f fi a b c d e Q := by
  have e20 : (fi + 20).toInt = fi.toInt + 20 := by rw [t_add (by rw [t_20]; omega) (by rw [t_20]; omega), t_20]
  refine ⟨fun c0 => ⟨fun c => absurd rfl c, fun _ => q0 ?_⟩, fun c0 => ⟨fun _ => ?_, fun c => absurd c (by decide)⟩⟩
  · rw [t_lt, t_600, e20] at c0; omega
  · rw [t_lt, t_600, e20] at c0
    refine x_X8_put h0 (by omega) (fun g1 x1 y1 z1 => x_X8_put y1 (by omega) (fun g2 x2 y2 z2 => x_X8_put y2 (by omega) (fun g3 x3 y3 z3 => x_X8_put y3 (by omega) (fun g4 x4 y4 z4 => x_X8_put y4 (by omega) (fun g5 x5 y5 z5 => q1 (by omega) x5 g5 (by rw [y5]) (fun j hj => ?_))))))
    rw [z5 j, z4 j, z3 j, z2 j, z1 j]
    unfold fB
    by_cases k0 : p ≤ j
    · rw [if_pos (⟨k0, hj⟩ : p ≤ j ∧ j < p + 20)]
      by_cases k5 : p + 4 + 4 + 4 + 4 ≤ j
      · rw [if_pos ⟨k5, by omega⟩, show (j - p) / 4 = 4 by omega, show (j - p) % 4 = j - (p + 4 + 4 + 4 + 4) by omega]
        exact cb_mb e _
      rw [if_neg (by omega)]
      by_cases k4 : p + 4 + 4 + 4 ≤ j
      · rw [if_pos ⟨k4, by omega⟩, show (j - p) / 4 = 3 by omega, show (j - p) % 4 = j - (p + 4 + 4 + 4) by omega]
        exact cb_mb d _
      rw [if_neg (by omega)]
      by_cases k3 : p + 4 + 4 ≤ j
      · rw [if_pos ⟨k3, by omega⟩, show (j - p) / 4 = 2 by omega, show (j - p) % 4 = j - (p + 4 + 4) by omega]
        exact cb_mb c _
      rw [if_neg (by omega)]
      by_cases k2 : p + 4 ≤ j
      · rw [if_pos ⟨k2, by omega⟩, show (j - p) / 4 = 1 by omega, show (j - p) % 4 = j - (p + 4) by omega]
        exact cb_mb b _
      rw [if_neg (by omega), if_pos ⟨k0, by omega⟩, show (j - p) / 4 = 0 by omega, show (j - p) % 4 = j - p by omega]
      exact cb_mb a _
    · rw [if_neg (by omega), if_neg (by omega), if_neg (by omega), if_neg (by omega), if_neg (by omega), if_neg (by omega)]
      exact ht j (by omega)
theorem y_fl {Q : Int32 → Int32 → (Nat → Int32) → Int32 → Prop} {a b c d e th : Int32} {p : Nat} {f0 : Nat → Int32} (hp : p ≤ 580) (hq : ∀ (g : Nat → Int32) (x : Int32), x.toInt = ((p + 20 : Nat) : Int) → (∀ j : Nat, g j = if p ≤ j ∧ j < p + 20 then mb (w5 a b c d e ((j - p) / 4)) ((j - p) % 4) else f0 j) → Q x th g x) :
    ∀ (k : Nat) (f : Nat → Int32) (tp l6 : Int32) (i : Nat), i ≤ 20 → l6.toInt = i → tp.toInt = ((p + i : Nat) : Int) → (∀ j : Nat, f j = if p ≤ j ∧ j < p + i then mb (w5 a b c d e ((j - p) / 4)) ((j - p) % 4) else f0 j) → 20 - i < k → wl_X11_feed_23 Q k th f tp a b c d e l6 := by
  intro k
  induction k with
  | zero => intro f tp l6 i h1 h2 h3 h4 h5; omega
  | succ k ih =>
    intro f tp l6 i h1 h2 h3 h4 h5
    have go : ∀ s0 : Int32, i < 20 → s0 = w5 a b c d e (i / 4) → wb_X11_feed_76 Q (fun v0_thrown f0_tape v0_taped l1 l2 l3 l4 l5 l6 => wl_X11_feed_23 Q k v0_thrown f0_tape v0_taped l1 l2 l3 l4 l5 l6) th f tp a b c d e l6 s0 := fun s0 hi es x7 e7 x8 e8 => by
      have d4 : (l6 / 4).toInt = ((i / 4 : Nat) : Int) := by
        have hc : l6 = 0 ∨ l6 = 1 ∨ l6 = 2 ∨ l6 = 3 ∨ l6 = 4 ∨ l6 = 5 ∨ l6 = 6 ∨ l6 = 7 ∨ l6 = 8 ∨ l6 = 9 ∨ l6 = 10 ∨ l6 = 11 ∨ l6 = 12 ∨ l6 = 13 ∨ l6 = 14 ∨ l6 = 15 ∨ l6 = 16 ∨ l6 = 17 ∨ l6 = 18 ∨ l6 = 19 := by
          have hh : ∀ y : Fin 20, (Int32.ofNat y.val) = 0 ∨ (Int32.ofNat y.val) = 1 ∨ (Int32.ofNat y.val) = 2 ∨ (Int32.ofNat y.val) = 3 ∨ (Int32.ofNat y.val) = 4 ∨ (Int32.ofNat y.val) = 5 ∨ (Int32.ofNat y.val) = 6 ∨ (Int32.ofNat y.val) = 7 ∨ (Int32.ofNat y.val) = 8 ∨ (Int32.ofNat y.val) = 9 ∨ (Int32.ofNat y.val) = 10 ∨ (Int32.ofNat y.val) = 11 ∨ (Int32.ofNat y.val) = 12 ∨ (Int32.ofNat y.val) = 13 ∨ (Int32.ofNat y.val) = 14 ∨ (Int32.ofNat y.val) = 15 ∨ (Int32.ofNat y.val) = 16 ∨ (Int32.ofNat y.val) = 17 ∨ (Int32.ofNat y.val) = 18 ∨ (Int32.ofNat y.val) = 19 := by decide
          have e := hh ⟨i, hi⟩
          rw [show l6 = Int32.ofNat i by rw [t_eq, h2, Int32.toInt_ofNat_of_lt (by omega)]]
          exact e
        have hd : ∀ y : Fin 20, ((Int32.ofNat y.val) / 4).toInt = ((y.val / 4 : Nat) : Int) := by decide
        rw [show l6 = Int32.ofNat i by rw [t_eq, h2, Int32.toInt_ofNat_of_lt (by omega)]]
        exact hd ⟨i, hi⟩
      have m4 : (l6 / 4 * 4).toInt = ((i / 4 * 4 : Nat) : Int) := by rw [t_mul (by rw [t_4]; omega) (by rw [t_4]; omega), d4, t_4]; omega
      have a7 : x7.toInt = ((i % 4 : Nat) : Int) := by rw [e7, t_sub (by omega) (by omega), m4, h2]; omega
      have m8 : (8 * x7).toInt = 8 * x7.toInt := by rw [t_mul (by rw [t_8]; omega) (by rw [t_8]; omega), t_8]
      have s24 : (24 - 8 * x7 : Int32) = Int32.ofNat (24 - 8 * (i % 4)) := by
        rw [t_eq, t_sub (by rw [t_24, m8]; omega) (by rw [t_24, m8]; omega), t_24, m8, Int32.toInt_ofNat_of_lt (by omega)]; omega
      refine ⟨t_in (by omega) (by omega), fun f9 e9 x10 e10 x11 e11 => ?_⟩
      have a10 : x10.toInt = ((p + (i + 1) : Nat) : Int) := by rw [e10, t_inc (by omega), h3]; omega
      have a11 : x11.toInt = ((i + 1 : Nat) : Int) := by rw [e11, t_inc (by omega), h2]; omega
      refine ih f9 x10 x11 (i + 1) (by omega) a11 a10 (fun j => ?_) (by omega)
      rw [e9, t_clamp h3]
      by_cases z : j = p + i
      · rw [z, pk_us, if_pos ⟨by omega, by omega⟩, show p + i - p = i by omega, e8, s24, es]; rfl
      · rw [pk_un z, h4 j]
        by_cases z2 : p ≤ j ∧ j < p + i
        · rw [if_pos z2, if_pos ⟨z2.1, by omega⟩]
        · rw [if_neg z2, if_neg (by omega)]
    have wv : ∀ q : Nat, i / 4 = q → w5 a b c d e (i / 4) = w5 a b c d e q := fun q hq => by rw [hq]
    refine ⟨fun c => ?_, fun c => ⟨fun c4 => ⟨fun c8 => ⟨fun c12 => ⟨fun c16 => ?_, fun c16 => ?_⟩, fun c12 => ?_⟩, fun c8 => ?_⟩, fun c4 => ?_⟩⟩
    · rw [t_le, t_20] at c
      have ei : i = 20 := by omega
      rw [ei] at h3 h4
      exact hq f tp h3 h4
    · rw [t_le, t_20] at c
      rw [t_le, t_16] at c16
      exact go _ (by omega) (wv 4 (by omega)).symm
    · rw [t_le, t_12] at c12
      rw [t_le, t_16] at c16
      exact go _ (by omega) (wv 3 (by omega)).symm
    · rw [t_le, t_8] at c8
      rw [t_le, t_12] at c12
      exact go _ (by omega) (wv 2 (by omega)).symm
    · rw [t_le, t_4] at c4
      rw [t_le, t_8] at c8
      exact go _ (by omega) (wv 1 (by omega)).symm
    · rw [t_le, t_4] at c4
      exact go _ (by omega) (wv 0 (by omega)).symm
theorem y_X11_feed {f : Nat → Int32} {th tp a b c d e : Int32} {p : Nat} {t : Nat → Int} {Q : Int32 → Int32 → (Nat → Int32) → Int32 → Prop} (h0 : tp.toInt = p) (h1 : p ≤ 600) (ht : tB p f t)
    (q1 : p ≤ 580 → ∀ (r : Int32) (g : Nat → Int32), r.toInt = ((p + 20 : Nat) : Int) → tB (p + 20) g (fB p a b c d e t) → Q r 0 g r) (q0 : 580 < p → Q (-1) 0 f tp) : wq_X11_feed th f tp a b c d e Q := by
  have e20 : (tp + 20).toInt = tp.toInt + 20 := by rw [t_add (by rw [t_20]; omega) (by rw [t_20]; omega), t_20]
  refine ⟨fun c0 => ⟨21, y_fl (by rw [t_le, t_600, e20] at c0; omega) (fun g x ex hg => q1 (by rw [t_le, t_600, e20] at c0; omega) x g ex (fun j hj => ?_)) 21 f tp 0 0 (by omega) t_0 h0 (fun j => by rw [if_neg (by omega)]) (by omega)⟩, fun c0 => q0 (by rw [t_le, t_600, e20] at c0; omega)⟩
  rw [hg j]
  unfold fB
  by_cases k0 : p ≤ j
  · rw [if_pos ⟨k0, hj⟩, if_pos ⟨k0, hj⟩]
    exact mb_mb _ _
  · rw [if_neg (by omega), if_neg (by omega)]
    exact ht j (by omega)
end
section
/-! a down taken over: the reference's state, word by word -/
/-- the reference's row of a new March -/
def ni (h : Nat) (ha db : Nat → Int32) (j : Nat) : Int32 := if j = 66 then 1 else if 30 ≤ j then (if j < 66 then db (j - 30) else 0) else if j < 6 then (if j < h then ha (2 * j) else 0) else if j < 12 then (if j - 6 < h then ha (2 * (j - 6) + 1) else 0) else 0
abbrev sQ := Int32 → Int32 → Int32 → (Nat → Int32) → (Nat → Int32) → (Nat → Int32) → Int32 → Int32 → Int32 → Int32 → Int32 → (Nat → Int32) → (Nat → Int32) → Prop
section TS
variable {nf nh nx : Int32} {fo ha fx db : Nat → Int32} {Q : sQ}
theorem m_sets186 {a1 a2 a3 c1 c2 c3 c4 c5 : Int32} {g1 g2 g3 bk n0 : Nat → Int32} (hq : ∀ nw : Nat → Int32, (∀ j : Nat, j < 68 → nw j = if j = 66 then 1 else if 30 ≤ j ∧ j < 66 then db (j - 30) else n0 j) → Q a1 a2 a3 g1 g2 g3 c1 c2 c3 c4 c5 bk nw) :
    ∀ (k : Nat) (nw : Nat → Int32) (l1 : Int32) (i : Nat), l1.toInt = i → i ≤ 36 → (∀ j : Nat, j < 68 → nw j = if 30 ≤ j ∧ j < 30 + i then db (j - 30) else n0 j) → 36 - i < k → wl_X11_sets_186 nf nh nx fo ha fx db Q k a1 a2 a3 g1 g2 g3 c1 c2 c3 c4 c5 bk nw l1 := by
  intro k
  induction k with
  | zero => intro nw l1 i h1 h2 h3 h4; omega
  | succ k ih =>
    intro nw l1 i h1 h2 h3 h4
    refine ⟨fun c f22 e22 => hq f22 (fun j hj => ?_), fun c x23 e23 => ?_⟩
    · rw [t_le, t_36] at c
      have ei : i = 36 := by omega
      rw [e22, show (66 : Int32).toNatClampNeg = 66 by decide]
      by_cases z : j = 66
      · rw [z, pk_us, if_pos rfl]
      · rw [pk_un z, if_neg z, h3 j hj, ei]
    · rw [t_le, t_36] at c
      have e1 : x23.toInt = ((30 + i : Nat) : Int) := by rw [e23, t_add (by rw [t_30]; omega) (by rw [t_30]; omega), t_30, h1]; omega
      refine ⟨t_in (by omega) (by omega), fun x24 e24 => ⟨t_in (by omega) (by omega), fun f25 e25 x26 e26 => ?_⟩⟩
      have e2 : x26.toInt = ((i + 1 : Nat) : Int) := by rw [e26, t_inc (by omega), h1]; omega
      refine ih f25 x26 (i + 1) e2 (by omega) (fun j hj => ?_) (by omega)
      rw [e25, t_clamp e1]
      by_cases z : j = 30 + i
      · rw [z, pk_us, if_pos ⟨by omega, by omega⟩, e24, t_clamp h1, show 30 + i - 30 = i by omega]
      · rw [pk_un z, h3 j hj]
        by_cases z2 : 30 ≤ j ∧ j < 30 + i
        · rw [if_pos z2, if_pos ⟨z2.1, by omega⟩]
        · rw [if_neg z2, if_neg (by omega)]
theorem m_sets135 {a1 a2 a3 c1 c2 c3 c4 c5 : Int32} {g1 g2 g3 bk : Nat → Int32} {NH : Nat} (m1 : a2.toInt = NH) (m2 : NH ≤ 6) (hq : ∀ nw : Nat → Int32, (∀ j : Nat, j < 68 → nw j = ni NH g2 db j) → Q a1 a2 a3 g1 g2 g3 c1 c2 c3 c4 c5 bk nw) :
    ∀ (k : Nat) (nw : Nat → Int32) (l1 : Int32) (i : Nat), l1.toInt = i → i ≤ NH → (∀ j : Nat, j < 68 → nw j = if j < i then g2 (2 * j) else if 6 ≤ j ∧ j < 6 + i then g2 (2 * (j - 6) + 1) else 0) → 6 - i < k → wl_X11_sets_135 nf nh nx fo ha fx db Q k a1 a2 a3 g1 g2 g3 c1 c2 c3 c4 c5 bk nw l1 := by
  intro k
  induction k with
  | zero => intro nw l1 i h1 h2 h3 h4; omega
  | succ k ih =>
    intro nw l1 i h1 h2 h3 h4
    refine ⟨fun c => ⟨37, m_sets186 (n0 := nw) (fun n9 h9 => hq n9 (fun j hj => ?_)) 37 nw 0 0 t_0 (by omega) (fun j hj => by rw [if_neg (by omega)]) (by omega)⟩, fun c x11 e11 x12 e12 => ?_⟩
    · rw [t_le] at c
      have ei : i = NH := by omega
      rw [h9 j hj, h3 j hj, ei]
      unfold ni
      by_cases z1 : j = 66
      · rw [if_pos z1, if_pos z1]
      rw [if_neg z1, if_neg z1]
      by_cases z2 : 30 ≤ j
      · rw [if_pos z2]
        by_cases z3 : j < 66
        · rw [if_pos z3, if_pos ⟨z2, z3⟩]
        · rw [if_neg z3, if_neg (by omega), if_neg (by omega), if_neg (by omega)]
      rw [if_neg z2, if_neg (fun w => z2 w.1)]
      by_cases z4 : j < 6
      · rw [if_pos z4]
        by_cases z5 : j < NH
        · rw [if_pos z5, if_pos z5]
        · rw [if_neg z5, if_neg z5, if_neg (by omega)]
      rw [if_neg z4, if_neg (by omega)]
      by_cases z6 : j < 12
      · rw [if_pos z6]
        by_cases z7 : j - 6 < NH
        · rw [if_pos z7, if_pos ⟨by omega, by omega⟩]
        · rw [if_neg z7, if_neg (by omega)]
      · rw [if_neg z6, if_neg (by omega)]
    · rw [t_le] at c
      have b1 : x11.toInt = ((i : Nat) : Int) := by rw [e11, t_add (by rw [t_0]; omega) (by rw [t_0]; omega), t_0, h1]; omega
      have b2 : x12.toInt = ((2 * i : Nat) : Int) := by rw [e12]; exact t_dbl h1 (by omega)
      refine ⟨t_in (by omega) (by omega), fun x13 e13 => ⟨t_in (by omega) (by omega), fun f14 e14 x15 e15 x16 e16 x17 e17 => ?_⟩⟩
      have b3 : x15.toInt = ((6 + i : Nat) : Int) := by rw [e15, t_add (by rw [t_6]; omega) (by rw [t_6]; omega), t_6, h1]; omega
      have b4 : x17.toInt = ((2 * i + 1 : Nat) : Int) := by rw [e17]; exact t_dbl1 (by rw [e16]; exact t_dbl h1 (by omega)) (by omega)
      refine ⟨t_in (by omega) (by omega), fun x18 e18 => ⟨t_in (by omega) (by omega), fun f19 e19 x20 e20 => ?_⟩⟩
      have b5 : x20.toInt = ((i + 1 : Nat) : Int) := by rw [e20, t_inc (by omega), h1]; omega
      refine ih f19 x20 (i + 1) b5 (by omega) (fun j hj => ?_) (by omega)
      rw [e19, t_clamp b3]
      by_cases z : j = 6 + i
      · rw [z, pk_us, if_neg (by omega), if_pos ⟨by omega, by omega⟩, e18, t_clamp b4, show 6 + i - 6 = i by omega]
      · rw [pk_un z, e14, t_clamp b1]
        by_cases z2 : j = i
        · rw [z2, pk_us, if_pos (by omega), e13, t_clamp b2]
        · rw [pk_un z2, h3 j hj]
          by_cases z3 : j < i
          · rw [if_pos z3, if_pos (show j < i + 1 by omega)]
          · rw [if_neg z3, if_neg (show ¬ j < i + 1 by omega)]
            by_cases z4 : 6 ≤ j ∧ j < 6 + i
            · rw [if_pos z4, if_pos (show 6 ≤ j ∧ j < 6 + (i + 1) from ⟨z4.1, by omega⟩)]
            · rw [if_neg z4, if_neg (show ¬ (6 ≤ j ∧ j < 6 + (i + 1)) by omega)]
theorem m_sets114 {a1 a2 a3 c1 c2 c3 c4 c5 : Int32} {g1 g2 g3 bk : Nat → Int32} {NH : Nat} (m1 : a2.toInt = NH) (m2 : NH ≤ 6) (hq : ∀ nw : Nat → Int32, (∀ j : Nat, j < 68 → nw j = ni NH g2 db j) → Q a1 a2 a3 g1 g2 g3 c1 c2 c3 c4 c5 bk nw) :
    ∀ (k : Nat) (nw : Nat → Int32) (l1 : Int32) (i : Nat), l1.toInt = i → i ≤ 68 → (∀ j : Nat, j < i → nw j = 0) → 68 - i < k → wl_X11_sets_114 nf nh nx fo ha fx db Q k a1 a2 a3 g1 g2 g3 c1 c2 c3 c4 c5 bk nw l1 := by
  intro k
  induction k with
  | zero => intro nw l1 i h1 h2 h3 h4; omega
  | succ k ih =>
    intro nw l1 i h1 h2 h3 h4
    refine ⟨fun c => ⟨7, m_sets135 m1 m2 hq 7 nw 0 0 t_0 (by omega) (fun j hj => ?_) (by omega)⟩, fun c => ?_⟩
    · rw [t_le, t_68] at c
      rw [if_neg (by omega), if_neg (by omega)]
      exact h3 j (by omega)
    · rw [t_le, t_68] at c
      refine ⟨t_in (by omega) (by omega), fun f8 e8 x9 e9 => ?_⟩
      have e2 : x9.toInt = ((i + 1 : Nat) : Int) := by rw [e9, t_inc (by omega), h1]; omega
      refine ih f8 x9 (i + 1) e2 (by omega) (fun j hj => ?_) (by omega)
      rw [e8, t_clamp h1]
      by_cases z : j = i
      · rw [z, pk_us]
      · rw [pk_un z]; exact h3 j (by omega)
theorem m_sets93 {a1 a2 a3 c1 c2 c3 c4 c5 : Int32} {g1 g2 g3 nw : Nat → Int32} {NH : Nat} (m1 : a2.toInt = NH) (m2 : NH ≤ 6) (hq : ∀ bk nw : Nat → Int32, (∀ j : Nat, j < 8 → bk j = -1) → (∀ j : Nat, j < 68 → nw j = ni NH g2 db j) → Q a1 a2 a3 g1 g2 g3 c1 c2 c3 c4 c5 bk nw) :
    ∀ (k : Nat) (bk : Nat → Int32) (l1 : Int32) (i : Nat), l1.toInt = i → i ≤ 8 → (∀ j : Nat, j < i → bk j = -1) → 8 - i < k → wl_X11_sets_93 nf nh nx fo ha fx db Q k a1 a2 a3 g1 g2 g3 c1 c2 c3 c4 c5 bk nw l1 := by
  intro k
  induction k with
  | zero => intro bk l1 i h1 h2 h3 h4; omega
  | succ k ih =>
    intro bk l1 i h1 h2 h3 h4
    refine ⟨fun c => ⟨69, m_sets114 m1 m2 (fun n9 h9 => hq bk n9 (fun j hj => ?_) h9) 69 nw 0 0 t_0 (by omega) (fun j hj => by omega) (by omega)⟩, fun c => ?_⟩
    · rw [t_le, t_8] at c
      exact h3 j (by omega)
    · rw [t_le, t_8] at c
      refine ⟨t_in (by omega) (by omega), fun f5 e5 x6 e6 => ?_⟩
      have e2 : x6.toInt = ((i + 1 : Nat) : Int) := by rw [e6, t_inc (by omega), h1]; omega
      refine ih f5 x6 (i + 1) e2 (by omega) (fun j hj => ?_) (by omega)
      rw [e5, t_clamp h1]
      by_cases z : j = i
      · rw [z, pk_us]
      · rw [pk_un z]; exact h3 j (by omega)
theorem m_sets {a1 a2 a3 c1 c2 c3 c4 c5 : Int32} {g1 g2 g3 bk nw : Nat → Int32} {NH : Nat} (m1 : nh.toInt = NH) (m2 : NH ≤ 6) (hq : ∀ g1 g2 g3 bk nw : Nat → Int32, (∀ j : Nat, j < 16 → g1 j = fo j) → (∀ j : Nat, j < 12 → g2 j = ha j) → (∀ j : Nat, j < 8 → g3 j = fx j) → (∀ j : Nat, j < 8 → bk j = -1) → (∀ j : Nat, j < 68 → nw j = ni NH g2 db j) → Q nf nh nx g1 g2 g3 0 0 0 0 0 bk nw) : wq_X11_sets nf nh nx fo ha fx db a1 a2 a3 g1 g2 g3 c1 c2 c3 c4 c5 bk nw Q := by
  refine sf_X11_copies (by decide) (by decide) (fun t1 h1 => sf_X11_copies (by decide) (by decide) (fun t2 h2 => sf_X11_copies (by decide) (by decide) (fun t3 h3 => ⟨9, m_sets93 m1 m2 (fun b9 n9 q1 q2 => hq t1 t2 t3 b9 n9 (fun j hj => ?_) (fun j hj => ?_) (fun j hj => ?_) q1 q2) 9 bk 0 0 t_0 (by omega) (fun j hj => by omega) (by omega)⟩)))
  · rw [h1 j, t_16, if_pos (by omega)]
  · rw [h2 j, t_12, if_pos (by omega)]
  · rw [h3 j, t_8, if_pos (by omega)]
end TS
end
section
/-! how far two forms lie -/
def iab (x : Int) : Int := if 0 ≤ x then x else -x
/-- the forms' way by the pairs -/
def fr (F : Nat → Int) (i j : Nat) : Int := iab (F (2 * i) - F (2 * j)) + iab (F (2 * i + 1) - F (2 * j + 1))
theorem iab_le {x m : Int} (h1 : -m ≤ x) (h2 : x ≤ m) : 0 ≤ iab x ∧ iab x ≤ m := by
  unfold iab
  by_cases c : 0 ≤ x
  · rw [if_pos c]; omega
  · rw [if_neg c]; omega
theorem t_iab {x y : Int32} (hx : 0 ≤ x.toInt ∧ x.toInt ≤ 30) (hy : 0 ≤ y.toInt ∧ y.toInt ≤ 30) : (if 0 ≤ x - y then x - y else 0 - (x - y)).toInt = iab (x.toInt - y.toInt) := by
  have e : (x - y).toInt = x.toInt - y.toInt := t_sub (by omega) (by omega)
  unfold iab
  by_cases c : 0 ≤ x - y
  · rw [if_pos c]
    rw [t_le, t_0, e] at c
    rw [if_pos c, e]
  · rw [if_neg c]
    rw [t_le, t_0, e] at c
    rw [if_neg c, t_sub (by rw [t_0, e]; omega) (by rw [t_0, e]; omega), t_0, e]; omega
theorem z_size {x y : Int32} {Q : Int32 → Prop} (hx : 0 ≤ x.toInt ∧ x.toInt ≤ 30) (hy : 0 ≤ y.toInt ∧ y.toInt ≤ 30) (hq : ∀ r : Int32, r.toInt = iab (x.toInt - y.toInt) → Q r) : wq_X11_size (x - y) Q := by
  have e : (x - y).toInt = x.toInt - y.toInt := t_sub (by omega) (by omega)
  refine ⟨fun c => hq _ ?_, fun c => hq _ ?_⟩
  · rw [t_le, t_0, e] at c
    unfold iab; rw [if_pos c, e]
  · rw [t_le, t_0, e] at c
    unfold iab
    rw [if_neg c, show (-(x - y) : Int32) = 0 - (x - y) by rw [Int32.zero_sub], t_sub (by rw [t_0, e]; omega) (by rw [t_0, e]; omega), t_0, e]; omega
section ZF
variable {NF : Nat} {X Y fo : Nat → Int32} {F : Nat → Int}
theorem fr_le (hF : ∀ j : Nat, j < 2 * NF → 0 ≤ F j ∧ F j ≤ 30) {i j : Nat} (hi : i < NF) (hj : j < NF) : 0 ≤ fr F i j ∧ fr F i j ≤ 60 := by
  have a1 := hF (2 * i) (by omega)
  have a2 := hF (2 * i + 1) (by omega)
  have a3 := hF (2 * j) (by omega)
  have a4 := hF (2 * j + 1) (by omega)
  have b1 := iab_le (x := F (2 * i) - F (2 * j)) (m := 30) (by omega) (by omega)
  have b2 := iab_le (x := F (2 * i + 1) - F (2 * j + 1)) (m := 30) (by omega) (by omega)
  unfold fr; omega
theorem z_apart {p q : Int32} {i j : Nat} {Q : Int32 → Prop} (hF : ∀ j : Nat, j < 2 * NF → 0 ≤ F j ∧ F j ≤ 30) (h8 : NF ≤ 8) (hp : pr NF X Y F) (ei : p.toInt = i) (hi : i < NF) (ej : q.toInt = j) (hj : j < NF) (hq : ∀ r : Int32, r.toInt = fr F i j → Q r) : wq_X2_apart X Y p q Q := by
  have a1 := hF (2 * i) (by omega)
  have a2 := hF (2 * i + 1) (by omega)
  have a3 := hF (2 * j) (by omega)
  have a4 := hF (2 * j + 1) (by omega)
  obtain ⟨c1, c2⟩ := hp i hi
  obtain ⟨c3, c4⟩ := hp j hj
  refine ⟨t_in (by omega) (by omega), fun x1 e1 => ⟨t_in (by omega) (by omega), fun x2 e2 x3 e3 => ⟨t_in (by omega) (by omega), fun x4 e4 => ⟨t_in (by omega) (by omega), fun x5 e5 x6 e6 => hq _ ?_⟩⟩⟩⟩
  rw [t_clamp ei] at e1 e4
  rw [t_clamp ej] at e2 e5
  rw [← e1] at c1
  rw [← e2] at c3
  rw [← e4] at c2
  rw [← e5] at c4
  have d3 : x3.toInt = iab (x1.toInt - x2.toInt) := by rw [e3]; exact t_iab (by omega) (by omega)
  have d6 : x6.toInt = iab (x4.toInt - x5.toInt) := by rw [e6]; exact t_iab (by omega) (by omega)
  rw [c1, c3] at d3
  rw [c2, c4] at d6
  have b := fr_le hF hi hj
  have b1 := iab_le (x := F (2 * i) - F (2 * j)) (m := 30) (by omega) (by omega)
  have b2 := iab_le (x := F (2 * i + 1) - F (2 * j + 1)) (m := 30) (by omega) (by omega)
  rw [t_add (by omega) (by omega), d3, d6]; rfl
theorem z_farOf {p q : Int32} {i j : Nat} {Q : Int32 → Prop} (hF : ∀ j : Nat, j < 2 * NF → 0 ≤ F j ∧ F j ≤ 30) (h8 : NF ≤ 8) (hp : pm (2 * NF) fo F) (ei : p.toInt = i) (hi : i < NF) (ej : q.toInt = j) (hj : j < NF) (hq : ∀ r : Int32, r.toInt = fr F i j → Q r) : wq_X11_farOf fo p q Q := by
  have a1 := hF (2 * i) (by omega)
  have a2 := hF (2 * i + 1) (by omega)
  have a3 := hF (2 * j) (by omega)
  have a4 := hF (2 * j + 1) (by omega)
  have c1 := hp (2 * i) (by omega)
  have c2 := hp (2 * i + 1) (by omega)
  have c3 := hp (2 * j) (by omega)
  have c4 := hp (2 * j + 1) (by omega)
  intro x1 e1
  have i1 : x1.toInt = ((2 * i : Nat) : Int) := by rw [e1]; exact t_dbl ei (by omega)
  refine ⟨t_in (by omega) (by omega), fun x2 e2 x3 e3 => ?_⟩
  have i3 : x3.toInt = ((2 * j : Nat) : Int) := by rw [e3]; exact t_dbl ej (by omega)
  refine ⟨t_in (by omega) (by omega), fun x4 e4 => ?_⟩
  rw [t_clamp i1] at e2
  rw [t_clamp i3] at e4
  rw [← e2] at c1
  rw [← e4] at c3
  refine z_size (by omega) (by omega) (fun r5 d5 x6 e6 x7 e7 => ?_)
  have i7 : x7.toInt = ((2 * i + 1 : Nat) : Int) := by rw [e7]; exact t_dbl1 (by rw [e6]; exact t_dbl ei (by omega)) (by omega)
  refine ⟨t_in (by omega) (by omega), fun x8 e8 x9 e9 x10 e10 => ?_⟩
  have i10 : x10.toInt = ((2 * j + 1 : Nat) : Int) := by rw [e10]; exact t_dbl1 (by rw [e9]; exact t_dbl ej (by omega)) (by omega)
  refine ⟨t_in (by omega) (by omega), fun x11 e11 => ?_⟩
  rw [t_clamp i7] at e8
  rw [t_clamp i10] at e11
  rw [← e8] at c2
  rw [← e11] at c4
  refine z_size (by omega) (by omega) (fun r12 d12 => hq _ ?_)
  rw [c1, c3] at d5
  rw [c2, c4] at d12
  have b1 := iab_le (x := F (2 * i) - F (2 * j)) (m := 30) (by omega) (by omega)
  have b2 := iab_le (x := F (2 * i + 1) - F (2 * j + 1)) (m := 30) (by omega) (by omega)
  rw [t_add (by omega) (by omega), d5, d12]; rfl
end ZF
/-! sets of at most eight: bits -/
def orN (P : Nat → Bool) : Nat → Nat
  | 0 => 0
  | k + 1 => if P k = true then orN P k ||| (1 <<< k) else orN P k
theorem orN_lt {P : Nat → Bool} : ∀ k : Nat, orN P k < 2 ^ k := by
  intro k
  induction k with
  | zero => exact Nat.one_pos
  | succ k ih =>
    have e : 2 ^ (k + 1) = 2 ^ k * 2 := Nat.pow_succ ..
    unfold orN
    by_cases c : P k = true
    · rw [if_pos c]
      exact Nat.or_lt_two_pow (by omega) (by rw [Nat.one_shiftLeft]; omega)
    · rw [if_neg c]; omega
theorem orN_bit {P : Nat → Bool} : ∀ k j : Nat, (orN P k).testBit j = (decide (j < k) && P j) := by
  intro k
  induction k with
  | zero => intro j; show (0 : Nat).testBit j = _; rw [Nat.zero_testBit]; simp
  | succ k ih =>
    intro j
    unfold orN
    by_cases c : P k = true
    · rw [if_pos c, Nat.testBit_or, ih j, Nat.one_shiftLeft, Nat.testBit_two_pow]
      by_cases z : k = j
      · subst z; simp [c]
      · by_cases z2 : j < k
        · simp [z, z2, show j < k + 1 by omega]
        · simp [z, z2, show ¬ j < k + 1 by omega]
    · rw [if_neg c, ih j]
      by_cases z : j = k
      · subst z; simp [c]
      · by_cases z2 : j < k
        · simp [z2, show j < k + 1 by omega]
        · simp [z2, show ¬ j < k + 1 by omega]
theorem orN_le {P : Nat → Bool} {k : Nat} (h : k ≤ 8) : orN P k < 256 := by
  have := orN_lt (P := P) k
  have h2 : 2 ^ k ≤ 2 ^ 8 := Nat.pow_le_pow_right (by decide) h
  have h3 : (2 : Nat) ^ 8 = 256 := by decide
  omega
theorem b8_dec : ∀ X : Fin 256, ∀ j : Fin 8, (((Int32.ofNat X.val) >>> ((Int32.ofNat j.val) &&& 31)) &&& 1 = 1) ↔ X.val.testBit j.val = true := by decide +kernel
theorem b8_sh : ∀ j : Fin 8, (1 <<< ((Int32.ofNat j.val) &&& 31) : Int32) = Int32.ofNat (1 <<< j.val) := by decide
theorem ofN_eq {x : Int32} {k : Nat} (h : x.toInt = k) (hk : k < 2147483648) : x = Int32.ofNat k := by
  rw [t_eq, h, Int32.toInt_ofNat_of_lt (by omega)]
theorem b8_bit {x : Int32} {X j : Nat} {p : Int32} (hx : x = Int32.ofNat X) (hX : X < 256) (hp : p.toInt = j) (hj : j < 8) : ((x >>> (p &&& 31)) &&& 1 = 1) ↔ X.testBit j = true := by
  rw [hx, ofN_eq hp (by omega)]
  exact b8_dec ⟨X, hX⟩ ⟨j, hj⟩
theorem b8_or {x : Int32} {X j : Nat} {p : Int32} (hx : x = Int32.ofNat X) (hX : X < 256) (hp : p.toInt = j) (hj : j < 8) : x ||| (1 <<< (p &&& 31)) = Int32.ofNat (X ||| (1 <<< j)) := by
  have h1 : 1 <<< j < 256 := by
    rw [Nat.one_shiftLeft]
    have : 2 ^ j ≤ 2 ^ 7 := Nat.pow_le_pow_right (by decide) (by omega)
    have h3 : (2 : Nat) ^ 7 = 128 := by decide
    omega
  have h2 : X ||| (1 <<< j) < 2 ^ 8 := Nat.or_lt_two_pow (by omega) (by omega)
  rw [hx, ofN_eq hp (by omega), b8_sh ⟨j, hj⟩, t_eq]
  have ea : (Int32.ofNat X).toBitVec.toNat = X := by show X % 2 ^ 32 = X; exact Nat.mod_eq_of_lt (by omega)
  have eb : (Int32.ofNat (1 <<< j)).toBitVec.toNat = 1 <<< j := by show (1 <<< j) % 2 ^ 32 = _; exact Nat.mod_eq_of_lt (by omega)
  have e := t_ofn (x := Int32.ofNat X ||| Int32.ofNat (1 <<< j)) (by rw [t_orn, ea, eb]; omega)
  rw [e, t_orn, ea, eb, Int32.toInt_ofNat_of_lt (by omega)]
/-! safe forms -/
/-- a fox is near -/
def nrB (F G : Nat → Int) (i : Nat) : Nat → Bool
  | 0 => false
  | k + 1 => nrB F G i k || decide (iab (F (2 * i) - G (2 * k)) + iab (F (2 * i + 1) - G (2 * k + 1)) ≤ 3)
/-- the safe forms' bits -/
def sfN (F G : Nat → Int) (nf nx : Nat) : Nat := orN (fun i => !(nrB F G i nx)) nf
theorem nrB_mono {F G : Nat → Int} {i k m : Nat} (h : nrB F G i k = true) (hk : k ≤ m) : nrB F G i m = true := by
  induction m with
  | zero => rw [show k = 0 by omega] at h; exact h
  | succ m ih =>
    by_cases z : k = m + 1
    · rw [← z]; exact h
    · show (nrB F G i m || _) = true
      rw [ih (by omega)]; rfl
section ZS
variable {NF NX : Nat} {X Y FX FY fo fx : Nat → Int32} {F G : Nat → Int}
theorem z_near {p nx : Int32} {i : Nat} {Q : Int32 → Prop} (hF : ∀ j : Nat, j < 2 * NF → 0 ≤ F j ∧ F j ≤ 30) (hG : ∀ j : Nat, j < 2 * NX → 0 ≤ G j ∧ G j ≤ 30) (h8 : NF ≤ 8) (h4 : NX ≤ 4) (hp : pr NF X Y F) (hx : pr NX FX FY G) (ex : nx.toInt = NX) (ei : p.toInt = i) (hi : i < NF) (q1 : nrB F G i NX = true → Q 1) (q0 : nrB F G i NX = false → Q 0) :
    ∀ (m : Nat) (l2 : Int32) (k : Nat), l2.toInt = k → k ≤ NX → nrB F G i k = false → NX - k < m → wl_X2_foxIsNear_2 nx X FX Y FY Q m p l2 := by
  intro m
  induction m with
  | zero => intro l2 k h1 h2 h3 h4; omega
  | succ m ih =>
    intro l2 k h1 h2 h3 h5
    refine ⟨fun c => ?_, fun c => ?_⟩
    · rw [t_le] at c
      rw [show k = NX by omega] at h3
      exact q0 h3
    rw [t_le] at c
    have a1 := hF (2 * i) (by omega)
    have a2 := hF (2 * i + 1) (by omega)
    have a3 := hG (2 * k) (by omega)
    have a4 := hG (2 * k + 1) (by omega)
    obtain ⟨c1, c2⟩ := hp i hi
    obtain ⟨c3, c4⟩ := hx k (by omega)
    refine ⟨t_in (by omega) (by omega), fun x2 e2 => ⟨t_in (by omega) (by omega), fun x3 e3 x4 e4 => ⟨t_in (by omega) (by omega), fun x5 e5 => ⟨t_in (by omega) (by omega), fun x6 e6 x7 e7 => ?_⟩⟩⟩⟩
    rw [t_clamp ei] at e2 e5
    rw [t_clamp h1] at e3 e6
    rw [← e2] at c1
    rw [← e3] at c3
    rw [← e5] at c2
    rw [← e6] at c4
    have d4 : x4.toInt = iab (x2.toInt - x3.toInt) := by rw [e4]; exact t_iab (by omega) (by omega)
    have d7 : x7.toInt = iab (x5.toInt - x6.toInt) := by rw [e7]; exact t_iab (by omega) (by omega)
    rw [c1, c3] at d4
    rw [c2, c4] at d7
    have b1 := iab_le (x := F (2 * i) - G (2 * k)) (m := 30) (by omega) (by omega)
    have b2 := iab_le (x := F (2 * i + 1) - G (2 * k + 1)) (m := 30) (by omega) (by omega)
    have es : (x4 + x7).toInt = iab (F (2 * i) - G (2 * k)) + iab (F (2 * i + 1) - G (2 * k + 1)) := by rw [t_add (by omega) (by omega), d4, d7]
    refine ⟨fun c9 x9 e9 => ?_, fun c9 => q1 ?_⟩
    · rw [t_lt, t_3, es] at c9
      refine ih x9 (k + 1) (by rw [e9, t_inc (by omega), h1]; omega) (by omega) ?_ (by omega)
      show (nrB F G i k || decide _) = false
      rw [h3, Bool.false_or]
      exact decide_eq_false (by omega)
    · rw [t_lt, t_3, es] at c9
      refine nrB_mono (k := k + 1) ?_ (by omega)
      show (nrB F G i k || decide _) = true
      rw [h3, Bool.false_or]
      exact decide_eq_true (by omega)
theorem z_findSafe {nf nx sf : Int32} {Q : Int32 → Prop} (hF : ∀ j : Nat, j < 2 * NF → 0 ≤ F j ∧ F j ≤ 30) (hG : ∀ j : Nat, j < 2 * NX → 0 ≤ G j ∧ G j ≤ 30) (h8 : NF ≤ 8) (h4 : NX ≤ 4) (hp : pr NF X Y F) (hx : pr NX FX FY G) (en : nf.toInt = NF) (ex : nx.toInt = NX) (hq : ∀ r : Int32, r = Int32.ofNat (sfN F G NF NX) → Q r) : wq_X2_findSafe nf nx X FX Y FY sf Q := by
  have go : ∀ (m : Nat) (v l1 : Int32) (k : Nat), l1.toInt = k → k ≤ NF → v = Int32.ofNat (orN (fun i => !(nrB F G i NX)) k) → NF - k < m → wl_X2_findSafe_7 nf nx X FX Y FY Q m v l1 := by
    intro m
    induction m with
    | zero => intro v l1 k h1 h2 h3 h5; omega
    | succ m ih =>
      intro v l1 k h1 h2 h3 h5
      refine ⟨fun c => ?_, fun c => ?_⟩
      · rw [t_le] at c
        rw [show k = NF by omega] at h3
        exact hq v h3
      rw [t_le] at c
      have nxt : ∀ x5 : Int32, x5 = l1 + 1 → x5.toInt = ((k + 1 : Nat) : Int) := fun x5 e => by rw [e, t_inc (by omega), h1]; omega
      refine ⟨5, z_near hF hG h8 h4 hp hx ex h1 (by omega) (fun w => ⟨fun _ x5 e5 => ?_, fun z => absurd z (by first | decide | simp)⟩) (fun w => ⟨fun z => absurd rfl z, fun _ x4 e4 x5 e5 => ?_⟩) 5 0 0 t_0 (by omega) rfl (by omega)⟩
      · refine ih v x5 (k + 1) (nxt x5 e5) (by omega) ?_ (by omega)
        unfold orN
        rw [if_neg (by rw [w]; decide)]; exact h3
      · refine ih x4 x5 (k + 1) (nxt x5 e5) (by omega) ?_ (by omega)
        unfold orN
        rw [if_pos (by rw [w]; rfl), e4]
        exact b8_or h3 (orN_le (by omega)) h1 (by omega)
  exact ⟨9, go 9 0 0 0 t_0 (by omega) rfl (by omega)⟩
theorem z_isSafeM {p nx : Int32} {i : Nat} {Q : Int32 → Prop} (hF : ∀ j : Nat, j < 2 * NF → 0 ≤ F j ∧ F j ≤ 30) (hG : ∀ j : Nat, j < 2 * NX → 0 ≤ G j ∧ G j ≤ 30) (h8 : NF ≤ 8) (h4 : NX ≤ 4) (hp : pm (2 * NF) fo F) (hx : pm (2 * NX) fx G) (ex : nx.toInt = NX) (ei : p.toInt = i) (hi : i < NF) (q0 : nrB F G i NX = true → Q 0) (q1 : nrB F G i NX = false → Q 1) : wq_X11_isSafe nx fo fx p Q := by
  have go : ∀ (m : Nat) (l2 : Int32) (k : Nat), l2.toInt = k → k ≤ NX → nrB F G i k = false → NX - k < m → wl_X11_isSafe_2 nx fo fx Q m p l2 := by
    intro m
    induction m with
    | zero => intro l2 k h1 h2 h3 h4; omega
    | succ m ih =>
      intro l2 k h1 h2 h3 h5
      refine ⟨fun c => ?_, fun c x2 e2 => ?_⟩
      · rw [t_le] at c
        rw [show k = NX by omega] at h3
        exact q1 h3
      rw [t_le] at c
      have a1 := hF (2 * i) (by omega)
      have a2 := hF (2 * i + 1) (by omega)
      have a3 := hG (2 * k) (by omega)
      have a4 := hG (2 * k + 1) (by omega)
      have c1 := hp (2 * i) (by omega)
      have c2 := hp (2 * i + 1) (by omega)
      have c3 := hx (2 * k) (by omega)
      have c4 := hx (2 * k + 1) (by omega)
      have i2 : x2.toInt = ((2 * i : Nat) : Int) := by rw [e2]; exact t_dbl ei (by omega)
      refine ⟨t_in (by omega) (by omega), fun x3 e3 x4 e4 => ?_⟩
      have i4 : x4.toInt = ((2 * k : Nat) : Int) := by rw [e4]; exact t_dbl h1 (by omega)
      refine ⟨t_in (by omega) (by omega), fun x5 e5 => ?_⟩
      rw [t_clamp i2] at e3
      rw [t_clamp i4] at e5
      rw [← e3] at c1
      rw [← e5] at c3
      refine z_size (by omega) (by omega) (fun r6 d6 x7 e7 x8 e8 => ?_)
      have i8 : x8.toInt = ((2 * i + 1 : Nat) : Int) := by rw [e8]; exact t_dbl1 (by rw [e7]; exact t_dbl ei (by omega)) (by omega)
      refine ⟨t_in (by omega) (by omega), fun x9 e9 x10 e10 x11 e11 => ?_⟩
      have i11 : x11.toInt = ((2 * k + 1 : Nat) : Int) := by rw [e11]; exact t_dbl1 (by rw [e10]; exact t_dbl h1 (by omega)) (by omega)
      refine ⟨t_in (by omega) (by omega), fun x12 e12 => ?_⟩
      rw [t_clamp i8] at e9
      rw [t_clamp i11] at e12
      rw [← e9] at c2
      rw [← e12] at c4
      refine z_size (by omega) (by omega) (fun r13 d13 => ?_)
      rw [c1, c3] at d6
      rw [c2, c4] at d13
      have b1 := iab_le (x := F (2 * i) - G (2 * k)) (m := 30) (by omega) (by omega)
      have b2 := iab_le (x := F (2 * i + 1) - G (2 * k + 1)) (m := 30) (by omega) (by omega)
      have es : (r6 + r13).toInt = iab (F (2 * i) - G (2 * k)) + iab (F (2 * i + 1) - G (2 * k + 1)) := by rw [t_add (by omega) (by omega), d6, d13]
      refine ⟨fun c9 x15 e15 => ?_, fun c9 => q0 ?_⟩
      · rw [t_lt, t_3, es] at c9
        refine ih x15 (k + 1) (by rw [e15, t_inc (by omega), h1]; omega) (by omega) ?_ (by omega)
        show (nrB F G i k || decide _) = false
        rw [h3, Bool.false_or]
        exact decide_eq_false (by omega)
      · rw [t_lt, t_3, es] at c9
        refine nrB_mono (k := k + 1) ?_ (by omega)
        show (nrB F G i k || decide _) = true
        rw [h3, Bool.false_or]
        exact decide_eq_true (by omega)
  exact ⟨5, go 5 0 0 t_0 (by omega) rfl (by omega)⟩
end ZS
def sfD (d : dT) : Int32 := Int32.ofNat (sfN d.2.2.2.2.1 d.2.2.2.2.2.2.1 d.2.1 d.2.2.2.1)
end
