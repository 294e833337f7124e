/-! words, and the reference's tokens -/
def isW (n : Nat) (b : Nat → Int) (m : Nat) (w : Nat → Int) (s : Nat) : Prop := s + m ≤ n ∧ ¬ isL (at0 n b (s + m)) ∧ ∀ j : Nat, j < m → b (s + j) = w j
/-- a String's letters -/
def wSt (m : Nat) (b1 : Nat → Int32) (w : Nat → Int) : Prop := (Int32.ofNat m >>> ((0 : Int32) &&& 31)).toInt = m ∧ (Int32.ofNat m).toInt = m ∧ m ≤ 6 ∧ ∀ j : Nat, j < m → ((((b1 j) &&& 255).toUInt32 % 65536).toInt32).toInt = w j ∧ isL (w j)
section TXw
variable {n : Nat} {b : Nat → Int} {len : Int32} {f : Nat → Int32}
theorem x_wl {Q : Int32 → Int32 → Int32 → Prop} {m : Nat} {b1 : Nat → Int32} {w : Nat → Int} {a fa tk l2 : Int32} {s : Nat} (hn : n ≤ 600) (hb : tB n f b) (hS : wSt m b1 w) (ha : a.toInt = s) (hs : s + m ≤ n)
    (q0 : ¬ (∀ j : Nat, j < m → b (s + j) = w j) → Q 0 a tk) (q1 : (∀ j : Nat, j < m → b (s + j) = w j) → Q 1 l2 a) :
    ∀ (k : Nat) (l3 : Int32) (i : Nat), l3.toInt = i → i ≤ m → m - i < k → (∀ j : Nat, j < i → b (s + j) = w j) → wl_X8_takesWord_s_41 m b1 len fa f Q k a tk l2 l3 := by
  obtain ⟨z1, z2, z3, z4⟩ := hS
  intro k
  induction k with
  | zero => intro l3 i h0 h1 h2; omega
  | succ k ih =>
    intro l3 i h0 h1 h2 hj
    refine ⟨fun c => q1 (fun j hj2 => hj j ?_), fun c x11 e11 => ?_⟩
    · rw [t_le, z1] at c; omega
    rw [t_le, z1] at c
    have hi : i < m := by omega
    have e : x11.toInt = ((s + i : Nat) : Int) := by rw [e11, t_add (by omega) (by omega)]; omega
    have hc : x11.toNatClampNeg = s + i := t_clamp e
    have hci : l3.toNatClampNeg = i := t_clamp h0
    have hw := hb (s + i) (by omega)
    unfold cR at hw
    obtain ⟨y1, y2⟩ := z4 i hi
    refine ⟨t_in (by omega) (by omega), fun x12 e12 => ⟨fun d => ?_, ?_, t_in (by omega) (by omega), fun x ex => ⟨by rw [ex]; exact n_char _, fun c2 x15 e15 => ?_, fun c2 => q0 (fun hall => ?_)⟩⟩⟩
    · rw [t_lt, t_0] at d; omega
    · rw [t_lt, z2]; omega
    · rw [hc] at e12
      rw [hci] at ex
      rw [e12, ex, t_eq, y1] at c2
      have e5 : x15.toInt = ((i + 1 : Nat) : Int) := by rw [e15, t_inc (by omega), h0]; omega
      refine ih x15 (i + 1) e5 (by omega) (by omega) (fun j hj2 => ?_)
      by_cases z : j = i
      · rw [z]; omega
      · exact hj j (by omega)
    · have h9 := hall i hi
      rw [hc] at e12
      rw [hci] at ex
      exact c2 (by rw [e12, ex, t_eq, y1]; omega)
theorem x_word {Q : Int32 → Int32 → Int32 → Prop} {m : Nat} {b1 : Nat → Int32} {w : Nat → Int} {a fa tk : Int32} {p : Nat} (hl : len.toInt = n) (hn : n ≤ 600) (hb : tB n f b) (h0 : a.toInt = p) (h1 : p ≤ 600) (hS : wSt m b1 w)
    (q0 : (¬ fa = 0 ∨ ¬ isW n b m w (sk n b p)) → ∀ x : Int32, x.toInt = (sk n b p : Nat) → Q 0 x tk)
    (q1 : fa = 0 → isW n b m w (sk n b p) → ∀ x t : Int32, x.toInt = ((sk n b p + m : Nat) : Int) → t.toInt = (sk n b p : Nat) → Q 1 x t) : wq_X8_takesWord_s m b1 len fa f a tk Q := by
  obtain ⟨z1, z2, z3, z4⟩ := id hS
  refine x_skipBlanks hl hn hb h0 h1 (fun x1 e1 x3 e3 => ?_)
  have hs := sk_le (b := b) h1 hn
  have e : x3.toInt = ((sk n b p + m : Nat) : Int) := by rw [e3, t_add (by rw [z1]; omega) (by rw [z1]; omega), z1]; omega
  refine ⟨fun z => ⟨fun d => absurd rfl d, fun _ => ?_⟩, fun z => ⟨fun _ => q0 (Or.inl z) x1 e1, fun d => absurd d (by first | decide | simp)⟩⟩
  refine ⟨fun c => q0 (Or.inr (fun w9 => ?_)) x1 e1, fun c => ?_⟩
  · rw [t_lt] at c
    have := w9.1
    omega
  rw [t_lt] at c
  refine x_isLetter hl hn hb e (fun y => ⟨fun d => absurd d (by first | decide | simp), fun _ => q0 (Or.inr (fun w9 => w9.2.1 y)) x1 e1⟩) (fun y => ⟨fun _ => ?_, fun d => absurd rfl d⟩)
  refine ⟨m + 1, x_wl hn hb hS e1 (by omega) (fun w9 => q0 (Or.inr (fun w8 => w9 w8.2.2)) x1 e1) (fun w9 => q1 z ⟨by omega, y, w9⟩ x3 x1 e e1) (m + 1) 0 0 t_0 (by omega) (by omega) (fun j hj => by omega)⟩
/-! the reference -/
theorem y_hl {Q : Int32 → Int32 → Prop} (hl : len.toInt = n) (hn : n ≤ 600) (hb : tB n f b) : ∀ (k : Nat) (a : Int32) (p : Nat), a.toInt = p → p ≤ 600 → 600 - p < k → (∀ r x : Int32, x.toInt = (sk n b p : Nat) → cR r (at0 n b (sk n b p)) → Q r x) → wl_X11_here_0 len f Q k a := by
  intro k
  induction k with
  | zero => intro a p h0 h1 h2; omega
  | succ k ih =>
    intro a p h0 h1 h2 hq
    have hc : a.toNatClampNeg = p := t_clamp h0
    have stop : ¬ (p < n ∧ b p = 32) → wb_X11_here_38 len f Q a := fun z => by
      rw [sk_stop z] at hq
      refine ⟨fun c => hq 0 a h0 ?_, fun c => ?_⟩
      · rw [t_le] at c
        rw [at0_out (by omega)]
        exact ⟨Int.le_refl _, Or.inl t_0⟩
      · rw [t_le] at c
        have hp : p < n := by omega
        refine ⟨t_in (by omega) (by omega), fun x6 e6 => hq x6 a h0 ?_⟩
        rw [at0_in hp, e6, hc]
        exact hb p hp
    refine ⟨fun c => stop ?_, fun c => ?_⟩
    · rw [t_le] at c; exact fun w => by omega
    rw [t_le] at c
    have hp : p < n := by omega
    have hy := hb p hp
    unfold cR at hy
    refine ⟨t_in (by omega) (by omega), fun x2 e2 => ⟨fun c2 => stop ?_, fun c2 x4 e4 => ?_⟩⟩
    · rw [hc] at e2
      rw [e2, t_eq, t_32] at c2
      exact fun w => by omega
    · rw [hc] at e2
      rw [e2, t_eq, t_32] at c2
      have z : b p = 32 := by omega
      have e : x4.toInt = ((p + 1 : Nat) : Int) := by rw [e4, t_inc (by omega), h0]; omega
      rw [sk_step ⟨hp, z⟩] at hq
      exact ih x4 (p + 1) e (by omega) (by omega) hq
theorem y_here {Q : Int32 → Int32 → Prop} {a : Int32} {p : Nat} (hl : len.toInt = n) (hn : n ≤ 600) (hb : tB n f b) (h0 : a.toInt = p) (h1 : p ≤ 600) (hq : ∀ r x : Int32, x.toInt = (sk n b p : Nat) → cR r (at0 n b (sk n b p)) → Q r x) : wq_X11_here len f a Q :=
  ⟨601, y_hl hl hn hb 601 a p h0 h1 (by omega) hq⟩
theorem y_isMore {Q : Int32 → Int32 → Prop} {a : Int32} {p : Nat} (hl : len.toInt = n) (hn : n ≤ 600) (hb : tB n f b) (h0 : a.toInt = p) (h1 : p ≤ 600)
    (q1 : sk n b p < n → ∀ x : Int32, x.toInt = (sk n b p : Nat) → Q 1 x) (q0 : ¬ sk n b p < n → ∀ x : Int32, x.toInt = (sk n b p : Nat) → Q 0 x) : wq_X11_isMore len f a Q :=
  y_here hl hn hb h0 h1 (fun r x e _ => ⟨fun c => q0 (by rw [t_le] at c; omega) x e, fun c => q1 (by rw [t_le] at c; omega) x e⟩)
theorem y_isDigit {Q : Int32 → Prop} {r : Int32} {c : Int} (h : cR r c) (q1 : isD c → Q 1) (q0 : ¬ isD c → Q 0) : wq_X11_isDigit r Q := by
  unfold cR at h
  refine ⟨fun z => q0 ?_, fun z => ⟨fun z2 => q0 ?_, fun z2 => q1 ?_⟩⟩
  · simp only [t_lt, t_le, t_48, t_57] at z; omega
  · simp only [t_lt, t_le, t_48, t_57] at z z2; omega
  · simp only [t_lt, t_le, t_48, t_57] at z z2; omega
theorem y_isSmall {Q : Int32 → Prop} {r : Int32} {c : Int} (h : cR r c) (q1 : isL c → Q 1) (q0 : ¬ isL c → Q 0) : wq_X11_isSmall r Q := by
  unfold cR at h
  refine ⟨fun z => q0 ?_, fun z => ⟨fun z2 => q0 ?_, fun z2 => q1 ?_⟩⟩
  · simp only [t_lt, t_le, t_97, t_122] at z; omega
  · simp only [t_lt, t_le, t_97, t_122] at z z2; omega
  · simp only [t_lt, t_le, t_97, t_122] at z z2; omega
theorem y_num {Q : Int32 → Int32 → Int32 → Int32 → Prop} {bd bk lo hi l4 : Int32} (hl : len.toInt = n) (hn : n ≤ 600) (hb : tB n f b) : ∀ (k : Nat) (a l5 : Int32) (p : Nat) (V : Int), a.toInt = p → p ≤ 600 → 600 - p < k → 0 ≤ V → (V ≤ 9999 → l5.toInt = V) → (9999 < V → 9999 < l5.toInt ∧ l5.toInt ≤ 99999) →
    (∀ x l : Int32, x.toInt = (dE n b p : Nat) → (dv n b p V ≤ 9999 → l.toInt = dv n b p V) → (9999 < dv n b p V → 9999 < l.toInt) → wb_X11_readNumber_114 len f Q x bd bk lo hi l4 l) → wl_X11_readNumber_41 len f Q k a bd bk lo hi l4 l5 := by
  intro k
  induction k with
  | zero => intro a l5 p V h0 h1 h2; omega
  | succ k ih =>
    intro a l5 p V h0 h1 h2 hV g1 g2 hq
    have hc : a.toNatClampNeg = p := t_clamp h0
    have stop : ¬ (p < n ∧ isD (b p)) → wb_X11_readNumber_114 len f Q a bd bk lo hi l4 l5 := fun z => by
      rw [dE_stop z, dv_stop z] at hq
      exact hq a l5 h0 g1 (fun w => (g2 w).1)
    refine ⟨fun c => stop ?_, fun c => ?_⟩
    · rw [t_le] at c; exact fun w => by omega
    rw [t_le] at c
    have hp : p < n := by omega
    have hy := hb p hp
    refine ⟨t_in (by omega) (by omega), fun x10 e10 => ?_⟩
    rw [hc] at e10
    rw [← e10] at hy
    refine y_isDigit hy (fun y => ⟨fun d => absurd d (by first | decide | simp), fun _ => ?_⟩) (fun y => ⟨fun _ => stop (fun w => y w.2), fun d => absurd rfl d⟩)
    unfold cR at hy
    rw [dE_step ⟨hp, y⟩, dv_step ⟨hp, y⟩] at hq
    refine ⟨fun c5 => ⟨t_in (by omega) (by omega), fun x14 e14 x17 e17 => ?_⟩, fun c5 x17 e17 => ?_⟩
    · rw [hc, ← e10] at e14
      rw [t_le, t_9999] at c5
      have hV2 : V ≤ 9999 := by
        by_cases w : V ≤ 9999
        · exact w
        · have := g2 (by omega); omega
      have e5 := g1 hV2
      have ea : x17.toInt = ((p + 1 : Nat) : Int) := by rw [e17, t_inc (by omega), h0]; omega
      have em : (10 * l5).toInt = 10 * l5.toInt := by rw [t_mul (by rw [t_10]; omega) (by rw [t_10]; omega), t_10]
      have ep : (10 * l5 + x14).toInt = 10 * l5.toInt + x14.toInt := by rw [t_add (by rw [em, e14]; omega) (by rw [em, e14]; omega), em]
      have el : (10 * l5 + x14 - 48).toInt = 10 * V + (b p - 48) := by
        rw [t_sub (by rw [ep, t_48, e14]; omega) (by rw [ep, t_48, e14]; omega), ep, t_48, e14]; omega
      exact ih x17 _ (p + 1) (10 * V + (b p - 48)) ea (by omega) (by omega) (by omega) (fun w => el) (fun w => by rw [el]; omega) hq
    · rw [t_le, t_9999] at c5
      have ea : x17.toInt = ((p + 1 : Nat) : Int) := by rw [e17, t_inc (by omega), h0]; omega
      have hV2 : 9999 < V := by
        by_cases w : V ≤ 9999
        · have := g1 w; omega
        · omega
      exact ih x17 _ (p + 1) (10 * V + (b p - 48)) ea (by omega) (by omega) (by omega) (fun w => by omega) (fun w => by rw [t_10000]; omega) hq
/-- a number of the reference -/
theorem y_number {Q : Int32 → Int32 → Int32 → Int32 → Prop} {a bd bk lo hi : Int32} {p : Nat} (hl : len.toInt = n) (hn : n ≤ 600) (hb : tB n f b) (h0 : a.toInt = p) (h1 : p ≤ 600) (hlo : 0 ≤ lo.toInt) (hhi : hi.toInt ≤ 999)
    (q1 : ¬ bd = -1 → Q 0 a bd bk)
    (q2 : bd = -1 → ¬ isD (at0 n b (sk n b p)) → ∀ x : Int32, x.toInt = (sk n b p : Nat) → Q 0 x x 1)
    (q3 : bd = -1 → isD (at0 n b (sk n b p)) → (lo.toInt ≤ dv n b (sk n b p) 0 ∧ dv n b (sk n b p) 0 ≤ hi.toInt) → ∀ r x : Int32, r.toInt = dv n b (sk n b p) 0 → x.toInt = (dE n b (sk n b p) : Nat) → Q r x (-1) bk)
    (q4 : bd = -1 → isD (at0 n b (sk n b p)) → ¬ (lo.toInt ≤ dv n b (sk n b p) 0 ∧ dv n b (sk n b p) 0 ≤ hi.toInt) → ∀ x t : Int32, x.toInt = (dE n b (sk n b p) : Nat) → t.toInt = (sk n b p : Nat) → Q 0 x t 2) : wq_X11_readNumber len f a bd bk lo hi Q := by
  have hs := sk_le (b := b) h1 hn
  refine ⟨fun z => ⟨fun d => absurd rfl d, fun _ => q1 z⟩, fun z => ⟨fun _ => ?_, fun d => absurd d (by first | decide | simp)⟩⟩
  refine y_here hl hn hb h0 h1 (fun r x e hr => y_isDigit hr (fun y => ⟨fun _ => ?_, fun d => absurd d (by first | decide | simp)⟩) (fun y => ⟨fun d => absurd rfl d, fun _ => ⟨fun _ => q2 z y x e, fun d => absurd z d⟩⟩))
  refine ⟨601, y_num hl hn hb 601 x 0 (sk n b p) 0 e hs (by omega) (by omega) (fun _ => t_0) (fun w => by omega) (fun x2 l ex g1 g2 => ?_)⟩
  have hv := dv_facts (n := n) (b := b) _ (sk n b p) 0 rfl (by omega)
  by_cases hr2 : lo.toInt ≤ dv n b (sk n b p) 0 ∧ dv n b (sk n b p) 0 ≤ hi.toInt
  · have e9 := g1 (by omega)
    refine ⟨fun c => ?_, fun c => ⟨fun c2 => ?_, fun c2 => ?_⟩⟩
    · rw [t_lt] at c; omega
    · rw [z]; exact q3 z y hr2 l x2 e9 ex
    · rw [t_le] at c2; omega
  · have bad : wb_X11_readNumber_126 len f Q x2 bd bk x := ⟨fun _ => q4 z y hr2 x2 x ex e, fun d => absurd z d⟩
    refine ⟨fun c => bad, fun c => ⟨fun c2 => ?_, fun c2 => bad⟩⟩
    rw [t_lt] at c
    rw [t_le] at c2
    by_cases w : dv n b (sk n b p) 0 ≤ 9999
    · have e9 := g1 w
      exact absurd ⟨by omega, by omega⟩ hr2
    · have e9 := g2 (by omega)
      omega
theorem y_sign {Q : Int32 → Int32 → Int32 → Prop} {a bd bk c : Int32} {p : Nat} (hl : len.toInt = n) (hn : n ≤ 600) (hb : tB n f b) (h0 : a.toInt = p) (h1 : p ≤ 600) (hc : 1 ≤ c.toInt ∧ c.toInt ≤ 127)
    (q1 : ¬ bd = -1 → Q a bd bk)
    (q2 : bd = -1 → at0 n b (sk n b p) = c.toInt → ∀ x : Int32, x.toInt = ((sk n b p + 1 : Nat) : Int) → Q x (-1) bk)
    (q3 : bd = -1 → at0 n b (sk n b p) ≠ c.toInt → ∀ x : Int32, x.toInt = (sk n b p : Nat) → Q x x 1) : wq_X11_sign len f a bd bk c Q := by
  have hs := sk_le (b := b) h1 hn
  refine ⟨fun z => ⟨fun _ => ⟨fun z2 => ⟨fun _ => q1 z, fun d => absurd rfl d⟩, fun z2 => absurd z2 z⟩, fun d => absurd rfl d⟩, fun z => ⟨fun d => absurd d (by first | decide | simp), fun _ => ?_⟩⟩
  refine y_here hl hn hb h0 h1 (fun r x e hr => ⟨fun c1 => ?_, fun c1 => ?_⟩)
  · unfold cR at hr
    rw [t_eq] at c1
    refine ⟨fun z2 => absurd z z2, fun _ => ⟨fun d => absurd d (by first | decide | simp), fun _ x10 e10 => ?_⟩⟩
    rw [z]
    exact q2 z (by omega) x10 (by rw [e10, t_inc (by omega), e]; omega)
  · unfold cR at hr
    rw [t_eq] at c1
    refine ⟨fun _ => ?_, fun d => absurd z d⟩
    have hx : ¬ x = -1 := fun w => by rw [w, t_m1] at e; omega
    exact ⟨fun z2 => ⟨fun _ => q3 z (by omega) x e, fun d => absurd rfl d⟩, fun z2 => absurd z2 hx⟩
end TXw
