/-! plain facts for the predicates of the walks -/
theorem q_nlt {a b : Int32} : ¬ a < b ↔ b ≤ a := by rw [Int32.lt_iff_toInt_lt, Int32.le_iff_toInt_le]; omega
theorem q_nle {a b : Int32} : ¬ a ≤ b ↔ b < a := by rw [Int32.lt_iff_toInt_lt, Int32.le_iff_toInt_le]; omega
theorem q_neg {p : Int32} (h : ¬ p < 0) : (0 - 1 : Int32) < p := by
  rw [Int32.lt_iff_toInt_lt] at h ⊢
  have h1 : (0 - 1 : Int32).toInt = -1 := by decide
  have h2 : (0 : Int32).toInt = 0 := by decide
  omega
theorem q_lit (n : Nat) : nI n = Int32.ofNat n := rfl
theorem q_cmp (x : Int64) : lg_cmp x x = 0 := by simp [lg_cmp]
/-- a loop that isn't entered -/
theorem q_le0 : (0 : Int32) ≤ 0 := by decide
section PuX
variable {Q : Int32 → Prop}
theorem q_w {p a b : Int32} (h1 : a ≤ p ∧ p ≤ b → Q 1) (h0 : ¬ (a ≤ p ∧ p ≤ b) → Q 0) : wq_X10_within p a b Q :=
  ⟨fun c => h0 (fun z => absurd z.1 (q_nle.mpr c)), fun c => ⟨fun c2 => h0 (fun z => absurd z.2 (q_nle.mpr c2)), fun c2 => h1 ⟨q_nlt.mp c, q_nlt.mp c2⟩⟩⟩
theorem q_wm {p a b : Int32} (h1 : a ≤ p ∧ p ≤ b → Q 1) (h0 : ¬ (a ≤ p ∧ p ≤ b) → Q 0) : wq_X11_within p a b Q :=
  ⟨fun c => h0 (fun z => absurd z.1 (q_nle.mpr c)), fun c => ⟨fun c2 => h0 (fun z => absurd z.2 (q_nle.mpr c2)), fun c2 => h1 ⟨q_nlt.mp c, q_nlt.mp c2⟩⟩⟩
theorem q_wF {p : Int32} (h0 : Q 0) : wq_X10_within p 0 (0 - 1) Q := ⟨fun _ => h0, fun c => ⟨fun _ => h0, fun c2 => absurd (q_neg c) c2⟩⟩
theorem q_wmF {p : Int32} (h0 : Q 0) : wq_X11_within p 0 (0 - 1) Q := ⟨fun _ => h0, fun c => ⟨fun _ => h0, fun c2 => absurd (q_neg c) c2⟩⟩
end PuX
theorem q_nw {v p a b : Int32} {E : String → Int32 → Prop} {Q : Int32 → Prop} (hq : a ≤ p ∧ p ≤ b → Q v) (he : ¬ (a ≤ p ∧ p ≤ b) → E "java/lang/IllegalArgumentException" (v + 1)) : wq_X10_needWithin v p a b E Q :=
  q_w (fun h => ⟨fun _ => hq h, fun c => absurd c (by decide)⟩) (fun h => ⟨fun c => absurd rfl c, fun _ x e => by rw [e]; exact he h⟩)
theorem q_nf {v p : Int32} {E : String → Int32 → Prop} {Q : Int32 → Prop} (he : E "java/util/NoSuchElementException" (v + 1)) : wq_X10_needForm 0 v p E Q :=
  q_wF ⟨fun c => absurd rfl c, fun _ x e => by rw [e]; exact he⟩
theorem q_nh {v p : Int32} {E : String → Int32 → Prop} {Q : Int32 → Prop} (he : E "java/util/NoSuchElementException" (v + 1)) : wq_X10_needHare 0 v p E Q :=
  q_wF ⟨fun c => absurd rfl c, fun _ x e => by rw [e]; exact he⟩
theorem q_mayT {f : Nat → Int32} {a b : Int32} {Q : Int32 → Int32 → (Nat → Int32) → Prop} (h : Q 1 0 f) : wq_X11_may 0 f 1 a b Q :=
  ⟨fun _ => ⟨fun c => absurd rfl c, fun _ => h⟩, fun c => absurd c (by decide)⟩
theorem q_mayF {f : Nat → Int32} {a b : Int32} {Q : Int32 → Int32 → (Nat → Int32) → Prop} (ha : ¬ a = 0) (hb : vp_in b 2) (h : ∀ g, Q 0 a g) : wq_X11_may 0 f 0 a b Q :=
  ⟨fun c => absurd rfl c, fun _ => ⟨fun c => absurd rfl c, fun _ => ⟨hb, fun x3 _ x4 _ => ⟨hb, fun f5 _ => ⟨fun _ => h f5, fun c => absurd c ha⟩⟩⟩⟩⟩
/-- 'may(within(p, a, b), code, kind)' -/
theorem q_mw {f : Nat → Int32} {p a b k z : Int32} {Q : Int32 → Int32 → (Nat → Int32) → Prop} (hk : ¬ k = 0) (hz : vp_in z 2) (h1 : a ≤ p ∧ p ≤ b → Q 1 0 f) (h0 : ¬ (a ≤ p ∧ p ≤ b) → ∀ g, Q 0 k g) : wq_X11_within p a b (fun r => wq_X11_may 0 f r k z Q) :=
  q_wm (fun h => q_mayT (h1 h)) (fun h => q_mayF hk hz (h0 h))
theorem q_isForm {f : Nat → Int32} {p k : Int32} {Q : Int32 → Int32 → (Nat → Int32) → Prop} (hk : ¬ k = 0) (h : ∀ g, Q 0 k g) : wq_X11_isForm 0 0 f p k Q :=
  q_wmF (q_mayF hk (vin (by decide)) (fun g => ⟨rfl, h g⟩))
theorem q_isHare {f : Nat → Int32} {p k : Int32} {Q : Int32 → Int32 → (Nat → Int32) → Prop} (hk : ¬ k = 0) (h : ∀ g, Q 0 k g) : wq_X11_isHare 0 0 f p k Q :=
  q_wmF (q_mayF hk (vin (by decide)) (fun g => ⟨rfl, h g⟩))
theorem q_finT {k : Int32} {P : Prop} (hk : ¬ k = 0) : ((k = k → ((¬ k = 0 → True) ∧ (k = 0 → P))) ∧ (¬ k = k → False)) := ⟨fun _ => ⟨fun _ => trivial, fun c => absurd c hk⟩, fun c => c rfl⟩
theorem q_finO {fo : Nat → Int64} {r : Int64} : (((0 : Int32) = 0 → ((¬ (0 : Int32) = 0 → True) ∧ ((0 : Int32) = 0 → ∀ x16 : Int64, x16 = vp_updL fo (0 : Int32).toNatClampNeg r (0 : Int32).toNatClampNeg → (((lg_cmp x16 r) = 0 → True) ∧ (¬ (lg_cmp x16 r) = 0 → False))))) ∧ (¬ (0 : Int32) = 0 → False)) :=
  ⟨fun _ => ⟨fun _ => trivial, fun _ x16 e => by rw [e, pk_uLs]; exact ⟨fun _ => trivial, fun c => c (q_cmp r)⟩⟩, fun c => c rfl⟩
/-- fresh rows: 1 at d, else 0 -/
def fz (n d : Nat) (f : Nat → Int32) : Prop := ∀ j, j < n → f j = if j = d then 1 else 0
/-- copies(from, to, n) -/
theorem q_copies {n1 n2 N : Nat} {f1 : Nat → Int32} {Q : (Nat → Int32) → Prop} (h1 : N ≤ n1) (h2 : N ≤ n2) (hN : N < 2 ^ 31) (hn1 : n1 < 2 ^ 31) (hn2 : n2 < 2 ^ 31) (hq : ∀ f, (∀ j, j < N → f j = f1 j) → Q f) :
    ∀ (k i : Nat) (f2 : Nat → Int32), i + k = N → (∀ j, j < i → f2 j = f1 j) → wl_X11_copies_3 n1 n2 f1 Q (k + 1) f2 (nI N) (nI i) := by
  intro k
  induction k with
  | zero =>
    intro i f2 hi hf
    obtain rfl : i = N := by omega
    exact ⟨fun _ => hq f2 hf, fun c => absurd (nI_le (Nat.le_refl _) hN) c⟩
  | succ k ih =>
    intro i f2 hi hf
    refine ⟨fun c => absurd c (nI_ge (by omega) hN), fun _ => ⟨vp_in_nI (by omega) hn1, fun x2 e2 => ⟨vp_in_nI (by omega) hn2, fun f3 e3 x4 e4 => ?_⟩⟩⟩
    rw [e4, nI_1]
    refine ih (i + 1) f3 (by omega) (fun j hj => ?_)
    rw [e3, nI_clamp (by omega)]
    by_cases hj2 : j = i
    · rw [hj2, pk_us, e2, nI_clamp (by omega)]
    · rw [pk_un hj2]; exact hf j (by omega)
theorem q_take {now s : Nat → Int32} {Q : (Nat → Int32) → Prop} (hq : ∀ f, (∀ j, j < 68 → f j = now j) → Q f) : wq_X11_take now s Q :=
  ⟨69, q_copies (N := 68) (by omega) (by omega) (by omega) (by omega) (by omega) hq 68 0 s (by omega) (fun j h => absurd h (Nat.not_lt_zero j))⟩
/-- 'now' of the reference, fresh: what its debts are -/
theorem q_debts {s : Nat → Int32} {Q : Int32 → Prop} (hs : ∀ j, 30 ≤ j → j < 66 → s j = 0) (hq : Q 0) : ∀ (k i : Nat), i + k = 36 → wl_X11_debtsNow_4 s Q (k + 1) 0 (nI i) := by
  intro k
  induction k with
  | zero =>
    intro i hi
    obtain rfl : i = 36 := by omega
    exact ⟨fun _ => hq, fun c => absurd (by decide) c⟩
  | succ k ih =>
    intro i hi
    refine ⟨fun c => absurd c (nI_ge (b := 36) (by omega) (by omega)), fun _ x2 e2 => ?_⟩
    have e2' : x2 = nI (30 + i) := by rw [e2, ← nI_add]; rfl
    refine ⟨by rw [e2']; exact vp_in_nI (by omega) (by omega), fun x3 e3 x4 e4 x5 e5 => ?_⟩
    have h3 : x3 = 0 := by rw [e3, e2', nI_clamp (by omega)]; exact hs _ (by omega) (by omega)
    have h4 : x4 = 0 := by rw [e4, h3]; decide
    rw [h4, e5, nI_1]
    exact ih (i + 1) (by omega)
theorem q_debtsNow {s : Nat → Int32} {Q : Int32 → Prop} (hs : ∀ j, 30 ≤ j → j < 66 → s j = 0) (hq : Q 0) : wq_X11_debtsNow s Q := ⟨37, q_debts hs hq 36 0 (by omega)⟩
/-! what the two constructors leave -/
def o1 (d : Nat) : Nat → Int32 := upd (fun _ => 0) d 1
def K5 : Nat → Int32 := upd (upd (upd (upd (upd (fun _ => 0) (0 : Int32).toNatClampNeg 0) (0 + 1 : Int32).toNatClampNeg 1) (0 + 1 + 1 : Int32).toNatClampNeg 2) (0 + 1 + 1 + 1 : Int32).toNatClampNeg 1) (0 + 1 + 1 + 1 + 1 : Int32).toNatClampNeg 3
def V5 : Nat → Int32 := upd (upd (upd (upd (upd (fun _ => 0) (0 : Int32).toNatClampNeg 4) (0 + 1 : Int32).toNatClampNeg 0) (0 + 1 + 1 : Int32).toNatClampNeg 0) (0 + 1 + 1 + 1 : Int32).toNatClampNeg 1) (0 + 1 + 1 + 1 + 1 : Int32).toNatClampNeg 0
def XF (x4 : Int32) (f5 f6 : Nat → Int32) (_ : Int32) (_ _ : Nat → Int32) (x12 : Int32) (_ : Nat → Int32) (_ : Int32) (_ : Nat → Int32) (f19 _ : Nat → Int32) : Prop :=
  x4 = 5 ∧ f5 = K5 ∧ f6 = V5 ∧ x12 = 0 ∧ f19 = o1 0
def MF (x1 x2 x3 x5 x6 x7 x11 x13 x15 x12 x14 : Int32) (_ _ _ _ f17 _ : Nat → Int32) : Prop :=
  x1 = 0 ∧ x2 = 0 ∧ x3 = 0 ∧ x5 = 0 ∧ x6 = 0 ∧ x7 = 0 ∧ x11 = 0 ∧ x13 = 0 ∧ x15 = 0 ∧ x12 = 0 ∧ x14 = 0 ∧ f17 = o1 66
theorem q_up0 (i : Nat) : upd (fun _ => 0) i 0 = fun _ => 0 := by
  funext j
  by_cases h : j = i
  · rw [h, pk_us]
  · rw [pk_un h]
theorem q_add {k v : Nat → Int32} {L p1 p2 : Int32} {Q : (Nat → Int32) → (Nat → Int32) → Int32 → Prop} (hL : ¬ 150 ≤ L) (hin : vp_in L 150) (h : Q (upd k L.toNatClampNeg p1) (upd v L.toNatClampNeg p2) (L + 1)) : wq_X4_add k v L p1 p2 Q :=
  ⟨fun c => absurd c hL, fun _ => ⟨hin, fun f2 e2 => ⟨hin, fun f3 e3 x4 e4 => by rw [e2, e3, e4]; exact h⟩⟩⟩
theorem q_plain {Q : Int32 → (Nat → Int32) → (Nat → Int32) → Prop} {L : Int32} (hq : Q 5 K5 V5) : wq_X4_setPlain L (fun _ => 0) (fun _ => 0) Q := by
  refine q_add (L := 0) (by decide) (vin (by decide)) ?_
  refine q_add (L := 0 + 1) (by decide) (vin (by decide)) ?_
  refine q_add (L := 0 + 1 + 1) (by decide) (vin (by decide)) ?_
  refine q_add (L := 0 + 1 + 1 + 1) (by decide) (vin (by decide)) ?_
  refine q_add (L := 0 + 1 + 1 + 1 + 1) (by decide) (vin (by decide)) ?_
  rw [show (0 + 1 + 1 + 1 + 1 + 1 : Int32) = 5 by decide]
  exact hq
/-- any rule at all: what stands behind 'setPlain' isn't asked -/
theorem q_plainA {k v : Nat → Int32} {L : Int32} {Q : Int32 → (Nat → Int32) → (Nat → Int32) → Prop} (hq : ∀ x f g, Q x f g) : wq_X4_setPlain L k v Q := by
  refine q_add (L := 0) (by decide) (vin (by decide)) ?_
  refine q_add (L := 0 + 1) (by decide) (vin (by decide)) ?_
  refine q_add (L := 0 + 1 + 1) (by decide) (vin (by decide)) ?_
  refine q_add (L := 0 + 1 + 1 + 1) (by decide) (vin (by decide)) ?_
  refine q_add (L := 0 + 1 + 1 + 1 + 1) (by decide) (vin (by decide)) ?_
  exact hq _ _ _
theorem q_clear {v : Int32} {Q : Int32 → (Nat → Int32) → Prop} (hq : ∀ f, Q v f) : ∀ (k i : Nat) (f : Nat → Int32), i + k = 8 → wl_X0_clear_7 Q (k + 1) v f (nI i) := by
  intro k
  induction k with
  | zero =>
    intro i f hi
    obtain rfl : i = 8 := by omega
    exact ⟨fun _ => hq f, fun c => absurd (by decide) c⟩
  | succ k ih =>
    intro i f hi
    refine ⟨fun c => absurd c (nI_ge (b := 8) (by omega) (by omega)), fun _ => ⟨vp_in_nI (by omega) (by omega), fun f2 _ x3 e3 => ?_⟩⟩
    rw [e3, nI_1]
    exact ih (i + 1) f2 (by omega)
theorem q_bookClear {v : Int32} {f : Nat → Int32} {Q : Int32 → (Nat → Int32) → Prop} (hq : ∀ f, Q 0 f) : wq_X0_clear v f Q := ⟨9, q_clear hq 8 0 f (by omega)⟩
theorem q_begin0 {Q : (Nat → Int32) → Prop} (hq : Q (o1 0)) : ∀ (k i : Nat), i + k = 64 → wl_X1_begin_12 0 (fun _ => 0) Q (k + 1) (fun _ => 0) (nI i) := by
  intro k
  induction k with
  | zero =>
    intro i hi
    obtain rfl : i = 64 := by omega
    refine ⟨fun _ f2 e2 => ⟨1, fun _ f6 e6 => ?_, fun c => absurd (by decide) c⟩, fun c => absurd (by decide) c⟩
    have c0 : (0 : Int32).toNatClampNeg = 0 := by decide
    have c28 : (28 : Int32).toNatClampNeg = 28 := by decide
    have c36 : (36 : Int32).toNatClampNeg = 36 := by decide
    have e : f6 = o1 0 := by
      rw [e6, e2, c0, c28, c36]
      funext j
      by_cases h28 : 28 ≤ j ∧ j < 28 + 36
      · rw [pk_cpy_in h28.1 h28.2]
        show (0 : Int32) = upd (fun _ => 0) 0 1 j
        rw [pk_un (by omega)]
      · rw [pk_cpy_out (by omega)]
        rfl
    rw [e]
    exact hq
  | succ k ih =>
    intro i hi
    refine ⟨fun c => absurd c (nI_ge (b := 64) (by omega) (by omega)), fun _ => ⟨vp_in_nI (by omega) (by omega), fun f3 e3 x4 e4 => ?_⟩⟩
    rw [e4, nI_1, e3, q_up0]
    exact ih (i + 1) (by omega)
theorem q_begin {Q : (Nat → Int32) → Prop} (hq : Q (o1 0)) : wq_X1_begin 0 (fun _ => 0) (fun _ => 0) Q :=
  ⟨65, q_begin0 hq 64 0 (by omega)⟩
theorem pu_X10_init : wq_X10_init XF := by
  show wq_X4_setPlain 0 (fun _ => 0) (fun _ => 0) (fun x4 f5 f6 => wq_X4_setPlain 0 (fun _ => 0) (fun _ => 0) (fun x8 f9 f10 => wq_X0_clear 0 (fun _ => 0) (fun x12 f13 => wq_X0_clear 0 (fun _ => 0) (fun x15 f16 => wq_X1_begin 0 (fun _ => 0) (fun _ => 0) (fun f19 => wq_X1_begin 0 (fun _ => 0) (fun _ => 0) (fun f21 => XF x4 f5 f6 x8 f9 f10 x12 f13 x15 f16 f19 f21))))))
  refine q_plain ?_
  refine q_plain ?_
  refine q_bookClear (fun f13 => ?_)
  refine q_bookClear (fun f16 => ?_)
  refine q_begin ?_
  refine q_begin ?_
  exact ⟨rfl, rfl, rfl, rfl, rfl⟩
theorem q_clears {Q : Int32 → Int32 → Int32 → (Nat → Int32) → Prop} (hq : Q 0 0 0 (fun _ => 0)) : ∀ (k i : Nat), i + k = 36 → wl_X11_clears_17 Q (k + 1) 0 0 0 (fun _ => 0) (nI i) := by
  intro k
  induction k with
  | zero =>
    intro i hi
    obtain rfl : i = 36 := by omega
    exact ⟨fun _ => hq, fun c => absurd (by decide) c⟩
  | succ k ih =>
    intro i hi
    refine ⟨fun c => absurd c (nI_ge (b := 36) (by omega) (by omega)), fun _ => ⟨vp_in_nI (by omega) (by omega), fun f2 e2 x3 e3 => ?_⟩⟩
    rw [e3, nI_1, e2, q_up0]
    exact ih (i + 1) (by omega)
theorem q_clearsM {a b c : Int32} {Q : Int32 → Int32 → Int32 → (Nat → Int32) → Prop} (hq : Q 0 0 0 (fun _ => 0)) : wq_X11_clears a b c (fun _ => 0) Q :=
  ⟨37, q_clears hq 36 0 (by omega)⟩
section PuSets
variable {a1 a2 a3 : Nat → Int32} {Q : Int32 → Int32 → Int32 → (Nat → Int32) → (Nat → Int32) → (Nat → Int32) → Int32 → Int32 → Int32 → Int32 → Int32 → (Nat → Int32) → (Nat → Int32) → Prop}
theorem q_s186 {g1 g2 g3 bk : Nat → Int32} (hq : Q 0 0 0 g1 g2 g3 0 0 0 0 0 bk (o1 66)) : ∀ (k i : Nat), i + k = 36 → wl_X11_sets_186 0 0 0 a1 a2 a3 (fun _ => 0) Q (k + 1) 0 0 0 g1 g2 g3 0 0 0 0 0 bk (fun _ => 0) (nI i) := by
  intro k
  induction k with
  | zero =>
    intro i hi
    obtain rfl : i = 36 := by omega
    refine ⟨fun _ f22 e22 => ?_, fun c => absurd (by decide) c⟩
    rw [e22, show (66 : Int32).toNatClampNeg = 66 by decide]
    exact hq
  | succ k ih =>
    intro i hi
    refine ⟨fun c => absurd c (nI_ge (b := 36) (by omega) (by omega)), fun _ x23 e23 => ?_⟩
    have e' : x23 = nI (30 + i) := by rw [e23, ← nI_add]; rfl
    refine ⟨vp_in_nI (by omega) (by omega), fun x24 e24 => ⟨by rw [e']; exact vp_in_nI (by omega) (by omega), fun f25 e25 x26 e26 => ?_⟩⟩
    rw [e26, nI_1, e25, e24, q_up0]
    exact ih (i + 1) (by omega)
theorem q_s114 {g1 g2 g3 bk : Nat → Int32} (hq : Q 0 0 0 g1 g2 g3 0 0 0 0 0 bk (o1 66)) : ∀ (k i : Nat), i + k = 68 → wl_X11_sets_114 0 0 0 a1 a2 a3 (fun _ => 0) Q (k + 1) 0 0 0 g1 g2 g3 0 0 0 0 0 bk (fun _ => 0) (nI i) := by
  intro k
  induction k with
  | zero =>
    intro i hi
    obtain rfl : i = 68 := by omega
    exact ⟨fun _ => ⟨1, fun _ => ⟨37, q_s186 hq 36 0 (by omega)⟩, fun c => absurd (by decide) c⟩, fun c => absurd (by decide) c⟩
  | succ k ih =>
    intro i hi
    refine ⟨fun c => absurd c (nI_ge (b := 68) (by omega) (by omega)), fun _ => ⟨vp_in_nI (by omega) (by omega), fun f8 e8 x9 e9 => ?_⟩⟩
    rw [e9, nI_1, e8, q_up0]
    exact ih (i + 1) (by omega)
theorem q_s93 {g1 g2 g3 : Nat → Int32} (hq : ∀ bk, Q 0 0 0 g1 g2 g3 0 0 0 0 0 bk (o1 66)) : ∀ (k i : Nat) (bk : Nat → Int32), i + k = 8 → wl_X11_sets_93 0 0 0 a1 a2 a3 (fun _ => 0) Q (k + 1) 0 0 0 g1 g2 g3 0 0 0 0 0 bk (fun _ => 0) (nI i) := by
  intro k
  induction k with
  | zero =>
    intro i bk hi
    obtain rfl : i = 8 := by omega
    exact ⟨fun _ => ⟨69, q_s114 (hq bk) 68 0 (by omega)⟩, fun c => absurd (by decide) c⟩
  | succ k ih =>
    intro i bk hi
    refine ⟨fun c => absurd c (nI_ge (b := 8) (by omega) (by omega)), fun _ => ⟨vp_in_nI (by omega) (by omega), fun f5 _ x6 e6 => ?_⟩⟩
    rw [e6, nI_1]
    exact ih (i + 1) f5 (by omega)
theorem q_sets {v1 v2 v3 v4 v5 v6 v7 v8 : Int32} {g1 g2 g3 bk : Nat → Int32} (hq : ∀ g1 g2 g3 bk, Q 0 0 0 g1 g2 g3 0 0 0 0 0 bk (o1 66)) : wq_X11_sets 0 0 0 a1 a2 a3 (fun _ => 0) v1 v2 v3 g1 g2 g3 v4 v5 v6 v7 v8 bk (fun _ => 0) Q :=
  ⟨17, q_copies (N := 16) (by omega) (by omega) (by omega) (by omega) (by omega) (fun f1 _ => ⟨13, q_copies (N := 12) (by omega) (by omega) (by omega) (by omega) (by omega) (fun f2 _ => ⟨9, q_copies (N := 8) (by omega) (by omega) (by omega) (by omega) (by omega) (fun f3 _ => ⟨9, q_s93 (hq f1 f2 f3) 8 0 bk (by omega)⟩) 8 0 g3 (by omega) (fun j h => absurd h (Nat.not_lt_zero j))⟩) 12 0 g2 (by omega) (fun j h => absurd h (Nat.not_lt_zero j))⟩) 16 0 g1 (by omega) (fun j h => absurd h (Nat.not_lt_zero j))⟩
end PuSets
theorem pu_X11_init : wq_X11_init MF :=
  q_clearsM (q_sets (fun g1 g2 g3 bk => ⟨rfl, rfl, rfl, rfl, rfl, rfl, rfl, rfl, rfl, rfl, rfl, rfl⟩))
