/-! the ring of the forms -/
def mnF (g : Nat → Int) (left : Nat) : Nat → Int
  | 0 => 2147483647
  | k + 1 => if 1 ≤ k ∧ left.testBit (k - 1) = true then (if g k < mnF g left k then g k else mnF g left k) else mnF g left k
/-- the least way that is left to go: fuel, forms left (form f by bit f - 1), where one stands -/
def rgW (F : Nat → Int) (nf : Nat) : Nat → Nat → Nat → Int
  | 0, _, last => fr F last 0
  | k + 1, left, last => if left = 0 then fr F last 0 else mnF (fun next => fr F last next + rgW F nf k (left - 2 ^ (next - 1)) next) left nf
def rgT (F : Nat → Int) (nf left last : Nat) : Int := rgW F nf left left last
theorem mn_ext {g h : Nat → Int} {left : Nat} : ∀ k : Nat, (∀ j : Nat, 1 ≤ j → j < k → left.testBit (j - 1) = true → g j = h j) → mnF g left k = mnF h left k := by
  intro k
  induction k with
  | zero => intro _; rfl
  | succ k ih =>
    intro hh
    show (if 1 ≤ k ∧ left.testBit (k - 1) = true then (if g k < mnF g left k then g k else mnF g left k) else mnF g left k) = (if 1 ≤ k ∧ left.testBit (k - 1) = true then (if h k < mnF h left k then h k else mnF h left k) else mnF h left k)
    rw [ih (fun j h1 h2 h3 => hh j h1 (by omega) h3)]
    by_cases c : 1 ≤ k ∧ left.testBit (k - 1) = true
    · rw [if_pos c, if_pos c, hh k c.1 (by omega) c.2]
    · rw [if_neg c, if_neg c]
theorem pow_le_of_bit {X j : Nat} (h : X.testBit j = true) : 2 ^ j ≤ X := Nat.ge_two_pow_of_testBit h
theorem rg_fuel {F : Nat → Int} {nf : Nat} : ∀ k left last : Nat, left ≤ k → rgW F nf k left last = rgT F nf left last := by
  intro k
  induction k using Nat.strongRecOn with
  | _ k ih =>
    intro left last h
    unfold rgT
    cases k with
    | zero => rw [show left = 0 by omega]
    | succ k =>
      cases left with
      | zero => show (if (0 : Nat) = 0 then fr F last 0 else _) = fr F last 0; rw [if_pos rfl]
      | succ m =>
        show (if m + 1 = 0 then fr F last 0 else mnF (fun next => fr F last next + rgW F nf k (m + 1 - 2 ^ (next - 1)) next) (m + 1) nf) = (if m + 1 = 0 then fr F last 0 else mnF (fun next => fr F last next + rgW F nf m (m + 1 - 2 ^ (next - 1)) next) (m + 1) nf)
        rw [if_neg (by omega), if_neg (by omega)]
        refine mn_ext nf (fun j _ _ hb => ?_)
        have hp := pow_le_of_bit hb
        have h1 : 0 < 2 ^ (j - 1) := Nat.two_pow_pos _
        show fr F last j + rgW F nf k (m + 1 - 2 ^ (j - 1)) j = fr F last j + rgW F nf m (m + 1 - 2 ^ (j - 1)) j
        rw [ih k (by omega) (m + 1 - 2 ^ (j - 1)) j (by omega), ih m (by omega) (m + 1 - 2 ^ (j - 1)) j (by omega)]
theorem rg_0 {F : Nat → Int} {nf last : Nat} : rgT F nf 0 last = fr F last 0 := rfl
theorem rg_s {F : Nat → Int} {nf left last : Nat} (h : left ≠ 0) : rgT F nf left last = mnF (fun next => fr F last next + rgT F nf (left - 2 ^ (next - 1)) next) left nf := by
  obtain ⟨m, rfl⟩ : ∃ m : Nat, left = m + 1 := ⟨left - 1, by omega⟩
  show (if m + 1 = 0 then fr F last 0 else mnF (fun next => fr F last next + rgW F nf m (m + 1 - 2 ^ (next - 1)) next) (m + 1) nf) = _
  rw [if_neg h]
  refine mn_ext nf (fun j _ _ hb => ?_)
  have hp := pow_le_of_bit hb
  have h1 : 0 < 2 ^ (j - 1) := Nat.two_pow_pos _
  show fr F last j + rgW F nf m (m + 1 - 2 ^ (j - 1)) j = fr F last j + rgT F nf (m + 1 - 2 ^ (j - 1)) j
  rw [rg_fuel m (m + 1 - 2 ^ (j - 1)) j (by omega)]
/-- the least of them is one of them, where there is one -/
theorem mn_or {g : Nat → Int} {left : Nat} : ∀ k : Nat, mnF g left k = 2147483647 ∨ ∃ j : Nat, 1 ≤ j ∧ j < k ∧ left.testBit (j - 1) = true ∧ mnF g left k = g j := by
  intro k
  induction k with
  | zero => exact Or.inl rfl
  | succ k ih =>
    have go : mnF g left k = 2147483647 ∨ ∃ j : Nat, 1 ≤ j ∧ j < k + 1 ∧ left.testBit (j - 1) = true ∧ mnF g left k = g j := ih.imp id (fun ⟨j, h1, h2, h3, h4⟩ => ⟨j, h1, by omega, h3, h4⟩)
    show (if 1 ≤ k ∧ left.testBit (k - 1) = true then (if g k < mnF g left k then g k else mnF g left k) else mnF g left k) = _ ∨ ∃ j : Nat, 1 ≤ j ∧ j < k + 1 ∧ left.testBit (j - 1) = true ∧ (if 1 ≤ k ∧ left.testBit (k - 1) = true then (if g k < mnF g left k then g k else mnF g left k) else mnF g left k) = g j
    by_cases c : 1 ≤ k ∧ left.testBit (k - 1) = true
    · rw [if_pos c]
      by_cases d : g k < mnF g left k
      · rw [if_pos d]; exact Or.inr ⟨k, c.1, by omega, c.2, rfl⟩
      · rw [if_neg d]; exact go
    · rw [if_neg c]; exact go
theorem mn_le {g : Nat → Int} {left : Nat} : ∀ (k j : Nat), 1 ≤ j → j < k → left.testBit (j - 1) = true → mnF g left k ≤ g j := by
  intro k
  induction k with
  | zero => intro j h1 h2; omega
  | succ k ih =>
    intro j h1 h2 h3
    show (if 1 ≤ k ∧ left.testBit (k - 1) = true then (if g k < mnF g left k then g k else mnF g left k) else mnF g left k) ≤ g j
    by_cases z : j = k
    · rw [z] at h1 h3 ⊢
      rw [if_pos ⟨h1, h3⟩]
      by_cases d : g k < mnF g left k
      · rw [if_pos d]; exact Int.le_refl _
      · rw [if_neg d]; omega
    · have i := ih j h1 (by omega) h3
      by_cases c : 1 ≤ k ∧ left.testBit (k - 1) = true
      · rw [if_pos c]
        by_cases d : g k < mnF g left k
        · rw [if_pos d]; omega
        · rw [if_neg d]; exact i
      · rw [if_neg c]; exact i
/-- some form is left -/
theorem bit_ex {X nf : Nat} (h0 : X ≠ 0) (hX : X < 2 ^ (nf - 1)) : ∃ j : Nat, 1 ≤ j ∧ j < nf ∧ X.testBit (j - 1) = true := by
  obtain ⟨i, hi⟩ := Nat.exists_testBit_of_ne_zero h0
  have hp := pow_le_of_bit hi
  have : i < nf - 1 := (Nat.pow_lt_pow_iff_right (by decide : 1 < 2)).mp (by omega)
  exact ⟨i + 1, by omega, by omega, by rw [show i + 1 - 1 = i by omega]; exact hi⟩
theorem clr_dec : ∀ X : Fin 256, ∀ j : Fin 8, X.val.testBit j.val = true → Int32.ofNat X.val &&& ((1 <<< (Int32.ofNat j.val &&& 31)) ^^^ (-1)) = Int32.ofNat (X.val - 2 ^ j.val) ∧ ∀ i : Fin 8, (X.val - 2 ^ j.val).testBit i.val = (X.val.testBit i.val && decide (i.val ≠ j.val)) := by decide +kernel
theorem pc_decf : ∀ X : Fin 256, ∀ j : Fin 8, X.val.testBit j.val = true → pcB (X.val - 2 ^ j.val) 8 + 1 = pcB X.val 8 := by decide +kernel
section FR
variable {NF : Nat} {X Y fo : Nat → Int32} {F : Nat → Int} {nf p q : Int32}
/-- no way is longer than 60 for each form that is left, and home -/
theorem rg_rng (hF : ∀ j : Nat, j < 2 * NF → 0 ≤ F j ∧ F j ≤ 30) (h8 : NF ≤ 8) (hn : 0 < NF) : ∀ (k left last : Nat), left ≤ k → left < 2 ^ (NF - 1) → last < NF → 0 ≤ rgT F NF left last ∧ rgT F NF left last ≤ 60 * ((pcB left 8 : Nat) + 1 : Int) := by
  have h128 : 2 ^ (NF - 1) ≤ 2 ^ 7 := Nat.pow_le_pow_right (by decide) (by omega)
  have e7 : (2 : Nat) ^ 7 = 128 := by decide
  intro k
  induction k with
  | zero =>
    intro left last h1 h2 h3
    rw [show left = 0 by omega, rg_0]
    have := fr_le hF h3 hn
    omega
  | succ k ih =>
    intro left last h1 h2 h3
    by_cases z : left = 0
    · rw [z, rg_0]
      have := fr_le hF h3 hn
      omega
    · rw [rg_s z]
      obtain ⟨j0, a1, a2, a3⟩ := bit_ex z h2
      have step : ∀ j : Nat, 1 ≤ j → j < NF → left.testBit (j - 1) = true → 0 ≤ fr F last j + rgT F NF (left - 2 ^ (j - 1)) j ∧ fr F last j + rgT F NF (left - 2 ^ (j - 1)) j ≤ 60 * ((pcB left 8 : Nat) + 1 : Int) := fun j b1 b2 b3 => by
        have hp := pow_le_of_bit b3
        have h1 : 0 < 2 ^ (j - 1) := Nat.two_pow_pos _
        have i := ih (left - 2 ^ (j - 1)) j (by omega) (by omega) b2
        have f := fr_le hF h3 b2
        have c := pc_decf ⟨left, by omega⟩ ⟨j - 1, by omega⟩ b3
        have c : pcB (left - 2 ^ (j - 1)) 8 + 1 = pcB left 8 := c
        omega
      have le := mn_le (g := fun next => fr F last next + rgT F NF (left - 2 ^ (next - 1)) next) (left := left) NF j0 a1 a2 a3
      have s0 := step j0 a1 a2 a3
      rcases mn_or (g := fun next => fr F last next + rgT F NF (left - 2 ^ (next - 1)) next) (left := left) NF with w | ⟨j, b1, b2, b3, b4⟩
      · have pl := pcB_le (X := left) 8
        have le : mnF (fun next => fr F last next + rgT F NF (left - 2 ^ (next - 1)) next) left NF ≤ fr F last j0 + rgT F NF (left - 2 ^ (j0 - 1)) j0 := le
        omega
      · rw [b4]; exact step j b1 b2 b3
theorem rg_540 (hF : ∀ j : Nat, j < 2 * NF → 0 ≤ F j ∧ F j ≤ 30) (h8 : NF ≤ 8) (hn : 0 < NF) {left last : Nat} (h2 : left < 2 ^ (NF - 1)) (h3 : last < NF) : 0 ≤ rgT F NF left last ∧ rgT F NF left last ≤ 540 := by
  have g := rg_rng hF h8 hn left left last (Nat.le_refl _) h2 h3
  have pl := pcB_le (X := left) 8
  omega
/-! the class -/
/-- its table is right for what is less than a set -/
def tbC (F : Nat → Int) (NF : Nat) (L : Nat → Int32) (k : Nat) : Prop := ∀ l a : Nat, l < k → l < 2 ^ (NF - 1) → 1 ≤ a → a < NF → l.testBit (a - 1) = false → (L (l * 8 + a)).toInt = rgT F NF l a
theorem ti8 {x y p : Int32} {l a : Nat} (hx : x = p * 8) (ep : p.toInt = (l : Int)) (hl : l < 128) (hy : y = x + q) (eq : q.toInt = (a : Int)) (ha : a < 8) : y.toInt = ((l * 8 + a : Nat) : Int) := by
  have e : (p * 8).toInt = p.toInt * 8 := by rw [t_mul (by rw [t_8]; omega) (by rw [t_8]; omega), t_8]
  rw [hy, hx, t_add (by rw [e]; omega) (by rw [e]; omega), e]; omega
theorem c_wayOver {L : Nat → Int32} {Q : Int32 → Prop} {r : Int32} {l a j : Nat} (hF : ∀ j : Nat, j < 2 * NF → 0 ≤ F j ∧ F j ≤ 30) (h8 : NF ≤ 8) (hpr : pr NF X Y F) (hT : tbC F NF L l) (ep : p.toInt = (l : Int)) (hl : l < 2 ^ (NF - 1)) (eq : q.toInt = (a : Int)) (ha : a < NF) (er : r.toInt = (j : Int)) (h1 : 1 ≤ j) (hj : j < NF) (hb : l.testBit (j - 1) = true) (hq : ∀ x : Int32, x.toInt = fr F a j + rgT F NF (l - 2 ^ (j - 1)) j → Q x) : wq_X6_wayOver X Y L p q r Q := by
  have h128 : 2 ^ (NF - 1) ≤ 2 ^ 7 := Nat.pow_le_pow_right (by decide) (by omega)
  have e7 : (2 : Nat) ^ 7 = 128 := by decide
  have hp := pow_le_of_bit hb
  have h0 : 0 < 2 ^ (j - 1) := Nat.two_pow_pos _
  intro x1 e1
  have ej : (r - 1).toInt = ((j - 1 : Nat) : Int) := by rw [t_pred (by omega), er]; omega
  have dc := clr_dec ⟨l, by omega⟩ ⟨j - 1, by omega⟩ hb
  rw [ofN_eq ep (by omega), ofN_eq ej (by omega)] at e1
  have k1 : x1.toInt = ((l - 2 ^ (j - 1) : Nat) : Int) := by
    rw [e1, dc.1]
    exact Int32.toInt_ofNat_of_lt (by show l - 2 ^ (j - 1) < _; omega)
  refine z_apart hF h8 hpr eq ha er hj (fun r2 er2 x3 e3 x4 e4 => ?_)
  have k4 := ti8 e3 k1 (by omega) e4 er (by omega)
  refine ⟨t_in (by omega) (by omega), fun x5 e5 => hq _ ?_⟩
  rw [t_clamp k4] at e5
  have bz : (l - 2 ^ (j - 1)).testBit (j - 1) = false := by
    have := dc.2 ⟨j - 1, by omega⟩
    simp at this; exact this
  have tv := hT (l - 2 ^ (j - 1)) j (by omega) (by omega) h1 hj bz
  rw [← e5] at tv
  have f := fr_le hF ha hj
  have g := rg_540 hF h8 (by omega) (left := l - 2 ^ (j - 1)) (last := j) (by omega) hj
  rw [t_add (by omega) (by omega), er2, tv]
theorem c_leastWay {L : Nat → Int32} {Q : Int32 → Prop} {l a : Nat} (hF : ∀ j : Nat, j < 2 * NF → 0 ≤ F j ∧ F j ≤ 30) (h8 : NF ≤ 8) (hn : 0 < NF) (hpr : pr NF X Y F) (ef : nf.toInt = (NF : Int)) (hT : tbC F NF L l) (ep : p.toInt = (l : Int)) (hl : l < 2 ^ (NF - 1)) (eq : q.toInt = (a : Int)) (ha : a < NF) (hq : ∀ x : Int32, x.toInt = rgT F NF l a → Q x) : wq_X6_leastWay nf X Y L p q Q := by
  have h128 : 2 ^ (NF - 1) ≤ 2 ^ 7 := Nat.pow_le_pow_right (by decide) (by omega)
  have e7 : (2 : Nat) ^ 7 = 128 := by decide
  refine ⟨fun z => ?_, fun z => ?_⟩
  · have l0 : l ≠ 0 := fun d => z (t_eq.mpr (by rw [ep, d, t_0]; rfl))
    have go : ∀ (m : Nat) (l4 l5 : Int32) (k : Nat), l5.toInt = (k : Int) → 1 ≤ k → k ≤ NF → l4.toInt = mnF (fun next => fr F a next + rgT F NF (l - 2 ^ (next - 1)) next) l k → NF - k < m → wl_X6_leastWay_18 nf X Y L Q m p q l4 l5 := by
      intro m
      induction m with
      | zero => intro l4 l5 k h1 h2 h3 h4 h5; omega
      | succ m ih =>
        intro l4 l5 k h1 h2 h3 h4 h5
        have nx : ∀ x : Int32, x = l5 + 1 → x.toInt = ((k + 1 : Nat) : Int) := fun x e => by rw [e, t_inc (by omega), h1]; omega
        have st : mnF (fun next => fr F a next + rgT F NF (l - 2 ^ (next - 1)) next) l (k + 1) = if 1 ≤ k ∧ l.testBit (k - 1) = true then (if fr F a k + rgT F NF (l - 2 ^ (k - 1)) k < mnF (fun next => fr F a next + rgT F NF (l - 2 ^ (next - 1)) next) l k then fr F a k + rgT F NF (l - 2 ^ (k - 1)) k else mnF (fun next => fr F a next + rgT F NF (l - 2 ^ (next - 1)) next) l k) else mnF (fun next => fr F a next + rgT F NF (l - 2 ^ (next - 1)) next) l k := rfl
        refine ⟨fun c => ?_, fun c => ?_⟩
        · rw [t_le] at c
          rw [show k = NF by omega, ← rg_s l0] at h4
          exact hq l4 h4
        · rw [t_le] at c
          have hk : k < NF := by omega
          have hb := b8_bit (x := p) (X := l) (j := k - 1) (p := l5 - 1) (ofN_eq ep (by omega)) (by omega) (by rw [t_pred (by omega), h1]; omega) (by omega)
          refine ⟨fun w => ⟨fun _ x8 e8 => ih l4 x8 (k + 1) (nx x8 e8) (by omega) (by omega) ?_ (by omega), fun d => absurd rfl d⟩, fun w => ⟨fun d => absurd d (by decide), fun _ => c_wayOver hF h8 hpr hT ep hl eq ha h1 h2 hk (hb.mp w) (fun r6 er6 x7 e7 x8 e8 => ih x7 x8 (k + 1) (nx x8 e8) (by omega) (by omega) ?_ (by omega))⟩⟩
          · rw [st, if_neg (fun d => w (hb.mpr d.2))]; exact h4
          · rw [st, if_pos ⟨h2, hb.mp w⟩, e7]
            by_cases d : r6 < l4
            · rw [if_pos d]
              rw [t_lt] at d
              rw [if_pos (by omega)]; exact er6
            · rw [if_neg d]
              rw [t_lt] at d
              rw [if_neg (by omega)]; exact h4
    have m1 : mnF (fun next => fr F a next + rgT F NF (l - 2 ^ (next - 1)) next) l 1 = 2147483647 := by
      show (if 1 ≤ 0 ∧ _ then _ else (2147483647 : Int)) = _
      rw [if_neg (fun d => absurd d.1 (by decide))]
    exact ⟨9, go 9 2147483647 1 1 t_1 (Nat.le_refl _) (by omega) (by rw [m1]; decide) (by omega)⟩
  · have l0 : l = 0 := by rw [t_eq, t_0] at z; omega
    refine z_apart hF h8 hpr eq ha (j := 0) t_0 hn (fun r er => hq r ?_)
    rw [l0, rg_0]; exact er
theorem c_settleFor {L0 : Nat → Int32} {Q : (Nat → Int32) → Prop} {l : Nat} (hF : ∀ j : Nat, j < 2 * NF → 0 ≤ F j ∧ F j ≤ 30) (h8 : NF ≤ 8) (hn : 0 < NF) (hpr : pr NF X Y F) (ef : nf.toInt = (NF : Int)) (hT : tbC F NF L0 l) (ep : p.toInt = (l : Int)) (hl : l < 2 ^ (NF - 1)) (hq : ∀ L : Nat → Int32, tbC F NF L (l + 1) → Q L) : wq_X6_settleFor nf X Y L0 p Q := by
  have h128 : 2 ^ (NF - 1) ≤ 2 ^ 7 := Nat.pow_le_pow_right (by decide) (by omega)
  have e7 : (2 : Nat) ^ 7 = 128 := by decide
  have go : ∀ (m : Nat) (L : Nat → Int32) (l3 : Int32) (k : Nat), l3.toInt = (k : Int) → 1 ≤ k → k ≤ NF → tbC F NF L l → (∀ a : Nat, 1 ≤ a → a < k → l.testBit (a - 1) = false → (L (l * 8 + a)).toInt = rgT F NF l a) → NF - k < m → wl_X6_settleFor_2 nf X Y Q m L p l3 := by
    intro m
    induction m with
    | zero => intro L l3 k h1 h2 h3 h4 h6 h5; omega
    | succ m ih =>
      intro L l3 k h1 h2 h3 h4 h6 h5
      have nx : ∀ x : Int32, x = l3 + 1 → k < NF → x.toInt = ((k + 1 : Nat) : Int) := fun x e hk => by rw [e, t_inc (by omega), h1]; omega
      refine ⟨fun c => hq L (fun l' a b1 b2 b3 b4 b5 => ?_), fun c => ?_⟩
      · rw [t_le] at c
        by_cases z : l' = l
        · rw [z] at b5 ⊢
          exact h6 a b3 (by omega) b5
        · exact h4 l' a (by omega) b2 b3 b4 b5
      · rw [t_le] at c
        have hk : k < NF := by omega
        have hb := b8_bit (x := p) (X := l) (j := k - 1) (p := l3 - 1) (ofN_eq ep (by omega)) (by omega) (by rw [t_pred (by omega), h1]; omega) (by omega)
        refine ⟨fun w => ⟨fun d => absurd rfl d, fun _ x4 e4 x5 e5 => ?_⟩, fun w => ⟨fun _ x8 e8 => ih L x8 (k + 1) (nx x8 e8 hk) (by omega) (by omega) h4 (fun a b1 b2 b3 => ?_) (by omega), fun d => absurd d (by decide)⟩⟩
        · have k5 := ti8 e4 ep (by omega) e5 h1 (by omega)
          refine c_leastWay hF h8 hn hpr ef h4 ep hl h1 hk (fun r6 er6 => ⟨t_in (by omega) (by omega), fun f7 e7 x8 e8 => ih f7 x8 (k + 1) (nx x8 e8 hk) (by omega) (by omega) (fun l' a b1 b2 b3 b4 b5 => ?_) (fun a b1 b2 b3 => ?_) (by omega)⟩)
          · rw [t_clamp k5] at e7
            rw [e7, pk_un (by omega)]; exact h4 l' a b1 b2 b3 b4 b5
          · rw [t_clamp k5] at e7
            by_cases z : a = k
            · rw [e7, z, pk_us]; exact er6
            · rw [e7, pk_un (by omega)]; exact h6 a b1 (by omega) b3
        · by_cases z : a = k
          · rw [z] at b3
            rw [hb.mp w] at b3
            exact absurd b3 (by decide)
          · exact h6 a b1 (by omega) b3
  exact ⟨9, go 9 L0 1 1 t_1 (Nat.le_refl _) (by omega) hT (fun a b1 b2 => by omega) (by omega)⟩
end FR
