/-! how far two forms lie -/
def iab (x : Int) : Int := if 0 ≤ x then x else -x
/-- the forms' way by the pairs -/
def fr (F : Nat → Int) (i j : Nat) : Int := iab (F (2 * i) - F (2 * j)) + iab (F (2 * i + 1) - F (2 * j + 1))
theorem iab_le {x m : Int} (h1 : -m ≤ x) (h2 : x ≤ m) : 0 ≤ iab x ∧ iab x ≤ m := by
  unfold iab
  by_cases c : 0 ≤ x
  · rw [if_pos c]; omega
  · rw [if_neg c]; omega
theorem t_iab {x y : Int32} (hx : 0 ≤ x.toInt ∧ x.toInt ≤ 30) (hy : 0 ≤ y.toInt ∧ y.toInt ≤ 30) : (if 0 ≤ x - y then x - y else 0 - (x - y)).toInt = iab (x.toInt - y.toInt) := by
  have e : (x - y).toInt = x.toInt - y.toInt := t_sub (by omega) (by omega)
  unfold iab
  by_cases c : 0 ≤ x - y
  · rw [if_pos c]
    rw [t_le, t_0, e] at c
    rw [if_pos c, e]
  · rw [if_neg c]
    rw [t_le, t_0, e] at c
    rw [if_neg c, t_sub (by rw [t_0, e]; omega) (by rw [t_0, e]; omega), t_0, e]; omega
theorem z_size {x y : Int32} {Q : Int32 → Prop} (hx : 0 ≤ x.toInt ∧ x.toInt ≤ 30) (hy : 0 ≤ y.toInt ∧ y.toInt ≤ 30) (hq : ∀ r : Int32, r.toInt = iab (x.toInt - y.toInt) → Q r) : wq_X11_size (x - y) Q := by
  have e : (x - y).toInt = x.toInt - y.toInt := t_sub (by omega) (by omega)
  refine ⟨fun c => hq _ ?_, fun c => hq _ ?_⟩
  · rw [t_le, t_0, e] at c
    unfold iab; rw [if_pos c, e]
  · rw [t_le, t_0, e] at c
    unfold iab
    rw [if_neg c, show (-(x - y) : Int32) = 0 - (x - y) by rw [Int32.zero_sub], t_sub (by rw [t_0, e]; omega) (by rw [t_0, e]; omega), t_0, e]; omega
section ZF
variable {NF : Nat} {X Y fo : Nat → Int32} {F : Nat → Int}
theorem fr_le (hF : ∀ j : Nat, j < 2 * NF → 0 ≤ F j ∧ F j ≤ 30) {i j : Nat} (hi : i < NF) (hj : j < NF) : 0 ≤ fr F i j ∧ fr F i j ≤ 60 := by
  have a1 := hF (2 * i) (by omega)
  have a2 := hF (2 * i + 1) (by omega)
  have a3 := hF (2 * j) (by omega)
  have a4 := hF (2 * j + 1) (by omega)
  have b1 := iab_le (x := F (2 * i) - F (2 * j)) (m := 30) (by omega) (by omega)
  have b2 := iab_le (x := F (2 * i + 1) - F (2 * j + 1)) (m := 30) (by omega) (by omega)
  unfold fr; omega
theorem z_apart {p q : Int32} {i j : Nat} {Q : Int32 → Prop} (hF : ∀ j : Nat, j < 2 * NF → 0 ≤ F j ∧ F j ≤ 30) (h8 : NF ≤ 8) (hp : pr NF X Y F) (ei : p.toInt = i) (hi : i < NF) (ej : q.toInt = j) (hj : j < NF) (hq : ∀ r : Int32, r.toInt = fr F i j → Q r) : wq_X2_apart X Y p q Q := by
  have a1 := hF (2 * i) (by omega)
  have a2 := hF (2 * i + 1) (by omega)
  have a3 := hF (2 * j) (by omega)
  have a4 := hF (2 * j + 1) (by omega)
  obtain ⟨c1, c2⟩ := hp i hi
  obtain ⟨c3, c4⟩ := hp j hj
  refine ⟨t_in (by omega) (by omega), fun x1 e1 => ⟨t_in (by omega) (by omega), fun x2 e2 x3 e3 => ⟨t_in (by omega) (by omega), fun x4 e4 => ⟨t_in (by omega) (by omega), fun x5 e5 x6 e6 => hq _ ?_⟩⟩⟩⟩
  rw [t_clamp ei] at e1 e4
  rw [t_clamp ej] at e2 e5
  rw [← e1] at c1
  rw [← e2] at c3
  rw [← e4] at c2
  rw [← e5] at c4
  have d3 : x3.toInt = iab (x1.toInt - x2.toInt) := by rw [e3]; exact t_iab (by omega) (by omega)
  have d6 : x6.toInt = iab (x4.toInt - x5.toInt) := by rw [e6]; exact t_iab (by omega) (by omega)
  rw [c1, c3] at d3
  rw [c2, c4] at d6
  have b := fr_le hF hi hj
  have b1 := iab_le (x := F (2 * i) - F (2 * j)) (m := 30) (by omega) (by omega)
  have b2 := iab_le (x := F (2 * i + 1) - F (2 * j + 1)) (m := 30) (by omega) (by omega)
  rw [t_add (by omega) (by omega), d3, d6]; rfl
theorem z_farOf {p q : Int32} {i j : Nat} {Q : Int32 → Prop} (hF : ∀ j : Nat, j < 2 * NF → 0 ≤ F j ∧ F j ≤ 30) (h8 : NF ≤ 8) (hp : pm (2 * NF) fo F) (ei : p.toInt = i) (hi : i < NF) (ej : q.toInt = j) (hj : j < NF) (hq : ∀ r : Int32, r.toInt = fr F i j → Q r) : wq_X11_farOf fo p q Q := by
  have a1 := hF (2 * i) (by omega)
  have a2 := hF (2 * i + 1) (by omega)
  have a3 := hF (2 * j) (by omega)
  have a4 := hF (2 * j + 1) (by omega)
  have c1 := hp (2 * i) (by omega)
  have c2 := hp (2 * i + 1) (by omega)
  have c3 := hp (2 * j) (by omega)
  have c4 := hp (2 * j + 1) (by omega)
  intro x1 e1
  have i1 : x1.toInt = ((2 * i : Nat) : Int) := by rw [e1]; exact t_dbl ei (by omega)
  refine ⟨t_in (by omega) (by omega), fun x2 e2 x3 e3 => ?_⟩
  have i3 : x3.toInt = ((2 * j : Nat) : Int) := by rw [e3]; exact t_dbl ej (by omega)
  refine ⟨t_in (by omega) (by omega), fun x4 e4 => ?_⟩
  rw [t_clamp i1] at e2
  rw [t_clamp i3] at e4
  rw [← e2] at c1
  rw [← e4] at c3
  refine z_size (by omega) (by omega) (fun r5 d5 x6 e6 x7 e7 => ?_)
  have i7 : x7.toInt = ((2 * i + 1 : Nat) : Int) := by rw [e7]; exact t_dbl1 (by rw [e6]; exact t_dbl ei (by omega)) (by omega)
  refine ⟨t_in (by omega) (by omega), fun x8 e8 x9 e9 x10 e10 => ?_⟩
  have i10 : x10.toInt = ((2 * j + 1 : Nat) : Int) := by rw [e10]; exact t_dbl1 (by rw [e9]; exact t_dbl ej (by omega)) (by omega)
  refine ⟨t_in (by omega) (by omega), fun x11 e11 => ?_⟩
  rw [t_clamp i7] at e8
  rw [t_clamp i10] at e11
  rw [← e8] at c2
  rw [← e11] at c4
  refine z_size (by omega) (by omega) (fun r12 d12 => hq _ ?_)
  rw [c1, c3] at d5
  rw [c2, c4] at d12
  have b1 := iab_le (x := F (2 * i) - F (2 * j)) (m := 30) (by omega) (by omega)
  have b2 := iab_le (x := F (2 * i + 1) - F (2 * j + 1)) (m := 30) (by omega) (by omega)
  rw [t_add (by omega) (by omega), d5, d12]; rfl
end ZF
/-! sets of at most eight: bits -/
def orN (P : Nat → Bool) : Nat → Nat
  | 0 => 0
  | k + 1 => if P k = true then orN P k ||| (1 <<< k) else orN P k
theorem orN_lt {P : Nat → Bool} : ∀ k : Nat, orN P k < 2 ^ k := by
  intro k
  induction k with
  | zero => exact Nat.one_pos
  | succ k ih =>
    have e : 2 ^ (k + 1) = 2 ^ k * 2 := Nat.pow_succ ..
    unfold orN
    by_cases c : P k = true
    · rw [if_pos c]
      exact Nat.or_lt_two_pow (by omega) (by rw [Nat.one_shiftLeft]; omega)
    · rw [if_neg c]; omega
theorem orN_bit {P : Nat → Bool} : ∀ k j : Nat, (orN P k).testBit j = (decide (j < k) && P j) := by
  intro k
  induction k with
  | zero => intro j; show (0 : Nat).testBit j = _; rw [Nat.zero_testBit]; simp
  | succ k ih =>
    intro j
    unfold orN
    by_cases c : P k = true
    · rw [if_pos c, Nat.testBit_or, ih j, Nat.one_shiftLeft, Nat.testBit_two_pow]
      by_cases z : k = j
      · subst z; simp [c]
      · by_cases z2 : j < k
        · simp [z, z2, show j < k + 1 by omega]
        · simp [z, z2, show ¬ j < k + 1 by omega]
    · rw [if_neg c, ih j]
      by_cases z : j = k
      · subst z; simp [c]
      · by_cases z2 : j < k
        · simp [z2, show j < k + 1 by omega]
        · simp [z2, show ¬ j < k + 1 by omega]
theorem orN_le {P : Nat → Bool} {k : Nat} (h : k ≤ 8) : orN P k < 256 := by
  have := orN_lt (P := P) k
  have h2 : 2 ^ k ≤ 2 ^ 8 := Nat.pow_le_pow_right (by decide) h
  have h3 : (2 : Nat) ^ 8 = 256 := by decide
  omega
theorem orN_ext {P R : Nat → Bool} : ∀ k : Nat, (∀ j : Nat, j < k → P j = R j) → orN P k = orN R k := by
  intro k
  induction k with
  | zero => intro _; rfl
  | succ k ih =>
    intro h
    unfold orN
    rw [h k (by omega), ih (fun j hj => h j (by omega))]
theorem b8_dec : ∀ X : Fin 256, ∀ j : Fin 8, (((Int32.ofNat X.val) >>> ((Int32.ofNat j.val) &&& 31)) &&& 1 = 1) ↔ X.val.testBit j.val = true := by decide +kernel
theorem b8_sh : ∀ j : Fin 8, (1 <<< ((Int32.ofNat j.val) &&& 31) : Int32) = Int32.ofNat (1 <<< j.val) := by decide
theorem ofN_eq {x : Int32} {k : Nat} (h : x.toInt = k) (hk : k < 2147483648) : x = Int32.ofNat k := by
  rw [t_eq, h, Int32.toInt_ofNat_of_lt (by omega)]
theorem b8_bit {x : Int32} {X j : Nat} {p : Int32} (hx : x = Int32.ofNat X) (hX : X < 256) (hp : p.toInt = j) (hj : j < 8) : ((x >>> (p &&& 31)) &&& 1 = 1) ↔ X.testBit j = true := by
  rw [hx, ofN_eq hp (by omega)]
  exact b8_dec ⟨X, hX⟩ ⟨j, hj⟩
theorem b8_or {x : Int32} {X j : Nat} {p : Int32} (hx : x = Int32.ofNat X) (hX : X < 256) (hp : p.toInt = j) (hj : j < 8) : x ||| (1 <<< (p &&& 31)) = Int32.ofNat (X ||| (1 <<< j)) := by
  have h1 : 1 <<< j < 256 := by
    rw [Nat.one_shiftLeft]
    have : 2 ^ j ≤ 2 ^ 7 := Nat.pow_le_pow_right (by decide) (by omega)
    have h3 : (2 : Nat) ^ 7 = 128 := by decide
    omega
  have h2 : X ||| (1 <<< j) < 2 ^ 8 := Nat.or_lt_two_pow (by omega) (by omega)
  rw [hx, ofN_eq hp (by omega), b8_sh ⟨j, hj⟩, t_eq]
  have ea : (Int32.ofNat X).toBitVec.toNat = X := by show X % 2 ^ 32 = X; exact Nat.mod_eq_of_lt (by omega)
  have eb : (Int32.ofNat (1 <<< j)).toBitVec.toNat = 1 <<< j := by show (1 <<< j) % 2 ^ 32 = _; exact Nat.mod_eq_of_lt (by omega)
  have e := t_ofn (x := Int32.ofNat X ||| Int32.ofNat (1 <<< j)) (by rw [t_orn, ea, eb]; omega)
  rw [e, t_orn, ea, eb, Int32.toInt_ofNat_of_lt (by omega)]
/-! safe forms -/
/-- a fox is near -/
def nrB (F G : Nat → Int) (i : Nat) : Nat → Bool
  | 0 => false
  | k + 1 => nrB F G i k || decide (iab (F (2 * i) - G (2 * k)) + iab (F (2 * i + 1) - G (2 * k + 1)) ≤ 3)
/-- the safe forms' bits -/
def sfN (F G : Nat → Int) (nf nx : Nat) : Nat := orN (fun i => !(nrB F G i nx)) nf
theorem nrB_mono {F G : Nat → Int} {i k m : Nat} (h : nrB F G i k = true) (hk : k ≤ m) : nrB F G i m = true := by
  induction m with
  | zero => rw [show k = 0 by omega] at h; exact h
  | succ m ih =>
    by_cases z : k = m + 1
    · rw [← z]; exact h
    · show (nrB F G i m || _) = true
      rw [ih (by omega)]; rfl
section ZS
variable {NF NX : Nat} {X Y FX FY fo fx : Nat → Int32} {F G : Nat → Int}
theorem z_near {p nx : Int32} {i : Nat} {Q : Int32 → Prop} (hF : ∀ j : Nat, j < 2 * NF → 0 ≤ F j ∧ F j ≤ 30) (hG : ∀ j : Nat, j < 2 * NX → 0 ≤ G j ∧ G j ≤ 30) (h8 : NF ≤ 8) (h4 : NX ≤ 4) (hp : pr NF X Y F) (hx : pr NX FX FY G) (ex : nx.toInt = NX) (ei : p.toInt = i) (hi : i < NF) (q1 : nrB F G i NX = true → Q 1) (q0 : nrB F G i NX = false → Q 0) :
    ∀ (m : Nat) (l2 : Int32) (k : Nat), l2.toInt = k → k ≤ NX → nrB F G i k = false → NX - k < m → wl_X2_foxIsNear_2 nx X FX Y FY Q m p l2 := by
  intro m
  induction m with
  | zero => intro l2 k h1 h2 h3 h4; omega
  | succ m ih =>
    intro l2 k h1 h2 h3 h5
    refine ⟨fun c => ?_, fun c => ?_⟩
    · rw [t_le] at c
      rw [show k = NX by omega] at h3
      exact q0 h3
    rw [t_le] at c
    have a1 := hF (2 * i) (by omega)
    have a2 := hF (2 * i + 1) (by omega)
    have a3 := hG (2 * k) (by omega)
    have a4 := hG (2 * k + 1) (by omega)
    obtain ⟨c1, c2⟩ := hp i hi
    obtain ⟨c3, c4⟩ := hx k (by omega)
    refine ⟨t_in (by omega) (by omega), fun x2 e2 => ⟨t_in (by omega) (by omega), fun x3 e3 x4 e4 => ⟨t_in (by omega) (by omega), fun x5 e5 => ⟨t_in (by omega) (by omega), fun x6 e6 x7 e7 => ?_⟩⟩⟩⟩
    rw [t_clamp ei] at e2 e5
    rw [t_clamp h1] at e3 e6
    rw [← e2] at c1
    rw [← e3] at c3
    rw [← e5] at c2
    rw [← e6] at c4
    have d4 : x4.toInt = iab (x2.toInt - x3.toInt) := by rw [e4]; exact t_iab (by omega) (by omega)
    have d7 : x7.toInt = iab (x5.toInt - x6.toInt) := by rw [e7]; exact t_iab (by omega) (by omega)
    rw [c1, c3] at d4
    rw [c2, c4] at d7
    have b1 := iab_le (x := F (2 * i) - G (2 * k)) (m := 30) (by omega) (by omega)
    have b2 := iab_le (x := F (2 * i + 1) - G (2 * k + 1)) (m := 30) (by omega) (by omega)
    have es : (x4 + x7).toInt = iab (F (2 * i) - G (2 * k)) + iab (F (2 * i + 1) - G (2 * k + 1)) := by rw [t_add (by omega) (by omega), d4, d7]
    refine ⟨fun c9 x9 e9 => ?_, fun c9 => q1 ?_⟩
    · rw [t_lt, t_3, es] at c9
      refine ih x9 (k + 1) (by rw [e9, t_inc (by omega), h1]; omega) (by omega) ?_ (by omega)
      show (nrB F G i k || decide _) = false
      rw [h3, Bool.false_or]
      exact decide_eq_false (by omega)
    · rw [t_lt, t_3, es] at c9
      refine nrB_mono (k := k + 1) ?_ (by omega)
      show (nrB F G i k || decide _) = true
      rw [h3, Bool.false_or]
      exact decide_eq_true (by omega)
theorem z_findSafe {nf nx sf : Int32} {Q : Int32 → Prop} (hF : ∀ j : Nat, j < 2 * NF → 0 ≤ F j ∧ F j ≤ 30) (hG : ∀ j : Nat, j < 2 * NX → 0 ≤ G j ∧ G j ≤ 30) (h8 : NF ≤ 8) (h4 : NX ≤ 4) (hp : pr NF X Y F) (hx : pr NX FX FY G) (en : nf.toInt = NF) (ex : nx.toInt = NX) (hq : ∀ r : Int32, r = Int32.ofNat (sfN F G NF NX) → Q r) : wq_X2_findSafe nf nx X FX Y FY sf Q := by
  have go : ∀ (m : Nat) (v l1 : Int32) (k : Nat), l1.toInt = k → k ≤ NF → v = Int32.ofNat (orN (fun i => !(nrB F G i NX)) k) → NF - k < m → wl_X2_findSafe_7 nf nx X FX Y FY Q m v l1 := by
    intro m
    induction m with
    | zero => intro v l1 k h1 h2 h3 h5; omega
    | succ m ih =>
      intro v l1 k h1 h2 h3 h5
      refine ⟨fun c => ?_, fun c => ?_⟩
      · rw [t_le] at c
        rw [show k = NF by omega] at h3
        exact hq v h3
      rw [t_le] at c
      have nxt : ∀ x5 : Int32, x5 = l1 + 1 → x5.toInt = ((k + 1 : Nat) : Int) := fun x5 e => by rw [e, t_inc (by omega), h1]; omega
      refine ⟨5, z_near hF hG h8 h4 hp hx ex h1 (by omega) (fun w => ⟨fun _ x5 e5 => ?_, fun z => absurd z (by first | decide | simp)⟩) (fun w => ⟨fun z => absurd rfl z, fun _ x4 e4 x5 e5 => ?_⟩) 5 0 0 t_0 (by omega) rfl (by omega)⟩
      · refine ih v x5 (k + 1) (nxt x5 e5) (by omega) ?_ (by omega)
        unfold orN
        rw [if_neg (by rw [w]; decide)]; exact h3
      · refine ih x4 x5 (k + 1) (nxt x5 e5) (by omega) ?_ (by omega)
        unfold orN
        rw [if_pos (by rw [w]; rfl), e4]
        exact b8_or h3 (orN_le (by omega)) h1 (by omega)
  exact ⟨9, go 9 0 0 0 t_0 (by omega) rfl (by omega)⟩
theorem z_isSafeM {p nx : Int32} {i : Nat} {Q : Int32 → Prop} (hF : ∀ j : Nat, j < 2 * NF → 0 ≤ F j ∧ F j ≤ 30) (hG : ∀ j : Nat, j < 2 * NX → 0 ≤ G j ∧ G j ≤ 30) (h8 : NF ≤ 8) (h4 : NX ≤ 4) (hp : pm (2 * NF) fo F) (hx : pm (2 * NX) fx G) (ex : nx.toInt = NX) (ei : p.toInt = i) (hi : i < NF) (q0 : nrB F G i NX = true → Q 0) (q1 : nrB F G i NX = false → Q 1) : wq_X11_isSafe nx fo fx p Q := by
  have go : ∀ (m : Nat) (l2 : Int32) (k : Nat), l2.toInt = k → k ≤ NX → nrB F G i k = false → NX - k < m → wl_X11_isSafe_2 nx fo fx Q m p l2 := by
    intro m
    induction m with
    | zero => intro l2 k h1 h2 h3 h4; omega
    | succ m ih =>
      intro l2 k h1 h2 h3 h5
      refine ⟨fun c => ?_, fun c x2 e2 => ?_⟩
      · rw [t_le] at c
        rw [show k = NX by omega] at h3
        exact q1 h3
      rw [t_le] at c
      have a1 := hF (2 * i) (by omega)
      have a2 := hF (2 * i + 1) (by omega)
      have a3 := hG (2 * k) (by omega)
      have a4 := hG (2 * k + 1) (by omega)
      have c1 := hp (2 * i) (by omega)
      have c2 := hp (2 * i + 1) (by omega)
      have c3 := hx (2 * k) (by omega)
      have c4 := hx (2 * k + 1) (by omega)
      have i2 : x2.toInt = ((2 * i : Nat) : Int) := by rw [e2]; exact t_dbl ei (by omega)
      refine ⟨t_in (by omega) (by omega), fun x3 e3 x4 e4 => ?_⟩
      have i4 : x4.toInt = ((2 * k : Nat) : Int) := by rw [e4]; exact t_dbl h1 (by omega)
      refine ⟨t_in (by omega) (by omega), fun x5 e5 => ?_⟩
      rw [t_clamp i2] at e3
      rw [t_clamp i4] at e5
      rw [← e3] at c1
      rw [← e5] at c3
      refine z_size (by omega) (by omega) (fun r6 d6 x7 e7 x8 e8 => ?_)
      have i8 : x8.toInt = ((2 * i + 1 : Nat) : Int) := by rw [e8]; exact t_dbl1 (by rw [e7]; exact t_dbl ei (by omega)) (by omega)
      refine ⟨t_in (by omega) (by omega), fun x9 e9 x10 e10 x11 e11 => ?_⟩
      have i11 : x11.toInt = ((2 * k + 1 : Nat) : Int) := by rw [e11]; exact t_dbl1 (by rw [e10]; exact t_dbl h1 (by omega)) (by omega)
      refine ⟨t_in (by omega) (by omega), fun x12 e12 => ?_⟩
      rw [t_clamp i8] at e9
      rw [t_clamp i11] at e12
      rw [← e9] at c2
      rw [← e12] at c4
      refine z_size (by omega) (by omega) (fun r13 d13 => ?_)
      rw [c1, c3] at d6
      rw [c2, c4] at d13
      have b1 := iab_le (x := F (2 * i) - G (2 * k)) (m := 30) (by omega) (by omega)
      have b2 := iab_le (x := F (2 * i + 1) - G (2 * k + 1)) (m := 30) (by omega) (by omega)
      have es : (r6 + r13).toInt = iab (F (2 * i) - G (2 * k)) + iab (F (2 * i + 1) - G (2 * k + 1)) := by rw [t_add (by omega) (by omega), d6, d13]
      refine ⟨fun c9 x15 e15 => ?_, fun c9 => q0 ?_⟩
      · rw [t_lt, t_3, es] at c9
        refine ih x15 (k + 1) (by rw [e15, t_inc (by omega), h1]; omega) (by omega) ?_ (by omega)
        show (nrB F G i k || decide _) = false
        rw [h3, Bool.false_or]
        exact decide_eq_false (by omega)
      · rw [t_lt, t_3, es] at c9
        refine nrB_mono (k := k + 1) ?_ (by omega)
        show (nrB F G i k || decide _) = true
        rw [h3, Bool.false_or]
        exact decide_eq_true (by omega)
  exact ⟨5, go 5 0 0 t_0 (by omega) rfl (by omega)⟩
end ZS
def sfD (d : dT) : Int32 := Int32.ofNat (sfN d.2.2.2.2.1 d.2.2.2.2.2.2.1 d.2.1 d.2.2.2.1)
