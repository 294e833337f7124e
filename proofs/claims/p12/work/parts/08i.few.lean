/-! few for many calls -/
theorem q_nlt {a b : Int32} : ¬ a < b ↔ b ≤ a := by rw [Int32.lt_iff_toInt_lt, Int32.le_iff_toInt_le]; omega
theorem q_nle {a b : Int32} : ¬ a ≤ b ↔ b < a := by rw [Int32.lt_iff_toInt_lt, Int32.le_iff_toInt_le]; omega
theorem q_cmp (x : Int64) : lg_cmp x x = 0 := by simp [lg_cmp]
section PuX
variable {Q : Int32 → Prop}
theorem q_w {p a b : Int32} (h1 : a ≤ p ∧ p ≤ b → Q 1) (h0 : ¬ (a ≤ p ∧ p ≤ b) → Q 0) : wq_X10_within p a b Q :=
  ⟨fun c => h0 (fun z => absurd z.1 (q_nle.mpr c)), fun c => ⟨fun c2 => h0 (fun z => absurd z.2 (q_nle.mpr c2)), fun c2 => h1 ⟨q_nlt.mp c, q_nlt.mp c2⟩⟩⟩
theorem q_wm {p a b : Int32} (h1 : a ≤ p ∧ p ≤ b → Q 1) (h0 : ¬ (a ≤ p ∧ p ≤ b) → Q 0) : wq_X11_within p a b Q :=
  ⟨fun c => h0 (fun z => absurd z.1 (q_nle.mpr c)), fun c => ⟨fun c2 => h0 (fun z => absurd z.2 (q_nle.mpr c2)), fun c2 => h1 ⟨q_nlt.mp c, q_nlt.mp c2⟩⟩⟩
end PuX
theorem q_nw {v p a b : Int32} {E : String → Int32 → Prop} {Q : Int32 → Prop} (hq : a ≤ p ∧ p ≤ b → Q v) (he : ¬ (a ≤ p ∧ p ≤ b) → E "java/lang/IllegalArgumentException" (v + 1)) : wq_X10_needWithin v p a b E Q :=
  q_w (fun h => ⟨fun _ => hq h, fun c => absurd c (by decide)⟩) (fun h => ⟨fun c => absurd rfl c, fun _ x e => by rw [e]; exact he h⟩)
theorem q_mayT {f : Nat → Int32} {a b : Int32} {Q : Int32 → Int32 → (Nat → Int32) → Prop} (h : Q 1 0 f) : wq_X11_may 0 f 1 a b Q :=
  ⟨fun _ => ⟨fun c => absurd rfl c, fun _ => h⟩, fun c => absurd c (by decide)⟩
theorem q_mayF {f : Nat → Int32} {a b : Int32} {Q : Int32 → Int32 → (Nat → Int32) → Prop} (ha : ¬ a = 0) (hb : vp_in b 2) (h : ∀ g, Q 0 a g) : wq_X11_may 0 f 0 a b Q :=
  ⟨fun c => absurd rfl c, fun _ => ⟨fun c => absurd rfl c, fun _ => ⟨hb, fun x3 _ x4 _ => ⟨hb, fun f5 _ => ⟨fun _ => h f5, fun c => absurd c ha⟩⟩⟩⟩⟩
theorem q_finO {fo : Nat → Int64} {r : Int64} : (((0 : Int32) = 0 → ((¬ (0 : Int32) = 0 → True) ∧ ((0 : Int32) = 0 → ∀ x16 : Int64, x16 = vp_updL fo (0 : Int32).toNatClampNeg r (0 : Int32).toNatClampNeg → (((lg_cmp x16 r) = 0 → True) ∧ (¬ (lg_cmp x16 r) = 0 → False))))) ∧ (¬ (0 : Int32) = 0 → False)) :=
  ⟨fun _ => ⟨fun _ => trivial, fun _ x16 e => by rw [e, pk_uLs]; exact ⟨fun _ => trivial, fun c => c (q_cmp r)⟩⟩, fun c => c rfl⟩
theorem q_nwT {v p a b : Int32} {E : String → Int32 → Prop} {Q : Int32 → Prop} (h : a ≤ p ∧ p ≤ b) (hq : Q v) : wq_X10_needWithin v p a b E Q := q_nw (fun _ => hq) (fun c => absurd h c)
theorem q_wmT {p a b : Int32} {Q : Int32 → Prop} (h : a ≤ p ∧ p ≤ b) (hq : Q 1) : wq_X11_within p a b Q := q_wm (fun _ => hq) (fun c => absurd h c)
/-! few -/
theorem lN_div' {a b : Nat} (ha : a < 2 ^ 63) (hb : b < 2 ^ 63) : lN a / lN b = lN (a / b) := (Int64.ofNat_div ha hb).symm
theorem lN_rem {a b : Nat} (ha : a < 2 ^ 63) (hb : b < 2 ^ 63) : lN a - lN a / lN b * lN b = lN (a % b) := by
  rw [lN_div' ha hb, lN_mul, lN_sub (Nat.div_mul_le_self a b)]
  have h := Nat.mod_add_div' a b
  have e : a - a / b * b = a % b := by omega
  rw [e]
theorem lN_tI {a : Nat} (h : a < 2 ^ 63) : (lN a).toInt = (a : Int) := Int64.toInt_ofNat_of_lt h
theorem lN_and1 {a : Nat} (ha : a < 2 ^ 64) : lN a &&& 1 = lN (a % 2) := by
  apply Int64.toBitVec_inj.mp
  rw [Int64.toBitVec_and]
  apply BitVec.eq_of_toNat_eq
  show (BitVec.ofNat 64 a &&& BitVec.ofNat 64 1).toNat = (BitVec.ofNat 64 (a % 2)).toNat
  rw [BitVec.toNat_and, BitVec.toNat_ofNat, BitVec.toNat_ofNat, BitVec.toNat_ofNat, Nat.mod_eq_of_lt ha, Nat.mod_eq_of_lt (show a % 2 < 2 ^ 64 by omega)]
  exact Nat.and_one_is_mod a
theorem lN_shr {a d : Nat} {D : Int64} (hD : (D.toBitVec.smod 64).toNat = d) (h : a < 2 ^ 62) : lN a >>> D = lN (a / 2 ^ d) := by
  have hd : a / 2 ^ d ≤ a := Nat.div_le_self _ _
  apply Int64.toInt_inj.mp
  have e : (lN a >>> D).toInt = (lN a).toInt >>> d := by
    rw [← hD]
    exact BitVec.toInt_sshiftRight ..
  rw [e, Int.shiftRight_eq_div_pow, lN_tI (by omega), lN_tI (by omega)]
  rfl
theorem lN_shr1 {a : Nat} (h : a < 2 ^ 62) : lN a >>> ((1 : Int32).toInt64 &&& 63) = lN (a / 2) := lN_shr (d := 1) (by decide) h
theorem q_cmpI {x : Int64} : lg_cmp x 0 = 0 ↔ x = 0 := by
  constructor
  · intro h
    by_cases h1 : x > 0
    · unfold lg_cmp at h; rw [if_pos h1] at h; exact absurd h (by decide)
    · by_cases h2 : x = 0
      · exact h2
      · unfold lg_cmp at h; rw [if_neg h1, if_neg h2] at h; exact absurd h (by decide)
  · intro h; rw [h]; exact q_cmp 0
theorem lN_ne0 {a : Nat} (h0 : 0 < a) (h : a < 2 ^ 63) : ¬ lN a = 0 := fun e => by
  have h1 := congrArg Int64.toInt e
  rw [lN_tI h] at h1
  have z : (0 : Int64).toInt = 0 := by decide
  omega
def cbl : List (List Nat) := [[1], [1, 1], [1, 2, 1], [1, 3, 3, 1], [1, 4, 6, 4, 1], [1, 5, 10, 10, 5, 1], [1, 6, 15, 20, 15, 6, 1], [1, 7, 21, 35, 35, 21, 7, 1], [1, 8, 28, 56, 70, 56, 28, 8, 1], [1, 9, 36, 84, 126, 126, 84, 36, 9, 1], [1, 10, 45, 120, 210, 252, 210, 120, 45, 10, 1], [1, 11, 55, 165, 330, 462, 462, 330, 165, 55, 11, 1], [1, 12, 66, 220, 495, 792, 924, 792, 495, 220, 66, 12, 1]]
def cbn (n j : Nat) : Nat := (cbl.getD n []).getD j 0
def tt (n j q : Nat) : Nat := cbn n j * q ^ j * (16 - q) ^ (n - j)
def ss (n q : Nat) : Nat → Nat
  | 0 => 0
  | i + 1 => ss n q i + tt n i q
def hv : Nat → Nat → Nat → Nat × Nat
  | 0, a, b => (a, b)
  | k + 1, a, b => if a % 2 = 0 ∧ b % 2 = 0 then hv k (a / 2) (b / 2) else (a, b)
theorem pas_all : ((List.range 12).all fun n => (List.range 14).all fun j => (List.range 17).all fun q => tt (n + 1) j q == tt n j q * (16 - q) + (if j = 0 then 0 else tt n (j - 1) q * q)) = true := by decide +kernel
theorem pas {n j q : Nat} (hn : n < 12) (hj : j < 14) (hq : q < 17) : tt (n + 1) j q = tt n j q * (16 - q) + (if j = 0 then 0 else tt n (j - 1) q * q) := by
  have h1 := List.all_eq_true.mp pas_all n (List.mem_range.mpr hn)
  have h2 := List.all_eq_true.mp h1 j (List.mem_range.mpr hj)
  exact eq_of_beq (List.all_eq_true.mp h2 q (List.mem_range.mpr hq))
def fin1 (n k q : Nat) : Bool := decide (ss n q (min k n + 1) = ss n q (k + 1)) && (decide (ss n q (k + 1) < 2 ^ 50) && decide (hv 48 (ss n q (k + 1)) (16 ^ n) = (ss n q (k + 1) / Nat.gcd (ss n q (k + 1)) (16 ^ n), 16 ^ n / Nat.gcd (ss n q (k + 1)) (16 ^ n))))
theorem fin_all : ((List.range 13).all fun n => (List.range 13).all fun k => (List.range 17).all fun q => fin1 n k q) = true := by decide +kernel
theorem fin_at {n k q : Nat} (hn : n < 13) (hk : k < 13) (hq : q < 17) : ss n q (min k n + 1) = ss n q (k + 1) ∧ ss n q (k + 1) < 2 ^ 50 ∧ hv 48 (ss n q (k + 1)) (16 ^ n) = (ss n q (k + 1) / Nat.gcd (ss n q (k + 1)) (16 ^ n), 16 ^ n / Nat.gcd (ss n q (k + 1)) (16 ^ n)) := by
  have h1 := List.all_eq_true.mp fin_all n (List.mem_range.mpr hn)
  have h2 := List.all_eq_true.mp h1 k (List.mem_range.mpr hk)
  have h3 := List.all_eq_true.mp h2 q (List.mem_range.mpr hq)
  unfold fin1 at h3
  rw [Bool.and_eq_true, Bool.and_eq_true] at h3
  exact ⟨of_decide_eq_true h3.1, of_decide_eq_true h3.2.1, of_decide_eq_true h3.2.2⟩
theorem p16 {n : Nat} (hn : n < 13) : 0 < 16 ^ n ∧ 16 ^ n < 2 ^ 62 := ⟨Nat.pow_pos (by decide), Nat.lt_of_le_of_lt (Nat.pow_le_pow_right (by decide) (show n ≤ 12 by omega)) (by decide)⟩
/-- choices -/
def chF : Nat → Int32 → Int32 → Int64 → Int32 → Option Int64
  | 0, _, _, _, _ => none
  | n + 1, l0, l1, l2, l4 => if l1 < l4 then some l2 else if l4.toInt64 = 0 then none else chF n l0 l1 ((l2 * (((l0 - l4) + 1).toInt64)) / l4.toInt64) (l4 + 1)
theorem chF_wl {Q : Int64 → Prop} {r : Int64} (hq : Q r) : ∀ (n : Nat) (l0 l1 : Int32) (l2 : Int64) (l4 : Int32), chF n l0 l1 l2 l4 = some r → wl_X10_choices_5 Q n l0 l1 l2 l4 := by
  intro n
  induction n with
  | zero => intro l0 l1 l2 l4 h; exact absurd h (by simp [chF])
  | succ n ih =>
    intro l0 l1 l2 l4 h
    rw [chF] at h
    refine ⟨fun c => ?_, fun c => ?_⟩
    · rw [if_pos c] at h; cases h; exact hq
    · rw [if_neg c] at h
      by_cases h0 : l4.toInt64 = 0
      · rw [if_pos h0] at h; cases h
      · rw [if_neg h0] at h
        refine ⟨h0, fun x2 e2 x3 e3 => ?_⟩
        rw [e2, e3]
        exact ih _ _ _ _ h
theorem ch_tab : ∀ a : Fin 13, ∀ b : Fin 13, chF 14 (nI a.val) (nI b.val) 1 1 = some (lN (cbn a.val b.val)) := by decide +kernel
theorem q_chs {Q : Int64 → Prop} {a b : Nat} (ha : a < 13) (hb : b < 13) (hq : Q (lN (cbn a b))) : wq_X10_choices (nI a) (nI b) Q := ⟨14, chF_wl hq 14 _ _ _ _ (ch_tab ⟨a, ha⟩ ⟨b, hb⟩)⟩
theorem q_pow {Q : Int64 → Prop} {base : Int32} {B T : Nat} (hb : base.toInt64 = lN B) (hT : T < 1000) (hq : Q (lN (B ^ T))) : ∀ (k i : Nat), i + k = T → wl_X10_power_5 Q (k + 1) base (nI T) (lN (B ^ i)) (nI i) := by
  intro k
  induction k with
  | zero =>
    intro i hi
    obtain rfl : i = T := by omega
    exact ⟨fun _ => hq, fun c => absurd (nI_le (Nat.le_refl _) (by omega)) c⟩
  | succ k ih =>
    intro i hi
    refine ⟨fun c => absurd c (nI_ge (by omega) (by omega)), fun _ x2 e2 x3 e3 => ?_⟩
    rw [e2, e3, hb, nI_1, lN_mul, ← Nat.pow_succ]
    exact ih (i + 1) (by omega)
theorem q_pw {Q : Int64 → Prop} {base : Int32} {B T : Nat} (hb : base.toInt64 = lN B) (hT : T < 1000) (hq : Q (lN (B ^ T))) : wq_X10_power base (nI T) Q := ⟨T + 1, q_pow hb hT hq T 0 (by omega)⟩
theorem q_w16 : ∀ q : Fin 17, (nI q.val).toInt64 = lN q.val ∧ (16 - nI q.val : Int32).toInt64 = lN (16 - q.val) := by decide +kernel
theorem q_s13 : ∀ a : Fin 13, ∀ b : Fin 13, b.val ≤ a.val → nI a.val - nI b.val = nI (a.val - b.val) := by decide +kernel
theorem q_sh : ∀ a : Fin 13, (1 : Int64) <<< ((4 * nI a.val).toInt64 &&& 63) = lN (16 ^ a.val) := by decide +kernel
section FewC
variable {E : String → Int32 → Prop} {Q : Int64 → Int32 → Prop} {v p4 : Int32}
theorem q_hv : ∀ (k i a b : Nat), i + k = 48 → a < 2 ^ 62 → b < 2 ^ 62 → wb_X10_few_139 E Q v p4 (lN (hv k a b).1) (lN (hv k a b).2) → wl_X10_few_96 E Q (k + 1) v p4 (lN a) (lN b) (nI i) := by
  intro k
  induction k with
  | zero =>
    intro i a b hi ha hb h
    obtain rfl : i = 48 := by omega
    exact ⟨fun _ => h, fun c => absurd (by decide) c⟩
  | succ k ih =>
    intro i a b hi ha hb h
    rw [hv] at h
    refine ⟨fun c => absurd c (nI_ge (b := 48) (by omega) (by omega)), fun _ => ?_⟩
    rw [lN_and1 (by omega), lN_and1 (by omega)]
    refine ⟨fun c => ?_, fun c => ⟨fun c2 => ?_, fun c2 x16 e16 x17 e17 x18 e18 => ?_⟩⟩
    · rw [if_neg (fun z => c (q_cmpI.mpr (by rw [z.1]; rfl)))] at h
      exact h
    · rw [if_neg (fun z => c2 (q_cmpI.mpr (by rw [z.2]; rfl)))] at h
      exact h
    · have ea : a % 2 = 0 := by
        rcases Nat.mod_two_eq_zero_or_one a with z | z
        · exact z
        · rw [z] at c; exact absurd (q_cmpI.mp c) (by decide)
      have eb : b % 2 = 0 := by
        rcases Nat.mod_two_eq_zero_or_one b with z | z
        · exact z
        · rw [z] at c2; exact absurd (q_cmpI.mp c2) (by decide)
      rw [if_pos ⟨ea, eb⟩] at h
      rw [e16, e17, e18, nI_1, lN_shr1 ha, lN_shr1 hb]
      exact ih (i + 1) (a / 2) (b / 2) (by omega) (by omega) (by omega) h
theorem q_fewC {N K q : Nat} (hN : N < 13) (hK : K < 13) (hq : q < 17) (h : wb_X10_few_139 E Q v p4 (lN (hv 48 (ss N q (min K N + 1)) (16 ^ N)).1) (lN (hv 48 (ss N q (min K N + 1)) (16 ^ N)).2)) :
    ∀ (k i : Nat), i + k = min K N + 1 → wl_X10_few_38 E Q (k + 1) v (nI N) (nI K) (nI q) p4 (lN (ss N q i)) (nI i) := by
  intro k
  induction k with
  | zero =>
    intro i hi
    obtain rfl : i = min K N + 1 := by omega
    have hx : wb_X10_few_86 E Q v (nI N) p4 (lN (ss N q (min K N + 1))) := by
      intro x12 e12
      have e13 : x12 = lN (16 ^ N) := e12.trans (q_sh ⟨N, hN⟩)
      rw [e13]
      have hb := fin_at hN hK hq
      exact ⟨49, q_hv 48 0 _ _ (by omega) (by rw [hb.1]; exact Nat.lt_of_lt_of_le hb.2.1 (by decide)) (p16 hN).2 h⟩
    by_cases hKN : K ≤ N
    · have e : min K N = K := Nat.min_eq_left hKN
      exact ⟨fun _ => hx, fun c => absurd (by rw [e]; exact nI_lt (Nat.lt_succ_self K) (by omega)) c⟩
    · have e : min K N = N := Nat.min_eq_right (by omega)
      exact ⟨fun _ => hx, fun _ => ⟨fun _ => hx, fun c => absurd (by rw [e]; exact nI_lt (Nat.lt_succ_self N) (by omega)) c⟩⟩
  | succ k ih =>
    intro i hi
    have h1 : i ≤ K := Nat.le_trans (by omega) (Nat.min_le_left K N)
    have h2 : i ≤ N := Nat.le_trans (by omega) (Nat.min_le_right K N)
    refine ⟨fun c => absurd c (nI_nlt h1 (by omega)), fun _ => ⟨fun c => absurd c (nI_nlt h2 (by omega)), fun _ => ?_⟩⟩
    refine q_chs hN (by omega) ?_
    refine q_pw (q_w16 ⟨q, hq⟩).1 (by omega) ?_
    have es : nI N - nI i = nI (N - i) := q_s13 ⟨N, hN⟩ ⟨i, by omega⟩ h2
    rw [es]
    refine q_pw (q_w16 ⟨q, hq⟩).2 (by omega) ?_
    intro x10 e10 x11 e11
    rw [e10, e11, nI_1, lN_mul, lN_mul, lN_add]
    exact ih (i + 1) (by omega)
end FewC
theorem q_ls {Q : Int64 → Prop} {p4 : Int32} {U B g : Nat} (hU : U < 2 ^ 62) (hB : B < 2 ^ 62) (hq : Q (lN ((if p4 = 0 then U else B) / g))) : ∀ (k x y : Nat), y < k → x < 2 ^ 62 → y < 2 ^ 62 → (0 < x ∨ 0 < y) → Nat.gcd x y = g → wl_X11_least_6 Q k (lN U) (lN B) p4 (lN x) (lN y) := by
  intro k
  induction k with
  | zero => intro x y hy; exact absurd hy (Nat.not_lt_zero y)
  | succ k ih =>
    intro x y hy hx hy2 hp hg
    by_cases y0 : y = 0
    · subst y0
      rw [Nat.gcd_zero_right] at hg
      subst hg
      have hx0 : 0 < x := hp.resolve_right (Nat.lt_irrefl 0)
      refine ⟨fun _ => ⟨fun c => ⟨lN_ne0 hx0 (by omega), fun x3 e3 => ?_⟩, fun c => ⟨lN_ne0 hx0 (by omega), fun x3 e3 => ?_⟩⟩, fun c => absurd (q_cmpI.mpr rfl) c⟩
      · rw [e3, lN_div' (by omega) (by omega)]; rw [if_neg c] at hq; exact hq
      · rw [e3, lN_div' (by omega) (by omega)]; rw [if_pos c] at hq; exact hq
    · have hy0 : 0 < y := Nat.pos_of_ne_zero y0
      have hm : x % y < y := Nat.mod_lt x hy0
      refine ⟨fun c => absurd (q_cmpI.mp c) (lN_ne0 hy0 (by omega)), fun _ => ⟨lN_ne0 hy0 (by omega), fun x5 e5 => ?_⟩⟩
      rw [e5, lN_rem (by omega) (by omega)]
      refine ih y (x % y) (by omega) hy2 (by omega) (Or.inl hy0) ?_
      rw [Nat.gcd_comm, ← Nat.gcd_rec, Nat.gcd_comm]
      exact hg
theorem q_least {Q : Int64 → Prop} {p4 : Int32} {U B : Nat} (hU : U < 2 ^ 62) (hB : B < 2 ^ 62) (hB0 : 0 < B) (hq : Q (lN ((if p4 = 0 then U else B) / Nat.gcd U B))) : wq_X11_least (lN U) (lN B) p4 Q :=
  ⟨B + 1, q_ls hU hB hq (B + 1) U B (by omega) hU hB (Or.inr hB0) rfl⟩
section FewM
variable {Q : Int64 → Int32 → (Nat → Int32) → (Nat → Int64) → Prop} {v p4 : Int32} {rf : Nat → Int32} {N K q : Nat}
theorem q_f183 {f : Nat → Int64} {B : Nat} (hK : K < 13) (hf : ∀ j, j < 14 → f j = lN (tt N j q)) (h : wq_X11_least (lN (ss N q (K + 1))) (lN B) p4 (fun r => Q r v rf f)) :
    ∀ (k i : Nat), i + k = K + 1 → wl_X11_few_183 Q (k + 1) v rf f (nI K) p4 (lN B) (lN (ss N q i)) (nI i) := by
  intro k
  induction k with
  | zero =>
    intro i hi
    obtain rfl : i = K + 1 := by omega
    exact ⟨fun _ => h, fun c => absurd (nI_lt (Nat.lt_succ_self K) (by omega)) c⟩
  | succ k ih =>
    intro i hi
    refine ⟨fun c => absurd c (nI_nlt (by omega) (by omega)), fun _ => ⟨vp_in_nI (by omega) (by omega), fun x20 e20 x21 e21 x22 e22 => ?_⟩⟩
    rw [nI_clamp (by omega), hf i (by omega)] at e20
    rw [e21, e20, e22, nI_1, lN_add]
    exact ih (i + 1) (by omega)
theorem q_m1 : ∀ m : Fin 14, nI (m.val + 1) - 1 = nI m.val ∧ nI m.val + (-1) = nI m.val - 1 ∧ (¬ nI m.val < 0) ∧ (m.val ≠ 0 → ¬ nI m.val ≤ 0) ∧ (m.val ≠ 0 → nI m.val - 1 = nI (m.val - 1)) := by decide +kernel
theorem q_f110 {K100 : Int32 → (Nat → Int32) → (Nat → Int64) → Int32 → Int32 → Int32 → Int32 → Int64 → Int32 → Prop} {i : Nat} (hi : i < 12) (hq : q < 17) (hK : ∀ f : Nat → Int64, (∀ j, j < 14 → f j = lN (tt (i + 1) j q)) → K100 v rf f (nI N) (nI K) (nI q) p4 (lN (16 ^ (i + 1))) (nI (i + 1))) :
    ∀ (m : Nat) (f : Nat → Int64), m ≤ 14 → (∀ j, j < m → f j = lN (tt i j q)) → (∀ j, m ≤ j → j < 14 → f j = lN (tt (i + 1) j q)) → wl_X11_few_110 Q K100 (m + 1) v rf f (nI N) (nI K) (nI q) p4 (lN (16 ^ i)) (nI i) (nI m - 1) := by
  intro m
  induction m with
  | zero =>
    intro f hm h1 h2
    refine ⟨fun _ x24 e24 x25 e25 => ?_, fun c => absurd (by decide) c⟩
    have e : (16 : Int64) = lN 16 := rfl
    rw [e24, e25, nI_1, e, lN_mul, ← Nat.pow_succ]
    exact hK f (fun j hj => h2 j (Nat.zero_le j) hj)
  | succ m ih =>
    intro f hm h1 h2
    obtain ⟨z1, z2, z3, z4, z5⟩ := q_m1 ⟨m, by omega⟩
    have z1 : nI (m + 1) - 1 = nI m := z1
    have z2 : nI m + (-1) = nI m - 1 := z2
    rw [z1]
    have step : ∀ x30 : Int64, x30 = lN (tt (i + 1) m q) → vp_in (nI m) 14 ∧ ∀ f31 : Nat → Int64, f31 = vp_updL f (nI m).toNatClampNeg x30 → ∀ x32 : Int32, x32 = nI m + (-1) → wl_X11_few_110 Q K100 (m + 1) v rf f31 (nI N) (nI K) (nI q) p4 (lN (16 ^ i)) (nI i) x32 := by
      intro x30 e30
      refine ⟨vp_in_nI (by omega) (by omega), fun f31 e31 x32 e32 => ?_⟩
      rw [e32, z2]
      rw [nI_clamp (by omega)] at e31
      refine ih f31 (by omega) (fun j hj => ?_) (fun j hj hj2 => ?_)
      · rw [e31, pk_uLn (by omega)]; exact h1 j (by omega)
      · by_cases hjm : j = m
        · rw [e31, hjm, pk_uLs, e30]
        · rw [e31, pk_uLn hjm]; exact h2 j (by omega) hj2
    have w1 : (nI q).toInt64 = lN q := (q_w16 ⟨q, hq⟩).1
    have w2 : (16 - nI q : Int32).toInt64 = lN (16 - q) := (q_w16 ⟨q, hq⟩).2
    have hp := pas (n := i) (j := m) (q := q) hi (by omega) hq
    refine ⟨fun c => absurd c z3, fun _ => ⟨vp_in_nI (by omega) (by omega), fun x26 e26 => ?_⟩⟩
    rw [nI_clamp (by omega), h1 m (by omega)] at e26
    by_cases hm0 : m = 0
    · rw [if_pos hm0] at hp
      refine ⟨fun _ x30 e30 => step x30 ?_, fun c => absurd (by rw [hm0]; decide) c⟩
      rw [e30, e26, w2, lN_mul, hp]
      exact lN_add _ 0
    · rw [if_neg hm0] at hp
      refine ⟨fun c => absurd c (z4 hm0), fun _ x28 e28 => ?_⟩
      have e28 : x28 = nI (m - 1) := by rw [e28]; exact z5 hm0
      refine ⟨by rw [e28]; exact vp_in_nI (by omega) (by omega), fun x29 e29 x30 e30 => step x30 ?_⟩
      rw [e28, nI_clamp (by omega), h1 (m - 1) (by omega)] at e29
      rw [e30, e26, e29, w2, w1, lN_mul, lN_mul, lN_add, hp]
theorem q_f100 (hN : N < 13) (hK : K < 13) (hq : q < 17) (h : ∀ f : Nat → Int64, (∀ j, j < 14 → f j = lN (tt N j q)) → wq_X11_least (lN (ss N q (K + 1))) (lN (16 ^ N)) p4 (fun r => Q r v rf f)) :
    ∀ (k i : Nat) (f : Nat → Int64), i + k = N → (∀ j, j < 14 → f j = lN (tt i j q)) → wl_X11_few_100 Q (k + 1) v rf f (nI N) (nI K) (nI q) p4 (lN (16 ^ i)) (nI i) := by
  intro k
  induction k with
  | zero =>
    intro i f hi hf
    obtain rfl : i = N := by omega
    exact ⟨fun _ => ⟨K + 2, q_f183 hK hf (h f hf) (K + 1) 0 (by omega)⟩, fun c => absurd (nI_le (Nat.le_refl _) (by omega)) c⟩
  | succ k ih =>
    intro i f hi hf
    refine ⟨fun c => absurd c (nI_ge (by omega) (by omega)), fun _ => ⟨15, ?_⟩⟩
    exact q_f110 (by omega) hq (fun g hg => ih (i + 1) g (by omega) hg) 14 f (Nat.le_refl _) (fun j hj => hf j hj) (fun j h1 h2 => absurd h2 (by omega))
theorem cbn0 : ∀ i : Fin 14, i.val ≠ 0 → cbn 0 i.val = 0 := by decide +kernel
theorem q_f64 (hN : N < 13) (hK : K < 13) (hq : q < 17) (h : ∀ f : Nat → Int64, (∀ j, j < 14 → f j = lN (tt N j q)) → wq_X11_least (lN (ss N q (K + 1))) (lN (16 ^ N)) p4 (fun r => Q r v rf f)) :
    ∀ (k i : Nat) (f : Nat → Int64), i + k = 14 → (∀ j, j < i → f j = lN (tt 0 j q)) → wl_X11_few_64 Q (k + 1) v rf f (nI N) (nI K) (nI q) p4 (nI i) := by
  intro k
  induction k with
  | zero =>
    intro i f hi hf
    obtain rfl : i = 14 := by omega
    exact ⟨fun _ => ⟨N + 1, q_f100 hN hK hq h N 0 f (by omega) hf⟩, fun c => absurd (by decide) c⟩
  | succ k ih =>
    intro i f hi hf
    have step : ∀ w : Int64, w = lN (tt 0 i q) → vp_in (nI i) 14 ∧ ∀ f16 : Nat → Int64, f16 = vp_updL f (nI i).toNatClampNeg w → ∀ x17 : Int32, x17 = nI i + 1 → wl_X11_few_64 Q (k + 1) v rf f16 (nI N) (nI K) (nI q) p4 x17 := by
      intro w ew
      refine ⟨vp_in_nI (by omega) (by omega), fun f16 e16 x17 e17 => ?_⟩
      rw [e17, nI_1]
      rw [nI_clamp (by omega)] at e16
      refine ih (i + 1) f16 (by omega) (fun j hj => ?_)
      by_cases hji : j = i
      · rw [e16, hji, pk_uLs, ew]
      · rw [e16, pk_uLn hji]; exact hf j (by omega)
    refine ⟨fun c => absurd c (nI_ge (b := 14) (by omega) (by omega)), fun _ => ?_⟩
    by_cases hi0 : i = 0
    · refine ⟨fun c => absurd (by rw [hi0]; rfl) c, fun _ => step 1 ?_⟩
      rw [hi0]
      have e : tt 0 0 q = 1 := by show 1 * q ^ 0 * (16 - q) ^ 0 = 1; simp
      exact (congrArg lN e).symm
    · refine ⟨fun _ => step 0 ?_, fun c => absurd c (nI_ne0 (by omega) (by omega))⟩
      have e : tt 0 i q = 0 := by unfold tt; rw [cbn0 ⟨i, by omega⟩ hi0, Nat.zero_mul, Nat.zero_mul]
      exact (congrArg lN e).symm
end FewM
