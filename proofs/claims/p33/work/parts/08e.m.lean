section
/-- where its begun loops stand -/
def hC (hd kd : NI) (op ln : Int32) : Prop := (0 ≤ op.toInt ∧ op.toInt ≤ 6) ∧ ∀ j : Nat, (j : Int) < op.toInt → (hd j).toInt = 50 ∨ (0 ≤ (hd j).toInt ∧ (hd j).toInt < ln.toInt ∧ (kd (hd j).toNatClampNeg).toInt = 4)
end
section
section Cs
variable {n h ci cn p : Int32} {row : Nat → Int32}
theorem qaVs {X Y nr : Nat → Int32} {E : String → Int32 → NI → Prop} {Q : Int32 → Int32 → NI → Prop} (n0 : 0 ≤ n.toInt) (n8 : n.toInt ≤ 8) (he : E "java/lang/IllegalArgumentException" (ci + 1) nr) (hq : ∀ (r : Int32) (nr : NI), Q r ci nr) : q01 n X Y ci nr p E Q :=
  qbk he (fun _ _ => qaIK n0 n8 (fun r nr => hq r nr))
theorem qaTU {E : String → Int32 → Prop} {Q : Int32 → Int32 → Prop} (h6 : h.toInt ≤ 6) (hq : ∀ r, Q r cn) : ∀ (k : Nat) (l2 v i : Int32), 0 ≤ l2.toInt → l2.toInt < 64 → 0 ≤ i.toInt → i.toInt ≤ 6 → 6 - i.toInt < k → qt3 h row E Q k cn p l2 v i := by
  intro k
  induction k with
  | zero => intro l2 v i a0 a1 i0 i1 i2; omega
  | succ k ih =>
    intro l2 v i a0 a1 i0 i1 i2
    refine ⟨fun _ => hq _, fun c => ?_⟩
    rw [qak] at c
    have go : ∀ v x9 : Int32, x9 = i + 1 → qt3 h row E Q k cn p l2 v x9 := fun v x9 e9 => by
      have e : x9.toInt = i.toInt + 1 := by rw [e9]; exact qca (by omega)
      exact ih l2 v x9 a0 a1 (by omega) (by omega) (by omega)
    have h5 := qbjh a0 a1
    refine qahj a0 a1 i0 (by omega) (fun r hr => ⟨fun _ => go v, fun cr => ?_⟩)
    rw [qan, t_0] at cr
    have g := hr.resolve_left cr
    exact que i0 (by omega) (fun r8 => q9T g.2.1 g.2.2.1 (by omega) (fun r9 x10 _ => go x10))
theorem qaVp {E : String → Int32 → Prop} {Q : Int32 → Int32 → Prop} (h0 : 0 ≤ h.toInt) (h6 : h.toInt ≤ 6) (he : E "java/util/NoSuchElementException" (cn + 1)) (hq : ∀ r, Q r cn) : q2x h row cn p E Q := by
  refine qrW h0 he (fun _ _ => qnr ⟨fun _ => ?_, fun c => absurd rfl c⟩ ⟨fun c => absurd c (by decide), fun _ => hq _⟩)
  intro x1 _ x2 e2
  have hs := qN0 h0 (by omega)
  have hp : ((1 <<< (h &&& 31)) - 1 : Int32).toInt = (1 <<< (h &&& 31) : Int32).toInt - 1 := qqj (by omega)
  have g := qaN3 (a := (1 <<< (h &&& 31)) - 1) (b := x1 ^^^ (-1)) (by omega)
  rw [← e2] at g
  exact ⟨7, qaTU h6 hq 7 x2 0 0 g.1 (by omega) (by decide) (by decide) (by decide)⟩
theorem qaXN {al : Nat} {sn : Nat → Int32} {a b c d : Int32} {f1 f2 f3 : Nat → Int32} {rb : Value} {E : String → Int32 → Int32 → Int32 → Int32 → Int32 → NI → NI → NI → Value → Prop} {Q : Int32 → Int32 → Int32 → Int32 → Int32 → Int32 → NI → NI → NI → Value → Prop} (n8 : n.toInt ≤ 8) (h6 : h.toInt ≤ 6) (he : E "java/lang/IllegalArgumentException" (ci + 1) a b c d f1 f2 f3 rb) (hq : ∀ (r a b c d : Int32) (f1 f2 f3 : NI), Q r ci a b c d f1 f2 f3 (.ref al)) : q9a al n h row sn ci a b c d f1 f2 f3 rb p E Q :=
  qbk he (fun _ _ => qaoA n8 h6 (fun _ _ _ _ _ _ _ _ _ => ⟨fun _ => hq _ _ _ _ _ _ _ _, fun _ => hq _ _ _ _ _ _ _ _⟩))
theorem qaZJ {al : Nat} {sn : Nat → Int32} {a b c d e f : Int32} {f1 f2 f3 f4 : Nat → Int32} {rb : Value} {E : String → Int32 → Int32 → Int32 → Int32 → Int32 → NI → NI → NI → Value → Int32 → Int32 → NI → Prop} {Q : Int32 → Int32 → Int32 → Int32 → Int32 → Int32 → NI → NI → NI → Value → Int32 → Int32 → NI → Prop} (n8 : n.toInt ≤ 8) (h6 : h.toInt ≤ 6) (he : E "java/lang/IllegalArgumentException" (ci + 1) a b c d f1 f2 f3 rb e f f4) (hq : ∀ (r a b c d : Int32) (f1 f2 f3 : NI) (e f : Int32) (f4 : NI), Q r ci a b c d f1 f2 f3 (.ref al) e f f4) : q9J al n h row sn ci a b c d f1 f2 f3 rb e f f4 p E Q :=
  qbk he (fun _ _ => qaoA n8 h6 (fun _ _ _ _ _ _ _ g1 g2 => qaDC (by omega) (by omega) (fun _ _ _ => ⟨fun _ => hq _ _ _ _ _ _ _ _ _ _ _, fun _ => hq _ _ _ _ _ _ _ _ _ _ _⟩)))
theorem qaWO {X Y : Nat → Int32} {l : Int32} {f1 f2 : Nat → Int32} {Q : Int32 → Int32 → NI → NI → Prop} (n0 : 0 ≤ n.toInt) (n8 : n.toInt ≤ 8) (hq : ∀ (r l : Int32) (f1 f2 : NI), Q r l f1 f2) : qacs n X Y l f1 f2 Q :=
  qaoB n0 n8 (fun _ _ _ => hq _ _ _ _)
theorem qaOu {X Y : Nat → Int32} {l : Int32} {f1 f2 : Nat → Int32} {E : String → Int32 → Int32 → NI → NI → Prop} {Q : Int32 → Int32 → Int32 → NI → NI → Prop} (n0 : 0 ≤ n.toInt) (n8 : n.toInt ≤ 8) (he : E "java/lang/IllegalArgumentException" (ci + 1) l f1 f2) (hq : ∀ (r l : Int32) (f1 f2 : NI), Q r ci l f1 f2) : qWV n X Y ci l f1 f2 p E Q := by
  refine ⟨fun _ => ⟨fun c => absurd rfl c, fun _ x2 e2 => by rw [e2]; exact he⟩, fun c => ⟨fun _ => ⟨fun c2 => qaoB n0 n8 (fun _ _ _ => ⟨qa6 ?_ ?_, fun _ _ => hq _ _ _ _⟩), fun _ => hq _ _ _ _⟩, fun c2 => absurd c2 (by decide)⟩⟩
  · rw [qao, t_0] at c; omega
  · rw [qao] at c2; omega
section Se
variable {sf ln : Int32} {kd vl X Y : Nat → Int32} {mo gv fc pl al : Nat → Int32} {sd : Int32}
theorem qaZs {E : String → Int32 → NI → Int32 → NI → NI → NI → NI → Prop} {Q : Int32 → Int32 → NI → Int32 → NI → NI → NI → NI → Prop} (hs : qrF h n row) (hl : sLaw ln kd vl) (h0 : 0 ≤ h.toInt) (h6 : h.toInt ≤ 6) (n0 : 0 ≤ n.toInt) (n8 : n.toInt ≤ 8) (he : E "java/util/NoSuchElementException" (cn + 1) mo sd gv fc pl al) (hq : ∀ (r : Int32) (mo : NI) (sd : Int32) (gv fc pl al : NI), Q r cn mo sd gv fc pl al) : qab4 n h sf row ln kd vl X Y cn mo sd gv fc pl al p E Q :=
  qrW h0 he (fun p0 p1 => qaow hs hl h0 h6 n0 n8 (fun _ _ _ _ _ _ => ⟨qa6 p0 (by omega), fun _ _ => hq _ _ _ _ _ _ _⟩))
theorem qaUQ {Q : Int32 → NI → Int32 → NI → NI → NI → NI → Prop} (hs : qrF h n row) (hl : sLaw ln kd vl) (h0 : 0 ≤ h.toInt) (h6 : h.toInt ≤ 6) (n0 : 0 ≤ n.toInt) (n8 : n.toInt ≤ 8) (hq : ∀ (r : Int32) (mo : NI) (sd : Int32) (gv fc pl al : NI), Q r mo sd gv fc pl al) : q3v n h sf row ln kd vl X Y mo sd gv fc pl al Q :=
  qaow hs hl h0 h6 n0 n8 (fun _ _ _ _ _ _ => hq _ _ _ _ _ _ _)
end Se
/-- an image kept -/
def cI (k h n : Int32) (r : NI) : Prop := 1 ≤ k.toInt ∧ k.toInt ≤ 17 ∧ qbe7 k h n r
/-- the images of the class -/
def cImg (m h n k0 k1 k2 : Int32) (r0 r1 r2 : NI) : Prop := (0 ≤ m.toInt ∧ m.toInt ≤ 3) ∧ (0 < m.toInt → cI k0 h n r0) ∧ (1 < m.toInt → cI k1 h n r1) ∧ (2 < m.toInt → cI k2 h n r2)
section Mg
variable {pk m k0 k1 k2 : Int32} {pr r0 r1 r2 : Nat → Int32}
end Mg
end Cs
section Tx
variable {by_ : Nat → Int32} {ci ln at_ tk fl fa fp p : Int32}
end Tx
end
section
/-! few for many calls -/
theorem qaHZ {a b : Int32} : ¬ a < b ↔ b ≤ a := by rw [Int32.lt_iff_toInt_lt, Int32.le_iff_toInt_le]; omega
theorem qba5 {a b : Int32} : ¬ a ≤ b ↔ b < a := by rw [Int32.lt_iff_toInt_lt, Int32.le_iff_toInt_le]; omega
theorem qbh4 (x : Int64) : lg_cmp x x = 0 := by simp [lg_cmp]
section PuX
variable {Q : Int32 → Prop}
theorem q_w {p a b : Int32} (h1 : a ≤ p ∧ p ≤ b → Q 1) (h0 : ¬ (a ≤ p ∧ p ≤ b) → Q 0) : qqN p a b Q :=
  ⟨fun c => h0 (fun z => absurd z.1 (qba5.mpr c)), fun c => ⟨fun c2 => h0 (fun z => absurd z.2 (qba5.mpr c2)), fun c2 => h1 ⟨qaHZ.mp c, qaHZ.mp c2⟩⟩⟩
theorem q_wm {p a b : Int32} (h1 : a ≤ p ∧ p ≤ b → Q 1) (h0 : ¬ (a ≤ p ∧ p ≤ b) → Q 0) : qbm p a b Q :=
  ⟨fun c => h0 (fun z => absurd z.1 (qba5.mpr c)), fun c => ⟨fun c2 => h0 (fun z => absurd z.2 (qba5.mpr c2)), fun c2 => h1 ⟨qaHZ.mp c, qaHZ.mp c2⟩⟩⟩
end PuX
theorem q_nw {v p a b : Int32} {E : String → Int32 → Prop} {Q : Int32 → Prop} (hq : a ≤ p ∧ p ≤ b → Q v) (he : ¬ (a ≤ p ∧ p ≤ b) → E "java/lang/IllegalArgumentException" (v + 1)) : qaC v p a b E Q :=
  q_w (fun h => ⟨fun _ => hq h, fun c => absurd c (by decide)⟩) (fun h => ⟨fun c => absurd rfl c, fun _ x e => by rw [e]; exact he h⟩)
theorem qbiN {f : Nat → Int32} {a b : Int32} {Q : Int32 → Int32 → NI → Prop} (h : Q 1 0 f) : qe6 0 f 1 a b Q :=
  ⟨fun _ => ⟨fun c => absurd rfl c, fun _ => h⟩, fun c => absurd c (by decide)⟩
theorem qbj6 {f : Nat → Int32} {a b : Int32} {Q : Int32 → Int32 → NI → Prop} (ha : ¬ a = 0) (hb : vp_in b 2) (h : ∀ g, Q 0 a g) : qe6 0 f 0 a b Q :=
  ⟨fun c => absurd rfl c, fun _ => ⟨fun c => absurd rfl c, fun _ => ⟨hb, fun x3 _ x4 _ => ⟨hb, fun f5 _ => ⟨fun _ => h f5, fun c => absurd c ha⟩⟩⟩⟩⟩
theorem qblt {fo : Nat → Int64} {r : Int64} : (((0 : Int32) = 0 → ((¬ (0 : Int32) = 0 → True) ∧ ((0 : Int32) = 0 → ∀ x16 : Int64, x16 = vp_updL fo (0 : Int32).toNatClampNeg r (0 : Int32).toNatClampNeg → (((lg_cmp x16 r) = 0 → True) ∧ (¬ (lg_cmp x16 r) = 0 → False))))) ∧ (¬ (0 : Int32) = 0 → False)) :=
  ⟨fun _ => ⟨fun _ => trivial, fun _ x16 e => by rw [e, pk_uLs]; exact ⟨fun _ => trivial, fun c => c (qbh4 r)⟩⟩, fun c => c rfl⟩
/-! few -/
theorem qaW7 {a b : Nat} (ha : a < 2 ^ 63) (hb : b < 2 ^ 63) : lN a / lN b = lN (a / b) := (Int64.ofNat_div ha hb).symm
theorem qbjg {a b : Nat} (ha : a < 2 ^ 63) (hb : b < 2 ^ 63) : lN a - lN a / lN b * lN b = lN (a % b) := by
  rw [qaW7 ha hb, lN_mul, lN_sub (Nat.div_mul_le_self a b)]
  have h := Nat.mod_add_div' a b
  have e : a - a / b * b = a % b := by omega
  rw [e]
theorem qbgu {a : Nat} (h : a < 2 ^ 63) : (lN a).toInt = (a : Int) := Int64.toInt_ofNat_of_lt h
theorem qa3R {a : Nat} (ha : a < 2 ^ 64) : lN a &&& 1 = lN (a % 2) := by
  apply Int64.toBitVec_inj.mp
  rw [Int64.toBitVec_and]
  apply BitVec.eq_of_toNat_eq
  show (BitVec.ofNat 64 a &&& BitVec.ofNat 64 1).toNat = (BitVec.ofNat 64 (a % 2)).toNat
  rw [BitVec.toNat_and, BitVec.toNat_ofNat, BitVec.toNat_ofNat, BitVec.toNat_ofNat, Nat.mod_eq_of_lt ha, Nat.mod_eq_of_lt (show a % 2 < 2 ^ 64 by omega)]
  exact Nat.and_one_is_mod a
theorem qbhZ {a d : Nat} {D : Int64} (hD : (D.toBitVec.smod 64).toNat = d) (h : a < 2 ^ 62) : lN a >>> D = lN (a / 2 ^ d) := by
  have hd : a / 2 ^ d ≤ a := Nat.div_le_self _ _
  apply Int64.toInt_inj.mp
  have e : (lN a >>> D).toInt = (lN a).toInt >>> d := by
    rw [← hD]
    exact BitVec.toInt_sshiftRight ..
  rw [e, Int.shiftRight_eq_div_pow, qbgu (by omega), qbgu (by omega)]
  rfl
theorem qa5j {a : Nat} (h : a < 2 ^ 62) : lN a >>> ((1 : Int32).toInt64 &&& 63) = lN (a / 2) := qbhZ (d := 1) (by decide) h
theorem qaLi {x : Int64} : lg_cmp x 0 = 0 ↔ x = 0 := by
  constructor
  · intro h
    by_cases h1 : x > 0
    · unfold lg_cmp at h; rw [if_pos h1] at h; exact absurd h (by decide)
    · by_cases h2 : x = 0
      · exact h2
      · unfold lg_cmp at h; rw [if_neg h1, if_neg h2] at h; exact absurd h (by decide)
  · intro h; rw [h]; exact qbh4 0
theorem qa1q {a : Nat} (h0 : 0 < a) (h : a < 2 ^ 63) : ¬ lN a = 0 := fun e => by
  have h1 := congrArg Int64.toInt e
  rw [qbgu h] at h1
  have z : (0 : Int64).toInt = 0 := by decide
  omega
def cbl : List (List Nat) := [[1], [1, 1], [1, 2, 1], [1, 3, 3, 1], [1, 4, 6, 4, 1], [1, 5, 10, 10, 5, 1], [1, 6, 15, 20, 15, 6, 1], [1, 7, 21, 35, 35, 21, 7, 1], [1, 8, 28, 56, 70, 56, 28, 8, 1], [1, 9, 36, 84, 126, 126, 84, 36, 9, 1], [1, 10, 45, 120, 210, 252, 210, 120, 45, 10, 1], [1, 11, 55, 165, 330, 462, 462, 330, 165, 55, 11, 1], [1, 12, 66, 220, 495, 792, 924, 792, 495, 220, 66, 12, 1]]
def cbn (n j : Nat) : Nat := (cbl.getD n []).getD j 0
def tt (n j q : Nat) : Nat := cbn n j * q ^ j * (16 - q) ^ (n - j)
def ss (n q : Nat) : Nat → Nat
  | 0 => 0
  | i + 1 => ss n q i + tt n i q
def hv : Nat → Nat → Nat → Nat × Nat
  | 0, a, b => (a, b)
  | k + 1, a, b => if a % 2 = 0 ∧ b % 2 = 0 then hv k (a / 2) (b / 2) else (a, b)
theorem qbgK : ((List.range 12).all fun n => (List.range 14).all fun j => (List.range 17).all fun q => tt (n + 1) j q == tt n j q * (16 - q) + (if j = 0 then 0 else tt n (j - 1) q * q)) = true := by decide +kernel
theorem pas {n j q : Nat} (hn : n < 12) (hj : j < 14) (hq : q < 17) : tt (n + 1) j q = tt n j q * (16 - q) + (if j = 0 then 0 else tt n (j - 1) q * q) := by
  have h1 := List.all_eq_true.mp qbgK n (List.mem_range.mpr hn)
  have h2 := List.all_eq_true.mp h1 j (List.mem_range.mpr hj)
  exact eq_of_beq (List.all_eq_true.mp h2 q (List.mem_range.mpr hq))
def fin1 (n k q : Nat) : Bool := decide (ss n q (min k n + 1) = ss n q (k + 1)) && (decide (ss n q (k + 1) < 2 ^ 50) && decide (hv 48 (ss n q (k + 1)) (16 ^ n) = (ss n q (k + 1) / Nat.gcd (ss n q (k + 1)) (16 ^ n), 16 ^ n / Nat.gcd (ss n q (k + 1)) (16 ^ n))))
theorem qbfr : ((List.range 13).all fun n => (List.range 13).all fun k => (List.range 17).all fun q => fin1 n k q) = true := by decide +kernel
theorem qbcX {n k q : Nat} (hn : n < 13) (hk : k < 13) (hq : q < 17) : ss n q (min k n + 1) = ss n q (k + 1) ∧ ss n q (k + 1) < 2 ^ 50 ∧ hv 48 (ss n q (k + 1)) (16 ^ n) = (ss n q (k + 1) / Nat.gcd (ss n q (k + 1)) (16 ^ n), 16 ^ n / Nat.gcd (ss n q (k + 1)) (16 ^ n)) := by
  have h1 := List.all_eq_true.mp qbfr n (List.mem_range.mpr hn)
  have h2 := List.all_eq_true.mp h1 k (List.mem_range.mpr hk)
  have h3 := List.all_eq_true.mp h2 q (List.mem_range.mpr hq)
  unfold fin1 at h3
  rw [Bool.and_eq_true, Bool.and_eq_true] at h3
  exact ⟨of_decide_eq_true h3.1, of_decide_eq_true h3.2.1, of_decide_eq_true h3.2.2⟩
theorem p16 {n : Nat} (hn : n < 13) : 0 < 16 ^ n ∧ 16 ^ n < 2 ^ 62 := ⟨Nat.pow_pos (by decide), Nat.lt_of_le_of_lt (Nat.pow_le_pow_right (by decide) (show n ≤ 12 by omega)) (by decide)⟩
/-- choices -/
def chF : Nat → Int32 → Int32 → Int64 → Int32 → Option Int64
  | 0, _, _, _, _ => none
  | n + 1, l0, l1, l2, l4 => if l1 < l4 then some l2 else if l4.toInt64 = 0 then none else chF n l0 l1 ((l2 * (((l0 - l4) + 1).toInt64)) / l4.toInt64) (l4 + 1)
theorem qbkS {Q : Int64 → Prop} {r : Int64} (hq : Q r) : ∀ (n : Nat) (l0 l1 : Int32) (l2 : Int64) (l4 : Int32), chF n l0 l1 l2 l4 = some r → qEC Q n l0 l1 l2 l4 := by
  intro n
  induction n with
  | zero => intro l0 l1 l2 l4 h; exact absurd h (by simp [chF])
  | succ n ih =>
    intro l0 l1 l2 l4 h
    rw [chF] at h
    refine ⟨fun c => ?_, fun c => ?_⟩
    · rw [if_pos c] at h; cases h; exact hq
    · rw [if_neg c] at h
      by_cases h0 : l4.toInt64 = 0
      · rw [if_pos h0] at h; cases h
      · rw [if_neg h0] at h
        refine ⟨h0, fun x2 e2 x3 e3 => ?_⟩
        rw [e2, e3]
        exact ih _ _ _ _ h
theorem qbk0 : ∀ a : Fin 13, ∀ b : Fin 13, chF 14 (nI a.val) (nI b.val) 1 1 = some (lN (cbn a.val b.val)) := by decide +kernel
theorem qbmq {Q : Int64 → Prop} {a b : Nat} (ha : a < 13) (hb : b < 13) (hq : Q (lN (cbn a b))) : qUD (nI a) (nI b) Q := ⟨14, qbkS hq 14 _ _ _ _ (qbk0 ⟨a, ha⟩ ⟨b, hb⟩)⟩
theorem qblT {Q : Int64 → Prop} {base : Int32} {B T : Nat} (hb : base.toInt64 = lN B) (hT : T < 1000) (hq : Q (lN (B ^ T))) : ∀ (k i : Nat), i + k = T → qKp Q (k + 1) base (nI T) (lN (B ^ i)) (nI i) := by
  intro k
  induction k with
  | zero =>
    intro i hi
    obtain rfl : i = T := by omega
    exact ⟨fun _ => hq, fun c => absurd (nI_le (Nat.le_refl _) (by omega)) c⟩
  | succ k ih =>
    intro i hi
    refine ⟨fun c => absurd c (nI_ge (by omega) (by omega)), fun _ x2 e2 x3 e3 => ?_⟩
    rw [e2, e3, hb, nI_1, lN_mul, ← Nat.pow_succ]
    exact ih (i + 1) (by omega)
theorem q_pw {Q : Int64 → Prop} {base : Int32} {B T : Nat} (hb : base.toInt64 = lN B) (hT : T < 1000) (hq : Q (lN (B ^ T))) : qRM base (nI T) Q := ⟨T + 1, qblT hb hT hq T 0 (by omega)⟩
theorem qbb8 : ∀ q : Fin 17, (nI q.val).toInt64 = lN q.val ∧ (16 - nI q.val : Int32).toInt64 = lN (16 - q.val) := by decide +kernel
theorem qbmm : ∀ a : Fin 13, ∀ b : Fin 13, b.val ≤ a.val → nI a.val - nI b.val = nI (a.val - b.val) := by decide +kernel
theorem q_sh : ∀ a : Fin 13, (1 : Int64) <<< ((4 * nI a.val).toInt64 &&& 63) = lN (16 ^ a.val) := by decide +kernel
section FewC
variable {E : String → Int32 → Prop} {Q : Int64 → Int32 → Prop} {v p4 : Int32}
theorem q_hv : ∀ (k i a b : Nat), i + k = 48 → a < 2 ^ 62 → b < 2 ^ 62 → qAu E Q v p4 (lN (hv k a b).1) (lN (hv k a b).2) → qNS E Q (k + 1) v p4 (lN a) (lN b) (nI i) := by
  intro k
  induction k with
  | zero =>
    intro i a b hi ha hb h
    obtain rfl : i = 48 := by omega
    exact ⟨fun _ => h, fun c => absurd (by decide) c⟩
  | succ k ih =>
    intro i a b hi ha hb h
    rw [hv] at h
    refine ⟨fun c => absurd c (nI_ge (b := 48) (by omega) (by omega)), fun _ => ?_⟩
    rw [qa3R (by omega), qa3R (by omega)]
    refine ⟨fun c => ?_, fun c => ⟨fun c2 => ?_, fun c2 x16 e16 x17 e17 x18 e18 => ?_⟩⟩
    · rw [if_neg (fun z => c (qaLi.mpr (by rw [z.1]; rfl)))] at h
      exact h
    · rw [if_neg (fun z => c2 (qaLi.mpr (by rw [z.2]; rfl)))] at h
      exact h
    · have ea : a % 2 = 0 := by
        rcases Nat.mod_two_eq_zero_or_one a with z | z
        · exact z
        · rw [z] at c; exact absurd (qaLi.mp c) (by decide)
      have eb : b % 2 = 0 := by
        rcases Nat.mod_two_eq_zero_or_one b with z | z
        · exact z
        · rw [z] at c2; exact absurd (qaLi.mp c2) (by decide)
      rw [if_pos ⟨ea, eb⟩] at h
      rw [e16, e17, e18, nI_1, qa5j ha, qa5j hb]
      exact ih (i + 1) (a / 2) (b / 2) (by omega) (by omega) (by omega) h
theorem qbks {N K q : Nat} (hN : N < 13) (hK : K < 13) (hq : q < 17) (h : qAu E Q v p4 (lN (hv 48 (ss N q (min K N + 1)) (16 ^ N)).1) (lN (hv 48 (ss N q (min K N + 1)) (16 ^ N)).2)) :
    ∀ (k i : Nat), i + k = min K N + 1 → qN6 E Q (k + 1) v (nI N) (nI K) (nI q) p4 (lN (ss N q i)) (nI i) := by
  intro k
  induction k with
  | zero =>
    intro i hi
    obtain rfl : i = min K N + 1 := by omega
    have hx : qOo E Q v (nI N) p4 (lN (ss N q (min K N + 1))) := by
      intro x12 e12
      have e13 : x12 = lN (16 ^ N) := e12.trans (q_sh ⟨N, hN⟩)
      rw [e13]
      have hb := qbcX hN hK hq
      exact ⟨49, q_hv 48 0 _ _ (by omega) (by rw [hb.1]; exact Nat.lt_of_lt_of_le hb.2.1 (by decide)) (p16 hN).2 h⟩
    by_cases hKN : K ≤ N
    · have e : min K N = K := Nat.min_eq_left hKN
      exact ⟨fun _ => hx, fun c => absurd (by rw [e]; exact nI_lt (Nat.lt_succ_self K) (by omega)) c⟩
    · have e : min K N = N := Nat.min_eq_right (by omega)
      exact ⟨fun _ => hx, fun _ => ⟨fun _ => hx, fun c => absurd (by rw [e]; exact nI_lt (Nat.lt_succ_self N) (by omega)) c⟩⟩
  | succ k ih =>
    intro i hi
    have h1 : i ≤ K := Nat.le_trans (by omega) (Nat.min_le_left K N)
    have h2 : i ≤ N := Nat.le_trans (by omega) (Nat.min_le_right K N)
    refine ⟨fun c => absurd c (nI_nlt h1 (by omega)), fun _ => ⟨fun c => absurd c (nI_nlt h2 (by omega)), fun _ => ?_⟩⟩
    refine qbmq hN (by omega) ?_
    refine q_pw (qbb8 ⟨q, hq⟩).1 (by omega) ?_
    have es : nI N - nI i = nI (N - i) := qbmm ⟨N, hN⟩ ⟨i, by omega⟩ h2
    rw [es]
    refine q_pw (qbb8 ⟨q, hq⟩).2 (by omega) ?_
    intro x10 e10 x11 e11
    rw [e10, e11, nI_1, lN_mul, lN_mul, lN_add]
    exact ih (i + 1) (by omega)
end FewC
theorem q_ls {Q : Int64 → Prop} {p4 : Int32} {U B g : Nat} (hU : U < 2 ^ 62) (hB : B < 2 ^ 62) (hq : Q (lN ((if p4 = 0 then U else B) / g))) : ∀ (k x y : Nat), y < k → x < 2 ^ 62 → y < 2 ^ 62 → (0 < x ∨ 0 < y) → Nat.gcd x y = g → qKV Q k (lN U) (lN B) p4 (lN x) (lN y) := by
  intro k
  induction k with
  | zero => intro x y hy; exact absurd hy (Nat.not_lt_zero y)
  | succ k ih =>
    intro x y hy hx hy2 hp hg
    by_cases y0 : y = 0
    · subst y0
      rw [Nat.gcd_zero_right] at hg
      subst hg
      have hx0 : 0 < x := hp.resolve_right (Nat.lt_irrefl 0)
      refine ⟨fun _ => ⟨fun c => ⟨qa1q hx0 (by omega), fun x3 e3 => ?_⟩, fun c => ⟨qa1q hx0 (by omega), fun x3 e3 => ?_⟩⟩, fun c => absurd (qaLi.mpr rfl) c⟩
      · rw [e3, qaW7 (by omega) (by omega)]; rw [if_neg c] at hq; exact hq
      · rw [e3, qaW7 (by omega) (by omega)]; rw [if_pos c] at hq; exact hq
    · have hy0 : 0 < y := Nat.pos_of_ne_zero y0
      have hm : x % y < y := Nat.mod_lt x hy0
      refine ⟨fun c => absurd (qaLi.mp c) (qa1q hy0 (by omega)), fun _ => ⟨qa1q hy0 (by omega), fun x5 e5 => ?_⟩⟩
      rw [e5, qbjg (by omega) (by omega)]
      refine ih y (x % y) (by omega) hy2 (by omega) (Or.inl hy0) ?_
      rw [Nat.gcd_comm, ← Nat.gcd_rec, Nat.gcd_comm]
      exact hg
theorem qbeX {Q : Int64 → Prop} {p4 : Int32} {U B : Nat} (hU : U < 2 ^ 62) (hB : B < 2 ^ 62) (hB0 : 0 < B) (hq : Q (lN ((if p4 = 0 then U else B) / Nat.gcd U B))) : qGl (lN U) (lN B) p4 Q :=
  ⟨B + 1, q_ls hU hB hq (B + 1) U B (by omega) hU hB (Or.inr hB0) rfl⟩
section FewM
variable {Q : Int64 → Int32 → NI → (Nat → Int64) → Prop} {v p4 : Int32} {rf : Nat → Int32} {N K q : Nat}
theorem qbjI {f : Nat → Int64} {B : Nat} (hK : K < 13) (hf : ∀ j, j < 14 → f j = lN (tt N j q)) (h : qGl (lN (ss N q (K + 1))) (lN B) p4 (fun r => Q r v rf f)) :
    ∀ (k i : Nat), i + k = K + 1 → qKY Q (k + 1) v rf f (nI K) p4 (lN B) (lN (ss N q i)) (nI i) := by
  intro k
  induction k with
  | zero =>
    intro i hi
    obtain rfl : i = K + 1 := by omega
    exact ⟨fun _ => h, fun c => absurd (nI_lt (Nat.lt_succ_self K) (by omega)) c⟩
  | succ k ih =>
    intro i hi
    refine ⟨fun c => absurd c (nI_nlt (by omega) (by omega)), fun _ => ⟨vp_in_nI (by omega) (by omega), fun x20 e20 x21 e21 x22 e22 => ?_⟩⟩
    rw [nI_clamp (by omega), hf i (by omega)] at e20
    rw [e21, e20, e22, nI_1, lN_add]
    exact ih (i + 1) (by omega)
theorem q_m1 : ∀ m : Fin 14, nI (m.val + 1) - 1 = nI m.val ∧ nI m.val + (-1) = nI m.val - 1 ∧ (¬ nI m.val < 0) ∧ (m.val ≠ 0 → ¬ nI m.val ≤ 0) ∧ (m.val ≠ 0 → nI m.val - 1 = nI (m.val - 1)) := by decide +kernel
theorem qbiu {K100 : Int32 → NI → (Nat → Int64) → Int32 → Int32 → Int32 → Int32 → Int64 → Int32 → Prop} {i : Nat} (hi : i < 12) (hq : q < 17) (hK : ∀ f : Nat → Int64, (∀ j, j < 14 → f j = lN (tt (i + 1) j q)) → K100 v rf f (nI N) (nI K) (nI q) p4 (lN (16 ^ (i + 1))) (nI (i + 1))) :
    ∀ (m : Nat) (f : Nat → Int64), m ≤ 14 → (∀ j, j < m → f j = lN (tt i j q)) → (∀ j, m ≤ j → j < 14 → f j = lN (tt (i + 1) j q)) → qvd Q K100 (m + 1) v rf f (nI N) (nI K) (nI q) p4 (lN (16 ^ i)) (nI i) (nI m - 1) := by
  intro m
  induction m with
  | zero =>
    intro f hm h1 h2
    refine ⟨fun _ x24 e24 x25 e25 => ?_, fun c => absurd (by decide) c⟩
    have e : (16 : Int64) = lN 16 := rfl
    rw [e24, e25, nI_1, e, lN_mul, ← Nat.pow_succ]
    exact hK f (fun j hj => h2 j (Nat.zero_le j) hj)
  | succ m ih =>
    intro f hm h1 h2
    obtain ⟨z1, z2, z3, z4, z5⟩ := q_m1 ⟨m, by omega⟩
    have z1 : nI (m + 1) - 1 = nI m := z1
    have z2 : nI m + (-1) = nI m - 1 := z2
    rw [z1]
    have step : ∀ x30 : Int64, x30 = lN (tt (i + 1) m q) → vp_in (nI m) 14 ∧ ∀ f31 : Nat → Int64, f31 = vp_updL f (nI m).toNatClampNeg x30 → ∀ x32 : Int32, x32 = nI m + (-1) → qvd Q K100 (m + 1) v rf f31 (nI N) (nI K) (nI q) p4 (lN (16 ^ i)) (nI i) x32 := by
      intro x30 e30
      refine ⟨vp_in_nI (by omega) (by omega), fun f31 e31 x32 e32 => ?_⟩
      rw [e32, z2]
      rw [nI_clamp (by omega)] at e31
      refine ih f31 (by omega) (fun j hj => ?_) (fun j hj hj2 => ?_)
      · rw [e31, pk_uLn (by omega)]; exact h1 j (by omega)
      · by_cases hjm : j = m
        · rw [e31, hjm, pk_uLs, e30]
        · rw [e31, pk_uLn hjm]; exact h2 j (by omega) hj2
    have w1 : (nI q).toInt64 = lN q := (qbb8 ⟨q, hq⟩).1
    have w2 : (16 - nI q : Int32).toInt64 = lN (16 - q) := (qbb8 ⟨q, hq⟩).2
    have hp := pas (n := i) (j := m) (q := q) hi (by omega) hq
    refine ⟨fun c => absurd c z3, fun _ => ⟨vp_in_nI (by omega) (by omega), fun x26 e26 => ?_⟩⟩
    rw [nI_clamp (by omega), h1 m (by omega)] at e26
    by_cases hm0 : m = 0
    · rw [if_pos hm0] at hp
      refine ⟨fun _ x30 e30 => step x30 ?_, fun c => absurd (by rw [hm0]; decide) c⟩
      rw [e30, e26, w2, lN_mul, hp]
      exact lN_add _ 0
    · rw [if_neg hm0] at hp
      refine ⟨fun c => absurd c (z4 hm0), fun _ x28 e28 => ?_⟩
      have e28 : x28 = nI (m - 1) := by rw [e28]; exact z5 hm0
      refine ⟨by rw [e28]; exact vp_in_nI (by omega) (by omega), fun x29 e29 x30 e30 => step x30 ?_⟩
      rw [e28, nI_clamp (by omega), h1 (m - 1) (by omega)] at e29
      rw [e30, e26, e29, w2, w1, lN_mul, lN_mul, lN_add, hp]
theorem qbii (hN : N < 13) (hK : K < 13) (hq : q < 17) (h : ∀ f : Nat → Int64, (∀ j, j < 14 → f j = lN (tt N j q)) → qGl (lN (ss N q (K + 1))) (lN (16 ^ N)) p4 (fun r => Q r v rf f)) :
    ∀ (k i : Nat) (f : Nat → Int64), i + k = N → (∀ j, j < 14 → f j = lN (tt i j q)) → qD6 Q (k + 1) v rf f (nI N) (nI K) (nI q) p4 (lN (16 ^ i)) (nI i) := by
  intro k
  induction k with
  | zero =>
    intro i f hi hf
    obtain rfl : i = N := by omega
    exact ⟨fun _ => ⟨K + 2, qbjI hK hf (h f hf) (K + 1) 0 (by omega)⟩, fun c => absurd (nI_le (Nat.le_refl _) (by omega)) c⟩
  | succ k ih =>
    intro i f hi hf
    refine ⟨fun c => absurd c (nI_ge (by omega) (by omega)), fun _ => ⟨15, ?_⟩⟩
    exact qbiu (by omega) hq (fun g hg => ih (i + 1) g (by omega) hg) 14 f (Nat.le_refl _) (fun j hj => hf j hj) (fun j h1 h2 => absurd h2 (by omega))
theorem cbn0 : ∀ i : Fin 14, i.val ≠ 0 → cbn 0 i.val = 0 := by decide +kernel
theorem qbm0 (hN : N < 13) (hK : K < 13) (hq : q < 17) (h : ∀ f : Nat → Int64, (∀ j, j < 14 → f j = lN (tt N j q)) → qGl (lN (ss N q (K + 1))) (lN (16 ^ N)) p4 (fun r => Q r v rf f)) :
    ∀ (k i : Nat) (f : Nat → Int64), i + k = 14 → (∀ j, j < i → f j = lN (tt 0 j q)) → qw5 Q (k + 1) v rf f (nI N) (nI K) (nI q) p4 (nI i) := by
  intro k
  induction k with
  | zero =>
    intro i f hi hf
    obtain rfl : i = 14 := by omega
    exact ⟨fun _ => ⟨N + 1, qbii hN hK hq h N 0 f (by omega) hf⟩, fun c => absurd (by decide) c⟩
  | succ k ih =>
    intro i f hi hf
    have step : ∀ w : Int64, w = lN (tt 0 i q) → vp_in (nI i) 14 ∧ ∀ f16 : Nat → Int64, f16 = vp_updL f (nI i).toNatClampNeg w → ∀ x17 : Int32, x17 = nI i + 1 → qw5 Q (k + 1) v rf f16 (nI N) (nI K) (nI q) p4 x17 := by
      intro w ew
      refine ⟨vp_in_nI (by omega) (by omega), fun f16 e16 x17 e17 => ?_⟩
      rw [e17, nI_1]
      rw [nI_clamp (by omega)] at e16
      refine ih (i + 1) f16 (by omega) (fun j hj => ?_)
      by_cases hji : j = i
      · rw [e16, hji, pk_uLs, ew]
      · rw [e16, pk_uLn hji]; exact hf j (by omega)
    refine ⟨fun c => absurd c (nI_ge (b := 14) (by omega) (by omega)), fun _ => ?_⟩
    by_cases hi0 : i = 0
    · refine ⟨fun c => absurd (by rw [hi0]; rfl) c, fun _ => step 1 ?_⟩
      rw [hi0]
      have e : tt 0 0 q = 1 := by show 1 * q ^ 0 * (16 - q) ^ 0 = 1; simp
      exact (congrArg lN e).symm
    · refine ⟨fun _ => step 0 ?_, fun c => absurd c (nI_ne0 (by omega) (by omega))⟩
      have e : tt 0 i q = 0 := by unfold tt; rw [cbn0 ⟨i, by omega⟩ hi0, Nat.zero_mul, Nat.zero_mul]
      exact (congrArg lN e).symm
end FewM
end
section
/-- few of the class, whatever its answer is -/
theorem qbcp {cl y1 y2 y3 y4 : Int32} {fo : Nat → Int64} {Q : Int32 → Int32 → (Nat → Int64) → Prop} (hq : ∀ (r x : Int32) (f : Nat → Int64), Q r x f) : qaOB 1 cl fo y1 y2 y3 y4 Q := by
  refine q_nw (fun h1 => ?_) (fun c => ⟨rfl, hq _ _ _⟩)
  refine q_nw (fun h2 => ?_) (fun c => ⟨rfl, hq _ _ _⟩)
  refine q_nw (fun h3 => ?_) (fun c => ⟨rfl, hq _ _ _⟩)
  refine q_nw (fun h4 => ?_) (fun c => ⟨rfl, hq _ _ _⟩)
  obtain ⟨N, hN, rfl⟩ := nI_of2 (M := 12) (n := 12) rfl (qaHZ.mpr h1.1) h1.2
  obtain ⟨K, hK, rfl⟩ := nI_of2 (M := 12) (n := 12) rfl (qaHZ.mpr h2.1) h2.2
  obtain ⟨q, hq', rfl⟩ := nI_of2 (M := 16) (n := 16) rfl (qaHZ.mpr h3.1) h3.2
  refine ⟨min K N + 2, qbks (by omega) (by omega) (by omega) ?_ (min K N + 1) 0 (by omega)⟩
  exact ⟨fun c => ⟨vin (by decide), fun f5 e5 => hq _ _ _⟩, fun c => ⟨vin (by decide), fun f5 e5 => hq _ _ _⟩⟩
/-- few of the reference, whatever its answer is -/
theorem qa2A {th y1 y2 y3 y4 : Int32} {rf : Nat → Int32} {sn : Nat → Int64} {Q : Int64 → Int32 → NI → (Nat → Int64) → Prop} (hq : ∀ (r : Int64) (x : Int32) (f : NI) (g : Nat → Int64), Q r x f g) : qajD th rf sn y1 y2 y3 y4 Q := by
  have hf : qDf Q 0 rf sn y1 y2 y3 y4 := qbj6 (by decide) (vin (by decide)) (fun g => ⟨fun c => absurd rfl c, fun _ => hq _ _ _ _⟩)
  refine q_wm (fun h1 => ⟨fun c => absurd c (by decide), fun _ => ?_⟩) (fun _ => ⟨fun _ => hf, fun c => absurd rfl c⟩)
  refine q_wm (fun h2 => ⟨fun c => absurd c (by decide), fun _ => ?_⟩) (fun _ => ⟨fun _ => hf, fun c => absurd rfl c⟩)
  refine q_wm (fun h3 => ⟨fun c => absurd c (by decide), fun _ => ?_⟩) (fun _ => ⟨fun _ => hf, fun c => absurd rfl c⟩)
  refine q_wm (fun h4 => ⟨fun c => absurd c (by decide), fun _ => ?_⟩) (fun _ => ⟨fun _ => hf, fun c => absurd rfl c⟩)
  clear hf
  obtain ⟨N, hN, rfl⟩ := nI_of2 (M := 12) (n := 12) rfl (qaHZ.mpr h1.1) h1.2
  obtain ⟨K, hK, rfl⟩ := nI_of2 (M := 12) (n := 12) rfl (qaHZ.mpr h2.1) h2.2
  obtain ⟨q, hq', rfl⟩ := nI_of2 (M := 16) (n := 16) rfl (qaHZ.mpr h3.1) h3.2
  have hb := qbcX (n := N) (k := K) (q := q) (by omega) (by omega) (by omega)
  have hp := p16 (n := N) (by omega)
  have hU : ss N q (K + 1) < 2 ^ 62 := Nat.lt_of_lt_of_le hb.2.1 (by decide)
  refine qbiN ⟨fun _ => ?_, fun c => absurd c (by decide)⟩
  exact ⟨15, qbm0 (by omega) (by omega) (by omega) (fun f hf => qbeX hU hp.2 hp.1 (hq _ _ _ _)) 14 0 _ (by omega) (fun j h => absurd h (Nat.not_lt_zero j))⟩
end
section
/-! the tape's count of the class, told exactly (p2) -/
/-- a text of p signs can be opened on a tape of a, where at most M are let through -/
def uOk (p a : Int32) (M : Int) : Prop := 0 ≤ p.toInt ∧ p.toInt ≤ a.toInt ∧ p.toInt ≤ M
theorem qaq2 {v p a b : Int32} {E : String → Int32 → Prop} {Q : Int32 → Prop} (he : ¬ (a.toInt ≤ p.toInt ∧ p.toInt ≤ b.toInt) → E "java/lang/IllegalArgumentException" (v + 1)) (hq : a.toInt ≤ p.toInt → p.toInt ≤ b.toInt → Q v) : qaC v p a b E Q :=
  q_nw (fun h => hq (qak.mp h.1) (qak.mp h.2)) (fun h => he (fun z => h ⟨qak.mpr z.1, qak.mpr z.2⟩))
theorem qKx {ci ln at_ tk fi fa fp p most : Int32} {M : Int} (eM : most.toInt = M) {E : String → Int32 → Int32 → Int32 → Int32 → Int32 → Int32 → Int32 → Prop} {Q : Int32 → Int32 → Int32 → Int32 → Int32 → Int32 → Int32 → Prop} (hf : fi.toInt ≤ 600)
    (he : ¬ uOk p fi M → E "java/lang/IllegalArgumentException" (ci + 1) ln at_ tk fi fa fp) (hq : uOk p fi M → ∀ x : Int32, 0 ≤ x.toInt → x.toInt ≤ fi.toInt → x.toInt ≤ most.toInt → x = p → Q ci x 0 0 0 0 (-1)) : qyV ci ln at_ tk fi fa fp p most E Q := by
  intro x1 e1
  have hx1 : (fi.toInt < most.toInt ∧ x1.toInt = fi.toInt) ∨ (most.toInt ≤ fi.toInt ∧ x1.toInt = most.toInt) := by
    rw [e1]
    by_cases c : fi < most
    · rw [if_pos c]; rw [qao] at c; omega
    · rw [if_neg c]; rw [qao] at c; omega
  refine qaq2 (fun h => he (fun z => h ⟨by rw [t_0]; exact z.1, by have z1 := z.2.1; have z2 := z.2.2; omega⟩)) (fun g0 g1 x e => ?_)
  rw [t_0] at g0
  have ex : x = p := by
    rw [e]
    by_cases c : 600 < p
    · rw [qao, qaXU] at c; omega
    · rw [if_neg c]
  exact hq ⟨g0, by omega, by omega⟩ x (by rw [ex]; exact g0) (by rw [ex]; omega) (by rw [ex]; omega) ex
end
section
/-! texts: what both readers see of them -/
theorem qaht : (100000 : Int32).toInt = 100000 := by decide
/-- a byte as it is seen: by its number, or (of the class, above 127) below 0 -/
def cR (x : Int32) (c : Int) : Prop := 0 ≤ c ∧ (x.toInt = c ∨ (128 ≤ c ∧ x.toInt < 0))
/-- the text's bytes -/
def tB (n : Nat) (f : NI) (b : Nat → Int) : Prop := ∀ j : Nat, j < n → cR (f j) (b j)
abbrev isD (c : Int) : Prop := 48 ≤ c ∧ c ≤ 57
abbrev isL (c : Int) : Prop := 97 ≤ c ∧ c ≤ 122
def skF (n : Nat) (b : Nat → Int) : Nat → Nat → Nat
  | 0, a => a
  | k + 1, a => if a < n ∧ b a = 32 then skF n b k (a + 1) else a
def sk (n : Nat) (b : Nat → Int) (a : Nat) : Nat := skF n b (n - a) a
def dEF (n : Nat) (b : Nat → Int) : Nat → Nat → Nat
  | 0, a => a
  | k + 1, a => if a < n ∧ isD (b a) then dEF n b k (a + 1) else a
def dE (n : Nat) (b : Nat → Int) (a : Nat) : Nat := dEF n b (n - a) a
def dvF (n : Nat) (b : Nat → Int) : Nat → Nat → Int → Int
  | 0, _, v => v
  | k + 1, a, v => if a < n ∧ isD (b a) then dvF n b k (a + 1) (10 * v + (b a - 48)) else v
def dv (n : Nat) (b : Nat → Int) (a : Nat) (v : Int) : Int := dvF n b (n - a) a v
def lEF (n : Nat) (b : Nat → Int) : Nat → Nat → Nat
  | 0, a => a
  | k + 1, a => if a < n ∧ isL (b a) then lEF n b k (a + 1) else a
def lE (n : Nat) (b : Nat → Int) (a : Nat) : Nat := lEF n b (n - a) a
/-- the byte at a place, 0 behind the end -/
def at0 (n : Nat) (b : Nat → Int) (p : Nat) : Int := if p < n then b p else 0
section TXa
variable {n : Nat} {b : Nat → Int} {a : Nat}
theorem qLt (h : a < n) : at0 n b a = b a := if_pos h
theorem qB6 (h : ¬ a < n) : at0 n b a = 0 := if_neg h
theorem qaZF (h : a < n ∧ b a = 32) : sk n b a = sk n b (a + 1) := by
  unfold sk
  rw [show n - a = (n - (a + 1)) + 1 by omega, skF, if_pos h]
theorem qalQ (h : ¬ (a < n ∧ b a = 32)) : sk n b a = a := by
  unfold sk
  cases n - a with
  | zero => rfl
  | succ k => rw [skF, if_neg h]
theorem qaRZ (h : a < n ∧ isD (b a)) : dE n b a = dE n b (a + 1) := by
  unfold dE
  rw [show n - a = (n - (a + 1)) + 1 by omega, dEF, if_pos h]
theorem qaO4 (h : ¬ (a < n ∧ isD (b a))) : dE n b a = a := by
  unfold dE
  cases n - a with
  | zero => rfl
  | succ k => rw [dEF, if_neg h]
theorem qaYV {v : Int} (h : a < n ∧ isD (b a)) : dv n b a v = dv n b (a + 1) (10 * v + (b a - 48)) := by
  unfold dv
  rw [show n - a = (n - (a + 1)) + 1 by omega, dvF, if_pos h]
theorem qaQC {v : Int} (h : ¬ (a < n ∧ isD (b a))) : dv n b a v = v := by
  unfold dv
  cases n - a with
  | zero => rfl
  | succ k => rw [dvF, if_neg h]
theorem qxy (h : a < n ∧ isL (b a)) : lE n b a = lE n b (a + 1) := by
  unfold lE
  rw [show n - a = (n - (a + 1)) + 1 by omega, lEF, if_pos h]
theorem q4A (h : ¬ (a < n ∧ isL (b a))) : lE n b a = a := by
  unfold lE
  cases n - a with
  | zero => rfl
  | succ k => rw [lEF, if_neg h]
theorem quu : ∀ (m a : Nat), n - a = m → a ≤ sk n b a ∧ (sk n b a ≤ n ∨ sk n b a = a) ∧ ¬ (sk n b a < n ∧ b (sk n b a) = 32) := by
  intro m
  induction m with
  | zero =>
    intro a h
    have z : ¬ (a < n ∧ b a = 32) := fun w => by omega
    rw [qalQ z]
    exact ⟨Nat.le_refl _, Or.inr rfl, z⟩
  | succ m ih =>
    intro a h
    by_cases c : a < n ∧ b a = 32
    · rw [qaZF c]
      obtain ⟨h1, h2, h3⟩ := ih (a + 1) (by omega)
      exact ⟨by omega, by omega, h3⟩
    · rw [qalQ c]
      exact ⟨Nat.le_refl _, Or.inr rfl, c⟩
theorem qa02 : ∀ (m a : Nat), n - a = m → a ≤ dE n b a ∧ (dE n b a ≤ n ∨ dE n b a = a) := by
  intro m
  induction m with
  | zero =>
    intro a h
    have z : ¬ (a < n ∧ isD (b a)) := fun w => by omega
    rw [qaO4 z]
    exact ⟨Nat.le_refl _, Or.inr rfl⟩
  | succ m ih =>
    intro a h
    by_cases c : a < n ∧ isD (b a)
    · rw [qaRZ c]
      obtain ⟨h1, h2⟩ := ih (a + 1) (by omega)
      exact ⟨by omega, by omega⟩
    · rw [qaO4 c]
      exact ⟨Nat.le_refl _, Or.inr rfl⟩
theorem qa1r : ∀ (m a : Nat) (v : Int), n - a = m → 0 ≤ v → v ≤ dv n b a v := by
  intro m
  induction m with
  | zero =>
    intro a v h hv
    have z : ¬ (a < n ∧ isD (b a)) := fun w => by omega
    rw [qaQC z]
    exact Int.le_refl _
  | succ m ih =>
    intro a v h hv
    by_cases c : a < n ∧ isD (b a)
    · rw [qaYV c]
      have h1 := ih (a + 1) (10 * v + (b a - 48)) (by omega) (by omega)
      omega
    · rw [qaQC c]
      exact Int.le_refl _
theorem qauv : sk n b (sk n b a) = sk n b a := qalQ (quu _ a rfl).2.2
theorem qNi (h : a ≤ 600) (hn : n ≤ 600) : sk n b a ≤ 600 := by
  have := (quu (n := n) (b := b) _ a rfl).2.1
  omega
theorem qbbO (h : a ≤ 600) (hn : n ≤ 600) : dE n b a ≤ 600 := by
  have := (qa02 (n := n) (b := b) _ a rfl).2
  omega
end TXa
/-! the class -/
section TXc
variable {n : Nat} {b : Nat → Int} {len : Int32} {f : Nat → Int32}
theorem qbjy {Q : Int32 → Prop} (hl : len.toInt = n) (hn : n ≤ 600) (hb : tB n f b) : ∀ (k : Nat) (a : Int32) (p : Nat), a.toInt = p → p ≤ 600 → 600 - p < k → (∀ x : Int32, x.toInt = (sk n b p : Nat) → Q x) → qBh len f Q k a := by
  intro k
  induction k with
  | zero => intro a p h0 h1 h2; omega
  | succ k ih =>
    intro a p h0 h1 h2 hq
    have hc : a.toNatClampNeg = p := qas h0
    refine ⟨fun c => hq a ?_, fun c => ?_⟩
    · rw [qak] at c
      rw [qalQ (fun w => by omega)]; exact h0
    rw [qak] at c
    have hp : p < n := by omega
    have hy := hb p hp
    unfold cR at hy
    refine ⟨qa6 (by omega) (by omega), fun x2 e2 => ⟨fun c2 => hq a ?_, fun c2 x4 e4 => ?_⟩⟩
    · rw [hc] at e2
      rw [e2, qan, t_32] at c2
      rw [qalQ (fun w => by omega)]; exact h0
    · rw [hc] at e2
      rw [e2, qan, t_32] at c2
      have z : b p = 32 := by omega
      have e : x4.toInt = ((p + 1 : Nat) : Int) := by rw [e4, qca (by omega), h0]; omega
      exact ih x4 (p + 1) e (by omega) (by omega) (fun x hx => hq x (by rw [qaZF ⟨hp, z⟩]; exact hx))
theorem qy4 {Q : Int32 → Prop} (hl : len.toInt = n) (hn : n ≤ 600) (hb : tB n f b) {a : Int32} {p : Nat} (h0 : a.toInt = p) (h1 : p ≤ 600) (hq : ∀ x : Int32, x.toInt = (sk n b p : Nat) → Q x) : qsx len f a Q :=
  ⟨601, qbjy hl hn hb 601 a p h0 h1 (by omega) hq⟩
theorem qagd {Q : Int32 → Prop} (hl : len.toInt = n) (hn : n ≤ 600) (hb : tB n f b) {a : Int32} {p : Nat} (h0 : a.toInt = p) (hy : isD (at0 n b p) → ∀ r : Int32, r.toInt = at0 n b p - 48 → Q r) (hz : ¬ isD (at0 n b p) → Q (-1)) : qC5 len f a Q := by
  have hc : a.toNatClampNeg = p := qas h0
  refine ⟨fun c => hz ?_, fun c => ?_⟩
  · rw [qak] at c
    rw [qB6 (by omega)]; omega
  rw [qak] at c
  have hp : p < n := by omega
  have hw := hb p hp
  unfold cR at hw
  rw [qLt hp] at hy hz
  refine ⟨qa6 (by omega) (by omega), fun x2 e2 => ⟨fun c2 => hz ?_, fun c2 => ⟨qa6 (by omega) (by omega), fun x4 e4 => ⟨fun c4 => ⟨qa6 (by omega) (by omega), fun x6 e6 => ?_⟩, fun c4 => hz ?_⟩⟩⟩⟩
  · rw [hc] at e2; rw [e2, qao, t_48] at c2; omega
  · rw [hc] at e2 e4 e6
    rw [e2, qao, t_48] at c2
    rw [e4, qak, t_57] at c4
    refine hy (by omega) _ ?_
    rw [e6, qpT (by rw [t_48]; omega) (by rw [t_48]; omega), t_48]
    omega
  · rw [hc] at e4
    rw [e4, qak, t_57] at c4
    omega
theorem qbmJ {Q : Int32 → Int32 → Int32 → Int32 → Int32 → Prop} {fa fp tk lo hi : Int32} (hl : len.toInt = n) (hn : n ≤ 600) (hb : tB n f b) : ∀ (k : Nat) (a l3 : Int32) (p : Nat) (V : Int), a.toInt = p → p ≤ 600 → 600 - p < k → 0 ≤ V → (V < 100000 → l3.toInt = V) → (100000 ≤ V → l3.toInt = 100000) →
    (∀ x l : Int32, x.toInt = (dE n b p : Nat) → (dv n b p V < 100000 → l.toInt = dv n b p V) → (100000 ≤ dv n b p V → l.toInt = 100000) → qBA len f Q x fa fp tk lo hi l) → qId len f Q k a fa fp tk lo hi l3 := by
  intro k
  induction k with
  | zero => intro a l3 p V h0 h1 h2; omega
  | succ k ih =>
    intro a l3 p V h0 h1 h2 hV g1 g2 hq
    have stop : ¬ (p < n ∧ isD (b p)) → qBA len f Q a fa fp tk lo hi l3 := fun z => by
      rw [qaO4 z, qaQC z] at hq
      exact hq a l3 h0 g1 g2
    refine ⟨fun c => stop ?_, fun c => ?_⟩
    · rw [qak] at c; exact fun w => by omega
    rw [qak] at c
    have hp : p < n := by omega
    refine qagd hl hn hb h0 (fun y r er => ?_) (fun y => ?_)
    · rw [qLt hp] at y er
      refine ⟨fun c2 => ?_, fun c2 => ?_⟩
      · rw [qao, t_0] at c2; omega
      refine qagd hl hn hb h0 (fun y2 r2 er2 => ?_) (fun y2 => ?_)
      · rw [qLt hp] at er2
        intro x12 e12 x13 e13
        have ea : x13.toInt = ((p + 1 : Nat) : Int) := by rw [e13, qca (by omega), h0]; omega
        have el : (l3 * 10 + r2).toInt = l3.toInt * 10 + r2.toInt := by
          have em : (l3 * 10).toInt = l3.toInt * 10 := by rw [qu8 (by rw [qgg]; omega) (by rw [qgg]; omega), qgg]
          rw [qap (by rw [em]; omega) (by rw [em]; omega), em]
        rw [qaRZ ⟨hp, y⟩, qaYV ⟨hp, y⟩] at hq
        refine ih x13 x12 (p + 1) (10 * V + (b p - 48)) ea (by omega) (by omega) (by omega) (fun w => ?_) (fun w => ?_) hq
        · have w2 : V < 100000 := by omega
          have e3 := g1 w2
          rw [e12, if_pos (by rw [qao, el, qaht]; omega), el]
          omega
        · by_cases w2 : V < 100000
          · have e3 := g1 w2
            rw [e12, if_neg (by rw [qao, el, qaht]; omega), qaht]
          · have e3 := g2 (by omega)
            rw [e12, if_neg (by rw [qao, el, qaht]; omega), qaht]
      · exact absurd (by rw [qLt hp]; exact y) y2
    · rw [qLt hp] at y
      exact ⟨fun _ => stop (fun w => y w.2), fun c2 => absurd (by decide) c2⟩
/-- a number of the class: with a fault before, without a digit, out of its bounds, or well -/
theorem qbcu {Q : Int32 → Int32 → Int32 → Int32 → Int32 → Prop} {a fa fp tk lo hi : Int32} {p : Nat} (hl : len.toInt = n) (hn : n ≤ 600) (hb : tB n f b) (h0 : a.toInt = p) (h1 : p ≤ 600) (hlo : 0 ≤ lo.toInt) (hhi : hi.toInt ≤ 999)
    (q1 : ¬ fa = 0 → ∀ x : Int32, x.toInt = (sk n b p : Nat) → Q 0 x fa fp tk)
    (q2 : fa = 0 → ¬ isD (at0 n b (sk n b p)) → ∀ x : Int32, x.toInt = (sk n b p : Nat) → Q 0 x 1 x tk)
    (q3 : fa = 0 → isD (at0 n b (sk n b p)) → (lo.toInt ≤ dv n b (sk n b p) 0 ∧ dv n b (sk n b p) 0 ≤ hi.toInt) → ∀ r x t : Int32, r.toInt = dv n b (sk n b p) 0 → x.toInt = (dE n b (sk n b p) : Nat) → t.toInt = (sk n b p : Nat) → Q r x 0 fp t)
    (q4 : fa = 0 → isD (at0 n b (sk n b p)) → ¬ (lo.toInt ≤ dv n b (sk n b p) 0 ∧ dv n b (sk n b p) 0 ≤ hi.toInt) → ∀ r x t : Int32, x.toInt = (dE n b (sk n b p) : Nat) → t.toInt = (sk n b p : Nat) → Q r x 2 t t) : qe2 len f a fa fp tk lo hi Q := by
  refine qy4 hl hn hb h0 h1 (fun x1 e1 => ?_)
  have hs := qNi (b := b) h1 hn
  refine qagd hl hn hb e1 (fun y r er => ?_) (fun y => ?_)
  · refine ⟨fun _ => ⟨fun z => ⟨fun _ => ?_, fun c => absurd rfl c⟩, fun z => ⟨fun c => absurd c (by decide), fun _ => q1 z x1 e1⟩⟩, fun c => ?_⟩
    · refine ⟨601, qbmJ hl hn hb 601 x1 0 (sk n b p) 0 e1 hs (by omega) (by omega) (fun _ => t_0) (fun w => by omega) (fun x l ex g1 g2 => ?_)⟩
      have hv := qa1r (n := n) (b := b) _ (sk n b p) 0 rfl (by omega)
      by_cases hr : lo.toInt ≤ dv n b (sk n b p) 0 ∧ dv n b (sk n b p) 0 ≤ hi.toInt
      · have e := g1 (by omega)
        refine ⟨fun c => ?_, fun c => ⟨fun c2 => ?_, fun c2 => ⟨fun _ => ?_, fun d => absurd d (by decide)⟩⟩⟩
        · rw [qao] at c; omega
        · rw [qao] at c2; omega
        · rw [z]; exact q3 z y hr l x x1 e ex e1
      · have bad : qKe fa fp 2 x1 (fun x16 x17 => Q l x x16 x17 x1) := ⟨fun d => absurd z d, fun _ => q4 z y hr l x x1 ex e1⟩
        refine ⟨fun c => ⟨fun d => absurd rfl d, fun _ => bad⟩, fun c => ⟨fun c2 => ⟨fun d => absurd rfl d, fun _ => bad⟩, fun c2 => ?_⟩⟩
        rw [qao] at c c2
        by_cases w : dv n b (sk n b p) 0 < 100000
        · have e := g1 w
          exact absurd ⟨by omega, by omega⟩ hr
        · have e := g2 (by omega)
          omega
    · rw [qak, t_0] at c; omega
  · refine ⟨fun c => absurd c (by decide), fun _ => ⟨fun z => ?_, fun z => ?_⟩⟩
    · refine ⟨fun d => absurd d z, fun _ => ⟨fun c => absurd c (by decide), fun _ => ?_⟩⟩
      exact q1 z x1 e1
    · refine ⟨fun d => absurd d (by decide), fun _ => ⟨fun c => absurd c (by decide), fun _ => ?_⟩⟩
      exact q2 z y x1 e1
/-- a sign that is wanted -/
theorem qbfl {Q : Int32 → Int32 → Int32 → Int32 → Prop} {a tk fa fp c : Int32} {p : Nat} (hl : len.toInt = n) (hn : n ≤ 600) (hb : tB n f b) (h0 : a.toInt = p) (h1 : p ≤ 600) (hc : 1 ≤ c.toInt ∧ c.toInt ≤ 127)
    (q1 : ¬ fa = 0 → ∀ x : Int32, x.toInt = (sk n b p : Nat) → Q x tk fa fp)
    (q2 : fa = 0 → at0 n b (sk n b p) = c.toInt → ∀ x t : Int32, x.toInt = ((sk n b p + 1 : Nat) : Int) → Q x t 0 fp)
    (q3 : fa = 0 → at0 n b (sk n b p) ≠ c.toInt → ∀ x : Int32, x.toInt = (sk n b p : Nat) → Q x tk 1 x) : qp1 len f a tk fa fp c Q := by
  have hs := qNi (b := b) h1 hn
  have no : ∀ x1 : Int32, x1.toInt = (sk n b p : Nat) → (¬ fa = 0 ∨ at0 n b (sk n b p) ≠ c.toInt) → qua len f x1 fa fp (fun x5 x6 x7 => Q x5 tk x6 x7) := fun x1 e1 w => by
    refine qy4 hl hn hb e1 hs (fun x2 e2 => ?_)
    rw [qauv] at e2
    refine ⟨fun z => q1 z x2 e2, fun z => q3 z (w.resolve_left (fun d => d z)) x2 e2⟩
  refine qy4 hl hn hb h0 h1 (fun x1 e1 => ⟨fun z => ⟨fun d => absurd rfl d, fun _ => ?_⟩, fun z => ⟨fun _ => ⟨fun d => absurd rfl d, fun _ => no x1 e1 (Or.inl z)⟩, fun d => absurd d (by decide)⟩⟩)
  refine ⟨fun c1 => ⟨fun d => absurd rfl d, fun _ => no x1 e1 (Or.inr ?_)⟩, fun c1 => ?_⟩
  · rw [qak] at c1
    rw [qB6 (by omega)]; omega
  rw [qak] at c1
  have hp : sk n b p < n := by omega
  have hw := hb _ hp
  unfold cR at hw
  have hcl : x1.toNatClampNeg = sk n b p := qas e1
  refine ⟨qa6 (by omega) (by omega), fun x5 e5 => ⟨fun c5 x7 e7 => ⟨fun _ => ?_, fun d => absurd d (by decide)⟩, fun c5 => ⟨fun d => absurd rfl d, fun _ => no x1 e1 (Or.inr ?_)⟩⟩⟩
  · rw [hcl] at e5
    rw [e5, qan] at c5
    rw [z]
    exact q2 z (by rw [qLt hp]; omega) x7 x1 (by rw [e7, qca (by omega), e1]; omega)
  · rw [hcl] at e5
    rw [e5, qan] at c5
    rw [qLt hp]; omega
theorem qaUb {Q : Int32 → Int32 → Prop} {a : Int32} {p : Nat} (hl : len.toInt = n) (hn : n ≤ 600) (hb : tB n f b) (h0 : a.toInt = p) (h1 : p ≤ 600)
    (q0 : sk n b p < n → ∀ x : Int32, x.toInt = (sk n b p : Nat) → Q 0 x) (q1 : ¬ sk n b p < n → ∀ x : Int32, x.toInt = (sk n b p : Nat) → Q 1 x) : qzU len f a Q :=
  qy4 hl hn hb h0 h1 (fun x e => ⟨fun c => q0 (by rw [qao] at c; omega) x e, fun c => q1 (by rw [qao] at c; omega) x e⟩)
theorem qa2Q {Q : Int32 → Prop} {a : Int32} {p : Nat} (hl : len.toInt = n) (hn : n ≤ 600) (hb : tB n f b) (h0 : a.toInt = p) (q1 : isL (at0 n b p) → Q 1) (q0 : ¬ isL (at0 n b p) → Q 0) : qS2 len f a Q := by
  have hc : a.toNatClampNeg = p := qas h0
  refine ⟨fun c => q0 ?_, fun c => ?_⟩
  · rw [qak] at c
    rw [qB6 (by omega)]; omega
  rw [qak] at c
  have hp : p < n := by omega
  have hw := hb p hp
  unfold cR at hw
  rw [qLt hp] at q0 q1
  refine ⟨qa6 (by omega) (by omega), fun x2 e2 => ⟨fun c2 => q0 ?_, fun c2 => ⟨qa6 (by omega) (by omega), fun x4 e4 => ⟨fun c4 => q0 ?_, fun c4 => q1 ?_⟩⟩⟩⟩
  · rw [hc] at e2; rw [e2, qao, t_97] at c2; omega
  · rw [hc] at e4; rw [e4, qao, qa6u] at c4; omega
  · rw [hc] at e2 e4; rw [e2, qao, t_97] at c2; rw [e4, qao, qa6u] at c4; omega
end TXc
end
section
/-! words, and the reference's tokens -/
def isW (n : Nat) (b : Nat → Int) (m : Nat) (w : Nat → Int) (s : Nat) : Prop := s + m ≤ n ∧ ¬ isL (at0 n b (s + m)) ∧ ∀ j : Nat, j < m → b (s + j) = w j
/-- a String's letters -/
def wSt (m : Nat) (b1 : NI) (w : Nat → Int) : Prop := (Int32.ofNat m >>> ((0 : Int32) &&& 31)).toInt = m ∧ (Int32.ofNat m).toInt = m ∧ m ≤ 6 ∧ ∀ j : Nat, j < m → ((((b1 j) &&& 255).toUInt32 % 65536).toInt32).toInt = w j ∧ isL (w j)
section TXw
variable {n : Nat} {b : Nat → Int} {len : Int32} {f : Nat → Int32}
theorem x_wl {Q : Int32 → Int32 → Int32 → Prop} {m : Nat} {b1 : Nat → Int32} {w : Nat → Int} {a fa tk l2 : Int32} {s : Nat} (hn : n ≤ 600) (hb : tB n f b) (hS : wSt m b1 w) (ha : a.toInt = s) (hs : s + m ≤ n)
    (q0 : ¬ (∀ j : Nat, j < m → b (s + j) = w j) → Q 0 a tk) (q1 : (∀ j : Nat, j < m → b (s + j) = w j) → Q 1 l2 a) :
    ∀ (k : Nat) (l3 : Int32) (i : Nat), l3.toInt = i → i ≤ m → m - i < k → (∀ j : Nat, j < i → b (s + j) = w j) → quV m b1 len fa f Q k a tk l2 l3 := by
  obtain ⟨z1, z2, z3, z4⟩ := hS
  intro k
  induction k with
  | zero => intro l3 i h0 h1 h2; omega
  | succ k ih =>
    intro l3 i h0 h1 h2 hj
    refine ⟨fun c => q1 (fun j hj2 => hj j ?_), fun c x11 e11 => ?_⟩
    · rw [qak, z1] at c; omega
    rw [qak, z1] at c
    have hi : i < m := by omega
    have e : x11.toInt = ((s + i : Nat) : Int) := by rw [e11, qap (by omega) (by omega)]; omega
    have hc : x11.toNatClampNeg = s + i := qas e
    have hci : l3.toNatClampNeg = i := qas h0
    have hw := hb (s + i) (by omega)
    unfold cR at hw
    obtain ⟨y1, y2⟩ := z4 i hi
    refine ⟨qa6 (by omega) (by omega), fun x12 e12 => ⟨fun d => ?_, ?_, qa6 (by omega) (by omega), fun x ex => ⟨by rw [ex]; exact qbed _, fun c2 x15 e15 => ?_, fun c2 => q0 (fun hall => ?_)⟩⟩⟩
    · rw [qao, t_0] at d; omega
    · rw [qao, z2]; omega
    · rw [hc] at e12
      rw [hci] at ex
      rw [e12, ex, qan, y1] at c2
      have e5 : x15.toInt = ((i + 1 : Nat) : Int) := by rw [e15, qca (by omega), h0]; omega
      refine ih x15 (i + 1) e5 (by omega) (by omega) (fun j hj2 => ?_)
      by_cases z : j = i
      · rw [z]; omega
      · exact hj j (by omega)
    · have h9 := hall i hi
      rw [hc] at e12
      rw [hci] at ex
      exact c2 (by rw [e12, ex, qan, y1]; omega)
theorem qbdO {Q : Int32 → Int32 → Int32 → Prop} {m : Nat} {b1 : Nat → Int32} {w : Nat → Int} {a fa tk : Int32} {p : Nat} (hl : len.toInt = n) (hn : n ≤ 600) (hb : tB n f b) (h0 : a.toInt = p) (h1 : p ≤ 600) (hS : wSt m b1 w)
    (q0 : (¬ fa = 0 ∨ ¬ isW n b m w (sk n b p)) → ∀ x : Int32, x.toInt = (sk n b p : Nat) → Q 0 x tk)
    (q1 : fa = 0 → isW n b m w (sk n b p) → ∀ x t : Int32, x.toInt = ((sk n b p + m : Nat) : Int) → t.toInt = (sk n b p : Nat) → Q 1 x t) : qbL m b1 len fa f a tk Q := by
  obtain ⟨z1, z2, z3, z4⟩ := id hS
  refine qy4 hl hn hb h0 h1 (fun x1 e1 x3 e3 => ?_)
  have hs := qNi (b := b) h1 hn
  have e : x3.toInt = ((sk n b p + m : Nat) : Int) := by rw [e3, qap (by rw [z1]; omega) (by rw [z1]; omega), z1]; omega
  refine ⟨fun z => ⟨fun d => absurd rfl d, fun _ => ?_⟩, fun z => ⟨fun _ => q0 (Or.inl z) x1 e1, fun d => absurd d (by first | decide | simp)⟩⟩
  refine ⟨fun c => q0 (Or.inr (fun w9 => ?_)) x1 e1, fun c => ?_⟩
  · rw [qao] at c
    have := w9.1
    omega
  rw [qao] at c
  refine qa2Q hl hn hb e (fun y => ⟨fun d => absurd d (by first | decide | simp), fun _ => q0 (Or.inr (fun w9 => w9.2.1 y)) x1 e1⟩) (fun y => ⟨fun _ => ?_, fun d => absurd rfl d⟩)
  refine ⟨m + 1, x_wl hn hb hS e1 (by omega) (fun w9 => q0 (Or.inr (fun w8 => w9 w8.2.2)) x1 e1) (fun w9 => q1 z ⟨by omega, y, w9⟩ x3 x1 e e1) (m + 1) 0 0 t_0 (by omega) (by omega) (fun j hj => by omega)⟩
/-! the reference -/
theorem y_hl {Q : Int32 → Int32 → Prop} (hl : len.toInt = n) (hn : n ≤ 600) (hb : tB n f b) : ∀ (k : Nat) (a : Int32) (p : Nat), a.toInt = p → p ≤ 600 → 600 - p < k → (∀ r x : Int32, x.toInt = (sk n b p : Nat) → cR r (at0 n b (sk n b p)) → Q r x) → qOn len f Q k a := by
  intro k
  induction k with
  | zero => intro a p h0 h1 h2; omega
  | succ k ih =>
    intro a p h0 h1 h2 hq
    have hc : a.toNatClampNeg = p := qas h0
    have stop : ¬ (p < n ∧ b p = 32) → qKo len f Q a := fun z => by
      rw [qalQ z] at hq
      refine ⟨fun c => hq 0 a h0 ?_, fun c => ?_⟩
      · rw [qak] at c
        rw [qB6 (by omega)]
        exact ⟨Int.le_refl _, Or.inl t_0⟩
      · rw [qak] at c
        have hp : p < n := by omega
        refine ⟨qa6 (by omega) (by omega), fun x6 e6 => hq x6 a h0 ?_⟩
        rw [qLt hp, e6, hc]
        exact hb p hp
    refine ⟨fun c => stop ?_, fun c => ?_⟩
    · rw [qak] at c; exact fun w => by omega
    rw [qak] at c
    have hp : p < n := by omega
    have hy := hb p hp
    unfold cR at hy
    refine ⟨qa6 (by omega) (by omega), fun x2 e2 => ⟨fun c2 => stop ?_, fun c2 x4 e4 => ?_⟩⟩
    · rw [hc] at e2
      rw [e2, qan, t_32] at c2
      exact fun w => by omega
    · rw [hc] at e2
      rw [e2, qan, t_32] at c2
      have z : b p = 32 := by omega
      have e : x4.toInt = ((p + 1 : Nat) : Int) := by rw [e4, qca (by omega), h0]; omega
      rw [qaZF ⟨hp, z⟩] at hq
      exact ih x4 (p + 1) e (by omega) (by omega) hq
theorem qaUk {Q : Int32 → Int32 → Prop} {a : Int32} {p : Nat} (hl : len.toInt = n) (hn : n ≤ 600) (hb : tB n f b) (h0 : a.toInt = p) (h1 : p ≤ 600) (hq : ∀ r x : Int32, x.toInt = (sk n b p : Nat) → cR r (at0 n b (sk n b p)) → Q r x) : qbM len f a Q :=
  ⟨601, y_hl hl hn hb 601 a p h0 h1 (by omega) hq⟩
theorem qa0g {Q : Int32 → Int32 → Prop} {a : Int32} {p : Nat} (hl : len.toInt = n) (hn : n ≤ 600) (hb : tB n f b) (h0 : a.toInt = p) (h1 : p ≤ 600)
    (q1 : sk n b p < n → ∀ x : Int32, x.toInt = (sk n b p : Nat) → Q 1 x) (q0 : ¬ sk n b p < n → ∀ x : Int32, x.toInt = (sk n b p : Nat) → Q 0 x) : qsp len f a Q :=
  qaUk hl hn hb h0 h1 (fun r x e _ => ⟨fun c => q0 (by rw [qak] at c; omega) x e, fun c => q1 (by rw [qak] at c; omega) x e⟩)
theorem qaeS {Q : Int32 → Prop} {r : Int32} {c : Int} (h : cR r c) (q1 : isD c → Q 1) (q0 : ¬ isD c → Q 0) : qAr r Q := by
  unfold cR at h
  refine ⟨fun z => q0 ?_, fun z => ⟨fun z2 => q0 ?_, fun z2 => q1 ?_⟩⟩
  · simp only [qao, qak, t_48, t_57] at z; omega
  · simp only [qao, qak, t_48, t_57] at z z2; omega
  · simp only [qao, qak, t_48, t_57] at z z2; omega
theorem qaTK {Q : Int32 → Prop} {r : Int32} {c : Int} (h : cR r c) (q1 : isL c → Q 1) (q0 : ¬ isL c → Q 0) : qK0 r Q := by
  unfold cR at h
  refine ⟨fun z => q0 ?_, fun z => ⟨fun z2 => q0 ?_, fun z2 => q1 ?_⟩⟩
  · simp only [qao, qak, t_97, qa6u] at z; omega
  · simp only [qao, qak, t_97, qa6u] at z z2; omega
  · simp only [qao, qak, t_97, qa6u] at z z2; omega
theorem qbmk {Q : Int32 → Int32 → Int32 → Int32 → Prop} {bd bk lo hi l4 : Int32} (hl : len.toInt = n) (hn : n ≤ 600) (hb : tB n f b) : ∀ (k : Nat) (a l5 : Int32) (p : Nat) (V : Int), a.toInt = p → p ≤ 600 → 600 - p < k → 0 ≤ V → (V ≤ 9999 → l5.toInt = V) → (9999 < V → 9999 < l5.toInt ∧ l5.toInt ≤ 99999) →
    (∀ x l : Int32, x.toInt = (dE n b p : Nat) → (dv n b p V ≤ 9999 → l.toInt = dv n b p V) → (9999 < dv n b p V → 9999 < l.toInt) → qtW len f Q x bd bk lo hi l4 l) → qqc len f Q k a bd bk lo hi l4 l5 := by
  intro k
  induction k with
  | zero => intro a l5 p V h0 h1 h2; omega
  | succ k ih =>
    intro a l5 p V h0 h1 h2 hV g1 g2 hq
    have hc : a.toNatClampNeg = p := qas h0
    have stop : ¬ (p < n ∧ isD (b p)) → qtW len f Q a bd bk lo hi l4 l5 := fun z => by
      rw [qaO4 z, qaQC z] at hq
      exact hq a l5 h0 g1 (fun w => (g2 w).1)
    refine ⟨fun c => stop ?_, fun c => ?_⟩
    · rw [qak] at c; exact fun w => by omega
    rw [qak] at c
    have hp : p < n := by omega
    have hy := hb p hp
    refine ⟨qa6 (by omega) (by omega), fun x10 e10 => ?_⟩
    rw [hc] at e10
    rw [← e10] at hy
    refine qaeS hy (fun y => ⟨fun d => absurd d (by first | decide | simp), fun _ => ?_⟩) (fun y => ⟨fun _ => stop (fun w => y w.2), fun d => absurd rfl d⟩)
    unfold cR at hy
    rw [qaRZ ⟨hp, y⟩, qaYV ⟨hp, y⟩] at hq
    refine ⟨fun c5 => ⟨qa6 (by omega) (by omega), fun x14 e14 x17 e17 => ?_⟩, fun c5 x17 e17 => ?_⟩
    · rw [hc, ← e10] at e14
      rw [qak, qbc1] at c5
      have hV2 : V ≤ 9999 := by
        by_cases w : V ≤ 9999
        · exact w
        · have := g2 (by omega); omega
      have e5 := g1 hV2
      have ea : x17.toInt = ((p + 1 : Nat) : Int) := by rw [e17, qca (by omega), h0]; omega
      have em : (10 * l5).toInt = 10 * l5.toInt := by rw [qu8 (by rw [qgg]; omega) (by rw [qgg]; omega), qgg]
      have ep : (10 * l5 + x14).toInt = 10 * l5.toInt + x14.toInt := by rw [qap (by rw [em, e14]; omega) (by rw [em, e14]; omega), em]
      have el : (10 * l5 + x14 - 48).toInt = 10 * V + (b p - 48) := by
        rw [qpT (by rw [ep, t_48, e14]; omega) (by rw [ep, t_48, e14]; omega), ep, t_48, e14]; omega
      exact ih x17 _ (p + 1) (10 * V + (b p - 48)) ea (by omega) (by omega) (by omega) (fun w => el) (fun w => by rw [el]; omega) hq
    · rw [qak, qbc1] at c5
      have ea : x17.toInt = ((p + 1 : Nat) : Int) := by rw [e17, qca (by omega), h0]; omega
      have hV2 : 9999 < V := by
        by_cases w : V ≤ 9999
        · have := g1 w; omega
        · omega
      exact ih x17 _ (p + 1) (10 * V + (b p - 48)) ea (by omega) (by omega) (by omega) (fun w => by omega) (fun w => by rw [qbgy]; omega) hq
/-- a number of the reference -/
theorem qbbG {Q : Int32 → Int32 → Int32 → Int32 → Prop} {a bd bk lo hi : Int32} {p : Nat} (hl : len.toInt = n) (hn : n ≤ 600) (hb : tB n f b) (h0 : a.toInt = p) (h1 : p ≤ 600) (hlo : 0 ≤ lo.toInt) (hhi : hi.toInt ≤ 999)
    (q1 : ¬ bd = -1 → Q 0 a bd bk)
    (q2 : bd = -1 → ¬ isD (at0 n b (sk n b p)) → ∀ x : Int32, x.toInt = (sk n b p : Nat) → Q 0 x x 1)
    (q3 : bd = -1 → isD (at0 n b (sk n b p)) → (lo.toInt ≤ dv n b (sk n b p) 0 ∧ dv n b (sk n b p) 0 ≤ hi.toInt) → ∀ r x : Int32, r.toInt = dv n b (sk n b p) 0 → x.toInt = (dE n b (sk n b p) : Nat) → Q r x (-1) bk)
    (q4 : bd = -1 → isD (at0 n b (sk n b p)) → ¬ (lo.toInt ≤ dv n b (sk n b p) 0 ∧ dv n b (sk n b p) 0 ≤ hi.toInt) → ∀ x t : Int32, x.toInt = (dE n b (sk n b p) : Nat) → t.toInt = (sk n b p : Nat) → Q 0 x t 2) : qbV len f a bd bk lo hi Q := by
  have hs := qNi (b := b) h1 hn
  refine ⟨fun z => ⟨fun d => absurd rfl d, fun _ => q1 z⟩, fun z => ⟨fun _ => ?_, fun d => absurd d (by first | decide | simp)⟩⟩
  refine qaUk hl hn hb h0 h1 (fun r x e hr => qaeS hr (fun y => ⟨fun _ => ?_, fun d => absurd d (by first | decide | simp)⟩) (fun y => ⟨fun d => absurd rfl d, fun _ => ⟨fun _ => q2 z y x e, fun d => absurd z d⟩⟩))
  refine ⟨601, qbmk hl hn hb 601 x 0 (sk n b p) 0 e hs (by omega) (by omega) (fun _ => t_0) (fun w => by omega) (fun x2 l ex g1 g2 => ?_)⟩
  have hv := qa1r (n := n) (b := b) _ (sk n b p) 0 rfl (by omega)
  by_cases hr2 : lo.toInt ≤ dv n b (sk n b p) 0 ∧ dv n b (sk n b p) 0 ≤ hi.toInt
  · have e9 := g1 (by omega)
    refine ⟨fun c => ?_, fun c => ⟨fun c2 => ?_, fun c2 => ?_⟩⟩
    · rw [qao] at c; omega
    · rw [z]; exact q3 z y hr2 l x2 e9 ex
    · rw [qak] at c2; omega
  · have bad : qxv len f Q x2 bd bk x := ⟨fun _ => q4 z y hr2 x2 x ex e, fun d => absurd z d⟩
    refine ⟨fun c => bad, fun c => ⟨fun c2 => ?_, fun c2 => bad⟩⟩
    rw [qao] at c
    rw [qak] at c2
    by_cases w : dv n b (sk n b p) 0 ≤ 9999
    · have e9 := g1 w
      exact absurd ⟨by omega, by omega⟩ hr2
    · have e9 := g2 (by omega)
      omega
theorem qbkx {Q : Int32 → Int32 → Int32 → Prop} {a bd bk c : Int32} {p : Nat} (hl : len.toInt = n) (hn : n ≤ 600) (hb : tB n f b) (h0 : a.toInt = p) (h1 : p ≤ 600) (hc : 1 ≤ c.toInt ∧ c.toInt ≤ 127)
    (q1 : ¬ bd = -1 → Q a bd bk)
    (q2 : bd = -1 → at0 n b (sk n b p) = c.toInt → ∀ x : Int32, x.toInt = ((sk n b p + 1 : Nat) : Int) → Q x (-1) bk)
    (q3 : bd = -1 → at0 n b (sk n b p) ≠ c.toInt → ∀ x : Int32, x.toInt = (sk n b p : Nat) → Q x x 1) : qp7 len f a bd bk c Q := by
  have hs := qNi (b := b) h1 hn
  refine ⟨fun z => ⟨fun _ => ⟨fun z2 => ⟨fun _ => q1 z, fun d => absurd rfl d⟩, fun z2 => absurd z2 z⟩, fun d => absurd rfl d⟩, fun z => ⟨fun d => absurd d (by first | decide | simp), fun _ => ?_⟩⟩
  refine qaUk hl hn hb h0 h1 (fun r x e hr => ⟨fun c1 => ?_, fun c1 => ?_⟩)
  · unfold cR at hr
    rw [qan] at c1
    refine ⟨fun z2 => absurd z z2, fun _ => ⟨fun d => absurd d (by first | decide | simp), fun _ x10 e10 => ?_⟩⟩
    rw [z]
    exact q2 z (by omega) x10 (by rw [e10, qca (by omega), e]; omega)
  · unfold cR at hr
    rw [qan] at c1
    refine ⟨fun _ => ?_, fun d => absurd z d⟩
    have hx : ¬ x = -1 := fun w => by rw [w, qam] at e; omega
    exact ⟨fun z2 => ⟨fun _ => q3 z (by omega) x e, fun d => absurd rfl d⟩, fun z2 => absurd z2 hx⟩
end TXw
end
section
/-! the reference's words -/
def pk (b : Nat → Int) (s : Nat) : Nat → Int
  | 0 => 0
  | i + 1 => pk b s i * 32 + (b (s + i) - 96)
theorem qbmz {a c : Int32} (a0 : 0 ≤ a.toInt) (a1 : a.toInt < 33554432) (c0 : 0 ≤ c.toInt) (c1 : c.toInt < 32) : ((a <<< (5 &&& 31)) ||| c).toInt = a.toInt * 32 + c.toInt := by
  have ha := qaPK a0
  have hc := qaPK c0
  have hs : (a <<< (5 &&& 31)).toBitVec.toNat = a.toBitVec.toNat <<< 5 := by
    have e : (a <<< (5 &&& 31)).toBitVec = a.toBitVec <<< 5 := rfl
    rw [e, BitVec.toNat_shiftLeft, Nat.mod_eq_of_lt (by rw [Nat.shiftLeft_eq]; omega)]
  have ho : ((a <<< (5 &&& 31)) ||| c).toBitVec.toNat = a.toBitVec.toNat * 32 + c.toBitVec.toNat := by
    rw [qaOz, hs, ← Nat.shiftLeft_add_eq_or_of_lt (by omega), Nat.shiftLeft_eq]
  have e := qaVo (x := (a <<< (5 &&& 31)) ||| c) (by omega)
  omega
section TXp
variable {n : Nat} {b : Nat → Int} {len : Int32} {f : Nat → Int32}
theorem qbdk {s : Nat} : ∀ (i : Nat), (∀ j : Nat, j < i → isL (b (s + j))) → 0 ≤ pk b s i ∧ pk b s i < (32 ^ i : Nat) := by
  intro i
  induction i with
  | zero => intro _; exact ⟨Int.le_refl _, by show (0 : Int) < ((32 ^ 0 : Nat) : Int); decide⟩
  | succ i ih =>
    intro h
    obtain ⟨h1, h2⟩ := ih (fun j hj => h j (by omega))
    have h3 := h i (by omega)
    have e : (32 : Nat) ^ (i + 1) = 32 ^ i * 32 := Nat.pow_succ ..
    unfold pk
    rw [e]
    refine ⟨by omega, ?_⟩
    have e2 : ((32 ^ i * 32 : Nat) : Int) = ((32 ^ i : Nat) : Int) * 32 := by rw [Int.natCast_mul]; rfl
    omega
theorem qW2 {s : Nat} : ∀ (m a : Nat), n - a = m → a ≤ lE n b a ∧ (lE n b a ≤ n ∨ lE n b a = a) ∧ (∀ j : Nat, a ≤ j → j < lE n b a → isL (b j)) ∧ ¬ isL (at0 n b (lE n b a)) := by
  intro m
  induction m with
  | zero =>
    intro a h
    have z : ¬ (a < n ∧ isL (b a)) := fun w => by omega
    rw [q4A z]
    exact ⟨Nat.le_refl _, Or.inr rfl, fun j h1 h2 => by omega, by rw [qB6 (by omega)]; omega⟩
  | succ m ih =>
    intro a h
    by_cases c : a < n ∧ isL (b a)
    · rw [qxy c]
      obtain ⟨h1, h2, h3, h4⟩ := ih (a + 1) (by omega)
      refine ⟨by omega, by omega, fun j g1 g2 => ?_, h4⟩
      by_cases z : j = a
      · rw [z]; exact c.2
      · exact h3 j (by omega) g2
    · rw [q4A c]
      refine ⟨Nat.le_refl _, Or.inr rfl, fun j g1 g2 => by omega, fun w => c ?_⟩
      rw [qLt (by omega)] at w
      exact ⟨by omega, w⟩
/-- what word() answers -/
def pw (n : Nat) (b : Nat → Int) (s : Nat) : Int := if lE n b s ≤ s + 6 then pk b s (lE n b s - s) else 0
theorem y_wl {Q : Int32 → Int32 → Prop} {a : Int32} {s : Nat} (hl : len.toInt = n) (hn : n ≤ 600) (hb : tB n f b) (ha : a.toInt = s) (hs : s ≤ 600) (hq : ∀ r : Int32, r.toInt = pw n b s → Q r a) :
    ∀ (k : Nat) (l1 l2 l3 : Int32) (i : Nat), l2.toInt = i → l3.toInt = ((s + i : Nat) : Int) → s + i ≤ 600 → lE n b (s + i) = lE n b s → (i ≤ 6 → l1.toInt = pk b s i) → (∀ j : Nat, j < i → isL (b (s + j))) → 600 - (s + i) < k → qxF len f Q k a l1 l2 l3 := by
  intro k
  induction k with
  | zero => intro l1 l2 l3 i h0 h1 h2 h3 h4 h5 h6; omega
  | succ k ih =>
    intro l1 l2 l3 i h0 h1 h2 h3 h4 h5 h6
    have hc : l3.toNatClampNeg = s + i := qas h1
    have stop : ¬ (s + i < n ∧ isL (b (s + i))) → qKG len f Q a l1 l2 := fun z => by
      rw [q4A z] at h3
      refine ⟨fun c => hq l1 ?_, fun c => hq 0 ?_⟩
      · rw [qak, t_6] at c
        unfold pw
        rw [← h3, if_pos (by omega), h4 (by omega)]
        congr 1
        omega
      · rw [qak, t_6] at c
        unfold pw
        rw [← h3, if_neg (by omega)]
        exact t_0
    refine ⟨fun c => stop ?_, fun c => ?_⟩
    · rw [qak] at c; exact fun w => by omega
    rw [qak] at c
    have hp : s + i < n := by omega
    have hy := hb (s + i) hp
    refine ⟨qa6 (by omega) (by omega), fun x4 e4 => ?_⟩
    rw [hc] at e4
    rw [← e4] at hy
    refine qaTK hy (fun y => ⟨fun d => absurd d (by decide), fun _ => ?_⟩) (fun y => ⟨fun _ => stop (fun w => y w.2), fun d => absurd rfl d⟩)
    unfold cR at hy
    have hall : ∀ j : Nat, j < i + 1 → isL (b (s + j)) := fun j hj => by
      by_cases z : j = i
      · rw [z]; exact y
      · exact h5 j (by omega)
    have h3' : lE n b (s + (i + 1)) = lE n b s := by rw [← h3, qxy ⟨hp, y⟩]; rfl
    refine ⟨fun c6 x10 e10 x11 e11 => ?_, fun c6 => ⟨qa6 (by omega) (by omega), fun x8 e8 x10 e10 x11 e11 => ?_⟩⟩
    · rw [qak, t_6] at c6
      have e2 : x10.toInt = ((i + 1 : Nat) : Int) := by rw [e10, qca (by omega), h0]; omega
      have e3 : x11.toInt = ((s + (i + 1) : Nat) : Int) := by rw [e11, qca (by omega), h1]; omega
      exact ih _ x10 x11 (i + 1) e2 e3 (by omega) h3' (fun w => by omega) hall (by omega)
    · rw [qak, t_6] at c6
      rw [hc, ← e4] at e8
      have e2 : x10.toInt = ((i + 1 : Nat) : Int) := by rw [e10, qca (by omega), h0]; omega
      have e3 : x11.toInt = ((s + (i + 1) : Nat) : Int) := by rw [e11, qca (by omega), h1]; omega
      refine ih _ x10 x11 (i + 1) e2 e3 (by omega) h3' (fun w => ?_) hall (by omega)
      have hr := qbdk (b := b) (s := s) i h5
      have hp5 : 32 ^ i ≤ 32 ^ 5 := Nat.pow_le_pow_right (by decide) (by omega)
      have h55 : (32 : Nat) ^ 5 = 33554432 := by decide
      have h4i := h4 (by omega)
      have e96 : (x8 - 96).toInt = b (s + i) - 96 := by rw [qpT (by rw [qbP, e8]; omega) (by rw [qbP, e8]; omega), qbP, e8]; omega
      rw [qbmz (by omega) (by omega) (by omega) (by omega), h4i, e96]
      rfl
theorem qbjA {Q : Int32 → Int32 → Prop} {a : Int32} {p : Nat} (hl : len.toInt = n) (hn : n ≤ 600) (hb : tB n f b) (h0 : a.toInt = p) (h1 : p ≤ 600) (hq : ∀ r x : Int32, x.toInt = (sk n b p : Nat) → r.toInt = pw n b (sk n b p) → Q r x) : quL len f a Q :=
  qaUk hl hn hb h0 h1 (fun _ x e _ => ⟨601, y_wl hl hn hb e (qNi h1 hn) (fun r er => hq r x e er) 601 0 0 x 0 t_0 e (qNi h1 hn) rfl (fun _ => t_0) (fun j hj => by omega) (by omega)⟩)
theorem y_pl {Q : Int32 → Prop} (hl : len.toInt = n) (hn : n ≤ 600) (hb : tB n f b) : ∀ (k : Nat) (a : Int32) (p : Nat), a.toInt = p → p ≤ 600 → 600 - p < k → (∀ x : Int32, x.toInt = (lE n b p : Nat) → Q x) → qN7 len f Q k a := by
  intro k
  induction k with
  | zero => intro a p h0 h1 h2; omega
  | succ k ih =>
    intro a p h0 h1 h2 hq
    have hc : a.toNatClampNeg = p := qas h0
    have stop : ¬ (p < n ∧ isL (b p)) → Q a := fun z => by
      rw [q4A z] at hq
      exact hq a h0
    refine ⟨fun c => stop ?_, fun c => ?_⟩
    · rw [qak] at c; exact fun w => by omega
    rw [qak] at c
    have hp : p < n := by omega
    have hy := hb p hp
    refine ⟨qa6 (by omega) (by omega), fun x2 e2 => ?_⟩
    rw [hc] at e2
    rw [← e2] at hy
    refine qaTK hy (fun y => ⟨fun d => absurd d (by decide), fun _ x5 e5 => ?_⟩) (fun y => ⟨fun _ => stop (fun w => y w.2), fun d => absurd rfl d⟩)
    rw [qxy ⟨hp, y⟩] at hq
    exact ih x5 (p + 1) (by rw [e5, qca (by omega), h0]; omega) (by omega) (by omega) hq
theorem qblb {Q : Int32 → Prop} {a : Int32} {p : Nat} (hl : len.toInt = n) (hn : n ≤ 600) (hb : tB n f b) (h0 : a.toInt = p) (h1 : p ≤ 600) (hq : ∀ x : Int32, x.toInt = (lE n b p : Nat) → Q x) : quF len f a Q :=
  ⟨601, y_pl hl hn hb 601 a p h0 h1 (by omega) hq⟩
/-- words of three letters and more -/
theorem pw_3 {s : Nat} {w0 w1 w2 : Int} {w : Nat → Int} (hs : s ≤ 600) (e0 : w 0 = w0) (e1 : w 1 = w1) (e2 : w 2 = w2) (g0 : isL w0) (g1 : isL w1) (g2 : isL w2) :
    (pw n b s = (((w0 - 96) * 32 + (w1 - 96)) * 32 + (w2 - 96)) ↔ isW n b 3 w s) ∧ (isW n b 3 w s → lE n b s = s + 3) := by
  obtain ⟨h1, h2, h3, h4⟩ := qW2 (n := n) (b := b) (s := s) _ s rfl
  have back : isW n b 3 w s → lE n b s = s + 3 := fun h => by
    obtain ⟨k1, k2, k3⟩ := h
    have c0 := k3 0 (by omega)
    have c1 := k3 1 (by omega)
    have c2 := k3 2 (by omega)
    rw [Nat.add_zero] at c0
    rw [qxy ⟨by omega, by rw [c0, e0]; exact g0⟩, qxy ⟨by omega, by rw [c1, e1]; exact g1⟩, qxy ⟨by omega, by rw [show s + 1 + 1 = s + 2 by omega, c2, e2]; exact g2⟩]
    refine q4A (fun z => k2 ?_)
    rw [qLt (by omega)]
    exact z.2
  refine ⟨⟨fun h => ?_, fun h => ?_⟩, back⟩
  · unfold pw at h
    by_cases c : lE n b s ≤ s + 6
    · rw [if_pos c] at h
      have hl : lE n b s = s + 3 := by
        have hcs : lE n b s - s = 0 ∨ lE n b s - s = 1 ∨ lE n b s - s = 2 ∨ lE n b s - s = 3 ∨ lE n b s - s = 4 ∨ lE n b s - s = 5 ∨ lE n b s - s = 6 := by omega
        have y0 : 0 < lE n b s - s → isL (b (s)) := fun z => h3 _ (by omega) (by omega)
        have y1 : 1 < lE n b s - s → isL (b (s + 1)) := fun z => h3 _ (by omega) (by omega)
        have y2 : 2 < lE n b s - s → isL (b (s + 2)) := fun z => h3 _ (by omega) (by omega)
        have y3 : 3 < lE n b s - s → isL (b (s + 3)) := fun z => h3 _ (by omega) (by omega)
        have y4 : 4 < lE n b s - s → isL (b (s + 4)) := fun z => h3 _ (by omega) (by omega)
        have y5 : 5 < lE n b s - s → isL (b (s + 5)) := fun z => h3 _ (by omega) (by omega)
        rcases hcs with z | z | z | z | z | z | z <;> rw [z] at h y0 y1 y2 y3 y4 y5 <;> simp only [pk, Nat.add_zero] at h
        · omega
        · have := y0 (by omega); omega
        · have := y0 (by omega); have := y1 (by omega); omega
        · omega
        · have := y0 (by omega); have := y1 (by omega); have := y2 (by omega); have := y3 (by omega); omega
        · have := y0 (by omega); have := y1 (by omega); have := y2 (by omega); have := y3 (by omega); have := y4 (by omega); omega
        · have := y0 (by omega); have := y1 (by omega); have := y2 (by omega); have := y3 (by omega); have := y4 (by omega); have := y5 (by omega); omega
      have y0 := h3 (s) (by omega) (by omega)
      have y1 := h3 (s + 1) (by omega) (by omega)
      have y2 := h3 (s + 2) (by omega) (by omega)
      rw [show lE n b s - s = 3 by omega] at h
      simp only [pk, Nat.add_zero] at h
      rw [hl] at h4
      refine ⟨by omega, h4, fun j hj => ?_⟩
      rcases (show j = 0 ∨ j = 1 ∨ j = 2 by omega) with rfl | rfl | rfl
      · rw [Nat.add_zero, e0]; omega
      · rw [e1]; omega
      · rw [e2]; omega
    · rw [if_neg c] at h; omega
  · have hl := back h
    obtain ⟨k1, k2, k3⟩ := h
    have c0 := k3 0 (by omega)
    have c1 := k3 1 (by omega)
    have c2 := k3 2 (by omega)
    unfold pw
    rw [if_pos (by omega), show lE n b s - s = 3 by omega]
    simp only [pk, Nat.add_zero] at c0 ⊢
    rw [c0, c1, c2, e0, e1, e2]
    omega
theorem pw_4 {s : Nat} {w0 w1 w2 w3 : Int} {w : Nat → Int} (hs : s ≤ 600) (e0 : w 0 = w0) (e1 : w 1 = w1) (e2 : w 2 = w2) (e3 : w 3 = w3) (g0 : isL w0) (g1 : isL w1) (g2 : isL w2) (g3 : isL w3) :
    (pw n b s = ((((w0 - 96) * 32 + (w1 - 96)) * 32 + (w2 - 96)) * 32 + (w3 - 96)) ↔ isW n b 4 w s) ∧ (isW n b 4 w s → lE n b s = s + 4) := by
  obtain ⟨h1, h2, h3, h4⟩ := qW2 (n := n) (b := b) (s := s) _ s rfl
  have back : isW n b 4 w s → lE n b s = s + 4 := fun h => by
    obtain ⟨k1, k2, k3⟩ := h
    have c0 := k3 0 (by omega)
    have c1 := k3 1 (by omega)
    have c2 := k3 2 (by omega)
    have c3 := k3 3 (by omega)
    rw [Nat.add_zero] at c0
    rw [qxy ⟨by omega, by rw [c0, e0]; exact g0⟩, qxy ⟨by omega, by rw [c1, e1]; exact g1⟩, qxy ⟨by omega, by rw [show s + 1 + 1 = s + 2 by omega, c2, e2]; exact g2⟩, qxy ⟨by omega, by rw [show s + 1 + 1 + 1 = s + 3 by omega, c3, e3]; exact g3⟩]
    refine q4A (fun z => k2 ?_)
    rw [qLt (by omega)]
    exact z.2
  refine ⟨⟨fun h => ?_, fun h => ?_⟩, back⟩
  · unfold pw at h
    by_cases c : lE n b s ≤ s + 6
    · rw [if_pos c] at h
      have hl : lE n b s = s + 4 := by
        have hcs : lE n b s - s = 0 ∨ lE n b s - s = 1 ∨ lE n b s - s = 2 ∨ lE n b s - s = 3 ∨ lE n b s - s = 4 ∨ lE n b s - s = 5 ∨ lE n b s - s = 6 := by omega
        have y0 : 0 < lE n b s - s → isL (b (s)) := fun z => h3 _ (by omega) (by omega)
        have y1 : 1 < lE n b s - s → isL (b (s + 1)) := fun z => h3 _ (by omega) (by omega)
        have y2 : 2 < lE n b s - s → isL (b (s + 2)) := fun z => h3 _ (by omega) (by omega)
        have y3 : 3 < lE n b s - s → isL (b (s + 3)) := fun z => h3 _ (by omega) (by omega)
        have y4 : 4 < lE n b s - s → isL (b (s + 4)) := fun z => h3 _ (by omega) (by omega)
        have y5 : 5 < lE n b s - s → isL (b (s + 5)) := fun z => h3 _ (by omega) (by omega)
        rcases hcs with z | z | z | z | z | z | z <;> rw [z] at h y0 y1 y2 y3 y4 y5 <;> simp only [pk, Nat.add_zero] at h
        · omega
        · have := y0 (by omega); omega
        · have := y0 (by omega); have := y1 (by omega); omega
        · have := y0 (by omega); have := y1 (by omega); have := y2 (by omega); omega
        · omega
        · have := y0 (by omega); have := y1 (by omega); have := y2 (by omega); have := y3 (by omega); have := y4 (by omega); omega
        · have := y0 (by omega); have := y1 (by omega); have := y2 (by omega); have := y3 (by omega); have := y4 (by omega); have := y5 (by omega); omega
      have y0 := h3 (s) (by omega) (by omega)
      have y1 := h3 (s + 1) (by omega) (by omega)
      have y2 := h3 (s + 2) (by omega) (by omega)
      have y3 := h3 (s + 3) (by omega) (by omega)
      rw [show lE n b s - s = 4 by omega] at h
      simp only [pk, Nat.add_zero] at h
      rw [hl] at h4
      refine ⟨by omega, h4, fun j hj => ?_⟩
      rcases (show j = 0 ∨ j = 1 ∨ j = 2 ∨ j = 3 by omega) with rfl | rfl | rfl | rfl
      · rw [Nat.add_zero, e0]; omega
      · rw [e1]; omega
      · rw [e2]; omega
      · rw [e3]; omega
    · rw [if_neg c] at h; omega
  · have hl := back h
    obtain ⟨k1, k2, k3⟩ := h
    have c0 := k3 0 (by omega)
    have c1 := k3 1 (by omega)
    have c2 := k3 2 (by omega)
    have c3 := k3 3 (by omega)
    unfold pw
    rw [if_pos (by omega), show lE n b s - s = 4 by omega]
    simp only [pk, Nat.add_zero] at c0 ⊢
    rw [c0, c1, c2, c3, e0, e1, e2, e3]
    omega
theorem pw_5 {s : Nat} {w0 w1 w2 w3 w4 : Int} {w : Nat → Int} (hs : s ≤ 600) (e0 : w 0 = w0) (e1 : w 1 = w1) (e2 : w 2 = w2) (e3 : w 3 = w3) (e4 : w 4 = w4) (g0 : isL w0) (g1 : isL w1) (g2 : isL w2) (g3 : isL w3) (g4 : isL w4) :
    (pw n b s = (((((w0 - 96) * 32 + (w1 - 96)) * 32 + (w2 - 96)) * 32 + (w3 - 96)) * 32 + (w4 - 96)) ↔ isW n b 5 w s) ∧ (isW n b 5 w s → lE n b s = s + 5) := by
  obtain ⟨h1, h2, h3, h4⟩ := qW2 (n := n) (b := b) (s := s) _ s rfl
  have back : isW n b 5 w s → lE n b s = s + 5 := fun h => by
    obtain ⟨k1, k2, k3⟩ := h
    have c0 := k3 0 (by omega)
    have c1 := k3 1 (by omega)
    have c2 := k3 2 (by omega)
    have c3 := k3 3 (by omega)
    have c4 := k3 4 (by omega)
    rw [Nat.add_zero] at c0
    rw [qxy ⟨by omega, by rw [c0, e0]; exact g0⟩, qxy ⟨by omega, by rw [c1, e1]; exact g1⟩, qxy ⟨by omega, by rw [show s + 1 + 1 = s + 2 by omega, c2, e2]; exact g2⟩, qxy ⟨by omega, by rw [show s + 1 + 1 + 1 = s + 3 by omega, c3, e3]; exact g3⟩, qxy ⟨by omega, by rw [show s + 1 + 1 + 1 + 1 = s + 4 by omega, c4, e4]; exact g4⟩]
    refine q4A (fun z => k2 ?_)
    rw [qLt (by omega)]
    exact z.2
  refine ⟨⟨fun h => ?_, fun h => ?_⟩, back⟩
  · unfold pw at h
    by_cases c : lE n b s ≤ s + 6
    · rw [if_pos c] at h
      have hl : lE n b s = s + 5 := by
        have hcs : lE n b s - s = 0 ∨ lE n b s - s = 1 ∨ lE n b s - s = 2 ∨ lE n b s - s = 3 ∨ lE n b s - s = 4 ∨ lE n b s - s = 5 ∨ lE n b s - s = 6 := by omega
        have y0 : 0 < lE n b s - s → isL (b (s)) := fun z => h3 _ (by omega) (by omega)
        have y1 : 1 < lE n b s - s → isL (b (s + 1)) := fun z => h3 _ (by omega) (by omega)
        have y2 : 2 < lE n b s - s → isL (b (s + 2)) := fun z => h3 _ (by omega) (by omega)
        have y3 : 3 < lE n b s - s → isL (b (s + 3)) := fun z => h3 _ (by omega) (by omega)
        have y4 : 4 < lE n b s - s → isL (b (s + 4)) := fun z => h3 _ (by omega) (by omega)
        have y5 : 5 < lE n b s - s → isL (b (s + 5)) := fun z => h3 _ (by omega) (by omega)
        rcases hcs with z | z | z | z | z | z | z <;> rw [z] at h y0 y1 y2 y3 y4 y5 <;> simp only [pk, Nat.add_zero] at h
        · omega
        · have := y0 (by omega); omega
        · have := y0 (by omega); have := y1 (by omega); omega
        · have := y0 (by omega); have := y1 (by omega); have := y2 (by omega); omega
        · have := y0 (by omega); have := y1 (by omega); have := y2 (by omega); have := y3 (by omega); omega
        · omega
        · have := y0 (by omega); have := y1 (by omega); have := y2 (by omega); have := y3 (by omega); have := y4 (by omega); have := y5 (by omega); omega
      have y0 := h3 (s) (by omega) (by omega)
      have y1 := h3 (s + 1) (by omega) (by omega)
      have y2 := h3 (s + 2) (by omega) (by omega)
      have y3 := h3 (s + 3) (by omega) (by omega)
      have y4 := h3 (s + 4) (by omega) (by omega)
      rw [show lE n b s - s = 5 by omega] at h
      simp only [pk, Nat.add_zero] at h
      rw [hl] at h4
      refine ⟨by omega, h4, fun j hj => ?_⟩
      rcases (show j = 0 ∨ j = 1 ∨ j = 2 ∨ j = 3 ∨ j = 4 by omega) with rfl | rfl | rfl | rfl | rfl
      · rw [Nat.add_zero, e0]; omega
      · rw [e1]; omega
      · rw [e2]; omega
      · rw [e3]; omega
      · rw [e4]; omega
    · rw [if_neg c] at h; omega
  · have hl := back h
    obtain ⟨k1, k2, k3⟩ := h
    have c0 := k3 0 (by omega)
    have c1 := k3 1 (by omega)
    have c2 := k3 2 (by omega)
    have c3 := k3 3 (by omega)
    have c4 := k3 4 (by omega)
    unfold pw
    rw [if_pos (by omega), show lE n b s - s = 5 by omega]
    simp only [pk, Nat.add_zero] at c0 ⊢
    rw [c0, c1, c2, c3, c4, e0, e1, e2, e3, e4]
    omega
theorem pw_6 {s : Nat} {w0 w1 w2 w3 w4 w5 : Int} {w : Nat → Int} (hs : s ≤ 600) (e0 : w 0 = w0) (e1 : w 1 = w1) (e2 : w 2 = w2) (e3 : w 3 = w3) (e4 : w 4 = w4) (e5 : w 5 = w5) (g0 : isL w0) (g1 : isL w1) (g2 : isL w2) (g3 : isL w3) (g4 : isL w4) (g5 : isL w5) :
    (pw n b s = ((((((w0 - 96) * 32 + (w1 - 96)) * 32 + (w2 - 96)) * 32 + (w3 - 96)) * 32 + (w4 - 96)) * 32 + (w5 - 96)) ↔ isW n b 6 w s) ∧ (isW n b 6 w s → lE n b s = s + 6) := by
  obtain ⟨h1, h2, h3, h4⟩ := qW2 (n := n) (b := b) (s := s) _ s rfl
  have back : isW n b 6 w s → lE n b s = s + 6 := fun h => by
    obtain ⟨k1, k2, k3⟩ := h
    have c0 := k3 0 (by omega)
    have c1 := k3 1 (by omega)
    have c2 := k3 2 (by omega)
    have c3 := k3 3 (by omega)
    have c4 := k3 4 (by omega)
    have c5 := k3 5 (by omega)
    rw [Nat.add_zero] at c0
    rw [qxy ⟨by omega, by rw [c0, e0]; exact g0⟩, qxy ⟨by omega, by rw [c1, e1]; exact g1⟩, qxy ⟨by omega, by rw [show s + 1 + 1 = s + 2 by omega, c2, e2]; exact g2⟩, qxy ⟨by omega, by rw [show s + 1 + 1 + 1 = s + 3 by omega, c3, e3]; exact g3⟩, qxy ⟨by omega, by rw [show s + 1 + 1 + 1 + 1 = s + 4 by omega, c4, e4]; exact g4⟩, qxy ⟨by omega, by rw [show s + 1 + 1 + 1 + 1 + 1 = s + 5 by omega, c5, e5]; exact g5⟩]
    refine q4A (fun z => k2 ?_)
    rw [qLt (by omega)]
    exact z.2
  refine ⟨⟨fun h => ?_, fun h => ?_⟩, back⟩
  · unfold pw at h
    by_cases c : lE n b s ≤ s + 6
    · rw [if_pos c] at h
      have hl : lE n b s = s + 6 := by
        have hcs : lE n b s - s = 0 ∨ lE n b s - s = 1 ∨ lE n b s - s = 2 ∨ lE n b s - s = 3 ∨ lE n b s - s = 4 ∨ lE n b s - s = 5 ∨ lE n b s - s = 6 := by omega
        have y0 : 0 < lE n b s - s → isL (b (s)) := fun z => h3 _ (by omega) (by omega)
        have y1 : 1 < lE n b s - s → isL (b (s + 1)) := fun z => h3 _ (by omega) (by omega)
        have y2 : 2 < lE n b s - s → isL (b (s + 2)) := fun z => h3 _ (by omega) (by omega)
        have y3 : 3 < lE n b s - s → isL (b (s + 3)) := fun z => h3 _ (by omega) (by omega)
        have y4 : 4 < lE n b s - s → isL (b (s + 4)) := fun z => h3 _ (by omega) (by omega)
        have y5 : 5 < lE n b s - s → isL (b (s + 5)) := fun z => h3 _ (by omega) (by omega)
        rcases hcs with z | z | z | z | z | z | z <;> rw [z] at h y0 y1 y2 y3 y4 y5 <;> simp only [pk, Nat.add_zero] at h
        · omega
        · have := y0 (by omega); omega
        · have := y0 (by omega); have := y1 (by omega); omega
        · have := y0 (by omega); have := y1 (by omega); have := y2 (by omega); omega
        · have := y0 (by omega); have := y1 (by omega); have := y2 (by omega); have := y3 (by omega); omega
        · have := y0 (by omega); have := y1 (by omega); have := y2 (by omega); have := y3 (by omega); have := y4 (by omega); omega
        · omega
      have y0 := h3 (s) (by omega) (by omega)
      have y1 := h3 (s + 1) (by omega) (by omega)
      have y2 := h3 (s + 2) (by omega) (by omega)
      have y3 := h3 (s + 3) (by omega) (by omega)
      have y4 := h3 (s + 4) (by omega) (by omega)
      have y5 := h3 (s + 5) (by omega) (by omega)
      rw [show lE n b s - s = 6 by omega] at h
      simp only [pk, Nat.add_zero] at h
      rw [hl] at h4
      refine ⟨by omega, h4, fun j hj => ?_⟩
      rcases (show j = 0 ∨ j = 1 ∨ j = 2 ∨ j = 3 ∨ j = 4 ∨ j = 5 by omega) with rfl | rfl | rfl | rfl | rfl | rfl
      · rw [Nat.add_zero, e0]; omega
      · rw [e1]; omega
      · rw [e2]; omega
      · rw [e3]; omega
      · rw [e4]; omega
      · rw [e5]; omega
    · rw [if_neg c] at h; omega
  · have hl := back h
    obtain ⟨k1, k2, k3⟩ := h
    have c0 := k3 0 (by omega)
    have c1 := k3 1 (by omega)
    have c2 := k3 2 (by omega)
    have c3 := k3 3 (by omega)
    have c4 := k3 4 (by omega)
    have c5 := k3 5 (by omega)
    unfold pw
    rw [if_pos (by omega), show lE n b s - s = 6 by omega]
    simp only [pk, Nat.add_zero] at c0 ⊢
    rw [c0, c1, c2, c3, c4, c5, e0, e1, e2, e3, e4, e5]
    omega
end TXp
end
section
/-! reading: the state of both readers by kind and place of the fault, and where they are -/
abbrev sT := Int × Nat × Nat
def nS (n : Nat) (b : Nat → Int) (lo hi : Int) (st : sT) : sT :=
  if st.1 ≠ 0 then st else if ¬ isD (at0 n b (sk n b st.2.2)) then (1, sk n b st.2.2, 0) else if lo ≤ dv n b (sk n b st.2.2) 0 ∧ dv n b (sk n b st.2.2) 0 ≤ hi then (0, 0, dE n b (sk n b st.2.2)) else (2, sk n b st.2.2, 0)
def nV (n : Nat) (b : Nat → Int) (st : sT) : Int := dv n b (sk n b st.2.2) 0
def gS (n : Nat) (b : Nat → Int) (c : Int) (st : sT) : sT :=
  if st.1 ≠ 0 then st else if at0 n b (sk n b st.2.2) = c then (0, 0, sk n b st.2.2 + 1) else (1, sk n b st.2.2, 0)
/-- a fault, if there is none -/
def fS (kind : Int) (place : Nat) (st : sT) : sT := if st.1 ≠ 0 then st else (kind, place, 0)
def aS (n : Nat) (b : Nat → Int) (st : sT) (at_ : Int32) : Prop := ∃ q : Nat, at_.toInt = q ∧ q ≤ 600 ∧ (st.1 = 0 → sk n b q = sk n b st.2.2)
def cS (n : Nat) (b : Nat → Int) (st : sT) (at_ fa fp : Int32) : Prop := aS n b st at_ ∧ fa.toInt = st.1 ∧ (st.1 = 0 → fp.toInt = -1) ∧ (st.1 ≠ 0 → fp.toInt = st.2.1)
def mS (n : Nat) (b : Nat → Int) (st : sT) (at_ bd bk : Int32) : Prop := aS n b st at_ ∧ (st.1 = 0 → bd = -1) ∧ (st.1 ≠ 0 → bd.toInt = st.2.1 ∧ bk.toInt = st.1)
section TXs
variable {n : Nat} {b : Nat → Int} {st : sT}
theorem qaBJ {lo hi : Int} (h : st.1 ≠ 0) : nS n b lo hi st = st := if_pos h
theorem nS_1 {lo hi : Int} (h : st.1 = 0) (h2 : ¬ isD (at0 n b (sk n b st.2.2))) : nS n b lo hi st = (1, sk n b st.2.2, 0) := by
  unfold nS; rw [if_neg (fun z => z h), if_pos h2]
theorem nS_0 {lo hi : Int} (h : st.1 = 0) (h2 : isD (at0 n b (sk n b st.2.2))) (h3 : lo ≤ dv n b (sk n b st.2.2) 0 ∧ dv n b (sk n b st.2.2) 0 ≤ hi) : nS n b lo hi st = (0, 0, dE n b (sk n b st.2.2)) := by
  unfold nS; rw [if_neg (fun z => z h), if_neg (fun z => z h2), if_pos h3]
theorem nS_2 {lo hi : Int} (h : st.1 = 0) (h2 : isD (at0 n b (sk n b st.2.2))) (h3 : ¬ (lo ≤ dv n b (sk n b st.2.2) 0 ∧ dv n b (sk n b st.2.2) 0 ≤ hi)) : nS n b lo hi st = (2, sk n b st.2.2, 0) := by
  unfold nS; rw [if_neg (fun z => z h), if_neg (fun z => z h2), if_neg h3]
theorem qGz {c : Int} (h : st.1 ≠ 0) : gS n b c st = st := if_pos h
theorem gS_0 {c : Int} (h : st.1 = 0) (h2 : at0 n b (sk n b st.2.2) = c) : gS n b c st = (0, 0, sk n b st.2.2 + 1) := by
  unfold gS; rw [if_neg (fun z => z h), if_pos h2]
theorem gS_1 {c : Int} (h : st.1 = 0) (h2 : at0 n b (sk n b st.2.2) ≠ c) : gS n b c st = (1, sk n b st.2.2, 0) := by
  unfold gS; rw [if_neg (fun z => z h), if_neg h2]
theorem qadc {k : Int} {p : Nat} (h : st.1 ≠ 0) : fS k p st = st := if_pos h
theorem q8e {k : Int} {p : Nat} (h : st.1 = 0) : fS k p st = (k, p, 0) := if_neg (fun z => z h)
theorem qdE {lo hi : Int} (h : (nS n b lo hi st).1 = 0) : st.1 = 0 ∧ lo ≤ nV n b st ∧ nV n b st ≤ hi := by
  by_cases z : st.1 = 0
  · refine ⟨z, ?_⟩
    by_cases h2 : isD (at0 n b (sk n b st.2.2))
    · by_cases h3 : lo ≤ dv n b (sk n b st.2.2) 0 ∧ dv n b (sk n b st.2.2) 0 ≤ hi
      · exact h3
      · rw [nS_2 z h2 h3] at h; exact absurd h (by first | decide | simp)
    · rw [nS_1 z h2] at h; exact absurd h (by first | decide | simp)
  · rw [qaBJ z] at h; exact absurd h z
theorem qC3 {x : Int32} {s : Nat} (e : x.toInt = s) (h : s ≤ 600) (h2 : st.1 = 0 → sk n b s = sk n b st.2.2) : aS n b st x := ⟨s, e, h, h2⟩
variable {len : Int32} {f : Nat → Int32}
theorem qqK {Q : Int32 → Int32 → Int32 → Int32 → Int32 → Prop} {a fa fp tk lo hi : Int32} (hl : len.toInt = n) (hn : n ≤ 600) (hb : tB n f b) (h : cS n b st a fa fp) (hlo : 0 ≤ lo.toInt) (hhi : hi.toInt ≤ 999)
    (hq : ∀ r x fa2 fp2 t : Int32, cS n b (nS n b lo.toInt hi.toInt st) x fa2 fp2 → ((nS n b lo.toInt hi.toInt st).1 = 0 → r.toInt = nV n b st ∧ t.toInt = (sk n b st.2.2 : Nat)) → Q r x fa2 fp2 t) : qe2 len f a fa fp tk lo hi Q := by
  obtain ⟨⟨q, e, hq6, es⟩, ef, e0, e1⟩ := h
  have hs := qNi (b := b) hq6 hn
  have fz : fa = 0 → st.1 = 0 := fun z => by rw [z, t_0] at ef; exact ef.symm
  have fn : ¬ fa = 0 → st.1 ≠ 0 := fun z w => z (by rw [qan, t_0]; omega)
  refine qbcu hl hn hb e hq6 hlo hhi (fun z x ex => ?_) (fun z y x ex => ?_) (fun z y w r x t er ex et => ?_) (fun z y w r x t ex et => ?_)
  · have hz := fn z
    refine hq 0 x fa fp tk ?_ (fun w => ?_)
    · rw [qaBJ hz]; exact ⟨qC3 ex hs (fun w => absurd w hz), ef, e0, e1⟩
    · rw [qaBJ hz] at w; exact absurd w hz
  · have hz := fz z
    rw [es hz] at y ex hs
    refine hq 0 x 1 x tk ?_ (fun w => ?_)
    · rw [nS_1 hz y]; exact ⟨qC3 ex hs (fun w => absurd w (by first | decide | simp)), t_1, fun w => absurd w (by first | decide | simp), fun _ => ex⟩
    · rw [nS_1 hz y] at w; exact absurd w (by first | decide | simp)
  · have hz := fz z
    rw [es hz] at y w er ex et
    refine hq r x 0 fp t ?_ (fun _ => ⟨er, et⟩)
    rw [nS_0 hz y w]
    exact ⟨qC3 ex (qbbO (by rw [← es hz]; exact hs) hn) (fun _ => rfl), t_0, fun _ => e0 hz, fun w => absurd rfl w⟩
  · have hz := fz z
    rw [es hz] at y w ex et hs
    refine hq r x 2 t t ?_ (fun w2 => ?_)
    · rw [nS_2 hz y w]; exact ⟨qC3 ex (qbbO hs hn) (fun w => absurd w (by first | decide | simp)), t_2, fun w => absurd w (by first | decide | simp), fun _ => et⟩
    · rw [nS_2 hz y w] at w2; exact absurd w2 (by first | decide | simp)
theorem qCS {Q : Int32 → Int32 → Int32 → Int32 → Prop} {a fa fp tk c : Int32} (hl : len.toInt = n) (hn : n ≤ 600) (hb : tB n f b) (h : cS n b st a fa fp) (hc : 1 ≤ c.toInt ∧ c.toInt ≤ 127)
    (hq : ∀ x t fa2 fp2 : Int32, cS n b (gS n b c.toInt st) x fa2 fp2 → Q x t fa2 fp2) : qp1 len f a tk fa fp c Q := by
  obtain ⟨⟨q, e, hq6, es⟩, ef, e0, e1⟩ := h
  have hs := qNi (b := b) hq6 hn
  have fz : fa = 0 → st.1 = 0 := fun z => by rw [z, t_0] at ef; exact ef.symm
  have fn : ¬ fa = 0 → st.1 ≠ 0 := fun z w => z (by rw [qan, t_0]; omega)
  refine qbfl hl hn hb e hq6 hc (fun z x ex => ?_) (fun z y x t ex => ?_) (fun z y x ex => ?_)
  · have hz := fn z
    refine hq x tk fa fp ?_
    rw [qGz hz]; exact ⟨qC3 ex hs (fun w => absurd w hz), ef, e0, e1⟩
  · have hz := fz z
    have hlt : sk n b q < n := by
      by_cases w : sk n b q < n
      · exact w
      · rw [qB6 w] at y; omega
    rw [es hz] at y ex hlt
    refine hq x t 0 fp ?_
    rw [gS_0 hz y]
    exact ⟨qC3 ex (by omega) (fun _ => rfl), t_0, fun _ => e0 hz, fun w => absurd rfl w⟩
  · have hz := fz z
    rw [es hz] at y ex hs
    refine hq x tk 1 x ?_
    rw [gS_1 hz y]; exact ⟨qC3 ex hs (fun w => absurd w (by first | decide | simp)), t_1, fun w => absurd w (by first | decide | simp), fun _ => ex⟩
theorem qnZ {Q : Int32 → Int32 → Int32 → Int32 → Prop} {a bd bk lo hi : Int32} (hl : len.toInt = n) (hn : n ≤ 600) (hb : tB n f b) (h : mS n b st a bd bk) (hlo : 0 ≤ lo.toInt) (hhi : hi.toInt ≤ 999)
    (hq : ∀ r x bd2 bk2 : Int32, mS n b (nS n b lo.toInt hi.toInt st) x bd2 bk2 → ((nS n b lo.toInt hi.toInt st).1 = 0 → r.toInt = nV n b st) → Q r x bd2 bk2) : qbV len f a bd bk lo hi Q := by
  obtain ⟨⟨q, e, hq6, es⟩, e0, e1⟩ := id h
  have hs := qNi (b := b) hq6 hn
  have fz : bd = -1 → st.1 = 0 := fun z => by
    by_cases w : st.1 = 0
    · exact w
    · have := (e1 w).1; rw [z, qam] at this; omega
  have fn : ¬ bd = -1 → st.1 ≠ 0 := fun z w => z (e0 w)
  refine qbbG hl hn hb e hq6 hlo hhi (fun z => ?_) (fun z y x ex => ?_) (fun z y w r x er ex => ?_) (fun z y w x t ex et => ?_)
  · have hz := fn z
    refine hq 0 a bd bk ?_ (fun w => ?_)
    · rw [qaBJ hz]; exact h
    · rw [qaBJ hz] at w; exact absurd w hz
  · have hz := fz z
    rw [es hz] at y ex hs
    refine hq 0 x x 1 ?_ (fun w => ?_)
    · rw [nS_1 hz y]; exact ⟨qC3 ex hs (fun w => absurd w (by first | decide | simp)), fun w => absurd w (by first | decide | simp), fun _ => ⟨ex, t_1⟩⟩
    · rw [nS_1 hz y] at w; exact absurd w (by first | decide | simp)
  · have hz := fz z
    rw [es hz] at y w er ex
    refine hq r x (-1) bk ?_ (fun _ => er)
    rw [nS_0 hz y w]
    exact ⟨qC3 ex (qbbO (by rw [← es hz]; exact hs) hn) (fun _ => rfl), fun _ => rfl, fun w => absurd rfl w⟩
  · have hz := fz z
    rw [es hz] at y w ex et hs
    refine hq 0 x t 2 ?_ (fun w2 => ?_)
    · rw [nS_2 hz y w]; exact ⟨qC3 ex (qbbO hs hn) (fun w => absurd w (by first | decide | simp)), fun w => absurd w (by first | decide | simp), fun _ => ⟨et, t_2⟩⟩
    · rw [nS_2 hz y w] at w2; exact absurd w2 (by first | decide | simp)
theorem qt9 {Q : Int32 → Int32 → Int32 → Prop} {a bd bk c : Int32} (hl : len.toInt = n) (hn : n ≤ 600) (hb : tB n f b) (h : mS n b st a bd bk) (hc : 1 ≤ c.toInt ∧ c.toInt ≤ 127)
    (hq : ∀ x bd2 bk2 : Int32, mS n b (gS n b c.toInt st) x bd2 bk2 → Q x bd2 bk2) : qp7 len f a bd bk c Q := by
  obtain ⟨⟨q, e, hq6, es⟩, e0, e1⟩ := id h
  have hs := qNi (b := b) hq6 hn
  have fz : bd = -1 → st.1 = 0 := fun z => by
    by_cases w : st.1 = 0
    · exact w
    · have := (e1 w).1; rw [z, qam] at this; omega
  have fn : ¬ bd = -1 → st.1 ≠ 0 := fun z w => z (e0 w)
  refine qbkx hl hn hb e hq6 hc (fun z => ?_) (fun z y x ex => ?_) (fun z y x ex => ?_)
  · have hz := fn z
    refine hq a bd bk ?_
    rw [qGz hz]; exact h
  · have hz := fz z
    have hlt : sk n b q < n := by
      by_cases w : sk n b q < n
      · exact w
      · rw [qB6 w] at y; omega
    rw [es hz] at y ex hlt
    refine hq x (-1) bk ?_
    rw [gS_0 hz y]
    exact ⟨qC3 ex (by omega) (fun _ => rfl), fun _ => rfl, fun w => absurd rfl w⟩
  · have hz := fz z
    rw [es hz] at y ex hs
    refine hq x x 1 ?_
    rw [gS_1 hz y]; exact ⟨qC3 ex hs (fun w => absurd w (by first | decide | simp)), fun w => absurd w (by first | decide | simp), fun _ => ⟨ex, t_1⟩⟩
end TXs
end
section
/-! a down's text: what it says, and the class's reading of it -/
abbrev dT := sT × Nat × Nat × Nat × (Nat → Int) × (Nat → Int) × (Nat → Int) × (Nat → Int)
def iu (f : Nat → Int) (k : Nat) (v : Int) : Nat → Int := fun j => if j = k then v else f j
theorem iu_s {f : Nat → Int} {k : Nat} {v : Int} : iu f k v k = v := if_pos rfl
theorem iu_n {f : Nat → Int} {k j : Nat} {v : Int} (h : j ≠ k) : iu f k v j = f j := if_neg h
/-- two numbers and the sign behind them -/
def twS (n : Nat) (b : Nat → Int) (lo hi lo2 hi2 : Int) (st : sT) : sT := gS n b 59 (nS n b lo2 hi2 (nS n b lo hi st))
def dbA (n : Nat) (b : Nat → Int) (h : Int) (st : sT) : sT := nS n b 0 (h - 1) (nS n b 0 (h - 1) st)
def dbB (n : Nat) (b : Nat → Int) (h : Int) (st : sT) : sT := if nV n b st = nV n b (nS n b 0 (h - 1) st) then fS 2 (sk n b (nS n b 0 (h - 1) st).2.2) (dbA n b h st) else dbA n b h st
def dbC (n : Nat) (b : Nat → Int) (h : Int) (st : sT) : sT := nS n b 0 99 (dbB n b h st)
def dbS (n : Nat) (b : Nat → Int) (h : Int) (st : sT) : sT := gS n b 59 (dbC n b h st)
/-- behind a word -/
def wE (n : Nat) (b : Nat → Int) (st : sT) : sT := (0, 0, lE n b (sk n b st.2.2))
def qXO (n : Nat) (b : Nat → Int) (i : Nat) (st : sT) (nf nh nx : Nat) (F H X D : Nat → Int) : dT :=
  if pw n b (sk n b st.2.2) = 212557 then
    (if i = 60 ∨ nf = 8 then (fS 3 (sk n b st.2.2) st, nf, nh, nx, F, H, X, D) else (twS n b 0 30 0 30 (wE n b st), nf + 1, nh, nx, iu (iu F (2 * nf) (nV n b (wE n b st))) (2 * nf + 1) (nV n b (nS n b 0 30 (wE n b st))), H, X, D))
  else if pw n b (sk n b st.2.2) = 263749 then
    (if i = 60 ∨ nh = 6 then (fS 3 (sk n b st.2.2) st, nf, nh, nx, F, H, X, D) else (twS n b 0 ((nf : Int) - 1) 1 9 (wE n b st), nf, nh + 1, nx, F, iu (iu H (2 * nh) (nV n b (wE n b st))) (2 * nh + 1) (nV n b (nS n b 0 ((nf : Int) - 1) (wE n b st))), X, D))
  else if pw n b (sk n b st.2.2) = 6648 then
    (if i = 60 ∨ nx = 4 then (fS 3 (sk n b st.2.2) st, nf, nh, nx, F, H, X, D) else (twS n b 0 30 0 30 (wE n b st), nf, nh, nx + 1, F, H, iu (iu X (2 * nx) (nV n b (wE n b st))) (2 * nx + 1) (nV n b (nS n b 0 30 (wE n b st))), D))
  else if pw n b (sk n b st.2.2) = 136276 then
    (if i = 60 then (fS 3 (sk n b st.2.2) st, nf, nh, nx, F, H, X, D) else (dbS n b nh (wE n b st), nf, nh, nx, F, H, X, iu D (6 * nV n b (wE n b st) + nV n b (nS n b 0 ((nh : Int) - 1) (wE n b st))).toNat (nV n b (dbB n b nh (wE n b st)))))
  else (fS 1 (sk n b st.2.2) st, nf, nh, nx, F, H, X, D)
def dRun (n : Nat) (b : Nat → Int) : Nat → Nat → dT → dT
  | 0, _, d => d
  | k + 1, i, d => if d.1.1 ≠ 0 ∨ ¬ sk n b d.1.2.2 < n then d else dRun n b k (i + 1) (qXO n b i d.1 d.2.1 d.2.2.1 d.2.2.2.1 d.2.2.2.2.1 d.2.2.2.2.2.1 d.2.2.2.2.2.2.1 d.2.2.2.2.2.2.2)
/-- rows of pairs: the class keeps them in two rows, the reference in one -/
def pr (k : Nat) (A B : NI) (G : Nat → Int) : Prop := ∀ j : Nat, j < k → (A j).toInt = G (2 * j) ∧ (B j).toInt = G (2 * j + 1)
def pm (k : Nat) (A : NI) (G : Nat → Int) : Prop := ∀ j : Nat, j < k → (A j).toInt = G j
def cD (d : dT) (nf nh nx : Int32) (db FX FY se sr X Y : NI) : Prop :=
  (nf.toInt = d.2.1 ∧ d.2.1 ≤ 8) ∧ (nh.toInt = d.2.2.1 ∧ d.2.2.1 ≤ 6) ∧ (nx.toInt = d.2.2.2.1 ∧ d.2.2.2.1 ≤ 4) ∧
  (d.1.1 = 0 → pr d.2.1 X Y d.2.2.2.2.1 ∧ pr d.2.2.1 se sr d.2.2.2.2.2.1 ∧ pr d.2.2.2.1 FX FY d.2.2.2.2.2.2.1 ∧ pm 36 db d.2.2.2.2.2.2.2)
theorem qaZv {k : Nat} {A B : Nat → Int32} {G : Nat → Int} {r s : Int32} {v w : Int} (h : pr k A B G) (e1 : r.toInt = v) (e2 : s.toInt = w) : pr (k + 1) (upd A k r) (upd B k s) (iu (iu G (2 * k) v) (2 * k + 1) w) := by
  intro j hj
  by_cases z : j = k
  · rw [z, pk_us, pk_us, iu_s, iu_n (by omega), iu_s]
    exact ⟨e1, e2⟩
  · rw [pk_un z, pk_un z, iu_n (by omega), iu_n (by omega), iu_n (by omega), iu_n (by omega)]
    exact h j (by omega)
section TD
variable {n : Nat} {b : Nat → Int} {st : sT} {len : Int32} {f : Nat → Int32}
/-- a word of the program's, known by its number -/
def wK (n : Nat) (b : Nat → Int) (m : Nat) (z : NI) (c : Int) : Prop := wSt m z (fun j => (z j).toInt) ∧ ∀ s : Nat, s ≤ 600 → (pw n b s = c ↔ isW n b m (fun j => (z j).toInt) s) ∧ (isW n b m (fun j => (z j).toInt) s → lE n b s = s + m)
theorem wK_3 {z : Nat → Int32} {c : Int} (h : wSt 3 z (fun j => (z j).toInt)) (e : ((((z 0).toInt - 96) * 32 + ((z 1).toInt - 96)) * 32 + ((z 2).toInt - 96)) = c) : wK n b 3 z c :=
  ⟨h, fun s hs => by rw [← e]; exact pw_3 hs rfl rfl rfl (h.2.2.2 0 (by decide)).2 (h.2.2.2 1 (by decide)).2 (h.2.2.2 2 (by decide)).2⟩
theorem wK_4 {z : Nat → Int32} {c : Int} (h : wSt 4 z (fun j => (z j).toInt)) (e : (((((z 0).toInt - 96) * 32 + ((z 1).toInt - 96)) * 32 + ((z 2).toInt - 96)) * 32 + ((z 3).toInt - 96)) = c) : wK n b 4 z c :=
  ⟨h, fun s hs => by rw [← e]; exact pw_4 hs rfl rfl rfl rfl (h.2.2.2 0 (by decide)).2 (h.2.2.2 1 (by decide)).2 (h.2.2.2 2 (by decide)).2 (h.2.2.2 3 (by decide)).2⟩
theorem wK_5 {z : Nat → Int32} {c : Int} (h : wSt 5 z (fun j => (z j).toInt)) (e : ((((((z 0).toInt - 96) * 32 + ((z 1).toInt - 96)) * 32 + ((z 2).toInt - 96)) * 32 + ((z 3).toInt - 96)) * 32 + ((z 4).toInt - 96)) = c) : wK n b 5 z c :=
  ⟨h, fun s hs => by rw [← e]; exact pw_5 hs rfl rfl rfl rfl rfl (h.2.2.2 0 (by decide)).2 (h.2.2.2 1 (by decide)).2 (h.2.2.2 2 (by decide)).2 (h.2.2.2 3 (by decide)).2 (h.2.2.2 4 (by decide)).2⟩
theorem wK_6 {z : Nat → Int32} {c : Int} (h : wSt 6 z (fun j => (z j).toInt)) (e : (((((((z 0).toInt - 96) * 32 + ((z 1).toInt - 96)) * 32 + ((z 2).toInt - 96)) * 32 + ((z 3).toInt - 96)) * 32 + ((z 4).toInt - 96)) * 32 + ((z 5).toInt - 96)) = c) : wK n b 6 z c :=
  ⟨h, fun s hs => by rw [← e]; exact pw_6 hs rfl rfl rfl rfl rfl rfl (h.2.2.2 0 (by decide)).2 (h.2.2.2 1 (by decide)).2 (h.2.2.2 2 (by decide)).2 (h.2.2.2 3 (by decide)).2 (h.2.2.2 4 (by decide)).2 (h.2.2.2 5 (by decide)).2⟩
theorem qbeH : wSt 4 q5d (fun j => (q5d j).toInt) := ⟨by decide, by decide, by decide, by decide⟩
theorem qbeV : wSt 4 q5r (fun j => (q5r j).toInt) := ⟨by decide, by decide, by decide, by decide⟩
theorem qbjs : wSt 3 q4Y (fun j => (q4Y j).toInt) := ⟨by decide, by decide, by decide, by decide⟩
theorem qbhr : wSt 4 q40 (fun j => (q40 j).toInt) := ⟨by decide, by decide, by decide, by decide⟩
theorem qbeO : wK n b 4 q5d 212557 := wK_4 qbeH (by decide)
theorem qbeJ : wK n b 4 q5r 263749 := wK_4 qbeV (by decide)
theorem qbjb : wK n b 3 q4Y 6648 := wK_3 qbjs (by decide)
theorem qbhz : wK n b 4 q40 136276 := wK_4 qbhr (by decide)
theorem qbiJ {a : Nat} (h : a ≤ 600) (hn : n ≤ 600) : lE n b a ≤ 600 := by
  have := (qW2 (n := n) (b := b) (s := 0) _ a rfl).2.1
  omega
theorem qWF {a fa fp : Int32} (h : cS n b st a fa fp) (h0 : st.1 = 0) : fa = 0 := by rw [qan, t_0, h.2.1]; exact h0
theorem qbkP {a fa fp : Int32} (h : cS n b st a fa fp) (h0 : st.1 ≠ 0) : ¬ fa = 0 := fun z => h0 (by rw [← h.2.1, z, t_0])
theorem qaxr {Q : Int32 → Int32 → Int32 → Prop} {m : Nat} {z : Nat → Int32} {c : Int} {a fa fp tk : Int32} (hl : len.toInt = n) (hn : n ≤ 600) (hb : tB n f b) (hw : wK n b m z c) (h : cS n b st a fa fp) (h0 : st.1 = 0)
    (q0 : pw n b (sk n b st.2.2) ≠ c → ∀ x : Int32, cS n b st x fa fp → Q 0 x tk)
    (q1 : pw n b (sk n b st.2.2) = c → ∀ x t : Int32, cS n b (wE n b st) x fa fp → t.toInt = (sk n b st.2.2 : Nat) → Q 1 x t) : qbL m z len fa f a tk Q := by
  have hfa := qWF h h0
  obtain ⟨⟨q, e, hq6, es⟩, ef, e0, e1⟩ := h
  have hs := qNi (b := b) hq6 hn
  have es' := es h0
  rw [es'] at hs
  refine qbdO hl hn hb e hq6 hw.1 (fun w x ex => q0 (fun z2 => ?_) x ?_) (fun _ w x t ex et => q1 ?_ x t ?_ ?_)
  · rw [es'] at w
    exact (w.resolve_left (fun d => d hfa)) ((hw.2 _ hs).1.mp z2)
  · rw [es'] at ex
    exact ⟨qC3 ex hs (fun _ => qauv), ef, e0, e1⟩
  · rw [es'] at w
    exact (hw.2 _ hs).1.mpr w
  · rw [es'] at w ex
    rw [← (hw.2 _ hs).2 w] at ex
    exact ⟨qC3 ex (qbiJ hs hn) (fun _ => rfl), ef.trans h0, fun _ => e0 h0, fun d => absurd rfl d⟩
  · rw [es'] at et
    exact et
theorem qCj {Q : Int32 → Int32 → Prop} {a tk fa fp w : Int32} {s : Nat} (h : cS n b st a fa fp) (hw : w.toInt ≠ 0) (ht : st.1 = 0 → tk.toInt = s) (hq : ∀ fa2 fp2 : Int32, cS n b (fS w.toInt s st) a fa2 fp2 → Q fa2 fp2) : qkI tk fa fp w Q := by
  refine ⟨fun z => hq fa fp ?_, fun z => hq w tk ?_⟩
  · have hz : st.1 ≠ 0 := fun d => z (qWF h d)
    rw [qadc hz]; exact h
  · have hz : st.1 = 0 := by rw [← h.2.1, z, t_0]
    rw [q8e hz]
    obtain ⟨⟨q, g1, g2, g3⟩, ef, e0, e1⟩ := h
    exact ⟨⟨q, g1, g2, fun d => absurd d hw⟩, rfl, fun d => absurd d hw, fun _ => ht hz⟩
theorem q2b {Q : Int32 → Int32 → Int32 → Prop} {a fa fp : Int32} (hl : len.toInt = n) (hn : n ≤ 600) (hb : tB n f b) (h : cS n b st a fa fp) (hq : ∀ x fa2 fp2 : Int32, cS n b (fS 1 (sk n b st.2.2) st) x fa2 fp2 → Q x fa2 fp2) : qua len f a fa fp Q := by
  obtain ⟨⟨q, e, hq6, es⟩, ef, e0, e1⟩ := id h
  have hs := qNi (b := b) hq6 hn
  refine qy4 hl hn hb e hq6 (fun x ex => ⟨fun z => hq x fa fp ?_, fun z => hq x 1 x ?_⟩)
  · have hz : st.1 ≠ 0 := fun d => z (qWF h d)
    rw [qadc hz]; exact ⟨qC3 ex hs (fun d => absurd d hz), ef, e0, e1⟩
  · have hz : st.1 = 0 := by rw [← ef, z, t_0]
    rw [q8e hz]
    rw [es hz] at ex hs
    exact ⟨qC3 ex hs (fun d => absurd d (by first | decide | simp)), t_1, fun d => absurd d (by first | decide | simp), fun _ => ex⟩
theorem qV7 {Q : Int32 → Int32 → Prop} {a fa fp : Int32} (hl : len.toInt = n) (hn : n ≤ 600) (hb : tB n f b) (h : cS n b st a fa fp) (h0 : st.1 = 0) (q0 : sk n b st.2.2 < n → ∀ x : Int32, cS n b st x fa fp → Q 0 x) (q1 : ¬ sk n b st.2.2 < n → ∀ x : Int32, cS n b st x fa fp → Q 1 x) : qzU len f a Q := by
  obtain ⟨⟨q, e, hq6, es⟩, ef, e0, e1⟩ := id h
  have hs := qNi (b := b) hq6 hn
  have es' := es h0
  rw [es'] at hs
  refine qaUb hl hn hb e hq6 (fun w x ex => ?_) (fun w x ex => ?_)
  · rw [es'] at w ex
    exact q0 w x ⟨qC3 ex hs (fun _ => qauv), ef, e0, e1⟩
  · rw [es'] at w ex
    exact q1 w x ⟨qC3 ex hs (fun _ => qauv), ef, e0, e1⟩
theorem qlb {c : Int} (h : (gS n b c st).1 = 0) : st.1 = 0 := by
  by_cases w : st.1 = 0
  · exact w
  · rw [qGz w] at h; exact absurd h w
theorem qzk {l1 h1 l2 h2 : Int} (h : (twS n b l1 h1 l2 h2 st).1 = 0) : (nS n b l1 h1 st).1 = 0 ∧ (nS n b l2 h2 (nS n b l1 h1 st)).1 = 0 := by
  have z := qlb (c := 59) (st := nS n b l2 h2 (nS n b l1 h1 st)) h
  exact ⟨(qdE z).1, z⟩
theorem qaO7 {h : Int} (w : (dbA n b h st).1 ≠ 0) : dbB n b h st = dbA n b h st := by
  unfold dbB
  by_cases z : nV n b st = nV n b (nS n b 0 (h - 1) st)
  · rw [if_pos z, qadc w]
  · rw [if_neg z]
theorem qa4W {h : Int} (z : nV n b st = nV n b (nS n b 0 (h - 1) st)) : dbB n b h st = fS 2 (sk n b (nS n b 0 (h - 1) st).2.2) (dbA n b h st) := if_pos z
theorem qbeE {h : Int} (z : ¬ nV n b st = nV n b (nS n b 0 (h - 1) st)) : dbB n b h st = dbA n b h st := if_neg z
theorem qWE {h : Int} (z : (dbB n b h st).1 = 0) : (dbA n b h st).1 = 0 := by
  by_cases w : (dbA n b h st).1 = 0
  · exact w
  · rw [qaO7 w] at z; exact z
theorem qaSl {h : Int} (z : (dbS n b h st).1 = 0) : (dbC n b h st).1 = 0 ∧ (dbB n b h st).1 = 0 ∧ (dbA n b h st).1 = 0 ∧ (nS n b 0 (h - 1) st).1 = 0 := by
  have z1 : (dbC n b h st).1 = 0 := qlb (c := 59) (st := dbC n b h st) z
  have z2 : (dbB n b h st).1 = 0 := (qdE (lo := 0) (hi := 99) (st := dbB n b h st) z1).1
  have z3 := qWE z2
  exact ⟨z1, z2, z3, (qdE (lo := 0) (hi := h - 1) (st := nS n b 0 (h - 1) st) z3).1⟩
end TD
end
section
/-! the class's clauses of a down -/
section TDc
variable {n : Nat} {b : Nat → Int} {st : sT} {len : Int32} {f : Nat → Int32}
theorem qaWN {Q : Int32 → Int32 → Int32 → Int32 → NI → NI → Int32 → Prop} {a fa fp tk nn p2 : Int32} {X Y : Nat → Int32} {NF s0 : Nat} (hl : len.toInt = n) (hn : n ≤ 600) (hb : tB n f b) (hc : cS n b st a fa fp) (h0 : st.1 = 0) (ht : tk.toInt = s0) (n1 : nn.toInt = NF) (n2 : NF ≤ 8)
    (q1 : (¬ p2 = 0 ∨ NF = 8) → ∀ f2 p : Int32, cS n b (3, s0, 0) a f2 p → Q a f2 p tk X Y nn)
    (q2 : p2 = 0 → NF ≠ 8 → ∀ (r s x t f2 p n2 : Int32), cS n b (twS n b 0 30 0 30 st) x f2 p → ((twS n b 0 30 0 30 st).1 = 0 → r.toInt = nV n b st ∧ s.toInt = nV n b (nS n b 0 30 st)) → n2.toInt = ((NF + 1 : Nat) : Int) → Q x f2 p t (upd X NF r) (upd Y NF s) n2) : qUB len f a fa fp tk X Y nn p2 Q := by
  have hbad : (¬ p2 = 0 ∨ NF = 8) → qCt len f Q a fa fp tk X Y nn := fun w => qCj (s := s0) hc (by decide) (fun _ => ht) (fun f2 p c => q1 w f2 p (by rw [q8e h0, t_3] at c; exact c))
  refine ⟨fun w => hbad (Or.inl w), fun w => ⟨fun w2 => ?_, fun w2 => hbad (Or.inr (by rw [qao, t_8] at w2; omega))⟩⟩
  rw [qao, t_8] at w2
  have hk : nn.toNatClampNeg = NF := qas n1
  refine qqK hl hn hb hc (by decide) (by decide) (fun r x3 x4 x5 x6 c1 v1 => ⟨qa6 (by omega) (by omega), fun f8 e8 => qqK hl hn hb c1 (by decide) (by decide) (fun r2 x9 x10 x11 x12 c2 v2 => ⟨qa6 (by omega) (by omega), fun f14 e14 => qCS hl hn hb c2 (by decide) (fun x15 x16 x17 x18 c3 x19 e19 => ?_)⟩)⟩)
  rw [hk] at e8 e14
  rw [t_0, qcc] at v1 v2
  rw [t_0, qcc, t_59] at c3
  rw [e8, e14]
  exact q2 w (by omega) r r2 x15 x16 x17 x18 x19 c3 (fun z => ⟨(v1 (qzk z).1).1, (v2 (qzk z).2).1⟩) (by rw [e19, qca (by omega), n1]; omega)
theorem qaYk {Q : Int32 → Int32 → Int32 → Int32 → NI → NI → Int32 → Prop} {a fa fp tk nn hh p2 : Int32} {X Y : Nat → Int32} {NF NH s0 : Nat} (hl : len.toInt = n) (hn : n ≤ 600) (hb : tB n f b) (hc : cS n b st a fa fp) (h0 : st.1 = 0) (ht : tk.toInt = s0) (n1 : nn.toInt = NF) (n2 : NF ≤ 8) (m1 : hh.toInt = NH) (m2 : NH ≤ 6)
    (q1 : (¬ p2 = 0 ∨ NH = 6) → ∀ f2 p : Int32, cS n b (3, s0, 0) a f2 p → Q a f2 p tk X Y hh)
    (q2 : p2 = 0 → NH ≠ 6 → ∀ (r s x t f2 p n2 : Int32), cS n b (twS n b 0 ((NF : Int) - 1) 1 9 st) x f2 p → ((twS n b 0 ((NF : Int) - 1) 1 9 st).1 = 0 → r.toInt = nV n b st ∧ s.toInt = nV n b (nS n b 0 ((NF : Int) - 1) st)) → n2.toInt = ((NH + 1 : Nat) : Int) → Q x f2 p t (upd X NH r) (upd Y NH s) n2) : qTm nn len f a fa fp tk X Y hh p2 Q := by
  have en : (nn - 1).toInt = (NF : Int) - 1 := by rw [qqj (by omega), n1]
  have hbad : (¬ p2 = 0 ∨ NH = 6) → qCB nn len f Q a fa fp tk X Y hh := fun w => qCj (s := s0) hc (by decide) (fun _ => ht) (fun f2 p c => q1 w f2 p (by rw [q8e h0, t_3] at c; exact c))
  refine ⟨fun w => hbad (Or.inl w), fun w => ⟨fun w2 => ?_, fun w2 => hbad (Or.inr (by rw [qao, t_6] at w2; omega))⟩⟩
  rw [qao, t_6] at w2
  have hk : hh.toNatClampNeg = NH := qas m1
  refine qqK hl hn hb hc (by decide) (by rw [en]; omega) (fun r x3 x4 x5 x6 c1 v1 => ⟨qa6 (by omega) (by omega), fun f8 e8 => qqK hl hn hb c1 (by decide) (by decide) (fun r2 x9 x10 x11 x12 c2 v2 => ⟨qa6 (by omega) (by omega), fun f14 e14 => qCS hl hn hb c2 (by decide) (fun x15 x16 x17 x18 c3 x19 e19 => ?_)⟩)⟩)
  rw [hk] at e8 e14
  rw [t_0, en] at v1
  rw [t_0, en, t_1, t_9] at v2
  rw [t_0, en, t_1, t_9, t_59] at c3
  rw [e8, e14]
  exact q2 w (by omega) r r2 x15 x16 x17 x18 x19 c3 (fun z => ⟨(v1 (qzk z).1).1, (v2 (qzk z).2).1⟩) (by rw [e19, qca (by omega), m1]; omega)
theorem qa2J {Q : Int32 → Int32 → Int32 → Int32 → NI → NI → Int32 → Prop} {a fa fp tk nn p2 : Int32} {X Y : Nat → Int32} {NX s0 : Nat} (hl : len.toInt = n) (hn : n ≤ 600) (hb : tB n f b) (hc : cS n b st a fa fp) (h0 : st.1 = 0) (ht : tk.toInt = s0) (n1 : nn.toInt = NX) (n2 : NX ≤ 4)
    (q1 : (¬ p2 = 0 ∨ NX = 4) → ∀ f2 p : Int32, cS n b (3, s0, 0) a f2 p → Q a f2 p tk X Y nn)
    (q2 : p2 = 0 → NX ≠ 4 → ∀ (r s x t f2 p n2 : Int32), cS n b (twS n b 0 30 0 30 st) x f2 p → ((twS n b 0 30 0 30 st).1 = 0 → r.toInt = nV n b st ∧ s.toInt = nV n b (nS n b 0 30 st)) → n2.toInt = ((NX + 1 : Nat) : Int) → Q x f2 p t (upd X NX r) (upd Y NX s) n2) : qXN len f a fa fp tk X Y nn p2 Q := by
  have hbad : (¬ p2 = 0 ∨ NX = 4) → qE3 len f Q a fa fp tk X Y nn := fun w => qCj (s := s0) hc (by decide) (fun _ => ht) (fun f2 p c => q1 w f2 p (by rw [q8e h0, t_3] at c; exact c))
  refine ⟨fun w => hbad (Or.inl w), fun w => ⟨fun w2 => ?_, fun w2 => hbad (Or.inr (by rw [qao, t_4] at w2; omega))⟩⟩
  rw [qao, t_4] at w2
  have hk : nn.toNatClampNeg = NX := qas n1
  refine qqK hl hn hb hc (by decide) (by decide) (fun r x3 x4 x5 x6 c1 v1 => ⟨qa6 (by omega) (by omega), fun f8 e8 => qqK hl hn hb c1 (by decide) (by decide) (fun r2 x9 x10 x11 x12 c2 v2 => ⟨qa6 (by omega) (by omega), fun f14 e14 => qCS hl hn hb c2 (by decide) (fun x15 x16 x17 x18 c3 x19 e19 => ?_)⟩)⟩)
  rw [hk] at e8 e14
  rw [t_0, qcc] at v1 v2
  rw [t_0, qcc, t_59] at c3
  rw [e8, e14]
  exact q2 w (by omega) r r2 x15 x16 x17 x18 x19 c3 (fun z => ⟨(v1 (qzk z).1).1, (v2 (qzk z).2).1⟩) (by rw [e19, qca (by omega), n1]; omega)
theorem qaUT {h : Int32} {db : Nat → Int32} {r6 r11 a fa fp tk : Int32} {NH : Nat} {Q : Int32 → Int32 → Int32 → Int32 → NI → Prop} (hl : len.toInt = n) (hn : n ≤ 600) (hb : tB n f b) (m2 : NH ≤ 6) (hc : cS n b (dbB n b NH st) a fa fp) (hv : (dbB n b NH st).1 = 0 → r6.toInt = nV n b st ∧ r11.toInt = nV n b (nS n b 0 ((NH : Int) - 1) st))
    (hq : ∀ (x t f2 p : Int32) (db2 : NI), cS n b (dbS n b NH st) x f2 p → ((dbS n b NH st).1 = 0 → ∃ (r : Int32) (k : Nat), k < 36 ∧ (k : Int) = 6 * nV n b st + nV n b (nS n b 0 ((NH : Int) - 1) st) ∧ r.toInt = nV n b (dbB n b NH st) ∧ db2 = upd db k r) → Q x f2 p t db2) : qCG h len f Q a fa fp tk db r6 r11 := by
  refine qqK hl hn hb hc (by decide) (by decide) (fun r x17 x18 x19 x20 c1 v1 => qCS hl hn hb c1 (by decide) (fun x22 x23 x24 x25 c2 => ?_))
  rw [t_0, qnP] at v1
  rw [t_0, qnP, t_59] at c2
  have c2 : cS n b (dbS n b NH st) x22 x24 x25 := c2
  refine ⟨fun z => ⟨fun d => absurd rfl d, fun _ x28 e28 x29 e29 => ?_⟩, fun z => ⟨fun _ => hq _ _ _ _ _ c2 (fun w => absurd (qWF c2 w) z), fun d => absurd d (by first | decide | simp)⟩⟩
  have hz : (dbS n b NH st).1 = 0 := by rw [← c2.2.1, z, t_0]
  obtain ⟨z1, z2, z3, z4⟩ := qaSl hz
  obtain ⟨w1, w2⟩ := hv z2
  obtain ⟨-, g1, g2⟩ := qdE (lo := 0) (hi := (NH : Int) - 1) (st := st) z4
  obtain ⟨-, g3, g4⟩ := qdE (lo := 0) (hi := (NH : Int) - 1) (st := nS n b 0 ((NH : Int) - 1) st) z3
  have e1 : x28.toInt = r6.toInt * 6 := by rw [e28, qu8 (by rw [t_6]; omega) (by rw [t_6]; omega), t_6]
  have e2 : x29.toInt = r6.toInt * 6 + r11.toInt := by rw [e29, qap (by omega) (by omega), e1]
  refine ⟨qa6 (by omega) (by omega), fun f30 e30 => hq _ _ _ _ _ c2 (fun _ => ⟨r, x29.toNatClampNeg, ?_, ?_, (v1 z1).1, e30⟩)⟩
  · have := qkX (x := x29) (by omega); omega
  · have := qkX (x := x29) (by omega); omega
theorem qaW6 {Q : Int32 → Int32 → Int32 → Int32 → NI → Prop} {a fa fp tk hh p2 : Int32} {db : Nat → Int32} {NH s0 : Nat} (hl : len.toInt = n) (hn : n ≤ 600) (hb : tB n f b) (hc : cS n b st a fa fp) (h0 : st.1 = 0) (ht : tk.toInt = s0) (m1 : hh.toInt = NH) (m2 : NH ≤ 6)
    (q1 : ¬ p2 = 0 → ∀ f2 p : Int32, cS n b (3, s0, 0) a f2 p → Q a f2 p tk db)
    (q2 : p2 = 0 → ∀ (x t f2 p : Int32) (db2 : NI), cS n b (dbS n b NH st) x f2 p → ((dbS n b NH st).1 = 0 → ∃ (r : Int32) (k : Nat), k < 36 ∧ (k : Int) = 6 * nV n b st + nV n b (nS n b 0 ((NH : Int) - 1) st) ∧ r.toInt = nV n b (dbB n b NH st) ∧ db2 = upd db k r) → Q x f2 p t db2) : qTh hh len f a fa fp tk db p2 Q := by
  have en : (hh - 1).toInt = (NH : Int) - 1 := by rw [qqj (by omega), m1]
  refine ⟨fun w => ?_, fun w => qCj (s := s0) hc (by decide) (fun _ => ht) (fun f2 p c => q1 w f2 p (by rw [q8e h0, t_3] at c; exact c))⟩
  refine qqK hl hn hb hc (by decide) (by rw [en]; omega) (fun r6 x2 x3 x4 x5 c1 v1 => qqK hl hn hb c1 (by decide) (by rw [en]; omega) (fun r11 x7 x8 x9 x10 c2 v2 => ?_))
  rw [t_0, en] at v1 v2 c2
  have c2 : cS n b (dbA n b NH st) x7 x8 x9 := c2
  have v2 : (dbA n b NH st).1 = 0 → r11.toInt = nV n b (nS n b 0 ((NH : Int) - 1) st) ∧ x10.toInt = (sk n b (nS n b 0 ((NH : Int) - 1) st).2.2 : Nat) := v2
  have vz : (dbA n b NH st).1 = 0 → r6.toInt = nV n b st ∧ r11.toInt = nV n b (nS n b 0 ((NH : Int) - 1) st) := fun z => ⟨(v1 (qdE (lo := 0) (hi := (NH : Int) - 1) (st := nS n b 0 ((NH : Int) - 1) st) z).1).1, (v2 z).1⟩
  refine ⟨fun z => qaUT hl hn hb m2 ?_ (fun w => vz (qWE w)) (q2 w), fun z => qCj (s := sk n b (nS n b 0 ((NH : Int) - 1) st).2.2) c2 (by decide) (fun w => (v2 w).2) (fun f2 p c => qaUT hl hn hb m2 ?_ (fun w => vz (qWE w)) (q2 w))⟩
  · by_cases g : (dbA n b NH st).1 = 0
    · obtain ⟨w1, w2⟩ := vz g
      rw [qan] at z
      rw [qbeE (fun w => z (by omega))]; exact c2
    · rw [qaO7 g]; exact c2
  · rw [t_2] at c
    by_cases g : (dbA n b NH st).1 = 0
    · obtain ⟨w1, w2⟩ := vz g
      rw [qan] at z
      rw [qa4W (by omega)]; exact c
    · rw [qadc g] at c
      rw [qaO7 g]; exact c
end TDc
end
section
/-! a clause, all clauses: the class -/
section TDd
variable {n : Nat} {b : Nat → Int} {st : sT} {len : Int32} {f : Nat → Int32}
theorem qaD0 {i NF NH NX : Nat} {F H G D : Nat → Int} (w : pw n b (sk n b st.2.2) = 212557) : qXO n b i st NF NH NX F H G D = if i = 60 ∨ NF = 8 then (fS 3 (sk n b st.2.2) st, NF, NH, NX, F, H, G, D) else (twS n b 0 30 0 30 (wE n b st), NF + 1, NH, NX, iu (iu F (2 * NF) (nV n b (wE n b st))) (2 * NF + 1) (nV n b (nS n b 0 30 (wE n b st))), H, G, D) := by
  unfold qXO; rw [if_pos w]
theorem qaCd {i NF NH NX : Nat} {F H G D : Nat → Int} (w : pw n b (sk n b st.2.2) = 263749) : qXO n b i st NF NH NX F H G D = if i = 60 ∨ NH = 6 then (fS 3 (sk n b st.2.2) st, NF, NH, NX, F, H, G, D) else (twS n b 0 ((NF : Int) - 1) 1 9 (wE n b st), NF, NH + 1, NX, F, iu (iu H (2 * NH) (nV n b (wE n b st))) (2 * NH + 1) (nV n b (nS n b 0 ((NF : Int) - 1) (wE n b st))), G, D) := by
  unfold qXO; rw [if_neg (by omega), if_pos w]
theorem qaUh {i NF NH NX : Nat} {F H G D : Nat → Int} (w : pw n b (sk n b st.2.2) = 6648) : qXO n b i st NF NH NX F H G D = if i = 60 ∨ NX = 4 then (fS 3 (sk n b st.2.2) st, NF, NH, NX, F, H, G, D) else (twS n b 0 30 0 30 (wE n b st), NF, NH, NX + 1, F, H, iu (iu G (2 * NX) (nV n b (wE n b st))) (2 * NX + 1) (nV n b (nS n b 0 30 (wE n b st))), D) := by
  unfold qXO; rw [if_neg (by omega), if_neg (by omega), if_pos w]
theorem qaxH {i NF NH NX : Nat} {F H G D : Nat → Int} (w : pw n b (sk n b st.2.2) = 136276) : qXO n b i st NF NH NX F H G D = if i = 60 then (fS 3 (sk n b st.2.2) st, NF, NH, NX, F, H, G, D) else (dbS n b NH (wE n b st), NF, NH, NX, F, H, G, iu D (6 * nV n b (wE n b st) + nV n b (nS n b 0 ((NH : Int) - 1) (wE n b st))).toNat (nV n b (dbB n b NH (wE n b st)))) := by
  unfold qXO; rw [if_neg (by omega), if_neg (by omega), if_neg (by omega), if_pos w]
theorem qaZG {i NF NH NX : Nat} {F H G D : Nat → Int} (w1 : pw n b (sk n b st.2.2) ≠ 212557) (w2 : pw n b (sk n b st.2.2) ≠ 263749) (w3 : pw n b (sk n b st.2.2) ≠ 6648) (w4 : pw n b (sk n b st.2.2) ≠ 136276) : qXO n b i st NF NH NX F H G D = (fS 1 (sk n b st.2.2) st, NF, NH, NX, F, H, G, D) := by
  unfold qXO; rw [if_neg w1, if_neg w2, if_neg w3, if_neg w4]
theorem qa1e {k m : Nat} {A : Nat → Int32} {G : Nat → Int} {r : Int32} {v : Int} (h : pm m A G) (e : r.toInt = v) : pm m (upd A k r) (iu G k v) := by
  intro j hj
  by_cases z : j = k
  · rw [z, pk_us, iu_s]; exact e
  · rw [pk_un z, iu_n z]; exact h j hj
theorem qa3L {Q : Int32 → Int32 → Int32 → Int32 → NI → NI → NI → Int32 → NI → NI → Int32 → NI → NI → Int32 → Prop} {a tk fa fp x h nn p2 : Int32} {db FX FY se sr X Y : Nat → Int32} {i NF NH NX : Nat} {F H G D : Nat → Int}
    (hl : len.toInt = n) (hn : n ≤ 600) (hb : tB n f b) (hc : cS n b st a fa fp) (h0 : st.1 = 0) (hd : cD (st, NF, NH, NX, F, H, G, D) nn h x db FX FY se sr X Y) (hp1 : p2 = 0 → i ≠ 60) (hp2 : ¬ p2 = 0 → i = 60)
    (hq : ∀ (a t f2 fp2 : Int32) (db FX FY : NI) (x : Int32) (se sr : NI) (h : Int32) (X Y : NI) (nn : Int32), cS n b (qXO n b i st NF NH NX F H G D).1 a f2 fp2 → cD (qXO n b i st NF NH NX F H G D) nn h x db FX FY se sr X Y → Q a t f2 fp2 db FX FY x se sr h X Y nn) :
    qIz len f a tk fa fp db FX FY x se sr h X Y nn p2 Q := by
  have hd : (nn.toInt = NF ∧ NF ≤ 8) ∧ (h.toInt = NH ∧ NH ≤ 6) ∧ (x.toInt = NX ∧ NX ≤ 4) ∧ (st.1 = 0 → pr NF X Y F ∧ pr NH se sr H ∧ pr NX FX FY G ∧ pm 36 db D) := hd
  obtain ⟨⟨n1, n2⟩, ⟨m1, m2⟩, ⟨x1, x2⟩, hr⟩ := hd
  obtain ⟨r1, r2, r3, r4⟩ := hr h0
  have bad : ∀ (a t f2 fp2 : Int32), qXO n b i st NF NH NX F H G D = (fS 3 (sk n b st.2.2) st, NF, NH, NX, F, H, G, D) → cS n b (3, sk n b st.2.2, 0) a f2 fp2 → Q a t f2 fp2 db FX FY x se sr h X Y nn := fun a t f2 fp2 e c => by
    rw [q8e h0] at e
    refine hq _ _ _ _ _ _ _ _ _ _ _ _ _ _ (by rw [e]; exact c) ?_
    rw [e]
    exact ⟨⟨n1, n2⟩, ⟨m1, m2⟩, ⟨x1, x2⟩, fun z => absurd z (by first | decide | simp)⟩
  refine qaxr hl hn hb qbeO hc h0 (fun w1 y2 c2 => ⟨fun _ => ?_, fun d => absurd rfl d⟩) (fun w1 y2 t2 c2 e2 => ⟨fun d => absurd d (by first | decide | simp), fun _ => ?_⟩)
  · refine qaxr hl hn hb qbeJ c2 h0 (fun w2 y3 c3 => ⟨fun _ => ?_, fun d => absurd rfl d⟩) (fun w2 y3 t3 c3 e3 => ⟨fun d => absurd d (by first | decide | simp), fun _ => ?_⟩)
    · refine qaxr hl hn hb qbjb c3 h0 (fun w3 y4 c4 => ⟨fun _ => ?_, fun d => absurd rfl d⟩) (fun w3 y4 t4 c4 e4 => ⟨fun d => absurd d (by first | decide | simp), fun _ => ?_⟩)
      · refine qaxr hl hn hb qbhz c4 h0 (fun w4 y5 c5 => ⟨fun _ => ?_, fun d => absurd rfl d⟩) (fun w4 y5 t5 c5 e5 => ⟨fun d => absurd d (by first | decide | simp), fun _ => ?_⟩)
        · refine q2b hl hn hb c5 (fun z f2 p3 c6 => ?_)
          have e := qaZG (i := i) (NF := NF) (NH := NH) (NX := NX) (F := F) (H := H) (G := G) (D := D) w1 w2 w3 w4
          refine hq _ _ _ _ _ _ _ _ _ _ _ _ _ _ (by rw [e]; exact c6) ?_
          rw [e]
          rw [q8e h0]
          exact ⟨⟨n1, n2⟩, ⟨m1, m2⟩, ⟨x1, x2⟩, fun z => absurd z (by first | decide | simp)⟩
        · refine qaW6 hl hn hb c5 rfl e5 m1 m2 (fun g f2 p c => bad _ _ _ _ (by rw [qaxH w4, if_pos (hp2 g)]) c) (fun g y t f2 p db2 c hv => ?_)
          have e := (qaxH (i := i) (NF := NF) (NH := NH) (NX := NX) (F := F) (H := H) (G := G) (D := D) w4).trans (if_neg (hp1 g))
          refine hq _ _ _ _ _ _ _ _ _ _ _ _ _ _ (by rw [e]; exact c) ?_
          rw [e]
          refine ⟨⟨n1, n2⟩, ⟨m1, m2⟩, ⟨x1, x2⟩, fun z => ⟨r1, r2, r3, ?_⟩⟩
          obtain ⟨r, k, k1, k2, k3, k4⟩ := hv z
          rw [k4, ← k2, Int.toNat_natCast]
          exact qa1e r4 k3
      · refine qa2J hl hn hb c4 rfl e4 x1 x2 (fun g f2 p c => bad _ _ _ _ (by rw [qaUh w3, if_pos (g.elim (fun d => Or.inl (hp2 d)) Or.inr)]) c) (fun g g2 r s y t f2 p n9 c hv e9 => ?_)
        have e := (qaUh (i := i) (NF := NF) (NH := NH) (NX := NX) (F := F) (H := H) (G := G) (D := D) w3).trans (if_neg (fun d => d.elim (hp1 g) g2))
        refine hq _ _ _ _ _ _ _ _ _ _ _ _ _ _ (by rw [e]; exact c) ?_
        rw [e]
        exact ⟨⟨n1, n2⟩, ⟨m1, m2⟩, ⟨e9, by show NX + 1 ≤ 4; omega⟩, fun z => ⟨r1, r2, qaZv r3 (hv z).1 (hv z).2, r4⟩⟩
    · refine qaYk hl hn hb c3 rfl e3 n1 n2 m1 m2 (fun g f2 p c => bad _ _ _ _ (by rw [qaCd w2, if_pos (g.elim (fun d => Or.inl (hp2 d)) Or.inr)]) c) (fun g g2 r s y t f2 p n9 c hv e9 => ?_)
      have e := (qaCd (i := i) (NF := NF) (NH := NH) (NX := NX) (F := F) (H := H) (G := G) (D := D) w2).trans (if_neg (fun d => d.elim (hp1 g) g2))
      refine hq _ _ _ _ _ _ _ _ _ _ _ _ _ _ (by rw [e]; exact c) ?_
      rw [e]
      exact ⟨⟨n1, n2⟩, ⟨e9, by show NH + 1 ≤ 6; omega⟩, ⟨x1, x2⟩, fun z => ⟨r1, qaZv r2 (hv z).1 (hv z).2, r3, r4⟩⟩
  · refine qaWN hl hn hb c2 rfl e2 n1 n2 (fun g f2 p c => bad _ _ _ _ (by rw [qaD0 w1, if_pos (g.elim (fun d => Or.inl (hp2 d)) Or.inr)]) c) (fun g g2 r s y t f2 p n9 c hv e9 => ?_)
    have e := (qaD0 (i := i) (NF := NF) (NH := NH) (NX := NX) (F := F) (H := H) (G := G) (D := D) w1).trans (if_neg (fun d => d.elim (hp1 g) g2))
    refine hq _ _ _ _ _ _ _ _ _ _ _ _ _ _ (by rw [e]; exact c) ?_
    rw [e]
    exact ⟨⟨e9, by show NF + 1 ≤ 8; omega⟩, ⟨m1, m2⟩, ⟨x1, x2⟩, fun z => ⟨qaZv r1 (hv z).1 (hv z).2, r2, r3, r4⟩⟩
theorem q5c {k i : Nat} {d : dT} (h : d.1.1 ≠ 0 ∨ ¬ sk n b d.1.2.2 < n) : dRun n b k i d = d := by
  cases k with
  | zero => rfl
  | succ k => unfold dRun; rw [if_pos h]
theorem qaXn {k i NF NH NX : Nat} {F H G D : Nat → Int} (h0 : st.1 = 0) (h : sk n b st.2.2 < n) : dRun n b (k + 1) i (st, NF, NH, NX, F, H, G, D) = dRun n b k (i + 1) (qXO n b i st NF NH NX F H G D) := by
  show (if _ then _ else _) = _
  rw [if_neg (fun d => d.elim (fun z => z h0) (fun z => z h))]
theorem qa5P {Q : Int32 → Int32 → Int32 → NI → Int32 → Int32 → Int32 → Int32 → Int32 → NI → NI → NI → NI → NI → NI → Prop} {R : dT} (hl : len.toInt = n) (hn : n ≤ 600) (hb : tB n f b)
    (hq : ∀ (nn h x : Int32) (db : NI) (a sf t f2 fp2 : Int32) (FX FY se sr X Y : NI), cS n b R.1 a f2 fp2 → cD R nn h x db FX FY se sr X Y → qtj len f Q nn h x db a sf t f2 fp2 FX FY se sr X Y) :
    ∀ (k : Nat) (nn h x : Int32) (db : NI) (a sf t f2 fp2 : Int32) (FX FY se sr X Y : NI) (l2 : Int32) (i : Nat) (d : dT), cS n b d.1 a f2 fp2 → cD d nn h x db FX FY se sr X Y → l2.toInt = i → i ≤ 61 → 61 - i < k → dRun n b (61 - i) i d = R → qnC len f Q k nn h x db a sf t f2 fp2 FX FY se sr X Y l2 := by
  intro k
  induction k with
  | zero => intro nn h x db a sf t f2 fp2 FX FY se sr X Y l2 i d hc hd h1 h2 h3; omega
  | succ k ih =>
    intro nn h x db a sf t f2 fp2 FX FY se sr X Y l2 i d hc hd h1 h2 h3 hR
    refine ⟨fun c => ?_, fun c => ⟨fun z => ⟨fun w => absurd rfl w, fun _ => ?_⟩, fun z => ⟨fun _ => ?_, fun w => absurd w (by first | decide | simp)⟩⟩⟩
    · rw [qao, qlh] at c
      rw [show 61 - i = 0 by omega] at hR
      have hR : d = R := hR
      rw [hR] at hc hd
      exact hq _ _ _ _ _ _ _ _ _ _ _ _ _ _ _ hc hd
    · rw [qao, qlh] at c
      have h0 : d.1.1 = 0 := by rw [← hc.2.1, z, t_0]
      refine qV7 hl hn hb hc h0 (fun w y cy => ⟨fun d => absurd rfl d, fun _ => ?_⟩) (fun w y cy => ⟨fun _ => ?_, fun d => absurd d (by first | decide | simp)⟩)
      · obtain ⟨st, NF, NH, NX, F, H, G, D⟩ := d
        rw [show 61 - i = (61 - (i + 1)) + 1 by omega, qaXn h0 w] at hR
        have go : ∀ s2 : Int32, (s2 = 0 → i ≠ 60) → (¬ s2 = 0 → i = 60) → qzT len f Q (fun n h x db a sf t f2 fp2 FX FY se sr X Y i => qnC len f Q k n h x db a sf t f2 fp2 FX FY se sr X Y i) nn h x db y sf t f2 fp2 FX FY se sr X Y l2 s2 := fun s2 g1 g2 =>
          qa3L hl hn hb cy h0 hd g1 g2 (fun a t f2 fp2 db FX FY x se sr h X Y nn c9 d9 x26 e26 => ih _ _ _ _ _ _ _ _ _ _ _ _ _ _ _ x26 (i + 1) _ c9 d9 (by rw [e26, qca (by omega), h1]; omega) (by omega) (by omega) hR)
        exact ⟨fun g => go 0 (fun _ g9 => g (by rw [qan, qlh]; omega)) (fun g9 => absurd rfl g9), fun g => go 1 (fun g9 => absurd g9 (by decide)) (fun _ => by rw [qan, qlh] at g; omega)⟩
      · rw [q5c (Or.inr w)] at hR
        rw [hR] at cy hd
        exact hq _ _ _ _ _ _ _ _ _ _ _ _ _ _ _ cy hd
    · have h0 : d.1.1 ≠ 0 := fun w => z (qWF hc w)
      rw [q5c (Or.inl h0)] at hR
      rw [hR] at hc hd
      exact hq _ _ _ _ _ _ _ _ _ _ _ _ _ _ _ hc hd
theorem qa7L {Q : Int32 → Int32 → Int32 → NI → Int32 → Int32 → Int32 → Int32 → Int32 → NI → NI → NI → NI → NI → NI → Prop} {nn h x a sf t f2 fp2 : Int32} {FX FY se sr X Y : Nat → Int32} (hk : ∀ db : NI, pm 36 db (fun _ => 0) → ∃ k : Nat, qnC len f Q k nn h x db a sf t f2 fp2 FX FY se sr X Y 0) :
    ∀ (k : Nat) (db : NI) (l2 : Int32) (i : Nat), l2.toInt = i → i ≤ 36 → 36 - i < k → pm i db (fun _ => 0) → qzW len f Q k nn h x db a sf t f2 fp2 FX FY se sr X Y l2 := by
  intro k
  induction k with
  | zero => intro db l2 i i0 i1 i2; omega
  | succ k ih =>
    intro db l2 i i0 i1 i2 hz
    refine ⟨fun c => hk db ?_, fun c => ?_⟩
    · rw [qak, qSF] at c
      have e : i = 36 := by omega
      rw [← e]; exact hz
    rw [qak, qSF] at c
    refine ⟨qa6 (by omega) (by omega), fun f2' e2 x3 e3 => ?_⟩
    have e : x3.toInt = ((i + 1 : Nat) : Int) := by rw [e3, qca (by omega), i0]; omega
    refine ih f2' x3 (i + 1) e (by omega) (by omega) (fun j hj => ?_)
    rw [qas i0] at e2
    by_cases z : j = i
    · rw [e2, z, pk_us]; exact t_0
    · rw [e2, pk_un z]; exact hz j (by omega)
/-- the text of a down, as it is read from its first byte on -/
def dAll (n : Nat) (b : Nat → Int) : dT := dRun n b 61 0 ((0, 0, 0), 0, 0, 0, (fun _ => 0), (fun _ => 0), (fun _ => 0), (fun _ => 0))
theorem qaWM {Q : Int32 → Int32 → Int32 → NI → Int32 → Int32 → Int32 → Int32 → Int32 → NI → NI → NI → NI → NI → NI → Prop} {nn h x a sf t f2 fp2 : Int32} {db FX FY se sr X Y : Nat → Int32} (hl : len.toInt = n) (hn : n ≤ 600) (hb : tB n f b) (hc : cS n b (0, 0, 0) a f2 fp2)
    (hq : ∀ (nn h x : Int32) (db : NI) (a sf t f2 fp2 : Int32) (FX FY se sr X Y : NI), cS n b (dAll n b).1 a f2 fp2 → cD (dAll n b) nn h x db FX FY se sr X Y → qtj len f Q nn h x db a sf t f2 fp2 FX FY se sr X Y) :
    qL6 len f nn h x db a sf t f2 fp2 FX FY se sr X Y Q :=
  ⟨37, qa7L (fun db hz => ⟨62, qa5P hl hn hb hq 62 0 0 0 db a sf t f2 fp2 FX FY se sr X Y 0 0 ((0, 0, 0), 0, 0, 0, (fun _ => 0), (fun _ => 0), (fun _ => 0), (fun _ => 0)) hc ⟨⟨t_0, by decide⟩, ⟨t_0, by decide⟩, ⟨t_0, by decide⟩, fun _ => ⟨fun j hj => absurd hj (Nat.not_lt_zero j), fun j hj => absurd hj (Nat.not_lt_zero j), fun j hj => absurd hj (Nat.not_lt_zero j), hz⟩⟩ t_0 (by decide) (by decide) rfl⟩) 37 db 0 0 t_0 (by decide) (by decide) (fun j hj => absurd hj (Nat.not_lt_zero j))⟩
end TDd
end
section
/-! a down's text by the reference -/
def mD (d : dT) (nf nh nx : Int32) (db fx ha fo : NI) : Prop :=
  (nf.toInt = d.2.1 ∧ d.2.1 ≤ 8) ∧ (nh.toInt = d.2.2.1 ∧ d.2.2.1 ≤ 6) ∧ (nx.toInt = d.2.2.2.1 ∧ d.2.2.2.1 ≤ 4) ∧
  (d.1.1 = 0 → pm (2 * d.2.1) fo d.2.2.2.2.1 ∧ pm (2 * d.2.2.1) ha d.2.2.2.2.2.1 ∧ pm (2 * d.2.2.2.1) fx d.2.2.2.2.2.2.1 ∧ pm 36 db d.2.2.2.2.2.2.2)
theorem qaXi {k : Nat} {A : Nat → Int32} {G : Nat → Int} {r s : Int32} {v w : Int} (h : pm (2 * k) A G) (e1 : r.toInt = v) (e2 : s.toInt = w) : pm (2 * (k + 1)) (upd (upd A (2 * k) r) (2 * k + 1) s) (iu (iu G (2 * k) v) (2 * k + 1) w) := by
  intro j hj
  by_cases z : j = 2 * k + 1
  · rw [z, pk_us, iu_s]; exact e2
  · rw [pk_un z, iu_n z]
    by_cases z2 : j = 2 * k
    · rw [z2, pk_us, iu_s]; exact e1
    · rw [pk_un z2, iu_n z2]; exact h j (by omega)
theorem q0N {x : Int32} {k : Nat} (h : x.toInt = k) (h2 : k ≤ 100) : (2 * x).toInt = ((2 * k : Nat) : Int) := by
  rw [qu8 (by rw [t_2]; omega) (by rw [t_2]; omega), t_2]; omega
theorem qah1 {x : Int32} {k : Nat} (h : x.toInt = ((2 * k : Nat) : Int)) (h2 : k ≤ 100) : (x + 1).toInt = ((2 * k + 1 : Nat) : Int) := by
  rw [qca (by omega), h]; omega
theorem y_of {m : Nat} {z : Nat → Int32} {c : Int} {Q : Int32 → Prop} (e1 : (Int32.ofNat m >>> ((0 : Int32) &&& 31)).toInt = m) (e2 : (Int32.ofNat m).toInt = m) (ec : (oW z m).toInt = c) (hq : ∀ r : Int32, r.toInt = c → Q r) : qbh m z Q :=
  qaZ8 e1 e2 (fun r e => hq r (by rw [e]; exact ec))
theorem qa8o {Q : Int32 → Prop} (hq : ∀ r : Int32, r.toInt = 212557 → Q r) : qbh 4 qGI Q := y_of (by decide) (by decide) (by decide) hq
theorem qa0p {Q : Int32 → Prop} (hq : ∀ r : Int32, r.toInt = 263749 → Q r) : qbh 4 qAy Q := y_of (by decide) (by decide) (by decide) hq
theorem qbfc {Q : Int32 → Prop} (hq : ∀ r : Int32, r.toInt = 6648 → Q r) : qbh 3 qGm Q := y_of (by decide) (by decide) (by decide) hq
theorem qbh0 {Q : Int32 → Prop} (hq : ∀ r : Int32, r.toInt = 136276 → Q r) : qbh 4 q5v Q := y_of (by decide) (by decide) (by decide) hq
abbrev isR (c : Int) : Prop := c = 212557 ∨ c = 263749 ∨ c = 6648 ∨ c = 136276
theorem qbhy {p0 : Int32} {Q : Int32 → Prop} (q1 : isR p0.toInt → Q 1) (q0 : ¬ isR p0.toInt → Q 0) : qKz p0 Q := by
  refine qa8o (fun r2 e2 => ⟨fun z => q1 (Or.inl (by rw [z]; exact e2)), fun z2 => ?_⟩)
  refine qa0p (fun r5 e5 => ⟨fun z => q1 (Or.inr (Or.inl (by rw [z]; exact e5))), fun z5 => ?_⟩)
  refine qbfc (fun r8 e8 => ⟨fun z => q1 (Or.inr (Or.inr (Or.inl (by rw [z]; exact e8)))), fun z8 => ?_⟩)
  refine qbh0 (fun r11 e11 => ⟨fun z11 => q0 ?_, fun z => q1 (Or.inr (Or.inr (Or.inr (by rw [z]; exact e11))))⟩)
  rw [qan] at z2 z5 z8 z11
  intro w
  rcases w with w | w | w | w <;> omega
theorem qbbs {p1 nf nh nx : Int32} {Q : Int32 → Prop} (q1 : ((p1.toInt = 212557 ∧ nf.toInt = 8) ∨ (p1.toInt = 263749 ∧ nh.toInt = 6) ∨ (p1.toInt = 6648 ∧ nx.toInt = 4)) → Q 1) (q0 : ¬ ((p1.toInt = 212557 ∧ nf.toInt = 8) ∨ (p1.toInt = 263749 ∧ nh.toInt = 6) ∨ (p1.toInt = 6648 ∧ nx.toInt = 4)) → Q 0) : qIC nf nh nx p1 Q := by
  refine qa8o (fun r2 e2 => ⟨fun z2 => ?_, fun z2 => ⟨fun z => q0 ?_, fun z => q1 (Or.inl ⟨by rw [z2]; exact e2, by rw [z]; exact t_8⟩)⟩⟩)
  · refine qa0p (fun r5 e5 => ⟨fun z5 => ?_, fun z5 => ⟨fun z => q0 ?_, fun z => q1 (Or.inr (Or.inl ⟨by rw [z5]; exact e5, by rw [z]; exact t_6⟩))⟩⟩)
    · refine qbfc (fun r8 e8 => ⟨fun z8 => q0 ?_, fun z8 => ⟨fun z => q0 ?_, fun z => q1 (Or.inr (Or.inr ⟨by rw [z8]; exact e8, by rw [z]; exact t_4⟩))⟩⟩)
      · rw [qan] at z2 z5 z8
        omega
      · rw [qan] at z2 z5 z8 z
        rw [t_4] at z
        omega
    · rw [qan] at z2 z5 z
      rw [t_6] at z
      omega
  · rw [qan] at z2 z
    rw [t_8] at z
    omega
section TM
variable {n : Nat} {b : Nat → Int} {st : sT} {len : Int32} {f : Nat → Int32}
theorem qa30 {a bd bk : Int32} (h : mS n b st a bd bk) (h0 : st.1 ≠ 0) : ¬ bd = -1 := fun z => by
  have := (h.2.2 h0).1
  rw [z, qam] at this; omega
theorem qbe5 {a bd bk : Int32} (h : mS n b st a bd bk) (z : bd = -1) : st.1 = 0 := by
  by_cases w : st.1 = 0
  · exact w
  · exact absurd z (qa30 h w)
theorem qnB {Q : Int32 → Prop} {a bd bk : Int32} (h : mS n b st a bd bk) (q1 : st.1 = 0 → Q 1) (q0 : st.1 ≠ 0 → Q 0) : qbU bd Q := ⟨fun z => q0 (fun w => z (h.2.1 w)), fun z => q1 (qbe5 h z)⟩
theorem qKu {Q : Int32 → Int32 → Prop} {a bd bk kind place : Int32} {s : Nat} (h : mS n b st a bd bk) (hp : st.1 = 0 → place.toInt = s) (hk : kind.toInt ≠ 0) (hq : ∀ bd2 bk2 : Int32, mS n b (fS kind.toInt s st) a bd2 bk2 → Q bd2 bk2) : qnx bd bk kind place Q := by
  refine ⟨fun z => hq place kind ?_, fun z => hq bd bk ?_⟩
  · have hz := qbe5 h z
    rw [q8e hz]
    obtain ⟨⟨q, g1, g2, g3⟩, e0, e1⟩ := h
    exact ⟨⟨q, g1, g2, fun d => absurd d hk⟩, fun d => absurd d hk, fun _ => ⟨hp hz, rfl⟩⟩
  · have hz : st.1 ≠ 0 := fun w => z (h.2.1 w)
    rw [qadc hz]; exact h
theorem qFe {Q : Int32 → Int32 → Prop} {a bd bk : Int32} (hl : len.toInt = n) (hn : n ≤ 600) (hb : tB n f b) (h : mS n b st a bd bk) (hq : ∀ r x : Int32, mS n b st x bd bk → (st.1 = 0 → x.toInt = (sk n b st.2.2 : Nat) ∧ cR r (at0 n b (sk n b st.2.2))) → Q r x) : qbM len f a Q := by
  obtain ⟨⟨q, e, hq6, es⟩, e0, e1⟩ := id h
  have hs := qNi (b := b) hq6 hn
  refine qaUk hl hn hb e hq6 (fun r x ex hr => hq r x ⟨qC3 ex hs (fun w => by rw [qauv]; exact es w), e0, e1⟩ (fun w => ?_))
  rw [es w] at ex hr
  exact ⟨ex, hr⟩
theorem qaw7 {Q : Int32 → Int32 → Prop} {a bd bk : Int32} (hl : len.toInt = n) (hn : n ≤ 600) (hb : tB n f b) (h : mS n b st a bd bk) (h0 : st.1 = 0) (q1 : sk n b st.2.2 < n → ∀ x : Int32, mS n b st x bd bk → Q 1 x) (q0 : ¬ sk n b st.2.2 < n → ∀ x : Int32, mS n b st x bd bk → Q 0 x) : qsp len f a Q := by
  obtain ⟨⟨q, e, hq6, es⟩, e0, e1⟩ := id h
  have hs := qNi (b := b) hq6 hn
  have es' := es h0
  rw [es'] at hs
  refine qa0g hl hn hb e hq6 (fun w x ex => ?_) (fun w x ex => ?_)
  · rw [es'] at w ex
    exact q1 w x ⟨qC3 ex hs (fun _ => qauv), e0, e1⟩
  · rw [es'] at w ex
    exact q0 w x ⟨qC3 ex hs (fun _ => qauv), e0, e1⟩
theorem q1S {Q : Int32 → Int32 → Prop} {a bd bk : Int32} (hl : len.toInt = n) (hn : n ≤ 600) (hb : tB n f b) (h : mS n b st a bd bk) (h0 : st.1 = 0) (hq : ∀ r x : Int32, mS n b st x bd bk → x.toInt = (sk n b st.2.2 : Nat) → r.toInt = pw n b (sk n b st.2.2) → Q r x) : quL len f a Q := by
  obtain ⟨⟨q, e, hq6, es⟩, e0, e1⟩ := id h
  have hs := qNi (b := b) hq6 hn
  have es' := es h0
  rw [es'] at hs
  refine qbjA hl hn hb e hq6 (fun r x ex er => ?_)
  rw [es'] at ex er
  exact hq r x ⟨qC3 ex hs (fun _ => qauv), e0, e1⟩ ex er
/-- pass, from a word's first letter on -/
theorem qWt {Q : Int32 → Prop} {a bd bk : Int32} (hl : len.toInt = n) (hn : n ≤ 600) (hb : tB n f b) (h : mS n b st a bd bk) (h0 : st.1 = 0) (ha : a.toInt = (sk n b st.2.2 : Nat)) (hq : ∀ x : Int32, mS n b (wE n b st) x bd bk → Q x) : quF len f a Q := by
  have hs : sk n b st.2.2 ≤ 600 := by
    obtain ⟨⟨q, e, hq6, es⟩, e0, e1⟩ := id h
    have := qNi (b := b) hq6 hn
    rw [es h0] at this; exact this
  exact qblb hl hn hb ha hs (fun x ex => hq x ⟨qC3 ex (qbiJ hs hn) (fun _ => rfl), fun _ => h.2.1 h0, fun d => absurd rfl d⟩)
theorem qaEc {Q : Int32 → Int32 → Int32 → NI → Prop} {nh a bd bk r4 r10 : Int32} {db : Nat → Int32} {NH : Nat} (hl : len.toInt = n) (hn : n ≤ 600) (hb : tB n f b) (m2 : NH ≤ 6) (h : mS n b (dbB n b NH st) a bd bk) (hv : (dbB n b NH st).1 = 0 → r4.toInt = nV n b st ∧ r10.toInt = nV n b (nS n b 0 ((NH : Int) - 1) st))
    (hq : ∀ (x bd2 bk2 : Int32) (db2 : NI), mS n b (dbC n b NH st) x bd2 bk2 → ((dbC n b NH st).1 = 0 → ∃ (r : Int32) (k : Nat), k < 36 ∧ (k : Int) = 6 * nV n b st + nV n b (nS n b 0 ((NH : Int) - 1) st) ∧ r.toInt = nV n b (dbB n b NH st) ∧ db2 = upd db k r) → Q x bd2 bk2 db2) : qxq len nh f Q a bd bk db r4 r10 := by
  refine qnZ hl hn hb h (by decide) (by decide) (fun r x16 x17 x18 c1 v1 => ?_)
  rw [t_0, qnP] at c1 v1
  have c1 : mS n b (dbC n b NH st) x16 x17 x18 := c1
  refine qnB c1 (fun z => ⟨fun d => absurd d (by first | decide | simp), fun _ x22 e22 x23 e23 => ?_⟩) (fun z => ⟨fun _ => hq _ _ _ _ c1 (fun w => absurd w z), fun d => absurd rfl d⟩)
  have z2 : (dbB n b NH st).1 = 0 := (qdE (lo := 0) (hi := 99) (st := dbB n b NH st) z).1
  have z3 := qWE z2
  have z4 : (nS n b 0 ((NH : Int) - 1) st).1 = 0 := (qdE (lo := 0) (hi := (NH : Int) - 1) (st := nS n b 0 ((NH : Int) - 1) st) z3).1
  obtain ⟨w1, w2⟩ := hv z2
  obtain ⟨-, g1, g2⟩ := qdE (lo := 0) (hi := (NH : Int) - 1) (st := st) z4
  obtain ⟨-, g3, g4⟩ := qdE (lo := 0) (hi := (NH : Int) - 1) (st := nS n b 0 ((NH : Int) - 1) st) z3
  have e1 : x22.toInt = 6 * r4.toInt := by rw [e22, qu8 (by rw [t_6]; omega) (by rw [t_6]; omega), t_6]
  have e2 : x23.toInt = 6 * r4.toInt + r10.toInt := by rw [e23, qap (by omega) (by omega), e1]
  refine ⟨qa6 (by omega) (by omega), fun f24 e24 => hq _ _ _ _ c1 (fun _ => ⟨r, x23.toNatClampNeg, ?_, ?_, v1 z, e24⟩)⟩
  · have := qkX (x := x23) (by omega); omega
  · have := qkX (x := x23) (by omega); omega
theorem qaZL {Q : Int32 → Int32 → Int32 → NI → Prop} {nh a bd bk : Int32} {db : Nat → Int32} {NH : Nat} (hl : len.toInt = n) (hn : n ≤ 600) (hb : tB n f b) (m1 : nh.toInt = NH) (m2 : NH ≤ 6) (h : mS n b st a bd bk)
    (hq : ∀ (x bd2 bk2 : Int32) (db2 : NI), mS n b (dbC n b NH st) x bd2 bk2 → ((dbC n b NH st).1 = 0 → ∃ (r : Int32) (k : Nat), k < 36 ∧ (k : Int) = 6 * nV n b st + nV n b (nS n b 0 ((NH : Int) - 1) st) ∧ r.toInt = nV n b (dbB n b NH st) ∧ db2 = upd db k r) → Q x bd2 bk2 db2) : qQc len nh f a bd bk db Q := by
  have en : (nh - 1).toInt = (NH : Int) - 1 := by rw [qqj (by omega), m1]
  refine qnZ hl hn hb h (by decide) (by rw [en]; omega) (fun r4 x1 x2 x3 c1 v1 => qFe hl hn hb c1 (fun r6 x5 c5 v5 => qnZ hl hn hb c5 (by decide) (by rw [en]; omega) (fun r10 x7 x8 x9 c2 v2 => ?_)))
  rw [t_0, en] at v1 v2 c2 v5
  have c2 : mS n b (dbA n b NH st) x7 x8 x9 := c2
  have v2 : (dbA n b NH st).1 = 0 → r10.toInt = nV n b (nS n b 0 ((NH : Int) - 1) st) := v2
  have vz : (dbA n b NH st).1 = 0 → (r4.toInt = nV n b st ∧ r10.toInt = nV n b (nS n b 0 ((NH : Int) - 1) st)) ∧ x5.toInt = (sk n b (nS n b 0 ((NH : Int) - 1) st).2.2 : Nat) := fun z => by
    have z1 := (qdE (lo := 0) (hi := (NH : Int) - 1) (st := nS n b 0 ((NH : Int) - 1) st) z).1
    exact ⟨⟨v1 z1, v2 z⟩, (v5 z1).1⟩
  refine qnB c2 (fun z => ⟨fun d => absurd d (by first | decide | simp), fun _ => ⟨fun g => ?_, fun g => ?_⟩⟩) (fun z => ⟨fun _ => ?_, fun d => absurd rfl d⟩)
  · obtain ⟨⟨w1, w2⟩, w3⟩ := vz z
    rw [qan] at g
    have e := qbeE (n := n) (b := b) (h := (NH : Int)) (st := st) (fun w => g (by omega))
    rw [← e] at c2
    exact qaEc hl hn hb m2 c2 (fun w => (vz (qWE w)).1) hq
  · obtain ⟨⟨w1, w2⟩, w3⟩ := vz z
    rw [qan] at g
    have e := qa4W (n := n) (b := b) (h := (NH : Int)) (st := st) (by omega)
    refine qKu (s := sk n b (nS n b 0 ((NH : Int) - 1) st).2.2) c2 (fun _ => w3) (by decide) (fun bd2 bk2 c => ?_)
    rw [t_2, ← e] at c
    exact qaEc hl hn hb m2 c (fun w => (vz (qWE w)).1) hq
  · rw [← qaO7 z] at c2
    exact qaEc hl hn hb m2 c2 (fun w => (vz (qWE w)).1) hq
end TM
end
section
/-! the reference's rows of a down, all of them -/
section TN
variable {n : Nat} {b : Nat → Int} {st : sT} {len : Int32} {f : Nat → Int32}
theorem qbk4 {Q : Int32 → Int32 → Int32 → NI → NI → Int32 → NI → Int32 → NI → Int32 → Prop} {a bd bk nx nh nf p1 : Int32} {db fx ha fo : Nat → Int32} {NF NH NX : Nat}
    (hl : len.toInt = n) (hn : n ≤ 600) (hb : tB n f b) (h : mS n b st a bd bk) (n1 : nf.toInt = NF) (n2 : NF ≤ 8) (m1 : nh.toInt = NH) (m2 : NH ≤ 6) (x1 : nx.toInt = NX) (x2 : NX ≤ 4) (hr : isR p1.toInt) (hf1 : p1.toInt = 212557 → NF ≠ 8) (hf2 : p1.toInt = 263749 → NH ≠ 6) (hf3 : p1.toInt = 6648 → NX ≠ 4)
    (q1 : p1.toInt = 212557 → ∀ (r s x bd2 bk2 n9 : Int32), mS n b (nS n b 0 30 (nS n b 0 30 st)) x bd2 bk2 → ((nS n b 0 30 (nS n b 0 30 st)).1 = 0 → r.toInt = nV n b st ∧ s.toInt = nV n b (nS n b 0 30 st)) → n9.toInt = ((NF + 1 : Nat) : Int) → Q x bd2 bk2 db fx nx ha nh (upd (upd fo (2 * NF) r) (2 * NF + 1) s) n9)
    (q2 : p1.toInt = 263749 → ∀ (r s x bd2 bk2 n9 : Int32), mS n b (nS n b 1 9 (nS n b 0 ((NF : Int) - 1) st)) x bd2 bk2 → ((nS n b 1 9 (nS n b 0 ((NF : Int) - 1) st)).1 = 0 → r.toInt = nV n b st ∧ s.toInt = nV n b (nS n b 0 ((NF : Int) - 1) st)) → n9.toInt = ((NH + 1 : Nat) : Int) → Q x bd2 bk2 db fx nx (upd (upd ha (2 * NH) r) (2 * NH + 1) s) n9 fo nf)
    (q3 : p1.toInt = 6648 → ∀ (r s x bd2 bk2 n9 : Int32), mS n b (nS n b 0 30 (nS n b 0 30 st)) x bd2 bk2 → ((nS n b 0 30 (nS n b 0 30 st)).1 = 0 → r.toInt = nV n b st ∧ s.toInt = nV n b (nS n b 0 30 st)) → n9.toInt = ((NX + 1 : Nat) : Int) → Q x bd2 bk2 db (upd (upd fx (2 * NX) r) (2 * NX + 1) s) n9 ha nh fo nf)
    (q4 : p1.toInt = 136276 → ∀ (x bd2 bk2 : Int32) (db2 : NI), mS n b (dbC n b NH st) x bd2 bk2 → ((dbC n b NH st).1 = 0 → ∃ (r : Int32) (k : Nat), k < 36 ∧ (k : Int) = 6 * nV n b st + nV n b (nS n b 0 ((NH : Int) - 1) st) ∧ r.toInt = nV n b (dbB n b NH st) ∧ db2 = upd db k r) → Q x bd2 bk2 db2 fx nx ha nh fo nf) : qLX len f a bd bk db fx nx ha nh fo nf p1 Q := by
  refine qa8o (fun r2 e2 => ⟨fun z2 => qa0p (fun r5 e5 => ⟨fun z5 => qbfc (fun r8 e8 => ⟨fun z8 => ?_, fun z8 x14 e14 => ?_⟩), fun z5 x28 e28 => ?_⟩), fun z2 x42 e42 => ?_⟩)
  · rw [qan] at z2 z5 z8
    have hw : p1.toInt = 136276 := by
      rcases hr with w | w | w | w <;> omega
    exact qaZL hl hn hb m1 m2 h (q4 hw)
  · have hw : p1.toInt = 6648 := by rw [z8]; exact e8
    have hx := hf3 hw
    have i1 : x14.toInt = ((2 * NX : Nat) : Int) := by rw [e14]; exact q0N x1 (by omega)
    refine qnZ hl hn hb h (by decide) (by decide) (fun r18 x15 x16 x17 c1 v1 => ⟨qa6 (by omega) (by omega), fun f19 e19 x20 e20 x21 e21 => qnZ hl hn hb c1 (by decide) (by decide) (fun r25 x22 x23 x24 c2 v2 => ?_)⟩)
    have i2 : x21.toInt = ((2 * NX + 1 : Nat) : Int) := by rw [e21]; exact qah1 (by rw [e20]; exact q0N x1 (by omega)) (by omega)
    refine ⟨qa6 (by omega) (by omega), fun f26 e26 x27 e27 => ?_⟩
    rw [t_0, qcc] at v1 v2 c2
    rw [qas i1] at e19
    rw [qas i2, e19] at e26
    rw [e26]
    exact q3 hw r18 r25 x22 x23 x24 x27 c2 (fun z => ⟨v1 (qdE (lo := 0) (hi := 30) (st := nS n b 0 30 st) z).1, v2 z⟩) (by rw [e27, qca (by omega), x1]; omega)
  · have hw : p1.toInt = 263749 := by rw [z5]; exact e5
    have hx := hf2 hw
    have en : (nf - 1).toInt = (NF : Int) - 1 := by rw [qqj (by omega), n1]
    have i1 : x28.toInt = ((2 * NH : Nat) : Int) := by rw [e28]; exact q0N m1 (by omega)
    refine qnZ hl hn hb h (by decide) (by rw [en]; omega) (fun r18 x15 x16 x17 c1 v1 => ⟨qa6 (by omega) (by omega), fun f19 e19 x20 e20 x21 e21 => qnZ hl hn hb c1 (by decide) (by decide) (fun r25 x22 x23 x24 c2 v2 => ?_)⟩)
    have i2 : x21.toInt = ((2 * NH + 1 : Nat) : Int) := by rw [e21]; exact qah1 (by rw [e20]; exact q0N m1 (by omega)) (by omega)
    refine ⟨qa6 (by omega) (by omega), fun f26 e26 x27 e27 => ?_⟩
    rw [t_0, en] at v1
    rw [t_0, en, t_1, t_9] at v2 c2
    rw [qas i1] at e19
    rw [qas i2, e19] at e26
    rw [e26]
    exact q2 hw r18 r25 x22 x23 x24 x27 c2 (fun z => ⟨v1 (qdE (lo := 1) (hi := 9) (st := nS n b 0 ((NF : Int) - 1) st) z).1, v2 z⟩) (by rw [e27, qca (by omega), m1]; omega)
  · have hw : p1.toInt = 212557 := by rw [z2]; exact e2
    have hx := hf1 hw
    have i1 : x42.toInt = ((2 * NF : Nat) : Int) := by rw [e42]; exact q0N n1 (by omega)
    refine qnZ hl hn hb h (by decide) (by decide) (fun r18 x15 x16 x17 c1 v1 => ⟨qa6 (by omega) (by omega), fun f19 e19 x20 e20 x21 e21 => qnZ hl hn hb c1 (by decide) (by decide) (fun r25 x22 x23 x24 c2 v2 => ?_)⟩)
    have i2 : x21.toInt = ((2 * NF + 1 : Nat) : Int) := by rw [e21]; exact qah1 (by rw [e20]; exact q0N n1 (by omega)) (by omega)
    refine ⟨qa6 (by omega) (by omega), fun f26 e26 x27 e27 => ?_⟩
    rw [t_0, qcc] at v1 v2 c2
    rw [qas i1] at e19
    rw [qas i2, e19] at e26
    rw [e26]
    exact q1 hw r18 r25 x22 x23 x24 x27 c2 (fun z => ⟨v1 (qdE (lo := 0) (hi := 30) (st := nS n b 0 30 st) z).1, v2 z⟩) (by rw [e27, qca (by omega), n1]; omega)
abbrev dQ := Int32 → Int32 → NI → Int32 → Int32 → Int32 → Int32 → Int32 → Int32 → Int32 → Int32 → Int32 → NI → Int32 → Int32 → Int32 → Int32 → NI → NI → NI → Int32 → Int32 → Int32 → Int32 → Int32 → NI → NI → NI → NI → NI → Prop
/-- a row that is too many -/
theorem qbg3 {i NF NH NX : Nat} {F H G D : Nat → Int} (hr : isR (pw n b (sk n b st.2.2))) (hf : i = 60 ∨ ((pw n b (sk n b st.2.2) = 212557 ∧ NF = 8) ∨ (pw n b (sk n b st.2.2) = 263749 ∧ NH = 6) ∨ (pw n b (sk n b st.2.2) = 6648 ∧ NX = 4))) : qXO n b i st NF NH NX F H G D = (fS 3 (sk n b st.2.2) st, NF, NH, NX, F, H, G, D) := by
  rcases hr with w | w | w | w
  · rw [qaD0 w, if_pos (by omega)]
  · rw [qaCd w, if_pos (by omega)]
  · rw [qaUh w, if_pos (by omega)]
  · rw [qaxH w, if_pos (by omega)]
theorem qa4R {Q : dQ} {th tp fA op fm hm0 xm cd bo wo im rs : Int32} {rf fo0 ha0 fx0 bk0 nw : Nat → Int32} {R : dT} (hl : len.toInt = n) (hn : n ≤ 600) (hb : tB n f b)
    (hq : ∀ (a bd bk nf nh nx : Int32) (db fx ha fo : NI), mS n b R.1 a bd bk → mD R nf nh nx db fx ha fo → qru f Q th rf tp fA len a bd op nf nh nx db bk fm hm0 xm fo0 ha0 fx0 cd bo wo im rs bk0 nw fx ha fo) :
    ∀ (k : Nat) (a bd bk nf nh nx : Int32) (db fx ha fo : NI) (l2 : Int32) (i : Nat) (d : dT), mS n b d.1 a bd bk → mD d nf nh nx db fx ha fo → l2.toInt = i → i ≤ 61 → (d.1.1 = 0 → i ≤ 60) → 61 - i < k → dRun n b (61 - i) i d = R → qeP f Q k th rf tp fA len a bd op nf nh nx db bk fm hm0 xm fo0 ha0 fx0 cd bo wo im rs bk0 nw fx ha fo l2 := by
  intro k
  induction k with
  | zero => intro a bd bk nf nh nx db fx ha fo l2 i d hm hd h1 h2 h3 h4; omega
  | succ k ih =>
    intro a bd bk nf nh nx db fx ha fo l2 i d hm hd h1 h2 h3 h4 hR
    refine qnB hm (fun h0 => ⟨fun z => absurd z (by first | decide | simp), fun _ => ?_⟩) (fun h0 => ⟨fun _ => ?_, fun z => absurd rfl z⟩)
    · have h3 := h3 h0
      refine qaw7 hl hn hb hm h0 (fun w y cy => ⟨fun z => absurd z (by first | decide | simp), fun _ => ?_⟩) (fun w y cy => ⟨fun _ => ?_, fun z => absurd rfl z⟩)
      · obtain ⟨st, NF, NH, NX, F, H, G, D⟩ := d
        have h0 : st.1 = 0 := h0
        have w : sk n b st.2.2 < n := w
        have cy : mS n b st y bd bk := cy
        have hd : (nf.toInt = NF ∧ NF ≤ 8) ∧ (nh.toInt = NH ∧ NH ≤ 6) ∧ (nx.toInt = NX ∧ NX ≤ 4) ∧ (st.1 = 0 → pm (2 * NF) fo F ∧ pm (2 * NH) ha H ∧ pm (2 * NX) fx G ∧ pm 36 db D) := hd
        obtain ⟨⟨n1, n2⟩, ⟨m1, m2⟩, ⟨x1, x2⟩, hr⟩ := hd
        obtain ⟨r1, r2, r3, r4⟩ := hr h0
        rw [show 61 - i = (61 - (i + 1)) + 1 by omega, qaXn h0 w] at hR
        have bad : ∀ (kd : Int) (a bd bk : Int32), kd ≠ 0 → qXO n b i st NF NH NX F H G D = (fS kd (sk n b st.2.2) st, NF, NH, NX, F, H, G, D) → mS n b (fS kd (sk n b st.2.2) st) a bd bk → ∀ l3 : Int32, qtr f Q (fun jbd ja9 jgt jgo jbx jcP jb8 jbK jg7 jgg jg8 jil jbh jaN jaC jbw jbv jdH jcy jbD jh9 jhQ ji3 jcn jgv jb2 jjB ji9 ji8 l2 => qeP f Q k jbd ja9 jgt jgo jbx jcP jb8 jbK jg7 jgg jg8 jil jbh jaN jaC jbw jbv jdH jcy jbD jh9 jhQ ji3 jcn jgv jb2 jjB ji9 ji8 l2) th rf tp fA len a bd op nf nh nx db bk fm hm0 xm fo0 ha0 fx0 cd bo wo im rs bk0 nw fx ha fo l2 l3 := fun kd a bd bk hk e c l3 => by
          rw [e, q5c (Or.inl (by rw [q8e h0]; exact hk))] at hR
          refine qnB c (fun z => absurd (by rw [q8e h0] at z; exact z) hk) (fun z => ⟨fun g => absurd rfl g, fun _ => hq _ _ _ _ _ _ _ _ _ _ (by rw [← hR]; exact c) ?_⟩)
          rw [← hR]
          exact ⟨⟨n1, n2⟩, ⟨m1, m2⟩, ⟨x1, x2⟩, fun g => absurd (by rw [q8e h0] at g; exact g) hk⟩
        refine q1S hl hn hb cy h0 (fun r23 x22 c22 e22 e23 => qbhy (fun z24 => ⟨fun _ => ?_, fun z => absurd z (by first | decide | simp)⟩) (fun z24 => ⟨fun z => absurd rfl z, fun _ => ?_⟩))
        · have full : (i = 60 ∨ ((pw n b (sk n b st.2.2) = 212557 ∧ NF = 8) ∨ (pw n b (sk n b st.2.2) = 263749 ∧ NH = 6) ∨ (pw n b (sk n b st.2.2) = 6648 ∧ NX = 4))) → qwv f Q (fun jbd ja9 jgt jgo jbx jcP jb8 jbK jg7 jgg jg8 jil jbh jaN jaC jbw jbv jdH jcy jbD jh9 jhQ ji3 jcn jgv jb2 jjB ji9 ji8 l2 => qeP f Q k jbd ja9 jgt jgo jbx jcP jb8 jbK jg7 jgg jg8 jil jbh jaN jaC jbw jbv jdH jcy jbD jh9 jhQ ji3 jcn jgv jb2 jjB ji9 ji8 l2) th rf tp fA len x22 bd op nf nh nx db bk fm hm0 xm fo0 ha0 fx0 cd bo wo im rs bk0 nw fx ha fo l2 r23 := fun hf =>
            qKu (s := sk n b st.2.2) c22 (fun _ => e22) (by decide) (fun bd2 bk2 c => bad 3 _ _ _ (by decide) (qbg3 (by rw [← e23]; exact z24) hf) (by rw [t_3] at c; exact c) r23)
          refine ⟨fun g => full (Or.inl (by rw [qan, qlh] at g; omega)), fun g => ?_⟩
          rw [qan, qlh] at g
          refine qbbs (fun hf => ⟨fun z => absurd z (by first | decide | simp), fun _ => full (Or.inr (by rw [← e23]; omega))⟩) (fun hf => ⟨fun _ => ?_, fun z => absurd rfl z⟩)
          refine qnB c22 (fun _ => ⟨fun _ => ?_, fun z => absurd z (by first | decide | simp)⟩) (fun z => absurd h0 z)
          refine qWt hl hn hb c22 h0 e22 (fun x51 c51 => ?_)
          have nx1 : ∀ x65 : Int32, x65 = l2 + 1 → x65.toInt = ((i + 1 : Nat) : Int) := fun x65 e => by rw [e, qca (by omega), h1]; omega
          refine qbk4 hl hn hb c51 n1 n2 m1 m2 x1 x2 z24 (by omega) (by omega) (by omega) (fun hw r s x bd2 bk2 n9 c v e9 => ?_) (fun hw r s x bd2 bk2 n9 c v e9 => ?_) (fun hw r s x bd2 bk2 n9 c v e9 => ?_) (fun hw x bd2 bk2 db2 c v => ?_)
          · rw [e23] at hw
            rw [qaD0 hw, if_neg (by omega)] at hR
            refine qt9 hl hn hb c (by decide) (fun x62 x63 x64 c9 x65 e65 => ih _ _ _ _ _ _ _ _ _ _ x65 (i + 1) _ ?_ ?_ (nx1 x65 e65) (by omega) (fun _ => by omega) (by omega) hR)
            · rw [t_59] at c9; exact c9
            · exact ⟨⟨e9, by show NF + 1 ≤ 8; omega⟩, ⟨m1, m2⟩, ⟨x1, x2⟩, fun z => ⟨qaXi r1 (v (qzk z).2).1 (v (qzk z).2).2, r2, r3, r4⟩⟩
          · rw [e23] at hw
            rw [qaCd hw, if_neg (by omega)] at hR
            refine qt9 hl hn hb c (by decide) (fun x62 x63 x64 c9 x65 e65 => ih _ _ _ _ _ _ _ _ _ _ x65 (i + 1) _ ?_ ?_ (nx1 x65 e65) (by omega) (fun _ => by omega) (by omega) hR)
            · rw [t_59] at c9; exact c9
            · exact ⟨⟨n1, n2⟩, ⟨e9, by show NH + 1 ≤ 6; omega⟩, ⟨x1, x2⟩, fun z => ⟨r1, qaXi r2 (v (qzk z).2).1 (v (qzk z).2).2, r3, r4⟩⟩
          · rw [e23] at hw
            rw [qaUh hw, if_neg (by omega)] at hR
            refine qt9 hl hn hb c (by decide) (fun x62 x63 x64 c9 x65 e65 => ih _ _ _ _ _ _ _ _ _ _ x65 (i + 1) _ ?_ ?_ (nx1 x65 e65) (by omega) (fun _ => by omega) (by omega) hR)
            · rw [t_59] at c9; exact c9
            · exact ⟨⟨n1, n2⟩, ⟨m1, m2⟩, ⟨e9, by show NX + 1 ≤ 4; omega⟩, fun z => ⟨r1, r2, qaXi r3 (v (qzk z).2).1 (v (qzk z).2).2, r4⟩⟩
          · rw [e23] at hw
            rw [qaxH hw, if_neg (by omega)] at hR
            refine qt9 hl hn hb c (by decide) (fun x62 x63 x64 c9 x65 e65 => ih _ _ _ _ _ _ _ _ _ _ x65 (i + 1) _ ?_ ?_ (nx1 x65 e65) (by omega) (fun _ => by omega) (by omega) hR)
            · rw [t_59] at c9; exact c9
            · refine ⟨⟨n1, n2⟩, ⟨m1, m2⟩, ⟨x1, x2⟩, fun z => ⟨r1, r2, r3, ?_⟩⟩
              obtain ⟨r, kk, k1, k2, k3, k4⟩ := v (qaSl z).1
              rw [k4, ← k2, Int.toNat_natCast]
              exact qa1e r4 k3
        · rw [e23] at z24
          refine qKu (s := sk n b st.2.2) c22 (fun _ => e22) (by decide) (fun bd2 bk2 c => bad 1 _ _ _ (by decide) (qaZG (fun z => z24 (Or.inl z)) (fun z => z24 (Or.inr (Or.inl z))) (fun z => z24 (Or.inr (Or.inr (Or.inl z)))) (fun z => z24 (Or.inr (Or.inr (Or.inr z))))) (by rw [t_1] at c; exact c) r23)
      · rw [q5c (Or.inr w)] at hR
        rw [hR] at cy hd
        exact hq _ _ _ _ _ _ _ _ _ _ cy hd
    · rw [q5c (Or.inl h0)] at hR
      rw [hR] at hm hd
      exact hq _ _ _ _ _ _ _ _ _ _ hm hd
end TN
end
