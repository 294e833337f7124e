/-! feeding: the bytes that both tapes hold -/
def sh8 (v : Int32) (i : Nat) : Int32 := v >>> (Int32.ofNat (24 - 8 * i) &&& 31)
def cb (v : Int32) (i : Nat) : Int32 := vp_nar .byte ((sh8 v i).toInt8.toInt32)
def mb (v : Int32) (i : Nat) : Int32 := (sh8 v i) &&& 255
theorem t_and255 {y : Int32} : 0 ≤ (y &&& 255).toInt ∧ (y &&& 255).toInt < 256 ∧ (y &&& 255).toInt = y.toInt % 256 := by
  have h : (y &&& 255).toBitVec.toNat = y.toBitVec.toNat % 256 := by
    rw [t_andn]
    show y.toBitVec.toNat &&& 255 = _
    exact Nat.and_two_pow_sub_one_eq_mod _ 8
  have e := t_ofn (x := y &&& 255) (by rw [h]; omega)
  have hy : y.toInt = (y.toBitVec.toNat : Int) ∨ y.toInt = (y.toBitVec.toNat : Int) - 4294967296 := by
    have h2 : y.toInt = y.toBitVec.toInt := rfl
    rw [h2, BitVec.toInt_eq_toNat_cond]
    by_cases c : 2 * y.toBitVec.toNat < 2 ^ 32
    · rw [if_pos c]; exact Or.inl rfl
    · rw [if_neg c]; exact Or.inr rfl
  rw [h] at e
  omega
theorem cb_mb (v : Int32) (i : Nat) : cR (cb v i) (mb v i).toInt := by
  unfold cb mb
  generalize sh8 v i = y
  obtain ⟨h1, h2, h3⟩ := t_and255 (y := y)
  rw [vp_nar_byte]
  have e1 : (y.toInt8.toInt32).toInt = y.toInt.bmod 256 := by rw [Int8.toInt_toInt32, Int32.toInt_toInt8]
  have e2 : ((y.toInt8.toInt32).toInt8.toInt32).toInt = (y.toInt.bmod 256).bmod 256 := by rw [Int8.toInt_toInt32, Int32.toInt_toInt8, e1]
  rw [Int.bmod_bmod] at e2
  unfold cR
  rw [e2]
  have e3 : y.toInt.bmod 256 = if y.toInt % 256 < 128 then y.toInt % 256 else y.toInt % 256 - 256 := rfl
  rw [e3]
  by_cases c : y.toInt % 256 < 128
  · rw [if_pos c]; exact ⟨h1, Or.inl h3.symm⟩
  · rw [if_neg c]; exact ⟨h1, Or.inr ⟨by omega, by omega⟩⟩
theorem mb_mb (v : Int32) (i : Nat) : cR (mb v i) (mb v i).toInt := ⟨(t_and255 (y := sh8 v i)).1, Or.inl rfl⟩
def w5 (a b c d e : Int32) (k : Nat) : Int32 := if k = 0 then a else if k = 1 then b else if k = 2 then c else if k = 3 then d else e
theorem x_put {Q : (Nat → Int32) → Int32 → Prop} {v : Int32} {p : Nat} {f0 : Nat → Int32} (hp : p ≤ 596) (hq : ∀ (f : Nat → Int32) (x : Int32), x.toInt = ((p + 4 : Nat) : Int) → (∀ j : Nat, f j = if p ≤ j ∧ j < p + 4 then cb v (j - p) else f0 j) → Q f x) :
    ∀ (k : Nat) (f : Nat → Int32) (fi sh : Int32) (i : Nat), i ≤ 4 → fi.toInt = ((p + i : Nat) : Int) → sh.toInt = 24 - 8 * (i : Int) → (∀ j : Nat, f j = if p ≤ j ∧ j < p + i then cb v (j - p) else f0 j) → 4 - i < k → wl_X8_put_3 Q k f fi v sh := by
  intro k
  induction k with
  | zero => intro f fi sh i h1 h2 h3 h4 h5; omega
  | succ k ih =>
    intro f fi sh i h1 h2 h3 h4 h5
    refine ⟨fun c => ?_, fun c => ⟨fun c2 => ?_, fun c2 x3 e3 => ⟨t_in (by omega) (by rw [t_lt, t_0] at c; omega), fun f4 e4 x5 e5 x6 e6 => ?_⟩⟩⟩
    · rw [t_lt, t_0] at c
      have ei : i = 4 := by omega
      rw [ei] at h2 h4
      exact hq f fi h2 h4
    · rw [t_lt, t_0] at c
      rw [t_le, t_600] at c2
      omega
    · rw [t_lt, t_0] at c
      have hi : i < 4 := by omega
      have a5 : x5.toInt = ((p + (i + 1) : Nat) : Int) := by rw [e5, t_inc (by omega), h2]; omega
      have a6 : x6.toInt = 24 - 8 * ((i + 1 : Nat) : Int) := by rw [e6, t_add (by rw [t_m8]; omega) (by rw [t_m8]; omega), t_m8]; omega
      refine ih f4 x5 x6 (i + 1) (by omega) a5 a6 (fun j => ?_) (by omega)
      rw [e4, t_clamp h2]
      have es : sh = Int32.ofNat (24 - 8 * i) := by
        rw [t_eq, h3, Int32.toInt_ofNat_of_lt (by omega)]; omega
      by_cases z : j = p + i
      · rw [z, pk_us, if_pos ⟨by omega, by omega⟩, e3, es, show p + i - p = i by omega]; rfl
      · rw [pk_un z, h4 j]
        by_cases z2 : p ≤ j ∧ j < p + i
        · rw [if_pos z2, if_pos ⟨z2.1, by omega⟩]
        · rw [if_neg z2, if_neg (by omega)]
theorem x_X8_put {Q : (Nat → Int32) → Int32 → Prop} {v fi : Int32} {f : Nat → Int32} {p : Nat} (h0 : fi.toInt = p) (hp : p ≤ 596) (hq : ∀ (g : Nat → Int32) (x : Int32), x.toInt = ((p + 4 : Nat) : Int) → (∀ j : Nat, g j = if p ≤ j ∧ j < p + 4 then cb v (j - p) else f j) → Q g x) : wq_X8_put f fi v Q :=
  ⟨5, x_put hp hq 5 f fi 24 0 (by omega) h0 (by decide) (fun j => by rw [if_neg (by omega)]) (by omega)⟩
/-- the bytes behind a feeding -/
def fB (p : Nat) (a b c d e : Int32) (t : Nat → Int) : Nat → Int := fun j => if p ≤ j ∧ j < p + 20 then (mb (w5 a b c d e ((j - p) / 4)) ((j - p) % 4)).toInt else t j
theorem x_X10_feed {f : Nat → Int32} {fi a b c d e : Int32} {p : Nat} {t : Nat → Int} {Q : Int32 → (Nat → Int32) → Int32 → Prop} (h0 : fi.toInt = p) (h1 : p ≤ 600) (ht : tB p f t)
    (q1 : p ≤ 580 → ∀ (r : Int32) (g : Nat → Int32), r.toInt = ((p + 20 : Nat) : Int) → tB (p + 20) g (fB p a b c d e t) → Q r g r) (q0 : 580 < p → Q (-1) f fi) : wq_X10_feed f fi a b c d e Q := by
  have e20 : (fi + 20).toInt = fi.toInt + 20 := by rw [t_add (by rw [t_20]; omega) (by rw [t_20]; omega), t_20]
  refine ⟨fun c0 => ⟨fun c => absurd rfl c, fun _ => q0 ?_⟩, fun c0 => ⟨fun _ => ?_, fun c => absurd c (by decide)⟩⟩
  · rw [t_lt, t_600, e20] at c0; omega
  · rw [t_lt, t_600, e20] at c0
    refine x_X8_put h0 (by omega) (fun g1 x1 y1 z1 => x_X8_put y1 (by omega) (fun g2 x2 y2 z2 => x_X8_put y2 (by omega) (fun g3 x3 y3 z3 => x_X8_put y3 (by omega) (fun g4 x4 y4 z4 => x_X8_put y4 (by omega) (fun g5 x5 y5 z5 => q1 (by omega) x5 g5 (by rw [y5]) (fun j hj => ?_))))))
    rw [z5 j, z4 j, z3 j, z2 j, z1 j]
    unfold fB
    by_cases k0 : p ≤ j
    · rw [if_pos (⟨k0, hj⟩ : p ≤ j ∧ j < p + 20)]
      by_cases k5 : p + 4 + 4 + 4 + 4 ≤ j
      · rw [if_pos ⟨k5, by omega⟩, show (j - p) / 4 = 4 by omega, show (j - p) % 4 = j - (p + 4 + 4 + 4 + 4) by omega]
        exact cb_mb e _
      rw [if_neg (by omega)]
      by_cases k4 : p + 4 + 4 + 4 ≤ j
      · rw [if_pos ⟨k4, by omega⟩, show (j - p) / 4 = 3 by omega, show (j - p) % 4 = j - (p + 4 + 4 + 4) by omega]
        exact cb_mb d _
      rw [if_neg (by omega)]
      by_cases k3 : p + 4 + 4 ≤ j
      · rw [if_pos ⟨k3, by omega⟩, show (j - p) / 4 = 2 by omega, show (j - p) % 4 = j - (p + 4 + 4) by omega]
        exact cb_mb c _
      rw [if_neg (by omega)]
      by_cases k2 : p + 4 ≤ j
      · rw [if_pos ⟨k2, by omega⟩, show (j - p) / 4 = 1 by omega, show (j - p) % 4 = j - (p + 4) by omega]
        exact cb_mb b _
      rw [if_neg (by omega), if_pos ⟨k0, by omega⟩, show (j - p) / 4 = 0 by omega, show (j - p) % 4 = j - p by omega]
      exact cb_mb a _
    · rw [if_neg (by omega), if_neg (by omega), if_neg (by omega), if_neg (by omega), if_neg (by omega), if_neg (by omega)]
      exact ht j (by omega)
theorem y_fl {Q : Int32 → Int32 → (Nat → Int32) → Int32 → Prop} {a b c d e th : Int32} {p : Nat} {f0 : Nat → Int32} (hp : p ≤ 580) (hq : ∀ (g : Nat → Int32) (x : Int32), x.toInt = ((p + 20 : Nat) : Int) → (∀ j : Nat, g j = if p ≤ j ∧ j < p + 20 then mb (w5 a b c d e ((j - p) / 4)) ((j - p) % 4) else f0 j) → Q x th g x) :
    ∀ (k : Nat) (f : Nat → Int32) (tp l6 : Int32) (i : Nat), i ≤ 20 → l6.toInt = i → tp.toInt = ((p + i : Nat) : Int) → (∀ j : Nat, f j = if p ≤ j ∧ j < p + i then mb (w5 a b c d e ((j - p) / 4)) ((j - p) % 4) else f0 j) → 20 - i < k → wl_X11_feed_23 Q k th f tp a b c d e l6 := by
  intro k
  induction k with
  | zero => intro f tp l6 i h1 h2 h3 h4 h5; omega
  | succ k ih =>
    intro f tp l6 i h1 h2 h3 h4 h5
    have go : ∀ s0 : Int32, i < 20 → s0 = w5 a b c d e (i / 4) → wb_X11_feed_76 Q (fun v0_thrown f0_tape v0_taped l1 l2 l3 l4 l5 l6 => wl_X11_feed_23 Q k v0_thrown f0_tape v0_taped l1 l2 l3 l4 l5 l6) th f tp a b c d e l6 s0 := fun s0 hi es x7 e7 x8 e8 => by
      have d4 : (l6 / 4).toInt = ((i / 4 : Nat) : Int) := by
        have hc : l6 = 0 ∨ l6 = 1 ∨ l6 = 2 ∨ l6 = 3 ∨ l6 = 4 ∨ l6 = 5 ∨ l6 = 6 ∨ l6 = 7 ∨ l6 = 8 ∨ l6 = 9 ∨ l6 = 10 ∨ l6 = 11 ∨ l6 = 12 ∨ l6 = 13 ∨ l6 = 14 ∨ l6 = 15 ∨ l6 = 16 ∨ l6 = 17 ∨ l6 = 18 ∨ l6 = 19 := by
          have hh : ∀ y : Fin 20, (Int32.ofNat y.val) = 0 ∨ (Int32.ofNat y.val) = 1 ∨ (Int32.ofNat y.val) = 2 ∨ (Int32.ofNat y.val) = 3 ∨ (Int32.ofNat y.val) = 4 ∨ (Int32.ofNat y.val) = 5 ∨ (Int32.ofNat y.val) = 6 ∨ (Int32.ofNat y.val) = 7 ∨ (Int32.ofNat y.val) = 8 ∨ (Int32.ofNat y.val) = 9 ∨ (Int32.ofNat y.val) = 10 ∨ (Int32.ofNat y.val) = 11 ∨ (Int32.ofNat y.val) = 12 ∨ (Int32.ofNat y.val) = 13 ∨ (Int32.ofNat y.val) = 14 ∨ (Int32.ofNat y.val) = 15 ∨ (Int32.ofNat y.val) = 16 ∨ (Int32.ofNat y.val) = 17 ∨ (Int32.ofNat y.val) = 18 ∨ (Int32.ofNat y.val) = 19 := by decide
          have e := hh ⟨i, hi⟩
          rw [show l6 = Int32.ofNat i by rw [t_eq, h2, Int32.toInt_ofNat_of_lt (by omega)]]
          exact e
        have hd : ∀ y : Fin 20, ((Int32.ofNat y.val) / 4).toInt = ((y.val / 4 : Nat) : Int) := by decide
        rw [show l6 = Int32.ofNat i by rw [t_eq, h2, Int32.toInt_ofNat_of_lt (by omega)]]
        exact hd ⟨i, hi⟩
      have m4 : (l6 / 4 * 4).toInt = ((i / 4 * 4 : Nat) : Int) := by rw [t_mul (by rw [t_4]; omega) (by rw [t_4]; omega), d4, t_4]; omega
      have a7 : x7.toInt = ((i % 4 : Nat) : Int) := by rw [e7, t_sub (by omega) (by omega), m4, h2]; omega
      have m8 : (8 * x7).toInt = 8 * x7.toInt := by rw [t_mul (by rw [t_8]; omega) (by rw [t_8]; omega), t_8]
      have s24 : (24 - 8 * x7 : Int32) = Int32.ofNat (24 - 8 * (i % 4)) := by
        rw [t_eq, t_sub (by rw [t_24, m8]; omega) (by rw [t_24, m8]; omega), t_24, m8, Int32.toInt_ofNat_of_lt (by omega)]; omega
      refine ⟨t_in (by omega) (by omega), fun f9 e9 x10 e10 x11 e11 => ?_⟩
      have a10 : x10.toInt = ((p + (i + 1) : Nat) : Int) := by rw [e10, t_inc (by omega), h3]; omega
      have a11 : x11.toInt = ((i + 1 : Nat) : Int) := by rw [e11, t_inc (by omega), h2]; omega
      refine ih f9 x10 x11 (i + 1) (by omega) a11 a10 (fun j => ?_) (by omega)
      rw [e9, t_clamp h3]
      by_cases z : j = p + i
      · rw [z, pk_us, if_pos ⟨by omega, by omega⟩, show p + i - p = i by omega, e8, s24, es]; rfl
      · rw [pk_un z, h4 j]
        by_cases z2 : p ≤ j ∧ j < p + i
        · rw [if_pos z2, if_pos ⟨z2.1, by omega⟩]
        · rw [if_neg z2, if_neg (by omega)]
    have wv : ∀ q : Nat, i / 4 = q → w5 a b c d e (i / 4) = w5 a b c d e q := fun q hq => by rw [hq]
    refine ⟨fun c => ?_, fun c => ⟨fun c4 => ⟨fun c8 => ⟨fun c12 => ⟨fun c16 => ?_, fun c16 => ?_⟩, fun c12 => ?_⟩, fun c8 => ?_⟩, fun c4 => ?_⟩⟩
    · rw [t_le, t_20] at c
      have ei : i = 20 := by omega
      rw [ei] at h3 h4
      exact hq f tp h3 h4
    · rw [t_le, t_20] at c
      rw [t_le, t_16] at c16
      exact go _ (by omega) (wv 4 (by omega)).symm
    · rw [t_le, t_12] at c12
      rw [t_le, t_16] at c16
      exact go _ (by omega) (wv 3 (by omega)).symm
    · rw [t_le, t_8] at c8
      rw [t_le, t_12] at c12
      exact go _ (by omega) (wv 2 (by omega)).symm
    · rw [t_le, t_4] at c4
      rw [t_le, t_8] at c8
      exact go _ (by omega) (wv 1 (by omega)).symm
    · rw [t_le, t_4] at c4
      exact go _ (by omega) (wv 0 (by omega)).symm
theorem y_X11_feed {f : Nat → Int32} {th tp a b c d e : Int32} {p : Nat} {t : Nat → Int} {Q : Int32 → Int32 → (Nat → Int32) → Int32 → Prop} (h0 : tp.toInt = p) (h1 : p ≤ 600) (ht : tB p f t)
    (q1 : p ≤ 580 → ∀ (r : Int32) (g : Nat → Int32), r.toInt = ((p + 20 : Nat) : Int) → tB (p + 20) g (fB p a b c d e t) → Q r 0 g r) (q0 : 580 < p → Q (-1) 0 f tp) : wq_X11_feed th f tp a b c d e Q := by
  have e20 : (tp + 20).toInt = tp.toInt + 20 := by rw [t_add (by rw [t_20]; omega) (by rw [t_20]; omega), t_20]
  refine ⟨fun c0 => ⟨21, y_fl (by rw [t_le, t_600, e20] at c0; omega) (fun g x ex hg => q1 (by rw [t_le, t_600, e20] at c0; omega) x g ex (fun j hj => ?_)) 21 f tp 0 0 (by omega) t_0 h0 (fun j => by rw [if_neg (by omega)]) (by omega)⟩, fun c0 => q0 (by rw [t_le, t_600, e20] at c0; omega)⟩
  rw [hg j]
  unfold fB
  by_cases k0 : p ≤ j
  · rw [if_pos ⟨k0, hj⟩, if_pos ⟨k0, hj⟩]
    exact mb_mb _ _
  · rw [if_neg (by omega), if_neg (by omega)]
    exact ht j (by omega)
