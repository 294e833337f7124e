section
/-! what a down's text without a fault tells is within its bounds -/
def dOk (d : dT) : Prop := (d.2.1 ≤ 8 ∧ d.2.2.1 ≤ 6 ∧ d.2.2.2.1 ≤ 4) ∧ (∀ j : Nat, j < 2 * d.2.1 → 0 ≤ d.2.2.2.2.1 j ∧ d.2.2.2.2.1 j ≤ 30) ∧ (∀ j : Nat, j < d.2.2.1 → 0 ≤ d.2.2.2.2.2.1 (2 * j) ∧ d.2.2.2.2.2.1 (2 * j) < d.2.1 ∧ 1 ≤ d.2.2.2.2.2.1 (2 * j + 1) ∧ d.2.2.2.2.2.1 (2 * j + 1) ≤ 9) ∧ (∀ j : Nat, j < 2 * d.2.2.2.1 → 0 ≤ d.2.2.2.2.2.2.1 j ∧ d.2.2.2.2.2.2.1 j ≤ 30) ∧ (∀ x y : Nat, x < 6 → y < 6 → 0 ≤ d.2.2.2.2.2.2.2 (6 * x + y) ∧ d.2.2.2.2.2.2.2 (6 * x + y) ≤ 99 ∧ (d.2.2.2.2.2.2.2 (6 * x + y) ≠ 0 → x < d.2.2.1 ∧ y < d.2.2.1 ∧ x ≠ y))
section TO
variable {n : Nat} {b : Nat → Int} {st : sT}
theorem qbcb {i NF NH NX : Nat} {F H G D : Nat → Int} (h0 : st.1 = 0) (h : dOk (st, NF, NH, NX, F, H, G, D)) (hz : (qXO n b i st NF NH NX F H G D).1.1 = 0) : dOk (qXO n b i st NF NH NX F H G D) := by
  have h : (NF ≤ 8 ∧ NH ≤ 6 ∧ NX ≤ 4) ∧ (∀ j : Nat, j < 2 * NF → 0 ≤ F j ∧ F j ≤ 30) ∧ (∀ j : Nat, j < NH → 0 ≤ H (2 * j) ∧ H (2 * j) < NF ∧ 1 ≤ H (2 * j + 1) ∧ H (2 * j + 1) ≤ 9) ∧ (∀ j : Nat, j < 2 * NX → 0 ≤ G j ∧ G j ≤ 30) ∧ (∀ x y : Nat, x < 6 → y < 6 → 0 ≤ D (6 * x + y) ∧ D (6 * x + y) ≤ 99 ∧ (D (6 * x + y) ≠ 0 → x < NH ∧ y < NH ∧ x ≠ y)) := h
  obtain ⟨⟨k1, k2, k3⟩, h1, h2, h3, h4⟩ := h
  by_cases w1 : pw n b (sk n b st.2.2) = 212557
  · rw [qaD0 w1] at hz ⊢
    by_cases g : i = 60 ∨ NF = 8
    · rw [if_pos g] at hz
      rw [q8e h0] at hz
      exact absurd hz (by first | decide | simp)
    · rw [if_neg g] at hz ⊢
      have hz : (twS n b 0 30 0 30 (wE n b st)).1 = 0 := hz
      obtain ⟨z1, z2⟩ := qzk hz
      obtain ⟨-, a1, a2⟩ := qdE z1
      obtain ⟨-, a3, a4⟩ := qdE z2
      refine ⟨⟨by show NF + 1 ≤ 8; omega, k2, k3⟩, fun j hj => ?_, fun j hj => ?_, h3, h4⟩
      · have hj : j < 2 * (NF + 1) := hj
        show 0 ≤ iu (iu F (2 * NF) _) (2 * NF + 1) _ j ∧ iu (iu F (2 * NF) _) (2 * NF + 1) _ j ≤ 30
        by_cases e : j = 2 * NF + 1
        · rw [e, iu_s]; exact ⟨a3, a4⟩
        · rw [iu_n e]
          by_cases e2 : j = 2 * NF
          · rw [e2, iu_s]; exact ⟨a1, a2⟩
          · rw [iu_n e2]; exact h1 j (by omega)
      · obtain ⟨b1, b2, b3, b4⟩ := h2 j hj
        exact ⟨b1, by show H (2 * j) < ((NF + 1 : Nat) : Int); omega, b3, b4⟩
  by_cases w2 : pw n b (sk n b st.2.2) = 263749
  · rw [qaCd w2] at hz ⊢
    by_cases g : i = 60 ∨ NH = 6
    · rw [if_pos g] at hz
      rw [q8e h0] at hz
      exact absurd hz (by first | decide | simp)
    · rw [if_neg g] at hz ⊢
      have hz : (twS n b 0 ((NF : Int) - 1) 1 9 (wE n b st)).1 = 0 := hz
      obtain ⟨z1, z2⟩ := qzk hz
      obtain ⟨-, a1, a2⟩ := qdE z1
      obtain ⟨-, a3, a4⟩ := qdE z2
      refine ⟨⟨k1, by show NH + 1 ≤ 6; omega, k3⟩, h1, fun j hj => ?_, h3, fun x y hx hy => ?_⟩
      · have hj : j < NH + 1 := hj
        show 0 ≤ iu (iu H (2 * NH) _) (2 * NH + 1) _ (2 * j) ∧ iu (iu H (2 * NH) _) (2 * NH + 1) _ (2 * j) < NF ∧ 1 ≤ iu (iu H (2 * NH) _) (2 * NH + 1) _ (2 * j + 1) ∧ iu (iu H (2 * NH) _) (2 * NH + 1) _ (2 * j + 1) ≤ 9
        by_cases e : j = NH
        · rw [e, iu_s, iu_n (by omega), iu_s]; exact ⟨a1, by omega, a3, a4⟩
        · rw [iu_n (by omega), iu_n (by omega), iu_n (by omega), iu_n (by omega)]; exact h2 j (by omega)
      · obtain ⟨b1, b2, b3⟩ := h4 x y hx hy
        refine ⟨b1, b2, fun e => ?_⟩
        obtain ⟨c1, c2, c3⟩ := b3 e
        exact ⟨by show x < NH + 1; omega, by show y < NH + 1; omega, c3⟩
  by_cases w3 : pw n b (sk n b st.2.2) = 6648
  · rw [qaUh w3] at hz ⊢
    by_cases g : i = 60 ∨ NX = 4
    · rw [if_pos g] at hz
      rw [q8e h0] at hz
      exact absurd hz (by first | decide | simp)
    · rw [if_neg g] at hz ⊢
      have hz : (twS n b 0 30 0 30 (wE n b st)).1 = 0 := hz
      obtain ⟨z1, z2⟩ := qzk hz
      obtain ⟨-, a1, a2⟩ := qdE z1
      obtain ⟨-, a3, a4⟩ := qdE z2
      refine ⟨⟨k1, k2, by show NX + 1 ≤ 4; omega⟩, h1, h2, fun j hj => ?_, h4⟩
      have hj : j < 2 * (NX + 1) := hj
      show 0 ≤ iu (iu G (2 * NX) _) (2 * NX + 1) _ j ∧ iu (iu G (2 * NX) _) (2 * NX + 1) _ j ≤ 30
      by_cases e : j = 2 * NX + 1
      · rw [e, iu_s]; exact ⟨a3, a4⟩
      · rw [iu_n e]
        by_cases e2 : j = 2 * NX
        · rw [e2, iu_s]; exact ⟨a1, a2⟩
        · rw [iu_n e2]; exact h3 j (by omega)
  by_cases w4 : pw n b (sk n b st.2.2) = 136276
  · rw [qaxH w4] at hz ⊢
    by_cases g : i = 60
    · rw [if_pos g] at hz
      rw [q8e h0] at hz
      exact absurd hz (by first | decide | simp)
    · rw [if_neg g] at hz ⊢
      have hz : (dbS n b NH (wE n b st)).1 = 0 := hz
      obtain ⟨z1, z2, z3, z4⟩ := qaSl hz
      obtain ⟨-, a1, a2⟩ := qdE (lo := 0) (hi := (NH : Int) - 1) (st := wE n b st) z4
      obtain ⟨-, a3, a4⟩ := qdE (lo := 0) (hi := (NH : Int) - 1) (st := nS n b 0 ((NH : Int) - 1) (wE n b st)) z3
      obtain ⟨-, a5, a6⟩ := qdE (lo := 0) (hi := 99) (st := dbB n b NH (wE n b st)) z1
      have ne : ¬ nV n b (wE n b st) = nV n b (nS n b 0 ((NH : Int) - 1) (wE n b st)) := fun e => by
        rw [qa4W e, q8e z3] at z2
        exact absurd z2 (by first | decide | simp)
      refine ⟨⟨k1, k2, k3⟩, h1, h2, h3, fun x y hx hy => ?_⟩
      show 0 ≤ iu D _ _ (6 * x + y) ∧ iu D _ _ (6 * x + y) ≤ 99 ∧ (iu D _ _ (6 * x + y) ≠ 0 → x < NH ∧ y < NH ∧ x ≠ y)
      by_cases e : 6 * x + y = (6 * nV n b (wE n b st) + nV n b (nS n b 0 ((NH : Int) - 1) (wE n b st))).toNat
      · rw [e, iu_s]
        exact ⟨a5, a6, fun _ => ⟨by omega, by omega, by omega⟩⟩
      · rw [iu_n e]; exact h4 x y hx hy
  · rw [qaZG w1 w2 w3 w4] at hz
    rw [q8e h0] at hz
    exact absurd hz (by first | decide | simp)
theorem qbhf : ∀ (k i : Nat) (d : dT), (d.1.1 = 0 → dOk d) → (dRun n b k i d).1.1 = 0 → dOk (dRun n b k i d) := by
  intro k
  induction k with
  | zero => intro i d h hz; exact h hz
  | succ k ih =>
    intro i d h hz
    by_cases e : d.1.1 ≠ 0 ∨ ¬ sk n b d.1.2.2 < n
    · rw [q5c e] at hz ⊢
      exact h hz
    · have h0 : d.1.1 = 0 := by
        by_cases w : d.1.1 = 0
        · exact w
        · exact absurd (Or.inl w) e
      have h1 : sk n b d.1.2.2 < n := by
        by_cases w : sk n b d.1.2.2 < n
        · exact w
        · exact absurd (Or.inr w) e
      obtain ⟨st, NF, NH, NX, F, H, G, D⟩ := d
      rw [qaXn h0 h1] at hz ⊢
      exact ih (i + 1) _ (qbcb h0 (h h0)) hz
theorem qaYz (hz : (dAll n b).1.1 = 0) : dOk (dAll n b) :=
  qbhf 61 0 _ (fun _ => ⟨⟨by decide, by decide, by decide⟩, fun j hj => absurd hj (Nat.not_lt_zero j), fun j hj => absurd hj (Nat.not_lt_zero j), fun j hj => absurd hj (Nat.not_lt_zero j), fun x y _ _ => ⟨Int.le_refl _, (show (0 : Int) ≤ 99 by decide), fun e => absurd rfl e⟩⟩) hz
end TO
end
section
/-! feeding: the bytes that both tapes hold -/
def sh8 (v : Int32) (i : Nat) : Int32 := v >>> (Int32.ofNat (24 - 8 * i) &&& 31)
def cb (v : Int32) (i : Nat) : Int32 := vp_nar .byte ((sh8 v i).toInt8.toInt32)
def mb (v : Int32) (i : Nat) : Int32 := (sh8 v i) &&& 255
theorem qa0y {y : Int32} : 0 ≤ (y &&& 255).toInt ∧ (y &&& 255).toInt < 256 ∧ (y &&& 255).toInt = y.toInt % 256 := by
  have h : (y &&& 255).toBitVec.toNat = y.toBitVec.toNat % 256 := by
    rw [qbd3]
    show y.toBitVec.toNat &&& 255 = _
    exact Nat.and_two_pow_sub_one_eq_mod _ 8
  have e := qaVo (x := y &&& 255) (by rw [h]; omega)
  have hy : y.toInt = (y.toBitVec.toNat : Int) ∨ y.toInt = (y.toBitVec.toNat : Int) - 4294967296 := by
    have h2 : y.toInt = y.toBitVec.toInt := rfl
    rw [h2, BitVec.toInt_eq_toNat_cond]
    by_cases c : 2 * y.toBitVec.toNat < 2 ^ 32
    · rw [if_pos c]; exact Or.inl rfl
    · rw [if_neg c]; exact Or.inr rfl
  rw [h] at e
  omega
theorem qa4B (v : Int32) (i : Nat) : cR (cb v i) (mb v i).toInt := by
  unfold cb mb
  generalize sh8 v i = y
  obtain ⟨h1, h2, h3⟩ := qa0y (y := y)
  rw [vp_nar_byte]
  have e1 : (y.toInt8.toInt32).toInt = y.toInt.bmod 256 := by rw [Int8.toInt_toInt32, Int32.toInt_toInt8]
  have e2 : ((y.toInt8.toInt32).toInt8.toInt32).toInt = (y.toInt.bmod 256).bmod 256 := by rw [Int8.toInt_toInt32, Int32.toInt_toInt8, e1]
  rw [Int.bmod_bmod] at e2
  unfold cR
  rw [e2]
  have e3 : y.toInt.bmod 256 = if y.toInt % 256 < 128 then y.toInt % 256 else y.toInt % 256 - 256 := rfl
  rw [e3]
  by_cases c : y.toInt % 256 < 128
  · rw [if_pos c]; exact ⟨h1, Or.inl h3.symm⟩
  · rw [if_neg c]; exact ⟨h1, Or.inr ⟨by omega, by omega⟩⟩
theorem qbl7 (v : Int32) (i : Nat) : cR (mb v i) (mb v i).toInt := ⟨(qa0y (y := sh8 v i)).1, Or.inl rfl⟩
def w5 (a b c d e : Int32) (k : Nat) : Int32 := if k = 0 then a else if k = 1 then b else if k = 2 then c else if k = 3 then d else e
theorem qblX {Q : NI → Int32 → Prop} {v : Int32} {p : Nat} {f0 : Nat → Int32} (hp : p ≤ 596) (hq : ∀ (f : NI) (x : Int32), x.toInt = ((p + 4 : Nat) : Int) → (∀ j : Nat, f j = if p ≤ j ∧ j < p + 4 then cb v (j - p) else f0 j) → Q f x) :
    ∀ (k : Nat) (f : NI) (fi sh : Int32) (i : Nat), i ≤ 4 → fi.toInt = ((p + i : Nat) : Int) → sh.toInt = 24 - 8 * (i : Int) → (∀ j : Nat, f j = if p ≤ j ∧ j < p + i then cb v (j - p) else f0 j) → 4 - i < k → qFz Q k f fi v sh := by
  intro k
  induction k with
  | zero => intro f fi sh i h1 h2 h3 h4 h5; omega
  | succ k ih =>
    intro f fi sh i h1 h2 h3 h4 h5
    refine ⟨fun c => ?_, fun c => ⟨fun c2 => ?_, fun c2 x3 e3 => ⟨qa6 (by omega) (by rw [qao, t_0] at c; omega), fun f4 e4 x5 e5 x6 e6 => ?_⟩⟩⟩
    · rw [qao, t_0] at c
      have ei : i = 4 := by omega
      rw [ei] at h2 h4
      exact hq f fi h2 h4
    · rw [qao, t_0] at c
      rw [qak, qaXU] at c2
      omega
    · rw [qao, t_0] at c
      have hi : i < 4 := by omega
      have a5 : x5.toInt = ((p + (i + 1) : Nat) : Int) := by rw [e5, qca (by omega), h2]; omega
      have a6 : x6.toInt = 24 - 8 * ((i + 1 : Nat) : Int) := by rw [e6, qap (by rw [t_m8]; omega) (by rw [t_m8]; omega), t_m8]; omega
      refine ih f4 x5 x6 (i + 1) (by omega) a5 a6 (fun j => ?_) (by omega)
      rw [e4, qas h2]
      have es : sh = Int32.ofNat (24 - 8 * i) := by
        rw [qan, h3, Int32.toInt_ofNat_of_lt (by omega)]; omega
      by_cases z : j = p + i
      · rw [z, pk_us, if_pos ⟨by omega, by omega⟩, e3, es, show p + i - p = i by omega]; rfl
      · rw [pk_un z, h4 j]
        by_cases z2 : p ≤ j ∧ j < p + i
        · rw [if_pos z2, if_pos ⟨z2.1, by omega⟩]
        · rw [if_neg z2, if_neg (by omega)]
theorem qacN {Q : NI → Int32 → Prop} {v fi : Int32} {f : Nat → Int32} {p : Nat} (h0 : fi.toInt = p) (hp : p ≤ 596) (hq : ∀ (g : NI) (x : Int32), x.toInt = ((p + 4 : Nat) : Int) → (∀ j : Nat, g j = if p ≤ j ∧ j < p + 4 then cb v (j - p) else f j) → Q g x) : qRt f fi v Q :=
  ⟨5, qblX hp hq 5 f fi 24 0 (by omega) h0 (by decide) (fun j => by rw [if_neg (by omega)]) (by omega)⟩
/-- the bytes behind a feeding -/
def fB (p : Nat) (a b c d e : Int32) (t : Nat → Int) : Nat → Int := fun j => if p ≤ j ∧ j < p + 20 then (mb (w5 a b c d e ((j - p) / 4)) ((j - p) % 4)).toInt else t j
theorem qa2c {f : Nat → Int32} {fi a b c d e : Int32} {p : Nat} {t : Nat → Int} {Q : Int32 → NI → Int32 → Prop} (h0 : fi.toInt = p) (h1 : p ≤ 600) (ht : tB p f t)
    (q1 : p ≤ 580 → ∀ (r : Int32) (g : NI), r.toInt = ((p + 20 : Nat) : Int) → tB (p + 20) g (fB p a b c d e t) → Q r g r) (q0 : 580 < p → Q (-1) f fi) : qaa5 f fi a b c d e Q := by
  have e20 : (fi + 20).toInt = fi.toInt + 20 := by rw [qap (by rw [qcE]; omega) (by rw [qcE]; omega), qcE]
  refine ⟨fun c0 => ⟨fun c => absurd rfl c, fun _ => q0 ?_⟩, fun c0 => ⟨fun _ => ?_, fun c => absurd c (by decide)⟩⟩
  · rw [qao, qaXU, e20] at c0; omega
  · rw [qao, qaXU, e20] at c0
    refine qacN h0 (by omega) (fun g1 x1 y1 z1 => qacN y1 (by omega) (fun g2 x2 y2 z2 => qacN y2 (by omega) (fun g3 x3 y3 z3 => qacN y3 (by omega) (fun g4 x4 y4 z4 => qacN y4 (by omega) (fun g5 x5 y5 z5 => q1 (by omega) x5 g5 (by rw [y5]) (fun j hj => ?_))))))
    rw [z5 j, z4 j, z3 j, z2 j, z1 j]
    unfold fB
    by_cases k0 : p ≤ j
    · rw [if_pos (⟨k0, hj⟩ : p ≤ j ∧ j < p + 20)]
      by_cases k5 : p + 4 + 4 + 4 + 4 ≤ j
      · rw [if_pos ⟨k5, by omega⟩, show (j - p) / 4 = 4 by omega, show (j - p) % 4 = j - (p + 4 + 4 + 4 + 4) by omega]
        exact qa4B e _
      rw [if_neg (by omega)]
      by_cases k4 : p + 4 + 4 + 4 ≤ j
      · rw [if_pos ⟨k4, by omega⟩, show (j - p) / 4 = 3 by omega, show (j - p) % 4 = j - (p + 4 + 4 + 4) by omega]
        exact qa4B d _
      rw [if_neg (by omega)]
      by_cases k3 : p + 4 + 4 ≤ j
      · rw [if_pos ⟨k3, by omega⟩, show (j - p) / 4 = 2 by omega, show (j - p) % 4 = j - (p + 4 + 4) by omega]
        exact qa4B c _
      rw [if_neg (by omega)]
      by_cases k2 : p + 4 ≤ j
      · rw [if_pos ⟨k2, by omega⟩, show (j - p) / 4 = 1 by omega, show (j - p) % 4 = j - (p + 4) by omega]
        exact qa4B b _
      rw [if_neg (by omega), if_pos ⟨k0, by omega⟩, show (j - p) / 4 = 0 by omega, show (j - p) % 4 = j - p by omega]
      exact qa4B a _
    · rw [if_neg (by omega), if_neg (by omega), if_neg (by omega), if_neg (by omega), if_neg (by omega), if_neg (by omega)]
      exact ht j (by omega)
theorem y_fl {Q : Int32 → Int32 → NI → Int32 → Prop} {a b c d e th : Int32} {p : Nat} {f0 : Nat → Int32} (hp : p ≤ 580) (hq : ∀ (g : NI) (x : Int32), x.toInt = ((p + 20 : Nat) : Int) → (∀ j : Nat, g j = if p ≤ j ∧ j < p + 20 then mb (w5 a b c d e ((j - p) / 4)) ((j - p) % 4) else f0 j) → Q x th g x) :
    ∀ (k : Nat) (f : NI) (tp l6 : Int32) (i : Nat), i ≤ 20 → l6.toInt = i → tp.toInt = ((p + i : Nat) : Int) → (∀ j : Nat, f j = if p ≤ j ∧ j < p + i then mb (w5 a b c d e ((j - p) / 4)) ((j - p) % 4) else f0 j) → 20 - i < k → qno Q k th f tp a b c d e l6 := by
  intro k
  induction k with
  | zero => intro f tp l6 i h1 h2 h3 h4 h5; omega
  | succ k ih =>
    intro f tp l6 i h1 h2 h3 h4 h5
    have go : ∀ s0 : Int32, i < 20 → s0 = w5 a b c d e (i / 4) → qxI Q (fun jbd jbC jgt l1 l2 l3 l4 l5 l6 => qno Q k jbd jbC jgt l1 l2 l3 l4 l5 l6) th f tp a b c d e l6 s0 := fun s0 hi es x7 e7 x8 e8 => by
      have d4 : (l6 / 4).toInt = ((i / 4 : Nat) : Int) := by
        have hc : l6 = 0 ∨ l6 = 1 ∨ l6 = 2 ∨ l6 = 3 ∨ l6 = 4 ∨ l6 = 5 ∨ l6 = 6 ∨ l6 = 7 ∨ l6 = 8 ∨ l6 = 9 ∨ l6 = 10 ∨ l6 = 11 ∨ l6 = 12 ∨ l6 = 13 ∨ l6 = 14 ∨ l6 = 15 ∨ l6 = 16 ∨ l6 = 17 ∨ l6 = 18 ∨ l6 = 19 := by
          have hh : ∀ y : Fin 20, (Int32.ofNat y.val) = 0 ∨ (Int32.ofNat y.val) = 1 ∨ (Int32.ofNat y.val) = 2 ∨ (Int32.ofNat y.val) = 3 ∨ (Int32.ofNat y.val) = 4 ∨ (Int32.ofNat y.val) = 5 ∨ (Int32.ofNat y.val) = 6 ∨ (Int32.ofNat y.val) = 7 ∨ (Int32.ofNat y.val) = 8 ∨ (Int32.ofNat y.val) = 9 ∨ (Int32.ofNat y.val) = 10 ∨ (Int32.ofNat y.val) = 11 ∨ (Int32.ofNat y.val) = 12 ∨ (Int32.ofNat y.val) = 13 ∨ (Int32.ofNat y.val) = 14 ∨ (Int32.ofNat y.val) = 15 ∨ (Int32.ofNat y.val) = 16 ∨ (Int32.ofNat y.val) = 17 ∨ (Int32.ofNat y.val) = 18 ∨ (Int32.ofNat y.val) = 19 := by decide
          have e := hh ⟨i, hi⟩
          rw [show l6 = Int32.ofNat i by rw [qan, h2, Int32.toInt_ofNat_of_lt (by omega)]]
          exact e
        have hd : ∀ y : Fin 20, ((Int32.ofNat y.val) / 4).toInt = ((y.val / 4 : Nat) : Int) := by decide
        rw [show l6 = Int32.ofNat i by rw [qan, h2, Int32.toInt_ofNat_of_lt (by omega)]]
        exact hd ⟨i, hi⟩
      have m4 : (l6 / 4 * 4).toInt = ((i / 4 * 4 : Nat) : Int) := by rw [qu8 (by rw [t_4]; omega) (by rw [t_4]; omega), d4, t_4]; omega
      have a7 : x7.toInt = ((i % 4 : Nat) : Int) := by rw [e7, qpT (by omega) (by omega), m4, h2]; omega
      have m8 : (8 * x7).toInt = 8 * x7.toInt := by rw [qu8 (by rw [t_8]; omega) (by rw [t_8]; omega), t_8]
      have s24 : (24 - 8 * x7 : Int32) = Int32.ofNat (24 - 8 * (i % 4)) := by
        rw [qan, qpT (by rw [qbz, m8]; omega) (by rw [qbz, m8]; omega), qbz, m8, Int32.toInt_ofNat_of_lt (by omega)]; omega
      refine ⟨qa6 (by omega) (by omega), fun f9 e9 x10 e10 x11 e11 => ?_⟩
      have a10 : x10.toInt = ((p + (i + 1) : Nat) : Int) := by rw [e10, qca (by omega), h3]; omega
      have a11 : x11.toInt = ((i + 1 : Nat) : Int) := by rw [e11, qca (by omega), h2]; omega
      refine ih f9 x10 x11 (i + 1) (by omega) a11 a10 (fun j => ?_) (by omega)
      rw [e9, qas h3]
      by_cases z : j = p + i
      · rw [z, pk_us, if_pos ⟨by omega, by omega⟩, show p + i - p = i by omega, e8, s24, es]; rfl
      · rw [pk_un z, h4 j]
        by_cases z2 : p ≤ j ∧ j < p + i
        · rw [if_pos z2, if_pos ⟨z2.1, by omega⟩]
        · rw [if_neg z2, if_neg (by omega)]
    have wv : ∀ q : Nat, i / 4 = q → w5 a b c d e (i / 4) = w5 a b c d e q := fun q hq => by rw [hq]
    refine ⟨fun c => ?_, fun c => ⟨fun c4 => ⟨fun c8 => ⟨fun c12 => ⟨fun c16 => ?_, fun c16 => ?_⟩, fun c12 => ?_⟩, fun c8 => ?_⟩, fun c4 => ?_⟩⟩
    · rw [qak, qcE] at c
      have ei : i = 20 := by omega
      rw [ei] at h3 h4
      exact hq f tp h3 h4
    · rw [qak, qcE] at c
      rw [qak, t_16] at c16
      exact go _ (by omega) (wv 4 (by omega)).symm
    · rw [qak, qaz] at c12
      rw [qak, t_16] at c16
      exact go _ (by omega) (wv 3 (by omega)).symm
    · rw [qak, t_8] at c8
      rw [qak, qaz] at c12
      exact go _ (by omega) (wv 2 (by omega)).symm
    · rw [qak, t_4] at c4
      rw [qak, t_8] at c8
      exact go _ (by omega) (wv 1 (by omega)).symm
    · rw [qak, t_4] at c4
      exact go _ (by omega) (wv 0 (by omega)).symm
theorem qaLL {f : Nat → Int32} {th tp a b c d e : Int32} {p : Nat} {t : Nat → Int} {Q : Int32 → Int32 → NI → Int32 → Prop} (h0 : tp.toInt = p) (h1 : p ≤ 600) (ht : tB p f t)
    (q1 : p ≤ 580 → ∀ (r : Int32) (g : NI), r.toInt = ((p + 20 : Nat) : Int) → tB (p + 20) g (fB p a b c d e t) → Q r 0 g r) (q0 : 580 < p → Q (-1) 0 f tp) : q9w th f tp a b c d e Q := by
  have e20 : (tp + 20).toInt = tp.toInt + 20 := by rw [qap (by rw [qcE]; omega) (by rw [qcE]; omega), qcE]
  refine ⟨fun c0 => ⟨21, y_fl (by rw [qak, qaXU, e20] at c0; omega) (fun g x ex hg => q1 (by rw [qak, qaXU, e20] at c0; omega) x g ex (fun j hj => ?_)) 21 f tp 0 0 (by omega) t_0 h0 (fun j => by rw [if_neg (by omega)]) (by omega)⟩, fun c0 => q0 (by rw [qak, qaXU, e20] at c0; omega)⟩
  rw [hg j]
  unfold fB
  by_cases k0 : p ≤ j
  · rw [if_pos ⟨k0, hj⟩, if_pos ⟨k0, hj⟩]
    exact qbl7 _ _
  · rw [if_neg (by omega), if_neg (by omega)]
    exact ht j (by omega)
end
section
/-! a down taken over: the reference's state, word by word -/
/-- the reference's row of a new March -/
def ni (h : Nat) (ha db : NI) (j : Nat) : Int32 := if j = 66 then 1 else if 30 ≤ j then (if j < 66 then db (j - 30) else 0) else if j < 6 then (if j < h then ha (2 * j) else 0) else if j < 12 then (if j - 6 < h then ha (2 * (j - 6) + 1) else 0) else 0
abbrev sQ := Int32 → Int32 → Int32 → NI → NI → NI → Int32 → Int32 → Int32 → Int32 → Int32 → NI → NI → Prop
section TS
variable {nf nh nx : Int32} {fo ha fx db : Nat → Int32} {Q : sQ}
theorem qa4G {a1 a2 a3 c1 c2 c3 c4 c5 : Int32} {g1 g2 g3 bk n0 : Nat → Int32} (hq : ∀ nw : NI, (∀ j : Nat, j < 68 → nw j = if j = 66 then 1 else if 30 ≤ j ∧ j < 66 then db (j - 30) else n0 j) → Q a1 a2 a3 g1 g2 g3 c1 c2 c3 c4 c5 bk nw) :
    ∀ (k : Nat) (nw : NI) (l1 : Int32) (i : Nat), l1.toInt = i → i ≤ 36 → (∀ j : Nat, j < 68 → nw j = if 30 ≤ j ∧ j < 30 + i then db (j - 30) else n0 j) → 36 - i < k → qHw nf nh nx fo ha fx db Q k a1 a2 a3 g1 g2 g3 c1 c2 c3 c4 c5 bk nw l1 := by
  intro k
  induction k with
  | zero => intro nw l1 i h1 h2 h3 h4; omega
  | succ k ih =>
    intro nw l1 i h1 h2 h3 h4
    refine ⟨fun c f22 e22 => hq f22 (fun j hj => ?_), fun c x23 e23 => ?_⟩
    · rw [qak, qSF] at c
      have ei : i = 36 := by omega
      rw [e22, show (66 : Int32).toNatClampNeg = 66 by decide]
      by_cases z : j = 66
      · rw [z, pk_us, if_pos rfl]
      · rw [pk_un z, if_neg z, h3 j hj, ei]
    · rw [qak, qSF] at c
      have e1 : x23.toInt = ((30 + i : Nat) : Int) := by rw [e23, qap (by rw [qcc]; omega) (by rw [qcc]; omega), qcc, h1]; omega
      refine ⟨qa6 (by omega) (by omega), fun x24 e24 => ⟨qa6 (by omega) (by omega), fun f25 e25 x26 e26 => ?_⟩⟩
      have e2 : x26.toInt = ((i + 1 : Nat) : Int) := by rw [e26, qca (by omega), h1]; omega
      refine ih f25 x26 (i + 1) e2 (by omega) (fun j hj => ?_) (by omega)
      rw [e25, qas e1]
      by_cases z : j = 30 + i
      · rw [z, pk_us, if_pos ⟨by omega, by omega⟩, e24, qas h1, show 30 + i - 30 = i by omega]
      · rw [pk_un z, h3 j hj]
        by_cases z2 : 30 ≤ j ∧ j < 30 + i
        · rw [if_pos z2, if_pos ⟨z2.1, by omega⟩]
        · rw [if_neg z2, if_neg (by omega)]
theorem qa37 {a1 a2 a3 c1 c2 c3 c4 c5 : Int32} {g1 g2 g3 bk : Nat → Int32} {NH : Nat} (m1 : a2.toInt = NH) (m2 : NH ≤ 6) (hq : ∀ nw : NI, (∀ j : Nat, j < 68 → nw j = ni NH g2 db j) → Q a1 a2 a3 g1 g2 g3 c1 c2 c3 c4 c5 bk nw) :
    ∀ (k : Nat) (nw : NI) (l1 : Int32) (i : Nat), l1.toInt = i → i ≤ NH → (∀ j : Nat, j < 68 → nw j = if j < i then g2 (2 * j) else if 6 ≤ j ∧ j < 6 + i then g2 (2 * (j - 6) + 1) else 0) → 6 - i < k → qHf nf nh nx fo ha fx db Q k a1 a2 a3 g1 g2 g3 c1 c2 c3 c4 c5 bk nw l1 := by
  intro k
  induction k with
  | zero => intro nw l1 i h1 h2 h3 h4; omega
  | succ k ih =>
    intro nw l1 i h1 h2 h3 h4
    refine ⟨fun c => ⟨37, qa4G (n0 := nw) (fun n9 h9 => hq n9 (fun j hj => ?_)) 37 nw 0 0 t_0 (by omega) (fun j hj => by rw [if_neg (by omega)]) (by omega)⟩, fun c x11 e11 x12 e12 => ?_⟩
    · rw [qak] at c
      have ei : i = NH := by omega
      rw [h9 j hj, h3 j hj, ei]
      unfold ni
      by_cases z1 : j = 66
      · rw [if_pos z1, if_pos z1]
      rw [if_neg z1, if_neg z1]
      by_cases z2 : 30 ≤ j
      · rw [if_pos z2]
        by_cases z3 : j < 66
        · rw [if_pos z3, if_pos ⟨z2, z3⟩]
        · rw [if_neg z3, if_neg (by omega), if_neg (by omega), if_neg (by omega)]
      rw [if_neg z2, if_neg (fun w => z2 w.1)]
      by_cases z4 : j < 6
      · rw [if_pos z4]
        by_cases z5 : j < NH
        · rw [if_pos z5, if_pos z5]
        · rw [if_neg z5, if_neg z5, if_neg (by omega)]
      rw [if_neg z4, if_neg (by omega)]
      by_cases z6 : j < 12
      · rw [if_pos z6]
        by_cases z7 : j - 6 < NH
        · rw [if_pos z7, if_pos ⟨by omega, by omega⟩]
        · rw [if_neg z7, if_neg (by omega)]
      · rw [if_neg z6, if_neg (by omega)]
    · rw [qak] at c
      have b1 : x11.toInt = ((i : Nat) : Int) := by rw [e11, qap (by rw [t_0]; omega) (by rw [t_0]; omega), t_0, h1]; omega
      have b2 : x12.toInt = ((2 * i : Nat) : Int) := by rw [e12]; exact q0N h1 (by omega)
      refine ⟨qa6 (by omega) (by omega), fun x13 e13 => ⟨qa6 (by omega) (by omega), fun f14 e14 x15 e15 x16 e16 x17 e17 => ?_⟩⟩
      have b3 : x15.toInt = ((6 + i : Nat) : Int) := by rw [e15, qap (by rw [t_6]; omega) (by rw [t_6]; omega), t_6, h1]; omega
      have b4 : x17.toInt = ((2 * i + 1 : Nat) : Int) := by rw [e17]; exact qah1 (by rw [e16]; exact q0N h1 (by omega)) (by omega)
      refine ⟨qa6 (by omega) (by omega), fun x18 e18 => ⟨qa6 (by omega) (by omega), fun f19 e19 x20 e20 => ?_⟩⟩
      have b5 : x20.toInt = ((i + 1 : Nat) : Int) := by rw [e20, qca (by omega), h1]; omega
      refine ih f19 x20 (i + 1) b5 (by omega) (fun j hj => ?_) (by omega)
      rw [e19, qas b3]
      by_cases z : j = 6 + i
      · rw [z, pk_us, if_neg (by omega), if_pos ⟨by omega, by omega⟩, e18, qas b4, show 6 + i - 6 = i by omega]
      · rw [pk_un z, e14, qas b1]
        by_cases z2 : j = i
        · rw [z2, pk_us, if_pos (by omega), e13, qas b2]
        · rw [pk_un z2, h3 j hj]
          by_cases z3 : j < i
          · rw [if_pos z3, if_pos (show j < i + 1 by omega)]
          · rw [if_neg z3, if_neg (show ¬ j < i + 1 by omega)]
            by_cases z4 : 6 ≤ j ∧ j < 6 + i
            · rw [if_pos z4, if_pos (show 6 ≤ j ∧ j < 6 + (i + 1) from ⟨z4.1, by omega⟩)]
            · rw [if_neg z4, if_neg (show ¬ (6 ≤ j ∧ j < 6 + (i + 1)) by omega)]
theorem qa6S {a1 a2 a3 c1 c2 c3 c4 c5 : Int32} {g1 g2 g3 bk : Nat → Int32} {NH : Nat} (m1 : a2.toInt = NH) (m2 : NH ≤ 6) (hq : ∀ nw : NI, (∀ j : Nat, j < 68 → nw j = ni NH g2 db j) → Q a1 a2 a3 g1 g2 g3 c1 c2 c3 c4 c5 bk nw) :
    ∀ (k : Nat) (nw : NI) (l1 : Int32) (i : Nat), l1.toInt = i → i ≤ 68 → (∀ j : Nat, j < i → nw j = 0) → 68 - i < k → qGS nf nh nx fo ha fx db Q k a1 a2 a3 g1 g2 g3 c1 c2 c3 c4 c5 bk nw l1 := by
  intro k
  induction k with
  | zero => intro nw l1 i h1 h2 h3 h4; omega
  | succ k ih =>
    intro nw l1 i h1 h2 h3 h4
    refine ⟨fun c => ⟨7, qa37 m1 m2 hq 7 nw 0 0 t_0 (by omega) (fun j hj => ?_) (by omega)⟩, fun c => ?_⟩
    · rw [qak, t_68] at c
      rw [if_neg (by omega), if_neg (by omega)]
      exact h3 j (by omega)
    · rw [qak, t_68] at c
      refine ⟨qa6 (by omega) (by omega), fun f8 e8 x9 e9 => ?_⟩
      have e2 : x9.toInt = ((i + 1 : Nat) : Int) := by rw [e9, qca (by omega), h1]; omega
      refine ih f8 x9 (i + 1) e2 (by omega) (fun j hj => ?_) (by omega)
      rw [e8, qas h1]
      by_cases z : j = i
      · rw [z, pk_us]
      · rw [pk_un z]; exact h3 j (by omega)
theorem qbci {a1 a2 a3 c1 c2 c3 c4 c5 : Int32} {g1 g2 g3 nw : Nat → Int32} {NH : Nat} (m1 : a2.toInt = NH) (m2 : NH ≤ 6) (hq : ∀ bk nw : NI, (∀ j : Nat, j < 8 → bk j = -1) → (∀ j : Nat, j < 68 → nw j = ni NH g2 db j) → Q a1 a2 a3 g1 g2 g3 c1 c2 c3 c4 c5 bk nw) :
    ∀ (k : Nat) (bk : NI) (l1 : Int32) (i : Nat), l1.toInt = i → i ≤ 8 → (∀ j : Nat, j < i → bk j = -1) → 8 - i < k → qKU nf nh nx fo ha fx db Q k a1 a2 a3 g1 g2 g3 c1 c2 c3 c4 c5 bk nw l1 := by
  intro k
  induction k with
  | zero => intro bk l1 i h1 h2 h3 h4; omega
  | succ k ih =>
    intro bk l1 i h1 h2 h3 h4
    refine ⟨fun c => ⟨69, qa6S m1 m2 (fun n9 h9 => hq bk n9 (fun j hj => ?_) h9) 69 nw 0 0 t_0 (by omega) (fun j hj => by omega) (by omega)⟩, fun c => ?_⟩
    · rw [qak, t_8] at c
      exact h3 j (by omega)
    · rw [qak, t_8] at c
      refine ⟨qa6 (by omega) (by omega), fun f5 e5 x6 e6 => ?_⟩
      have e2 : x6.toInt = ((i + 1 : Nat) : Int) := by rw [e6, qca (by omega), h1]; omega
      refine ih f5 x6 (i + 1) e2 (by omega) (fun j hj => ?_) (by omega)
      rw [e5, qas h1]
      by_cases z : j = i
      · rw [z, pk_us]
      · rw [pk_un z]; exact h3 j (by omega)
theorem qbep {a1 a2 a3 c1 c2 c3 c4 c5 : Int32} {g1 g2 g3 bk nw : Nat → Int32} {NH : Nat} (m1 : nh.toInt = NH) (m2 : NH ≤ 6) (hq : ∀ g1 g2 g3 bk nw : NI, (∀ j : Nat, j < 16 → g1 j = fo j) → (∀ j : Nat, j < 12 → g2 j = ha j) → (∀ j : Nat, j < 8 → g3 j = fx j) → (∀ j : Nat, j < 8 → bk j = -1) → (∀ j : Nat, j < 68 → nw j = ni NH g2 db j) → Q nf nh nx g1 g2 g3 0 0 0 0 0 bk nw) : qXj nf nh nx fo ha fx db a1 a2 a3 g1 g2 g3 c1 c2 c3 c4 c5 bk nw Q := by
  refine qtF (by decide) (by decide) (fun t1 h1 => qtF (by decide) (by decide) (fun t2 h2 => qtF (by decide) (by decide) (fun t3 h3 => ⟨9, qbci m1 m2 (fun b9 n9 q1 q2 => hq t1 t2 t3 b9 n9 (fun j hj => ?_) (fun j hj => ?_) (fun j hj => ?_) q1 q2) 9 bk 0 0 t_0 (by omega) (fun j hj => by omega) (by omega)⟩)))
  · rw [h1 j, t_16, if_pos (by omega)]
  · rw [h2 j, qaz, if_pos (by omega)]
  · rw [h3 j, t_8, if_pos (by omega)]
end TS
end
section
/-! how far two forms lie -/
def iab (x : Int) : Int := if 0 ≤ x then x else -x
/-- the forms' way by the pairs -/
def fr (F : Nat → Int) (i j : Nat) : Int := iab (F (2 * i) - F (2 * j)) + iab (F (2 * i + 1) - F (2 * j + 1))
theorem q8g {x m : Int} (h1 : -m ≤ x) (h2 : x ≤ m) : 0 ≤ iab x ∧ iab x ≤ m := by
  unfold iab
  by_cases c : 0 ≤ x
  · rw [if_pos c]; omega
  · rw [if_neg c]; omega
theorem qbcj {x y : Int32} (hx : 0 ≤ x.toInt ∧ x.toInt ≤ 30) (hy : 0 ≤ y.toInt ∧ y.toInt ≤ 30) : (if 0 ≤ x - y then x - y else 0 - (x - y)).toInt = iab (x.toInt - y.toInt) := by
  have e : (x - y).toInt = x.toInt - y.toInt := qpT (by omega) (by omega)
  unfold iab
  by_cases c : 0 ≤ x - y
  · rw [if_pos c]
    rw [qak, t_0, e] at c
    rw [if_pos c, e]
  · rw [if_neg c]
    rw [qak, t_0, e] at c
    rw [if_neg c, qpT (by rw [t_0, e]; omega) (by rw [t_0, e]; omega), t_0, e]; omega
theorem qa0i {x y : Int32} {Q : Int32 → Prop} (hx : 0 ≤ x.toInt ∧ x.toInt ≤ 30) (hy : 0 ≤ y.toInt ∧ y.toInt ≤ 30) (hq : ∀ r : Int32, r.toInt = iab (x.toInt - y.toInt) → Q r) : qCi (x - y) Q := by
  have e : (x - y).toInt = x.toInt - y.toInt := qpT (by omega) (by omega)
  refine ⟨fun c => hq _ ?_, fun c => hq _ ?_⟩
  · rw [qak, t_0, e] at c
    unfold iab; rw [if_pos c, e]
  · rw [qak, t_0, e] at c
    unfold iab
    rw [if_neg c, show (-(x - y) : Int32) = 0 - (x - y) by rw [Int32.zero_sub], qpT (by rw [t_0, e]; omega) (by rw [t_0, e]; omega), t_0, e]; omega
section ZF
variable {NF : Nat} {X Y fo : Nat → Int32} {F : Nat → Int}
theorem qblV (hF : ∀ j : Nat, j < 2 * NF → 0 ≤ F j ∧ F j ≤ 30) {i j : Nat} (hi : i < NF) (hj : j < NF) : 0 ≤ fr F i j ∧ fr F i j ≤ 60 := by
  have a1 := hF (2 * i) (by omega)
  have a2 := hF (2 * i + 1) (by omega)
  have a3 := hF (2 * j) (by omega)
  have a4 := hF (2 * j + 1) (by omega)
  have b1 := q8g (x := F (2 * i) - F (2 * j)) (m := 30) (by omega) (by omega)
  have b2 := q8g (x := F (2 * i + 1) - F (2 * j + 1)) (m := 30) (by omega) (by omega)
  unfold fr; omega
theorem qa9W {p q : Int32} {i j : Nat} {Q : Int32 → Prop} (hF : ∀ j : Nat, j < 2 * NF → 0 ≤ F j ∧ F j ≤ 30) (h8 : NF ≤ 8) (hp : pr NF X Y F) (ei : p.toInt = i) (hi : i < NF) (ej : q.toInt = j) (hj : j < NF) (hq : ∀ r : Int32, r.toInt = fr F i j → Q r) : qv4 X Y p q Q := by
  have a1 := hF (2 * i) (by omega)
  have a2 := hF (2 * i + 1) (by omega)
  have a3 := hF (2 * j) (by omega)
  have a4 := hF (2 * j + 1) (by omega)
  obtain ⟨c1, c2⟩ := hp i hi
  obtain ⟨c3, c4⟩ := hp j hj
  refine ⟨qa6 (by omega) (by omega), fun x1 e1 => ⟨qa6 (by omega) (by omega), fun x2 e2 x3 e3 => ⟨qa6 (by omega) (by omega), fun x4 e4 => ⟨qa6 (by omega) (by omega), fun x5 e5 x6 e6 => hq _ ?_⟩⟩⟩⟩
  rw [qas ei] at e1 e4
  rw [qas ej] at e2 e5
  rw [← e1] at c1
  rw [← e2] at c3
  rw [← e4] at c2
  rw [← e5] at c4
  have d3 : x3.toInt = iab (x1.toInt - x2.toInt) := by rw [e3]; exact qbcj (by omega) (by omega)
  have d6 : x6.toInt = iab (x4.toInt - x5.toInt) := by rw [e6]; exact qbcj (by omega) (by omega)
  rw [c1, c3] at d3
  rw [c2, c4] at d6
  have b := qblV hF hi hj
  have b1 := q8g (x := F (2 * i) - F (2 * j)) (m := 30) (by omega) (by omega)
  have b2 := q8g (x := F (2 * i + 1) - F (2 * j + 1)) (m := 30) (by omega) (by omega)
  rw [qap (by omega) (by omega), d3, d6]; rfl
theorem qbgr {p q : Int32} {i j : Nat} {Q : Int32 → Prop} (hF : ∀ j : Nat, j < 2 * NF → 0 ≤ F j ∧ F j ≤ 30) (h8 : NF ≤ 8) (hp : pm (2 * NF) fo F) (ei : p.toInt = i) (hi : i < NF) (ej : q.toInt = j) (hj : j < NF) (hq : ∀ r : Int32, r.toInt = fr F i j → Q r) : qqm fo p q Q := by
  have a1 := hF (2 * i) (by omega)
  have a2 := hF (2 * i + 1) (by omega)
  have a3 := hF (2 * j) (by omega)
  have a4 := hF (2 * j + 1) (by omega)
  have c1 := hp (2 * i) (by omega)
  have c2 := hp (2 * i + 1) (by omega)
  have c3 := hp (2 * j) (by omega)
  have c4 := hp (2 * j + 1) (by omega)
  intro x1 e1
  have i1 : x1.toInt = ((2 * i : Nat) : Int) := by rw [e1]; exact q0N ei (by omega)
  refine ⟨qa6 (by omega) (by omega), fun x2 e2 x3 e3 => ?_⟩
  have i3 : x3.toInt = ((2 * j : Nat) : Int) := by rw [e3]; exact q0N ej (by omega)
  refine ⟨qa6 (by omega) (by omega), fun x4 e4 => ?_⟩
  rw [qas i1] at e2
  rw [qas i3] at e4
  rw [← e2] at c1
  rw [← e4] at c3
  refine qa0i (by omega) (by omega) (fun r5 d5 x6 e6 x7 e7 => ?_)
  have i7 : x7.toInt = ((2 * i + 1 : Nat) : Int) := by rw [e7]; exact qah1 (by rw [e6]; exact q0N ei (by omega)) (by omega)
  refine ⟨qa6 (by omega) (by omega), fun x8 e8 x9 e9 x10 e10 => ?_⟩
  have i10 : x10.toInt = ((2 * j + 1 : Nat) : Int) := by rw [e10]; exact qah1 (by rw [e9]; exact q0N ej (by omega)) (by omega)
  refine ⟨qa6 (by omega) (by omega), fun x11 e11 => ?_⟩
  rw [qas i7] at e8
  rw [qas i10] at e11
  rw [← e8] at c2
  rw [← e11] at c4
  refine qa0i (by omega) (by omega) (fun r12 d12 => hq _ ?_)
  rw [c1, c3] at d5
  rw [c2, c4] at d12
  have b1 := q8g (x := F (2 * i) - F (2 * j)) (m := 30) (by omega) (by omega)
  have b2 := q8g (x := F (2 * i + 1) - F (2 * j + 1)) (m := 30) (by omega) (by omega)
  rw [qap (by omega) (by omega), d5, d12]; rfl
end ZF
/-! sets of at most eight: bits -/
def orN (P : Nat → Bool) : Nat → Nat
  | 0 => 0
  | k + 1 => if P k = true then orN P k ||| (1 <<< k) else orN P k
theorem qbiI {P : Nat → Bool} : ∀ k : Nat, orN P k < 2 ^ k := by
  intro k
  induction k with
  | zero => exact Nat.one_pos
  | succ k ih =>
    have e : 2 ^ (k + 1) = 2 ^ k * 2 := Nat.pow_succ ..
    unfold orN
    by_cases c : P k = true
    · rw [if_pos c]
      exact Nat.or_lt_two_pow (by omega) (by rw [Nat.one_shiftLeft]; omega)
    · rw [if_neg c]; omega
theorem qMw {P : Nat → Bool} : ∀ k j : Nat, (orN P k).testBit j = (decide (j < k) && P j) := by
  intro k
  induction k with
  | zero => intro j; show (0 : Nat).testBit j = _; rw [Nat.zero_testBit]; simp
  | succ k ih =>
    intro j
    unfold orN
    by_cases c : P k = true
    · rw [if_pos c, Nat.testBit_or, ih j, Nat.one_shiftLeft, Nat.testBit_two_pow]
      by_cases z : k = j
      · subst z; simp [c]
      · by_cases z2 : j < k
        · simp [z, z2, show j < k + 1 by omega]
        · simp [z, z2, show ¬ j < k + 1 by omega]
    · rw [if_neg c, ih j]
      by_cases z : j = k
      · subst z; simp [c]
      · by_cases z2 : j < k
        · simp [z2, show j < k + 1 by omega]
        · simp [z2, show ¬ j < k + 1 by omega]
theorem q1t {P : Nat → Bool} {k : Nat} (h : k ≤ 8) : orN P k < 256 := by
  have := qbiI (P := P) k
  have h2 : 2 ^ k ≤ 2 ^ 8 := Nat.pow_le_pow_right (by decide) h
  have h3 : (2 : Nat) ^ 8 = 256 := by decide
  omega
theorem qHW {P R : Nat → Bool} : ∀ k : Nat, (∀ j : Nat, j < k → P j = R j) → orN P k = orN R k := by
  intro k
  induction k with
  | zero => intro _; rfl
  | succ k ih =>
    intro h
    unfold orN
    rw [h k (by omega), ih (fun j hj => h j (by omega))]
theorem qbk9 : ∀ X : Fin 256, ∀ j : Fin 8, (((Int32.ofNat X.val) >>> ((Int32.ofNat j.val) &&& 31)) &&& 1 = 1) ↔ X.val.testBit j.val = true := by decide +kernel
theorem qbmh : ∀ j : Fin 8, (1 <<< ((Int32.ofNat j.val) &&& 31) : Int32) = Int32.ofNat (1 <<< j.val) := by decide
theorem q7z {x : Int32} {k : Nat} (h : x.toInt = k) (hk : k < 2147483648) : x = Int32.ofNat k := by
  rw [qan, h, Int32.toInt_ofNat_of_lt (by omega)]
theorem qa06 {x : Int32} {X j : Nat} {p : Int32} (hx : x = Int32.ofNat X) (hX : X < 256) (hp : p.toInt = j) (hj : j < 8) : ((x >>> (p &&& 31)) &&& 1 = 1) ↔ X.testBit j = true := by
  rw [hx, q7z hp (by omega)]
  exact qbk9 ⟨X, hX⟩ ⟨j, hj⟩
theorem qaXO {x : Int32} {X j : Nat} {p : Int32} (hx : x = Int32.ofNat X) (hX : X < 256) (hp : p.toInt = j) (hj : j < 8) : x ||| (1 <<< (p &&& 31)) = Int32.ofNat (X ||| (1 <<< j)) := by
  have h1 : 1 <<< j < 256 := by
    rw [Nat.one_shiftLeft]
    have : 2 ^ j ≤ 2 ^ 7 := Nat.pow_le_pow_right (by decide) (by omega)
    have h3 : (2 : Nat) ^ 7 = 128 := by decide
    omega
  have h2 : X ||| (1 <<< j) < 2 ^ 8 := Nat.or_lt_two_pow (by omega) (by omega)
  rw [hx, q7z hp (by omega), qbmh ⟨j, hj⟩, qan]
  have ea : (Int32.ofNat X).toBitVec.toNat = X := by show X % 2 ^ 32 = X; exact Nat.mod_eq_of_lt (by omega)
  have eb : (Int32.ofNat (1 <<< j)).toBitVec.toNat = 1 <<< j := by show (1 <<< j) % 2 ^ 32 = _; exact Nat.mod_eq_of_lt (by omega)
  have e := qaVo (x := Int32.ofNat X ||| Int32.ofNat (1 <<< j)) (by rw [qaOz, ea, eb]; omega)
  rw [e, qaOz, ea, eb, Int32.toInt_ofNat_of_lt (by omega)]
/-! safe forms -/
/-- a fox is near -/
def nrB (F G : Nat → Int) (i : Nat) : Nat → Bool
  | 0 => false
  | k + 1 => nrB F G i k || decide (iab (F (2 * i) - G (2 * k)) + iab (F (2 * i + 1) - G (2 * k + 1)) ≤ 3)
/-- the safe forms' bits -/
def sfN (F G : Nat → Int) (nf nx : Nat) : Nat := orN (fun i => !(nrB F G i nx)) nf
theorem qa0r {F G : Nat → Int} {i k m : Nat} (h : nrB F G i k = true) (hk : k ≤ m) : nrB F G i m = true := by
  induction m with
  | zero => rw [show k = 0 by omega] at h; exact h
  | succ m ih =>
    by_cases z : k = m + 1
    · rw [← z]; exact h
    · show (nrB F G i m || _) = true
      rw [ih (by omega)]; rfl
section ZS
variable {NF NX : Nat} {X Y FX FY fo fx : Nat → Int32} {F G : Nat → Int}
theorem qbkQ {p nx : Int32} {i : Nat} {Q : Int32 → Prop} (hF : ∀ j : Nat, j < 2 * NF → 0 ≤ F j ∧ F j ≤ 30) (hG : ∀ j : Nat, j < 2 * NX → 0 ≤ G j ∧ G j ≤ 30) (h8 : NF ≤ 8) (h4 : NX ≤ 4) (hp : pr NF X Y F) (hx : pr NX FX FY G) (ex : nx.toInt = NX) (ei : p.toInt = i) (hi : i < NF) (q1 : nrB F G i NX = true → Q 1) (q0 : nrB F G i NX = false → Q 0) :
    ∀ (m : Nat) (l2 : Int32) (k : Nat), l2.toInt = k → k ≤ NX → nrB F G i k = false → NX - k < m → qx8 nx X FX Y FY Q m p l2 := by
  intro m
  induction m with
  | zero => intro l2 k h1 h2 h3 h4; omega
  | succ m ih =>
    intro l2 k h1 h2 h3 h5
    refine ⟨fun c => ?_, fun c => ?_⟩
    · rw [qak] at c
      rw [show k = NX by omega] at h3
      exact q0 h3
    rw [qak] at c
    have a1 := hF (2 * i) (by omega)
    have a2 := hF (2 * i + 1) (by omega)
    have a3 := hG (2 * k) (by omega)
    have a4 := hG (2 * k + 1) (by omega)
    obtain ⟨c1, c2⟩ := hp i hi
    obtain ⟨c3, c4⟩ := hx k (by omega)
    refine ⟨qa6 (by omega) (by omega), fun x2 e2 => ⟨qa6 (by omega) (by omega), fun x3 e3 x4 e4 => ⟨qa6 (by omega) (by omega), fun x5 e5 => ⟨qa6 (by omega) (by omega), fun x6 e6 x7 e7 => ?_⟩⟩⟩⟩
    rw [qas ei] at e2 e5
    rw [qas h1] at e3 e6
    rw [← e2] at c1
    rw [← e3] at c3
    rw [← e5] at c2
    rw [← e6] at c4
    have d4 : x4.toInt = iab (x2.toInt - x3.toInt) := by rw [e4]; exact qbcj (by omega) (by omega)
    have d7 : x7.toInt = iab (x5.toInt - x6.toInt) := by rw [e7]; exact qbcj (by omega) (by omega)
    rw [c1, c3] at d4
    rw [c2, c4] at d7
    have b1 := q8g (x := F (2 * i) - G (2 * k)) (m := 30) (by omega) (by omega)
    have b2 := q8g (x := F (2 * i + 1) - G (2 * k + 1)) (m := 30) (by omega) (by omega)
    have es : (x4 + x7).toInt = iab (F (2 * i) - G (2 * k)) + iab (F (2 * i + 1) - G (2 * k + 1)) := by rw [qap (by omega) (by omega), d4, d7]
    refine ⟨fun c9 x9 e9 => ?_, fun c9 => q1 ?_⟩
    · rw [qao, t_3, es] at c9
      refine ih x9 (k + 1) (by rw [e9, qca (by omega), h1]; omega) (by omega) ?_ (by omega)
      show (nrB F G i k || decide _) = false
      rw [h3, Bool.false_or]
      exact decide_eq_false (by omega)
    · rw [qao, t_3, es] at c9
      refine qa0r (k := k + 1) ?_ (by omega)
      show (nrB F G i k || decide _) = true
      rw [h3, Bool.false_or]
      exact decide_eq_true (by omega)
theorem qa2W {nf nx sf : Int32} {Q : Int32 → Prop} (hF : ∀ j : Nat, j < 2 * NF → 0 ≤ F j ∧ F j ≤ 30) (hG : ∀ j : Nat, j < 2 * NX → 0 ≤ G j ∧ G j ≤ 30) (h8 : NF ≤ 8) (h4 : NX ≤ 4) (hp : pr NF X Y F) (hx : pr NX FX FY G) (en : nf.toInt = NF) (ex : nx.toInt = NX) (hq : ∀ r : Int32, r = Int32.ofNat (sfN F G NF NX) → Q r) : qKN nf nx X FX Y FY sf Q := by
  have go : ∀ (m : Nat) (v l1 : Int32) (k : Nat), l1.toInt = k → k ≤ NF → v = Int32.ofNat (orN (fun i => !(nrB F G i NX)) k) → NF - k < m → qqW nf nx X FX Y FY Q m v l1 := by
    intro m
    induction m with
    | zero => intro v l1 k h1 h2 h3 h5; omega
    | succ m ih =>
      intro v l1 k h1 h2 h3 h5
      refine ⟨fun c => ?_, fun c => ?_⟩
      · rw [qak] at c
        rw [show k = NF by omega] at h3
        exact hq v h3
      rw [qak] at c
      have nxt : ∀ x5 : Int32, x5 = l1 + 1 → x5.toInt = ((k + 1 : Nat) : Int) := fun x5 e => by rw [e, qca (by omega), h1]; omega
      refine ⟨5, qbkQ hF hG h8 h4 hp hx ex h1 (by omega) (fun w => ⟨fun _ x5 e5 => ?_, fun z => absurd z (by first | decide | simp)⟩) (fun w => ⟨fun z => absurd rfl z, fun _ x4 e4 x5 e5 => ?_⟩) 5 0 0 t_0 (by omega) rfl (by omega)⟩
      · refine ih v x5 (k + 1) (nxt x5 e5) (by omega) ?_ (by omega)
        unfold orN
        rw [if_neg (by rw [w]; decide)]; exact h3
      · refine ih x4 x5 (k + 1) (nxt x5 e5) (by omega) ?_ (by omega)
        unfold orN
        rw [if_pos (by rw [w]; rfl), e4]
        exact qaXO h3 (q1t (by omega)) h1 (by omega)
  exact ⟨9, go 9 0 0 0 t_0 (by omega) rfl (by omega)⟩
theorem qa9I {p nx : Int32} {i : Nat} {Q : Int32 → Prop} (hF : ∀ j : Nat, j < 2 * NF → 0 ≤ F j ∧ F j ≤ 30) (hG : ∀ j : Nat, j < 2 * NX → 0 ≤ G j ∧ G j ≤ 30) (h8 : NF ≤ 8) (h4 : NX ≤ 4) (hp : pm (2 * NF) fo F) (hx : pm (2 * NX) fx G) (ex : nx.toInt = NX) (ei : p.toInt = i) (hi : i < NF) (q0 : nrB F G i NX = true → Q 0) (q1 : nrB F G i NX = false → Q 1) : qw0 nx fo fx p Q := by
  have go : ∀ (m : Nat) (l2 : Int32) (k : Nat), l2.toInt = k → k ≤ NX → nrB F G i k = false → NX - k < m → qBQ nx fo fx Q m p l2 := by
    intro m
    induction m with
    | zero => intro l2 k h1 h2 h3 h4; omega
    | succ m ih =>
      intro l2 k h1 h2 h3 h5
      refine ⟨fun c => ?_, fun c x2 e2 => ?_⟩
      · rw [qak] at c
        rw [show k = NX by omega] at h3
        exact q1 h3
      rw [qak] at c
      have a1 := hF (2 * i) (by omega)
      have a2 := hF (2 * i + 1) (by omega)
      have a3 := hG (2 * k) (by omega)
      have a4 := hG (2 * k + 1) (by omega)
      have c1 := hp (2 * i) (by omega)
      have c2 := hp (2 * i + 1) (by omega)
      have c3 := hx (2 * k) (by omega)
      have c4 := hx (2 * k + 1) (by omega)
      have i2 : x2.toInt = ((2 * i : Nat) : Int) := by rw [e2]; exact q0N ei (by omega)
      refine ⟨qa6 (by omega) (by omega), fun x3 e3 x4 e4 => ?_⟩
      have i4 : x4.toInt = ((2 * k : Nat) : Int) := by rw [e4]; exact q0N h1 (by omega)
      refine ⟨qa6 (by omega) (by omega), fun x5 e5 => ?_⟩
      rw [qas i2] at e3
      rw [qas i4] at e5
      rw [← e3] at c1
      rw [← e5] at c3
      refine qa0i (by omega) (by omega) (fun r6 d6 x7 e7 x8 e8 => ?_)
      have i8 : x8.toInt = ((2 * i + 1 : Nat) : Int) := by rw [e8]; exact qah1 (by rw [e7]; exact q0N ei (by omega)) (by omega)
      refine ⟨qa6 (by omega) (by omega), fun x9 e9 x10 e10 x11 e11 => ?_⟩
      have i11 : x11.toInt = ((2 * k + 1 : Nat) : Int) := by rw [e11]; exact qah1 (by rw [e10]; exact q0N h1 (by omega)) (by omega)
      refine ⟨qa6 (by omega) (by omega), fun x12 e12 => ?_⟩
      rw [qas i8] at e9
      rw [qas i11] at e12
      rw [← e9] at c2
      rw [← e12] at c4
      refine qa0i (by omega) (by omega) (fun r13 d13 => ?_)
      rw [c1, c3] at d6
      rw [c2, c4] at d13
      have b1 := q8g (x := F (2 * i) - G (2 * k)) (m := 30) (by omega) (by omega)
      have b2 := q8g (x := F (2 * i + 1) - G (2 * k + 1)) (m := 30) (by omega) (by omega)
      have es : (r6 + r13).toInt = iab (F (2 * i) - G (2 * k)) + iab (F (2 * i + 1) - G (2 * k + 1)) := by rw [qap (by omega) (by omega), d6, d13]
      refine ⟨fun c9 x15 e15 => ?_, fun c9 => q0 ?_⟩
      · rw [qao, t_3, es] at c9
        refine ih x15 (k + 1) (by rw [e15, qca (by omega), h1]; omega) (by omega) ?_ (by omega)
        show (nrB F G i k || decide _) = false
        rw [h3, Bool.false_or]
        exact decide_eq_false (by omega)
      · rw [qao, t_3, es] at c9
        refine qa0r (k := k + 1) ?_ (by omega)
        show (nrB F G i k || decide _) = true
        rw [h3, Bool.false_or]
        exact decide_eq_true (by omega)
  exact ⟨5, go 5 0 0 t_0 (by omega) rfl (by omega)⟩
end ZS
def sfD (d : dT) : Int32 := Int32.ofNat (sfN d.2.2.2.2.1 d.2.2.2.2.2.2.1 d.2.1 d.2.2.2.1)
end
section
/-! down, by both, from the same bytes -/
theorem qaNp {n m : Nat} {f : Nat → Int32} {b : Nat → Int} (h : tB m f b) (hn : n ≤ m) : tB n f b := fun j hj => h j (by omega)
section TDv
variable {by_ : Nat → Int32} {ci ln at_ tk fl fa fp p : Int32}
end TDv
/-- what the reference keeps of a down -/
def mG (d : dT) (nf nh nx : Int32) (fo ha fx : NI) : Prop := (nf.toInt = d.2.1 ∧ nh.toInt = d.2.2.1 ∧ nx.toInt = d.2.2.2.1) ∧ pm (2 * d.2.1) fo d.2.2.2.2.1 ∧ pm (2 * d.2.2.1) ha d.2.2.2.2.2.1 ∧ pm (2 * d.2.2.2.1) fx d.2.2.2.2.2.2.1
section TRv
variable {f : Nat → Int32} {th tp fA sz a0 bd0 op nf nh nx bk0 fm hm xm cd bo wo im rs p1 : Int32} {rf db fo ha fx bo0 nw fx0 ha0 fo0 : Nat → Int32} {Q : dQ}
theorem qaji {P : Nat} {t : Nat → Int} (hf : tp.toInt = P) (hP : P ≤ 600) (ht : tB P f t)
    (he : ¬ (0 ≤ p1.toInt ∧ p1.toInt ≤ P) → Q 0 1 (upd rf 1 (rf 1 + 1)) tp fA sz a0 bd0 op nf nh nx db bk0 fm hm xm fo ha fx cd bo wo im rs bo0 nw fx0 ha0 fo0)
    (hbad : 0 ≤ p1.toInt → p1.toInt ≤ P → ∀ n : Nat, p1.toInt = n → (dAll n t).1.1 ≠ 0 → ∀ (at_ bd nf nh nx bk : Int32) (db fx1 ha1 fo1 : NI), bd.toInt = (dAll n t).1.2.1 → bk.toInt = (dAll n t).1.1 → Q (bk - 10) 0 rf 0 bd p1 at_ bd 0 nf nh nx db bk fm hm xm fo ha fx cd bo wo im rs bo0 nw fx1 ha1 fo1)
    (hok : 0 ≤ p1.toInt → p1.toInt ≤ P → ∀ n : Nat, p1.toInt = n → (dAll n t).1.1 = 0 → ∀ (at_ bd nf nh nx bk : Int32) (db fx1 ha1 fo1 g1 g2 g3 bo1 nw1 : NI), bd = -1 → mD (dAll n t) nf nh nx db fx1 ha1 fo1 → mG (dAll n t) nf nh nx g1 g2 g3 → (∀ j : Nat, j < 8 → bo1 j = -1) → (∀ j : Nat, j < 68 → nw1 j = ni (dAll n t).2.2.1 g2 db j) → Q nh 0 rf 0 bd p1 at_ bd 0 nf nh nx db bk nf nh nx g1 g2 g3 0 0 0 0 0 bo1 nw1 fx1 ha1 fo1) :
    qWj f th rf tp fA sz a0 bd0 op nf nh nx db bk0 fm hm xm fo ha fx cd bo wo im rs bo0 nw fx0 ha0 fo0 p1 Q := by
  have bad : ¬ (0 ≤ p1.toInt ∧ p1.toInt ≤ P) → qFa f Q 0 rf tp fA sz a0 bd0 op nf nh nx db bk0 fm hm xm fo ha fx cd bo wo im rs bo0 nw fx0 ha0 fo0 p1 := fun w =>
    ⟨fun z => absurd rfl z, fun _ => ⟨fun z => absurd rfl z, fun _ => ⟨qa6 (by decide) (by decide), fun x3 e3 x4 e4 => ⟨qa6 (by decide) (by decide), fun f5 e5 => ⟨fun _ => ⟨fun z => absurd rfl z, fun _ => by rw [e5, e4, e3]; exact he w⟩, fun z => absurd z (by first | decide | simp)⟩⟩⟩⟩⟩
  refine ⟨fun c => bad (by rw [qao, t_0] at c; omega), fun c => ⟨fun c2 => bad (by rw [qao] at c2; omega), fun c2 => ?_⟩⟩
  rw [qao, t_0] at c
  rw [qao] at c2
  have p0 : 0 ≤ p1.toInt := by omega
  have pP : p1.toInt ≤ P := by omega
  obtain ⟨n, en⟩ : ∃ n : Nat, p1.toInt = n := ⟨p1.toInt.toNat, by omega⟩
  refine ⟨fun _ => ⟨fun z => absurd rfl z, fun _ => ⟨fun _ => ?_, fun z => absurd z (by first | decide | simp)⟩⟩, fun z => absurd z (by first | decide | simp)⟩
  show qHg nf nh nx db _
  refine qaeT (fun y1 y2 y3 db1 e1 e2 e3 e4 => ⟨62, qa4R (n := n) (b := t) (R := dAll n t) en (by omega) (qaNp ht (by omega)) (fun at_ bd bk nf nh nx db fx1 ha1 fo1 hm9 hd9 => ?_) 62 0 (-1) bk0 y1 y2 y3 db1 fx0 ha0 fo0 0 0 ((0, 0, 0), 0, 0, 0, (fun _ => 0), (fun _ => 0), (fun _ => 0), (fun _ => 0)) ⟨⟨0, t_0, by omega, fun _ => rfl⟩, fun _ => rfl, fun w => absurd rfl w⟩ ⟨⟨e1, by decide⟩, ⟨e2, by decide⟩, ⟨e3, by decide⟩, fun _ => ⟨fun j hj => absurd hj (Nat.not_lt_zero j), fun j hj => absurd hj (Nat.not_lt_zero j), fun j hj => absurd hj (Nat.not_lt_zero j), e4⟩⟩ t_0 (by decide) (fun _ => by decide) (by decide) rfl⟩)
  unfold qru qtJ
  refine qnB hm9 (fun h0 => ⟨fun z => absurd z (by first | decide | simp), fun _ => ⟨fun z => absurd (hm9.2.1 h0) z, fun zb => ?_⟩⟩) (fun h0 => ⟨fun _ => ⟨fun _ => hbad p0 pP n en h0 _ _ _ _ _ _ _ _ _ _ (hm9.2.2 h0).1 (hm9.2.2 h0).2, fun z => absurd z (qa30 hm9 h0)⟩, fun z => absurd rfl z⟩)
  obtain ⟨⟨n1, n2⟩, ⟨m1, m2⟩, ⟨x1, x2⟩, hr⟩ := id hd9
  obtain ⟨r1, r2, r3, r4⟩ := hr h0
  refine qbep m1 m2 (fun g1 g2 g3 b9 n9 q1 q2 q3 q4 q5 => hok p0 pP n en h0 _ _ _ _ _ _ _ _ _ _ _ _ _ _ _ zb hd9 ⟨⟨n1, m1, x1⟩, fun j hj => ?_, fun j hj => ?_, fun j hj => ?_⟩ q4 q5)
  · rw [q1 j (by omega)]; exact r1 j hj
  · rw [q2 j (by omega)]; exact r2 j hj
  · rw [q3 j (by omega)]; exact r3 j hj
end TRv
end
section
/-! both states held against each other: the tapes, the downs -/
def relA (fl tp : Int32) (by_ ta : NI) : Prop := ∃ (P : Nat) (t : Nat → Int), fl.toInt = P ∧ tp.toInt = P ∧ P ≤ 600 ∧ tB P by_ t ∧ tB P ta t
theorem q8i {fl tp : Int32} {by_ ta : Nat → Int32} (h1 : fl.toInt = 0) (h2 : tp.toInt = 0) : relA fl tp by_ ta := ⟨0, fun _ => 0, h1, h2, by omega, fun j hj => absurd hj (Nat.not_lt_zero j), fun j hj => absurd hj (Nat.not_lt_zero j)⟩
/-! answers held against each other -/
theorem qblq {fo : Nat → Int64} {r : Int64} : lg_cmp (vp_updL fo (0 : Int32).toNatClampNeg r (0 : Int32).toNatClampNeg) r = 0 := by
  have h := ((qblt (fo := fo) (r := r)).1 rfl).2 rfl _ rfl
  by_cases c : lg_cmp (vp_updL fo (0 : Int32).toNatClampNeg r (0 : Int32).toNatClampNeg) r = 0
  · exact c
  · exact (h.2 c).elim
theorem qbla {G : Prop} {fo f6 : Nat → Int64} {x5 : Int64} {rc rm : Int32} (e5 : x5 = rc.toInt64) (e6 : f6 = vp_updL fo (0 : Int32).toNatClampNeg x5) (h : rc = rm) (g : G) : qOj 0 (fun r56 => ((r56 = 0 → ((¬ (0 : Int32) = 0 → G) ∧ ((0 : Int32) = 0 → ∀ x59 : Int64, x59 = f6 (0 : Int32).toNatClampNeg → (((lg_cmp x59 rm.toInt64) = 0 → G) ∧ (¬ (lg_cmp x59 rm.toInt64) = 0 → False))))) ∧ (¬ r56 = 0 → False))) :=
  ⟨fun _ => ⟨fun c => absurd rfl c, fun _ x59 e59 => ⟨fun _ => g, fun c => c (by rw [e59, e6, e5, h]; exact qblq)⟩⟩, fun c => absurd rfl c⟩
theorem qbkA {G : Prop} {k rm : Int32} {f6 : Nat → Int64} (hk : ¬ k = 0) (g : G) : qOj k (fun r56 => ((r56 = k → ((¬ k = 0 → G) ∧ (k = 0 → ∀ x59 : Int64, x59 = f6 (0 : Int32).toNatClampNeg → (((lg_cmp x59 rm.toInt64) = 0 → G) ∧ (¬ (lg_cmp x59 rm.toInt64) = 0 → False))))) ∧ (¬ r56 = k → False))) :=
  ⟨fun _ => ⟨fun _ => g, fun c => absurd c hk⟩, fun c => absurd rfl c⟩
/-! arguments that are refused -/
theorem qaMH {p a b : Int32} {Q : Int32 → Prop} (q1 : a.toInt ≤ p.toInt → p.toInt ≤ b.toInt → Q 1) (q0 : ¬ (a.toInt ≤ p.toInt ∧ p.toInt ≤ b.toInt) → Q 0) : qqN p a b Q := by
  refine ⟨fun c => q0 ?_, fun c => ⟨fun c2 => q0 ?_, fun c2 => ?_⟩⟩
  · rw [qao] at c; omega
  · rw [qao] at c c2; omega
  · rw [qao] at c c2; exact q1 (by omega) (by omega)
theorem qbaw {p a b : Int32} {Q : Int32 → Prop} (q1 : a.toInt ≤ p.toInt → p.toInt ≤ b.toInt → Q 1) (q0 : ¬ (a.toInt ≤ p.toInt ∧ p.toInt ≤ b.toInt) → Q 0) : qbm p a b Q := by
  refine ⟨fun c => q0 ?_, fun c => ⟨fun c2 => q0 ?_, fun c2 => ?_⟩⟩
  · rw [qao] at c; omega
  · rw [qao] at c c2; omega
  · rw [qao] at c c2; exact q1 (by omega) (by omega)
theorem qbjN {n v p : Int32} {E : String → Int32 → Prop} {Q : Int32 → Prop} (hn : 0 ≤ n.toInt) (he : ¬ (0 ≤ p.toInt ∧ p.toInt < n.toInt) → E "java/util/NoSuchElementException" (v + 1)) (hq : 0 ≤ p.toInt → p.toInt < n.toInt → Q v) : qm3 n v p E Q := by
  have en : (n - 1).toInt = n.toInt - 1 := qqj (by omega)
  refine qaMH (fun h1 h2 => ⟨fun _ => hq ?_ ?_, fun c => absurd c (by decide)⟩) (fun h => ⟨fun c => absurd rfl c, fun _ x e => by rw [e]; exact he (fun w => h (by rw [t_0, en]; omega))⟩)
  · rw [t_0] at h1; exact h1
  · rw [en] at h2; omega
theorem qbcC {p1 p2 p3 : Int32} {rf : Nat → Int32} {Q : Int32 → Int32 → NI → Prop} (h : ¬ p1 = 0) (hq : Q 1 0 rf) : qe6 0 rf p1 p2 p3 Q := ⟨fun _ => ⟨fun z => absurd rfl z, fun _ => hq⟩, fun z => absurd z h⟩
theorem qbdP {p1 p2 p3 : Int32} {k : Nat} {rf : Nat → Int32} {Q : Int32 → Int32 → NI → Prop} (h : p1 = 0) (h2 : ¬ p2 = 0) (h3 : p3.toInt = k) (h4 : k < 2) (hq : Q 0 p2 (upd rf k (rf k + 1))) : qe6 0 rf p1 p2 p3 Q :=
  ⟨fun z => absurd h z, fun _ => ⟨fun z => absurd rfl z, fun _ => ⟨qa6 (by omega) (by omega), fun x3 e3 x4 e4 => ⟨qa6 (by omega) (by omega), fun f5 e5 => ⟨fun _ => by rw [e5, e4, e3, qas h3]; exact hq, fun z => absurd z h2⟩⟩⟩⟩⟩
theorem qa1f {n p p2 : Int32} {rf : Nat → Int32} {Q : Int32 → Int32 → NI → Prop} (hn : 0 ≤ n.toInt) (h2 : ¬ p2 = 0) (he : ¬ (0 ≤ p.toInt ∧ p.toInt < n.toInt) → Q 0 p2 (upd rf 0 (rf 0 + 1))) (hq : 0 ≤ p.toInt → p.toInt < n.toInt → Q 1 0 rf) : qpz n 0 rf p p2 Q := by
  have en : (n - 1).toInt = n.toInt - 1 := qqj (by omega)
  refine qbaw (fun h1 h3 => qbcC (by decide) ⟨by decide, hq ?_ ?_⟩) (fun h => qbdP (k := 0) rfl h2 t_0 (by decide) ⟨by decide, he (fun w => h ?_)⟩)
  · rw [t_0] at h1; exact h1
  · rw [en] at h3; omega
  · rw [t_0, en]; omega
end
section
/-! a law's text: what it says (kinds by the reference's numbers) -/
abbrev lX := sT × List (Int × Int)
def eS (k v : Int) (x : lX) : lX := if x.1.1 ≠ 0 then x else (x.1, x.2 ++ [(k, v)])
/-- the facts' words -/
def fW (w : Int) : Int := if w = 659111367 then 0 else if w = 20587916 then 1 else if w = 515251 then 2 else if w = 515236 then 3 else if w = 524555859 then 4 else if w = 4153 then 5 else if w = 263749 then 6 else if w = 12748307 then 7 else -1
def opt (S : Option (lX → lX)) (bad : lX) (go : (lX → lX) → lX) : lX := match S with
  | none => bad
  | some f => go f
section TL
variable (n : Nat) (b : Nat → Int)
def prG (S : Option (lX → lX)) (k : Int) (s : Nat) (x : lX) : lX := opt S ((3, s, 0), x.2) (fun f => eS k 0 (gS n b 93 (f (gS n b 44 (f (gS n b 91 x.1, x.2)).1, (f (gS n b 91 x.1, x.2)).2)).1, (f (gS n b 44 (f (gS n b 91 x.1, x.2)).1, (f (gS n b 91 x.1, x.2)).2)).2))
def unG (S : Option (lX → lX)) (x : lX) : lX :=
  if x.1.1 ≠ 0 then x
  else if isD (at0 n b (sk n b x.1.2.2)) then eS 0 (nV n b x.1) (nS n b 0 999 x.1, x.2)
  else if at0 n b (sk n b x.1.2.2) = 40 then opt S ((3, sk n b x.1.2.2, 0), x.2) (fun f => (gS n b 41 (f ((0, 0, sk n b x.1.2.2 + 1), x.2)).1, (f ((0, 0, sk n b x.1.2.2 + 1), x.2)).2))
  else if pw n b (sk n b x.1.2.2) = 12748404 then prG n b S 6 (sk n b x.1.2.2) (wE n b x.1, x.2)
  else if pw n b (sk n b x.1.2.2) = 441972 then prG n b S 7 (sk n b x.1.2.2) (wE n b x.1, x.2)
  else if fW (pw n b (sk n b x.1.2.2)) = -1 then ((1, sk n b x.1.2.2, 0), x.2)
  else eS 1 (fW (pw n b (sk n b x.1.2.2))) (wE n b x.1, x.2)
/-- the sign that goes on, or -1 -/
def oP (c : Int) : Int := if c = 42 then 4 else if c = 47 then 5 else if c = 37 then 8 else -1
def oS (c : Int) : Int := if c = 43 then 2 else if c = 45 then 3 else -1
def lpG (op : Int → Int) (u : lX → lX) : Nat → lX → lX
  | 0, x => x
  | k + 1, x => if x.1.1 ≠ 0 ∨ op (at0 n b (sk n b x.1.2.2)) = -1 then x else lpG op u k (eS (op (at0 n b (sk n b x.1.2.2))) 0 (u ((0, 0, sk n b x.1.2.2 + 1), x.2)))
def pdG (S : Option (lX → lX)) (x : lX) : lX := lpG n b oP (unG n b S) 150 (unG n b S x)
def suG (S : Option (lX → lX)) (x : lX) : lX := lpG n b oS (pdG n b S) 150 (pdG n b S x)
def suN : Nat → lX → lX
  | 0 => suG n b none
  | m + 1 => suG n b (some (suN m))
def enS (st : sT) : sT := if st.1 ≠ 0 then st else if sk n b st.2.2 < n then (1, sk n b st.2.2, 0) else st
def q0p : lX := (enS n b (suN n b 6 ((0, 0, 0), [])).1, (suN n b 6 ((0, 0, 0), [])).2)
end TL
/-- a reader of a part of a law: nothing behind a fault; else it goes on, and tells no more words than it reads -/
def gdR (n : Nat) (f : lX → lX) : Prop := ∀ x : lX, (x.1.1 ≠ 0 → f x = x) ∧ (x.1.1 = 0 → x.1.2.2 ≤ n → (f x).1.1 = 0 → x.1.2.2 < (f x).1.2.2 ∧ (f x).1.2.2 ≤ n ∧ (f x).2.length + x.1.2.2 ≤ x.2.length + (f x).1.2.2)
section TLp
variable {n : Nat} {b : Nat → Int}
theorem qaTA {k v : Int} {x : lX} (h : x.1.1 ≠ 0) : eS k v x = x := if_pos h
theorem eS_0 {k v : Int} {x : lX} (h : x.1.1 = 0) : eS k v x = (x.1, x.2 ++ [(k, v)]) := if_neg (fun z => z h)
theorem qDx {k v : Int} {x : lX} : (eS k v x).1 = x.1 := by
  by_cases h : x.1.1 = 0
  · rw [eS_0 h]
  · rw [qaTA h]
theorem q7J {k v : Int} {x : lX} (h : x.1.1 = 0) : (eS k v x).2.length = x.2.length + 1 := by rw [eS_0 h]; simp
theorem qaVl {p : Nat} {c : Int} (h : at0 n b p = c) (hc : c ≠ 0) : p < n := by
  by_cases w : p < n
  · exact w
  · rw [qB6 w] at h; exact absurd h.symm hc
theorem qaUd {c : Int} {st : sT} (hc : c ≠ 0) (h0 : st.1 = 0) (h : (gS n b c st).1 = 0) : st.2.2 < (gS n b c st).2.2 ∧ (gS n b c st).2.2 ≤ n := by
  by_cases w : at0 n b (sk n b st.2.2) = c
  · rw [gS_0 h0 w]
    have h1 := qaVl w hc
    have h2 := (quu (n := n) (b := b) _ st.2.2 rfl).1
    exact ⟨by show st.2.2 < sk n b st.2.2 + 1; omega, by show sk n b st.2.2 + 1 ≤ n; omega⟩
  · rw [gS_1 h0 w] at h; exact absurd h (by first | decide | simp)
theorem qbiS {p : Nat} (h : isD (at0 n b p)) : p < n := by
  by_cases w : p < n
  · exact w
  · rw [qB6 w] at h; omega
theorem qa1C {lo hi : Int} {st : sT} (h0 : st.1 = 0) (h : (nS n b lo hi st).1 = 0) : st.2.2 < (nS n b lo hi st).2.2 ∧ (nS n b lo hi st).2.2 ≤ n := by
  by_cases y : isD (at0 n b (sk n b st.2.2))
  · by_cases w : lo ≤ dv n b (sk n b st.2.2) 0 ∧ dv n b (sk n b st.2.2) 0 ≤ hi
    · rw [nS_0 h0 y w]
      have h1 := qbiS y
      have h2 := (quu (n := n) (b := b) _ st.2.2 rfl).1
      have h3 : dE n b (sk n b st.2.2) = dE n b (sk n b st.2.2 + 1) := qaRZ ⟨h1, by rw [qLt h1] at y; exact y⟩
      have h4 := qa02 (n := n) (b := b) _ (sk n b st.2.2 + 1) rfl
      show st.2.2 < dE n b (sk n b st.2.2) ∧ dE n b (sk n b st.2.2) ≤ n
      rw [h3]; omega
    · rw [nS_2 h0 y w] at h; exact absurd h (by first | decide | simp)
  · rw [nS_1 h0 y] at h; exact absurd h (by first | decide | simp)
/-- a word of one letter and more goes on -/
theorem qash {st : sT} (hw : 0 < pw n b (sk n b st.2.2)) : st.2.2 < (wE n b st).2.2 ∧ (wE n b st).2.2 ≤ n := by
  have h2 := (quu (n := n) (b := b) _ st.2.2 rfl).1
  have h4 := qW2 (n := n) (b := b) (s := 0) _ (sk n b st.2.2) rfl
  have hne : lE n b (sk n b st.2.2) ≠ sk n b st.2.2 := fun e => by
    unfold pw at hw
    rw [e, if_pos (by omega), Nat.sub_self] at hw
    exact absurd hw (show ¬ (0 : Int) < 0 by decide)
  show st.2.2 < lE n b (sk n b st.2.2) ∧ lE n b (sk n b st.2.2) ≤ n
  omega
theorem qaV3 {w : Int} (h : fW w ≠ -1) : 0 < w ∧ 0 ≤ fW w ∧ fW w < 8 := by
  unfold fW at h ⊢
  by_cases h0 : w = 659111367
  · rw [if_pos h0]; omega
  rw [if_neg h0] at h ⊢
  by_cases h1 : w = 20587916
  · rw [if_pos h1]; omega
  rw [if_neg h1] at h ⊢
  by_cases h2 : w = 515251
  · rw [if_pos h2]; omega
  rw [if_neg h2] at h ⊢
  by_cases h3 : w = 515236
  · rw [if_pos h3]; omega
  rw [if_neg h3] at h ⊢
  by_cases h4 : w = 524555859
  · rw [if_pos h4]; omega
  rw [if_neg h4] at h ⊢
  by_cases h5 : w = 4153
  · rw [if_pos h5]; omega
  rw [if_neg h5] at h ⊢
  by_cases h6 : w = 263749
  · rw [if_pos h6]; omega
  rw [if_neg h6] at h ⊢
  by_cases h7 : w = 12748307
  · rw [if_pos h7]; omega
  rw [if_neg h7] at h
  exact absurd rfl h
end TLp
end
section
/-! readers of a law go on, and tell no more than they read -/
section TG
variable {n : Nat} {b : Nat → Int}
theorem qaV2 {f : lX → lX} (hf : gdR n f) {x : lX} (h : (f x).1.1 = 0) : x.1.1 = 0 := by
  by_cases w : x.1.1 = 0
  · exact w
  · rw [(hf x).1 w] at h; exact absurd h w
theorem qbmo {f : lX → lX} (hf : gdR n f) {k : Int} {s : Nat} {x : lX} (h0 : x.1.1 = 0) (h : (prG n b (some f) k s x).1.1 = 0) : x.1.2.2 < (prG n b (some f) k s x).1.2.2 ∧ (prG n b (some f) k s x).1.2.2 ≤ n ∧ (prG n b (some f) k s x).2.length + x.1.2.2 ≤ x.2.length + (prG n b (some f) k s x).1.2.2 := by
  obtain ⟨y1, e1⟩ : ∃ y : lX, y = f (gS n b 91 x.1, x.2) := ⟨_, rfl⟩
  obtain ⟨y3, e3⟩ : ∃ y : lX, y = f (gS n b 44 y1.1, y1.2) := ⟨_, rfl⟩
  have er : prG n b (some f) k s x = eS k 0 (gS n b 93 y3.1, y3.2) := by
    rw [e3, e1]; rfl
  rw [er] at h ⊢
  rw [qDx] at h ⊢
  have h4 : (gS n b 93 y3.1).1 = 0 := h
  have h3 : y3.1.1 = 0 := qlb h4
  have h2 : (gS n b 44 y1.1).1 = 0 := by rw [e3] at h3; exact qaV2 hf h3
  have h1 : y1.1.1 = 0 := qlb h2
  have hz : (gS n b 91 x.1).1 = 0 := by rw [e1] at h1; exact qaV2 hf h1
  have a0 := qaUd (by decide) h0 hz
  have a1 := (hf (gS n b 91 x.1, x.2)).2 hz a0.2 (by rw [← e1]; exact h1)
  rw [← e1] at a1
  have a2 := qaUd (by decide) h1 h2
  have a3 := (hf (gS n b 44 y1.1, y1.2)).2 h2 a2.2 (by rw [← e3]; exact h3)
  rw [← e3] at a3
  have a4 := qaUd (by decide) h3 h4
  have l5 : (eS k 0 (gS n b 93 y3.1, y3.2)).2.length = y3.2.length + 1 := q7J h4
  simp only at a1 a3
  rw [l5]
  show x.1.2.2 < (gS n b 93 y3.1).2.2 ∧ (gS n b 93 y3.1).2.2 ≤ n ∧ y3.2.length + 1 + x.1.2.2 ≤ x.2.length + (gS n b 93 y3.1).2.2
  omega
theorem qaIr {S : Option (lX → lX)} (hS : ∀ f : lX → lX, S = some f → gdR n f) : gdR n (unG n b S) := by
  intro x
  refine ⟨fun h => if_pos h, fun h0 hp h => ?_⟩
  unfold unG at h ⊢
  rw [if_neg (fun z => z h0)] at h ⊢
  by_cases c1 : isD (at0 n b (sk n b x.1.2.2))
  · rw [if_pos c1] at h ⊢
    rw [qDx] at h ⊢
    have h : (nS n b 0 999 x.1).1 = 0 := h
    have a := qa1C h0 h
    have l : (eS 0 (nV n b x.1) (nS n b 0 999 x.1, x.2)).2.length = x.2.length + 1 := q7J h
    rw [l]
    show x.1.2.2 < (nS n b 0 999 x.1).2.2 ∧ (nS n b 0 999 x.1).2.2 ≤ n ∧ x.2.length + 1 + x.1.2.2 ≤ x.2.length + (nS n b 0 999 x.1).2.2
    omega
  rw [if_neg c1] at h ⊢
  by_cases c2 : at0 n b (sk n b x.1.2.2) = 40
  · rw [if_pos c2] at h ⊢
    have hlt := qaVl c2 (by decide)
    have hsk := (quu (n := n) (b := b) _ x.1.2.2 rfl).1
    cases S with
    | none => exact absurd h (show ¬ (3 : Int) = 0 by decide)
    | some f =>
      have hf := hS f rfl
      obtain ⟨y, e⟩ : ∃ y : lX, y = f ((0, 0, sk n b x.1.2.2 + 1), x.2) := ⟨_, rfl⟩
      have h : (gS n b 41 (f ((0, 0, sk n b x.1.2.2 + 1), x.2)).1).1 = 0 := h
      show x.1.2.2 < (gS n b 41 (f ((0, 0, sk n b x.1.2.2 + 1), x.2)).1).2.2 ∧ (gS n b 41 (f ((0, 0, sk n b x.1.2.2 + 1), x.2)).1).2.2 ≤ n ∧ (f ((0, 0, sk n b x.1.2.2 + 1), x.2)).2.length + x.1.2.2 ≤ x.2.length + (gS n b 41 (f ((0, 0, sk n b x.1.2.2 + 1), x.2)).1).2.2
      have h1 : (f ((0, 0, sk n b x.1.2.2 + 1), x.2)).1.1 = 0 := qlb h
      have a1 := (hf ((0, 0, sk n b x.1.2.2 + 1), x.2)).2 rfl (by show sk n b x.1.2.2 + 1 ≤ n; omega) h1
      have a2 := qaUd (by decide) h1 h
      simp only at a1
      rw [← e] at a1 a2 ⊢
      omega
  rw [if_neg c2] at h ⊢
  have pair : ∀ k : Int, 0 < pw n b (sk n b x.1.2.2) → (prG n b S k (sk n b x.1.2.2) (wE n b x.1, x.2)).1.1 = 0 → x.1.2.2 < (prG n b S k (sk n b x.1.2.2) (wE n b x.1, x.2)).1.2.2 ∧ (prG n b S k (sk n b x.1.2.2) (wE n b x.1, x.2)).1.2.2 ≤ n ∧ (prG n b S k (sk n b x.1.2.2) (wE n b x.1, x.2)).2.length + x.1.2.2 ≤ x.2.length + (prG n b S k (sk n b x.1.2.2) (wE n b x.1, x.2)).1.2.2 := fun k hw h => by
    cases S with
    | none => exact absurd h (show ¬ (3 : Int) = 0 by decide)
    | some f =>
      have a := qbmo (b := b) (hS f rfl) (x := (wE n b x.1, x.2)) rfl h
      have w := qash (n := n) (b := b) (st := x.1) hw
      simp only at a
      omega
  by_cases c3 : pw n b (sk n b x.1.2.2) = 12748404
  · rw [if_pos c3] at h ⊢
    exact pair 6 (by rw [c3]; decide) h
  rw [if_neg c3] at h ⊢
  by_cases c4 : pw n b (sk n b x.1.2.2) = 441972
  · rw [if_pos c4] at h ⊢
    exact pair 7 (by rw [c4]; decide) h
  rw [if_neg c4] at h ⊢
  by_cases c5 : fW (pw n b (sk n b x.1.2.2)) = -1
  · rw [if_pos c5] at h; exact absurd h (by first | decide | simp)
  rw [if_neg c5] at h ⊢
  have w := qash (n := n) (b := b) (st := x.1) (qaV3 c5).1
  rw [qDx, q7J (by rfl)]
  show x.1.2.2 < (wE n b x.1).2.2 ∧ (wE n b x.1).2.2 ≤ n ∧ x.2.length + 1 + x.1.2.2 ≤ x.2.length + (wE n b x.1).2.2
  omega
theorem qac9 {op : Int → Int} {u : lX → lX} (hu : gdR n u) (h0 : op 0 = -1) : ∀ (k : Nat) (x : lX), (x.1.1 ≠ 0 → lpG n b op u k x = x) ∧ (x.1.1 = 0 → x.1.2.2 ≤ n → (lpG n b op u k x).1.1 = 0 → x.1.2.2 ≤ (lpG n b op u k x).1.2.2 ∧ (lpG n b op u k x).1.2.2 ≤ n ∧ (lpG n b op u k x).2.length + x.1.2.2 ≤ x.2.length + (lpG n b op u k x).1.2.2) := by
  intro k
  induction k with
  | zero => intro x; exact ⟨fun _ => rfl, fun _ hp _ => ⟨Nat.le_refl _, hp, Nat.le_refl _⟩⟩
  | succ k ih =>
    intro x
    refine ⟨fun w => by unfold lpG; rw [if_pos (Or.inl w)], fun w hp h => ?_⟩
    unfold lpG at h ⊢
    by_cases c : x.1.1 ≠ 0 ∨ op (at0 n b (sk n b x.1.2.2)) = -1
    · rw [if_pos c]; exact ⟨Nat.le_refl _, hp, Nat.le_refl _⟩
    rw [if_neg c] at h ⊢
    have hlt : sk n b x.1.2.2 < n := by
      by_cases z : sk n b x.1.2.2 < n
      · exact z
      · exact absurd (Or.inr (by rw [qB6 z]; exact h0)) c
    have hsk := (quu (n := n) (b := b) _ x.1.2.2 rfl).1
    obtain ⟨y, e⟩ : ∃ y : lX, y = u ((0, 0, sk n b x.1.2.2 + 1), x.2) := ⟨_, rfl⟩
    rw [← e] at h ⊢
    obtain ⟨w9, e9⟩ : ∃ w9 : Int, w9 = op (at0 n b (sk n b x.1.2.2)) := ⟨_, rfl⟩
    rw [← e9] at h ⊢
    have hy : (eS w9 0 y).1.1 = 0 := by
      by_cases z : (eS w9 0 y).1.1 = 0
      · exact z
      · rw [(ih _).1 z] at h; exact h
    have a := (ih (eS w9 0 y)).2 hy
    rw [qDx] at hy a
    have a1 := (hu ((0, 0, sk n b x.1.2.2 + 1), x.2)).2 rfl (by show sk n b x.1.2.2 + 1 ≤ n; omega) (by rw [← e]; exact hy)
    rw [← e] at a1
    simp only at a1
    have a2 := a a1.2.1 h
    rw [q7J hy] at a2
    omega
theorem qaHx {S : Option (lX → lX)} (hS : ∀ f : lX → lX, S = some f → gdR n f) : gdR n (pdG n b S) := by
  intro x
  have hu := qaIr (b := b) hS
  refine ⟨fun h => ?_, fun h0 hp h => ?_⟩
  · show lpG n b oP (unG n b S) 150 (unG n b S x) = x
    rw [(hu x).1 h]; exact (qac9 hu rfl 150 x).1 h
  · have h : (lpG n b oP (unG n b S) 150 (unG n b S x)).1.1 = 0 := h
    have h1 : (unG n b S x).1.1 = 0 := by
      by_cases z : (unG n b S x).1.1 = 0
      · exact z
      · rw [(qac9 hu rfl 150 _).1 z] at h; exact h
    have a1 := (hu x).2 h0 hp h1
    have a2 := (qac9 (b := b) (op := oP) hu rfl 150 (unG n b S x)).2 h1 a1.2.1 h
    show x.1.2.2 < (lpG n b oP (unG n b S) 150 (unG n b S x)).1.2.2 ∧ (lpG n b oP (unG n b S) 150 (unG n b S x)).1.2.2 ≤ n ∧ (lpG n b oP (unG n b S) 150 (unG n b S x)).2.length + x.1.2.2 ≤ x.2.length + (lpG n b oP (unG n b S) 150 (unG n b S x)).1.2.2
    omega
theorem qbjB {S : Option (lX → lX)} (hS : ∀ f : lX → lX, S = some f → gdR n f) : gdR n (suG n b S) := by
  intro x
  have hu := qaHx (b := b) hS
  refine ⟨fun h => ?_, fun h0 hp h => ?_⟩
  · show lpG n b oS (pdG n b S) 150 (pdG n b S x) = x
    rw [(hu x).1 h]; exact (qac9 hu rfl 150 x).1 h
  · have h : (lpG n b oS (pdG n b S) 150 (pdG n b S x)).1.1 = 0 := h
    have h1 : (pdG n b S x).1.1 = 0 := by
      by_cases z : (pdG n b S x).1.1 = 0
      · exact z
      · rw [(qac9 hu rfl 150 _).1 z] at h; exact h
    have a1 := (hu x).2 h0 hp h1
    have a2 := (qac9 (b := b) (op := oS) hu rfl 150 (pdG n b S x)).2 h1 a1.2.1 h
    show x.1.2.2 < (lpG n b oS (pdG n b S) 150 (pdG n b S x)).1.2.2 ∧ (lpG n b oS (pdG n b S) 150 (pdG n b S x)).1.2.2 ≤ n ∧ (lpG n b oS (pdG n b S) 150 (pdG n b S x)).2.length + x.1.2.2 ≤ x.2.length + (lpG n b oS (pdG n b S) 150 (pdG n b S x)).1.2.2
    omega
theorem qS0 : ∀ m : Nat, gdR n (suN n b m) := by
  intro m
  induction m with
  | zero => exact qbjB (fun f h => absurd h (by simp))
  | succ m ih => exact qbjB (fun f h => by rw [← Option.some.inj h]; exact ih)
end TG
end
section
/-! the class's reading of a law -/
def kC (k : Int) : Int := if k = 6 then 7 else if k = 7 then 8 else if k = 8 then 6 else k
def cL (x : lX) (kd vl : NI) (ln : Int32) : Prop := (0 ≤ ln.toInt ∧ ln.toInt ≤ 150) ∧ (x.1.1 = 0 → ln.toInt = (x.2.length : Nat) ∧ ∀ i : Nat, i < x.2.length → (kd i).toInt = kC (x.2.getD i (0, 0)).1 ∧ (vl i).toInt = (x.2.getD i (0, 0)).2)
def wfX (n : Nat) (x : lX) : Prop := x.1.1 = 0 → x.2.length ≤ x.1.2.2 ∧ x.1.2.2 ≤ n
theorem gD_l {l : List (Int × Int)} {a : Int × Int} {i : Nat} (h : i < l.length) : (l ++ [a]).getD i (0, 0) = l.getD i (0, 0) := by
  rw [List.getD_eq_getElem?_getD, List.getD_eq_getElem?_getD, List.getElem?_append_left h]
theorem gD_r {l : List (Int × Int)} {a : Int × Int} : (l ++ [a]).getD l.length (0, 0) = a := by
  rw [List.getD_eq_getElem?_getD, List.getElem?_append_right (Nat.le_refl _), Nat.sub_self]; rfl
theorem qajY {Q : NI → NI → Int32 → Prop} {kd vl : Nat → Int32} {ln p1 p2 : Int32} {x : lX} {k v : Int} (h : cL x kd vl ln) (hk : x.1.1 = 0 → p1.toInt = kC k ∧ p2.toInt = v ∧ x.2.length < 150) (hq : ∀ (kd vl : NI) (ln : Int32), cL (eS k v x) kd vl ln → Q kd vl ln) : qoY kd vl ln p1 p2 Q := by
  obtain ⟨⟨l0, l1⟩, hr⟩ := h
  refine ⟨fun c => hq _ _ _ ?_, fun c => ⟨qa6 l0 (by rw [qak, qV9] at c; omega), fun f2 e2 => ⟨qa6 l0 (by rw [qak, qV9] at c; omega), fun f3 e3 x4 e4 => hq _ _ _ ?_⟩⟩⟩
  · rw [qak, qV9] at c
    by_cases z : x.1.1 = 0
    · have := (hr z).1; have := (hk z).2.2; omega
    · rw [qaTA z]; exact ⟨⟨l0, l1⟩, hr⟩
  · rw [qak, qV9] at c
    have e : x4.toInt = ln.toInt + 1 := by rw [e4]; exact qca (by omega)
    by_cases z : x.1.1 = 0
    · obtain ⟨el, hi⟩ := hr z
      obtain ⟨k1, k2, k3⟩ := hk z
      rw [eS_0 z]
      refine ⟨⟨by omega, by omega⟩, fun _ => ⟨?_, fun i h9 => ?_⟩⟩
      · show x4.toInt = ((x.2 ++ [(k, v)]).length : Nat)
        rw [List.length_append]
        show x4.toInt = ((x.2.length + 1 : Nat) : Int)
        omega
      · have h9 : i < (x.2 ++ [(k, v)]).length := h9
        rw [List.length_append] at h9
        have h9 : i < x.2.length + 1 := h9
        show (f2 i).toInt = kC ((x.2 ++ [(k, v)]).getD i (0, 0)).1 ∧ (f3 i).toInt = ((x.2 ++ [(k, v)]).getD i (0, 0)).2
        rw [e2, e3, qas el]
        by_cases y : i = x.2.length
        · rw [y, pk_us, pk_us, gD_r]; exact ⟨k1, k2⟩
        · rw [pk_un y, pk_un y, gD_l (by omega)]; exact hi i (by omega)
    · rw [qaTA z]; exact ⟨⟨by omega, by omega⟩, fun w => absurd w z⟩
section TC
variable {n : Nat} {b : Nat → Int} {st : sT} {len : Int32} {f : Nat → Int32}
theorem qA2 {Q : Int32 → Int32 → Int32 → Prop} {a tk fa fp c : Int32} (hl : len.toInt = n) (hn : n ≤ 600) (hb : tB n f b) (h : cS n b st a fa fp) (hc : 1 ≤ c.toInt ∧ c.toInt ≤ 127)
    (q0 : (st.1 ≠ 0 ∨ at0 n b (sk n b st.2.2) ≠ c.toInt) → ∀ x : Int32, cS n b st x fa fp → Q 0 x tk)
    (q1 : st.1 = 0 → at0 n b (sk n b st.2.2) = c.toInt → ∀ x t : Int32, cS n b (0, 0, sk n b st.2.2 + 1) x fa fp → t.toInt = (sk n b st.2.2 : Nat) → Q 1 x t) : qqe len fa f a tk c Q := by
  obtain ⟨⟨q, e, hq6, es⟩, ef, e0, e1⟩ := id h
  have hs := qNi (b := b) hq6 hn
  refine qy4 hl hn hb e hq6 (fun x1 ex => ⟨fun z => ⟨fun d => absurd rfl d, fun _ => ?_⟩, fun z => ⟨fun _ => ?_, fun d => absurd d (by first | decide | simp)⟩⟩)
  · have hz : st.1 = 0 := by rw [← ef, z, t_0]
    rw [es hz] at ex hs
    have same : cS n b st x1 fa fp := ⟨qC3 ex hs (fun _ => qauv), ef, e0, e1⟩
    refine ⟨fun c1 => q0 (Or.inr ?_) x1 same, fun c1 => ?_⟩
    · rw [qak] at c1
      rw [qB6 (by omega)]; omega
    rw [qak] at c1
    have hp : sk n b st.2.2 < n := by omega
    have hw := hb _ hp
    unfold cR at hw
    refine ⟨qa6 (by omega) (by omega), fun x5 e5 => ⟨fun c5 x7 e7 => ?_, fun c5 => q0 (Or.inr ?_) x1 same⟩⟩
    · rw [qas ex] at e5
      rw [e5, qan] at c5
      exact q1 hz (by rw [qLt hp]; omega) x7 x1 ⟨qC3 (s := sk n b st.2.2 + 1) (by rw [e7, qca (by omega), ex]; omega) (by omega) (fun _ => rfl), ef.trans hz, fun _ => e0 hz, fun d => absurd rfl d⟩ ex
    · rw [qas ex] at e5
      rw [e5, qan] at c5
      rw [qLt hp]; omega
  · have hz : st.1 ≠ 0 := fun w => z (qWF h w)
    exact q0 (Or.inl hz) x1 ⟨qC3 ex hs (fun w => absurd w hz), ef, e0, e1⟩
theorem qbaN {Q : Int32 → Int32 → Prop} {a fa fp : Int32} (hl : len.toInt = n) (hn : n ≤ 600) (hb : tB n f b) (h : cS n b st a fa fp)
    (q0 : (st.1 = 0 → ¬ isD (at0 n b (sk n b st.2.2))) → ∀ x : Int32, cS n b st x fa fp → Q 0 x)
    (q1 : (st.1 = 0 → isD (at0 n b (sk n b st.2.2))) → ∀ x : Int32, cS n b st x fa fp → Q 1 x) : qG9 len f a Q := by
  obtain ⟨⟨q, e, hq6, es⟩, ef, e0, e1⟩ := id h
  have hs := qNi (b := b) hq6 hn
  refine qy4 hl hn hb e hq6 (fun x1 ex => ?_)
  have same : cS n b st x1 fa fp := ⟨qC3 ex hs (fun w => by rw [qauv]; exact es w), ef, e0, e1⟩
  refine qagd hl hn hb ex (fun y r er => ⟨fun c => ?_, fun c => q1 (fun w => by rw [es w] at y; exact y) x1 same⟩) (fun y => ⟨fun c => q0 (fun w => by rw [es w] at y; exact y) x1 same, fun c => absurd (by decide) c⟩)
  rw [qao, t_0] at c; omega
/-- a word that is asked for, also behind a fault -/
theorem qw1 {Q : Int32 → Int32 → Int32 → Prop} {m : Nat} {z : Nat → Int32} {c : Int} {a fa fp tk : Int32} (hl : len.toInt = n) (hn : n ≤ 600) (hb : tB n f b) (hw : wK n b m z c) (h : cS n b st a fa fp)
    (q0 : (st.1 = 0 → pw n b (sk n b st.2.2) ≠ c) → ∀ x : Int32, cS n b st x fa fp → Q 0 x tk)
    (q1 : st.1 = 0 → pw n b (sk n b st.2.2) = c → ∀ x t : Int32, cS n b (wE n b st) x fa fp → t.toInt = (sk n b st.2.2 : Nat) → Q 1 x t) : qbL m z len fa f a tk Q := by
  by_cases h0 : st.1 = 0
  · exact qaxr hl hn hb hw h h0 (fun w => q0 (fun _ => w)) (q1 h0)
  · obtain ⟨⟨q, e, hq6, es⟩, ef, e0, e1⟩ := id h
    have hs := qNi (b := b) hq6 hn
    exact qbdO hl hn hb e hq6 hw.1 (fun w x ex => q0 (fun d => absurd d h0) x ⟨qC3 ex hs (fun w => absurd w h0), ef, e0, e1⟩) (fun d => absurd d (qbkP h h0))
theorem qa5r : wSt 6 q5w (fun j => (q5w j).toInt) := ⟨by decide, by decide, by decide, by decide⟩
theorem qbcg : wSt 5 q4R (fun j => (q4R j).toInt) := ⟨by decide, by decide, by decide, by decide⟩
theorem qbgp : wSt 4 q5h (fun j => (q5h j).toInt) := ⟨by decide, by decide, by decide, by decide⟩
theorem qbha : wSt 4 q5f (fun j => (q5f j).toInt) := ⟨by decide, by decide, by decide, by decide⟩
theorem qa81 : wSt 6 qVM (fun j => (qVM j).toInt) := ⟨by decide, by decide, by decide, by decide⟩
theorem qbkd : wSt 3 qVK (fun j => (qVK j).toInt) := ⟨by decide, by decide, by decide, by decide⟩
theorem qbfP : wSt 4 qVI (fun j => (qVI j).toInt) := ⟨by decide, by decide, by decide, by decide⟩
theorem qbbj : wSt 5 qVm (fun j => (qVm j).toInt) := ⟨by decide, by decide, by decide, by decide⟩
theorem qbbc : wSt 5 qR1 (fun j => (qR1 j).toInt) := ⟨by decide, by decide, by decide, by decide⟩
theorem qbgU : wSt 4 qRD (fun j => (qRD j).toInt) := ⟨by decide, by decide, by decide, by decide⟩
theorem qa93 : wK n b 6 q5w 659111367 := wK_6 qa5r (by decide)
theorem qbb4 : wK n b 5 q4R 20587916 := wK_5 qbcg (by decide)
theorem qbfj : wK n b 4 q5h 515251 := wK_4 qbgp (by decide)
theorem qbho : wK n b 4 q5f 515236 := wK_4 qbha (by decide)
theorem qa4j : wK n b 6 qVM 524555859 := wK_6 qa81 (by decide)
theorem qbiM : wK n b 3 qVK 4153 := wK_3 qbkd (by decide)
theorem qbg6 : wK n b 4 qVI 263749 := wK_4 qbfP (by decide)
theorem qbbJ : wK n b 5 qVm 12748307 := wK_5 qbbj (by decide)
theorem qau9 : wK n b 5 qR1 12748404 := wK_5 qbbc (by decide)
theorem qaRw : wK n b 4 qRD 441972 := wK_4 qbgU (by decide)
abbrev lQ := Int32 → Int32 → Int32 → Int32 → NI → NI → Int32 → Prop
/-- a fact, behind what is no digit, no sign and no other word -/
theorem qa3o {Q : lQ} {a tk fa fp ln : Int32} {kd vl : Nat → Int32} {cs : List (Int × Int)} (hl : len.toInt = n) (hn : n ≤ 150) (hb : tB n f b) (h : cS n b st a fa fp) (hL : cL (st, cs) kd vl ln) (hw : wfX n (st, cs))
    (hq : ∀ (a t fa fp : Int32) (kd vl : NI) (ln : Int32) (y : lX), (st.1 ≠ 0 → y = (st, cs)) → (st.1 = 0 → fW (pw n b (sk n b st.2.2)) = -1 → y = ((1, sk n b st.2.2, 0), cs)) → (st.1 = 0 → fW (pw n b (sk n b st.2.2)) ≠ -1 → y = eS 1 (fW (pw n b (sk n b st.2.2))) (wE n b st, cs)) → cS n b y.1 a fa fp → cL y kd vl ln → Q a t fa fp kd vl ln) : qEP len f a tk fa fp kd vl ln Q := by
  have hn6 : n ≤ 600 := by omega
  have one : ∀ (c v : Int) (p2 x t : Int32), st.1 = 0 → pw n b (sk n b st.2.2) = c → fW c = v → v ≠ -1 → p2.toInt = v → cS n b (wE n b st) x fa fp → qoY kd vl ln 1 p2 (fun f44 f45 x46 => Q x t fa fp f44 f45 x46) := fun c v p2 x t h0 e ev hv ep hc => by
    have w := hw h0
    have g := qash (n := n) (b := b) (st := st) (qaV3 (by rw [e, ev]; exact hv)).1
    refine qajY (x := (wE n b st, cs)) (k := 1) (v := v) ⟨hL.1, fun _ => hL.2 h0⟩ (fun _ => ⟨by decide, ep, by show cs.length < 150; have : cs.length ≤ st.2.2 := w.1; omega⟩) (fun kd2 vl2 ln2 hc2 => hq x t fa fp kd2 vl2 ln2 (eS 1 v (wE n b st, cs)) (fun d => absurd h0 d) (fun _ d => absurd (by rw [e, ev] at d; exact d) hv) (fun _ _ => by rw [e, ev]) ?_ hc2)
    rw [qDx]; exact hc
  refine qw1 hl hn6 hb qa93 h (fun w1 y1 c1 => ⟨fun _ => ?_, fun d => absurd rfl d⟩) (fun h0 e y1 t1 c1 _ => ⟨fun d => absurd d (by first | decide | simp), fun _ => one _ 0 0 y1 t1 h0 e rfl (by decide) t_0 c1⟩)
  refine qw1 hl hn6 hb qbb4 c1 (fun w2 y2 c2 => ⟨fun _ => ?_, fun d => absurd rfl d⟩) (fun h0 e y2 t2 c2 _ => ⟨fun d => absurd d (by first | decide | simp), fun _ => one _ 1 1 y2 t2 h0 e rfl (by decide) t_1 c2⟩)
  refine qw1 hl hn6 hb qbfj c2 (fun w3 y3 c3 => ⟨fun _ => ?_, fun d => absurd rfl d⟩) (fun h0 e y3 t3 c3 _ => ⟨fun d => absurd d (by first | decide | simp), fun _ => one _ 2 2 y3 t3 h0 e rfl (by decide) t_2 c3⟩)
  refine qw1 hl hn6 hb qbho c3 (fun w4 y4 c4 => ⟨fun _ => ?_, fun d => absurd rfl d⟩) (fun h0 e y4 t4 c4 _ => ⟨fun d => absurd d (by first | decide | simp), fun _ => one _ 3 3 y4 t4 h0 e rfl (by decide) t_3 c4⟩)
  refine qw1 hl hn6 hb qa4j c4 (fun w5 y5 c5 => ⟨fun _ => ?_, fun d => absurd rfl d⟩) (fun h0 e y5 t5 c5 _ => ⟨fun d => absurd d (by first | decide | simp), fun _ => one _ 4 4 y5 t5 h0 e rfl (by decide) t_4 c5⟩)
  refine qw1 hl hn6 hb qbiM c5 (fun w6 y6 c6 => ⟨fun _ => ?_, fun d => absurd rfl d⟩) (fun h0 e y6 t6 c6 _ => ⟨fun d => absurd d (by first | decide | simp), fun _ => one _ 5 5 y6 t6 h0 e rfl (by decide) t_5 c6⟩)
  refine qw1 hl hn6 hb qbg6 c6 (fun w7 y7 c7 => ⟨fun _ => ?_, fun d => absurd rfl d⟩) (fun h0 e y7 t7 c7 _ => ⟨fun d => absurd d (by first | decide | simp), fun _ => one _ 6 6 y7 t7 h0 e rfl (by decide) t_6 c7⟩)
  refine qw1 hl hn6 hb qbbJ c7 (fun w8 y8 c8 => ⟨fun _ => ?_, fun d => absurd rfl d⟩) (fun h0 e y8 t8 c8 _ => ⟨fun d => absurd d (by first | decide | simp), fun _ => one _ 7 7 y8 t8 h0 e rfl (by decide) t_7 c8⟩)
  refine q2b hl hn6 hb c8 (fun x fa2 fp2 c9 => ?_)
  have hno : st.1 = 0 → fW (pw n b (sk n b st.2.2)) = -1 := fun h0 => by
    unfold fW
    rw [if_neg (w1 h0), if_neg (w2 h0), if_neg (w3 h0), if_neg (w4 h0), if_neg (w5 h0), if_neg (w6 h0), if_neg (w7 h0), if_neg (w8 h0)]
  by_cases h0 : st.1 = 0
  · rw [q8e h0] at c9
    exact hq _ _ _ _ _ _ _ ((1, sk n b st.2.2, 0), cs) (fun d => absurd h0 d) (fun _ _ => rfl) (fun _ d => absurd (hno h0) d) c9 ⟨hL.1, fun d => absurd d (by first | decide | simp)⟩
  · rw [qadc h0] at c9
    exact hq _ _ _ _ _ _ _ (st, cs) (fun _ => rfl) (fun d => absurd d h0) (fun d => absurd d h0) c9 hL
end TC
end
section
/-! the class's sums, products, units of a law, by depth -/
abbrev cR7 := Int32 → NI → Int32 → Int32 → Int32 → Int32 → NI → NI → Int32 → Int32 → lQ → Prop
/-- a reader of the class does what g says -/
def CR (n : Nat) (b : Nat → Int) (len : Int32) (f : NI) (o : Int) (g : lX → lX) (R : cR7) : Prop := ∀ (a tk fa fp : Int32) (kd vl : NI) (ln p : Int32) (x : lX) (Q : lQ), cS n b x.1 a fa fp → cL x kd vl ln → p.toInt = o → wfX n x → (∀ (a t fa fp : Int32) (kd vl : NI) (ln : Int32), cS n b (g x).1 a fa fp → cL (g x) kd vl ln → Q a t fa fp kd vl ln) → R len f a tk fa fp kd vl ln p Q
section TU
variable {n : Nat} {b : Nat → Int} {len : Int32} {f : Nat → Int32}
theorem qayZ {S : Option (lX → lX)} {x : lX} (h : x.1.1 ≠ 0) : unG n b S x = x := if_pos h
theorem qbbB {S : Option (lX → lX)} {x : lX} (w : x.1.1 = 0 → isD (at0 n b (sk n b x.1.2.2))) : unG n b S x = eS 0 (nV n b x.1) (nS n b 0 999 x.1, x.2) := by
  by_cases h : x.1.1 = 0
  · unfold unG; rw [if_neg (fun z => z h), if_pos (w h)]
  · rw [qayZ h, qaBJ h, qaTA h]
theorem qbbu {S : Option (lX → lX)} {x : lX} (h : x.1.1 = 0) (w0 : ¬ isD (at0 n b (sk n b x.1.2.2))) (w : at0 n b (sk n b x.1.2.2) = 40) : unG n b S x = opt S ((3, sk n b x.1.2.2, 0), x.2) (fun f => (gS n b 41 (f ((0, 0, sk n b x.1.2.2 + 1), x.2)).1, (f ((0, 0, sk n b x.1.2.2 + 1), x.2)).2)) := by
  unfold unG; rw [if_neg (fun z => z h), if_neg w0, if_pos w]
theorem qbbD {S : Option (lX → lX)} {x : lX} (h : x.1.1 = 0) (w0 : ¬ isD (at0 n b (sk n b x.1.2.2))) (w1 : at0 n b (sk n b x.1.2.2) ≠ 40) (w : pw n b (sk n b x.1.2.2) = 12748404) : unG n b S x = prG n b S 6 (sk n b x.1.2.2) (wE n b x.1, x.2) := by
  unfold unG; rw [if_neg (fun z => z h), if_neg w0, if_neg w1, if_pos w]
theorem qbbm {S : Option (lX → lX)} {x : lX} (h : x.1.1 = 0) (w0 : ¬ isD (at0 n b (sk n b x.1.2.2))) (w1 : at0 n b (sk n b x.1.2.2) ≠ 40) (w : pw n b (sk n b x.1.2.2) = 441972) : unG n b S x = prG n b S 7 (sk n b x.1.2.2) (wE n b x.1, x.2) := by
  unfold unG; rw [if_neg (fun z => z h), if_neg w0, if_neg w1, if_neg (by omega), if_pos w]
theorem qbbp {S : Option (lX → lX)} {x : lX} (h : x.1.1 = 0) (w0 : ¬ isD (at0 n b (sk n b x.1.2.2))) (w1 : at0 n b (sk n b x.1.2.2) ≠ 40) (w2 : pw n b (sk n b x.1.2.2) ≠ 12748404) (w3 : pw n b (sk n b x.1.2.2) ≠ 441972) : unG n b S x = if fW (pw n b (sk n b x.1.2.2)) = -1 then ((1, sk n b x.1.2.2, 0), x.2) else eS 1 (fW (pw n b (sk n b x.1.2.2))) (wE n b x.1, x.2) := by
  unfold unG; rw [if_neg (fun z => z h), if_neg w0, if_neg w1, if_neg w2, if_neg w3]
theorem qalP {x : lX} {st : sT} {kd vl : Nat → Int32} {ln : Int32} (h : cL x kd vl ln) (hs : st.1 = 0 → x.1.1 = 0) : cL (st, x.2) kd vl ln := ⟨h.1, fun z => h.2 (hs z)⟩
theorem qa9p {c : Int} {x : lX} (hc : c ≠ 0) (h : wfX n x) : wfX n (gS n b c x.1, x.2) := fun z => by
  have h0 := qlb z
  have a := qaUd hc h0 z
  have w := h h0
  show x.2.length ≤ (gS n b c x.1).2.2 ∧ (gS n b c x.1).2.2 ≤ n
  omega
theorem q0m {g : lX → lX} (hg : gdR n g) {x : lX} (h : wfX n x) : wfX n (g x) := fun z => by
  have h0 := qaV2 hg z
  have w := h h0
  have a := (hg x).2 h0 w.2 z
  omega
theorem cp_g {RS : cR7} {g : lX → lX} {o : Int} (hl : len.toInt = n) (hn : n ≤ 150) (hb : tB n f b) (ho : o + 1 ≤ 6) (hg : gdR n g) (hR : CR n b len f (o + 1) g RS) {a tk fa fp ln p p3 : Int32} {kd vl : Nat → Int32} {x : lX} {Q : lQ} {k : Int} {s : Nat} (hc : cS n b x.1 a fa fp) (hL : cL x kd vl ln) (hp : p.toInt = o) (hw : wfX n x) (hk : p3.toInt = kC k)
    (hq : ∀ (a t fa fp : Int32) (kd vl : NI) (ln : Int32), cS n b (prG n b (some g) k s x).1 a fa fp → cL (prG n b (some g) k s x) kd vl ln → Q a t fa fp kd vl ln) : qBg RS len f a tk fa fp kd vl ln p p3 Q := by
  have hn6 : n ≤ 600 := by omega
  obtain ⟨y1, e1⟩ : ∃ y : lX, y = g (gS n b 91 x.1, x.2) := ⟨_, rfl⟩
  obtain ⟨y3, e3⟩ : ∃ y : lX, y = g (gS n b 44 y1.1, y1.2) := ⟨_, rfl⟩
  have er : prG n b (some g) k s x = eS k 0 (gS n b 93 y3.1, y3.2) := by rw [e3, e1]; rfl
  rw [er] at hq
  have ep : ∀ z : Int32, z = p + 1 → z.toInt = o + 1 := fun z e => by rw [e, qca (by omega), hp]
  have w0 : wfX n (gS n b 91 x.1, x.2) := qa9p (by decide) hw
  have w1 : wfX n y1 := by rw [e1]; exact q0m hg w0
  have w2 : wfX n (gS n b 44 y1.1, y1.2) := qa9p (by decide) w1
  have w3 : wfX n y3 := by rw [e3]; exact q0m hg w2
  have w4 : wfX n (gS n b 93 y3.1, y3.2) := qa9p (by decide) w3
  refine ⟨fun _ => qCS hl hn6 hb hc (by decide) (fun x2 x3 x4 x5 c2 x6 e6 => ?_), fun c => ?_⟩
  · rw [t_91] at c2
    refine hR x2 x3 x4 x5 kd vl ln x6 (gS n b 91 x.1, x.2) _ c2 (qalP hL qlb) (ep x6 e6) w0 (fun x7 x8 x9 x10 f11 f12 x13 c7 l7 => ?_)
    rw [← e1] at c7 l7
    refine qCS hl hn6 hb c7 (by decide) (fun x14 x15 x16 x17 c14 x18 e18 => ?_)
    rw [t_44] at c14
    refine hR x14 x15 x16 x17 f11 f12 x13 x18 (gS n b 44 y1.1, y1.2) _ c14 (qalP l7 qlb) (ep x18 e18) w2 (fun x19 x20 x21 x22 f23 f24 x25 c19 l19 => ?_)
    rw [← e3] at c19 l19
    refine qCS hl hn6 hb c19 (by decide) (fun x26 x27 x28 x29 c26 => ?_)
    rw [t_93] at c26
    refine qajY (x := (gS n b 93 y3.1, y3.2)) (k := k) (v := 0) (qalP l19 qlb) (fun z => ⟨hk, t_0, ?_⟩) (fun kd2 vl2 ln2 h2 => hq _ _ _ _ _ _ _ (by rw [qDx]; exact c26) h2)
    have h3 := qlb z
    have a3 := qaUd (n := n) (b := b) (c := 93) (by decide) h3 z
    have w9 := w3 h3
    show y3.2.length < 150
    omega
  · rw [qao, t_6] at c; omega
theorem cu_g {RS : cR7} {g : lX → lX} {o : Int} (hl : len.toInt = n) (hn : n ≤ 150) (hb : tB n f b) (h0o : 0 ≤ o) (ho : o + 1 ≤ 6) (hg : gdR n g) (hR : CR n b len f (o + 1) g RS) : CR n b len f o (unG n b (some g)) (qwR RS) := by
  intro a tk fa fp kd vl ln p x Q hc hL hp hw hq
  have hn6 : n ≤ 600 := by omega
  refine qbaN hl hn6 hb hc (fun w0 y0 c0 => ⟨fun _ => ?_, fun d => absurd rfl d⟩) (fun w0 y0 c0 => ⟨fun d => absurd d (by first | decide | simp), fun _ => ?_⟩)
  · refine qA2 hl hn6 hb c0 (by decide) (fun w1 y1 c1 => ⟨fun _ => ?_, fun d => absurd rfl d⟩) (fun h0 e y1 t1 c1 et => ⟨fun d => absurd d (by first | decide | simp), fun _ => ?_⟩)
    · have w1 : x.1.1 = 0 → at0 n b (sk n b x.1.2.2) ≠ 40 := fun h => by rw [t_40] at w1; exact w1.resolve_left (fun d => d h)
      refine qw1 hl hn6 hb qau9 c1 (fun w2 y2 c2 => ⟨fun _ => ?_, fun d => absurd rfl d⟩) (fun h0 e y2 t2 c2 et => ⟨fun d => absurd d (by first | decide | simp), fun _ => ?_⟩)
      · refine qw1 hl hn6 hb qaRw c2 (fun w3 y3 c3 => ⟨fun _ => ?_, fun d => absurd rfl d⟩) (fun h0 e y3 t3 c3 et => ⟨fun d => absurd d (by first | decide | simp), fun _ => ?_⟩)
        · refine qa3o (st := x.1) (cs := x.2) hl hn hb c3 hL hw (fun a2 t2 fa2 fp2 kd2 vl2 ln2 y g1 g2 g3 c4 l4 => ?_)
          have ey : y = unG n b (some g) x := by
            by_cases h0 : x.1.1 = 0
            · rw [qbbp h0 (w0 h0) (w1 h0) (w2 h0) (w3 h0)]
              by_cases z : fW (pw n b (sk n b x.1.2.2)) = -1
              · rw [if_pos z]; exact g2 h0 z
              · rw [if_neg z]; exact g3 h0 z
            · rw [qayZ h0]; exact g1 h0
          rw [ey] at c4 l4
          exact hq _ _ _ _ _ _ _ c4 l4
        · rw [qbbm h0 (w0 h0) (w1 h0) e] at hq
          exact cp_g hl hn hb ho hg hR (x := (wE n b x.1, x.2)) c3 (qalP hL (fun _ => h0)) hp (fun _ => ⟨by show x.2.length ≤ (wE n b x.1).2.2; have := hw h0; have := qash (n := n) (b := b) (st := x.1) (by rw [e]; decide); omega, (qash (n := n) (b := b) (st := x.1) (by rw [e]; decide)).2⟩) (by decide) hq
      · rw [qbbD h0 (w0 h0) (w1 h0) e] at hq
        exact cp_g hl hn hb ho hg hR (x := (wE n b x.1, x.2)) c2 (qalP hL (fun _ => h0)) hp (fun _ => ⟨by show x.2.length ≤ (wE n b x.1).2.2; have := hw h0; have := qash (n := n) (b := b) (st := x.1) (by rw [e]; decide); omega, (qash (n := n) (b := b) (st := x.1) (by rw [e]; decide)).2⟩) (by decide) hq
    · rw [t_40] at e
      rw [qbbu h0 (w0 h0) e] at hq
      refine ⟨fun _ x2 e2 => ?_, fun c => ?_⟩
      · have hlt := qaVl e (by decide)
        have hsk := (quu (n := n) (b := b) _ x.1.2.2 rfl).1
        refine hR y1 t1 fa fp kd vl ln x2 ((0, 0, sk n b x.1.2.2 + 1), x.2) _ c1 (qalP hL (fun _ => h0)) (by rw [e2, qca (by omega), hp]) (fun _ => ⟨by show x.2.length ≤ sk n b x.1.2.2 + 1; have := hw h0; omega, by show sk n b x.1.2.2 + 1 ≤ n; omega⟩) (fun x3 x4 x5 x6 f7 f8 x9 c7 l7 => ?_)
        refine qCS hl hn6 hb c7 (by decide) (fun x10 x11 x12 x13 c10 => ?_)
        rw [t_41] at c10
        exact hq _ _ _ _ _ _ _ c10 (qalP l7 qlb)
      · rw [qao, t_6] at c; omega
  · rw [qbbB w0] at hq
    refine qqK hl hn6 hb c0 (by decide) (by decide) (fun r x46 x47 x48 x49 c1 v1 => ?_)
    rw [t_0, qbI] at c1 v1
    refine qajY (x := (nS n b 0 999 x.1, x.2)) (k := 0) (v := nV n b x.1) (qalP hL (fun z => (qdE z).1)) (fun z => ⟨by decide, (v1 z).1, ?_⟩) (fun kd2 vl2 ln2 h2 => hq _ _ _ _ _ _ _ (by rw [qDx]; exact c1) h2)
    have h0 := (qdE z).1
    have a1 := qa1C (n := n) (b := b) h0 z
    have w := hw h0
    show x.2.length < 150
    omega
theorem cu_0 (hl : len.toInt = n) (hn : n ≤ 150) (hb : tB n f b) : CR n b len f 6 (unG n b none) (qvN) := by
  intro a tk fa fp kd vl ln p x Q hc hL hp hw hq
  have hn6 : n ≤ 600 := by omega
  refine qbaN hl hn6 hb hc (fun w0 y0 c0 => ⟨fun _ => ?_, fun d => absurd rfl d⟩) (fun w0 y0 c0 => ⟨fun d => absurd d (by first | decide | simp), fun _ => ?_⟩)
  · refine qA2 hl hn6 hb c0 (by decide) (fun w1 y1 c1 => ⟨fun _ => ?_, fun d => absurd rfl d⟩) (fun h0 e y1 t1 c1 et => ⟨fun d => absurd d (by first | decide | simp), fun _ => ?_⟩)
    · have w1 : x.1.1 = 0 → at0 n b (sk n b x.1.2.2) ≠ 40 := fun h => by rw [t_40] at w1; exact w1.resolve_left (fun d => d h)
      refine qw1 hl hn6 hb qau9 c1 (fun w2 y2 c2 => ⟨fun _ => ?_, fun d => absurd rfl d⟩) (fun h0 e y2 t2 c2 et => ⟨fun d => absurd d (by first | decide | simp), fun _ => ?_⟩)
      · refine qw1 hl hn6 hb qaRw c2 (fun w3 y3 c3 => ⟨fun _ => ?_, fun d => absurd rfl d⟩) (fun h0 e y3 t3 c3 et => ⟨fun d => absurd d (by first | decide | simp), fun _ => ?_⟩)
        · refine qa3o (st := x.1) (cs := x.2) hl hn hb c3 hL hw (fun a2 t2 fa2 fp2 kd2 vl2 ln2 y g1 g2 g3 c4 l4 => ?_)
          have ey : y = unG n b none x := by
            by_cases h0 : x.1.1 = 0
            · rw [qbbp h0 (w0 h0) (w1 h0) (w2 h0) (w3 h0)]
              by_cases z : fW (pw n b (sk n b x.1.2.2)) = -1
              · rw [if_pos z]; exact g2 h0 z
              · rw [if_neg z]; exact g3 h0 z
            · rw [qayZ h0]; exact g1 h0
          rw [ey] at c4 l4
          exact hq _ _ _ _ _ _ _ c4 l4
        · rw [qbbm h0 (w0 h0) (w1 h0) e] at hq
          refine ⟨fun c => ?_, fun _ => qCj (s := sk n b x.1.2.2) c3 (by decide) (fun _ => et) (fun f2 p2 c4 => ?_)⟩
          · rw [qao, t_6] at c; omega
          · rw [q8e (by rfl), t_3] at c4
            exact hq _ _ _ _ _ _ _ c4 ⟨hL.1, fun d => absurd d (show ¬ (3 : Int) = 0 by decide)⟩
      · rw [qbbD h0 (w0 h0) (w1 h0) e] at hq
        refine ⟨fun c => ?_, fun _ => qCj (s := sk n b x.1.2.2) c2 (by decide) (fun _ => et) (fun f2 p2 c4 => ?_)⟩
        · rw [qao, t_6] at c; omega
        · rw [q8e (by rfl), t_3] at c4
          exact hq _ _ _ _ _ _ _ c4 ⟨hL.1, fun d => absurd d (show ¬ (3 : Int) = 0 by decide)⟩
    · rw [t_40] at e
      rw [qbbu h0 (w0 h0) e] at hq
      refine ⟨fun c => ?_, fun _ => qCj (s := sk n b x.1.2.2) c1 (by decide) (fun _ => et) (fun f2 p2 c4 => ?_)⟩
      · rw [qao, t_6] at c; omega
      · rw [q8e (by rfl), t_3] at c4
        exact hq _ _ _ _ _ _ _ c4 ⟨hL.1, fun d => absurd d (show ¬ (3 : Int) = 0 by decide)⟩
  · rw [qbbB w0] at hq
    refine qqK hl hn6 hb c0 (by decide) (by decide) (fun r x46 x47 x48 x49 c1 v1 => ?_)
    rw [t_0, qbI] at c1 v1
    refine qajY (x := (nS n b 0 999 x.1, x.2)) (k := 0) (v := nV n b x.1) (qalP hL (fun z => (qdE z).1)) (fun z => ⟨by decide, (v1 z).1, ?_⟩) (fun kd2 vl2 ln2 h2 => hq _ _ _ _ _ _ _ (by rw [qDx]; exact c1) h2)
    have h0 := (qdE z).1
    have a1 := qa1C (n := n) (b := b) h0 z
    have w := hw h0
    show x.2.length < 150
    omega
theorem qbmM {RS : cR7} {u : lX → lX} {o : Int} (hl : len.toInt = n) (hn : n ≤ 150) (hb : tB n f b) (hu : gdR n u) (hU : CR n b len f o u (qwR RS)) {p : Int32} (hp : p.toInt = o) {Q : lQ} {R : lX} (hq : ∀ (a t fa fp : Int32) (kd vl : NI) (ln : Int32), cS n b R.1 a fa fp → cL R kd vl ln → Q a t fa fp kd vl ln) :
    ∀ (k : Nat) (a tk fa fp : Int32) (kd vl : NI) (ln l3 : Int32) (i : Nat) (x : lX), cS n b x.1 a fa fp → cL x kd vl ln → wfX n x → l3.toInt = i → i ≤ 150 → 150 - i < k → lpG n b oP u (150 - i) x = R → qc0 RS len f Q k a tk fa fp kd vl ln p l3 := by
  have hn6 : n ≤ 600 := by omega
  intro k
  induction k with
  | zero => intro a tk fa fp kd vl ln l3 i x hc hL hw h1 h2 h3; omega
  | succ k ih =>
    intro a tk fa fp kd vl ln l3 i x hc hL hw h1 h2 h3 hR
    refine ⟨fun c => ?_, fun c => ⟨fun z => ⟨fun d => absurd rfl d, fun _ => ?_⟩, fun z => ⟨fun _ => ?_, fun d => absurd d (by first | decide | simp)⟩⟩⟩
    · rw [qak, qV9] at c
      rw [show 150 - i = 0 by omega] at hR
      have hR : x = R := hR
      rw [hR] at hc hL
      exact hq _ _ _ _ _ _ _ hc hL
    · rw [qak, qV9] at c
      have h0 : x.1.1 = 0 := by rw [← hc.2.1, z, t_0]
      have hsk := (quu (n := n) (b := b) _ x.1.2.2 rfl).1
      have stop : oP (at0 n b (sk n b x.1.2.2)) = -1 → x = R := fun e => by
        rw [show 150 - i = (150 - (i + 1)) + 1 by omega] at hR
        unfold lpG at hR
        rw [if_pos (Or.inr e)] at hR
        exact hR
      have go : ∀ (s0 : Int32) (w : Int) (y t : Int32), oP (at0 n b (sk n b x.1.2.2)) = w → w ≠ -1 → s0.toInt = kC w → ¬ s0 = -1 → cS n b (0, 0, sk n b x.1.2.2 + 1) y fa fp → qo0 RS len f Q (fun jhS jeF jcU jbM jdC jfY jb7 l2 l3 => qc0 RS len f Q k jhS jeF jcU jbM jdC jfY jb7 l2 l3) y t fa fp kd vl ln p l3 s0 := fun s0 w y t ew hw9 es hs cy => by
        have hlt : sk n b x.1.2.2 < n := by
          by_cases g : sk n b x.1.2.2 < n
          · exact g
          · rw [qB6 g] at ew; exact absurd ew.symm hw9
        have w2 : wfX n ((0, 0, sk n b x.1.2.2 + 1), x.2) := fun _ => ⟨by show x.2.length ≤ sk n b x.1.2.2 + 1; have := hw h0; omega, by show sk n b x.1.2.2 + 1 ≤ n; omega⟩
        have w3 := q0m hu w2
        rw [show 150 - i = (150 - (i + 1)) + 1 by omega] at hR
        unfold lpG at hR
        rw [if_neg (fun d => d.elim (fun g => g h0) (fun g => hw9 (by rw [← ew]; exact g))), ew] at hR
        refine ⟨fun _ => hU y t fa fp kd vl ln p ((0, 0, sk n b x.1.2.2 + 1), x.2) _ cy (qalP hL (fun _ => h0)) hp w2 (fun x24 x25 x26 x27 f28 f29 x30 c24 l24 => ?_), fun d => absurd d hs⟩
        have a1 := (hu ((0, 0, sk n b x.1.2.2 + 1), x.2)).2 rfl (by show sk n b x.1.2.2 + 1 ≤ n; omega)
        refine qajY (k := w) (v := 0) l24 (fun g => ⟨es, t_0, ?_⟩) (fun kd2 vl2 ln2 h5 x34 e34 => ?_)
        · have a2 := a1 g
          have a3 := w3 g
          simp only at a2
          have w4 := hw h0
          omega
        · refine ih x24 x25 x26 x27 kd2 vl2 ln2 x34 (i + 1) _ (by rw [qDx]; exact c24) h5 (fun g => ?_) (by rw [e34, qca (by omega), h1]; omega) (by omega) (by omega) hR
          rw [qDx] at g ⊢
          have a2 := a1 g
          rw [q7J g]
          simp only at a2
          have w4 := hw h0
          omega
      refine qA2 hl hn6 hb hc (by decide) (fun g1 y1 c1 => ⟨fun _ => ?_, fun d => absurd rfl d⟩) (fun _ e y1 t1 c1 _ => ⟨fun d => absurd d (by first | decide | simp), fun _ => go 4 4 y1 t1 (by rw [e, t_42]; rfl) (by decide) (by decide) (by decide) c1⟩)
      refine qA2 hl hn6 hb c1 (by decide) (fun g2 y2 c2 => ⟨fun _ => ?_, fun d => absurd rfl d⟩) (fun _ e y2 t2 c2 _ => ⟨fun d => absurd d (by first | decide | simp), fun _ => go 5 5 y2 t2 (by rw [e, t_47]; rfl) (by decide) (by decide) (by decide) c2⟩)
      refine qA2 hl hn6 hb c2 (by decide) (fun g3 y3 c3 => ⟨fun _ => ⟨fun d => absurd rfl d, fun _ => ?_⟩, fun d => absurd rfl d⟩) (fun _ e y3 t3 c3 _ => ⟨fun d => absurd d (by first | decide | simp), fun _ => go 6 8 y3 t3 (by rw [e, t_37]; rfl) (by decide) (by decide) (by decide) c3⟩)
      rw [t_42] at g1
      rw [t_47] at g2
      rw [t_37] at g3
      have e := stop (by unfold oP; rw [if_neg (g1.resolve_left (fun d => d h0)), if_neg (g2.resolve_left (fun d => d h0)), if_neg (g3.resolve_left (fun d => d h0))])
      rw [e] at c3 hL
      exact hq _ _ _ _ _ _ _ c3 hL
    · have h0 : x.1.1 ≠ 0 := fun w => z (qWF hc w)
      rw [(qac9 hu rfl _ x).1 h0] at hR
      rw [hR] at hc hL
      exact hq _ _ _ _ _ _ _ hc hL
theorem qbmg {RS : cR7} {u : lX → lX} {o : Int} (hl : len.toInt = n) (hn : n ≤ 150) (hb : tB n f b) (hu : gdR n u) (hU : CR n b len f o u (qub RS)) {p : Int32} (hp : p.toInt = o) {Q : lQ} {R : lX} (hq : ∀ (a t fa fp : Int32) (kd vl : NI) (ln : Int32), cS n b R.1 a fa fp → cL R kd vl ln → Q a t fa fp kd vl ln) :
    ∀ (k : Nat) (a tk fa fp : Int32) (kd vl : NI) (ln l3 : Int32) (i : Nat) (x : lX), cS n b x.1 a fa fp → cL x kd vl ln → wfX n x → l3.toInt = i → i ≤ 150 → 150 - i < k → lpG n b oS u (150 - i) x = R → qk8 RS len f Q k a tk fa fp kd vl ln p l3 := by
  have hn6 : n ≤ 600 := by omega
  intro k
  induction k with
  | zero => intro a tk fa fp kd vl ln l3 i x hc hL hw h1 h2 h3; omega
  | succ k ih =>
    intro a tk fa fp kd vl ln l3 i x hc hL hw h1 h2 h3 hR
    refine ⟨fun c => ?_, fun c => ⟨fun z => ⟨fun d => absurd rfl d, fun _ => ?_⟩, fun z => ⟨fun _ => ?_, fun d => absurd d (by first | decide | simp)⟩⟩⟩
    · rw [qak, qV9] at c
      rw [show 150 - i = 0 by omega] at hR
      have hR : x = R := hR
      rw [hR] at hc hL
      exact hq _ _ _ _ _ _ _ hc hL
    · rw [qak, qV9] at c
      have h0 : x.1.1 = 0 := by rw [← hc.2.1, z, t_0]
      have hsk := (quu (n := n) (b := b) _ x.1.2.2 rfl).1
      have stop : oS (at0 n b (sk n b x.1.2.2)) = -1 → x = R := fun e => by
        rw [show 150 - i = (150 - (i + 1)) + 1 by omega] at hR
        unfold lpG at hR
        rw [if_pos (Or.inr e)] at hR
        exact hR
      have go : ∀ (s0 : Int32) (w : Int) (y t : Int32), oS (at0 n b (sk n b x.1.2.2)) = w → w ≠ -1 → s0.toInt = kC w → ¬ s0 = -1 → cS n b (0, 0, sk n b x.1.2.2 + 1) y fa fp → quU RS len f Q (fun jhS jeF jcU jbM jdC jfY jb7 l2 l3 => qk8 RS len f Q k jhS jeF jcU jbM jdC jfY jb7 l2 l3) y t fa fp kd vl ln p l3 s0 := fun s0 w y t ew hw9 es hs cy => by
        have hlt : sk n b x.1.2.2 < n := by
          by_cases g : sk n b x.1.2.2 < n
          · exact g
          · rw [qB6 g] at ew; exact absurd ew.symm hw9
        have w2 : wfX n ((0, 0, sk n b x.1.2.2 + 1), x.2) := fun _ => ⟨by show x.2.length ≤ sk n b x.1.2.2 + 1; have := hw h0; omega, by show sk n b x.1.2.2 + 1 ≤ n; omega⟩
        have w3 := q0m hu w2
        rw [show 150 - i = (150 - (i + 1)) + 1 by omega] at hR
        unfold lpG at hR
        rw [if_neg (fun d => d.elim (fun g => g h0) (fun g => hw9 (by rw [← ew]; exact g))), ew] at hR
        refine ⟨fun _ => hU y t fa fp kd vl ln p ((0, 0, sk n b x.1.2.2 + 1), x.2) _ cy (qalP hL (fun _ => h0)) hp w2 (fun x24 x25 x26 x27 f28 f29 x30 c24 l24 => ?_), fun d => absurd d hs⟩
        have a1 := (hu ((0, 0, sk n b x.1.2.2 + 1), x.2)).2 rfl (by show sk n b x.1.2.2 + 1 ≤ n; omega)
        refine qajY (k := w) (v := 0) l24 (fun g => ⟨es, t_0, ?_⟩) (fun kd2 vl2 ln2 h5 x34 e34 => ?_)
        · have a2 := a1 g
          have a3 := w3 g
          simp only at a2
          have w4 := hw h0
          omega
        · refine ih x24 x25 x26 x27 kd2 vl2 ln2 x34 (i + 1) _ (by rw [qDx]; exact c24) h5 (fun g => ?_) (by rw [e34, qca (by omega), h1]; omega) (by omega) (by omega) hR
          rw [qDx] at g ⊢
          have a2 := a1 g
          rw [q7J g]
          simp only at a2
          have w4 := hw h0
          omega
      refine qA2 hl hn6 hb hc (by decide) (fun g1 y1 c1 => ⟨fun _ => ?_, fun d => absurd rfl d⟩) (fun _ e y1 t1 c1 _ => ⟨fun d => absurd d (by first | decide | simp), fun _ => go 2 2 y1 t1 (by rw [e, t_43]; rfl) (by decide) (by decide) (by decide) c1⟩)
      refine qA2 hl hn6 hb c1 (by decide) (fun g2 y2 c2 => ⟨fun _ => ⟨fun d => absurd rfl d, fun _ => ?_⟩, fun d => absurd rfl d⟩) (fun _ e y2 t2 c2 _ => ⟨fun d => absurd d (by first | decide | simp), fun _ => go 3 3 y2 t2 (by rw [e, t_45]; rfl) (by decide) (by decide) (by decide) c2⟩)
      rw [t_43] at g1
      rw [t_45] at g2
      have e := stop (by unfold oS; rw [if_neg (g1.resolve_left (fun d => d h0)), if_neg (g2.resolve_left (fun d => d h0))])
      rw [e] at c2 hL
      exact hq _ _ _ _ _ _ _ c2 hL
    · have h0 : x.1.1 ≠ 0 := fun w => z (qWF hc w)
      rw [(qac9 hu rfl _ x).1 h0] at hR
      rw [hR] at hc hL
      exact hq _ _ _ _ _ _ _ hc hL
theorem qbmf {u : lX → lX} {o : Int} (hl : len.toInt = n) (hn : n ≤ 150) (hb : tB n f b) (hu : gdR n u) (hU : CR n b len f o u (qvN)) {p : Int32} (hp : p.toInt = o) {Q : lQ} {R : lX} (hq : ∀ (a t fa fp : Int32) (kd vl : NI) (ln : Int32), cS n b R.1 a fa fp → cL R kd vl ln → Q a t fa fp kd vl ln) :
    ∀ (k : Nat) (a tk fa fp : Int32) (kd vl : NI) (ln l3 : Int32) (i : Nat) (x : lX), cS n b x.1 a fa fp → cL x kd vl ln → wfX n x → l3.toInt = i → i ≤ 150 → 150 - i < k → lpG n b oP u (150 - i) x = R → qcG len f Q k a tk fa fp kd vl ln p l3 := by
  have hn6 : n ≤ 600 := by omega
  intro k
  induction k with
  | zero => intro a tk fa fp kd vl ln l3 i x hc hL hw h1 h2 h3; omega
  | succ k ih =>
    intro a tk fa fp kd vl ln l3 i x hc hL hw h1 h2 h3 hR
    refine ⟨fun c => ?_, fun c => ⟨fun z => ⟨fun d => absurd rfl d, fun _ => ?_⟩, fun z => ⟨fun _ => ?_, fun d => absurd d (by first | decide | simp)⟩⟩⟩
    · rw [qak, qV9] at c
      rw [show 150 - i = 0 by omega] at hR
      have hR : x = R := hR
      rw [hR] at hc hL
      exact hq _ _ _ _ _ _ _ hc hL
    · rw [qak, qV9] at c
      have h0 : x.1.1 = 0 := by rw [← hc.2.1, z, t_0]
      have hsk := (quu (n := n) (b := b) _ x.1.2.2 rfl).1
      have stop : oP (at0 n b (sk n b x.1.2.2)) = -1 → x = R := fun e => by
        rw [show 150 - i = (150 - (i + 1)) + 1 by omega] at hR
        unfold lpG at hR
        rw [if_pos (Or.inr e)] at hR
        exact hR
      have go : ∀ (s0 : Int32) (w : Int) (y t : Int32), oP (at0 n b (sk n b x.1.2.2)) = w → w ≠ -1 → s0.toInt = kC w → ¬ s0 = -1 → cS n b (0, 0, sk n b x.1.2.2 + 1) y fa fp → qoe len f Q (fun jhS jeF jcU jbM jdC jfY jb7 l2 l3 => qcG len f Q k jhS jeF jcU jbM jdC jfY jb7 l2 l3) y t fa fp kd vl ln p l3 s0 := fun s0 w y t ew hw9 es hs cy => by
        have hlt : sk n b x.1.2.2 < n := by
          by_cases g : sk n b x.1.2.2 < n
          · exact g
          · rw [qB6 g] at ew; exact absurd ew.symm hw9
        have w2 : wfX n ((0, 0, sk n b x.1.2.2 + 1), x.2) := fun _ => ⟨by show x.2.length ≤ sk n b x.1.2.2 + 1; have := hw h0; omega, by show sk n b x.1.2.2 + 1 ≤ n; omega⟩
        have w3 := q0m hu w2
        rw [show 150 - i = (150 - (i + 1)) + 1 by omega] at hR
        unfold lpG at hR
        rw [if_neg (fun d => d.elim (fun g => g h0) (fun g => hw9 (by rw [← ew]; exact g))), ew] at hR
        refine ⟨fun _ => hU y t fa fp kd vl ln p ((0, 0, sk n b x.1.2.2 + 1), x.2) _ cy (qalP hL (fun _ => h0)) hp w2 (fun x24 x25 x26 x27 f28 f29 x30 c24 l24 => ?_), fun d => absurd d hs⟩
        have a1 := (hu ((0, 0, sk n b x.1.2.2 + 1), x.2)).2 rfl (by show sk n b x.1.2.2 + 1 ≤ n; omega)
        refine qajY (k := w) (v := 0) l24 (fun g => ⟨es, t_0, ?_⟩) (fun kd2 vl2 ln2 h5 x34 e34 => ?_)
        · have a2 := a1 g
          have a3 := w3 g
          simp only at a2
          have w4 := hw h0
          omega
        · refine ih x24 x25 x26 x27 kd2 vl2 ln2 x34 (i + 1) _ (by rw [qDx]; exact c24) h5 (fun g => ?_) (by rw [e34, qca (by omega), h1]; omega) (by omega) (by omega) hR
          rw [qDx] at g ⊢
          have a2 := a1 g
          rw [q7J g]
          simp only at a2
          have w4 := hw h0
          omega
      refine qA2 hl hn6 hb hc (by decide) (fun g1 y1 c1 => ⟨fun _ => ?_, fun d => absurd rfl d⟩) (fun _ e y1 t1 c1 _ => ⟨fun d => absurd d (by first | decide | simp), fun _ => go 4 4 y1 t1 (by rw [e, t_42]; rfl) (by decide) (by decide) (by decide) c1⟩)
      refine qA2 hl hn6 hb c1 (by decide) (fun g2 y2 c2 => ⟨fun _ => ?_, fun d => absurd rfl d⟩) (fun _ e y2 t2 c2 _ => ⟨fun d => absurd d (by first | decide | simp), fun _ => go 5 5 y2 t2 (by rw [e, t_47]; rfl) (by decide) (by decide) (by decide) c2⟩)
      refine qA2 hl hn6 hb c2 (by decide) (fun g3 y3 c3 => ⟨fun _ => ⟨fun d => absurd rfl d, fun _ => ?_⟩, fun d => absurd rfl d⟩) (fun _ e y3 t3 c3 _ => ⟨fun d => absurd d (by first | decide | simp), fun _ => go 6 8 y3 t3 (by rw [e, t_37]; rfl) (by decide) (by decide) (by decide) c3⟩)
      rw [t_42] at g1
      rw [t_47] at g2
      rw [t_37] at g3
      have e := stop (by unfold oP; rw [if_neg (g1.resolve_left (fun d => d h0)), if_neg (g2.resolve_left (fun d => d h0)), if_neg (g3.resolve_left (fun d => d h0))])
      rw [e] at c3 hL
      exact hq _ _ _ _ _ _ _ c3 hL
    · have h0 : x.1.1 ≠ 0 := fun w => z (qWF hc w)
      rw [(qac9 hu rfl _ x).1 h0] at hR
      rw [hR] at hc hL
      exact hq _ _ _ _ _ _ _ hc hL
theorem qblR {u : lX → lX} {o : Int} (hl : len.toInt = n) (hn : n ≤ 150) (hb : tB n f b) (hu : gdR n u) (hU : CR n b len f o u (qsU)) {p : Int32} (hp : p.toInt = o) {Q : lQ} {R : lX} (hq : ∀ (a t fa fp : Int32) (kd vl : NI) (ln : Int32), cS n b R.1 a fa fp → cL R kd vl ln → Q a t fa fp kd vl ln) :
    ∀ (k : Nat) (a tk fa fp : Int32) (kd vl : NI) (ln l3 : Int32) (i : Nat) (x : lX), cS n b x.1 a fa fp → cL x kd vl ln → wfX n x → l3.toInt = i → i ≤ 150 → 150 - i < k → lpG n b oS u (150 - i) x = R → qiR len f Q k a tk fa fp kd vl ln p l3 := by
  have hn6 : n ≤ 600 := by omega
  intro k
  induction k with
  | zero => intro a tk fa fp kd vl ln l3 i x hc hL hw h1 h2 h3; omega
  | succ k ih =>
    intro a tk fa fp kd vl ln l3 i x hc hL hw h1 h2 h3 hR
    refine ⟨fun c => ?_, fun c => ⟨fun z => ⟨fun d => absurd rfl d, fun _ => ?_⟩, fun z => ⟨fun _ => ?_, fun d => absurd d (by first | decide | simp)⟩⟩⟩
    · rw [qak, qV9] at c
      rw [show 150 - i = 0 by omega] at hR
      have hR : x = R := hR
      rw [hR] at hc hL
      exact hq _ _ _ _ _ _ _ hc hL
    · rw [qak, qV9] at c
      have h0 : x.1.1 = 0 := by rw [← hc.2.1, z, t_0]
      have hsk := (quu (n := n) (b := b) _ x.1.2.2 rfl).1
      have stop : oS (at0 n b (sk n b x.1.2.2)) = -1 → x = R := fun e => by
        rw [show 150 - i = (150 - (i + 1)) + 1 by omega] at hR
        unfold lpG at hR
        rw [if_pos (Or.inr e)] at hR
        exact hR
      have go : ∀ (s0 : Int32) (w : Int) (y t : Int32), oS (at0 n b (sk n b x.1.2.2)) = w → w ≠ -1 → s0.toInt = kC w → ¬ s0 = -1 → cS n b (0, 0, sk n b x.1.2.2 + 1) y fa fp → quc len f Q (fun jhS jeF jcU jbM jdC jfY jb7 l2 l3 => qiR len f Q k jhS jeF jcU jbM jdC jfY jb7 l2 l3) y t fa fp kd vl ln p l3 s0 := fun s0 w y t ew hw9 es hs cy => by
        have hlt : sk n b x.1.2.2 < n := by
          by_cases g : sk n b x.1.2.2 < n
          · exact g
          · rw [qB6 g] at ew; exact absurd ew.symm hw9
        have w2 : wfX n ((0, 0, sk n b x.1.2.2 + 1), x.2) := fun _ => ⟨by show x.2.length ≤ sk n b x.1.2.2 + 1; have := hw h0; omega, by show sk n b x.1.2.2 + 1 ≤ n; omega⟩
        have w3 := q0m hu w2
        rw [show 150 - i = (150 - (i + 1)) + 1 by omega] at hR
        unfold lpG at hR
        rw [if_neg (fun d => d.elim (fun g => g h0) (fun g => hw9 (by rw [← ew]; exact g))), ew] at hR
        refine ⟨fun _ => hU y t fa fp kd vl ln p ((0, 0, sk n b x.1.2.2 + 1), x.2) _ cy (qalP hL (fun _ => h0)) hp w2 (fun x24 x25 x26 x27 f28 f29 x30 c24 l24 => ?_), fun d => absurd d hs⟩
        have a1 := (hu ((0, 0, sk n b x.1.2.2 + 1), x.2)).2 rfl (by show sk n b x.1.2.2 + 1 ≤ n; omega)
        refine qajY (k := w) (v := 0) l24 (fun g => ⟨es, t_0, ?_⟩) (fun kd2 vl2 ln2 h5 x34 e34 => ?_)
        · have a2 := a1 g
          have a3 := w3 g
          simp only at a2
          have w4 := hw h0
          omega
        · refine ih x24 x25 x26 x27 kd2 vl2 ln2 x34 (i + 1) _ (by rw [qDx]; exact c24) h5 (fun g => ?_) (by rw [e34, qca (by omega), h1]; omega) (by omega) (by omega) hR
          rw [qDx] at g ⊢
          have a2 := a1 g
          rw [q7J g]
          simp only at a2
          have w4 := hw h0
          omega
      refine qA2 hl hn6 hb hc (by decide) (fun g1 y1 c1 => ⟨fun _ => ?_, fun d => absurd rfl d⟩) (fun _ e y1 t1 c1 _ => ⟨fun d => absurd d (by first | decide | simp), fun _ => go 2 2 y1 t1 (by rw [e, t_43]; rfl) (by decide) (by decide) (by decide) c1⟩)
      refine qA2 hl hn6 hb c1 (by decide) (fun g2 y2 c2 => ⟨fun _ => ⟨fun d => absurd rfl d, fun _ => ?_⟩, fun d => absurd rfl d⟩) (fun _ e y2 t2 c2 _ => ⟨fun d => absurd d (by first | decide | simp), fun _ => go 3 3 y2 t2 (by rw [e, t_45]; rfl) (by decide) (by decide) (by decide) c2⟩)
      rw [t_43] at g1
      rw [t_45] at g2
      have e := stop (by unfold oS; rw [if_neg (g1.resolve_left (fun d => d h0)), if_neg (g2.resolve_left (fun d => d h0))])
      rw [e] at c2 hL
      exact hq _ _ _ _ _ _ _ c2 hL
    · have h0 : x.1.1 ≠ 0 := fun w => z (qWF hc w)
      rw [(qac9 hu rfl _ x).1 h0] at hR
      rw [hR] at hc hL
      exact hq _ _ _ _ _ _ _ hc hL
theorem cd_g {RS : cR7} {g : lX → lX} {o : Int} (hl : len.toInt = n) (hn : n ≤ 150) (hb : tB n f b) (h0o : 0 ≤ o) (ho : o + 1 ≤ 6) (hg : gdR n g) (hR : CR n b len f (o + 1) g RS) : CR n b len f o (pdG n b (some g)) (qub RS) := by
  have hS : ∀ f : lX → lX, some g = some f → gdR n f := fun f e => by rw [← Option.some.inj e]; exact hg
  intro a tk fa fp kd vl ln p x Q hc hL hp hw hq
  exact cu_g hl hn hb h0o ho hg hR a tk fa fp kd vl ln p x _ hc hL hp hw (fun x1 x2 x3 x4 f5 f6 x7 c1 l1 => ⟨151, qbmM hl hn hb (qaIr hS) (cu_g hl hn hb h0o ho hg hR) hp hq 151 x1 x2 x3 x4 f5 f6 x7 0 0 _ c1 l1 (q0m (qaIr hS) hw) t_0 (by omega) (by omega) rfl⟩)
theorem cs_g {RS : cR7} {g : lX → lX} {o : Int} (hl : len.toInt = n) (hn : n ≤ 150) (hb : tB n f b) (h0o : 0 ≤ o) (ho : o + 1 ≤ 6) (hg : gdR n g) (hR : CR n b len f (o + 1) g RS) : CR n b len f o (suG n b (some g)) (qrw RS) := by
  have hS : ∀ f : lX → lX, some g = some f → gdR n f := fun f e => by rw [← Option.some.inj e]; exact hg
  intro a tk fa fp kd vl ln p x Q hc hL hp hw hq
  exact cd_g hl hn hb h0o ho hg hR a tk fa fp kd vl ln p x _ hc hL hp hw (fun x1 x2 x3 x4 f5 f6 x7 c1 l1 => ⟨151, qbmg hl hn hb (qaHx hS) (cd_g hl hn hb h0o ho hg hR) hp hq 151 x1 x2 x3 x4 f5 f6 x7 0 0 _ c1 l1 (q0m (qaHx hS) hw) t_0 (by omega) (by omega) rfl⟩)
theorem cd_0 (hl : len.toInt = n) (hn : n ≤ 150) (hb : tB n f b) : CR n b len f 6 (pdG n b none) (qsU) := by
  have hS : ∀ f : lX → lX, (none : Option (lX → lX)) = some f → gdR n f := fun f e => absurd e (by simp)
  intro a tk fa fp kd vl ln p x Q hc hL hp hw hq
  exact cu_0 hl hn hb a tk fa fp kd vl ln p x _ hc hL hp hw (fun x1 x2 x3 x4 f5 f6 x7 c1 l1 => ⟨151, qbmf hl hn hb (qaIr hS) (cu_0 hl hn hb) hp hq 151 x1 x2 x3 x4 f5 f6 x7 0 0 _ c1 l1 (q0m (qaIr hS) hw) t_0 (by omega) (by omega) rfl⟩)
theorem cs_0 (hl : len.toInt = n) (hn : n ≤ 150) (hb : tB n f b) : CR n b len f 6 (suG n b none) (qBm) := by
  have hS : ∀ f : lX → lX, (none : Option (lX → lX)) = some f → gdR n f := fun f e => absurd e (by simp)
  intro a tk fa fp kd vl ln p x Q hc hL hp hw hq
  exact cd_0 hl hn hb a tk fa fp kd vl ln p x _ hc hL hp hw (fun x1 x2 x3 x4 f5 f6 x7 c1 l1 => ⟨151, qblR hl hn hb (qaHx hS) (cd_0 hl hn hb) hp hq 151 x1 x2 x3 x4 f5 f6 x7 0 0 _ c1 l1 (q0m (qaHx hS) hw) t_0 (by omega) (by omega) rfl⟩)
theorem cs_6 (hl : len.toInt = n) (hn : n ≤ 150) (hb : tB n f b) : CR n b len f 0 (suN n b 6) (qIw) :=
  cs_g hl hn hb (by decide) (by decide) (qS0 5) (cs_g hl hn hb (by decide) (by decide) (qS0 4) (cs_g hl hn hb (by decide) (by decide) (qS0 3) (cs_g hl hn hb (by decide) (by decide) (qS0 2) (cs_g hl hn hb (by decide) (by decide) (qS0 1) (cs_g hl hn hb (by decide) (by decide) (qS0 0) (cs_0 hl hn hb))))))
end TU
end
section
/-! the reference's sums, products, units of a law, by depth -/
def mL (x : lX) (cd oc : NI) (ct : Int32) : Prop := x.1.1 = 0 → ct.toInt = (x.2.length : Nat) ∧ ∀ i : Nat, i < x.2.length → (cd i).toInt = (x.2.getD i (0, 0)).1 ∧ (oc i).toInt = (x.2.getD i (0, 0)).2
abbrev mR7 := Int32 → NI → Int32 → Int32 → Int32 → Int32 → NI → NI → Int32 → lQ → Prop
/-- a reader of the reference does what g says -/
def MR (n : Nat) (b : Nat → Int) (len : Int32) (f : NI) (o : Int) (g : lX → lX) (R : mR7) : Prop := ∀ (a bd bk op : Int32) (cd oc : NI) (ct : Int32) (x : lX) (Q : lQ), mS n b x.1 a bd bk → mL x cd oc ct → (x.1.1 = 0 → op.toInt = o) → wfX n x → (∀ (a bd bk op : Int32) (cd oc : NI) (ct : Int32), mS n b (g x).1 a bd bk → mL (g x) cd oc ct → ((g x).1.1 = 0 → op.toInt = o) → Q a bd bk op cd oc ct) → R len f a bd bk op cd oc ct Q
/-- behind a fault a reader of the reference does nothing -/
def MZ (n : Nat) (b : Nat → Int) (len : Int32) (f : NI) (R : mR7) : Prop := ∀ (a bd bk op : Int32) (cd oc : NI) (ct : Int32) (st : sT) (Q : lQ), mS n b st a bd bk → st.1 ≠ 0 → (∀ (a bd bk op : Int32) (cd oc : NI) (ct : Int32), mS n b st a bd bk → Q a bd bk op cd oc ct) → R len f a bd bk op cd oc ct Q
theorem qaiJ {x : lX} {st : sT} {cd oc : Nat → Int32} {ct : Int32} (h : mL x cd oc ct) (hs : st.1 = 0 → x.1.1 = 0) : mL (st, x.2) cd oc ct := fun z => h (hs z)
section TMl
variable {n : Nat} {b : Nat → Int} {len : Int32} {f : Nat → Int32}
theorem qaxo {Q : NI → NI → Int32 → Prop} {a bd bk ct p1 p2 : Int32} {cd oc : Nat → Int32} {x : lX} {k v : Int} (hm : mS n b x.1 a bd bk) (h : mL x cd oc ct) (hk : x.1.1 = 0 → p1.toInt = k ∧ p2.toInt = v ∧ x.2.length < 150) (hq : ∀ (cd oc : NI) (ct : Int32), mL (eS k v x) cd oc ct → Q cd oc ct) : qwf bd cd oc ct p1 p2 Q := by
  refine qnB hm (fun z => ⟨fun _ => ?_, fun d => absurd d (by first | decide | simp)⟩) (fun z => ⟨fun d => absurd rfl d, fun _ => hq _ _ _ (fun w => ?_)⟩)
  · obtain ⟨el, hi⟩ := h z
    obtain ⟨k1, k2, k3⟩ := hk z
    refine ⟨qa6 (by omega) (by omega), fun f3 e3 => ⟨qa6 (by omega) (by omega), fun f4 e4 x5 e5 => hq _ _ _ ?_⟩⟩
    rw [eS_0 z]
    refine fun _ => ⟨?_, fun i h9 => ?_⟩
    · show x5.toInt = ((x.2 ++ [(k, v)]).length : Nat)
      rw [List.length_append]
      show x5.toInt = ((x.2.length + 1 : Nat) : Int)
      rw [e5, qca (by omega), el]; omega
    · have h9 : i < (x.2 ++ [(k, v)]).length := h9
      rw [List.length_append] at h9
      have h9 : i < x.2.length + 1 := h9
      show (f3 i).toInt = ((x.2 ++ [(k, v)]).getD i (0, 0)).1 ∧ (f4 i).toInt = ((x.2 ++ [(k, v)]).getD i (0, 0)).2
      rw [e3, e4, qas el]
      by_cases y : i = x.2.length
      · rw [y, pk_us, pk_us, gD_r]; exact ⟨k1, k2⟩
      · rw [pk_un y, pk_un y, gD_l (by omega)]; exact hi i (by omega)
  · rw [qaTA z] at w; exact absurd w z
theorem qaZ5 {Q : Int32 → Int32 → Int32 → Int32 → Prop} {a bd bk op j : Int32} {st : sT} {s : Nat} (hm : mS n b st a bd bk) (h0 : st.1 = 0) (ha : a.toInt = s) (ho : op.toInt = 6) (hq : ∀ bd2 bk2 op2 : Int32, mS n b (3, s, 0) a bd2 bk2 → Q bd2 bk2 a op2) : qr3 bd bk a op j Q := by
  refine qnB hm (fun _ => ⟨fun d => absurd d (by first | decide | simp), fun _ => ⟨fun d => absurd (by rw [qan, t_6]; exact ho) d, fun _ => ?_⟩⟩) (fun d => absurd h0 d)
  refine qKu (s := s) hm (fun _ => ha) (by decide) (fun bd2 bk2 c => ?_)
  rw [q8e h0, t_3] at c
  exact qnB c (fun d => absurd d (by first | decide | simp)) (fun _ => ⟨fun _ x9 _ => hq bd2 bk2 x9 c, fun d => absurd rfl d⟩)
theorem qaYC {Q : Int32 → Int32 → Int32 → Int32 → Prop} {a bd bk op j : Int32} {st : sT} {s J : Nat} {o : Int} (hm : mS n b st a bd bk) (h0 : st.1 = 0) (ha : a.toInt = s) (hj : j.toInt = J) (hs : s + J ≤ 600) (ho : op.toInt = o) (h6 : 0 ≤ o ∧ o < 6) (hq : ∀ at2 op2 : Int32, mS n b (0, 0, s + J) at2 bd bk → op2.toInt = o + 1 → Q bd bk at2 op2) : qr3 bd bk a op j Q := by
  refine qnB hm (fun _ => ⟨fun d => absurd d (by first | decide | simp), fun _ => ⟨fun _ => ?_, fun d => absurd (by rw [d, t_6] at ho; omega : o = 6) (by omega)⟩⟩) (fun d => absurd h0 d)
  refine qnB hm (fun _ => ⟨fun d => absurd d (by first | decide | simp), fun _ x8 e8 x9 e9 => hq x8 x9 ?_ (by rw [e9, qca (by omega), ho])⟩) (fun d => absurd h0 d)
  exact ⟨qC3 (s := s + J) (by rw [e8, qap (by omega) (by omega), ha, hj]; omega) hs (fun _ => rfl), fun _ => hm.2.1 h0, fun d => absurd rfl d⟩
theorem qbau {Q : Int32 → Prop} (hq : ∀ r : Int32, r.toInt = 12748404 → Q r) : qbh 5 qOx Q := y_of (by decide) (by decide) (by decide) hq
theorem qbdy {Q : Int32 → Prop} (hq : ∀ r : Int32, r.toInt = 441972 → Q r) : qbh 4 qOG Q := y_of (by decide) (by decide) (by decide) hq
theorem qbbW {Q : Int32 → Prop} (hq : ∀ r : Int32, r.toInt = 659111367 → Q r) : qbh 6 q5l Q := y_of (by decide) (by decide) (by decide) hq
theorem qbgM {Q : Int32 → Prop} (hq : ∀ r : Int32, r.toInt = 20587916 → Q r) : qbh 5 q5o Q := y_of (by decide) (by decide) (by decide) hq
theorem qbio {Q : Int32 → Prop} (hq : ∀ r : Int32, r.toInt = 515251 → Q r) : qbh 4 q48 Q := y_of (by decide) (by decide) (by decide) hq
theorem qbj5 {Q : Int32 → Prop} (hq : ∀ r : Int32, r.toInt = 515236 → Q r) : qbh 4 q4Z Q := y_of (by decide) (by decide) (by decide) hq
theorem qbby {Q : Int32 → Prop} (hq : ∀ r : Int32, r.toInt = 524555859 → Q r) : qbh 6 q5e Q := y_of (by decide) (by decide) (by decide) hq
theorem qbhs {Q : Int32 → Prop} (hq : ∀ r : Int32, r.toInt = 4153 → Q r) : qbh 3 qGB Q := y_of (by decide) (by decide) (by decide) hq
theorem qbgT {Q : Int32 → Prop} (hq : ∀ r : Int32, r.toInt = 12748307 → Q r) : qbh 5 q5u Q := y_of (by decide) (by decide) (by decide) hq
theorem qbef {Q : Int32 → Int32 → Prop} {a bd bk : Int32} {st : sT} (hl : len.toInt = n) (hn : n ≤ 600) (hb : tB n f b) (hm : mS n b st a bd bk) (h0 : st.1 = 0) (hq : ∀ r x : Int32, mS n b st x bd bk → x.toInt = (sk n b st.2.2 : Nat) → r.toInt = fW (pw n b (sk n b st.2.2)) → Q r x) : qCR len f a Q := by
  refine q1S hl hn hb hm h0 (fun r x c ex er => ?_)
  rw [← er] at hq
  refine qbbW (fun r4 e4 => ⟨fun z4 => ?_, fun z => hq 0 x c ex (by rw [z, e4]; decide)⟩)
  refine qbgM (fun r7 e7 => ⟨fun z7 => ?_, fun z => hq 1 x c ex (by rw [z, e7]; decide)⟩)
  refine qbio (fun r10 e10 => ⟨fun z10 => ?_, fun z => hq 2 x c ex (by rw [z, e10]; decide)⟩)
  refine qbj5 (fun r13 e13 => ⟨fun z13 => ?_, fun z => hq 3 x c ex (by rw [z, e13]; decide)⟩)
  refine qbby (fun r16 e16 => ⟨fun z16 => ?_, fun z => hq 4 x c ex (by rw [z, e16]; decide)⟩)
  refine qbhs (fun r19 e19 => ⟨fun z19 => ?_, fun z => hq 5 x c ex (by rw [z, e19]; decide)⟩)
  refine qa0p (fun r22 e22 => ⟨fun z22 => ?_, fun z => hq 6 x c ex (by rw [z, e22]; decide)⟩)
  refine qbgT (fun r25 e25 => ⟨fun z25 => hq (-1) x c ex ?_, fun z => hq 7 x c ex (by rw [z, e25]; decide)⟩)
  rw [qan] at z4 z7 z10 z13 z16 z19 z22 z25
  unfold fW
  rw [if_neg (by omega), if_neg (by omega), if_neg (by omega), if_neg (by omega), if_neg (by omega), if_neg (by omega), if_neg (by omega), if_neg (by omega)]
  exact qam
/-- readTwo behind too many -/
theorem mp_0 {RS : mR7} (hl : len.toInt = n) (hn : n ≤ 150) (hb : tB n f b) (hR : MZ n b len f RS) {a bd bk op ct p1 p2 : Int32} {cd oc : Nat → Int32} {st : sT} {s : Nat} {Q : Int32 → Int32 → Int32 → Int32 → NI → NI → Int32 → Prop} (hm : mS n b st a bd bk) (h0 : st.1 = 0) (ha : a.toInt = s) (ho : op.toInt = 6)
    (hq : ∀ (a bd bk op : Int32) (cd oc : NI) (ct : Int32), mS n b (3, s, 0) a bd bk → Q bd bk a op cd oc ct) : qxu RS len f bd bk a op cd oc ct p1 p2 Q := by
  have hn6 : n ≤ 600 := by omega
  refine qaZ5 hm h0 ha ho (fun bd2 bk2 op2 c => qt9 hl hn6 hb c (by decide) (fun x5 x6 x7 c5 => ?_))
  rw [qGz (show ¬ (3 : Int) = 0 by decide)] at c5
  refine hR _ _ _ _ _ _ _ _ _ c5 (show ¬ (3 : Int) = 0 by decide) (fun x8 x9 x10 x11 f12 f13 x14 c8 => qt9 hl hn6 hb c8 (by decide) (fun x15 x16 x17 c15 => ?_))
  rw [qGz (show ¬ (3 : Int) = 0 by decide)] at c15
  refine hR _ _ _ _ _ _ _ _ _ c15 (show ¬ (3 : Int) = 0 by decide) (fun x18 x19 x20 x21 f22 f23 x24 c18 => qt9 hl hn6 hb c18 (by decide) (fun x25 x26 x27 c25 x28 _ => ?_))
  rw [qGz (show ¬ (3 : Int) = 0 by decide)] at c25
  exact qnB c25 (fun d => absurd d (by first | decide | simp)) (fun _ => ⟨fun d => absurd rfl d, fun _ => hq _ _ _ _ _ _ _ c25⟩)
theorem mp_g {RS : mR7} {g : lX → lX} {o : Int} (hl : len.toInt = n) (hn : n ≤ 150) (hb : tB n f b) (h6 : 0 ≤ o ∧ o < 6) (hg : gdR n g) (hR : MR n b len f (o + 1) g RS) {a bd bk op ct p1 p2 : Int32} {cd oc : Nat → Int32} {x : lX} {s J : Nat} {k : Int} {Q : Int32 → Int32 → Int32 → Int32 → NI → NI → Int32 → Prop} {st : sT} (hm : mS n b st a bd bk) (h0 : st.1 = 0) (ha : a.toInt = s) (hj : p1.toInt = J) (ho : op.toInt = o) (hx : x.1 = (0, 0, s + J)) (hs : s + J ≤ 600) (hL : mL x cd oc ct) (hw : wfX n x) (hk : p2.toInt = k)
    (hq : ∀ (a bd bk op : Int32) (cd oc : NI) (ct : Int32), mS n b (prG n b (some g) k s x).1 a bd bk → mL (prG n b (some g) k s x) cd oc ct → ((prG n b (some g) k s x).1.1 = 0 → op.toInt = o) → Q bd bk a op cd oc ct) : qxu RS len f bd bk a op cd oc ct p1 p2 Q := by
  have hn6 : n ≤ 600 := by omega
  obtain ⟨y1, e1⟩ : ∃ y : lX, y = g (gS n b 91 x.1, x.2) := ⟨_, rfl⟩
  obtain ⟨y3, e3⟩ : ∃ y : lX, y = g (gS n b 44 y1.1, y1.2) := ⟨_, rfl⟩
  have er : prG n b (some g) k s x = eS k 0 (gS n b 93 y3.1, y3.2) := by rw [e3, e1]; rfl
  rw [er] at hq
  have w0 : wfX n (gS n b 91 x.1, x.2) := qa9p (by decide) hw
  have w1 : wfX n y1 := by rw [e1]; exact q0m hg w0
  have w2 : wfX n (gS n b 44 y1.1, y1.2) := qa9p (by decide) w1
  have w3 : wfX n y3 := by rw [e3]; exact q0m hg w2
  refine qaYC hm h0 ha hj hs ho h6 (fun at2 op2 c eo => ?_)
  rw [← hx] at c
  refine qt9 hl hn6 hb c (by decide) (fun x5 x6 x7 c5 => ?_)
  rw [t_91] at c5
  refine hR _ _ _ _ _ _ _ (gS n b 91 x.1, x.2) _ c5 (qaiJ hL qlb) (fun _ => eo) w0 (fun x8 x9 x10 x11 f12 f13 x14 c8 l8 o8 => ?_)
  rw [← e1] at c8 l8 o8
  refine qt9 hl hn6 hb c8 (by decide) (fun x15 x16 x17 c15 => ?_)
  rw [t_44] at c15
  refine hR _ _ _ _ _ _ _ (gS n b 44 y1.1, y1.2) _ c15 (qaiJ l8 qlb) (fun z => o8 (qlb z)) w2 (fun x18 x19 x20 x21 f22 f23 x24 c18 l18 o18 => ?_)
  rw [← e3] at c18 l18 o18
  refine qt9 hl hn6 hb c18 (by decide) (fun x25 x26 x27 c25 x28 e28 => ?_)
  rw [t_93] at c25
  refine qaxo (x := (gS n b 93 y3.1, y3.2)) (k := k) (v := 0) c25 (qaiJ l18 qlb) (fun z => ⟨hk, t_0, ?_⟩) (fun cd2 oc2 ct2 h2 => hq _ _ _ _ _ _ _ (by rw [qDx]; exact c25) h2 (fun z => ?_))
  · have h3 := qlb z
    have a3 := qaUd (n := n) (b := b) (c := 93) (by decide) h3 z
    have w9 := w3 h3
    show y3.2.length < 150
    omega
  · rw [qDx] at z
    have h3 : y3.1.1 = 0 := qlb z
    rw [e28, qqj (by rw [o18 h3]; omega), o18 h3]; omega
theorem mu_g {RS : mR7} {g : lX → lX} {o : Int} (hl : len.toInt = n) (hn : n ≤ 150) (hb : tB n f b) (h6 : 0 ≤ o ∧ o < 6) (hg : gdR n g) (hR : MR n b len f (o + 1) g RS) : MR n b len f o (unG n b (some g)) (qts RS) := by
  intro a bd bk op cd oc ct x Q hm hL ho hw hq
  have hn6 : n ≤ 600 := by omega
  refine qnB hm (fun h0 => ⟨fun _ => ?_, fun d => absurd d (by first | decide | simp)⟩) (fun h0 => ⟨fun d => absurd rfl d, fun _ => ?_⟩)
  rotate_left
  · rw [qayZ h0] at hq
    exact hq _ _ _ _ _ _ _ hm hL ho
  have hsk := (quu (n := n) (b := b) _ x.1.2.2 rfl).1
  have ho := ho h0
  refine qFe hl hn6 hb hm (fun r4 x3 c3 v3 => ⟨fun z4 => ?_, fun z4 => ?_⟩)
  · obtain ⟨ex3, g3⟩ := v3 h0
    have w1 : at0 n b (sk n b x.1.2.2) ≠ 40 := fun e => z4 (by rw [qan, t_40]; unfold cR at g3; omega)
    refine qFe hl hn6 hb c3 (fun r7 x6 c6 v6 => qaeS (v6 h0).2 (fun y => ⟨fun d => absurd d (by first | decide | simp), fun _ => ?_⟩) (fun y => ⟨fun _ => ?_, fun d => absurd rfl d⟩))
    · rw [qbbB (fun _ => y)] at hq
      refine qnZ hl hn6 hb c6 (by decide) (by decide) (fun r x39 x40 x41 c1 v1 => ?_)
      rw [t_0, qbI] at c1 v1
      refine qaxo (x := (nS n b 0 999 x.1, x.2)) (k := 0) (v := nV n b x.1) c1 (qaiJ hL (fun z => (qdE z).1)) (fun z => ⟨t_0, v1 z, ?_⟩) (fun cd2 oc2 ct2 h2 => hq _ _ _ _ _ _ _ (by rw [qDx]; exact c1) h2 (fun _ => ho))
      have a1 := qa1C (n := n) (b := b) h0 z
      have w := hw h0
      show x.2.length < 150
      omega
    · refine q1S hl hn6 hb c6 h0 (fun r11 x10 c10 e10 er => qbau (fun r13 e13 => ⟨fun z13 => ?_, fun z13 => ?_⟩))
      · have w2 : pw n b (sk n b x.1.2.2) ≠ 12748404 := fun e => z13 (by rw [qan, er, e13]; exact e)
        refine q1S hl hn6 hb c10 h0 (fun r16 x15 c15 e15 er2 => qbdy (fun r18 e18 => ⟨fun z18 => ?_, fun z18 => ?_⟩))
        · have w3 : pw n b (sk n b x.1.2.2) ≠ 441972 := fun e => z18 (by rw [qan, er2, e18]; exact e)
          rw [qbbp h0 y w1 w2 w3] at hq
          refine qbef hl hn6 hb c15 h0 (fun r21 x20 c20 e20 e21 => ⟨fun z => ?_, fun z => ?_⟩)
          · have hf : fW (pw n b (sk n b x.1.2.2)) ≠ -1 := fun e => z (by rw [qan, qam, e21]; exact e)
            rw [if_neg hf] at hq
            refine qnB c20 (fun _ => ⟨fun _ => qWt hl hn6 hb c20 h0 e20 (fun x63 c63 => ?_), fun d => absurd d (by first | decide | simp)⟩) (fun d => absurd h0 d)
            have g := qash (n := n) (b := b) (st := x.1) (qaV3 hf).1
            refine qaxo (x := (wE n b x.1, x.2)) (k := 1) (v := fW (pw n b (sk n b x.1.2.2))) c63 (qaiJ hL (fun _ => h0)) (fun _ => ⟨t_1, e21, ?_⟩) (fun cd2 oc2 ct2 h2 => hq _ _ _ _ _ _ _ (by rw [qDx]; exact c63) h2 (fun _ => ho))
            have w := hw h0
            show x.2.length < 150
            omega
          · have hf : fW (pw n b (sk n b x.1.2.2)) = -1 := by rw [← e21, z, qam]
            rw [if_pos hf] at hq
            refine qKu (s := sk n b x.1.2.2) c20 (fun _ => e20) (by decide) (fun bd2 bk2 c => ?_)
            rw [q8e h0, t_1] at c
            exact qnB c (fun d => absurd d (by first | decide | simp)) (fun _ => ⟨fun d => absurd rfl d, fun _ => hq _ _ _ _ _ _ _ c (fun d => absurd d (by first | decide | simp)) (fun d => absurd d (by first | decide | simp))⟩)
        · have w3 : pw n b (sk n b x.1.2.2) = 441972 := by rw [← er2, z18]; exact e18
          rw [qbbm h0 y w1 w3] at hq
          have hs : sk n b x.1.2.2 ≤ 600 := by have := hw h0; have := qNi (n := n) (b := b) (a := x.1.2.2) (by omega) hn6; omega
          have hE : lE n b (sk n b x.1.2.2) = sk n b x.1.2.2 + 4 := ((qaRw (n := n) (b := b)).2 _ hs).2 (((qaRw (n := n) (b := b)).2 _ hs).1.mp w3)
          have g := qash (n := n) (b := b) (st := x.1) (by rw [w3]; decide)
          have ew : (wE n b x.1).2.2 = sk n b x.1.2.2 + 4 := hE
          exact mp_g hl hn hb h6 hg hR (x := (wE n b x.1, x.2)) (J := 4) c15 h0 e15 (by decide) ho (by show wE n b x.1 = _; unfold wE; rw [hE]) (by omega) (qaiJ hL (fun _ => h0)) (fun _ => ⟨by show x.2.length ≤ (wE n b x.1).2.2; have := hw h0; omega, g.2⟩) (by decide) (fun a2 bd2 bk2 op2 cd2 oc2 ct2 c2 l2 o2 => hq _ _ _ _ _ _ _ c2 l2 o2)
      · have w2 : pw n b (sk n b x.1.2.2) = 12748404 := by rw [← er, z13]; exact e13
        rw [qbbD h0 y w1 w2] at hq
        have hs : sk n b x.1.2.2 ≤ 600 := by have := hw h0; have := qNi (n := n) (b := b) (a := x.1.2.2) (by omega) hn6; omega
        have hE : lE n b (sk n b x.1.2.2) = sk n b x.1.2.2 + 5 := ((qau9 (n := n) (b := b)).2 _ hs).2 (((qau9 (n := n) (b := b)).2 _ hs).1.mp w2)
        have g := qash (n := n) (b := b) (st := x.1) (by rw [w2]; decide)
        have ew : (wE n b x.1).2.2 = sk n b x.1.2.2 + 5 := hE
        exact mp_g hl hn hb h6 hg hR (x := (wE n b x.1, x.2)) (J := 5) c10 h0 e10 (by decide) ho (by show wE n b x.1 = _; unfold wE; rw [hE]) (by omega) (qaiJ hL (fun _ => h0)) (fun _ => ⟨by show x.2.length ≤ (wE n b x.1).2.2; have := hw h0; omega, g.2⟩) (by decide) (fun a2 bd2 bk2 op2 cd2 oc2 ct2 c2 l2 o2 => hq _ _ _ _ _ _ _ c2 l2 o2)
  · obtain ⟨ex3, g3⟩ := v3 h0
    have w1 : at0 n b (sk n b x.1.2.2) = 40 := by rw [z4] at g3; unfold cR at g3; rw [t_40] at g3; omega
    have w0 : ¬ isD (at0 n b (sk n b x.1.2.2)) := by rw [w1]; omega
    rw [qbbu h0 w0 w1] at hq
    have hlt := qaVl w1 (by decide)
    refine qaYC (J := 1) c3 h0 ex3 t_1 (by omega) ho h6 (fun at2 op2 c eo => ?_)
    refine hR _ _ _ _ _ _ _ ((0, 0, sk n b x.1.2.2 + 1), x.2) _ c (qaiJ hL (fun _ => h0)) (fun _ => eo) (fun _ => ⟨by show x.2.length ≤ sk n b x.1.2.2 + 1; have := hw h0; omega, by show sk n b x.1.2.2 + 1 ≤ n; omega⟩) (fun x50 x51 x52 x53 f54 f55 x56 c50 l50 o50 => ?_)
    refine qt9 hl hn6 hb c50 (by decide) (fun x57 x58 x59 c57 x60 e60 => ?_)
    rw [t_41] at c57
    refine hq _ _ _ _ _ _ _ c57 (qaiJ l50 qlb) (fun z => ?_)
    have h3 := qlb z
    rw [e60, qqj (by rw [o50 h3]; omega), o50 h3]; omega
theorem mu_0 {RS : mR7} (hl : len.toInt = n) (hn : n ≤ 150) (hb : tB n f b) (hR : MZ n b len f RS) : MR n b len f 6 (unG n b none) (qts RS) := by
  intro a bd bk op cd oc ct x Q hm hL ho hw hq
  have hn6 : n ≤ 600 := by omega
  refine qnB hm (fun h0 => ⟨fun _ => ?_, fun d => absurd d (by first | decide | simp)⟩) (fun h0 => ⟨fun d => absurd rfl d, fun _ => ?_⟩)
  rotate_left
  · rw [qayZ h0] at hq
    exact hq _ _ _ _ _ _ _ hm hL ho
  have hsk := (quu (n := n) (b := b) _ x.1.2.2 rfl).1
  have ho := ho h0
  refine qFe hl hn6 hb hm (fun r4 x3 c3 v3 => ⟨fun z4 => ?_, fun z4 => ?_⟩)
  · obtain ⟨ex3, g3⟩ := v3 h0
    have w1 : at0 n b (sk n b x.1.2.2) ≠ 40 := fun e => z4 (by rw [qan, t_40]; unfold cR at g3; omega)
    refine qFe hl hn6 hb c3 (fun r7 x6 c6 v6 => qaeS (v6 h0).2 (fun y => ⟨fun d => absurd d (by first | decide | simp), fun _ => ?_⟩) (fun y => ⟨fun _ => ?_, fun d => absurd rfl d⟩))
    · rw [qbbB (fun _ => y)] at hq
      refine qnZ hl hn6 hb c6 (by decide) (by decide) (fun r x39 x40 x41 c1 v1 => ?_)
      rw [t_0, qbI] at c1 v1
      refine qaxo (x := (nS n b 0 999 x.1, x.2)) (k := 0) (v := nV n b x.1) c1 (qaiJ hL (fun z => (qdE z).1)) (fun z => ⟨t_0, v1 z, ?_⟩) (fun cd2 oc2 ct2 h2 => hq _ _ _ _ _ _ _ (by rw [qDx]; exact c1) h2 (fun _ => ho))
      have a1 := qa1C (n := n) (b := b) h0 z
      have w := hw h0
      show x.2.length < 150
      omega
    · refine q1S hl hn6 hb c6 h0 (fun r11 x10 c10 e10 er => qbau (fun r13 e13 => ⟨fun z13 => ?_, fun z13 => ?_⟩))
      · have w2 : pw n b (sk n b x.1.2.2) ≠ 12748404 := fun e => z13 (by rw [qan, er, e13]; exact e)
        refine q1S hl hn6 hb c10 h0 (fun r16 x15 c15 e15 er2 => qbdy (fun r18 e18 => ⟨fun z18 => ?_, fun z18 => ?_⟩))
        · have w3 : pw n b (sk n b x.1.2.2) ≠ 441972 := fun e => z18 (by rw [qan, er2, e18]; exact e)
          rw [qbbp h0 y w1 w2 w3] at hq
          refine qbef hl hn6 hb c15 h0 (fun r21 x20 c20 e20 e21 => ⟨fun z => ?_, fun z => ?_⟩)
          · have hf : fW (pw n b (sk n b x.1.2.2)) ≠ -1 := fun e => z (by rw [qan, qam, e21]; exact e)
            rw [if_neg hf] at hq
            refine qnB c20 (fun _ => ⟨fun _ => qWt hl hn6 hb c20 h0 e20 (fun x63 c63 => ?_), fun d => absurd d (by first | decide | simp)⟩) (fun d => absurd h0 d)
            have g := qash (n := n) (b := b) (st := x.1) (qaV3 hf).1
            refine qaxo (x := (wE n b x.1, x.2)) (k := 1) (v := fW (pw n b (sk n b x.1.2.2))) c63 (qaiJ hL (fun _ => h0)) (fun _ => ⟨t_1, e21, ?_⟩) (fun cd2 oc2 ct2 h2 => hq _ _ _ _ _ _ _ (by rw [qDx]; exact c63) h2 (fun _ => ho))
            have w := hw h0
            show x.2.length < 150
            omega
          · have hf : fW (pw n b (sk n b x.1.2.2)) = -1 := by rw [← e21, z, qam]
            rw [if_pos hf] at hq
            refine qKu (s := sk n b x.1.2.2) c20 (fun _ => e20) (by decide) (fun bd2 bk2 c => ?_)
            rw [q8e h0, t_1] at c
            exact qnB c (fun d => absurd d (by first | decide | simp)) (fun _ => ⟨fun d => absurd rfl d, fun _ => hq _ _ _ _ _ _ _ c (fun d => absurd d (by first | decide | simp)) (fun d => absurd d (by first | decide | simp))⟩)
        · have w3 : pw n b (sk n b x.1.2.2) = 441972 := by rw [← er2, z18]; exact e18
          rw [qbbm h0 y w1 w3] at hq
          exact mp_0 hl hn hb hR c15 h0 e15 ho (fun a2 bd2 bk2 op2 cd2 oc2 ct2 c2 => hq _ _ _ _ _ _ _ c2 (fun d => absurd d (show ¬ (3 : Int) = 0 by decide)) (fun d => absurd d (show ¬ (3 : Int) = 0 by decide)))
      · have w2 : pw n b (sk n b x.1.2.2) = 12748404 := by rw [← er, z13]; exact e13
        rw [qbbD h0 y w1 w2] at hq
        exact mp_0 hl hn hb hR c10 h0 e10 ho (fun a2 bd2 bk2 op2 cd2 oc2 ct2 c2 => hq _ _ _ _ _ _ _ c2 (fun d => absurd d (show ¬ (3 : Int) = 0 by decide)) (fun d => absurd d (show ¬ (3 : Int) = 0 by decide)))
  · obtain ⟨ex3, g3⟩ := v3 h0
    have w1 : at0 n b (sk n b x.1.2.2) = 40 := by rw [z4] at g3; unfold cR at g3; rw [t_40] at g3; omega
    have w0 : ¬ isD (at0 n b (sk n b x.1.2.2)) := by rw [w1]; omega
    rw [qbbu h0 w0 w1] at hq
    refine qaZ5 c3 h0 ex3 ho (fun bd2 bk2 op2 c => ?_)
    refine hR _ _ _ _ _ _ _ _ _ c (show ¬ (3 : Int) = 0 by decide) (fun x50 x51 x52 x53 f54 f55 x56 c50 => qt9 hl hn6 hb c50 (by decide) (fun x57 x58 x59 c57 x60 _ => ?_))
    rw [qGz (show ¬ (3 : Int) = 0 by decide)] at c57
    exact hq _ _ _ _ _ _ _ c57 (fun d => absurd d (show ¬ (3 : Int) = 0 by decide)) (fun d => absurd d (show ¬ (3 : Int) = 0 by decide))
theorem mlp {RS : mR7} {u : lX → lX} {o : Int} (hl : len.toInt = n) (hn : n ≤ 150) (hb : tB n f b) (hu : gdR n u) (hU : MR n b len f o u (qts RS)) {Q : lQ} {R : lX} (hq : ∀ (a bd bk op : Int32) (cd oc : NI) (ct : Int32), mS n b R.1 a bd bk → mL R cd oc ct → (R.1.1 = 0 → op.toInt = o) → Q a bd bk op cd oc ct) :
    ∀ (k : Nat) (a bd bk op : Int32) (cd oc : NI) (ct : Int32) (i : Nat) (x : lX), mS n b x.1 a bd bk → mL x cd oc ct → (x.1.1 = 0 → op.toInt = o) → wfX n x → (x.1.1 = 0 → n ≤ x.1.2.2 + i) → i < k → lpG n b oP u i x = R → qb6 RS len f Q k a bd bk op cd oc ct := by
  have hn6 : n ≤ 600 := by omega
  intro k
  induction k with
  | zero => intro a bd bk op cd oc ct i x hm hL ho hw h1 h2; omega
  | succ k ih =>
    intro a bd bk op cd oc ct i x hm hL ho hw h1 h2 hR
    refine qnB hm (fun h0 => ⟨fun d => absurd d (by first | decide | simp), fun _ => ?_⟩) (fun h0 => ⟨fun _ => ?_, fun d => absurd rfl d⟩)
    · have hsk := (quu (n := n) (b := b) _ x.1.2.2 rfl).1
      have h1 := h1 h0
      have stop : oP (at0 n b (sk n b x.1.2.2)) = -1 → x = R := fun e => by
        cases i with
        | zero => exact hR
        | succ i =>
          unfold lpG at hR
          rw [if_pos (Or.inr e)] at hR
          exact hR
      have go : ∀ (s0 : Int32) (w : Int) (y : Int32), oP (at0 n b (sk n b x.1.2.2)) = w → w ≠ -1 → s0.toInt = w → y.toInt = (sk n b x.1.2.2 : Nat) → ∀ (bd2 bk2 op2 : Int32), mS n b x.1 y bd2 bk2 → op2.toInt = o → qqw RS len f Q (fun jcP jb8 jbh jbK jeD jf5 jcR => qb6 RS len f Q k jcP jb8 jbh jbK jeD jf5 jcR) y bd2 bk2 op2 cd oc ct s0 := fun s0 w y ew hw9 es ey bd2 bk2 op2 cy eo x25 e25 => by
        have hlt : sk n b x.1.2.2 < n := by
          by_cases g : sk n b x.1.2.2 < n
          · exact g
          · rw [qB6 g] at ew; exact absurd ew.symm hw9
        have w2 : wfX n ((0, 0, sk n b x.1.2.2 + 1), x.2) := fun _ => ⟨by show x.2.length ≤ sk n b x.1.2.2 + 1; have := hw h0; omega, by show sk n b x.1.2.2 + 1 ≤ n; omega⟩
        have w3 := q0m hu w2
        have hi : ∃ j : Nat, i = j + 1 := ⟨i - 1, by omega⟩
        obtain ⟨j, ej⟩ := hi
        rw [ej] at hR
        unfold lpG at hR
        rw [if_neg (fun d => d.elim (fun g => g h0) (fun g => hw9 (by rw [← ew]; exact g))), ew] at hR
        have cz : mS n b (0, 0, sk n b x.1.2.2 + 1) x25 bd2 bk2 := ⟨qC3 (s := sk n b x.1.2.2 + 1) (by rw [e25, qca (by omega), ey]; omega) (by omega) (fun _ => rfl), fun _ => cy.2.1 h0, fun d => absurd rfl d⟩
        have a1 := (hu ((0, 0, sk n b x.1.2.2 + 1), x.2)).2 rfl (by show sk n b x.1.2.2 + 1 ≤ n; omega)
        refine hU _ _ _ _ _ _ _ ((0, 0, sk n b x.1.2.2 + 1), x.2) _ cz (qaiJ hL (fun _ => h0)) (fun _ => eo) w2 (fun x26 x27 x28 x29 f30 f31 x32 c26 l26 o26 => ?_)
        refine qaxo (k := w) (v := 0) c26 l26 (fun g => ⟨es, t_0, ?_⟩) (fun cd2 oc2 ct2 h5 => ?_)
        · have a2 := a1 g
          have a3 := w3 g
          simp only at a2
          have w4 := hw h0
          omega
        · refine ih _ _ _ _ _ _ _ j _ (by rw [qDx]; exact c26) h5 (by rw [qDx]; exact o26) (fun g => ?_) (fun g => ?_) (by omega) hR
          · rw [qDx] at g ⊢
            have a2 := a1 g
            rw [q7J g]
            simp only at a2
            have w4 := hw h0
            omega
          · rw [qDx] at g ⊢
            have a2 := a1 g
            simp only at a2
            omega
      have again : ∀ (y bd2 bk2 op2 : Int32), mS n b x.1 y bd2 bk2 → op2.toInt = o → oP (at0 n b (sk n b x.1.2.2)) ≠ -1 → qh6 RS len f Q (fun jcP jb8 jbh jbK jeD jf5 jcR => qb6 RS len f Q k jcP jb8 jbh jbK jeD jf5 jcR) y bd2 bk2 op2 cd oc ct := fun y bd2 bk2 op2 cy eo hne => by
        refine qFe hl hn6 hb cy (fun r20 x19 c19 v19 => ⟨fun z => ?_, fun z => ?_⟩)
        · have e1 : at0 n b (sk n b x.1.2.2) ≠ 42 := (fun e => z (by rw [qan, t_42]; have g := (v19 h0).2; unfold cR at g; omega))
          refine qFe hl hn6 hb c19 (fun r23 x22 c22 v22 => ⟨fun z2 => ?_, fun z2 => ?_⟩)
          · have e2 : at0 n b (sk n b x.1.2.2) ≠ 47 := (fun e => z2 (by rw [qan, t_47]; have g := (v22 h0).2; unfold cR at g; omega))
            have e3 : at0 n b (sk n b x.1.2.2) = 37 := by
              by_cases e : at0 n b (sk n b x.1.2.2) = 37
              · exact e
              · exact absurd (by unfold oP; rw [if_neg e1, if_neg e2, if_neg e]) hne
            exact go 8 8 x22 (by rw [e3]; rfl) (by decide) (by decide) (v22 h0).1 bd2 bk2 op2 c22 eo
          · have e2 : at0 n b (sk n b x.1.2.2) = 47 := (by have g := (v22 h0).2; rw [z2] at g; unfold cR at g; rw [t_47] at g; omega)
            exact go 5 5 x22 (by rw [e2]; rfl) (by decide) (by decide) (v22 h0).1 bd2 bk2 op2 c22 eo
        · have e1 : at0 n b (sk n b x.1.2.2) = 42 := (by have g := (v19 h0).2; rw [z] at g; unfold cR at g; rw [t_42] at g; omega)
          exact go 4 4 x19 (by rw [e1]; rfl) (by decide) (by decide) (v19 h0).1 bd2 bk2 op2 c19 eo
      refine qFe hl hn6 hb hm (fun r11 x10 c10 v10 => ⟨fun z => again _ _ _ _ c10 (ho h0) ?_, fun z => ?_⟩)
      · have e1 : at0 n b (sk n b x.1.2.2) = 42 := (by have g := (v10 h0).2; rw [z] at g; unfold cR at g; rw [t_42] at g; omega)
        rw [e1]; decide
      have e1 : at0 n b (sk n b x.1.2.2) ≠ 42 := (fun e => z (by rw [qan, t_42]; have g := (v10 h0).2; unfold cR at g; omega))
      refine qFe hl hn6 hb c10 (fun r14 x13 c13 v13 => ⟨fun z2 => again _ _ _ _ c13 (ho h0) ?_, fun z2 => ?_⟩)
      · have e2 : at0 n b (sk n b x.1.2.2) = 47 := (by have g := (v13 h0).2; rw [z2] at g; unfold cR at g; rw [t_47] at g; omega)
        rw [e2]; decide
      have e2 : at0 n b (sk n b x.1.2.2) ≠ 47 := (fun e => z2 (by rw [qan, t_47]; have g := (v13 h0).2; unfold cR at g; omega))
      refine qFe hl hn6 hb c13 (fun r17 x16 c16 v16 => ⟨fun z3 => ?_, fun z3 => again _ _ _ _ c16 (ho h0) ?_⟩)
      · have e3 : at0 n b (sk n b x.1.2.2) ≠ 37 := (fun e => z3 (by rw [qan, t_37]; have g := (v16 h0).2; unfold cR at g; omega))
        have e := stop (by unfold oP; rw [if_neg e1, if_neg e2, if_neg e3])
        rw [e] at c16 hL ho
        exact hq _ _ _ _ _ _ _ c16 hL ho
      · have e3 : at0 n b (sk n b x.1.2.2) = 37 := (by have g := (v16 h0).2; rw [z3] at g; unfold cR at g; rw [t_37] at g; omega)
        rw [e3]; decide
    · rw [(qac9 hu rfl _ x).1 h0] at hR
      rw [hR] at hm hL ho
      exact hq _ _ _ _ _ _ _ hm hL ho
theorem mls {RS : mR7} {u : lX → lX} {o : Int} (hl : len.toInt = n) (hn : n ≤ 150) (hb : tB n f b) (hu : gdR n u) (hU : MR n b len f o u (qqp RS)) {Q : lQ} {R : lX} (hq : ∀ (a bd bk op : Int32) (cd oc : NI) (ct : Int32), mS n b R.1 a bd bk → mL R cd oc ct → (R.1.1 = 0 → op.toInt = o) → Q a bd bk op cd oc ct) :
    ∀ (k : Nat) (a bd bk op : Int32) (cd oc : NI) (ct : Int32) (i : Nat) (x : lX), mS n b x.1 a bd bk → mL x cd oc ct → (x.1.1 = 0 → op.toInt = o) → wfX n x → (x.1.1 = 0 → n ≤ x.1.2.2 + i) → i < k → lpG n b oS u i x = R → qgL RS len f Q k a bd bk op cd oc ct := by
  have hn6 : n ≤ 600 := by omega
  intro k
  induction k with
  | zero => intro a bd bk op cd oc ct i x hm hL ho hw h1 h2; omega
  | succ k ih =>
    intro a bd bk op cd oc ct i x hm hL ho hw h1 h2 hR
    refine qnB hm (fun h0 => ⟨fun d => absurd d (by first | decide | simp), fun _ => ?_⟩) (fun h0 => ⟨fun _ => ?_, fun d => absurd rfl d⟩)
    · have hsk := (quu (n := n) (b := b) _ x.1.2.2 rfl).1
      have h1 := h1 h0
      have stop : oS (at0 n b (sk n b x.1.2.2)) = -1 → x = R := fun e => by
        cases i with
        | zero => exact hR
        | succ i =>
          unfold lpG at hR
          rw [if_pos (Or.inr e)] at hR
          exact hR
      have go : ∀ (s0 : Int32) (w : Int) (y : Int32), oS (at0 n b (sk n b x.1.2.2)) = w → w ≠ -1 → s0.toInt = w → y.toInt = (sk n b x.1.2.2 : Nat) → ∀ (bd2 bk2 op2 : Int32), mS n b x.1 y bd2 bk2 → op2.toInt = o → qwJ RS len f Q (fun jcP jb8 jbh jbK jeD jf5 jcR => qgL RS len f Q k jcP jb8 jbh jbK jeD jf5 jcR) y bd2 bk2 op2 cd oc ct s0 := fun s0 w y ew hw9 es ey bd2 bk2 op2 cy eo x25 e25 => by
        have hlt : sk n b x.1.2.2 < n := by
          by_cases g : sk n b x.1.2.2 < n
          · exact g
          · rw [qB6 g] at ew; exact absurd ew.symm hw9
        have w2 : wfX n ((0, 0, sk n b x.1.2.2 + 1), x.2) := fun _ => ⟨by show x.2.length ≤ sk n b x.1.2.2 + 1; have := hw h0; omega, by show sk n b x.1.2.2 + 1 ≤ n; omega⟩
        have w3 := q0m hu w2
        have hi : ∃ j : Nat, i = j + 1 := ⟨i - 1, by omega⟩
        obtain ⟨j, ej⟩ := hi
        rw [ej] at hR
        unfold lpG at hR
        rw [if_neg (fun d => d.elim (fun g => g h0) (fun g => hw9 (by rw [← ew]; exact g))), ew] at hR
        have cz : mS n b (0, 0, sk n b x.1.2.2 + 1) x25 bd2 bk2 := ⟨qC3 (s := sk n b x.1.2.2 + 1) (by rw [e25, qca (by omega), ey]; omega) (by omega) (fun _ => rfl), fun _ => cy.2.1 h0, fun d => absurd rfl d⟩
        have a1 := (hu ((0, 0, sk n b x.1.2.2 + 1), x.2)).2 rfl (by show sk n b x.1.2.2 + 1 ≤ n; omega)
        refine hU _ _ _ _ _ _ _ ((0, 0, sk n b x.1.2.2 + 1), x.2) _ cz (qaiJ hL (fun _ => h0)) (fun _ => eo) w2 (fun x26 x27 x28 x29 f30 f31 x32 c26 l26 o26 => ?_)
        refine qaxo (k := w) (v := 0) c26 l26 (fun g => ⟨es, t_0, ?_⟩) (fun cd2 oc2 ct2 h5 => ?_)
        · have a2 := a1 g
          have a3 := w3 g
          simp only at a2
          have w4 := hw h0
          omega
        · refine ih _ _ _ _ _ _ _ j _ (by rw [qDx]; exact c26) h5 (by rw [qDx]; exact o26) (fun g => ?_) (fun g => ?_) (by omega) hR
          · rw [qDx] at g ⊢
            have a2 := a1 g
            rw [q7J g]
            simp only at a2
            have w4 := hw h0
            omega
          · rw [qDx] at g ⊢
            have a2 := a1 g
            simp only at a2
            omega
      have again : ∀ (y bd2 bk2 op2 : Int32), mS n b x.1 y bd2 bk2 → op2.toInt = o → oS (at0 n b (sk n b x.1.2.2)) ≠ -1 → qrA RS len f Q (fun jcP jb8 jbh jbK jeD jf5 jcR => qgL RS len f Q k jcP jb8 jbh jbK jeD jf5 jcR) y bd2 bk2 op2 cd oc ct := fun y bd2 bk2 op2 cy eo hne => by
        refine qFe hl hn6 hb cy (fun r20 x19 c19 v19 => ⟨fun z => ?_, fun z => ?_⟩)
        · have e1 : at0 n b (sk n b x.1.2.2) ≠ 43 := (fun e => z (by rw [qan, t_43]; have g := (v19 h0).2; unfold cR at g; omega))
          have e2 : at0 n b (sk n b x.1.2.2) = 45 := by
            by_cases e : at0 n b (sk n b x.1.2.2) = 45
            · exact e
            · exact absurd (by unfold oS; rw [if_neg e1, if_neg e]) hne
          exact go 3 3 x19 (by rw [e2]; rfl) (by decide) (by decide) (v19 h0).1 bd2 bk2 op2 c19 eo
        · have e1 : at0 n b (sk n b x.1.2.2) = 43 := (by have g := (v19 h0).2; rw [z] at g; unfold cR at g; rw [t_43] at g; omega)
          exact go 2 2 x19 (by rw [e1]; rfl) (by decide) (by decide) (v19 h0).1 bd2 bk2 op2 c19 eo
      refine qFe hl hn6 hb hm (fun r11 x10 c10 v10 => ⟨fun z => again _ _ _ _ c10 (ho h0) ?_, fun z => ?_⟩)
      · have e1 : at0 n b (sk n b x.1.2.2) = 43 := (by have g := (v10 h0).2; rw [z] at g; unfold cR at g; rw [t_43] at g; omega)
        rw [e1]; decide
      have e1 : at0 n b (sk n b x.1.2.2) ≠ 43 := (fun e => z (by rw [qan, t_43]; have g := (v10 h0).2; unfold cR at g; omega))
      refine qFe hl hn6 hb c10 (fun r14 x13 c13 v13 => ⟨fun z2 => ?_, fun z2 => again _ _ _ _ c13 (ho h0) ?_⟩)
      · have e2 : at0 n b (sk n b x.1.2.2) ≠ 45 := (fun e => z2 (by rw [qan, t_45]; have g := (v13 h0).2; unfold cR at g; omega))
        have e := stop (by unfold oS; rw [if_neg e1, if_neg e2])
        rw [e] at c13 hL ho
        exact hq _ _ _ _ _ _ _ c13 hL ho
      · have e2 : at0 n b (sk n b x.1.2.2) = 45 := (by have g := (v13 h0).2; rw [z2] at g; unfold cR at g; rw [t_45] at g; omega)
        rw [e2]; decide
    · rw [(qac9 hu rfl _ x).1 h0] at hR
      rw [hR] at hm hL ho
      exact hq _ _ _ _ _ _ _ hm hL ho
theorem md_g {RS : mR7} {g : lX → lX} {o : Int} (hl : len.toInt = n) (hn : n ≤ 150) (hb : tB n f b) (h6 : 0 ≤ o ∧ o < 6) (hg : gdR n g) (hR : MR n b len f (o + 1) g RS) : MR n b len f o (pdG n b (some g)) (qqp RS) := by
  have hS : ∀ f : lX → lX, some g = some f → gdR n f := fun f e => by rw [← Option.some.inj e]; exact hg
  intro a bd bk op cd oc ct x Q hm hL ho hw hq
  exact mu_g hl hn hb h6 hg hR a bd bk op cd oc ct x _ hm hL ho hw (fun x1 x2 x3 x4 f5 f6 x7 c1 l1 o1 => ⟨151, mlp hl hn hb (qaIr hS) (mu_g hl hn hb h6 hg hR) hq 151 x1 x2 x3 x4 f5 f6 x7 150 _ c1 l1 o1 (q0m (qaIr hS) hw) (fun _ => by omega) (by omega) rfl⟩)
theorem ms_g {RS : mR7} {g : lX → lX} {o : Int} (hl : len.toInt = n) (hn : n ≤ 150) (hb : tB n f b) (h6 : 0 ≤ o ∧ o < 6) (hg : gdR n g) (hR : MR n b len f (o + 1) g RS) : MR n b len f o (suG n b (some g)) (qnm RS) := by
  have hS : ∀ f : lX → lX, some g = some f → gdR n f := fun f e => by rw [← Option.some.inj e]; exact hg
  intro a bd bk op cd oc ct x Q hm hL ho hw hq
  exact md_g hl hn hb h6 hg hR a bd bk op cd oc ct x _ hm hL ho hw (fun x1 x2 x3 x4 f5 f6 x7 c1 l1 o1 => ⟨151, mls hl hn hb (qaHx hS) (md_g hl hn hb h6 hg hR) hq 151 x1 x2 x3 x4 f5 f6 x7 150 _ c1 l1 o1 (q0m (qaHx hS) hw) (fun _ => by omega) (by omega) rfl⟩)
theorem md_0 {RS : mR7} (hl : len.toInt = n) (hn : n ≤ 150) (hb : tB n f b) (hR : MZ n b len f RS) : MR n b len f 6 (pdG n b none) (qqp RS) := by
  have hS : ∀ f : lX → lX, (none : Option (lX → lX)) = some f → gdR n f := fun f e => absurd e (by simp)
  intro a bd bk op cd oc ct x Q hm hL ho hw hq
  exact mu_0 hl hn hb hR a bd bk op cd oc ct x _ hm hL ho hw (fun x1 x2 x3 x4 f5 f6 x7 c1 l1 o1 => ⟨151, mlp hl hn hb (qaIr hS) (mu_0 hl hn hb hR) hq 151 x1 x2 x3 x4 f5 f6 x7 150 _ c1 l1 o1 (q0m (qaIr hS) hw) (fun _ => by omega) (by omega) rfl⟩)
theorem ms_0 {RS : mR7} (hl : len.toInt = n) (hn : n ≤ 150) (hb : tB n f b) (hR : MZ n b len f RS) : MR n b len f 6 (suG n b none) (qnm RS) := by
  have hS : ∀ f : lX → lX, (none : Option (lX → lX)) = some f → gdR n f := fun f e => absurd e (by simp)
  intro a bd bk op cd oc ct x Q hm hL ho hw hq
  exact md_0 hl hn hb hR a bd bk op cd oc ct x _ hm hL ho hw (fun x1 x2 x3 x4 f5 f6 x7 c1 l1 o1 => ⟨151, mls hl hn hb (qaHx hS) (md_0 hl hn hb hR) hq 151 x1 x2 x3 x4 f5 f6 x7 150 _ c1 l1 o1 (q0m (qaHx hS) hw) (fun _ => by omega) (by omega) rfl⟩)
theorem qbmT : MZ n b len f qv7 := by
  intro a bd bk op cd oc ct st Q hm h0 hq
  unfold qv7 qu0 qx3
  exact qnB hm (fun d => absurd d h0) (fun _ => ⟨fun d => absurd rfl d, fun _ => ⟨1, qnB hm (fun d => absurd d h0) (fun _ => ⟨fun _ => ⟨1, qnB hm (fun d => absurd d h0) (fun _ => ⟨fun _ => hq _ _ _ _ _ _ _ hm, fun d => absurd rfl d⟩)⟩, fun d => absurd rfl d⟩)⟩⟩)
theorem ms_7 (hl : len.toInt = n) (hn : n ≤ 150) (hb : tB n f b) : MR n b len f 0 (suN n b 6) (qFq) :=
  ms_g hl hn hb (by decide) (qS0 5) (ms_g hl hn hb (by decide) (qS0 4) (ms_g hl hn hb (by decide) (qS0 3) (ms_g hl hn hb (by decide) (qS0 2) (ms_g hl hn hb (by decide) (qS0 1) (ms_g hl hn hb (by decide) (qS0 0) (ms_0 hl hn hb qbmT))))))
end TMl
end
