section
section Im
theorem qZn {n2 : Nat} {f2 im : Nat → Int32} {l1 l3 l4 : Int32} {Q : Int32 → NI → NI → Prop} (k4 : ¬ l4 = 0) (b0 : 0 ≤ l1.toInt) (b1 : 0 ≤ l3.toInt) (b2 : l1.toInt + l3.toInt ≤ 3471) (b3 : l3.toInt ≤ n2) (hq : ∀ G : NI, (∀ j : Nat, G j = if l1.toNatClampNeg ≤ j ∧ j < l1.toNatClampNeg + l3.toNatClampNeg then f2 (j - l1.toNatClampNeg) else im j) → Q (l1 + l3) f2 G) :
    ∀ (k : Nat) (G : NI) (l5 : Int32), (∀ j : Nat, G j = if l1.toNatClampNeg ≤ j ∧ j < l1.toNatClampNeg + l5.toNatClampNeg then f2 (j - l1.toNatClampNeg) else im j) → 0 ≤ l5.toInt → l5.toInt ≤ l3.toInt → l3.toInt - l5.toInt < k → qrj n2 Q k f2 G l1 l3 l4 l5 := by
  intro k
  induction k with
  | zero => intro G l5 hG h0 h1 h2; omega
  | succ k ih =>
    intro G l5 hG h0 h1 h2
    have n1 := qkX b0
    have n3 := qkX b1
    have n5 := qkX h0
    refine ⟨fun c => hq G (fun j => ?_), fun c => ⟨fun z => absurd z k4, fun _ x6 e6 => ?_⟩⟩
    · rw [qak] at c
      rw [hG j, show l5.toNatClampNeg = l3.toNatClampNeg by omega]
    · rw [qak] at c
      have q6 : x6.toInt = l1.toInt + l5.toInt := by rw [e6]; exact qap (by omega) (by omega)
      have n6 := qkX (x := x6) (by omega)
      refine ⟨qa6 h0 (by omega), fun x7 e7 => ⟨qa6 (by omega) (by omega), fun f8 e8 x9 e9 => ?_⟩⟩
      have q9 : x9.toInt = l5.toInt + 1 := by rw [e9]; exact qca (by omega)
      have n9 := qkX (x := x9) (by omega)
      refine ih f8 x9 (fun j => ?_) (by omega) (by omega) (by omega)
      rw [e8]
      by_cases z : j = x6.toNatClampNeg
      · rw [z, pk_us, if_pos (by omega), e7]; congr 1; omega
      · rw [pk_un z, hG j]
        by_cases y : l1.toNatClampNeg ≤ j ∧ j < l1.toNatClampNeg + l5.toNatClampNeg
        · rw [if_pos y, if_pos (by omega)]
        · rw [if_neg y, if_neg (by omega)]
theorem qZf {n2 : Nat} {im : Nat → Int32} {l1 l3 : Int32} {Q : Int32 → NI → NI → Prop} (b0 : 0 ≤ l1.toInt) (b1 : 0 ≤ l3.toInt) (b2 : l1.toInt + l3.toInt ≤ 3471) (b3 : l3.toInt ≤ n2) (hq : ∀ F : NI, (∀ j : Nat, j < l3.toNatClampNeg → F j = im (l1.toNatClampNeg + j)) → Q (l1 + l3) F im) :
    ∀ (k : Nat) (F : NI) (l5 : Int32), (∀ j : Nat, j < l5.toNatClampNeg → F j = im (l1.toNatClampNeg + j)) → 0 ≤ l5.toInt → l5.toInt ≤ l3.toInt → l3.toInt - l5.toInt < k → qrj n2 Q k F im l1 l3 0 l5 := by
  intro k
  induction k with
  | zero => intro F l5 hF h0 h1 h2; omega
  | succ k ih =>
    intro F l5 hF h0 h1 h2
    have n1 := qkX b0
    have n3 := qkX b1
    have n5 := qkX h0
    refine ⟨fun c => hq F (fun j hj => ?_), fun c => ⟨fun _ x3 e3 => ?_, fun z => absurd rfl z⟩⟩
    · rw [qak] at c
      exact hF j (by omega)
    · rw [qak] at c
      have q3 : x3.toInt = l1.toInt + l5.toInt := by rw [e3]; exact qap (by omega) (by omega)
      have n6 := qkX (x := x3) (by omega)
      refine ⟨qa6 (by omega) (by omega), fun x4 e4 => ⟨qa6 h0 (by omega), fun f5 e5 x9 e9 => ?_⟩⟩
      have q9 : x9.toInt = l5.toInt + 1 := by rw [e9]; exact qca (by omega)
      have n9 := qkX (x := x9) (by omega)
      refine ih f5 x9 (fun j hj => ?_) (by omega) (by omega) (by omega)
      rw [e5]
      by_cases z : j = l5.toNatClampNeg
      · rw [z, pk_us, e4]; congr 1; omega
      · rw [pk_un z]; exact hF j (by omega)
theorem qbdi {p : Int32} (h0 : 0 ≤ p.toInt) (h1 : p.toInt ≤ 2) : (1157 * p).toInt = 1157 * p.toInt := by
  have e : (1157 : Int32).toInt = 1157 := by decide
  rw [qu8 (by rw [e]; omega) (by rw [e]; omega), e]
theorem c_68 : (68 : Int32).toNatClampNeg = 68 := by decide
theorem qbdd : (1088 : Int32).toNatClampNeg = 1088 := by decide
theorem v_68 : (68 : Int32).toInt = 68 := by decide
theorem qaod : (1088 : Int32).toInt = 1088 := by decide
end Im
end
section
section Rg
theorem t_2p {x : Int32} (x0 : 0 ≤ x.toInt) (x1 : x.toInt ≤ 8) : (1 <<< (x &&& 31) : Int32).toInt = (2 ^ x.toNatClampNeg : Nat) := by
  rcases qaeh x0 x1 with rfl | rfl | rfl | rfl | rfl | rfl | rfl | rfl | rfl <;> decide
set_option maxRecDepth 100000 in
theorem qbiC : ∀ x : Fin 256, ∀ i : Fin 8, ((Int32.ofNat x.val >>> (Int32.ofNat i.val &&& 31)) &&& 1 : Int32) = 1 ∨ ((Int32.ofNat x.val).toInt < (Int32.ofNat x.val ||| (1 <<< (Int32.ofNat i.val &&& 31)) : Int32).toInt ∧ (Int32.ofNat x.val ||| (1 <<< (Int32.ofNat i.val &&& 31)) : Int32).toInt < 256 ∧ pcK (Int32.ofNat x.val ||| (1 <<< (Int32.ofNat i.val &&& 31))) 8 = pcK (Int32.ofNat x.val) 8 + 1) := by decide +kernel
set_option maxRecDepth 100000 in
theorem qbgl : ∀ x : Fin 256, ∀ n : Fin 9, x.val < 2 ^ n.val → (∀ i : Fin 8, i.val < n.val → ((Int32.ofNat x.val >>> (Int32.ofNat i.val &&& 31)) &&& 1 : Int32) = 1) → x.val + 1 = 2 ^ n.val := by decide +kernel
set_option maxRecDepth 100000 in
theorem qbkN : ∀ n : Fin 9, pcK (Int32.ofNat (2 ^ n.val - 1)) 8 = n.val := by decide +kernel
theorem qbh3 {x i : Int32} (x0 : 0 ≤ x.toInt) (x1 : x.toInt < 256) (i0 : 0 ≤ i.toInt) (i1 : i.toInt < 8) : ((x >>> (i &&& 31)) &&& 1) = 1 ∨ (x.toInt < (x ||| (1 <<< (i &&& 31)) : Int32).toInt ∧ (x ||| (1 <<< (i &&& 31)) : Int32).toInt < 256 ∧ pcK (x ||| (1 <<< (i &&& 31))) 8 = pcK x 8 + 1) := by
  have h1 := qkX x0
  have h2 := qkX i0
  have h := qbiC ⟨x.toNatClampNeg, by omega⟩ ⟨i.toNatClampNeg, by omega⟩
  rw [qP9 x0, qP9 i0] at h
  exact h
theorem qbj0 {a b : Int32} (a0 : 0 ≤ a.toInt) (am : a.toInt % 256 = 0) (b0 : 0 ≤ b.toInt) (b1 : b.toInt < 256) : (a ||| b).toInt = a.toInt + b.toInt := by
  have ha := qaPK a0
  have hb := qaPK b0
  have ra := qaoP a
  have e : a.toBitVec.toNat ||| b.toBitVec.toNat = a.toBitVec.toNat + b.toBitVec.toNat := by
    have q := Nat.two_pow_add_eq_or_of_lt (i := 8) (b := b.toBitVec.toNat) (by omega) (a.toBitVec.toNat / 256)
    have e2 : 2 ^ 8 * (a.toBitVec.toNat / 256) = a.toBitVec.toNat := by omega
    rw [e2] at q
    exact q.symm
  have h : (a ||| b).toBitVec.toNat = a.toBitVec.toNat + b.toBitVec.toNat := by rw [qaOz]; exact e
  have e3 := qaVo (x := a ||| b) (by omega)
  omega
theorem qbmO {a b c : Int32} : (a ||| b) ||| c = a ||| (b ||| c) := Int32.or_assoc a b c
def rix (a s : Int32) : Int32 := (a <<< (8 &&& 31)) ||| s
def rix2 (f s : Int32) : Int32 := ((f <<< (8 &&& 31)) ||| s) ||| (1 <<< (f &&& 31))
theorem qbbx {a s : Int32} (a0 : 0 ≤ a.toInt) (a1 : a.toInt < 8) (s0 : 0 ≤ s.toInt) (s1 : s.toInt < 256) : (rix a s).toInt = a.toInt * 256 + s.toInt := by
  have e := qVZ a0 (by omega)
  unfold rix
  rw [qbj0 (by omega) (by omega) s0 s1, e]
theorem qa0m {f s : Int32} (f0 : 0 ≤ f.toInt) (f1 : f.toInt < 8) (s0 : 0 ≤ s.toInt) (s1 : s.toInt < 256) (hb : ¬ ((s >>> (f &&& 31)) &&& 1) = 1) : (rix2 f s).toInt = f.toInt * 256 + (s ||| (1 <<< (f &&& 31)) : Int32).toInt ∧ s.toInt < (s ||| (1 <<< (f &&& 31)) : Int32).toInt ∧ (s ||| (1 <<< (f &&& 31)) : Int32).toInt < 256 := by
  have g := (qbh3 s0 s1 f0 f1).resolve_left hb
  have e := qVZ f0 (by omega)
  refine ⟨?_, g.1, g.2.1⟩
  unfold rix2
  rw [qbmO, qbj0 (by omega) (by omega) (by omega) (by omega), e]
  omega
def rSz (x : Int32) : Int32 := if 0 ≤ x then x else -x
def rFar (fm : NI) (a b : Int32) : Int32 := rSz (fm (2 * a).toNatClampNeg - fm (2 * b).toNatClampNeg) + rSz (fm (2 * a + 1).toNatClampNeg - fm (2 * b + 1).toNatClampNeg)
theorem qbcG {x : Int32} {Q : Int32 → Prop} (hq : Q (rSz x)) : qCi x Q := by
  unfold rSz at hq
  exact ⟨fun c => by rw [if_pos c] at hq; exact hq, fun c => by rw [if_neg c] at hq; exact hq⟩
theorem qaXR {fm : Nat → Int32} {a b : Int32} {Q : Int32 → Prop} (a0 : 0 ≤ a.toInt) (a1 : a.toInt < 8) (b0 : 0 ≤ b.toInt) (b1 : b.toInt < 8) (hq : Q (rFar fm a b)) : qqm fm a b Q := by
  intro x1 e1
  have q1 : x1.toInt = 2 * a.toInt := by rw [e1, qu8 (by rw [t_2]; omega) (by rw [t_2]; omega), t_2]
  refine ⟨qa6 (by omega) (by omega), fun x2 e2 x3 e3 => ?_⟩
  have q3 : x3.toInt = 2 * b.toInt := by rw [e3, qu8 (by rw [t_2]; omega) (by rw [t_2]; omega), t_2]
  refine ⟨qa6 (by omega) (by omega), fun x4 e4 => qbcG (fun x6 e6 x7 e7 => ?_)⟩
  have q7 : x7.toInt = 2 * a.toInt + 1 := by
    have h : x6.toInt = 2 * a.toInt := by rw [e6, qu8 (by rw [t_2]; omega) (by rw [t_2]; omega), t_2]
    rw [e7, qca (by omega), h]
  refine ⟨qa6 (by omega) (by omega), fun x8 e8 x9 e9 x10 e10 => ?_⟩
  have q10 : x10.toInt = 2 * b.toInt + 1 := by
    have h : x9.toInt = 2 * b.toInt := by rw [e9, qu8 (by rw [t_2]; omega) (by rw [t_2]; omega), t_2]
    rw [e10, qca (by omega), h]
  refine ⟨qa6 (by omega) (by omega), fun x11 e11 => qbcG ?_⟩
  rw [e2, e4, e8, e11, e1, e3, e7, e10, e6, e9]
  exact hq
/-- the ring's best from a place on is reached by some form -/
def rAt (fm lo : NI) (n a s : Int32) : Prop := ∃ f : Int32, 0 ≤ f.toInt ∧ f.toInt < n.toInt ∧ ¬ ((s >>> (f &&& 31)) &&& 1) = 1 ∧ rFar fm a f + lo (rix2 f s).toNatClampNeg = lo (rix a s).toNatClampNeg
theorem qa9x {fm lo lp : Nat → Int32} {n a s b t v : Int32} (n8 : n.toInt ≤ 8) (a0 : 0 ≤ a.toInt) (a1 : a.toInt < 8) (s0 : 0 ≤ s.toInt) (s1 : s.toInt < 256) (b0 : 0 ≤ b.toInt) (b1 : b.toInt < 8) (t0 : 0 ≤ t.toInt) (t1 : t.toInt < 256) (e : lp = upd lo (rix b t).toNatClampNeg v) (hlt : t.toInt < s.toInt ∨ (t.toInt = s.toInt ∧ a.toInt ≠ b.toInt)) (h : rAt fm lo n a s) : rAt fm lp n a s := by
  obtain ⟨f, f0, f1, f2, f3⟩ := h
  have g1 := qbbx b0 b1 t0 t1
  have g2 := qbbx a0 a1 s0 s1
  have g3 := qa0m f0 (by omega) s0 s1 f2
  have m1 := qkX (x := rix b t) (by omega)
  have m2 := qkX (x := rix a s) (by omega)
  have m3 := qkX (x := rix2 f s) (by omega)
  refine ⟨f, f0, f1, f2, ?_⟩
  rw [e, pk_un (by omega), pk_un (by omega)]
  exact f3
section Lay
variable {n : Int32} {fm : Nat → Int32} {Q : NI → Prop}
/-- all sets above one are laid -/
def rLay (fm lo : NI) (n s : Int32) : Prop := ∀ t a : Int32, s.toInt < t.toInt → t.toInt + 1 < (2 ^ n.toNatClampNeg : Nat) → 0 ≤ a.toInt → a.toInt < n.toInt → rAt fm lo n a t
theorem qajn {K9 : NI → Int32 → Prop} {K15 : NI → Int32 → Int32 → Prop} {lo : Nat → Int32} {s a : Int32} (n0 : 0 ≤ n.toInt) (n8 : n.toInt ≤ 8) (s0 : 0 ≤ s.toInt) (s1 : s.toInt < (2 ^ n.toNatClampNeg : Nat)) (a0 : 0 ≤ a.toInt) (a1 : a.toInt < n.toInt) (hK : ∀ (lp : NI) (x : Int32), x.toInt = a.toInt + 1 → (∃ v, lp = upd lo (rix a s).toNatClampNeg v) → (s.toInt + 1 = (2 ^ n.toNatClampNeg : Nat) ∨ rAt fm lp n a s) → K15 lp s x) :
    ∀ (k : Nat) (v i : Int32), 0 ≤ i.toInt → i.toInt ≤ 8 → (s.toInt + 1 = (2 ^ n.toNatClampNeg : Nat) ∨ (v = -1 ∧ ∀ f : Int32, 0 ≤ f.toInt → f.toInt < i.toInt → ((s >>> (f &&& 31)) &&& 1) = 1) ∨ (∃ f : Int32, 0 ≤ f.toInt ∧ f.toInt < n.toInt ∧ ¬ ((s >>> (f &&& 31)) &&& 1) = 1 ∧ v = rFar fm a f + lo (rix2 f s).toNatClampNeg)) → 8 - i.toInt < k → qkJ n fm Q K9 K15 k lo s a v i := by
  have hp8 : 2 ^ n.toNatClampNeg ≤ 2 ^ 8 := Nat.pow_le_pow_right (by decide) (by have := qkX n0; omega)
  intro k
  induction k with
  | zero => intro v i i0 i1 hv i2; omega
  | succ k ih =>
    intro v i i0 i1 hv i2
    refine ⟨fun c x8 e8 x9 e9 => ?_, fun c => ?_⟩
    · rw [qak] at c
      have g := qbbx a0 (by omega) s0 (by omega)
      have e : x9 = rix a s := by rw [e9, e8]; rfl
      refine ⟨qa6 (by rw [e]; omega) (by rw [e]; omega), fun f10 e10 x11 e11 => ?_⟩
      rw [e] at e10
      have q11 : x11.toInt = a.toInt + 1 := by rw [e11]; exact qca (by omega)
      refine hK f10 x11 q11 ⟨v, e10⟩ ?_
      rcases hv with hv | ⟨_, hv⟩ | ⟨f, f0, f1, f2, f3⟩
      · exact Or.inl hv
      · have hn := qkX n0
        have hs := qkX s0
        have q := qbgl ⟨s.toNatClampNeg, by omega⟩ ⟨n.toNatClampNeg, by omega⟩ (by show s.toNatClampNeg < 2 ^ n.toNatClampNeg; omega) (fun j hj => by
          have hj2 : j.val < n.toNatClampNeg := hj
          have ej : (Int32.ofNat j.val).toInt = j.val := Int32.toInt_ofNat_of_lt (by omega)
          have := hv (Int32.ofNat j.val) (by omega) (by omega)
          rw [← qP9 s0] at this
          exact this)
        have q2 : s.toNatClampNeg + 1 = 2 ^ n.toNatClampNeg := q
        exact Or.inl (by omega)
      · right
        have g3 := qa0m f0 (by omega) s0 (by omega) f2
        have m2 := qkX (x := rix a s) (by omega)
        have m3 := qkX (x := rix2 f s) (by omega)
        refine ⟨f, f0, f1, f2, ?_⟩
        rw [e10, pk_us, pk_un (by omega)]; exact f3.symm
    · rw [qak] at c
      have go : ∀ (v x21 : Int32), x21 = i + 1 → (s.toInt + 1 = (2 ^ n.toNatClampNeg : Nat) ∨ (v = -1 ∧ ∀ f : Int32, 0 ≤ f.toInt → f.toInt ≤ i.toInt → ((s >>> (f &&& 31)) &&& 1) = 1) ∨ (∃ f : Int32, 0 ≤ f.toInt ∧ f.toInt < n.toInt ∧ ¬ ((s >>> (f &&& 31)) &&& 1) = 1 ∧ v = rFar fm a f + lo (rix2 f s).toNatClampNeg)) → qkJ n fm Q K9 K15 k lo s a v x21 := fun v x21 e21 hv => by
        have q : x21.toInt = i.toInt + 1 := by rw [e21]; exact qca (by omega)
        refine ih v x21 (by omega) (by omega) ?_ (by omega)
        rcases hv with hv | ⟨hz, hv⟩ | hv
        · exact Or.inl hv
        · exact Or.inr (Or.inl ⟨hz, fun f f0 f1 => hv f f0 (by omega)⟩)
        · exact Or.inr (Or.inr hv)
      refine ⟨fun cb => qaXR a0 (by omega) i0 (by omega) (fun x14 e14 x15 e15 x16 e16 => ?_), fun cb x21 e21 => go v x21 e21 ?_⟩
      · have e : x16 = rix2 i s := by rw [e16, e15, e14]; rfl
        have g3 := qa0m i0 (by omega) s0 (by omega) cb
        refine ⟨qa6 (by rw [e]; omega) (by rw [e]; omega), fun x17 e17 x18 e18 => ?_⟩
        have new : ∃ f : Int32, 0 ≤ f.toInt ∧ f.toInt < n.toInt ∧ ¬ ((s >>> (f &&& 31)) &&& 1) = 1 ∧ x18 = rFar fm a f + lo (rix2 f s).toNatClampNeg := ⟨i, i0, by omega, cb, by rw [e18, e17, e]⟩
        refine ⟨fun _ x21 e21 => go x18 x21 e21 (Or.inr (Or.inr new)), fun cn => ⟨fun _ x21 e21 => ?_, fun _ x21 e21 => go x18 x21 e21 (Or.inr (Or.inr new))⟩⟩
        rcases hv with hv | ⟨hv, _⟩ | hv
        · exact go v x21 e21 (Or.inl hv)
        · exact absurd hv cn
        · exact go v x21 e21 (Or.inr (Or.inr hv))
      · rcases hv with hv | ⟨hz, hv⟩ | hv
        · exact Or.inl hv
        · refine Or.inr (Or.inl ⟨hz, fun f f0 f1 => ?_⟩)
          by_cases z : f.toInt = i.toInt
          · have : f = i := qan.mpr z
            rw [this]; exact cb
          · exact hv f f0 (by omega)
        · exact Or.inr (Or.inr hv)
theorem qalv {K9 : NI → Int32 → Prop} {s : Int32} (n0 : 0 ≤ n.toInt) (n8 : n.toInt ≤ 8) (s0 : 0 ≤ s.toInt) (s1 : s.toInt < (2 ^ n.toNatClampNeg : Nat)) (hK : ∀ (lp : NI) (x : Int32), x.toInt = s.toInt - 1 → rLay fm lp n x → K9 lp x) :
    ∀ (k : Nat) (lo : NI) (a : Int32), 0 ≤ a.toInt → a.toInt ≤ 8 → rLay fm lo n s → (∀ b : Int32, 0 ≤ b.toInt → b.toInt < a.toInt → s.toInt + 1 = (2 ^ n.toNatClampNeg : Nat) ∨ rAt fm lo n b s) → 8 - a.toInt < k → qrb n fm Q K9 k lo s a := by
  have hp8 : 2 ^ n.toNatClampNeg ≤ 2 ^ 8 := Nat.pow_le_pow_right (by decide) (by have := qkX n0; omega)
  intro k
  induction k with
  | zero => intro lo a a0 a1 hl hb i2; omega
  | succ k ih =>
    intro lo a a0 a1 hl hb i2
    refine ⟨fun c x4 e4 => ?_, fun c => ?_⟩
    · rw [qak] at c
      have q4 : x4.toInt = s.toInt - 1 := by rw [e4, qap (by rw [qam]; omega) (by rw [qam]; omega), qam]; omega
      refine hK lo x4 q4 (fun t b ht ht2 b0 b1 => ?_)
      by_cases z : t.toInt = s.toInt
      · have e : t = s := qan.mpr z
        rw [e]
        exact (hb b b0 (by omega)).resolve_left (by omega)
      · exact hl t b (by omega) ht2 b0 b1
    · rw [qak] at c
      have go : ∀ v : Int32, (s.toInt + 1 = (2 ^ n.toNatClampNeg : Nat) ∨ v = -1) → qC0 n fm Q K9 (fun lo s a => qrb n fm Q K9 k lo s a) lo s a v := fun v hv =>
        ⟨9, qajn n0 n8 s0 s1 a0 (by omega) (fun lp x qx hu hr => by
          obtain ⟨v, hu⟩ := hu
          refine ih lp x (by omega) (by omega) (fun t b ht ht2 b0 b1 => qa9x n8 b0 (by omega) (by omega) (by omega) a0 (by omega) s0 (by omega) hu (Or.inl ht) (hl t b ht ht2 b0 b1)) (fun b b0 b1 => ?_) (by omega)
          by_cases z : b.toInt = a.toInt
          · have e : b = a := qan.mpr z
            rw [e]; exact hr
          · rcases hb b b0 (by omega) with q | q
            · exact Or.inl q
            · exact Or.inr (qa9x n8 b0 (by omega) s0 (by omega) a0 (by omega) s0 (by omega) hu (Or.inr ⟨rfl, z⟩) q)) 9 v 0 (by decide) (by decide) (by
              rcases hv with hv | hv
              · exact Or.inl hv
              · exact Or.inr (Or.inl ⟨hv, fun f f0 f1 => by rw [t_0] at f1; omega⟩)) (by decide)⟩
      refine ⟨fun _ => go (-1) (Or.inr rfl), fun ce => qaXR a0 (by omega) (by decide) (by decide) (go _ (Or.inl ?_))⟩
      have h1 := t_2p n0 n8
      have h2 := qN0 n0 n8
      rw [qan, qqj (by omega)] at ce
      omega
theorem qap6 (n0 : 0 ≤ n.toInt) (n8 : n.toInt ≤ 8) (hq : ∀ lo : NI, rLay fm lo n (-1) → Q lo) :
    ∀ (k : Nat) (lo : NI) (s : Int32), -1 ≤ s.toInt → s.toInt < (2 ^ n.toNatClampNeg : Nat) → rLay fm lo n s → s.toInt + 1 < k → qAo n fm Q k lo s := by
  intro k
  induction k with
  | zero => intro lo s s0 s1 hl i2; omega
  | succ k ih =>
    intro lo s s0 s1 hl i2
    refine ⟨fun c => ?_, fun c => ?_⟩
    · rw [qao, t_0] at c
      exact hq lo (fun t a ht ht2 a0 a1 => hl t a (by rw [qam] at ht; omega) ht2 a0 a1)
    · rw [qao, t_0] at c
      exact ⟨9, qalv n0 n8 (by omega) s1 (fun lp x qx hx => ih lp x (by omega) (by omega) hx (by omega)) 9 lo 0 (by decide) (by decide) hl (fun b b0 b1 => by rw [t_0] at b1; omega) (by decide)⟩
theorem qUc {lo : Nat → Int32} (n0 : 0 ≤ n.toInt) (n8 : n.toInt ≤ 8) (hq : ∀ lo : NI, rLay fm lo n (-1) → Q lo) : qKQ n fm lo Q := by
  intro x1 e1
  have h1 := t_2p n0 n8
  have h2 := qN0 n0 n8
  have q1 : x1.toInt = (1 <<< (n &&& 31) : Int32).toInt - 1 := by rw [e1]; exact qqj (by omega)
  exact ⟨258, qap6 n0 n8 hq 258 lo x1 (by omega) (by omega) (fun t a ht ht2 _ _ => by omega) (by omega)⟩
end Lay
theorem qa0a {n : Int32} {fm lo : Nat → Int32} {th : Int32} {Q : Int32 → Int32 → NI → Prop} (n0 : 0 ≤ n.toInt) (n8 : n.toInt ≤ 8) (hq : ∀ (r t : Int32) (lo : NI), Q r t lo) : q82 n fm th lo Q :=
  ⟨fun _ => qUc n0 n8 (fun _ _ _ _ => hq _ _ _), fun _ => hq _ _ _⟩
theorem qasR {n : Int32} {fm : Nat → Int32} {Q : Int32 → Int32 → NI → NI → Prop} {K46 : Int32 → NI → NI → Int32 → Int32 → Int32 → Int32 → Prop} {th : Int32} {rf lo : Nat → Int32} {l1 s a l4 w : Int32} (n8 : n.toInt ≤ 8) (s0 : 0 ≤ s.toInt) (s1 : s.toInt < 256) (a0 : 0 ≤ a.toInt) (a1 : a.toInt < n.toInt) (w0 : 0 ≤ w.toInt) (w1 : w.toInt < n.toInt) (w2 : ¬ ((s >>> (w &&& 31)) &&& 1) = 1) (w3 : rFar fm a w + lo (rix2 w s).toNatClampNeg = lo (rix a s).toNatClampNeg)
    (hK : ∀ f x y : Int32, 0 ≤ f.toInt → f.toInt < n.toInt → ¬ ((s >>> (f &&& 31)) &&& 1) = 1 → x = s ||| (1 <<< (f &&& 31)) → y = l4 + 1 → K46 th rf lo l1 x f y) :
    ∀ (k : Nat) (l5 : Int32), 0 ≤ l5.toInt → l5.toInt ≤ w.toInt → 8 - l5.toInt < k → qst n fm Q K46 k th rf lo l1 s a l4 l5 := by
  intro k
  induction k with
  | zero => intro l5 h0 h1 h2; omega
  | succ k ih =>
    intro l5 h0 h1 h2
    have go : l5.toInt ≠ w.toInt → ∀ x21 : Int32, x21 = l5 + 1 → qst n fm Q K46 k th rf lo l1 s a l4 x21 := fun hne x21 e21 => by
      have q : x21.toInt = l5.toInt + 1 := by rw [e21]; exact qca (by omega)
      exact ih x21 (by omega) (by omega) (by omega)
    have hw : l5.toInt = w.toInt → l5 = w := fun z => qan.mpr z
    refine ⟨fun cb x21 e21 => go (fun z => by rw [hw z] at cb; exact w2 cb) x21 e21, fun cb => qaXR a0 (by omega) h0 (by omega) (fun x11 e11 x12 e12 x13 e13 => ?_)⟩
    have e : x13 = rix2 l5 s := by rw [e13, e12, e11]; rfl
    have g3 := qa0m h0 (by omega) s0 s1 cb
    have g2 := qbbx a0 (by omega) s0 s1
    refine ⟨qa6 (by rw [e]; omega) (by rw [e]; omega), fun x14 e14 x15 e15 x16 e16 => ?_⟩
    have e2 : x16 = rix a s := by rw [e16, e15]; rfl
    refine ⟨qa6 (by rw [e2]; omega) (by rw [e2]; omega), fun x17 e17 => ⟨fun _ x19 e19 x20 e20 => hK l5 x19 x20 h0 (by omega) cb e19 e20, fun cn x21 e21 => go (fun z => cn ?_) x21 e21⟩⟩
    rw [e14, e, e17, e2, hw z]; exact w3
theorem qapd {n : Int32} {fm : Nat → Int32} {Q : Int32 → Int32 → NI → NI → Prop} {th : Int32} {rf lo : Nat → Int32} {l1 : Int32} (n0 : 0 ≤ n.toInt) (n8 : n.toInt ≤ 8) (hl : rLay fm lo n (-1)) (h1n : l1.toInt < n.toInt) (hq : ∀ r : Int32, Q r th rf lo) :
    ∀ (k : Nat) (s a l4 : Int32), 0 ≤ s.toInt → s.toInt < (2 ^ n.toNatClampNeg : Nat) → 0 ≤ a.toInt → a.toInt < n.toInt → pcK s 8 = l4.toInt + 1 → 0 ≤ l4.toInt → l4.toInt ≤ 8 → 8 - l4.toInt < k → qAe n fm Q k th rf lo l1 s a l4 := by
  have hn := qkX n0
  have hp8 : 2 ^ n.toNatClampNeg ≤ 2 ^ 8 := Nat.pow_le_pow_right (by decide) (by omega)
  intro k
  induction k with
  | zero => intro s a l4 s0 s1 a0 a1 hp h0 h1 h2; omega
  | succ k ih =>
    intro s a l4 s0 s1 a0 a1 hp h0 h1 h2
    refine ⟨fun _ => hq _, fun c => ?_⟩
    rw [qak] at c
    have hnf : s.toInt + 1 < (2 ^ n.toNatClampNeg : Nat) := by
      by_cases z : s.toInt + 1 = (2 ^ n.toNatClampNeg : Nat)
      · have hs := qkX s0
        have g := qbkN ⟨n.toNatClampNeg, by omega⟩
        have e : 2 ^ n.toNatClampNeg - 1 = s.toNatClampNeg := by omega
        have g2 : pcK (Int32.ofNat (2 ^ n.toNatClampNeg - 1)) 8 = n.toNatClampNeg := g
        rw [e, qP9 s0] at g2
        omega
      · omega
    obtain ⟨w, w0, w1, w2, w3⟩ := hl s a (by rw [qam]; omega) hnf a0 a1
    refine ⟨9, qasR n8 s0 (by omega) a0 a1 w0 w1 w2 w3 (fun f x y f0 f1 f2 ex ey => ?_) 9 0 (by decide) (by rw [t_0]; omega) (by decide)⟩
    have g := (qbh3 s0 (by omega) f0 (by omega)).resolve_left f2
    rw [← ex] at g
    have qy : y.toInt = l4.toInt + 1 := by rw [ey]; exact qca (by omega)
    have hf := qkX f0
    have hlt : x.toInt < (2 ^ n.toNatClampNeg : Nat) := by
      rw [ex]
      have e2 := t_2p f0 (by omega)
      have hm : 2 ^ f.toNatClampNeg < 2 ^ n.toNatClampNeg := Nat.pow_lt_pow_right (by decide) (by omega)
      exact (qa6P n.toNatClampNeg (by omega) s0 s1 (by rw [e2]; exact Int.natCast_nonneg _) (by rw [e2]; exact Int.ofNat_lt.mpr hm)).2
    exact ih x f y (by omega) hlt f0 f1 (by omega) (by omega) (by omega) (by omega)
theorem qafC {n : Int32} {fm : Nat → Int32} {th : Int32} {rf lo : Nat → Int32} {p1 : Int32} {Q : Int32 → Int32 → NI → NI → Prop} (n0 : 0 ≤ n.toInt) (n8 : n.toInt ≤ 8) (hq : ∀ (r t : Int32) (rf lo : NI), Q r t rf lo) : qX0 n fm th rf lo p1 Q := by
  have hn := qkX n0
  have go : ∀ s1 : Int32, qE2 n fm Q 0 rf lo p1 s1 := fun s1 => qcb (by decide) (by decide) (by decide) (fun r t f _ => ⟨fun _ => ⟨fun c => ?_, fun _ => hq _ _ _ _⟩, fun _ => hq _ _ _ _⟩)
  · exact ⟨fun _ => go 0, fun _ => go 1⟩
  · rw [qao] at c
    by_cases z : n.toInt = 0
    · refine qUc n0 n8 (fun lo hl => ⟨1, ⟨fun _ => hq _ _ _ _, fun c2 => ?_⟩⟩)
      rw [qak, t_0] at c2
      omega
    · have hm : 2 ^ 1 ≤ 2 ^ n.toNatClampNeg := Nat.pow_le_pow_right (by decide) (by omega)
      exact qUc n0 n8 (fun lo hl => ⟨9, qapd n0 n8 hl c (fun _ => hq _ _ _ _) 9 1 0 0 (by decide) (by rw [t_1]; omega) (by decide) (by rw [t_0]; omega) (by decide) (by decide) (by decide) (by decide)⟩)
end Rg
end
