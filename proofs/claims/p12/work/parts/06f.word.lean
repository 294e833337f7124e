theorem n_char (y : UInt32) : narrow .char (.int (y % 65536).toInt32) = .int (y % 65536).toInt32 := by
  show Value.int _ = Value.int _
  congr 1
  show (y % 65536).toUInt16.toUInt32.toInt32 = (y % 65536).toInt32
  congr 1
  apply UInt32.toNat_inj.mp
  simp
section Wd
variable {len fa : Int32} {f : Nat → Int32} {n1 : Nat} {b1 : Nat → Int32} {Q : Int32 → Int32 → Int32 → Prop}
theorem sl_word {a tk e : Int32} (e1 : (Int32.ofNat n1 >>> ((0 : Int32) &&& 31)).toInt = n1) (e2 : (Int32.ofNat n1).toInt = n1) (h0 : 0 ≤ a.toInt) (he : e.toInt = a.toInt + n1) (hle : e.toInt ≤ 600) (q0 : Q 0 a tk) (q1 : Q 1 e a) :
    ∀ (k : Nat) (i : Int32), 0 ≤ i.toInt → i.toInt ≤ n1 → n1 - i.toInt < k → wl_X8_takesWord_s_41 n1 b1 len fa f Q k a tk e i := by
  intro k
  induction k with
  | zero => intro i g0 g1 g2; omega
  | succ k ih =>
    intro i g0 g1 g2
    refine ⟨fun _ => q1, fun c x11 e11 => ?_⟩
    rw [t_le, e1] at c
    have ex : x11.toInt = a.toInt + i.toInt := by rw [e11]; exact t_add (by omega) (by omega)
    refine ⟨t_in (by omega) (by omega), fun x12 _ => ⟨fun c2 => ?_, ?_, t_in g0 (by omega), fun x ex2 => ⟨by rw [ex2]; exact n_char _, fun _ x15 e15 => ?_, fun _ => q0⟩⟩⟩
    · rw [t_lt, t_0] at c2; omega
    · rw [t_lt, e2]; omega
    · have e : x15.toInt = i.toInt + 1 := by rw [e15]; exact t_inc (by omega)
      exact ih x15 (by omega) (by omega) (by omega)
theorem sf_word {a tk : Int32} (hn : n1 ≤ 10) (e1 : (Int32.ofNat n1 >>> ((0 : Int32) &&& 31)).toInt = n1) (e2 : (Int32.ofNat n1).toInt = n1) (hl : len.toInt ≤ 600) (h0 : 0 ≤ a.toInt) (h1 : a.toInt ≤ 600)
    (q0 : ∀ x : Int32, 0 ≤ x.toInt → x.toInt ≤ 600 → Q 0 x tk) (q1 : ∀ x t : Int32, 0 ≤ x.toInt → x.toInt ≤ 600 → 0 ≤ t.toInt → t.toInt ≤ 600 → fa = 0 → Q 1 x t) : wq_X8_takesWord_s n1 b1 len fa f a tk Q := by
  refine sf_X8_skipBlanks hl h0 h1 (fun x1 g0 g1 x3 e3 => ?_)
  have ex : x3.toInt = x1.toInt + n1 := by rw [e3, t_add (by rw [e1]; omega) (by rw [e1]; omega), e1]
  refine sf_X8_isFaulty (fun c => ⟨fun c2 => absurd rfl c2, fun _ => ⟨fun _ => q0 x1 g0 g1, fun c3 => ?_⟩⟩) (fun c => ⟨fun _ => q0 x1 g0 g1, fun c2 => absurd c2 (by decide)⟩)
  rw [t_lt] at c3
  refine sf_X8_isLetter hl (by omega) ⟨fun _ => ⟨n1 + 1, sl_word e1 e2 g0 ex (by omega) (q0 x1 g0 g1) (q1 x3 x1 (by omega) (by omega) g0 g1 c) (n1 + 1) 0 (by decide) (by rw [t_0]; omega) (by rw [t_0]; omega)⟩, fun c => absurd rfl c⟩ (fun _ => ⟨fun c => absurd c (by decide), fun _ => q0 x1 g0 g1⟩)
end Wd
section Db
variable {len : Int32} {by_ : Nat → Int32} {a fa fp tk p2 : Int32}
theorem sb_X2_readDebt46 {h : Int32} {db : Nat → Int32} {l3 l4 : Int32} {Q : Int32 → Int32 → Int32 → Int32 → (Nat → Int32) → Prop} (hl : len.toInt ≤ 600) (h0 : 0 ≤ a.toInt) (h1 : a.toInt ≤ 600) (h3 : fa = 0 → (0 ≤ l3.toInt ∧ l3.toInt < 6) ∧ (0 ≤ l4.toInt ∧ l4.toInt < 6))
    (hq : ∀ (a f2 fp2 t2 : Int32) (db : Nat → Int32), 0 ≤ a.toInt → a.toInt ≤ 600 → (f2 = 0 → fa = 0) → Q a f2 fp2 t2 db) : wb_X2_readDebt_46 h len by_ Q a fa fp tk db l3 l4 := by
  refine sf_X8_number hl h0 h1 (fun r a2 f2 fp2 t2 g0 g1 g2 _ _ => sf_X8_needs hl g0 g1 (fun x t f3 p3 k0 k1 _ k3 _ => sf_X8_isFaulty (fun c => ⟨fun c2 => absurd rfl c2, fun _ x28 e28 x29 e29 => ?_⟩) (fun c => ⟨fun _ => hq _ _ _ _ _ k0 k1 (fun z => absurd z c), fun c2 => absurd c2 (by decide)⟩)))
  have hz := h3 (g2 (k3 c)).1
  have e1 : x28.toInt = l3.toInt * 6 := by rw [e28, t_mul (by rw [t_6]; omega) (by rw [t_6]; omega), t_6]
  have e2 : x29.toInt = l3.toInt * 6 + l4.toInt := by rw [e29, t_add (by omega) (by omega), e1]
  exact ⟨t_in (by omega) (by omega), fun f30 _ => hq _ _ _ _ _ k0 k1 (fun z => (g2 (k3 z)).1)⟩
theorem sf_X2_readDebt {h : Int32} {db : Nat → Int32} {Q : Int32 → Int32 → Int32 → Int32 → (Nat → Int32) → Prop} (hl : len.toInt ≤ 600) (h0 : 0 ≤ a.toInt) (h1 : a.toInt ≤ 600) (m0 : 0 ≤ h.toInt) (m1 : h.toInt ≤ 6)
    (hq : ∀ (a f2 fp2 t2 : Int32) (db : Nat → Int32), 0 ≤ a.toInt → a.toInt ≤ 600 → (f2 = 0 → fa = 0) → Q a f2 fp2 t2 db) : wq_X2_readDebt h len by_ a fa fp tk db p2 Q := by
  have en : (h - 1).toInt = h.toInt - 1 := t_pred (by omega)
  refine ⟨fun _ => sf_X8_number hl h0 h1 (fun r6 x2 x3 x4 x5 g0 g1 g2 _ _ => sf_X8_number hl g0 g1 (fun r11 x7 x8 x9 x10 k0 k1 k2 _ _ => ?_)), fun _ => sf_X8_blameToken (by decide) (fun f2 p2 c => hq _ _ _ _ _ h0 h1 (fun z => absurd z c))⟩
  rw [t_0, en] at g2 k2
  refine ⟨fun _ => sb_X2_readDebt46 hl k0 k1 (fun z => ?_) (fun a f2 fp2 t2 db d0 d1 d2 => hq _ _ _ _ _ d0 d1 (fun z => (g2 (k2 (d2 z)).1).1)), fun _ => sf_X8_blameToken (by decide) (fun f2 p2 c => sb_X2_readDebt46 hl k0 k1 (fun z => absurd z c) (fun a f2 fp2 t2 db d0 d1 d2 => hq _ _ _ _ _ d0 d1 (fun z => absurd (d2 z) c)))⟩
  have z2 := k2 z
  have z1 := g2 z2.1
  omega
end Db
