section
/-! safety: ints by their toInt -/
theorem qao {a b : Int32} : a < b ↔ a.toInt < b.toInt := Int32.lt_iff_toInt_lt
theorem qak {a b : Int32} : a ≤ b ↔ a.toInt ≤ b.toInt := Int32.le_iff_toInt_le
theorem qan {a b : Int32} : a = b ↔ a.toInt = b.toInt := Int32.toInt_inj.symm
theorem qaoP (a : Int32) : -2147483648 ≤ a.toInt ∧ a.toInt ≤ 2147483647 := ⟨by have := Int32.le_toInt a; omega, by have := Int32.toInt_lt a; omega⟩
theorem qap {a b : Int32} (h1 : -2147483648 ≤ a.toInt + b.toInt) (h2 : a.toInt + b.toInt ≤ 2147483647) : (a + b).toInt = a.toInt + b.toInt := by
  rw [Int32.toInt_add]; exact Int.bmod_eq_of_le (by omega) (by omega)
theorem qpT {a b : Int32} (h1 : -2147483648 ≤ a.toInt - b.toInt) (h2 : a.toInt - b.toInt ≤ 2147483647) : (a - b).toInt = a.toInt - b.toInt := by
  rw [Int32.toInt_sub]; exact Int.bmod_eq_of_le (by omega) (by omega)
theorem qu8 {a b : Int32} (h1 : -2147483648 ≤ a.toInt * b.toInt) (h2 : a.toInt * b.toInt ≤ 2147483647) : (a * b).toInt = a.toInt * b.toInt := by
  rw [Int32.toInt_mul]; exact Int.bmod_eq_of_le (by omega) (by omega)
theorem t_0 : (0 : Int32).toInt = 0 := by decide
theorem t_1 : (1 : Int32).toInt = 1 := by decide
theorem qam : (-1 : Int32).toInt = -1 := by decide
theorem qca {a : Int32} (h : a.toInt < 2147483647) : (a + 1).toInt = a.toInt + 1 := by
  have := qaoP a
  rw [qap (by rw [t_1]; omega) (by rw [t_1]; omega), t_1]
theorem qa6 {x : Int32} {n : Nat} (h0 : 0 ≤ x.toInt) (h1 : x.toInt < n) : vp_in x n := vp_in_iff.mpr ⟨h0, h1⟩
/-! the tape of the class -/
theorem qKR {v : Int32} {Q : Int32 → Prop} (h0 : v = 0 → Q 0) (h1 : ¬ v = 0 → Q 1) : qgr v Q := ⟨h0, h1⟩
end
section
theorem qI2 {p a b : Int32} {Q : Int32 → Prop} (h0 : p.toInt < a.toInt ∨ b.toInt < p.toInt → Q 0) (h1 : a.toInt ≤ p.toInt → p.toInt ≤ b.toInt → Q 1) : qqN p a b Q :=
  ⟨fun c => h0 (Or.inl (qao.mp c)), fun c => ⟨fun c2 => h0 (Or.inr (qao.mp c2)), fun c2 => h1 (Int.not_lt.mp (fun h => c (qao.mpr h))) (Int.not_lt.mp (fun h => c2 (qao.mpr h)))⟩⟩
theorem qbk {v p a b : Int32} {E : String → Int32 → Prop} {Q : Int32 → Prop} (he : E "java/lang/IllegalArgumentException" (v + 1)) (hq : a.toInt ≤ p.toInt → p.toInt ≤ b.toInt → Q v) : qaC v p a b E Q :=
  qI2 (fun _ => ⟨fun c => absurd rfl c, fun _ x2 e2 => by rw [e2]; exact he⟩) (fun h1 h2 => ⟨fun _ => hq h1 h2, fun c => absurd c (by decide)⟩)
section Num
variable {len l1 l2 : Int32} {f : Nat → Int32} {Q : Int32 → Int32 → Int32 → Int32 → Int32 → Prop} {fa fp tk : Int32}
end Num
end
section
theorem t_6 : (6 : Int32).toInt = 6 := by decide
theorem t_8 : (8 : Int32).toInt = 8 := by decide
theorem qcE : (20 : Int32).toInt = 20 := by decide
theorem qaXU : (600 : Int32).toInt = 600 := by decide
theorem t_m8 : (-8 : Int32).toInt = -8 := by decide
theorem qbz : (24 : Int32).toInt = 24 := by decide
theorem qqj {p : Int32} (h : -2147483648 < p.toInt) : (p - 1).toInt = p.toInt - 1 := by
  have := qaoP p
  rw [qpT (by rw [t_1]; omega) (by rw [t_1]; omega), t_1]
theorem qaWP {Q : Int32 → NI → Prop} {v : Int32} (hq : ∀ f, Q v f) : ∀ (k : Nat) (i : Int32) (f : NI), 0 ≤ i.toInt → i.toInt ≤ 8 → 8 - i.toInt < k → qIT Q k v f i := by
  intro k
  induction k with
  | zero => intro i f h0 h1 h2; omega
  | succ k ih =>
    intro i f h0 h1 h2
    refine ⟨fun _ => hq f, fun c => ?_⟩
    rw [qak, t_8] at c
    refine ⟨qa6 h0 (by omega), fun f2 _ x3 e3 => ?_⟩
    have e : x3.toInt = i.toInt + 1 := by rw [e3]; exact qca (by omega)
    exact ih x3 f2 (by omega) (by omega) (by omega)
theorem qaXu {v : Int32} {f : Nat → Int32} {Q : Int32 → NI → Prop} (hq : ∀ f, Q 0 f) : qB2 v f Q := ⟨9, qaWP hq 9 0 f (by decide) (by decide) (by decide)⟩
section Bk
variable {len : Int32} {by_ : Nat → Int32}
end Bk
end
section
theorem t_4 : (4 : Int32).toInt = 4 := by decide
theorem qlh : (60 : Int32).toInt = 60 := by decide
theorem qxm {a b : Int32} {Q : Int32 → Prop} (h0 : Q 0) (h1 : Q 1) : qh5 a b Q := ⟨fun _ => h0, fun _ => h1⟩
theorem q0I {a b : Int32} {Q : Int32 → Prop} (h0 : Q 0) (h1 : Q 1) : qGa a b Q := qxm ⟨rfl, h0⟩ ⟨rfl, h1⟩
theorem qrW {n v p : Int32} {E : String → Int32 → Prop} {Q : Int32 → Prop} (hn : 0 ≤ n.toInt) (he : E "java/util/NoSuchElementException" (v + 1)) (hq : 0 ≤ p.toInt → p.toInt < n.toInt → Q v) : qm3 n v p E Q := by
  have e : (n - 1).toInt = n.toInt - 1 := qqj (by omega)
  refine qI2 (fun _ => ⟨fun c => absurd rfl c, fun _ x e => by rw [e]; exact he⟩) (fun h1 h2 => ⟨fun _ => hq (by rw [t_0] at h1; exact h1) (by rw [e] at h2; omega), fun c => absurd c (by decide)⟩)
theorem qyp {n v p : Int32} {E : String → Int32 → Prop} {Q : Int32 → Prop} (hn : 0 ≤ n.toInt) (he : E "java/util/NoSuchElementException" (v + 1)) (hq : 0 ≤ p.toInt → p.toInt < n.toInt → Q v) : qt0 n v p E Q := by
  have e : (n - 1).toInt = n.toInt - 1 := qqj (by omega)
  refine qI2 (fun _ => ⟨fun c => absurd rfl c, fun _ x e => by rw [e]; exact he⟩) (fun h1 h2 => ⟨fun _ => hq (by rw [t_0] at h1; exact h1) (by rw [e] at h2; omega), fun c => absurd c (by decide)⟩)
theorem qBX {X Y : Nat → Int32} {p q : Int32} {Q : Int32 → Prop} (hp0 : 0 ≤ p.toInt) (hp1 : p.toInt < 8) (hq0 : 0 ≤ q.toInt) (hq1 : q.toInt < 8) (h : ∀ r, Q r) : qv4 X Y p q Q :=
  ⟨qa6 hp0 hp1, fun _ _ => ⟨qa6 hq0 hq1, fun _ _ _ _ => ⟨qa6 hp0 hp1, fun _ _ => ⟨qa6 hq0 hq1, fun _ _ _ _ => h _⟩⟩⟩⟩
theorem qa1x {n v p q : Int32} {X Y : Nat → Int32} {E : String → Int32 → Prop} {Q : Int32 → Int32 → Prop} (h0 : 0 ≤ n.toInt) (h1 : n.toInt ≤ 8) (he : E "java/util/NoSuchElementException" (v + 1)) (hq : ∀ r, Q r v) : qakz n X Y v p q E Q :=
  qyp h0 he (fun a0 a1 => qyp h0 he (fun b0 b1 => qBX a0 (by omega) b0 (by omega) (fun r => hq r)))
theorem qa1w {n ci cn p q : Int32} {X Y : Nat → Int32} {E : String → Int32 → Int32 → Prop} {Q : Int32 → Int32 → Int32 → Prop} (h0 : 0 ≤ n.toInt) (h1 : n.toInt ≤ 4) (he1 : E "java/util/NoSuchElementException" ci (cn + 1)) (he2 : E "java/lang/IllegalArgumentException" (ci + 1) cn) (hq : ∀ r, Q r ci cn) : qajW n Y X ci cn p q E Q := by
  have e : (n - 1).toInt = n.toInt - 1 := qqj (by omega)
  refine qI2 (fun _ => ⟨fun c => absurd rfl c, fun _ x e => by rw [e]; exact he1⟩) (fun a0 a1 => ⟨fun _ => qbk he2 (fun _ _ => ?_), fun c => absurd c (by decide)⟩)
  rw [t_0] at a0
  rw [e] at a1
  exact ⟨fun _ => ⟨qa6 a0 (by omega), fun _ _ => hq _⟩, fun _ => ⟨qa6 a0 (by omega), fun _ _ => hq _⟩⟩
section Dn
variable {n fx : Int32} {X Y FX FY : Nat → Int32}
theorem qawI {Q : Int32 → Prop} {a : Int32} (hf : fx.toInt ≤ 4) (a0 : 0 ≤ a.toInt) (a1 : a.toInt < 8) (q0 : Q 0) (q1 : Q 1) : ∀ (k : Nat) (i : Int32), 0 ≤ i.toInt → i.toInt ≤ 4 → 4 - i.toInt < k → qx8 fx X FX Y FY Q k a i := by
  intro k
  induction k with
  | zero => intro i h0 h1 h2; omega
  | succ k ih =>
    intro i h0 h1 h2
    refine ⟨fun _ => q0, fun c => ?_⟩
    rw [qak] at c
    refine ⟨qa6 a0 a1, fun _ _ => ⟨qa6 h0 (by omega), fun _ _ _ _ => ⟨qa6 a0 a1, fun _ _ => ⟨qa6 h0 (by omega), fun _ _ _ _ => ⟨fun _ x9 e9 => ?_, fun _ => q1⟩⟩⟩⟩⟩
    have e : x9.toInt = i.toInt + 1 := by rw [e9]; exact qca (by omega)
    exact ih x9 (by omega) (by omega) (by omega)
theorem qaxh {Q : Int32 → Prop} {a : Int32} (hf : fx.toInt ≤ 4) (a0 : 0 ≤ a.toInt) (a1 : a.toInt < 8) (q0 : Q 0) (q1 : Q 1) : qQL fx X FX Y FY a Q := ⟨5, qawI hf a0 a1 q0 q1 5 0 (by decide) (by decide) (by decide)⟩
theorem qaJu {Q : Int32 → Prop} (hn : n.toInt ≤ 8) (hf : fx.toInt ≤ 4) (hq : ∀ r, Q r) : ∀ (k : Nat) (v i : Int32), 0 ≤ i.toInt → i.toInt ≤ 8 → 8 - i.toInt < k → qqW n fx X FX Y FY Q k v i := by
  intro k
  induction k with
  | zero => intro v i h0 h1 h2; omega
  | succ k ih =>
    intro v i h0 h1 h2
    refine ⟨fun _ => hq _, fun c => ?_⟩
    rw [qak] at c
    have go : ∀ v x5 : Int32, x5 = i + 1 → qqW n fx X FX Y FY Q k v x5 := fun v x5 e5 => by
      have e : x5.toInt = i.toInt + 1 := by rw [e5]; exact qca (by omega)
      exact ih v x5 (by omega) (by omega) (by omega)
    exact qaxh hf h0 (by omega) ⟨fun c => absurd rfl c, fun _ x4 _ => go x4⟩ ⟨fun _ => go v, fun c => absurd c (by decide)⟩
theorem qaJ8 {Q : Int32 → Prop} {v : Int32} (hn : n.toInt ≤ 8) (hf : fx.toInt ≤ 4) (hq : ∀ r, Q r) : qKN n fx X FX Y FY v Q := ⟨9, qaJu hn hf hq 9 0 0 (by decide) (by decide) (by decide)⟩
theorem qako {Q : Int32 → Prop} {a d : Int32} (hn : n.toInt ≤ 8) (a0 : 0 ≤ a.toInt) (a1 : a.toInt < 8) (hq : ∀ r, Q r) : ∀ (k : Nat) (v i : Int32), 0 ≤ i.toInt → i.toInt ≤ 8 → 8 - i.toInt < k → qnG n X Y Q k a d v i := by
  intro k
  induction k with
  | zero => intro v i h0 h1 h2; omega
  | succ k ih =>
    intro v i h0 h1 h2
    refine ⟨fun _ => hq _, fun c => ?_⟩
    rw [qak] at c
    have go : ∀ v x5 : Int32, x5 = i + 1 → qnG n X Y Q k a d v x5 := fun v x5 e5 => by
      have e : x5.toInt = i.toInt + 1 := by rw [e5]; exact qca (by omega)
      exact ih v x5 (by omega) (by omega) (by omega)
    exact qBX a0 a1 h0 (by omega) (fun r => ⟨fun _ => go v, fun _ x4 _ => go x4⟩)
theorem qJK {Q : Int32 → Prop} {a d : Int32} (hn : n.toInt ≤ 8) (a0 : 0 ≤ a.toInt) (a1 : a.toInt < 8) (hq : ∀ r, Q r) : qvA n X Y a d Q := ⟨9, qako hn a0 a1 hq 9 0 0 (by decide) (by decide) (by decide)⟩
theorem qaV4 {Q : Int32 → Prop} {K8 : Int32 → Int32 → Int32 → Int32 → Prop} {b d r h : Int32} (hn : n.toInt ≤ 8) (hq : ∀ w x6 : Int32, x6 = h + 1 → K8 b d w x6) : ∀ (k : Nat) (w i : Int32), 0 ≤ i.toInt → i.toInt ≤ 8 → 8 - i.toInt < k → qov n X Y Q K8 k b d r h w i := by
  intro k
  induction k with
  | zero => intro w i h0 h1 h2; omega
  | succ k ih =>
    intro w i h0 h1 h2
    refine ⟨fun _ x6 e6 => hq w x6 e6, fun c => ?_⟩
    rw [qak] at c
    have go : ∀ w x5 : Int32, x5 = i + 1 → qov n X Y Q K8 k b d r h w x5 := fun w x5 e5 => by
      have e : x5.toInt = i.toInt + 1 := by rw [e5]; exact qca (by omega)
      exact ih w x5 (by omega) (by omega) (by omega)
    exact qxm ⟨fun _ => go w, fun c => absurd rfl c⟩ ⟨fun c => absurd c (by decide), fun _ => qJK hn h0 (by omega) (fun r9 x10 _ => go x10)⟩
theorem qaZo {Q : Int32 → Prop} {b d : Int32} (hn : n.toInt ≤ 8) (hq : ∀ r, Q r) : ∀ (k : Nat) (r h : Int32), 0 ≤ h.toInt → h.toInt ≤ 8 → 8 - h.toInt < k → qvR n X Y Q k b d r h := by
  intro k
  induction k with
  | zero => intro r h h0 h1 h2; omega
  | succ k ih =>
    intro r h h0 h1 h2
    refine ⟨fun _ => hq _, fun c => ?_⟩
    rw [qak, t_8] at c
    refine qxm ⟨fun _ => ⟨9, qaV4 hn (fun w x6 e6 => ?_) 9 r 0 (by decide) (by decide) (by decide)⟩, fun c => absurd rfl c⟩ ⟨fun c => absurd c (by decide), fun _ => hq _⟩
    have e : x6.toInt = h.toInt + 1 := by rw [e6]; exact qca (by omega)
    exact ih w x6 (by omega) (by omega) (by omega)
theorem qanD {Q : Int32 → Prop} {a b d : Int32} (hn : n.toInt ≤ 8) (hq : ∀ r, Q r) : qJ1 n X Y a b d Q := fun x1 _ => ⟨9, qaZo hn hq 9 x1 0 (by decide) (by decide) (by decide)⟩
theorem qaEz {Q : Int32 → Prop} {ch : Int32} {nr : Nat → Int32} (hn : n.toInt ≤ 8) (hq : ∀ r, Q r) : ∀ (k : Nat) (v i : Int32), 0 ≤ i.toInt → i.toInt ≤ 8 → 8 - i.toInt < k → qsw n nr Q k ch v i := by
  intro k
  induction k with
  | zero => intro v i h0 h1 h2; omega
  | succ k ih =>
    intro v i h0 h1 h2
    refine ⟨fun _ => hq _, fun c => ?_⟩
    rw [qak] at c
    have go : ∀ v x5 : Int32, x5 = i + 1 → qsw n nr Q k ch v x5 := fun v x5 e5 => by
      have e : x5.toInt = i.toInt + 1 := by rw [e5]; exact qca (by omega)
      exact ih v x5 (by omega) (by omega) (by omega)
    exact qxm ⟨fun _ => go v, fun c => absurd rfl c⟩ ⟨fun c => absurd c (by decide), fun _ => ⟨qa6 h0 (by omega), fun _ _ x5 _ => go x5⟩⟩
theorem qaJt {Q : Int32 → Prop} {ch : Int32} {nr : Nat → Int32} (hn : n.toInt ≤ 8) (hq : ∀ r, Q r) : qTM n nr ch Q := ⟨9, qaEz hn hq 9 0 0 (by decide) (by decide) (by decide)⟩
end Dn
end
section
theorem t_9 : (9 : Int32).toInt = 9 := by decide
/-- where the hares of a down sit, for those told so far -/
def sSeat (h n : Int32) (st : NI) : Prop := ∀ j : Nat, (j : Int) < h.toInt → 0 ≤ (st j).toInt ∧ (st j).toInt < n.toInt
theorem qkX {x : Int32} (h : 0 ≤ x.toInt) : (x.toNatClampNeg : Int) = x.toInt := by
  rw [Int32.toNatClampNeg]; exact Int.toNat_of_nonneg h
section Rd
variable {len : Int32} {by_ : Nat → Int32} {a fa fp tk p2 : Int32} (hl : len.toInt ≤ 600)
end Rd
end
section
theorem qbed (y : UInt32) : narrow .char (.int (y % 65536).toInt32) = .int (y % 65536).toInt32 := by
  show Value.int _ = Value.int _
  congr 1
  show (y % 65536).toUInt16.toUInt32.toInt32 = (y % 65536).toInt32
  congr 1
  apply UInt32.toNat_inj.mp
  simp
section Wd
variable {len fa : Int32} {f : Nat → Int32} {n1 : Nat} {b1 : Nat → Int32} {Q : Int32 → Int32 → Int32 → Prop}
end Wd
section Db
variable {len : Int32} {by_ : Nat → Int32} {a fa fp tk p2 : Int32}
end Db
end
section
section Cl
variable {len : Int32} {by_ : Nat → Int32}
theorem sSeat.more {h n n2 : Int32} {st : Nat → Int32} (hs : sSeat h n st) (hn : n.toInt ≤ n2.toInt) : sSeat h n2 st := fun j hj => ⟨(hs j hj).1, by have := (hs j hj).2; omega⟩
section Fr
variable {Q : Int32 → Int32 → Int32 → NI → Int32 → Int32 → Int32 → Int32 → Int32 → NI → NI → NI → NI → NI → NI → Prop}
end Fr
end Cl
end
section
theorem qV9 : (150 : Int32).toInt = 150 := by decide
theorem t_2 : (2 : Int32).toInt = 2 := by decide
/-- a law in its row: its length, and that a fact is one of the eight -/
def sLaw (n : Int32) (kd vl : NI) : Prop := 0 ≤ n.toInt ∧ n.toInt ≤ 150 ∧ ∀ j : Nat, (j : Int) < n.toInt → kd j = 1 → 0 ≤ (vl j).toInt ∧ (vl j).toInt < 8
theorem q4t {kd vl : Nat → Int32} {n p q : Int32} {Q : NI → NI → Int32 → Prop} (hs : sLaw n kd vl) (hp : p = 1 → 0 ≤ q.toInt ∧ q.toInt < 8) (hq : ∀ kd vl n, sLaw n kd vl → Q kd vl n) : qoY kd vl n p q Q := by
  obtain ⟨h0, h1, h2⟩ := hs
  refine ⟨fun _ => hq _ _ _ ⟨h0, h1, h2⟩, fun c => ?_⟩
  rw [qak, qV9] at c
  refine ⟨qa6 h0 (by omega), fun f2 e2 => ⟨qa6 h0 (by omega), fun f3 e3 x4 e4 => hq _ _ _ ?_⟩⟩
  have e : x4.toInt = n.toInt + 1 := by rw [e4]; exact qca (by omega)
  have hn := qkX h0
  refine ⟨by omega, by omega, fun j hj hk => ?_⟩
  by_cases hjn : j = n.toNatClampNeg
  · rw [e2, hjn, pk_us] at hk
    rw [e3, hjn, pk_us]
    exact hp hk
  · rw [e2, pk_un hjn] at hk
    rw [e3, pk_un hjn]
    exact h2 j (by omega) hk
theorem qaI9 {kd vl : Nat → Int32} {n : Int32} {Q : Int32 → NI → NI → Prop} (hq : ∀ kd vl n, sLaw n kd vl → Q n kd vl) : qxG n kd vl Q :=
  q4t ⟨by decide, by decide, fun j hj => by rw [t_0] at hj; omega⟩ (fun c => absurd c (by decide)) (fun _ _ _ h1 => q4t h1 (fun _ => by decide) (fun _ _ _ h2 => q4t h2 (fun c => absurd c (by decide)) (fun _ _ _ h3 => q4t h3 (fun _ => by decide) (fun _ _ _ h4 => q4t h4 (fun c => absurd c (by decide)) (fun _ _ _ h5 => hq _ _ _ h5)))))
theorem qaUe {k a b : Int32} {Q : Int32 → Prop} (hq : ∀ r, Q r) : qSd k a b Q :=
  ⟨fun _ => ⟨fun _ => hq _, fun _ => hq _⟩, fun _ => hq _, fun _ => hq _, fun _ => hq _, fun _ => ⟨fun c => ⟨c, fun _ _ => hq _⟩, fun _ => hq _⟩, fun _ => ⟨fun c => ⟨c, fun _ _ => hq _⟩, fun _ => hq _⟩, fun _ => ⟨fun _ => hq _, fun _ => hq _⟩⟩
section Rc
variable {n : Int32} {kd vl fc : Nat → Int32} {Q : Int32 → NI → Prop}
theorem qaWK (hs : sLaw n kd vl) (hq : ∀ (r : Int32) (pl : NI), 0 ≤ r.toInt → r.toInt ≤ 60 → Q r pl) : ∀ (k : Nat) (pl : NI) (t i : Int32), 0 ≤ t.toInt → t.toInt ≤ i.toInt → i.toInt ≤ 150 → 150 - i.toInt < k → qmW n kd vl fc Q k pl t i := by
  obtain ⟨s0, s1, s2⟩ := hs
  have hend : ∀ (pl : NI) (v : Int32), qG6 n kd vl fc Q pl v := fun pl v x15 e15 x16 e16 => by
    have h15 : x15.toInt ≤ 60 := by
      rw [e15]
      by_cases c : v < 60
      · rw [if_pos c]; rw [qao, qlh] at c; omega
      · rw [if_neg c, qlh]; omega
    have h16 : 0 ≤ x16.toInt ∧ x16.toInt ≤ 60 := by
      rw [e16]
      by_cases c : 0 < x15
      · rw [if_pos c]; rw [qao, t_0] at c; omega
      · rw [if_neg c, t_0]; omega
    exact hq x16 pl h16.1 h16.2
  intro k
  induction k with
  | zero => intro pl t i h0 h1 h2 h3; omega
  | succ k ih =>
    intro pl t i h0 h1 h2 h3
    refine ⟨fun _ => ⟨fun _ => hend _ _, fun _ x3 _ => hend _ _⟩, fun c => ?_⟩
    rw [qak] at c
    have hn := qkX (x := i) (by omega)
    have go : ∀ (pl : NI) (t2 x21 : Int32), 0 ≤ t2.toInt → t2.toInt ≤ i.toInt + 1 → x21 = i + 1 → qmW n kd vl fc Q k pl t2 x21 := fun pl t2 x21 g0 g1 e21 => by
      have e : x21.toInt = i.toInt + 1 := by rw [e21]; exact qca (by omega)
      exact ih pl t2 x21 g0 (by omega) (by omega) (by omega)
    have put : ∀ v : Int32, qEj n kd vl fc Q (fun pl t i => qmW n kd vl fc Q k pl t i) pl t i t v := fun v => ⟨qa6 h0 (by omega), fun f22 _ x23 e23 x21 e21 => by
      have e : x23.toInt = t.toInt + 1 := by rw [e23]; exact qca (by omega)
      exact go f22 x23 x21 (by omega) (by omega) e21⟩
    have b28 : ∀ x4 : Int32, x4 = kd i.toNatClampNeg → x4 = 0 ∨ x4 = 1 → qKK n kd vl fc Q (fun pl t i => qmW n kd vl fc Q k pl t i) pl t i x4 := fun x4 e4 hx => by
      refine ⟨fun c4 => ⟨qa6 (by omega) (by omega), fun x18 e18 => ?_⟩, fun c4 => ⟨qa6 (by omega) (by omega), fun x20 _ => put x20⟩⟩
      have h18 := s2 i.toNatClampNeg (by omega) (by rw [← e4]; exact hx.resolve_left c4)
      rw [← e18] at h18
      exact ⟨qa6 h18.1 h18.2, fun x19 _ => put x19⟩
    refine ⟨qa6 (by omega) (by omega), fun x4 e4 => ⟨fun c4 => b28 x4 e4 (Or.inl c4), fun c4 => ⟨fun c5 => ⟨fun _ x21 e21 => go pl t x21 h0 (by omega) e21, fun c6 x8 e8 x9 e9 x10 e10 => ?_⟩, fun c5 => b28 x4 e4 (Or.inr c5)⟩⟩⟩
    rw [qao, t_2] at c6
    have a8 : x8.toInt = t.toInt - 1 := by rw [e8, qap (by rw [qam]; omega) (by rw [qam]; omega), qam]; omega
    have a9 : x9.toInt = t.toInt - 2 := by rw [e9, qqj (by omega)]; omega
    have a10 : x10.toInt = t.toInt - 2 := by rw [e10, qqj (by omega)]; omega
    refine ⟨qa6 (by omega) (by omega), fun _ _ => ⟨qa6 (by omega) (by omega), fun _ _ => qaUe (fun r13 => ⟨qa6 (by omega) (by omega), fun f14 _ x21 e21 => go f14 x8 x21 (by omega) (by omega) e21⟩)⟩⟩
theorem qaA7 {pl : Nat → Int32} (hs : sLaw n kd vl) (hq : ∀ (r : Int32) (pl : NI), 0 ≤ r.toInt → r.toInt ≤ 60 → Q r pl) : qPZ n kd vl fc pl Q := ⟨151, qaWK hs hq 151 pl 0 0 (by decide) (by decide) (by decide) (by decide)⟩
end Rc
theorem q8d {f : Nat → Int32} {a b c d e : Int32} {Q : NI → Prop} (hq : ∀ f, Q f) : qEg f a b c d e Q := fun _ _ _ _ _ _ _ _ _ _ => hq _
theorem q8j {f : Nat → Int32} {a b c : Int32} {Q : NI → Prop} (hq : ∀ f, Q f) : qDR f a b c Q := fun _ _ _ _ _ _ => hq _
end
section
theorem t_16 : (16 : Int32).toInt = 16 := by decide
theorem qgg : (10 : Int32).toInt = 10 := by decide
theorem t_22 : (22 : Int32).toInt = 22 := by decide
theorem t_28 : (28 : Int32).toInt = 28 := by decide
theorem t_3 : (3 : Int32).toInt = 3 := by decide
theorem qas {x : Int32} {k : Nat} (h : x.toInt = k) : x.toNatClampNeg = k := by
  have := qkX (x := x) (by omega)
  omega
/-- where the hares sit -/
def qrF (h n : Int32) (row : NI) : Prop := ∀ j : Nat, (j : Int) < h.toInt → 0 ≤ (row (4 + j)).toInt ∧ (row (4 + j)).toInt < n.toInt
theorem qxr {h n v : Int32} {row : Nat → Int32} {i : Nat} (hs : qrF h n row) (h6 : h.toInt ≤ 6) (hi : i < 4 ∨ 10 ≤ i) : qrF h n (upd row i v) := fun j hj => by
  rw [pk_un (by omega)]; exact hs j hj
theorem qa7c {h n v : Int32} {row : Nat → Int32} {i : Nat} (hs : qrF h n row) (v0 : 0 ≤ v.toInt) (v1 : v.toInt < n.toInt) : qrF h n (upd row i v) := fun j hj => by
  by_cases e : 4 + j = i
  · rw [e, pk_us]; exact ⟨v0, v1⟩
  · rw [pk_un e]; exact hs j hj
section Dy
variable {row : Nat → Int32} {p h n : Int32} {Q : Int32 → Prop}
theorem qnr (q0 : Q 0) (q1 : Q 1) : qdN row p Q := fun _ _ => ⟨fun _ => q0, fun _ => q1⟩
theorem qwC (p0 : 0 ≤ p.toInt) (p1 : p.toInt < 6) (hq : ∀ r, r = row (4 + p.toNatClampNeg) → Q r) : qrk row p Q := fun x1 e1 => by
  have e : x1.toInt = 4 + p.toInt := by rw [e1, qap (by rw [t_4]; omega) (by rw [t_4]; omega), t_4]
  have hn := qkX p0
  refine ⟨qa6 (by omega) (by omega), fun x2 e2 => hq x2 ?_⟩
  rw [e2, qas (k := 4 + p.toNatClampNeg) (by omega)]
theorem que (p0 : 0 ≤ p.toInt) (p1 : p.toInt < 6) (hq : ∀ r, Q r) : qpb row p Q := fun x1 e1 => by
  have e : x1.toInt = 10 + p.toInt := by rw [e1, qap (by rw [qgg]; omega) (by rw [qgg]; omega), qgg]
  exact ⟨qa6 (by omega) (by omega), fun _ _ => hq _⟩
theorem q8R (p0 : 0 ≤ p.toInt) (p1 : p.toInt < 6) (hq : ∀ r, Q r) : qJH row p Q := fun x1 e1 => by
  have e : x1.toInt = 16 + p.toInt := by rw [e1, qap (by rw [t_16]; omega) (by rw [t_16]; omega), t_16]
  exact ⟨qa6 (by omega) (by omega), fun _ _ => hq _⟩
theorem qaEa (p0 : 0 ≤ p.toInt) (p1 : p.toInt < 6) (hq : ∀ r, Q r) : qOP row p Q := fun x1 e1 => by
  have e : x1.toInt = 22 + p.toInt := by rw [e1, qap (by rw [t_22]; omega) (by rw [t_22]; omega), t_22]
  exact ⟨qa6 (by omega) (by omega), fun _ _ => hq _⟩
theorem qa0M {a b x y : Int32} (a0 : 0 ≤ a.toInt) (a1 : a.toInt < 6) (b0 : 0 ≤ b.toInt) (b1 : b.toInt < 6) (ex : x = 28 + a * 6) (ey : y = x + b) : y.toInt = 28 + a.toInt * 6 + b.toInt := by
  have e1 : (a * 6).toInt = a.toInt * 6 := by rw [qu8 (by rw [t_6]; omega) (by rw [t_6]; omega), t_6]
  have e2 : x.toInt = 28 + a.toInt * 6 := by rw [ex, qap (by rw [t_28, e1]; omega) (by rw [t_28, e1]; omega), t_28, e1]
  rw [ey, qap (by omega) (by omega), e2]
theorem qLS {q : Int32} (p0 : 0 ≤ p.toInt) (p1 : p.toInt < 6) (q0 : 0 ≤ q.toInt) (q1 : q.toInt < 6) (hq : ∀ r, Q r) : qxg row p q Q := fun x1 e1 x2 e2 => by
  have e := qa0M p0 p1 q0 q1 e1 e2
  exact ⟨qa6 (by omega) (by omega), fun _ _ => hq _⟩
theorem qa1W (h6 : h.toInt ≤ 6) (p0 : 0 ≤ p.toInt) (p1 : p.toInt < 6) (hq : ∀ r, Q r) : ∀ (k : Nat) (v i : Int32), 0 ≤ i.toInt → i.toInt ≤ 6 → 6 - i.toInt < k → qLg h row Q k p v i := by
  intro k
  induction k with
  | zero => intro v i i0 i1 i2; omega
  | succ k ih =>
    intro v i i0 i1 i2
    refine ⟨fun _ => hq _, fun c => ?_⟩
    rw [qak] at c
    refine qLS p0 p1 i0 (by omega) (fun r x3 _ x4 e4 => ?_)
    have e : x4.toInt = i.toInt + 1 := by rw [e4]; exact qca (by omega)
    exact ih x3 x4 (by omega) (by omega) (by omega)
theorem qaj4 (h6 : h.toInt ≤ 6) (p0 : 0 ≤ p.toInt) (p1 : p.toInt < 6) (hq : ∀ r, Q r) : qOv h row p Q := ⟨7, qa1W h6 p0 p1 hq 7 0 0 (by decide) (by decide) (by decide)⟩
theorem qa1F (h6 : h.toInt ≤ 6) (p0 : 0 ≤ p.toInt) (p1 : p.toInt < 6) (hq : ∀ r, Q r) : ∀ (k : Nat) (v i : Int32), 0 ≤ i.toInt → i.toInt ≤ 6 → 6 - i.toInt < k → qLQ h row Q k p v i := by
  intro k
  induction k with
  | zero => intro v i i0 i1 i2; omega
  | succ k ih =>
    intro v i i0 i1 i2
    refine ⟨fun _ => hq _, fun c => ?_⟩
    rw [qak] at c
    refine qLS i0 (by omega) p0 p1 (fun r x3 _ x4 e4 => ?_)
    have e : x4.toInt = i.toInt + 1 := by rw [e4]; exact qca (by omega)
    exact ih x3 x4 (by omega) (by omega) (by omega)
theorem qalK (h6 : h.toInt ≤ 6) (p0 : 0 ≤ p.toInt) (p1 : p.toInt < 6) (hq : ∀ r, Q r) : qOF h row p Q := ⟨7, qa1F h6 p0 p1 hq 7 0 0 (by decide) (by decide) (by decide)⟩
theorem qaKX (h6 : h.toInt ≤ 6) (hq : ∀ r, Q r) : ∀ (k : Nat) (v i : Int32), 0 ≤ i.toInt → i.toInt ≤ 6 → 6 - i.toInt < k → qEU h row Q k v i := by
  intro k
  induction k with
  | zero => intro v i i0 i1 i2; omega
  | succ k ih =>
    intro v i i0 i1 i2
    refine ⟨fun _ => hq _, fun c => ?_⟩
    rw [qak] at c
    refine qaj4 h6 i0 (by omega) (fun r x3 _ x4 e4 => ?_)
    have e : x4.toInt = i.toInt + 1 := by rw [e4]; exact qca (by omega)
    exact ih x3 x4 (by omega) (by omega) (by omega)
theorem q74 (h6 : h.toInt ≤ 6) (hq : ∀ r, Q r) : qKB h row Q := ⟨7, qaKX h6 hq 7 0 0 (by decide) (by decide) (by decide)⟩
theorem qaH3 (h6 : h.toInt ≤ 6) (hq : ∀ r, Q r) : ∀ (k : Nat) (v i : Int32), 0 ≤ i.toInt → i.toInt ≤ 6 → 6 - i.toInt < k → qn9 h row Q k p v i := by
  intro k
  induction k with
  | zero => intro v i i0 i1 i2; omega
  | succ k ih =>
    intro v i i0 i1 i2
    refine ⟨fun _ => hq _, fun c => ?_⟩
    rw [qak] at c
    have go : ∀ v x7 : Int32, x7 = i + 1 → qn9 h row Q k p v x7 := fun v x7 e7 => by
      have e : x7.toInt = i.toInt + 1 := by rw [e7]; exact qca (by omega)
      exact ih v x7 (by omega) (by omega) (by omega)
    exact qnr ⟨fun c => absurd rfl c, fun _ => qwC i0 (by omega) (fun r _ => ⟨fun _ => go v, fun _ x6 _ => go x6⟩)⟩ ⟨fun _ => go v, fun c => absurd c (by decide)⟩
theorem qTN (h6 : h.toInt ≤ 6) (hq : ∀ r, Q r) : qAt h row p Q := ⟨7, qaH3 h6 hq 7 0 0 (by decide) (by decide) (by decide)⟩
theorem q6k (h6 : h.toInt ≤ 6) (hq : ∀ r, Q r) : ∀ (k : Nat) (v i : Int32), 0 ≤ i.toInt → i.toInt ≤ 6 → 6 - i.toInt < k → qlj h row Q k v i := by
  intro k
  induction k with
  | zero => intro v i i0 i1 i2; omega
  | succ k ih =>
    intro v i i0 i1 i2
    refine ⟨fun _ => hq _, fun c => ?_⟩
    rw [qak] at c
    have go : ∀ v x7 : Int32, x7 = i + 1 → qlj h row Q k v x7 := fun v x7 e7 => by
      have e : x7.toInt = i.toInt + 1 := by rw [e7]; exact qca (by omega)
      exact ih v x7 (by omega) (by omega) (by omega)
    exact qnr ⟨fun _ => que i0 (by omega) (fun r x5 _ => go x5), fun c => absurd rfl c⟩ ⟨fun c => absurd c (by decide), fun _ x5 _ => go x5⟩
theorem q6B (h6 : h.toInt ≤ 6) (hq : ∀ r, Q r) : qDD h row Q := ⟨7, q6k h6 hq 7 0 0 (by decide) (by decide) (by decide)⟩
theorem qaqx {sf : Int32} (h6 : h.toInt ≤ 6) (hq : ∀ r, Q r) : ∀ (k : Nat) (v i : Int32), 0 ≤ i.toInt → i.toInt ≤ 6 → 6 - i.toInt < k → qe4 h sf row Q k v i := by
  intro k
  induction k with
  | zero => intro v i i0 i1 i2; omega
  | succ k ih =>
    intro v i i0 i1 i2
    refine ⟨fun _ => hq _, fun c => ?_⟩
    rw [qak] at c
    have go : ∀ v x7 : Int32, x7 = i + 1 → qe4 h sf row Q k v x7 := fun v x7 e7 => by
      have e : x7.toInt = i.toInt + 1 := by rw [e7]; exact qca (by omega)
      exact ih v x7 (by omega) (by omega) (by omega)
    exact qnr ⟨fun c => absurd rfl c, fun _ => qwC i0 (by omega) (fun r _ => q0I ⟨fun c => absurd rfl c, fun _ => q8R i0 (by omega) (fun r7 => ⟨fun _ => go v, fun _ x9 _ => go x9⟩)⟩ ⟨fun _ => go v, fun c => absurd c (by decide)⟩)⟩ ⟨fun _ => go v, fun c => absurd c (by decide)⟩
theorem qZi {sf : Int32} (h6 : h.toInt ≤ 6) (hq : ∀ r, Q r) : qAk h sf row Q := ⟨7, qaqx h6 hq 7 0 0 (by decide) (by decide) (by decide)⟩
end Dy
section Dw
variable {row : Nat → Int32} {p h n : Int32} {Q : NI → Prop}
theorem qam5 (h6 : h.toInt ≤ 6) (hs : qrF h n row) (p0 : 0 ≤ p.toInt) (p1 : p.toInt < 6) (hq : ∀ row, qrF h n row → Q row) : qOw row p Q := fun x1 e1 => by
  have e : x1.toInt = 16 + p.toInt := by rw [e1, qap (by rw [t_16]; omega) (by rw [t_16]; omega), t_16]
  have hx := qkX (x := x1) (by omega)
  refine ⟨qa6 (by omega) (by omega), fun f2 e2 x3 _ x4 _ f5 e5 => hq f5 ?_⟩
  rw [e5, e2, show (3 : Int32).toNatClampNeg = 3 by decide]
  exact qxr (qxr hs h6 (by omega)) h6 (by omega)
theorem qaTT {q : Int32} (h6 : h.toInt ≤ 6) (hs : qrF h n row) (p0 : 0 ≤ p.toInt) (p1 : p.toInt < 6) (q0 : 0 ≤ q.toInt) (q1 : q.toInt < n.toInt) (hq : ∀ row, qrF h n row → Q row) : qLa row p q Q := fun x1 e1 => by
  have e : x1.toInt = 4 + p.toInt := by rw [e1, qap (by rw [t_4]; omega) (by rw [t_4]; omega), t_4]
  refine ⟨qa6 (by omega) (by omega), fun f2 e2 x3 e3 => ?_⟩
  have ex : x3.toInt = 22 + p.toInt := by rw [e3, qap (by rw [t_22]; omega) (by rw [t_22]; omega), t_22]
  have hx := qkX (x := x3) (by omega)
  refine ⟨qa6 (by omega) (by omega), fun x4 _ x5 _ => ⟨qa6 (by omega) (by omega), fun f6 e6 => qam5 h6 ?_ p0 p1 hq⟩⟩
  rw [e6, e2]
  exact qxr (qa7c hs q0 q1) h6 (by omega)
theorem qaAk (h6 : h.toInt ≤ 6) (p0 : 0 ≤ p.toInt) (p1 : p.toInt < 6) (hq : ∀ row, qrF h n row → Q row) : ∀ (k : Nat) (row : NI) (i : Int32), qrF h n row → 0 ≤ i.toInt → i.toInt ≤ 6 → 6 - i.toInt < k → qyE h Q k row p i := by
  intro k
  induction k with
  | zero => intro row i hs i0 i1 i2; omega
  | succ k ih =>
    intro row i hs i0 i1 i2
    refine ⟨fun _ => hq _ hs, fun c => ?_⟩
    rw [qak] at c
    intro x2 e2 x3 e3
    have a3 := qa0M p0 p1 i0 (by omega) e2 e3
    have b3 := qkX (x := x3) (by omega)
    refine ⟨qa6 (by omega) (by omega), fun f4 e4 x5 e5 x6 e6 => ?_⟩
    have a6 := qa0M i0 (by omega) p0 p1 e5 e6
    have b6 := qkX (x := x6) (by omega)
    refine ⟨qa6 (by omega) (by omega), fun f7 e7 x8 e8 => ?_⟩
    have e : x8.toInt = i.toInt + 1 := by rw [e8]; exact qca (by omega)
    refine ih f7 x8 ?_ (by omega) (by omega) (by omega)
    rw [e7, e4]
    exact qxr (qxr hs h6 (by omega)) h6 (by omega)
theorem qazC (h6 : h.toInt ≤ 6) (hs : qrF h n row) (p0 : 0 ≤ p.toInt) (p1 : p.toInt < 6) (hq : ∀ row, qrF h n row → Q row) : qHG h row p Q := ⟨7, qaAk h6 p0 p1 hq 7 row 0 hs (by decide) (by decide) (by decide)⟩
end Dw
end
section
theorem qXT {p : Int32} {Q : Int32 → Prop} (hq : ∀ r, Q r) : qoE p Q := by
  unfold qoE
  intros
  apply hq
section D2
variable {row kd vl fc pl X Y : Nat → Int32} {p h n ln : Int32}
theorem qXV {Q : Int32 → NI → NI → Prop} (h6 : h.toInt ≤ 6) (p0 : 0 ≤ p.toInt) (p1 : p.toInt < 6) (hw : sLaw ln kd vl) (hq : ∀ (r : Int32) (fc pl : NI), 0 ≤ r.toInt → r.toInt ≤ 60 → Q r fc pl) : qFQ row h ln kd vl fc pl p Q :=
  qwC p0 p1 (fun _ _ => qTN h6 (fun _ => qXT (fun _ => que p0 p1 (fun _ => q8R p0 p1 (fun _ => qaj4 h6 p0 p1 (fun _ => qalK h6 p0 p1 (fun _ => q8d (fun _ _ _ => qaEa p0 p1 (fun _ => q8j (fun _ => qaA7 hw (fun r pl g0 g1 => hq r _ pl g0 g1)))))))))))
theorem q2S {q : Int32} {Q : Int32 → NI → NI → Prop} (h6 : h.toInt ≤ 6) (n8 : n.toInt ≤ 8) (hs : qrF h n row) (p0 : 0 ≤ p.toInt) (p1 : p.toInt < h.toInt) (q0 : 0 ≤ q.toInt) (q1 : q.toInt < n.toInt) (hw : sLaw ln kd vl) (hq : ∀ (r : Int32) (fc pl : NI), r = 0 ∨ r = 1 → Q r fc pl) : qyi row h X Y ln kd vl fc pl p q Q := by
  have hn := qkX p0
  refine qnr ⟨fun c => absurd rfl c, fun _ => qwC p0 (by omega) (fun r3 _ => ⟨fun _ => hq _ _ _ (Or.inl rfl), fun _ => qwC p0 (by omega) (fun r5 e5 => ?_)⟩)⟩ ⟨fun _ => hq _ _ _ (Or.inl rfl), fun c => absurd c (by decide)⟩
  have h5 := hs p.toNatClampNeg (by omega)
  rw [← e5] at h5
  exact qBX h5.1 (by omega) q0 (by omega) (fun _ => qXV h6 p0 (by omega) hw (fun r9 f7 f8 _ _ => ⟨fun _ => hq _ _ _ (Or.inl rfl), fun _ => hq _ _ _ (Or.inr rfl)⟩))
theorem qaF6 {Q : Int32 → NI → NI → Prop} (h6 : h.toInt ≤ 6) (n8 : n.toInt ≤ 8) (hs : qrF h n row) (p0 : 0 ≤ p.toInt) (p1 : p.toInt < h.toInt) (hw : sLaw ln kd vl) (hq : ∀ (r : Int32) (fc pl : NI), Q r fc pl) : qAv row n h ln kd vl X Y fc pl p Q := by
  have hn := qkX p0
  refine qnr ⟨fun _ => qwC p0 (by omega) (fun r3 e3 => ?_), fun c => absurd rfl c⟩ ⟨fun c => absurd c (by decide), fun _ => hq _ _ _⟩
  have h5 := hs p.toNatClampNeg (by omega)
  rw [← e3] at h5
  exact qXV h6 p0 (by omega) hw (fun r6 f4 f5 _ _ => qJK n8 h5.1 (by omega) (fun _ => qwC p0 (by omega) (fun _ _ => hq _ _ _)))
theorem qapF {q : Int32} {Q : Int32 → Prop} (p0 : 0 ≤ p.toInt) (p1 : p.toInt < 6) (q0 : 0 ≤ q.toInt) (q1 : q.toInt < 6) (h0 : Q 0) (h1 : Q 1) : qAd row p q Q :=
  ⟨fun _ => h0, fun _ => qnr ⟨fun c => absurd rfl c, fun _ => qnr ⟨fun c => absurd rfl c, fun _ => qwC p0 p1 (fun _ _ => qwC q0 q1 (fun _ _ => ⟨fun _ => h0, fun _ => h1⟩))⟩ ⟨fun _ => h0, fun c => absurd c (by decide)⟩⟩ ⟨fun _ => h0, fun c => absurd c (by decide)⟩⟩
theorem qahP {q s0 : Int32} {Q : NI → Prop} (h6 : h.toInt ≤ 6) (hs : qrF h n row) (p0 : 0 ≤ p.toInt) (p1 : p.toInt < 6) (q0 : 0 ≤ q.toInt) (q1 : q.toInt < 6) (z0 : 0 ≤ s0.toInt) (z1 : s0.toInt < 6) (hq : ∀ row, qrF h n row → Q row) : qEo Q row p q s0 := fun x4 e4 => by
  have e : x4.toInt = 10 + s0.toInt := by rw [e4, qap (by rw [qgg]; omega) (by rw [qgg]; omega), qgg]
  have b := qkX (x := x4) (by omega)
  refine que z0 z1 (fun r5 x6 _ => ⟨qa6 (by omega) (by omega), fun f7 e7 => qam5 h6 (n := n) ?_ p0 p1 (fun f8 h8 => qam5 h6 h8 q0 q1 hq)⟩)
  rw [e7]; exact qxr hs h6 (by omega)
theorem qaWy {q : Int32} {Q : NI → Prop} (h6 : h.toInt ≤ 6) (hs : qrF h n row) (p0 : 0 ≤ p.toInt) (p1 : p.toInt < 6) (q0 : 0 ≤ q.toInt) (q1 : q.toInt < 6) (hq : ∀ row, qrF h n row → Q row) : qPm row p q Q :=
  que p0 p1 (fun _ => que q0 q1 (fun _ => ⟨fun _ => qahP h6 hs p0 p1 q0 q1 p0 p1 hq, fun _ => qahP h6 hs p0 p1 q0 q1 q0 q1 hq⟩))
theorem qaVC {sf : Int32} {sr : Nat → Int32} {Q : NI → Prop} (h6 : h.toInt ≤ 6) (hq : ∀ row, qrF h n row → Q row) : ∀ (k : Nat) (row : NI) (t i : Int32), qrF h n row → 0 ≤ i.toInt → i.toInt ≤ 6 → 6 - i.toInt < k → qrI h sf sr Q k row t i := by
  intro k
  induction k with
  | zero => intro row t i hs i0 i1 i2; omega
  | succ k ih =>
    intro row t i hs i0 i1 i2
    refine ⟨fun _ => hq _ hs, fun c => ?_⟩
    rw [qak] at c
    have go : ∀ (row : NI) (x14 : Int32), qrF h n row → x14 = i + 1 → qrI h sf sr Q k row t x14 := fun row x14 hs e14 => by
      have e : x14.toInt = i.toInt + 1 := by rw [e14]; exact qca (by omega)
      exact ih row t x14 hs (by omega) (by omega) (by omega)
    refine qxm ⟨fun _ x5 e5 => ?_, fun c => absurd rfl c⟩ ⟨fun c => absurd c (by decide), fun _ x10 _ x11 _ f12 e12 => ?_⟩
    · have e : x5.toInt = 10 + i.toInt := by rw [e5, qap (by rw [qgg]; omega) (by rw [qgg]; omega), qgg]
      have b := qkX (x := x5) (by omega)
      refine ⟨qa6 i0 (by omega), fun x6 _ => ⟨qa6 (by omega) (by omega), fun f7 e7 x8 e8 => ?_⟩⟩
      have ee : x8.toInt = 16 + i.toInt := by rw [e8, qap (by rw [t_16]; omega) (by rw [t_16]; omega), t_16]
      have bb := qkX (x := x8) (by omega)
      refine ⟨qa6 (by omega) (by omega), fun f9 e9 x14 e14 => go f9 x14 ?_ e14⟩
      rw [e9, e7]
      exact qxr (qxr hs h6 (by omega)) h6 (by omega)
    · refine qazC h6 (n := n) ?_ i0 (by omega) (fun f13 h13 x14 e14 => go f13 x14 h13 e14)
      rw [e12, show (2 : Int32).toNatClampNeg = 2 by decide]
      exact qxr hs h6 (by omega)
theorem qaUn {sf : Int32} {sr : Nat → Int32} {Q : NI → Prop} (h6 : h.toInt ≤ 6) (hs : qrF h n row) (hq : ∀ row, qrF h n row → Q row) : qSg h sf sr row Q :=
  qZi h6 (fun r => ⟨7, qaVC h6 hq 7 row r 0 hs (by decide) (by decide) (by decide)⟩)
theorem qaSv {sf : Int32} {sr : Nat → Int32} {Q : NI → Prop} (h6 : h.toInt ≤ 6) (hq : ∀ row, qrF h n row → Q row) : ∀ (k : Nat) (row : NI) (i : Int32), qrF h n row → 0 ≤ i.toInt → i.toInt ≤ 6 → 6 - i.toInt < k → qqG h sf sr Q k row i := by
  intro k
  have c0 : (0 : Int32).toNatClampNeg = 0 := by decide
  have c1 : (1 : Int32).toNatClampNeg = 1 := by decide
  have c3 : (3 : Int32).toNatClampNeg = 3 := by decide
  induction k with
  | zero => intro row i hs i0 i1 i2; omega
  | succ k ih =>
    intro row i hs i0 i1 i2
    have go : i.toInt < 6 → ∀ (row : NI) (x14 : Int32), qrF h n row → x14 = i + 1 → qqG h sf sr Q k row x14 := fun hi row x14 hs e14 => by
      have e : x14.toInt = i.toInt + 1 := by rw [e14]; exact qca (by omega)
      exact ih row x14 hs (by omega) (by omega) (by omega)
    refine ⟨fun _ f2 e2 x3 _ x4 _ f5 e5 x6 _ => ?_, fun c x13 _ x14 _ => ?_⟩
    · have h5 : qrF h n f5 := by rw [e5, e2, c0, c3]; exact qxr (qxr hs h6 (by omega)) h6 (by omega)
      refine ⟨fun _ => hq _ h5, fun _ => qaUn h6 h5 (fun f8 h8 f9 e9 x10 _ x11 _ f12 e12 => hq f12 ?_)⟩
      rw [e12, e9, c0, c1]
      exact qxr (qxr h8 h6 (by omega)) h6 (by omega)
    · rw [qak] at c
      refine qxm ⟨fun c => absurd rfl c, fun _ x17 e17 => ?_⟩ ⟨fun _ x21 e21 => go (by omega) row x21 hs e21, fun c => absurd c (by decide)⟩
      have ee : x17.toInt = 16 + i.toInt := by rw [e17, qap (by rw [t_16]; omega) (by rw [t_16]; omega), t_16]
      have bb := qkX (x := x17) (by omega)
      refine ⟨qa6 (by omega) (by omega), fun x18 _ x19 _ => ⟨qa6 (by omega) (by omega), fun f20 e20 x21 e21 => go (by omega) f20 x21 ?_ e21⟩⟩
      rw [e20]
      exact qxr hs h6 (by omega)
theorem qaeZ {sf : Int32} {sr : Nat → Int32} {Q : NI → Prop} (h6 : h.toInt ≤ 6) (hs : qrF h n row) (hq : ∀ row, qrF h n row → Q row) : qCv h sf sr row Q := ⟨7, qaSv h6 hq 7 row 0 hs (by decide) (by decide) (by decide)⟩
end D2
end
section
theorem t_64 : (64 : Int32).toInt = 64 := by decide
/-- rows that were kept: where the hares sat in them -/
def qbe7 (kp h n : Int32) (rows : NI) : Prop := ∀ r : Nat, (r : Int) < kp.toInt → qrF h n (fun j => rows (r * 64 + j))
theorem qavn {k : Int32} (h0 : 0 ≤ k.toInt) (h1 : k.toInt ≤ 17) : (k * 64).toInt = k.toInt * 64 := by rw [qu8 (by rw [t_64]; omega) (by rw [t_64]; omega), t_64]
theorem qaYw : (64 : Int32).toNatClampNeg = 64 := by decide
theorem t_c0 : (0 : Int32).toNatClampNeg = 0 := by decide
end
section
theorem qT1 {h n : Int32} {r1 r0 : Nat → Int32} {Q : NI → Prop} (h6 : h.toInt ≤ 6) (hs : qrF h n r1) (hq : ∀ row, qrF h n row → Q row) : qD9 r1 r0 Q := fun f1 e1 => hq f1 (fun j hj => by
  rw [e1, t_c0, qaYw, pk_cpy_in (by omega) (by omega)]
  have e9 : 0 + (4 + j - 0) = 4 + j := by omega
  rw [e9]
  exact hs j hj)
theorem qacr {row kd vl fc pl X Y : Nat → Int32} {p q h n ln : Int32} {Q : Int32 → NI → NI → NI → Prop} (h6 : h.toInt ≤ 6) (n8 : n.toInt ≤ 8) (hs : qrF h n row) (p0 : 0 ≤ p.toInt) (p1 : p.toInt < h.toInt) (q0 : 0 ≤ q.toInt) (q1 : q.toInt < n.toInt) (hw : sLaw ln kd vl) (hq : ∀ (r : Int32) (fc pl row : NI), qrF h n row → Q r fc pl row) : qF2 h X Y ln kd vl fc pl row p q Q :=
  q2S h6 n8 hs p0 p1 q0 q1 hw (fun _ _ _ _ => ⟨fun _ => qaTT h6 hs p0 (by omega) q0 q1 (fun _ h2 => hq _ _ _ _ h2), fun _ => hq _ _ _ _ hs⟩)
theorem q5F {row : Nat → Int32} {p q h n : Int32} {Q : NI → Prop} (h6 : h.toInt ≤ 6) (hs : qrF h n row) (p0 : 0 ≤ p.toInt) (p1 : p.toInt < 6) (q0 : 0 ≤ q.toInt) (q1 : q.toInt < 6) (hq : ∀ row, qrF h n row → Q row) : qDw row p q Q :=
  qapF p0 p1 q0 q1 ⟨fun _ => hq _ hs, fun c => absurd rfl c⟩ ⟨fun c => absurd c (by decide), fun _ => qaWy h6 hs p0 p1 q0 q1 hq⟩
end
section
theorem qbhh {x : Int32} : 0 ≤ (x &&& 32767).toInt ∧ (x &&& 32767).toInt ≤ 32767 := by
  have h : ((x &&& 32767).toBitVec).toNat ≤ 32767 := by
    show (x.toBitVec &&& (32767 : Int32).toBitVec).toNat ≤ 32767
    rw [BitVec.toNat_and]
    exact Nat.le_trans Nat.and_le_right (by decide)
  have e : (x &&& 32767).toInt = ((x &&& 32767).toBitVec).toNat := by
    show (x &&& 32767).toBitVec.toInt = _
    rw [BitVec.toInt_eq_toNat_of_lt (by omega)]
  omega
theorem qbbd {a b : Int32} (a0 : 0 ≤ a.toInt) (b0 : 0 < b.toInt) : 0 ≤ (a - a / b * b).toInt ∧ (a - a / b * b).toInt < b.toInt := by
  have ha := qaoP a
  have hb := qaoP b
  have hq : (a / b).toInt = a.toInt / b.toInt := by
    rw [Int32.toInt_div, Int.tdiv_eq_ediv_of_nonneg a0]
    have h1 : 0 ≤ a.toInt / b.toInt := Int.ediv_nonneg a0 (by omega)
    have h2 : a.toInt / b.toInt ≤ a.toInt := Int.ediv_le_self _ a0
    exact Int.bmod_eq_of_le (by omega) (by omega)
  have hm : a.toInt / b.toInt * b.toInt ≤ a.toInt := Int.ediv_mul_le _ (by omega)
  have hp : 0 ≤ a.toInt / b.toInt * b.toInt := Int.mul_nonneg (Int.ediv_nonneg a0 (by omega)) (by omega)
  have e1 : (a / b * b).toInt = a.toInt / b.toInt * b.toInt := by rw [qu8 (by rw [hq]; omega) (by rw [hq]; omega), hq]
  have e2 : (a - a / b * b).toInt = a.toInt - a.toInt / b.toInt * b.toInt := by rw [qpT (by rw [e1]; omega) (by rw [e1]; omega), e1]
  rw [e2]
  have hlt := Int.lt_ediv_add_one_mul_self a.toInt b0
  have he : (a.toInt / b.toInt + 1) * b.toInt = a.toInt / b.toInt * b.toInt + b.toInt := by rw [Int.add_mul, Int.one_mul]
  omega
theorem qO7 {p : Int32} {Q : Int32 → Prop} (hq : ∀ r : Int32, 0 ≤ r.toInt → r.toInt ≤ 32767 → Q r) : qB3 p Q := fun x1 _ => hq _ qbhh.1 qbhh.2
end
section
theorem qTC {p : Int32} {Q : Int32 → Prop} (hq : ∀ r, Q r) : qEn p Q := hq _
section Dr
variable {n h sf ln d : Int32} {X Y kd vl sr : Nat → Int32} {Q : Int32 → NI → NI → NI → Prop}
theorem qaKG (h0 : 0 ≤ h.toInt) (h6 : h.toInt ≤ 6) (n8 : n.toInt ≤ 8) (hw : sLaw ln kd vl) (d1 : d.toInt ≤ 96) (hq : ∀ (r : Int32) (fc pl row : NI), qrF h n row → Q r fc pl row) :
    ∀ (k : Nat) (fc pl row : NI) (sd lp i : Int32), qrF h n row → 0 ≤ i.toInt → i.toInt ≤ 96 → 96 - i.toInt < k → qpw n h sf X Y ln kd vl sr Q k fc pl row d sd lp i := by
  intro k
  induction k with
  | zero => intro fc pl row sd lp i hs i0 i1 i2; omega
  | succ k ih =>
    intro fc pl row sd lp i hs i0 i1 i2
    refine ⟨fun _ => hq _ _ _ _ hs, fun c => ?_⟩
    rw [qak] at c
    have day : ∀ (fc pl row : NI) (sd lp : Int32), qrF h n row → qxi n h sf X Y ln kd vl sr Q (fun fc pl row d sd lp i => qpw n h sf X Y ln kd vl sr Q k fc pl row d sd lp i) fc pl row d sd lp i := fun fc pl row sd lp hs =>
      qaeZ h6 hs (fun f19 h19 x20 e20 => by
        have e : x20.toInt = i.toInt + 1 := by rw [e20]; exact qca (by omega)
        exact ih fc pl f19 sd lp x20 h19 (by omega) (by omega) (by omega))
    refine ⟨fun _ => day _ _ _ _ _ hs, fun c1 => ⟨fun _ => day _ _ _ _ _ hs, fun c2 => qTC (fun r4 => qO7 (fun r5 a0 _ => ?_))⟩⟩
    rw [qak, t_0] at c1 c2
    have hne : ¬ h = 0 := fun z => by rw [qan, t_0] at z; omega
    have nne : ¬ n = 0 := fun z => by rw [qan, t_0] at z; omega
    refine ⟨hne, fun x6 e6 => qTC (fun r7 => qO7 (fun r8 b0 _ => ⟨nne, fun x9 e9 => ?_⟩))⟩
    have g6 := qbbd (b := h) a0 (by omega)
    rw [← e6] at g6
    have g9 := qbbd (b := n) b0 (by omega)
    rw [← e9] at g9
    refine qacr h6 n8 hs g6.1 g6.2 g9.1 g9.2 hw (fun r13 f10 f11 f12 h12 x14 _ => qTC (fun r15 => qO7 (fun r16 z0 _ => ⟨hne, fun x17 e17 => ?_⟩)))
    have g17 := qbbd (b := h) z0 (by omega)
    rw [← e17] at g17
    exact q5F h6 h12 g6.1 (by omega) g17.1 (by omega) (fun f18 h18 => day _ _ _ _ _ h18)
theorem q7l {fc pl row : Nat → Int32} {sd : Int32} (h0 : 0 ≤ h.toInt) (h6 : h.toInt ≤ 6) (n8 : n.toInt ≤ 8) (hw : sLaw ln kd vl) (d1 : d.toInt ≤ 96) (hs : qrF h n row) (hq : ∀ (r : Int32) (fc pl row : NI), qrF h n row → Q r fc pl row) : qKX n h sf X Y ln kd vl sr fc pl row sd d Q :=
  ⟨97, qaKG h0 h6 n8 hw d1 hq 97 fc pl row sd 0 0 hs (by decide) (by decide) (by decide)⟩
end Dr
end
section
theorem qnP : (99 : Int32).toInt = 99 := by decide
theorem qbP : (96 : Int32).toInt = 96 := by decide
section Ca
variable {n h ln v ci p q : Int32} {row kd vl fc pl X Y : Nat → Int32}
theorem qa2R {E : String → Int32 → NI → NI → Prop} {Q : Int32 → Int32 → NI → NI → Prop} (h0 : 0 ≤ h.toInt) (h6 : h.toInt ≤ 6) (n0 : 0 ≤ n.toInt) (n8 : n.toInt ≤ 8) (hs : qrF h n row) (hw : sLaw ln kd vl)
    (he : E "java/util/NoSuchElementException" (v + 1) fc pl) (hq : ∀ (r : Int32) (fc pl : NI), Q r v fc pl) : qamw n h row X Y ln kd vl v fc pl p q E Q :=
  qrW h0 he (fun a0 a1 => qyp n0 he (fun b0 b1 => q2S h6 n8 hs a0 a1 b0 b1 hw (fun r _ _ hr => ⟨by rcases hr with rfl | rfl <;> rfl, hq _ _ _⟩)))
theorem qaYQ {E : String → Int32 → Prop} {Q : Int32 → Int32 → Prop} (h0 : 0 ≤ h.toInt) (h6 : h.toInt ≤ 6) (he : E "java/util/NoSuchElementException" (v + 1)) (hq : ∀ r, Q r v) : qaaa h row v p q E Q :=
  qrW h0 he (fun a0 a1 => qrW h0 he (fun b0 b1 => qLS a0 (by omega) b0 (by omega) (fun r => hq r)))
theorem qaXd {E : String → Int32 → NI → NI → Prop} {Q : Int32 → Int32 → NI → NI → Prop} (h0 : 0 ≤ h.toInt) (h6 : h.toInt ≤ 6) (n0 : 0 ≤ n.toInt) (n8 : n.toInt ≤ 8) (hw : sLaw ln kd vl)
    (he : E "java/util/NoSuchElementException" (v + 1) fc pl) (hq : ∀ (r : Int32) (fc pl : NI), Q r v fc pl) : q8E n h row ln kd vl X Y v fc pl p q E Q :=
  qrW h0 he (fun a0 a1 => qyp n0 he (fun b0 b1 => qnr ⟨fun _ => qwC a0 (by omega) (fun _ _ => qXV h6 a0 (by omega) hw (fun _ _ _ _ _ => qanD n8 (fun _ => hq _ _ _))), fun c => absurd rfl c⟩ ⟨fun c => absurd c (by decide), fun _ => hq _ _ _⟩))
theorem qaTd {ag ar : Nat} {sf : Int32} {sr nw : Nat → Int32} {E : String → Int32 → NI → Value → Value → Prop} {Q : Int32 → Int32 → NI → Value → Value → Prop} (h6 : h.toInt ≤ 6) (p1 : p.toInt ≤ 99) (hq : ∀ (r : Int32) (row : NI), Q r ci row (.ref ag) (.ref ar)) :
    ∀ (k : Nat) (row : NI) (i : Int32), qrF h n row → 0 ≤ i.toInt → i.toInt ≤ 99 → 99 - i.toInt < k → qHB ag ar nw h sf sr E Q k ci row (.ref ag) (.ref ar) p q i := by
  intro k
  induction k with
  | zero => intro row i hs i0 i1 i2; omega
  | succ k ih =>
    intro row i hs i0 i1 i2
    refine ⟨fun _ => ⟨fun _ _ _ => hq _ _, fun _ => ⟨fun _ _ _ => hq _ _, fun _ => q74 h6 (fun _ => hq _ _)⟩⟩, fun c => ?_⟩
    rw [qak] at c
    refine qaeZ h6 hs (fun f10 h10 x11 e11 => ?_)
    have e : x11.toInt = i.toInt + 1 := by rw [e11]; exact qca (by omega)
    exact ih f10 x11 h10 (by omega) (by omega) (by omega)
theorem qaUi {ag ar : Nat} {sf : Int32} {sr tr : Nat → Int32} {rd rl : Value} {E : String → Int32 → NI → Value → Value → Prop} {Q : Int32 → Int32 → NI → Value → Value → Prop} (h6 : h.toInt ≤ 6) (hs : qrF h n row)
    (he : E "java/lang/IllegalArgumentException" (ci + 1) tr rd rl) (hq : ∀ (r : Int32) (row : NI), Q r ci row (.ref ag) (.ref ar)) : q0J ag ar row h sf sr ci tr rd rl p q E Q := by
  refine qbk he (fun a0 a1 => qbk he (fun _ _ => qT1 h6 hs (fun f3 h3 => ⟨100, qaTd h6 (by rw [qnP] at a1; exact a1) hq 100 f3 0 h3 (by decide) (by decide) (by decide)⟩)))
end Ca
end
section
section Mr
variable {n h ln ci a p q sf : Int32} {row kd vl fc pl X Y sr tr : Nat → Int32}
theorem qaUJ {ag ar : Nat} {rd rl : Value} {E : String → Int32 → NI → Value → Value → NI → NI → Prop} {Q : Int32 → Int32 → NI → Value → Value → NI → NI → Prop} (h0 : 0 ≤ h.toInt) (h6 : h.toInt ≤ 6) (n8 : n.toInt ≤ 8) (hs : qrF h n row) (hw : sLaw ln kd vl)
    (he : E "java/lang/IllegalArgumentException" (ci + 1) tr rd rl fc pl) (hq : ∀ (r : Int32) (row fc pl : NI), Q r ci row (.ref ag) (.ref ar) fc pl) : q3s ag ar row n h sf X Y ln kd vl sr ci tr rd rl fc pl a p q E Q := by
  refine qbk he (fun _ a1 => qbk he (fun _ _ => qT1 h6 hs (fun f3 h3 => q7l h0 h6 n8 hw (by rw [qbP] at a1; exact a1) h3 (fun r7 f4 f5 f6 h6' => ?_))))
  exact ⟨fun _ _ _ => hq _ _ _ _, fun _ => hq _ _ _ _, fun _ _ _ => hq _ _ _ _, fun _ => q6B h6 (fun _ => hq _ _ _ _)⟩
end Mr
end
section
section Fo
variable {n h ln cn ci p q sf : Int32} {row kd vl fc pl X Y sr : Nat → Int32}
theorem qaX6 {E : String → Int32 → Int32 → Prop} {Q : Int32 → Int32 → Int32 → Prop} (h6 : h.toInt ≤ 6) (n0 : 0 ≤ n.toInt) (n8 : n.toInt ≤ 8) (he1 : E "java/util/NoSuchElementException" (cn + 1) ci) (he2 : E "java/lang/IllegalArgumentException" cn (ci + 1)) (hq : ∀ r, Q r cn ci) : q9u n h sf row X Y cn ci p q E Q :=
  qyp n0 he1 (fun a0 a1 => qbk he2 (fun _ _ => ⟨fun _ => qTN h6 (fun _ => hq _), fun _ => ⟨qa6 a0 (by omega), fun _ _ => hq _⟩, fun _ => ⟨qa6 a0 (by omega), fun _ _ => hq _⟩, fun _ => q0I ⟨fun _ => hq _, fun _ => hq _⟩ ⟨fun _ => hq _, fun _ => hq _⟩⟩))
theorem qaX0 {E : String → Int32 → Int32 → NI → NI → Prop} {Q : Int32 → Int32 → Int32 → NI → NI → Prop} (h0 : 0 ≤ h.toInt) (h6 : h.toInt ≤ 6) (hw : sLaw ln kd vl) (he1 : E "java/util/NoSuchElementException" (cn + 1) ci fc pl) (he2 : E "java/lang/IllegalArgumentException" cn (ci + 1) fc pl) (hq : ∀ (r : Int32) (fc pl : NI), Q r cn ci fc pl) : qabU h row ln kd vl sr cn ci fc pl p q E Q :=
  qrW h0 he1 (fun a0 a1 => qbk he2 (fun _ _ => ⟨fun _ => qnr ⟨fun _ => qXV h6 a0 (by omega) hw (fun _ _ _ _ _ => hq _ _ _), fun _ => hq _ _ _⟩ ⟨fun c => absurd c (by decide), fun _ => hq _ _ _⟩, fun _ => qnr ⟨fun _ => qwC a0 (by omega) (fun _ _ => hq _ _ _), fun _ => hq _ _ _⟩ ⟨fun c => absurd c (by decide), fun _ => hq _ _ _⟩, fun _ => que a0 (by omega) (fun _ => hq _ _ _), fun _ => ⟨qa6 a0 (by omega), fun _ _ => hq _ _ _⟩, fun _ => q8R a0 (by omega) (fun _ => hq _ _ _), fun _ => qaEa a0 (by omega) (fun _ => hq _ _ _), fun _ => qaj4 h6 a0 (by omega) (fun _ => hq _ _ _), fun _ => qalK h6 a0 (by omega) (fun _ => hq _ _ _)⟩))
theorem qaY8 {E : String → Int32 → Int32 → Prop} {Q : Int32 → Int32 → Int32 → Prop} (h6 : h.toInt ≤ 6) (p0 : 0 ≤ p.toInt) (p1 : p.toInt < 6) (hq : ∀ r, Q r cn ci) : ∀ (k : Nat) (v i : Int32), 0 ≤ i.toInt → i.toInt ≤ 6 → 6 - i.toInt < k → qvl h row E Q k cn ci p q v i := by
  intro k
  induction k with
  | zero => intro v i i0 i1 i2; omega
  | succ k ih =>
    intro v i i0 i1 i2
    refine ⟨fun _ => hq _, fun c => ?_⟩
    rw [qak] at c
    have go : ∀ v x9 : Int32, x9 = i + 1 → qvl h row E Q k cn ci p q v x9 := fun v x9 e9 => by
      have e : x9.toInt = i.toInt + 1 := by rw [e9]; exact qca (by omega)
      exact ih v x9 (by omega) (by omega) (by omega)
    exact ⟨fun _ => qLS i0 (by omega) p0 p1 (fun _ => ⟨fun _ => go v, fun _ x8 _ => go x8⟩), fun _ => qLS p0 p1 i0 (by omega) (fun _ => ⟨fun _ => go v, fun _ x8 _ => go x8⟩)⟩
theorem qaYE {E : String → Int32 → Int32 → Prop} {Q : Int32 → Int32 → Int32 → Prop} (h0 : 0 ≤ h.toInt) (h6 : h.toInt ≤ 6) (he1 : E "java/util/NoSuchElementException" (cn + 1) ci) (he2 : E "java/lang/IllegalArgumentException" cn (ci + 1)) (hq : ∀ r, Q r cn ci) : q9Y h row cn ci p q E Q :=
  qrW h0 he1 (fun a0 a1 => qbk he2 (fun _ _ => ⟨7, qaY8 h6 a0 (by omega) hq 7 0 0 (by decide) (by decide) (by decide)⟩))
theorem qaTW {a1 a2 a3 a4 a5 a6 a7 a8 : Int32} {E : String → Int32 → NI → NI → Prop} {Q : Int32 → Int32 → NI → NI → Prop} (hw : sLaw ln kd vl) (he : E "java/lang/IllegalArgumentException" (ci + 1) fc pl) (hq : ∀ (r : Int32) (fc pl : NI), Q r ci fc pl) : q4m ln kd vl ci fc pl a1 a2 a3 a4 a5 a6 a7 a8 E Q :=
  qbk he (fun _ _ => qbk he (fun _ _ => qbk he (fun _ _ => qbk he (fun _ _ => qbk he (fun _ _ => qbk he (fun _ _ => qbk he (fun _ _ => qbk he (fun _ _ => q8d (fun _ => q8j (fun _ => qaA7 hw (fun _ _ _ _ => hq _ _ _)))))))))))
end Fo
end
section
section To
variable {n h ci p sf : Int32} {row : Nat → Int32}
theorem qaYG {rs fx mn : Int32} {E : String → Int32 → Prop} {Q : Int32 → Int32 → Prop} (h6 : h.toInt ≤ 6) (he : E "java/lang/IllegalArgumentException" (ci + 1)) (hq : ∀ r, Q r ci) : qaaQ rs n h fx sf row mn ci p E Q :=
  qbk he (fun _ _ => ⟨fun _ => qZi h6 (fun _ => hq _), fun _ => hq _, fun _ => hq _, fun _ => hq _, fun _ _ _ => hq _, fun _ _ _ => hq _, fun _ _ _ => hq _, fun _ _ _ => hq _, fun _ => hq _, fun _ => q74 h6 (fun _ => hq _), fun _ => hq _, fun _ => hq _⟩)
theorem qaWc {a b c : Int32} {Q : Int32 → Prop} (hq : ∀ r, Q r) : q1D a b c p Q := ⟨fun _ => hq _, fun _ => hq _, fun _ => hq _, fun _ => hq _⟩
theorem qaTz {a : Int32} {Q : Int32 → Prop} (hq : ∀ r, Q r) : q17 a Q := hq _
theorem qaQn {a b : Int32} {Q : Int32 → Prop} (hq : ∀ r, Q r) : qX9 a b p Q := ⟨fun _ => hq _, fun _ => ⟨fun _ => hq _, fun _ => hq _⟩⟩
theorem qarV {E : String → Int32 → Prop} {Q : Int32 → Int32 → Prop} (h6 : h.toInt ≤ 6) (hq : ∀ r, Q r ci) : ∀ (k : Nat) (b i : Int32), (b = -1 ∨ 0 ≤ b.toInt ∧ b.toInt < 6) → 0 ≤ i.toInt → i.toInt ≤ 6 → 6 - i.toInt < k → qgB h row E Q k ci p b i := by
  intro k
  induction k with
  | zero => intro b i hb i0 i1 i2; omega
  | succ k ih =>
    intro b i hb i0 i1 i2
    refine ⟨fun _ => ⟨fun _ => hq _, fun _ => ⟨fun c => ?_, fun _ => hq _⟩⟩, fun c => ?_⟩
    · have g := hb.resolve_left c
      exact que g.1 g.2 (fun _ => hq _)
    · rw [qak] at c
      have go : ∀ b x9 : Int32, (b = -1 ∨ 0 ≤ b.toInt ∧ b.toInt < 6) → x9 = i + 1 → qgB h row E Q k ci p b x9 := fun b x9 hb e9 => by
        have e : x9.toInt = i.toInt + 1 := by rw [e9]; exact qca (by omega)
        exact ih b x9 hb (by omega) (by omega) (by omega)
      have gi : i = -1 ∨ 0 ≤ i.toInt ∧ i.toInt < 6 := Or.inr ⟨i0, by omega⟩
      refine qnr ⟨fun c => absurd rfl c, fun _ => ⟨fun _ x12 e12 => go i x12 gi e12, fun c2 => ?_⟩⟩ ⟨fun _ x12 e12 => go b x12 hb e12, fun c => absurd c (by decide)⟩
      have g := hb.resolve_left c2
      exact que i0 (by omega) (fun _ => que g.1 g.2 (fun _ => ⟨fun _ x12 e12 => go b x12 hb e12, fun _ x12 e12 => go i x12 gi e12⟩))
theorem qatU {E : String → Int32 → Prop} {Q : Int32 → Int32 → Prop} (h6 : h.toInt ≤ 6) (he : E "java/lang/IllegalArgumentException" (ci + 1)) (hq : ∀ r, Q r ci) : qL8 h row ci p E Q :=
  qbk he (fun _ _ => ⟨7, qarV h6 hq 7 (-1) 0 (Or.inl rfl) (by decide) (by decide) (by decide)⟩)
end To
end
section
theorem qgA : (495 : Int32).toInt = 495 := by decide
section Sp
variable {n h ln sf p1 p2 p3 p4 p5 : Int32} {ag ar : Nat} {nw X Y kd vl sr : Nat → Int32}
theorem qaXv {E : String → Int32 → NI → Value → Value → NI → NI → Prop} {Q : Int32 → Int32 → NI → Value → Value → NI → NI → Prop} {ci : Int32} (h0 : 0 ≤ h.toInt) (h6 : h.toInt ≤ 6) (n8 : n.toInt ≤ 8) (hw : sLaw ln kd vl) (hs : qrF h n nw) (a2 : p2.toInt ≤ 20) (a3 : p3.toInt ≤ 96)
    (hq : ∀ (r : Int32) (row fc pl : NI), Q r ci row (.ref ag) (.ref ar) fc pl) :
    ∀ (k : Nat) (row fc pl : NI) (rd rl : Value) (l6 l7 l8 i : Int32), (0 < i.toInt → rd = .ref ag ∧ rl = .ref ar) → (i.toInt = 0 → 0 < p2.toInt) → 0 ≤ i.toInt → i.toInt ≤ 20 → 20 - i.toInt < k → qvk ag ar n h sf nw X Y ln kd vl sr E Q k ci row rd rl fc pl p1 p2 p3 p4 p5 l6 l7 l8 i := by
  intro k
  induction k with
  | zero => intro row fc pl rd rl l6 l7 l8 i hr hz i0 i1 i2; omega
  | succ k ih =>
    intro row fc pl rd rl l6 l7 l8 i hr hz i0 i1 i2
    refine ⟨fun c => ?_, fun c => ?_⟩
    · rw [qak] at c
      obtain ⟨rfl, rfl⟩ := hr (by omega)
      exact ⟨fun _ => hq _ _ _ _, fun _ => ⟨fun _ => hq _ _ _ _, fun _ => hq _ _ _ _⟩⟩
    · rw [qak] at c
      have go : ∀ (fc pl row : NI) (l6 l7 s1 : Int32), qHY ag ar n h sf nw X Y ln kd vl sr E Q (fun jbz jjV jkp jkP jfl jfM l1 l2 l3 l4 l5 l6 l7 l8 l9 => qvk ag ar n h sf nw X Y ln kd vl sr E Q k jbz jjV jkp jkP jfl jfM l1 l2 l3 l4 l5 l6 l7 l8 l9) ci row (.ref ag) (.ref ar) fc pl p1 p2 p3 p4 p5 l6 l7 i l8 s1 := fun fc pl row l6 l7 s1 x18 _ x19 e19 => by
        have e : x19.toInt = i.toInt + 1 := by rw [e19]; exact qca (by omega)
        exact ih row fc pl _ _ l6 l7 x18 x19 (fun _ => ⟨rfl, rfl⟩) (by omega) (by omega) (by omega) (by omega)
      exact qT1 h6 hs (fun f8 h8 x9 _ => q7l h0 h6 n8 hw a3 h8 (fun r fc pl row _ x14 _ x15 _ => qnr ⟨fun _ => go _ _ _ _ _ _, fun _ => go _ _ _ _ _ _⟩ ⟨fun _ => go _ _ _ _ _ _, fun _ => go _ _ _ _ _ _⟩))
theorem qaYO {E : String → Int32 → NI → Value → Value → NI → NI → Prop} {Q : Int32 → Int32 → NI → Value → Value → NI → NI → Prop} {ci : Int32} {row fc pl : Nat → Int32} {rd rl : Value} (h0 : 0 ≤ h.toInt) (h6 : h.toInt ≤ 6) (n8 : n.toInt ≤ 8) (hw : sLaw ln kd vl) (hs : qrF h n nw)
    (he : E "java/lang/IllegalArgumentException" (ci + 1) row rd rl fc pl) (hq : ∀ (r : Int32) (row fc pl : NI), Q r ci row (.ref ag) (.ref ar) fc pl) : qabK ag ar n h sf nw X Y ln kd vl sr ci row rd rl fc pl p1 p2 p3 p4 p5 E Q :=
  qbk he (fun a0 a1 => qbk he (fun _ b1 => qbk he (fun _ _ => qbk he (fun _ _ => ⟨21, qaXv h0 h6 n8 hw hs (by rw [qcE] at a1; exact a1) (by rw [qbP] at b1; exact b1) hq 21 row fc pl rd rl _ _ _ 0 (fun z => absurd z (by decide)) (fun _ => by rw [t_1] at a0; omega) (by decide) (by decide) (by decide)⟩))))
end Sp
section Re
variable {n h sf cn ci p q : Int32} {X Y : Nat → Int32}
theorem qaQ8 {E : String → Int32 → Int32 → Prop} {Q : Int32 → Int32 → Int32 → Prop} (n8 : n.toInt ≤ 8) (p0 : 0 ≤ p.toInt) (p1 : p.toInt < 8) (hq : ∀ r, Q r cn ci) :
    ∀ (k : Nat) (b i : Int32), (b = -1 ∨ 0 ≤ b.toInt ∧ b.toInt < 8) → 0 ≤ i.toInt → i.toInt ≤ 8 → 8 - i.toInt < k → qm0 n sf X Y E Q k cn ci p q b i := by
  intro k
  induction k with
  | zero => intro b i hb i0 i1 i2; omega
  | succ k ih =>
    intro b i hb i0 i1 i2
    refine ⟨fun _ => ⟨fun _ => hq _, fun _ => ⟨fun c => ?_, fun _ => hq _⟩⟩, fun c => ?_⟩
    · have g := hb.resolve_left c
      exact qBX p0 p1 g.1 g.2 (fun _ => hq _)
    · rw [qak] at c
      have go : ∀ b x9 : Int32, (b = -1 ∨ 0 ≤ b.toInt ∧ b.toInt < 8) → x9 = i + 1 → qm0 n sf X Y E Q k cn ci p q b x9 := fun b x9 hb e9 => by
        have e : x9.toInt = i.toInt + 1 := by rw [e9]; exact qca (by omega)
        exact ih b x9 hb (by omega) (by omega) (by omega)
      have gi : i = -1 ∨ 0 ≤ i.toInt ∧ i.toInt < 8 := Or.inr ⟨i0, by omega⟩
      refine q0I ⟨fun _ x12 e12 => go b x12 hb e12, fun c => absurd rfl c⟩ ⟨fun c => absurd c (by decide), fun _ => ⟨fun _ x12 e12 => go i x12 gi e12, fun c2 => ?_⟩⟩
      have g := hb.resolve_left c2
      exact qBX p0 p1 i0 (by omega) (fun _ => qBX p0 p1 g.1 g.2 (fun _ => ⟨fun _ x12 e12 => go b x12 hb e12, fun _ x12 e12 => go i x12 gi e12⟩))
theorem qaMA {E : String → Int32 → Int32 → Prop} {Q : Int32 → Int32 → Int32 → Prop} (n0 : 0 ≤ n.toInt) (n8 : n.toInt ≤ 8) (he1 : E "java/util/NoSuchElementException" (cn + 1) ci) (he2 : E "java/lang/IllegalArgumentException" cn (ci + 1)) (hq : ∀ r, Q r cn ci) : qXM n sf X Y cn ci p q E Q :=
  qyp n0 he1 (fun a0 a1 => qbk he2 (fun _ _ => ⟨9, qaQ8 n8 a0 (by omega) hq 9 (-1) 0 (Or.inl rfl) (by decide) (by decide) (by decide)⟩))
theorem qaPj {oe : Nat → Int32} {Q : Int32 → Prop} (h6 : h.toInt ≤ 6) (hq : ∀ r, Q r) : ∀ (k : Nat) (v i : Int32), 0 ≤ i.toInt → i.toInt ≤ 6 → 6 - i.toInt < k → qIZ h oe Q k p v i := by
  intro k
  induction k with
  | zero => intro v i i0 i1 i2; omega
  | succ k ih =>
    intro v i i0 i1 i2
    refine ⟨fun _ => hq _, fun c => ?_⟩
    rw [qak] at c
    refine ⟨qa6 i0 (by omega), fun _ _ x3 _ x4 _ x5 e5 => ?_⟩
    have e : x5.toInt = i.toInt + 1 := by rw [e5]; exact qca (by omega)
    exact ih x4 x5 (by omega) (by omega) (by omega)
theorem qaR3 {oe : Nat → Int32} {Q : Int32 → Prop} (h6 : h.toInt ≤ 6) (hq : ∀ r, Q r) : qYz h oe p Q := ⟨7, qaPj h6 hq 7 0 0 (by decide) (by decide) (by decide)⟩
theorem qajX {row oe : Nat → Int32} {l3 : Int32} {Q : Int32 → NI → Prop} (h6 : h.toInt ≤ 6) (p0 : 0 ≤ p.toInt) (p1 : p.toInt < 6) (hq : ∀ r f, Q r f) : ∀ (k : Nat) (i : Int32), 0 ≤ i.toInt → i.toInt ≤ 495 → 495 - i.toInt < k → qBf h row Q k oe p l3 i := by
  intro k
  induction k with
  | zero => intro i i0 i1 i2; omega
  | succ k ih =>
    intro i i0 i1 i2
    have hend : qA0 h row Q oe p i := ⟨qa6 p0 p1, fun _ _ _ _ => hq _ _⟩
    refine ⟨fun _ => hend, fun c x6 _ => qaR3 h6 (fun _ => ⟨fun _ => hend, fun _ x9 e9 => ?_⟩)⟩
    rw [qak, qgA] at c
    have e : x9.toInt = i.toInt + 1 := by rw [e9]; exact qca (by omega)
    exact ih x9 (by omega) (by omega) (by omega)
theorem qasj {row : Nat → Int32} {l3 : Int32} {Q : Int32 → NI → Prop} (h6 : h.toInt ≤ 6) (p0 : 0 ≤ p.toInt) (p1 : p.toInt < 6) (hq : ∀ r f, Q r f) : ∀ (k : Nat) (oe : NI) (i : Int32), 0 ≤ i.toInt → i.toInt ≤ 6 → 6 - i.toInt < k → qrl h row Q k oe p q l3 i := by
  intro k
  induction k with
  | zero => intro oe i i0 i1 i2; omega
  | succ k ih =>
    intro oe i i0 i1 i2
    refine ⟨fun _ => ⟨496, qajX h6 p0 p1 hq 496 0 (by decide) (by decide) (by decide)⟩, fun c => ?_⟩
    rw [qak] at c
    have go : ∀ s2 : Int32, qBp h row Q (fun oe p q l3 i => qrl h row Q k oe p q l3 i) oe p q l3 i i s2 := fun s2 => ⟨qa6 i0 (by omega), fun f10 _ x11 e11 => by
      have e : x11.toInt = i.toInt + 1 := by rw [e11]; exact qca (by omega)
      exact ih f10 x11 (by omega) (by omega) (by omega)⟩
    exact qxm ⟨fun _ => go _, fun c => absurd rfl c⟩ ⟨fun c => absurd c (by decide), fun _ => qalK h6 i0 (by omega) (fun _ => go _)⟩
theorem qaBx {row oe : Nat → Int32} {l3 : Int32} {Q : Int32 → NI → Prop} (h6 : h.toInt ≤ 6) (p0 : 0 ≤ p.toInt) (p1 : p.toInt < 6) (hq : ∀ r f, Q r f) : qPu h row oe p q l3 Q :=
  ⟨7, qasj h6 p0 p1 hq 7 oe 0 (by decide) (by decide) (by decide)⟩
theorem qaQq {row oe : Nat → Int32} {l3 : Int32} {E : String → Int32 → Int32 → NI → Prop} {Q : Int32 → Int32 → Int32 → NI → Prop} (h0 : 0 ≤ h.toInt) (h6 : h.toInt ≤ 6) (he1 : E "java/util/NoSuchElementException" (cn + 1) ci oe) (he2 : E "java/lang/IllegalArgumentException" cn (ci + 1) oe) (hq : ∀ r f, Q r cn ci f) : qWk h row cn ci oe p q l3 E Q :=
  qrW h0 he1 (fun a0 a1 => qbk he2 (fun _ _ => qbk he2 (fun _ _ => qxm ⟨fun _ => hq _ _, fun c => absurd rfl c⟩ ⟨fun c => absurd c (by decide), fun _ => qaBx h6 a0 (by omega) (fun _ _ => hq _ _)⟩)))
theorem qJY {a b c d : Int32} {Q : Int32 → Prop} (hq : ∀ r, Q r) : qCo a b c d Q := ⟨fun _ => ⟨fun _ => hq _, fun _ => hq _⟩, fun _ => ⟨fun _ => hq _, fun _ => hq _⟩⟩
theorem qaZb {E : String → Int32 → Prop} {Q : Int32 → Int32 → Prop} {l3 : Int32} (hq : ∀ r, Q r ci) : ∀ (k : Nat) (l4 l5 l6 i : Int32), 0 ≤ i.toInt → i.toInt ≤ 4 → 4 - i.toInt < k → qpt E Q k ci p q l3 l4 l5 l6 i := by
  intro k
  induction k with
  | zero => intro l4 l5 l6 i i0 i1 i2; omega
  | succ k ih =>
    intro l4 l5 l6 i i0 i1 i2
    refine ⟨fun _ => ⟨fun _ => hq _, fun _ => ⟨fun _ => hq _, fun _ => hq _⟩⟩, fun c => ?_⟩
    rw [qak, t_4] at c
    have go : ∀ l4 l5 l6 x9 : Int32, x9 = i + 1 → qpt E Q k ci p q l3 l4 l5 l6 x9 := fun l4 l5 l6 x9 e9 => by
      have e : x9.toInt = i.toInt + 1 := by rw [e9]; exact qca (by omega)
      exact ih l4 l5 l6 x9 (by omega) (by omega) (by omega)
    exact fun x7 _ x8 _ => qJY (fun _ => qJY (fun _ => ⟨fun _ => go _ _ _, fun _ => qJY (fun _ => qJY (fun _ => ⟨fun _ => go _ _ _, fun _ => ⟨fun _ x21 _ => go _ _ _, fun _ x16 _ => qJY (fun _ => qJY (fun _ x19 _ x21 _ => go _ _ _))⟩⟩))⟩))
theorem qaYS {E : String → Int32 → Prop} {Q : Int32 → Int32 → Prop} {l3 : Int32} (he : E "java/lang/IllegalArgumentException" (ci + 1)) (hq : ∀ r, Q r ci) : qaae ci p q l3 E Q :=
  qbk he (fun _ _ => qbk he (fun _ _ => qbk he (fun _ _ => ⟨5, qaZb hq 5 0 (-1) 0 0 (by decide) (by decide) (by decide)⟩)))
end Re
/-! a down begun -/
section Bg
variable {h n : Int32} {db st sr : Nat → Int32} {Q : NI → Prop}
theorem qaNI (h6 : h.toInt ≤ 6) (hs : sSeat h n st) (hq : ∀ row, qrF h n row → Q row) : ∀ (k : Nat) (row : NI) (i : Int32), (∀ j : Nat, (j : Int) < i.toInt → 0 ≤ (row (4 + j)).toInt ∧ (row (4 + j)).toInt < n.toInt) → 0 ≤ i.toInt → i.toInt ≤ 6 → 6 - i.toInt < k → qD8 h db st sr Q k row i := by
  intro k
  induction k with
  | zero => intro row i hr i0 i1 i2; omega
  | succ k ih =>
    intro row i hr i0 i1 i2
    refine ⟨fun c f6 e6 => hq f6 (fun j hj => ?_), fun c x7 e7 => ?_⟩
    · rw [qak] at c
      rw [e6, pk_cpy_out (Or.inl (by show 4 + j < (28 : Int32).toNatClampNeg; have : (28 : Int32).toNatClampNeg = 28 := by decide
                                     omega))]
      exact hr j (by omega)
    · rw [qak] at c
      have e7' : x7.toInt = 4 + i.toInt := by rw [e7, qap (by rw [t_4]; omega) (by rw [t_4]; omega), t_4]
      have hi := qkX i0
      refine ⟨qa6 i0 (by omega), fun x8 e8 => ⟨qa6 (by omega) (by omega), fun f9 e9 x10 e10 => ⟨qa6 i0 (by omega), fun x11 e11 => ?_⟩⟩⟩
      have e10' : x10.toInt = 10 + i.toInt := by rw [e10, qap (by rw [qgg]; omega) (by rw [qgg]; omega), qgg]
      refine ⟨qa6 (by omega) (by omega), fun f12 e12 x13 e13 => ?_⟩
      have e : x13.toInt = i.toInt + 1 := by rw [e13]; exact qca (by omega)
      refine ih f12 x13 (fun j hj => ?_) (by omega) (by omega) (by omega)
      rw [e12, pk_un (by rw [qas (k := 10 + i.toNatClampNeg) (by omega)]; omega), e9, qas (x := x7) (k := 4 + i.toNatClampNeg) (by omega)]
      by_cases z : j = i.toNatClampNeg
      · rw [z, pk_us, e8]; exact hs _ (by omega)
      · rw [pk_un (by omega)]; exact hr j (by omega)
theorem qaNZ (h6 : h.toInt ≤ 6) (hs : sSeat h n st) (hq : ∀ row, qrF h n row → Q row) : ∀ (k : Nat) (row : NI) (i : Int32), 0 ≤ i.toInt → i.toInt ≤ 64 → 64 - i.toInt < k → qEp h db st sr Q k row i := by
  intro k
  induction k with
  | zero => intro row i i0 i1 i2; omega
  | succ k ih =>
    intro row i i0 i1 i2
    refine ⟨fun c f2 _ => ⟨7, qaNI h6 hs hq 7 f2 0 (fun j hj => by rw [t_0] at hj; omega) (by decide) (by decide) (by decide)⟩, fun c => ?_⟩
    rw [qak, t_64] at c
    refine ⟨qa6 i0 (by omega), fun f3 _ x4 e4 => ?_⟩
    have e : x4.toInt = i.toInt + 1 := by rw [e4]; exact qca (by omega)
    exact ih f3 x4 (by omega) (by omega) (by omega)
theorem qaWU {row : Nat → Int32} (h6 : h.toInt ≤ 6) (hs : sSeat h n st) (hq : ∀ row, qrF h n row → Q row) : qFW h db st sr row Q :=
  ⟨65, qaNZ h6 hs hq 65 row 0 (by decide) (by decide) (by decide)⟩
end Bg
end
section
theorem qbgy : (10000 : Int32).toInt = 10000 := by decide
theorem qRr : (11 : Int32).toInt = 11 := by decide
theorem qaz : (12 : Int32).toInt = 12 := by decide
theorem qa6u : (122 : Int32).toInt = 122 := by decide
theorem qlg : (18 : Int32).toInt = 18 := by decide
theorem qaJD : (200 : Int32).toInt = 200 := by decide
theorem qcc : (30 : Int32).toInt = 30 := by decide
theorem qal : (31 : Int32).toInt = 31 := by decide
theorem t_32 : (32 : Int32).toInt = 32 := by decide
theorem qSF : (36 : Int32).toInt = 36 := by decide
theorem t_37 : (37 : Int32).toInt = 37 := by decide
theorem t_40 : (40 : Int32).toInt = 40 := by decide
theorem t_41 : (41 : Int32).toInt = 41 := by decide
theorem t_42 : (42 : Int32).toInt = 42 := by decide
theorem t_43 : (43 : Int32).toInt = 43 := by decide
theorem t_44 : (44 : Int32).toInt = 44 := by decide
theorem t_45 : (45 : Int32).toInt = 45 := by decide
theorem t_47 : (47 : Int32).toInt = 47 := by decide
theorem t_48 : (48 : Int32).toInt = 48 := by decide
theorem t_5 : (5 : Int32).toInt = 5 := by decide
theorem t_57 : (57 : Int32).toInt = 57 := by decide
theorem t_59 : (59 : Int32).toInt = 59 := by decide
theorem qh4 : (66 : Int32).toInt = 66 := by decide
theorem quh : (67 : Int32).toInt = 67 := by decide
theorem t_68 : (68 : Int32).toInt = 68 := by decide
theorem t_7 : (7 : Int32).toInt = 7 := by decide
theorem t_91 : (91 : Int32).toInt = 91 := by decide
theorem t_93 : (93 : Int32).toInt = 93 := by decide
theorem t_97 : (97 : Int32).toInt = 97 := by decide
theorem qbI : (999 : Int32).toInt = 999 := by decide
theorem qbc1 : (9999 : Int32).toInt = 9999 := by decide
/-- the reference's row of a March: where each hare sits, the debts -/
def rS (h n : Int32) (s : NI) : Prop := (h.toInt ≤ 6 ∧ 0 ≤ n.toInt ∧ n.toInt ≤ 8 ∧ (h.toInt ≤ 0 ∨ 0 < n.toInt)) ∧ (∀ j : Nat, (j : Int) < h.toInt → -1 ≤ (s j).toInt ∧ (s j).toInt < n.toInt) ∧ (∀ j : Nat, 30 ≤ j → j < 66 → 0 ≤ (s j).toInt ∧ (s j).toInt ≤ 99)
theorem qn0 {h n x : Int32} {s : Nat → Int32} (hs : rS h n s) (x0 : 0 ≤ x.toInt) (x1 : x.toInt < h.toInt) : -1 ≤ (s x.toNatClampNeg).toInt ∧ (s x.toNatClampNeg).toInt < n.toInt ∧ n.toInt ≤ 8 := by
  have e := qkX x0
  have g := hs.2.1 x.toNatClampNeg (by omega)
  exact ⟨g.1, g.2, hs.1.2.2.1⟩
theorem qgw {h n x : Int32} {s : Nat → Int32} (hs : rS h n s) (x0 : 30 ≤ x.toInt) (x1 : x.toInt < 66) : 0 ≤ (s x.toNatClampNeg).toInt ∧ (s x.toNatClampNeg).toInt ≤ 99 := by
  have e := qkX (x := x) (by omega)
  exact hs.2.2 x.toNatClampNeg (by omega) (by omega)
theorem qul {h n x v : Int32} {s : Nat → Int32} (hs : rS h n s) (x0 : 0 ≤ x.toInt) (h1 : 6 ≤ x.toInt ∨ v.toInt = -1 ∨ (0 ≤ v.toInt ∧ v.toInt < n.toInt)) (h2 : x.toInt < 30 ∨ 66 ≤ x.toInt ∨ (0 ≤ v.toInt ∧ v.toInt ≤ 99)) : rS h n (upd s x.toNatClampNeg v) := by
  have e := qkX x0
  obtain ⟨⟨g1, g2, g3⟩, g4, g5⟩ := hs
  refine ⟨⟨g1, g2, g3⟩, fun j hj => ?_, fun j j0 j1 => ?_⟩
  · by_cases z : j = x.toNatClampNeg
    · rw [z, pk_us]; omega
    · rw [pk_un z]; exact g4 j hj
  · by_cases z : j = x.toNatClampNeg
    · rw [z, pk_us]; omega
    · rw [pk_un z]; exact g5 j j0 j1
theorem qbf5 {h n : Int32} {s t : Nat → Int32} (hs : rS h n s) (e : ∀ j : Nat, j < 68 → t j = s j) : rS h n t := by
  obtain ⟨⟨g1, g2, g3⟩, g4, g5⟩ := hs
  exact ⟨⟨g1, g2, g3⟩, fun j hj => by rw [e j (by omega)]; exact g4 j hj, fun j j0 j1 => by rw [e j (by omega)]; exact g5 j j0 j1⟩
theorem q55 {x : Int32} : 0 ≤ (x &&& 1).toInt ∧ (x &&& 1).toInt ≤ 1 := by
  have h : ((x &&& 1).toBitVec).toNat ≤ 1 := by
    show (x.toBitVec &&& (1 : Int32).toBitVec).toNat ≤ 1
    rw [BitVec.toNat_and]
    exact Nat.le_trans Nat.and_le_right (by decide)
  have e : (x &&& 1).toInt = ((x &&& 1).toBitVec).toNat := by
    show (x &&& 1).toBitVec.toInt = _
    rw [BitVec.toInt_eq_toNat_of_lt (by omega)]
  omega
theorem qaLV {a b : Int32} (h : b.toInt = 0) : (a * b).toInt = 0 := by
  rw [qu8 (by rw [h]; omega) (by rw [h]; omega), h, Int.mul_zero]
theorem rS_h {h n : Int32} {s : Nat → Int32} (hs : rS h n s) : h.toInt ≤ 6 ∧ 0 ≤ n.toInt ∧ n.toInt ≤ 8 ∧ (h.toInt ≤ 0 ∨ 0 < n.toInt) := hs.1
theorem qa0H {r : Int32} (h : r.toInt = 0 ∨ r.toInt = 1) : narrow .boolean (.int r) = .int r := by
  rcases h with h | h
  · have e : r = 0 := qan.mpr (h.trans t_0.symm)
    rw [e]; rfl
  · have e : r = 1 := qan.mpr (h.trans t_1.symm)
    rw [e]; rfl
/-- how high the pile of the law stands before a place -/
def rD (code : NI) : Nat → Int
  | 0 => 0
  | k + 1 => if (code k).toInt ≤ 1 then rD code k + 1 else rD code k - 1
theorem qo9 {code : Nat → Int32} : (0 : Int32).toInt = rD code (0 : Int32).toNatClampNeg := rfl
theorem qbmZ (code : NI) : ∀ k : Nat, rD code k ≤ k := fun k => by
  induction k with
  | zero => exact Int.le_refl 0
  | succ k ih =>
    show (if (code k).toInt ≤ 1 then rD code k + 1 else rD code k - 1) ≤ _
    split <;> omega
/-- a law that can be reckoned -/
def rC (c : Int32) (code ofc : NI) : Prop := (0 ≤ c.toInt ∧ c.toInt ≤ 150) ∧ ∀ k : Nat, (k : Int) < c.toInt → ((code k).toInt ≤ 1 ∨ 2 ≤ rD code k) ∧ ((code k).toInt ≤ 1 → 0 ≤ rD code k) ∧ ((code k).toInt = 0 ∨ 1 < (code k).toInt ∨ (0 ≤ (ofc k).toInt ∧ (ofc k).toInt < 8))
theorem qbmB {c x : Int32} {code ofc : Nat → Int32} (h : rC c code ofc) (x0 : 0 ≤ x.toInt) (x1 : x.toInt < c.toInt) : ((code x.toNatClampNeg).toInt ≤ 1 ∨ 2 ≤ rD code x.toNatClampNeg) ∧ ((code x.toNatClampNeg).toInt ≤ 1 → 0 ≤ rD code x.toNatClampNeg) ∧ ((code x.toNatClampNeg).toInt = 0 ∨ 1 < (code x.toNatClampNeg).toInt ∨ (0 ≤ (ofc x.toNatClampNeg).toInt ∧ (ofc x.toNatClampNeg).toInt < 8)) :=
  h.2 _ (by have := qkX x0; omega)
theorem qaYX (code : NI) {x y : Int32} (x0 : 0 ≤ x.toInt) (e : y.toInt = x.toInt + 1) : ((code x.toNatClampNeg).toInt ≤ 1 ∧ rD code y.toNatClampNeg = rD code x.toNatClampNeg + 1) ∨ (1 < (code x.toNatClampNeg).toInt ∧ rD code y.toNatClampNeg = rD code x.toNatClampNeg - 1) := by
  have h1 := qkX x0
  have h2 := qkX (x := y) (by omega)
  have h3 : y.toNatClampNeg = x.toNatClampNeg + 1 := by omega
  rw [h3]
  show (_ ∧ (if (code x.toNatClampNeg).toInt ≤ 1 then _ else _) = _) ∨ (_ ∧ (if (code x.toNatClampNeg).toInt ≤ 1 then _ else _) = _)
  by_cases z : (code x.toNatClampNeg).toInt ≤ 1
  · rw [if_pos z]; exact Or.inl ⟨z, rfl⟩
  · rw [if_neg z]; exact Or.inr ⟨by omega, rfl⟩
theorem qyL {f : Nat → Int32} {i : Int32} (h : ∀ j : Nat, (j : Int) < i.toInt → (f j).toInt = 0) (c : 36 ≤ i.toInt) : ∀ j : Nat, j < 36 → (f j).toInt = 0 := fun j hj => h j (by omega)
theorem qyG {f g : Nat → Int32} {i y : Int32} (h : ∀ j : Nat, (j : Int) < i.toInt → (f j).toInt = 0) (e : g = upd f i.toNatClampNeg 0) (ey : y.toInt = i.toInt + 1 ∧ 0 ≤ i.toInt) : ∀ j : Nat, (j : Int) < y.toInt → (g j).toInt = 0 := fun j hj => by
  have hn := qkX ey.2
  rw [e]
  by_cases z : j = i.toNatClampNeg
  · rw [z, pk_us]; rfl
  · rw [pk_un z]; exact h j (by omega)
theorem quk {f : Nat → Int32} : ∀ j : Nat, (j : Int) < (0 : Int32).toInt → (f j).toInt = 0 := fun j hj => by rw [t_0] at hj; omega
end
section
theorem qaPK {x : Int32} (h : 0 ≤ x.toInt) : x.toInt = (x.toBitVec.toNat : Int) := by
  have h2 := x.toBitVec.isLt
  have h1 : x.toInt = if 2 * x.toBitVec.toNat < 2 ^ 32 then (x.toBitVec.toNat : Int) else (x.toBitVec.toNat : Int) - (2 ^ 32 : Nat) := BitVec.toInt_eq_toNat_cond x.toBitVec
  split at h1 <;> omega
theorem qaVo {x : Int32} (h : x.toBitVec.toNat < 2147483648) : x.toInt = (x.toBitVec.toNat : Int) := by
  show x.toBitVec.toInt = _
  rw [BitVec.toInt_eq_toNat_of_lt (by omega)]
theorem qaOz {a b : Int32} : (a ||| b).toBitVec.toNat = a.toBitVec.toNat ||| b.toBitVec.toNat := by
  show (a.toBitVec ||| b.toBitVec).toNat = _
  rw [BitVec.toNat_or]
theorem qbd3 {a b : Int32} : (a &&& b).toBitVec.toNat = a.toBitVec.toNat &&& b.toBitVec.toNat := by
  show (a.toBitVec &&& b.toBitVec).toNat = _
  rw [BitVec.toNat_and]
theorem qa6P {a b : Int32} (k : Nat) (hk : 2 ^ k ≤ 1073741824) (a0 : 0 ≤ a.toInt) (a1 : a.toInt < (2 ^ k : Nat)) (b0 : 0 ≤ b.toInt) (b1 : b.toInt < (2 ^ k : Nat)) : 0 ≤ (a ||| b).toInt ∧ (a ||| b).toInt < (2 ^ k : Nat) := by
  have ha := qaPK a0
  have hb := qaPK b0
  have h : (a ||| b).toBitVec.toNat < 2 ^ k := by
    rw [qaOz]; exact Nat.or_lt_two_pow (by omega) (by omega)
  have e := qaVo (x := a ||| b) (by omega)
  omega
theorem qbk2 {a b : Int32} (a0 : 0 ≤ a.toInt) (a1 : a.toInt < 64) (b0 : 0 ≤ b.toInt) (b1 : b.toInt < 64) : 0 ≤ (a ||| b).toInt ∧ (a ||| b).toInt < 64 := qa6P 6 (by decide) a0 a1 b0 b1
theorem qa61 {a b : Int32} (a0 : 0 ≤ a.toInt) (a1 : a.toInt < 256) (b0 : 0 ≤ b.toInt) (b1 : b.toInt < 256) : 0 ≤ (a ||| b).toInt ∧ (a ||| b).toInt < 256 := qa6P 8 (by decide) a0 a1 b0 b1
theorem qMY {a b : Int32} (a0 : 0 ≤ a.toInt) (b0 : 0 ≤ b.toInt) (b1 : b.toInt < 256) : 0 ≤ (a ||| b).toInt ∧ (a ||| b).toInt / 256 = a.toInt / 256 := by
  have ha := qaPK a0
  have hb := qaPK b0
  have ra := qaoP a
  have h31 : (a ||| b).toBitVec.toNat < 2 ^ 31 := by
    rw [qaOz]; exact Nat.or_lt_two_pow (by omega) (by omega)
  have e := qaVo (x := a ||| b) (by omega)
  have hs : (a ||| b).toBitVec.toNat / 256 = a.toBitVec.toNat / 256 := by
    have q := Nat.shiftRight_or_distrib (a := a.toBitVec.toNat) (b := b.toBitVec.toNat) (i := 8)
    rw [Nat.shiftRight_eq_div_pow, Nat.shiftRight_eq_div_pow, Nat.shiftRight_eq_div_pow] at q
    have hz : b.toBitVec.toNat / 2 ^ 8 = 0 := Nat.div_eq_of_lt (by omega)
    rw [hz, Nat.or_zero] at q
    rw [qaOz]; exact q
  omega
theorem qaN3 {a b : Int32} (a0 : 0 ≤ a.toInt) : 0 ≤ (a &&& b).toInt ∧ (a &&& b).toInt ≤ a.toInt := by
  have ha := qaPK a0
  have ra := qaoP a
  have h : (a &&& b).toBitVec.toNat ≤ a.toBitVec.toNat := by rw [qbd3]; exact Nat.and_le_left
  have e := qaVo (x := a &&& b) (by omega)
  omega
theorem qaeh {x : Int32} (x0 : 0 ≤ x.toInt) (x1 : x.toInt ≤ 8) : x = 0 ∨ x = 1 ∨ x = 2 ∨ x = 3 ∨ x = 4 ∨ x = 5 ∨ x = 6 ∨ x = 7 ∨ x = 8 := by
  simp only [qan, t_0, t_1, t_2, t_3, t_4, t_6, t_8, show (5 : Int32).toInt = 5 by decide, show (7 : Int32).toInt = 7 by decide]
  omega
theorem qN0 {x : Int32} (x0 : 0 ≤ x.toInt) (x1 : x.toInt ≤ 8) : 1 ≤ (1 <<< (x &&& 31) : Int32).toInt ∧ (1 <<< (x &&& 31) : Int32).toInt ≤ 256 ∧ (x.toInt = 8 ∨ (1 <<< (x &&& 31) : Int32).toInt < 256) ∧ (5 < x.toInt ∨ (1 <<< (x &&& 31) : Int32).toInt < 64) ∧ (6 < x.toInt ∨ (1 <<< (x &&& 31) : Int32).toInt ≤ 64) := by
  rcases qaeh x0 x1 with rfl | rfl | rfl | rfl | rfl | rfl | rfl | rfl | rfl <;> decide
theorem qVZ {x : Int32} (x0 : 0 ≤ x.toInt) (x1 : x.toInt ≤ 7) : (x <<< (8 &&& 31) : Int32).toInt = x.toInt * 256 := by
  rcases qaeh x0 (by omega) with rfl | rfl | rfl | rfl | rfl | rfl | rfl | rfl | rfl <;> first | decide | (exfalso; revert x1; decide)
/-- the ones among the first k bits -/
def pcK (x : Int32) : Nat → Int
  | 0 => 0
  | k + 1 => pcK x k + ((x >>> (Int32.ofNat k &&& 31)) &&& 1).toInt
theorem qP9 {x : Int32} (x0 : 0 ≤ x.toInt) : Int32.ofNat x.toNatClampNeg = x := by
  have h := qkX x0
  have r := qaoP x
  rw [qan, Int32.toInt_ofNat_of_lt (by omega)]
  omega
theorem qbbr {x i y : Int32} (i0 : 0 ≤ i.toInt) (e : y.toInt = i.toInt + 1) : pcK x y.toNatClampNeg = pcK x i.toNatClampNeg + ((x >>> (i &&& 31)) &&& 1).toInt := by
  have h1 := qkX i0
  have h2 := qkX (x := y) (by omega)
  have h3 : y.toNatClampNeg = i.toNatClampNeg + 1 := by omega
  rw [h3]
  show pcK x i.toNatClampNeg + ((x >>> (Int32.ofNat i.toNatClampNeg &&& 31)) &&& 1).toInt = _
  rw [qP9 i0]
theorem qw3 {x : Int32} : (0 : Int32).toInt = pcK x (0 : Int32).toNatClampNeg := rfl
set_option maxRecDepth 100000 in
theorem qbiW : ∀ x : Fin 64, ∀ i : Fin 6, (0 ≤ ((Int32.ofNat x.val) &&& ((1 <<< (Int32.ofNat i.val &&& 31)) ^^^ (-1)) : Int32).toInt ∧ ((Int32.ofNat x.val) &&& ((1 <<< (Int32.ofNat i.val &&& 31)) ^^^ (-1)) : Int32).toInt < 64 ∧ pcK ((Int32.ofNat x.val) &&& ((1 <<< (Int32.ofNat i.val &&& 31)) ^^^ (-1))) 8 ≤ 5) ∧ (((Int32.ofNat x.val >>> (Int32.ofNat i.val &&& 31)) &&& 1 : Int32).toInt = 0 ∨ pcK ((Int32.ofNat x.val) &&& ((1 <<< (Int32.ofNat i.val &&& 31)) ^^^ (-1))) 8 + 1 = pcK (Int32.ofNat x.val) 8) := by decide
set_option maxRecDepth 100000 in
theorem qbgf : ∀ x : Fin 64, x.val = 0 ∨ 1 ≤ pcK (Int32.ofNat x.val) 8 := by decide
theorem qamV {x i : Int32} (x0 : 0 ≤ x.toInt) (x1 : x.toInt < 64) (i0 : 0 ≤ i.toInt) (i1 : i.toInt < 6) : (0 ≤ (x &&& ((1 <<< (i &&& 31)) ^^^ (-1)) : Int32).toInt ∧ (x &&& ((1 <<< (i &&& 31)) ^^^ (-1)) : Int32).toInt < 64 ∧ pcK (x &&& ((1 <<< (i &&& 31)) ^^^ (-1))) 8 ≤ 5) ∧ (((x >>> (i &&& 31)) &&& 1 : Int32).toInt = 0 ∨ pcK (x &&& ((1 <<< (i &&& 31)) ^^^ (-1))) 8 + 1 = pcK x 8) := by
  have h1 := qkX x0
  have h2 := qkX i0
  have h := qbiW ⟨x.toNatClampNeg, by omega⟩ ⟨i.toNatClampNeg, by omega⟩
  rw [qP9 x0, qP9 i0] at h
  exact h
theorem qa6D {x : Int32} (x0 : 0 ≤ x.toInt) (x1 : x.toInt < 64) (h : pcK x 8 ≤ 0) : x.toInt = 0 := by
  have h1 := qkX x0
  have g := qbgf ⟨x.toNatClampNeg, by omega⟩
  rw [qP9 x0] at g
  rcases g with g | g
  · have : x.toNatClampNeg = 0 := g
    omega
  · omega
theorem qB1 {x i r : Int32} (h : r.toInt = pcK x i.toNatClampNeg) (h0 : i.toInt ≤ 8) (h1 : 8 ≤ i.toInt) : r.toInt = pcK x 8 := by
  rw [h, qas (k := 8) (by omega)]
end
