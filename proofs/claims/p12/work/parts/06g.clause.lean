section Cl
variable {len : Int32} {by_ : Nat → Int32}
theorem sSeat.more {h n n2 : Int32} {st : Nat → Int32} (hs : sSeat h n st) (hn : n.toInt ≤ n2.toInt) : sSeat h n2 st := fun j hj => ⟨(hs j hj).1, by have := (hs j hj).2; omega⟩
theorem sf_X2_readClause {a tk fa fp x h n p2 : Int32} {db FX FY st sr X Y : Nat → Int32} {Q : Int32 → Int32 → Int32 → Int32 → (Nat → Int32) → (Nat → Int32) → (Nat → Int32) → Int32 → (Nat → Int32) → (Nat → Int32) → Int32 → (Nat → Int32) → (Nat → Int32) → Int32 → Prop}
    (hl : len.toInt ≤ 600) (h0 : 0 ≤ a.toInt) (h1 : a.toInt ≤ 600) (x0 : 0 ≤ x.toInt) (x1 : x.toInt ≤ 4) (m0 : 0 ≤ h.toInt) (m1 : h.toInt ≤ 6) (n0 : 0 ≤ n.toInt) (n1 : n.toInt ≤ 8) (hs : fa = 0 → sSeat h n st)
    (hq : ∀ (a t f2 fp2 : Int32) (db FX FY : Nat → Int32) (x : Int32) (st sr : Nat → Int32) (h : Int32) (X Y : Nat → Int32) (n : Int32), 0 ≤ a.toInt → a.toInt ≤ 600 → 0 ≤ x.toInt → x.toInt ≤ 4 → 0 ≤ h.toInt → h.toInt ≤ 6 → 0 ≤ n.toInt → n.toInt ≤ 8 → (f2 = 0 → sSeat h n st) → Q a t f2 fp2 db FX FY x st sr h X Y n) :
    wq_X2_readClause_s len by_ a tk fa fp db FX FY x st sr h X Y n p2 Q := by
  refine sf_word (by decide) (by decide) (by decide) hl h0 h1 (fun y2 a0 a1 => ⟨fun _ => ?_, fun c => absurd rfl c⟩) (fun y2 t2 a0 a1 _ _ _ => ⟨fun c => absurd c (by decide), fun _ => sf_X2_readForm hl a0 a1 n0 n1 (fun b f2 fp2 t3 X2 Y2 n2 b0 b1 b2 b3 b4 => hq _ _ _ _ _ _ _ _ _ _ _ _ _ _ b0 b1 x0 x1 m0 m1 (by omega) b3 (fun z => (hs (b4 z)).more b2))⟩)
  refine sf_word (by decide) (by decide) (by decide) hl a0 a1 (fun y3 b0 b1 => ⟨fun _ => ?_, fun c => absurd rfl c⟩) (fun y3 t3 b0 b1 _ _ _ => ⟨fun c => absurd c (by decide), fun _ => sf_X2_readHare hl b0 b1 n0 m0 m1 hs (fun b f2 fp2 t3 st2 sr2 h2 c0 c1 c2 c3 c4 => hq _ _ _ _ _ _ _ _ _ _ _ _ _ _ c0 c1 x0 x1 c2 c3 n0 n1 (fun z => (c4 z).2))⟩)
  refine sf_word (by decide) (by decide) (by decide) hl b0 b1 (fun y4 c0 c1 => ⟨fun _ => ?_, fun c => absurd rfl c⟩) (fun y4 t4 c0 c1 _ _ _ => ⟨fun c => absurd c (by decide), fun _ => sf_X2_readFox hl c0 c1 x0 x1 (fun b f2 fp2 t3 X2 Y2 x2 d0 d1 d2 d3 d4 => hq _ _ _ _ _ _ _ _ _ _ _ _ _ _ d0 d1 d2 d3 m0 m1 n0 n1 (fun z => hs (d4 z)))⟩)
  refine sf_word (by decide) (by decide) (by decide) hl c0 c1 (fun y5 d0 d1 => ⟨fun _ => ?_, fun c => absurd rfl c⟩) (fun y5 t5 d0 d1 _ _ _ => ⟨fun c => absurd c (by decide), fun _ => sf_X2_readDebt hl d0 d1 m0 m1 (fun b f2 fp2 t3 db2 e0 e1 e2 => hq _ _ _ _ _ _ _ _ _ _ _ _ _ _ e0 e1 x0 x1 m0 m1 n0 n1 (fun z => hs (e2 z)))⟩)
  exact sf_X8_blameSign hl d0 d1 (fun y6 f2 p3 e0 e1 e2 _ => hq _ _ _ _ _ _ _ _ _ _ _ _ _ _ e0 e1 x0 x1 m0 m1 n0 n1 (fun z => absurd z e2))
section Fr
variable {Q : Int32 → Int32 → Int32 → (Nat → Int32) → Int32 → Int32 → Int32 → Int32 → Int32 → (Nat → Int32) → (Nat → Int32) → (Nat → Int32) → (Nat → Int32) → (Nat → Int32) → (Nat → Int32) → Prop}
theorem sl_X2_readFrom41 (hl : len.toInt ≤ 600) (hq : ∀ (n h x : Int32) (db : Nat → Int32) (a sf t f2 fp2 : Int32) (FX FY st sr X Y : Nat → Int32), 0 ≤ a.toInt → a.toInt ≤ 600 → 0 ≤ x.toInt → x.toInt ≤ 4 → 0 ≤ h.toInt → h.toInt ≤ 6 → 0 ≤ n.toInt → n.toInt ≤ 8 → (f2 = 0 → sSeat h n st) → Q n h x db a sf t f2 fp2 FX FY st sr X Y) :
    ∀ (k : Nat) (n h x : Int32) (db : Nat → Int32) (a sf t f2 fp2 : Int32) (FX FY st sr X Y : Nat → Int32) (i : Int32), 0 ≤ a.toInt → a.toInt ≤ 600 → 0 ≤ x.toInt → x.toInt ≤ 4 → 0 ≤ h.toInt → h.toInt ≤ 6 → 0 ≤ n.toInt → n.toInt ≤ 8 → (f2 = 0 → sSeat h n st) → 0 ≤ i.toInt → i.toInt ≤ 61 → 61 - i.toInt < k → wl_X2_readFrom_s_41 len by_ Q k n h x db a sf t f2 fp2 FX FY st sr X Y i := by
  intro k
  induction k with
  | zero => intro n h x db a sf t f2 fp2 FX FY st sr X Y i h0 h1 x0 x1 m0 m1 n0 n1 hs i0 i1 i2; omega
  | succ k ih =>
    intro n h x db a sf t f2 fp2 FX FY st sr X Y i h0 h1 x0 x1 m0 m1 n0 n1 hs i0 i1 i2
    have hend : ∀ b : Int32, 0 ≤ b.toInt → b.toInt ≤ 600 → wb_X2_readFrom_s_83 len by_ Q n h x db b sf t f2 fp2 FX FY st sr X Y := fun b b0 b1 => sf_X2_findSafe n1 x1 (fun r => hq _ _ _ _ _ _ _ _ _ _ _ _ _ _ _ b0 b1 x0 x1 m0 m1 n0 n1 hs)
    refine ⟨fun _ => hend a h0 h1, fun c => sf_X8_isFaulty (fun _ => ⟨fun c2 => absurd rfl c2, fun _ => sf_X8_isEnded hl h0 h1 (fun r8 x7 g0 g1 _ => ⟨fun _ => hend x7 g0 g1, fun _ => ?_⟩)⟩) (fun _ => ⟨fun _ => hend a h0 h1, fun c2 => absurd c2 (by decide)⟩)⟩
    rw [t_lt, t_60] at c
    have go : ∀ s2 : Int32, wb_X2_readFrom_s_74 len by_ Q (fun n h x db a sf t f2 fp2 FX FY st sr X Y i => wl_X2_readFrom_s_41 len by_ Q k n h x db a sf t f2 fp2 FX FY st sr X Y i) n h x db x7 sf t f2 fp2 FX FY st sr X Y i s2 := fun s2 =>
      sf_X2_readClause hl g0 g1 x0 x1 m0 m1 n0 n1 hs (fun a t f2 fp2 db FX FY x st sr h X Y n z0 z1 z2 z3 z4 z5 z6 z7 z8 x26 e26 => by
        have e : x26.toInt = i.toInt + 1 := by rw [e26]; exact t_inc (by omega)
        exact ih _ _ _ _ _ _ _ _ _ _ _ _ _ _ _ x26 z0 z1 z2 z3 z4 z5 z6 z7 z8 (by omega) (by omega) (by omega))
    exact ⟨fun _ => go 0, fun _ => go 1⟩
theorem sl_X2_readFrom17 {n h x a sf t f2 fp2 : Int32} {FX FY st sr X Y : Nat → Int32} (hk : ∀ db, ∃ k : Nat, wl_X2_readFrom_s_41 len by_ Q k n h x db a sf t f2 fp2 FX FY st sr X Y 0) :
    ∀ (k : Nat) (db : Nat → Int32) (i : Int32), 0 ≤ i.toInt → i.toInt ≤ 36 → 36 - i.toInt < k → wl_X2_readFrom_s_17 len by_ Q k n h x db a sf t f2 fp2 FX FY st sr X Y i := by
  intro k
  induction k with
  | zero => intro db i i0 i1 i2; omega
  | succ k ih =>
    intro db i i0 i1 i2
    refine ⟨fun _ => hk db, fun c => ?_⟩
    rw [t_le, show (36 : Int32).toInt = 36 by decide] at c
    refine ⟨t_in i0 (by omega), fun f2' _ x3 e3 => ?_⟩
    have e : x3.toInt = i.toInt + 1 := by rw [e3]; exact t_inc (by omega)
    exact ih f2' x3 (by omega) (by omega) (by omega)
theorem sf_X2_readFrom {n h x a sf t f2 fp2 : Int32} {db FX FY st sr X Y : Nat → Int32} (hl : len.toInt ≤ 600) (h0 : 0 ≤ a.toInt) (h1 : a.toInt ≤ 600) (hq : ∀ (n h x : Int32) (db : Nat → Int32) (a sf t f2 fp2 : Int32) (FX FY st sr X Y : Nat → Int32), 0 ≤ a.toInt → a.toInt ≤ 600 → 0 ≤ x.toInt → x.toInt ≤ 4 → 0 ≤ h.toInt → h.toInt ≤ 6 → 0 ≤ n.toInt → n.toInt ≤ 8 → (f2 = 0 → sSeat h n st) → Q n h x db a sf t f2 fp2 FX FY st sr X Y) :
    wq_X2_readFrom_s len by_ n h x db a sf t f2 fp2 FX FY st sr X Y Q :=
  ⟨37, sl_X2_readFrom17 (fun db => ⟨62, sl_X2_readFrom41 hl hq 62 0 0 0 db a sf t f2 fp2 FX FY st sr X Y 0 h0 h1 (by decide) (by decide) (by decide) (by decide) (by decide) (by decide) (fun _ j hj => by rw [t_0] at hj; omega) (by decide) (by decide) (by decide)⟩) 37 db 0 (by decide) (by decide) (by decide)⟩
end Fr
end Cl
