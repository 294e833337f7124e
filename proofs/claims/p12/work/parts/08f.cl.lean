section Wk
variable {len : Int32} {by_ : Nat → Int32} {h n : Int32}
theorem sf_X9_readStep_s {a tk fa fp : Int32} {kd fi s th : Nat → Int32} {ln : Int32} {hd : Nat → Int32} {op : Int32} {Q : Int32 → Int32 → Int32 → Int32 → (Nat → Int32) → (Nat → Int32) → (Nat → Int32) → (Nat → Int32) → Int32 → (Nat → Int32) → Int32 → Prop} (hw : wC fa kd fi s ln h n) (hc : hC hd kd op ln) (a2 : len.toInt ≤ 600) (a3 : 0 ≤ a.toInt) (a4 : a.toInt ≤ 600) (h0 : 0 ≤ h.toInt) (h6 : h.toInt ≤ 6) (n0 : 0 ≤ n.toInt) (n8 : n.toInt ≤ 8)
    (hq : ∀ (a t f fp : Int32) (kd fi s th : Nat → Int32) (ln : Int32) (hd : Nat → Int32) (op : Int32), 0 ≤ a.toInt → a.toInt ≤ 600 → wC f kd fi s ln h n → hC hd kd op ln → Q a t f fp kd fi s th ln hd op) : wq_X9_readStep_s h n len by_ a tk fa fp kd fi s th ln hd op Q := by
  have e1 : (h - 1).toInt = h.toInt - 1 := t_pred (by omega)
  have e2 : (n - 1).toInt = n.toInt - 1 := t_pred (by omega)
  have e99 : (99 : Int32).toInt = 99 := by decide
  have fin : ∀ (a t f fp : Int32) (kd fi s th : Nat → Int32) (ln : Int32), 0 ≤ a.toInt → a.toInt ≤ 600 → wC f kd fi s ln h n → hC hd kd op ln → wb_X9_readStep_s_173 h n len by_ Q a t f fp kd fi s th ln hd op := fun a t f fp kd fi s th ln b0 b1 b2 b3 =>
    sg_X8_needs a2 b0 b1 (fun a t f2 fp2 k0 k1 k2 => hq _ _ _ _ _ _ _ _ _ _ _ k0 k1 (wC_bad b2 (by omega)) b3)
  refine sg_word (by decide) (by decide) (by decide) a2 a3 a4 (fun r4 x2 x3 b0 b1 _ => ⟨fun _ => ?_, fun _ => sf_X9_openLoop hw hc a2 b0 b1 (fun a f fp t hd op kd fi s th ln k0 k1 k2 k3 => hq _ _ _ _ _ _ _ _ _ _ _ k0 k1 k2 k3)⟩)
  refine sg_word (by decide) (by decide) (by decide) a2 b0 b1 (fun r9 x7 x8 c0 c1 _ => ⟨fun _ => ?_, fun _ => ?_⟩)
  · refine sg_word (by decide) (by decide) (by decide) a2 c0 c1 (fun r14 x12 x13 d0 d1 _ => ⟨fun _ => ?_, fun _ => ?_⟩)
    · refine sg_word (by decide) (by decide) (by decide) a2 d0 d1 (fun r19 x17 x18 f0 f1 _ => ⟨fun _ => ?_, fun _ => ?_⟩)
      · refine sg_word (by decide) (by decide) (by decide) a2 f0 f1 (fun r24 x22 x23 g0 g1 _ => ⟨fun _ => ?_, fun _ => ?_⟩)
        · exact sg_X8_blameSign a2 g0 g1 (fun a f fp k0 k1 k2 => fin _ _ _ _ _ _ _ _ _ k0 k1 (wC_bad hw (Or.inl k2)) hc)
        · exact sf_X9_add (hd := hd) (op := op) hw hc (Or.inr ⟨⟨by decide, by decide, by decide, by decide⟩, Or.inl (by decide), Or.inl (by decide)⟩) (fun kd fi s th ln k1 k2 _ => fin _ _ _ _ _ _ _ _ _ g0 g1 k1 k2)
      · refine sg_X8_number a2 f0 f1 (fun r38 x34 x35 x36 x37 g0 g1 g2 => sg_X8_number a2 g0 g1 (fun r43 x39 x40 x41 x42 i0 i1 i2 => sg_X8_number a2 i0 i1 (fun r48 x44 x45 x46 x47 j0 j1 j2 => ?_)))
        refine sf_X9_add (b := x45) (hd := hd) (op := op) (wC_bad hw (by omega)) hc ?_ (fun kd fi s th ln k1 k2 _ => fin _ _ _ _ _ _ _ _ _ j0 j1 k1 k2)
        rw [t_0, e1] at g2 i2
        by_cases z : x45.toInt = 0
        · exact Or.inr ⟨⟨by omega, by omega, by omega, by omega⟩, Or.inl (by decide), Or.inr ⟨by omega, by omega⟩⟩
        · exact Or.inl z
    · refine sg_X8_number a2 d0 d1 (fun r58 x54 x55 x56 x57 g0 g1 g2 => sg_X8_number a2 g0 g1 (fun r63 x59 x60 x61 x62 i0 i1 i2 => ?_))
      refine sf_X9_add (b := x60) (hd := hd) (op := op) (wC_bad hw (by omega)) hc ?_ (fun kd fi s th ln k1 k2 _ => fin _ _ _ _ _ _ _ _ _ i0 i1 k1 k2)
      rw [t_0, e1] at g2 i2
      by_cases z : x60.toInt = 0
      · exact Or.inr ⟨⟨by omega, by omega, by omega, by omega⟩, Or.inl (by decide), Or.inr ⟨by omega, by omega⟩⟩
      · exact Or.inl z
  · refine sg_X8_number a2 c0 c1 (fun r73 x69 x70 x71 x72 g0 g1 g2 => sg_X8_number a2 g0 g1 (fun r78 x74 x75 x76 x77 i0 i1 i2 => ?_))
    refine sf_X9_add (b := x75) (hd := hd) (op := op) (wC_bad hw (by omega)) hc ?_ (fun kd fi s th ln k1 k2 _ => fin _ _ _ _ _ _ _ _ _ i0 i1 k1 k2)
    rw [t_0, e1] at g2
    rw [t_0, e2] at i2
    by_cases z : x75.toInt = 0
    · exact Or.inr ⟨⟨by omega, by omega, by omega, by omega⟩, Or.inr ⟨by omega, by omega⟩, Or.inl (by decide)⟩
    · exact Or.inl z
theorem sl_X9_readFrom {Q : Int32 → Int32 → Int32 → Int32 → Int32 → Int32 → (Nat → Int32) → (Nat → Int32) → (Nat → Int32) → (Nat → Int32) → Int32 → Int32 → (Nat → Int32) → Prop} (a2 : len.toInt ≤ 600) (h0 : 0 ≤ h.toInt) (h6 : h.toInt ≤ 6) (n0 : 0 ≤ n.toInt) (n8 : n.toInt ≤ 8)
    (hq : ∀ (ln op a t : Int32) (s kd fi th : Nat → Int32) (f fp : Int32) (hd : Nat → Int32), 0 ≤ a.toInt → a.toInt ≤ 600 → wC f kd fi s ln h n → hC hd kd op ln → Q h n ln op a t s kd fi th f fp hd) :
    ∀ (k : Nat) (ln op a t : Int32) (s kd fi th : Nat → Int32) (f fp : Int32) (hd : Nat → Int32) (i : Int32), 0 ≤ a.toInt → a.toInt ≤ 600 → wC f kd fi s ln h n → hC hd kd op ln → 0 ≤ i.toInt → i.toInt ≤ 151 → 151 - i.toInt < k → wl_X9_readFrom_s_23 len by_ Q k h n ln op a t s kd fi th f fp hd i := by
  intro k
  induction k with
  | zero => intro ln op a t s kd fi th f fp hd i b0 b1 hw hc i0 i1 i2; omega
  | succ k ih =>
    intro ln op a t s kd fi th f fp hd i b0 b1 hw hc i0 i1 i2
    have ho := hc.1
    have t150 : (150 : Int32).toInt = 150 := by decide
    refine ⟨fun _ => hq _ _ _ _ _ _ _ _ _ _ _ b0 b1 hw hc, fun c => ?_⟩
    rw [t_lt, t150] at c
    have go : ∀ (ln op a t : Int32) (s kd fi th : Nat → Int32) (f fp : Int32) (hd : Nat → Int32), 0 ≤ a.toInt → a.toInt ≤ 600 → wC f kd fi s ln h n → hC hd kd op ln → wb_X9_readFrom_s_87 len by_ Q (fun v0_hares v0_forms v0_length v0_open v1_at v1_token f0_second f0_kinds f0_first f0_third v1_fault v1_faultPlace f0_heads l4 => wl_X9_readFrom_s_23 len by_ Q k v0_hares v0_forms v0_length v0_open v1_at v1_token f0_second f0_kinds f0_first f0_third v1_fault v1_faultPlace f0_heads l4) h n ln op a t s kd fi th f fp hd i := fun ln op a t s kd fi th f fp hd b0 b1 hw hc x34 e34 => by
      have q : x34.toInt = i.toInt + 1 := by rw [e34]; exact t_inc (by omega)
      exact ih ln op a t s kd fi th f fp hd x34 b0 b1 hw hc (by omega) (by omega) (by omega)
    have go82 : ∀ a t : Int32, 0 ≤ a.toInt → a.toInt ≤ 600 → wb_X9_readFrom_s_82 len by_ Q (fun v0_hares v0_forms v0_length v0_open v1_at v1_token f0_second f0_kinds f0_first f0_third v1_fault v1_faultPlace f0_heads l4 => wl_X9_readFrom_s_23 len by_ Q k v0_hares v0_forms v0_length v0_open v1_at v1_token f0_second f0_kinds f0_first f0_third v1_fault v1_faultPlace f0_heads l4) h n ln op a t s kd fi th f fp hd i := fun a t b0 b1 =>
      sf_X9_readStep_s hw hc a2 b0 b1 h0 h6 n0 n8 (fun a t f fp kd fi s th ln hd op k0 k1 k2 k3 => go _ _ _ _ _ _ _ _ _ _ _ k0 k1 k2 k3)
    have go53 : ∀ a : Int32, 0 ≤ a.toInt → a.toInt ≤ 600 → wb_X9_readFrom_s_53 len by_ Q (fun v0_hares v0_forms v0_length v0_open v1_at v1_token f0_second f0_kinds f0_first f0_third v1_fault v1_faultPlace f0_heads l4 => wl_X9_readFrom_s_23 len by_ Q k v0_hares v0_forms v0_length v0_open v1_at v1_token f0_second f0_kinds f0_first f0_third v1_fault v1_faultPlace f0_heads l4) h n ln op a t s kd fi th f fp hd i := fun a b0 b1 => by
      refine ⟨fun _ => go82 a t b0 b1, fun c2 => sg_X8_takes a2 b0 b1 (fun r x y g0 g1 _ => ⟨fun _ => go82 x y g0 g1, fun _ => ?_⟩)⟩
      rw [t_le, t_0] at c2
      exact sf_X9_closeLoop hw hc (by omega) (fun op s kd fi th ln k2 k3 => sg_X8_needs a2 g0 g1 (fun a t f2 fp2 m0 m1 m2 => go _ _ _ _ _ _ _ _ _ _ _ m0 m1 (wC_bad k2 (by omega)) k3))
    exact sg_X8_isFaulty (fun r _ => ⟨fun _ => hq _ _ _ _ _ _ _ _ _ _ _ b0 b1 hw hc, fun _ => ⟨fun _ => go53 a b0 b1, fun _ => sg_X8_isEnded a2 b0 b1 (fun r x g0 g1 => ⟨fun _ => go53 x g0 g1, fun _ => hq _ _ _ _ _ _ _ _ _ _ _ g0 g1 hw hc⟩)⟩⟩)
theorem sf_X9_readFrom {h1 n1 ln op a t : Int32} {s kd fi th : Nat → Int32} {f fp : Int32} {hd : Nat → Int32} {Q : Int32 → Int32 → Int32 → Int32 → Int32 → Int32 → (Nat → Int32) → (Nat → Int32) → (Nat → Int32) → (Nat → Int32) → Int32 → Int32 → (Nat → Int32) → Prop} (a2 : len.toInt ≤ 600) (b0 : 0 ≤ a.toInt) (b1 : a.toInt ≤ 600) (h0 : 0 ≤ h.toInt) (h6 : h.toInt ≤ 6) (n0 : 0 ≤ n.toInt) (n8 : n.toInt ≤ 8)
    (hq : ∀ (ln op a t : Int32) (s kd fi th : Nat → Int32) (f fp : Int32) (hd : Nat → Int32), 0 ≤ a.toInt → a.toInt ≤ 600 → wC f kd fi s ln h n → hC hd kd op ln → Q h n ln op a t s kd fi th f fp hd) : wq_X9_readFrom_s len by_ h1 n1 ln op a t s kd fi th f fp hd h n Q :=
  ⟨152, sl_X9_readFrom a2 h0 h6 n0 n8 hq 152 0 0 a t s kd fi th f fp hd 0 b0 b1 (wC_zero (by decide)) (hC_zero (by decide)) (by decide) (by decide) (by decide)⟩
theorem sf_X9_behindEnd {fi rounds : Nat → Int32} {op p : Int32} {Q : Int32 → (Nat → Int32) → Int32 → Prop} (o0 : 0 ≤ op.toInt) (o6 : op.toInt ≤ 6) (p0 : 0 ≤ p.toInt) (p1 : p.toInt < 50) (hf : 0 ≤ (fi p.toNatClampNeg).toInt ∧ (fi p.toNatClampNeg).toInt ≤ 99) (hq : ∀ (r : Int32) (rounds : Nat → Int32) (op : Int32), 0 ≤ r.toInt → r.toInt ≤ 100 → 0 ≤ op.toInt → op.toInt ≤ 6 → Q r rounds op) : wq_X9_behindEnd fi rounds op p Q := by
  have ep : (p + 1).toInt = p.toInt + 1 := t_inc (by omega)
  refine ⟨fun c x2 e2 => ?_, fun _ => hq _ _ _ (by omega) (by omega) o0 o6⟩
  rw [t_eq, t_0] at c
  have q2 : x2.toInt = op.toInt - 1 := by rw [e2]; exact t_pred (by omega)
  refine ⟨t_in (by omega) (by omega), fun x3 e3 x4 e4 => ⟨t_in (by omega) (by omega), fun f5 e5 x6 e6 => ?_⟩⟩
  have q6 : x6.toInt = op.toInt - 1 := by rw [e6]; exact t_pred (by omega)
  refine ⟨t_in (by omega) (by omega), fun x7 e7 => ⟨fun _ x9 e9 => ?_, fun _ => ⟨t_in p0 p1, fun x10 e10 => ?_⟩⟩⟩
  · have q9 : x9.toInt = op.toInt - 1 := by rw [e9]; exact t_pred (by omega)
    exact hq _ _ _ (by omega) (by omega) (by omega) (by omega)
  · rw [← e10] at hf
    have q10 : (x10 + 1).toInt = x10.toInt + 1 := t_inc (by omega)
    exact hq _ _ _ (by omega) (by omega) o0 o6
theorem sf_X9_behindAgain {fi s rounds : Nat → Int32} {op p : Int32} {Q : Int32 → (Nat → Int32) → Int32 → Prop} (o0 : 0 ≤ op.toInt) (o6 : op.toInt ≤ 6) (p0 : 0 ≤ p.toInt) (p1 : p.toInt < 50) (hf : 0 ≤ (s p.toNatClampNeg).toInt ∧ (s p.toNatClampNeg).toInt ≤ 99) (hq : ∀ (r : Int32) (rounds : Nat → Int32) (op : Int32), 0 ≤ r.toInt → r.toInt ≤ 100 → 0 ≤ op.toInt → op.toInt ≤ 6 → Q r rounds op) : wq_X9_behindAgain fi s rounds op p Q := by
  have ep : (p + 1).toInt = p.toInt + 1 := t_inc (by omega)
  have go : wb_X9_behindAgain_18 fi s Q rounds op p := ⟨t_in p0 p1, fun x7 e7 => by
    rw [← e7] at hf
    have q7 : (x7 + 1).toInt = x7.toInt + 1 := t_inc (by omega)
    exact hq _ _ _ (by omega) (by omega) o0 o6⟩
  refine ⟨t_in p0 p1, fun x1 _ => ⟨fun _ => go, fun _ => ⟨fun c => ⟨t_in p0 p1, fun x4 _ => ⟨t_in o0 ?_, fun f5 _ x6 e6 => ?_⟩⟩, fun _ => go⟩⟩⟩
  · rw [t_lt, t_6] at c; omega
  · rw [t_lt, t_6] at c
    have q6 : x6.toInt = op.toInt + 1 := by rw [e6]; exact t_inc (by omega)
    exact hq _ _ _ (by omega) (by omega) (by omega) (by omega)
section Rn
variable {ln lw sf : Int32} {kd fi s th X Y lk lv sr : Nat → Int32}
theorem sf_X9_isAllowed {row fc pl : Nat → Int32} {p : Int32} {Q : Int32 → (Nat → Int32) → (Nat → Int32) → Prop} (hw : wC 0 kd fi s ln h n) (h6 : h.toInt ≤ 6) (n8 : n.toInt ≤ 8) (hl : sLaw lw lk lv) (hs : sSits h n row) (p0 : 0 ≤ p.toInt) (p1 : p.toInt < ln.toInt) (hq : ∀ (r : Int32) (fc pl : Nat → Int32), Q r fc pl) : wq_X9_isAllowed kd row fi s h X Y lw lk lv th fc pl p Q := by
  have hn := t_nat p0
  have hl0 := hw.1
  have g := hw.2 t_0 p.toNatClampNeg (by omega)
  have nb : ∀ r : Int32, r = 0 ∨ r = 1 → narrow .boolean (.int r) = .int r := fun r hr => by rcases hr with rfl | rfl <;> rfl
  refine ⟨t_in p0 (by omega), fun x1 e1 => ⟨fun _ x _ => ⟨fun _ => hq _ _ _, fun _ => hq _ _ _⟩, fun z => ⟨t_in p0 (by omega), fun x5 e5 => ⟨t_in p0 (by omega), fun x6 e6 => ?_⟩⟩, fun z => ⟨t_in p0 (by omega), fun x10 e10 => ⟨t_in p0 (by omega), fun x11 e11 => ?_⟩⟩, fun z => ⟨t_in p0 (by omega), fun x13 e13 => ⟨t_in p0 (by omega), fun x14 e14 => ⟨t_in p0 (by omega), fun x15 e15 => ?_⟩⟩⟩⟩⟩
  · rw [t_eq, t_0, e1] at z
    rw [← e5, ← e6] at g
    exact sf_X1_couldLeap h6 n8 hs (by omega) (by omega) (by omega) (by omega) hl (fun r fc pl hr => ⟨nb r hr, hq _ _ _⟩)
  · rw [t_eq, t_1, e1] at z
    rw [← e10, ← e11] at g
    exact sf_X1_couldFight (by omega) (by omega) (by omega) (by omega) ⟨rfl, hq _ _ _⟩ ⟨rfl, hq _ _ _⟩
  · rw [t_eq, t_2, e1] at z
    rw [← e13, ← e14] at g
    exact sf_X1_couldPay (by omega) (by omega) (by omega) (by omega) ⟨rfl, hq _ _ _⟩ ⟨rfl, hq _ _ _⟩
theorem sf_X9_doStep {row : Nat → Int32} {p : Int32} {Q : (Nat → Int32) → Prop} (hw : wC 0 kd fi s ln h n) (h6 : h.toInt ≤ 6) (n8 : n.toInt ≤ 8) (hs : sSits h n row) (p0 : 0 ≤ p.toInt) (p1 : p.toInt < ln.toInt) (hq : ∀ row : Nat → Int32, sSits h n row → Q row) : wq_X9_doStep kd h sf sr fi s th row p Q := by
  have hn := t_nat p0
  have hl0 := hw.1
  have g := hw.2 t_0 p.toNatClampNeg (by omega)
  refine ⟨t_in p0 (by omega), fun x1 e1 => ⟨fun _ => sf_X1_passDay h6 hs (fun _ h2 => hq _ h2), fun z => ⟨t_in p0 (by omega), fun x5 e5 => ⟨t_in p0 (by omega), fun x6 e6 => ?_⟩⟩, fun z => ⟨t_in p0 (by omega), fun x10 e10 => ⟨t_in p0 (by omega), fun x11 e11 => ?_⟩⟩, fun z => ⟨t_in p0 (by omega), fun x13 e13 => ⟨t_in p0 (by omega), fun x14 e14 => ⟨t_in p0 (by omega), fun x15 e15 => ?_⟩⟩⟩⟩⟩
  · rw [t_eq, t_0, e1] at z
    rw [← e5, ← e6] at g
    exact sf_X1_leapTo h6 hs (by omega) (by omega) (by omega) (by omega) (fun _ h2 => hq _ h2)
  · rw [t_eq, t_1, e1] at z
    rw [← e10, ← e11] at g
    exact sf_X1_fight h6 hs (by omega) (by omega) (by omega) (by omega) (fun _ h2 => hq _ h2)
  · rw [t_eq, t_2, e1] at z
    rw [← e13, ← e14] at g
    exact sf_X1_payBack h6 hs (by omega) (by omega) (by omega) (by omega) (fun _ h2 => hq _ h2)
theorem sl_X9_runOn {Q : Int32 → Int32 → Int32 → (Nat → Int32) → (Nat → Int32) → (Nat → Int32) → (Nat → Int32) → Prop} (hw : wC 0 kd fi s ln h n) (h6 : h.toInt ≤ 6) (n8 : n.toInt ≤ 8) (hl : sLaw lw lk lv) (hq : ∀ (d rf op : Int32) (fc pl row ro : Nat → Int32), sSits h n row → Q d rf op fc pl row ro) :
    ∀ (k : Nat) (d rf op : Int32) (fc pl row ro : Nat → Int32) (l2 l3 l4 : Int32), sSits h n row → 0 ≤ op.toInt → op.toInt ≤ 6 → 0 ≤ l3.toInt → l3.toInt ≤ 100 → 0 ≤ l4.toInt → l4.toInt ≤ 20000 → 20000 - l4.toInt < k → wl_X9_runOn_22 ln kd fi s h sf X Y lw lk lv th sr Q k d rf op fc pl row ro l2 l3 l4 := by
  have hl0 := hw.1
  have t20 : (20000 : Int32).toInt = 20000 := by decide
  intro k
  induction k with
  | zero => intro d rf op fc pl row ro l2 l3 l4 hs o0 o6 i0 i1 j0 j1 j2; omega
  | succ k ih =>
    intro d rf op fc pl row ro l2 l3 l4 hs o0 o6 i0 i1 j0 j1 j2
    refine ⟨fun _ => hq _ _ _ _ _ _ _ hs, fun c => ⟨fun _ => hq _ _ _ _ _ _ _ hs, fun _ => ⟨fun _ => hq _ _ _ _ _ _ _ hs, fun c3 => ?_⟩⟩⟩
    rw [t_le, t20] at c
    rw [t_le] at c3
    have hn := t_nat i0
    have g := hw.2 t_0 l3.toNatClampNeg (by omega)
    have go : ∀ (d rf op : Int32) (fc pl row ro : Nat → Int32) (l2 l3 x23 : Int32), sSits h n row → 0 ≤ op.toInt → op.toInt ≤ 6 → 0 ≤ l3.toInt → l3.toInt ≤ 100 → x23 = l4 + 1 → wl_X9_runOn_22 ln kd fi s h sf X Y lw lk lv th sr Q k d rf op fc pl row ro l2 l3 x23 := fun d rf op fc pl row ro l2 l3 x23 hs o0 o6 i0 i1 e23 => by
      have q : x23.toInt = l4.toInt + 1 := by rw [e23]; exact t_inc (by omega)
      exact ih d rf op fc pl row ro l2 l3 x23 hs o0 o6 i0 i1 (by omega) (by omega) (by omega)
    have nx : ∀ x22 : Int32, x22 = l3 + 1 → 0 ≤ x22.toInt ∧ x22.toInt ≤ 100 := fun x22 e22 => by
      have q : x22.toInt = l3.toInt + 1 := by rw [e22]; exact t_inc (by omega)
      omega
    refine ⟨t_in i0 (by omega), fun x4 e4 => ⟨fun _ x6 e6 => ⟨t_in i0 (by omega), fun x7 e7 => ⟨fun _ => ?_, fun _ => ?_⟩⟩, fun _ => ?_⟩⟩
    · exact sf_X9_isAllowed hw h6 n8 hl hs i0 (by omega) (fun r fc pl => ⟨fun _ x13 _ x22 e22 x23 e23 => go _ _ _ _ _ _ _ _ _ x23 hs o0 o6 (nx x22 e22).1 (nx x22 e22).2 e23, fun _ => sf_X9_doStep hw h6 n8 hs i0 (by omega) (fun row h2 x15 _ x22 e22 x23 e23 => go _ _ _ _ _ _ _ _ _ x23 h2 o0 o6 (nx x22 e22).1 (nx x22 e22).2 e23)⟩)
    · exact sf_X9_behindAgain o0 o6 i0 (by omega) ⟨by omega, by omega⟩ (fun r ro op r0 r1 o0 o6 x23 e23 => go _ _ _ _ _ _ _ _ _ x23 hs o0 o6 r0 r1 e23)
    · exact sf_X9_behindEnd o0 o6 i0 (by omega) ⟨by omega, by omega⟩ (fun r ro op r0 r1 o0 o6 x23 e23 => go _ _ _ _ _ _ _ _ _ x23 hs o0 o6 r0 r1 e23)
theorem sf_X9_runOn {d rf op : Int32} {fc pl row ro : Nat → Int32} {Q : Int32 → Int32 → Int32 → (Nat → Int32) → (Nat → Int32) → (Nat → Int32) → (Nat → Int32) → Prop} (hw : wC 0 kd fi s ln h n) (h6 : h.toInt ≤ 6) (n8 : n.toInt ≤ 8) (hl : sLaw lw lk lv) (hs : sSits h n row) (hq : ∀ (d rf op : Int32) (fc pl row ro : Nat → Int32), sSits h n row → Q d rf op fc pl row ro) : wq_X9_runOn ln kd fi s h sf X Y lw lk lv th sr d rf op fc pl row ro Q :=
  ⟨20001, sl_X9_runOn hw h6 n8 hl hq 20001 0 0 0 fc pl row ro 0 0 0 hs (by decide) (by decide) (by decide) (by decide) (by decide) (by decide) (by decide)⟩
end Rn
end Wk
