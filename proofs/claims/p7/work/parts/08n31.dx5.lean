/-! boxing and paying, by both -/
abbrev bxS (s : Nat → Int32) (a b : Nat) : Prop := a ≠ b ∧ s a ≠ -1 ∧ s a = s b
def loS (s : Nat → Int32) (a b : Nat) : Nat := if s (6 + a) < s (6 + b) then a else b
def bxF (s : Nat → Int32) (a b lo : Nat) : Nat → Int32 := upd (upd (upd (upd (upd s (6 + lo) (s (6 + lo) - (if s (6 + lo) ≤ 0 then 0 else 1))) (12 + a) 0) (12 + b) 0) (24 + a) 1) (24 + b) 1
def bxC (r : Nat → Int32) (a b lo : Nat) : Nat → Int32 := stC (stC (upd r (10 + lo) (if 0 < r (10 + lo) - 1 then r (10 + lo) - 1 else 0)) a) b
abbrev pyS (s : Nat → Int32) (a b : Nat) (n : Int32) : Prop := s a ≠ -1 ∧ s b ≠ -1 ∧ n ≤ s (30 + (6 * a + b))
def pyF (s : Nat → Int32) (a b : Nat) (n : Int32) : Nat → Int32 := upd s (30 + (6 * a + b)) (s (30 + (6 * a + b)) - n)
def pyC (r : Nat → Int32) (a b : Nat) (n : Int32) : Nat → Int32 := upd r (28 + (6 * a + b)) (r (28 + (6 * a + b)) - n)
theorem bf_l {s : Nat → Int32} {a b lo : Nat} (ha : a < 6) (hb : b < 6) (hl : lo < 6) : bxF s a b lo (6 + lo) = s (6 + lo) - (if s (6 + lo) ≤ 0 then 0 else 1) := by
  unfold bxF; rw [pk_un (by omega), pk_un (by omega), pk_un (by omega), pk_un (by omega), pk_us]
theorem bf_s {s : Nat → Int32} {a b lo j : Nat} (ha : a < 6) (hb : b < 6) (h : j = 12 + a ∨ j = 12 + b) : bxF s a b lo j = 0 := by
  unfold bxF
  rw [pk_un (by omega), pk_un (by omega)]
  by_cases z : j = 12 + b
  · rw [z, pk_us]
  · rw [pk_un z, h.resolve_right z, pk_us]
theorem bf_u {s : Nat → Int32} {a b lo j : Nat} (h : j = 24 + a ∨ j = 24 + b) : bxF s a b lo j = 1 := by
  unfold bxF
  by_cases z : j = 24 + b
  · rw [z, pk_us]
  · rw [pk_un z, h.resolve_right z, pk_us]
theorem bf_o {s : Nat → Int32} {a b lo j : Nat} (h1 : j ≠ 6 + lo) (h2 : j ≠ 12 + a) (h3 : j ≠ 12 + b) (h4 : j ≠ 24 + a) (h5 : j ≠ 24 + b) : bxF s a b lo j = s j := by
  unfold bxF; rw [pk_un h5, pk_un h4, pk_un h3, pk_un h2, pk_un h1]
theorem bc_l {r : Nat → Int32} {a b lo : Nat} (ha : a < 6) (hb : b < 6) (hl : lo < 6) : bxC r a b lo (10 + lo) = if 0 < r (10 + lo) - 1 then r (10 + lo) - 1 else 0 := by
  unfold bxC; rw [st_o (by omega) (by omega), st_o (by omega) (by omega), pk_us]
theorem bc_s {r : Nat → Int32} {a b lo j : Nat} (ha : a < 6) (h : j = 16 + a ∨ j = 16 + b) : bxC r a b lo j = 0 := by
  unfold bxC
  by_cases z : j = 16 + b
  · rw [z, st_b]
  · rw [st_o (by omega) z, h.resolve_right z, st_b]
theorem bc_3 {r : Nat → Int32} {a b lo : Nat} : bxC r a b lo 3 = (r 3 ||| (1 <<< (Int32.ofNat a &&& 31))) ||| (1 <<< (Int32.ofNat b &&& 31)) := by
  unfold bxC; rw [st_3, st_3, pk_un (by omega)]
theorem bc_o {r : Nat → Int32} {a b lo j : Nat} (h1 : j ≠ 3) (h2 : j ≠ 10 + lo) (h3 : j ≠ 16 + a) (h4 : j ≠ 16 + b) : bxC r a b lo j = r j := by
  unfold bxC; rw [st_o h1 h4, st_o h1 h3, pk_un h2]
theorem dn_eq {x : Int32} (h0 : 0 ≤ x.toInt) (h9 : x.toInt ≤ 9) : (if 0 < x - 1 then x - 1 else 0) = x - (if x ≤ 0 then 0 else 1) ∧ 0 ≤ (x - (if x ≤ 0 then 0 else 1)).toInt ∧ (x - (if x ≤ 0 then 0 else 1)).toInt ≤ 9 := by
  have e : (x - 1).toInt = x.toInt - 1 := t_pred (by omega)
  by_cases c : x ≤ 0
  · rw [if_pos c, Int32.sub_zero]
    have c' := c
    rw [t_le, t_0] at c'
    rw [if_neg (by rw [t_lt, t_0, e]; omega)]
    exact ⟨t_eq.mpr (by rw [t_0]; omega), h0, h9⟩
  · rw [if_neg c]
    have c' := c
    rw [t_le, t_0] at c'
    refine ⟨?_, by rw [e]; omega, by rw [e]; omega⟩
    by_cases d : 0 < x - 1
    · rw [if_pos d]
    · rw [if_neg d]
      rw [t_lt, t_0, e] at d
      exact t_eq.mpr (by rw [t_0, e]; omega)
section DB
variable {NH NF : Nat} {row s : Nat → Int32} {nh p q n : Int32} {a b lo : Nat}
theorem c_couldFight {Q : Int32 → Prop} (hR : relM NH NF row s) (H6 : NH ≤ 6) (ea : p.toInt = (a : Int)) (ha : a < NH) (eb : q.toInt = (b : Int)) (hb : b < NH) (q1 : bxS s a b → Q 1) (q0 : ¬ bxS s a b → Q 0) : wq_X1_couldFight row p q Q := by
  refine ⟨fun z => q0 (fun d => d.1 (by rw [z, eb] at ea; omega)), fun z => c_caught hR.1 H6 ea ha (fun w => ⟨fun _ => q0 (fun d => d.2.1 w), fun z => absurd z (by decide)⟩) (fun w => ⟨fun z => absurd rfl z, fun _ => c_caught hR.1 H6 eb hb (fun w2 => ⟨fun _ => q0 (fun d => d.2.1 (by rw [d.2.2]; exact w2)), fun z => absurd z (by decide)⟩) (fun w2 => ⟨fun z => absurd rfl z, fun _ => c_sits ea (by omega) (c_sits eb (by omega) ?_)⟩)⟩)⟩
  rw [← m_sit hR ha w, ← m_sit hR hb w2]
  exact ⟨fun y => q0 (fun d => y d.2.2), fun y => q1 ⟨fun d => z (t_eq.mpr (by rw [ea, eb, d])), w, y⟩⟩
theorem c_fight {Q : (Nat → Int32) → Prop} (hR : relM NH NF row s) (H6 : NH ≤ 6) (ea : p.toInt = (a : Int)) (ha : a < NH) (eb : q.toInt = (b : Int)) (hb : b < NH) (hx : bxS s a b) (hq : Q (bxC row a b (loS s a b))) : wq_X1_fight row p q Q := by
  have sb : s b ≠ -1 := by rw [← hx.2.2]; exact hx.2.1
  obtain ⟨-, g2, -, -, -⟩ := (hR.2.1 a ha).resolve_left hx.2.1
  obtain ⟨-, k2, -, -, -⟩ := (hR.2.1 b hb).resolve_left sb
  have fin : ∀ (l : Int32) (lo : Nat), l.toInt = (lo : Int) → lo < 6 → lo = loS s a b → wb_X1_fight_18 Q row p q l := fun l lo el hl e x4 e4 => by
    have i4 := i10 e4 el (by omega)
    refine c_strong el hl (fun x6 e6 => ⟨t_in (by omega) (by omega), fun f7 e7 => c_stir ea (by omega) (c_stir eb (by omega) ?_)⟩)
    rw [t_clamp i4] at e7
    rw [e7, e6, e]; exact hq
  refine c_strong ea (by omega) (c_strong eb (by omega) ?_)
  rw [g2, k2]
  refine ⟨fun c => fin p a ea (by omega) ?_, fun c => fin q b eb (by omega) ?_⟩
  · unfold loS; rw [if_pos c]
  · unfold loS; rw [if_neg c]
theorem y_boxes {Q : Int32 → (Nat → Int32) → Prop} (H6 : NH ≤ 6) (ea : p.toInt = (a : Int)) (ha : a < NH) (eb : q.toInt = (b : Int)) (hb : b < NH) (q1 : bxS s a b → Q 1 (bxF s a b (loS s a b))) (q0 : ¬ bxS s a b → Q 0 s) : wq_X11_boxes s p q Q := by
  have fin : ∀ (l : Int32) (lo : Nat), l.toInt = (lo : Int) → lo < 6 → lo = loS s a b → bxS s a b → wb_X11_boxes_60 Q s p q l := fun l lo el hl e hx x14 e14 => by
    have i14 := i6 e14 el (by omega)
    refine ⟨t_in (by omega) (by omega), fun x15 e15 x16 e16 => ?_⟩
    have i16 := i6 e16 el (by omega)
    refine ⟨t_in (by omega) (by omega), fun x17 e17 => ?_⟩
    rw [t_clamp i14] at e15
    rw [t_clamp i16] at e17
    have last : ∀ d : Int32, d = (if s (6 + lo) ≤ 0 then 0 else 1) → wb_X11_boxes_88 Q s p q x14 x15 d := fun d ed x19 e19 => by
      refine ⟨t_in (by omega) (by omega), fun f20 e20 x21 e21 => ?_⟩
      have i21 := i12 e21 ea (by omega)
      refine ⟨t_in (by omega) (by omega), fun f22 e22 x23 e23 => ?_⟩
      have i23 := i12 e23 eb (by omega)
      refine ⟨t_in (by omega) (by omega), fun f24 e24 x25 e25 => ?_⟩
      have i25 := i24 e25 ea (by omega)
      refine ⟨t_in (by omega) (by omega), fun f26 e26 x27 e27 => ?_⟩
      have i27 := i24 e27 eb (by omega)
      refine ⟨t_in (by omega) (by omega), fun f28 e28 => ?_⟩
      rw [t_clamp i14] at e20
      rw [t_clamp i21] at e22
      rw [t_clamp i23] at e24
      rw [t_clamp i25] at e26
      rw [t_clamp i27] at e28
      have g := q1 hx
      rw [← e] at g
      unfold bxF at g
      rw [e28, e26, e24, e22, e20, e19, ed, e15]; exact g
    refine ⟨fun c => last 0 ?_, fun c => last 1 ?_⟩
    · rw [e17] at c; rw [if_pos c]
    · rw [e17] at c; rw [if_neg c]
  refine ⟨fun z => q0 (fun d => d.1 (by rw [z, eb] at ea; omega)), fun z => y_caught ea (by omega) (fun w => ⟨fun _ => q0 (fun d => d.2.1 w), fun z => absurd z (by decide)⟩) (fun w => ⟨fun z => absurd rfl z, fun _ x4 e4 => ?_⟩)⟩
  have k4 := i0 e4 ea (by omega)
  refine ⟨t_in (by omega) (by omega), fun x5 e5 x6 e6 => ?_⟩
  have k6 := i0 e6 eb (by omega)
  refine ⟨t_in (by omega) (by omega), fun x7 e7 => ?_⟩
  rw [t_clamp k4] at e5
  rw [t_clamp k6] at e7
  refine ⟨fun y x9 e9 => ?_, fun y => q0 (fun d => y (by rw [e5, e7]; exact d.2.2))⟩
  have hx : bxS s a b := ⟨fun d => z (t_eq.mpr (by rw [ea, eb, d])), w, by rw [← e5, ← e7]; exact y⟩
  have k9 := i6 e9 eb (by omega)
  refine ⟨t_in (by omega) (by omega), fun x10 e10 x11 e11 => ?_⟩
  have k11 := i6 e11 ea (by omega)
  refine ⟨t_in (by omega) (by omega), fun x12 e12 => ?_⟩
  rw [t_clamp k9] at e10
  rw [t_clamp k11] at e12
  rw [e10, e12]
  refine ⟨fun c => fin q b eb (by omega) ?_ hx, fun c => fin p a ea (by omega) ?_ hx⟩
  · unfold loS; rw [if_neg (by rw [t_le] at c; rw [t_lt]; omega)]
  · unfold loS; rw [if_pos (by rw [t_le] at c; rw [t_lt]; omega)]
theorem lo_or : loS s a b = a ∨ loS s a b = b := by
  unfold loS
  by_cases c : s (6 + a) < s (6 + b)
  · rw [if_pos c]; exact Or.inl rfl
  · rw [if_neg c]; exact Or.inr rfl
theorem rel_fight (hR : relN NH NF row s) (H6 : NH ≤ 6) (ha : a < NH) (hb : b < NH) (hx : bxS s a b) (hl : lo = a ∨ lo = b) : relN NH NF (bxC row a b lo) (bxF s a b lo) := by
  obtain ⟨⟨r1, r2, r3, r4, r5, ⟨r6, r7⟩, r8⟩, b1, b2⟩ := hR
  have sb : s b ≠ -1 := by rw [← hx.2.2]; exact hx.2.1
  have hlo : lo < NH := by omega
  have slo : s lo ≠ -1 := by
    rcases hl with hl | hl
    · rw [hl]; exact hx.2.1
    · rw [hl]; exact sb
  have sit : ∀ j : Nat, j < 6 → bxF s a b lo j = s j := fun j hj => bf_o (by omega) (by omega) (by omega) (by omega) (by omega)
  refine ⟨⟨?_, fun j hj => ?_, fun j hj => ?_, fun j hj => ?_, fun j hj => ?_, ⟨?_, ?_⟩, fun i k hi hk hn => ?_⟩, ?_, fun j hj => ?_⟩
  · rw [bc_o (by omega) (by omega) (by omega) (by omega), r1]
    unfold caN
    rw [orN_ext (R := fun j => decide (bxF s a b lo j = -1)) NH (fun j hj => by rw [sit j (by omega)])]
  · rw [sit j (by omega)]
    refine (r2 j hj).imp id (fun ⟨g1, g2, g3, g4, g5⟩ => ?_)
    have v3 : bxC row a b lo (16 + j) = bxF s a b lo (12 + j) := by
      by_cases z : j = a ∨ j = b
      · rw [bc_s (by omega) (by omega), bf_s (by omega) (by omega) (by omega)]
      · rw [bc_o (by omega) (by omega) (by omega) (by omega), bf_o (by omega) (by omega) (by omega) (by omega) (by omega)]; exact g3
    by_cases z : j = lo
    · subst z
      have e := dn_eq g4 g5
      rw [bc_o (j := 4 + j) (by omega) (by omega) (by omega) (by omega), bc_l (by omega) (by omega) (by omega), bf_l (by omega) (by omega) (by omega), g2]
      exact ⟨g1, e.1, v3, e.2.1, e.2.2⟩
    · rw [bc_o (j := 4 + j) (by omega) (by omega) (by omega) (by omega), bc_o (j := 10 + j) (by omega) (by omega) (by omega) (by omega), bf_o (j := 6 + j) (by omega) (by omega) (by omega) (by omega) (by omega)]
      exact ⟨g1, g2, v3, g4, g5⟩
  · rw [bc_o (by omega) (by omega) (by omega) (by omega)]; exact r3 j hj
  · rw [bc_o (by omega) (by omega) (by omega) (by omega), bf_o (by omega) (by omega) (by omega) (by omega) (by omega)]; exact r4 j hj
  · rw [bc_o (by omega) (by omega) (by omega) (by omega), bf_o (by omega) (by omega) (by omega) (by omega) (by omega)]; exact r5 j hj
  · rw [bc_o (by omega) (by omega) (by omega) (by omega), bf_o (by omega) (by omega) (by omega) (by omega) (by omega)]; exact r6
  · rw [bc_o (by omega) (by omega) (by omega) (by omega), bf_o (by omega) (by omega) (by omega) (by omega) (by omega)]; exact r7
  · rw [bf_o (by omega) (by omega) (by omega) (by omega) (by omega)]; exact r8 i k hi hk hn
  · rw [bc_3]
    refine bu_more (s := upd s (24 + a) 1) H6 hb (bu_more (s := s) H6 ha b1 pk_us (fun j hj hn => pk_un (by omega))) (bf_u (Or.inr rfl)) (fun j hj hn => ?_)
    by_cases z : j = a
    · rw [z, pk_us]; exact bf_u (Or.inl rfl)
    · rw [pk_un (by omega), bf_o (by omega) (by omega) (by omega) (by omega) (by omega)]
  · by_cases z : j = a ∨ j = b
    · rw [bf_u (by omega)]; exact Or.inr rfl
    · rw [bf_o (by omega) (by omega) (by omega) (by omega) (by omega)]; exact b2 j hj
theorem c_couldPay {Q : Int32 → Prop} (hR : relM NH NF row s) (H6 : NH ≤ 6) (ea : p.toInt = (a : Int)) (ha : a < NH) (eb : q.toInt = (b : Int)) (hb : b < NH) (q1 : pyS s a b n → Q 1) (q0 : ¬ pyS s a b n → Q 0) : wq_X1_couldPay row p q n Q := by
  refine c_caught hR.1 H6 ea ha (fun w => ⟨fun _ => q0 (fun d => d.1 w), fun z => absurd z (by decide)⟩) (fun w => ⟨fun z => absurd rfl z, fun _ => c_caught hR.1 H6 eb hb (fun w2 => ⟨fun _ => q0 (fun d => d.2.1 w2), fun z => absurd z (by decide)⟩) (fun w2 => ⟨fun z => absurd rfl z, fun _ => c_owesTo ea (by omega) eb (by omega) ?_⟩)⟩)
  rw [(hR.2.2.2.2.1 (6 * a + b) (by omega)).1]
  exact ⟨fun c => q0 (fun d => by have := d.2.2; rw [t_le] at this; rw [t_lt] at c; omega), fun c => q1 ⟨w, w2, by rw [t_lt] at c; rw [t_le]; omega⟩⟩
theorem c_payBack {Q : (Nat → Int32) → Prop} (ea : p.toInt = (a : Int)) (ha : a < 6) (eb : q.toInt = (b : Int)) (hb : b < 6) (hq : Q (pyC row a b n)) : wq_X1_payBack row p q n Q := fun x1 e1 x2 e2 => by
  have e := ixc e1 ea ha e2 eb hb
  refine ⟨t_in (by omega) (by omega), fun x3 e3 x4 e4 => ⟨t_in (by omega) (by omega), fun f5 e5 => ?_⟩⟩
  rw [t_clamp e] at e3 e5
  rw [e5, e4, e3]; exact hq
theorem y_pays {Q : Int32 → (Nat → Int32) → Prop} (H6 : NH ≤ 6) (ea : p.toInt = (a : Int)) (ha : a < NH) (eb : q.toInt = (b : Int)) (hb : b < NH) (q1 : pyS s a b n → Q 1 (pyF s a b n)) (q0 : ¬ pyS s a b n → Q 0 s) : wq_X11_pays s p q n Q := by
  refine y_caught ea (by omega) (fun w => ⟨fun _ => q0 (fun d => d.1 w), fun z => absurd z (by decide)⟩) (fun w => ⟨fun z => absurd rfl z, fun _ => y_caught eb (by omega) (fun w2 => ⟨fun _ => q0 (fun d => d.2.1 w2), fun z => absurd z (by decide)⟩) (fun w2 => ⟨fun z => absurd rfl z, fun _ x5 e5 x6 e6 => ?_⟩)⟩)
  have k6 := ixm e5 ea (by omega) e6 eb (by omega)
  refine ⟨t_in (by omega) (by omega), fun x7 e7 => ?_⟩
  rw [t_clamp k6] at e7
  refine ⟨fun c x9 e9 x10 e10 => ?_, fun c => q0 (fun d => c (by rw [e7]; exact d.2.2))⟩
  have k10 := ixm e9 ea (by omega) e10 eb (by omega)
  refine ⟨t_in (by omega) (by omega), fun x11 e11 x12 e12 => ⟨t_in (by omega) (by omega), fun f13 e13 => ?_⟩⟩
  rw [t_clamp k10] at e11 e13
  have g := q1 ⟨w, w2, by rw [← e7]; exact c⟩
  unfold pyF at g
  rw [e13, e12, e11]; exact g
theorem rel_pay (hR : relN NH NF row s) (H6 : NH ≤ 6) (ha : a < NH) (hb : b < NH) (hn0 : 0 ≤ n.toInt) (hx : pyS s a b n) : relN NH NF (pyC row a b n) (pyF s a b n) := by
  obtain ⟨⟨r1, r2, r3, r4, r5, ⟨r6, r7⟩, r8⟩, b1, b2⟩ := hR
  have oc : ∀ j : Nat, j < 28 → pyC row a b n j = row j := fun j hj => by unfold pyC; rw [pk_un (by omega)]
  have om : ∀ j : Nat, (j < 30 ∨ 66 ≤ j) → pyF s a b n j = s j := fun j hj => by unfold pyF; rw [pk_un (by omega)]
  refine ⟨⟨?_, fun j hj => ?_, fun j hj => ?_, fun j hj => ?_, fun j hj => ?_, ⟨?_, ?_⟩, fun i k hi hk hn => ?_⟩, ?_, fun j hj => ?_⟩
  · rw [oc 2 (by omega), r1]
    unfold caN
    rw [orN_ext (R := fun j => decide (pyF s a b n j = -1)) NH (fun j hj => by rw [om j (by omega)])]
  · rw [om j (by omega), oc (4 + j) (by omega), oc (10 + j) (by omega), oc (16 + j) (by omega), om (6 + j) (by omega), om (12 + j) (by omega)]
    exact r2 j hj
  · rw [oc (4 + j) (by omega)]; exact r3 j hj
  · rw [oc (22 + j) (by omega), om (18 + j) (by omega)]; exact r4 j hj
  · have g := r5 j hj
    by_cases z : j = 6 * a + b
    · rw [z] at g ⊢
      unfold pyC pyF
      rw [pk_us, pk_us, g.1]
      have h3 := hx.2.2
      rw [t_le] at h3
      have e : (s (30 + (6 * a + b)) - n).toInt = (s (30 + (6 * a + b))).toInt - n.toInt := t_sub (by omega) (by omega)
      exact ⟨rfl, by rw [e]; omega, by rw [e]; omega⟩
    · unfold pyC pyF
      rw [pk_un (by omega), pk_un (by omega)]; exact g
  · rw [oc 0 (by omega), om 66 (by omega)]; exact r6
  · rw [oc 1 (by omega), om 67 (by omega)]; exact r7
  · unfold pyF
    rw [pk_un (by omega)]; exact r8 i k hi hk hn
  · rw [oc 3 (by omega), b1]
    unfold buN
    rw [orN_ext (R := fun j => decide (pyF s a b n (24 + j) = 1)) NH (fun j hj => by rw [om (24 + j) (by omega)])]
  · rw [om (24 + j) (by omega)]; exact b2 j hj
end DB
