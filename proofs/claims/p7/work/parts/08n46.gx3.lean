/-! image and restore, by both -/
theorem v_image {NH NF : Nat} {kp wo m mi k0 k1 k2 th : Int32} {pr pm row now r0 r1 r2 im : Nat → Int32} {C : Int32 → (Nat → Int32) → Int32 → Int32 → (Nat → Int32) → Int32 → (Nat → Int32) → Int32 → (Int32 → Int32 → (Nat → Int32) → (Nat → Int32) → (Nat → Int32) → Int32 → Int32 → Prop)} (hW : relW NH NF kp wo pr pm) (hI : relI NH NF m mi k0 k1 k2 r0 r1 r2 im) (hR : relN NH NF row now) (hy : yrOk now) (H6 : NH ≤ 6)
    (hz : C (-1) r0 k0 m r1 k1 r2 k2 (-1) 0 now im pm wo mi)
    (hq : ∀ (r0 r1 r2 im2 : Nat → Int32) (k0 k1 k2 m2 mi2 : Int32), m2 = mi2 → relI NH NF m2 mi2 k0 k1 k2 r0 r1 r2 im2 → C m2 r0 k0 m2 r1 k1 r2 k2 mi2 0 now im2 pm wo mi2) :
    wq_X10_image kp pr row r0 k0 m r1 k1 r2 k2 (fun a b c d e f g h => wq_X11_image th now im pm wo mi (C a b c d e f g h)) := by
  obtain ⟨w1, w2, w3, w4⟩ := id hW
  obtain ⟨e, ⟨m0, m3⟩, i0, i1, i2⟩ := id hI
  refine ⟨fun c => ?_, fun c => y_image (by omega) (by omega) (fun _ => hz) (fun d => absurd d (by rw [t_lt, t_3] at c; omega))⟩
  rw [t_lt, t_3] at c
  have hin : vp_in m 3 := t_in m0 (by omega)
  have nk := t_nat w2
  have nmi := t_nat (x := mi) (by omega)
  have q : (m + 1).toInt = m.toInt + 1 := t_inc (by omega)
  have keep : ∀ (i : Nat) (kq : Int32) (rq im2 : Nat → Int32), i < mi.toNatClampNeg → (∀ q : Nat, q < 1157 * mi.toNatClampNeg → im2 q = im q) → imG NH NF kq rq im i → imG NH NF kq rq im2 i := fun i kq rq im2 hi hs h => imG_same h H6 (fun j hj => hs _ (by omega))
  have new : ∀ (rows rows2 im2 : Nat → Int32) (k9 : Int32), (∀ j : Nat, (j : Int) < 64 * kp.toInt → rows j = pr j) → k9.toInt = kp.toInt + 1 → (∀ j : Nat, rows2 j = if kp.toNatClampNeg * 64 ≤ j ∧ j < kp.toNatClampNeg * 64 + 64 then row (j - kp.toNatClampNeg * 64) else rows j) → (∀ j : Nat, j < 68 → im2 (1157 * mi.toNatClampNeg + j) = now j) → (∀ j : Nat, j < 1088 → im2 (1157 * mi.toNatClampNeg + 68 + j) = pm j) → im2 (1157 * mi.toNatClampNeg + 1156) = wo → imG NH NF k9 rows2 im2 mi.toNatClampNeg := fun rows rows2 im2 k9 h1 e2 h2 g1 g2 g3 =>
    imG_new hW hR hy H6 e2 (fun j hj => by rw [h2 j, if_neg (by omega)]; exact h1 j hj) (fun j hj => by rw [h2, if_pos (by omega)]; exact congrArg row (by omega)) g1 g2 g3
  refine ⟨hin, fun c0 => ?_, fun c1 => ?_, fun c2 => ?_⟩
  · refine c_copyFrom w2 (by omega) (fun rows h1 => ⟨hin, fun _ => c_push w2 w3 (fun rows2 k9 e2 h2 x8 e8 => ?_), fun d => absurd (c0.symm.trans d) (by decide), fun d => absurd (c0.symm.trans d) (by decide)⟩)
    have e0 : m.toInt = 0 := by rw [c0]; decide
    have k8 : x8.toInt = 1 := by rw [e8]; omega
    refine y_image (by omega) (by omega) (fun d => absurd d (by omega)) (fun _ im2 mi2 g0 g1 g2 g3 g4 => ?_)
    have nw := new rows rows2 im2 k9 h1 e2 h2 g1 g2 g3
    rw [show mi.toNatClampNeg = 0 by omega] at nw
    exact hq rows2 r1 r2 im2 k9 k1 k2 x8 mi2 (t_eq.mpr (by omega)) ⟨by omega, ⟨by omega, by omega⟩, fun _ => nw, fun z => absurd z (by omega), fun z => absurd z (by omega)⟩
  · refine c_copyFrom w2 (by omega) (fun rows h1 => ⟨hin, fun d => absurd (c1.symm.trans d) (by decide), fun _ => c_push w2 w3 (fun rows2 k9 e2 h2 x8 e8 => ?_), fun d => absurd (c1.symm.trans d) (by decide)⟩)
    have e0 : m.toInt = 1 := by rw [c1]; decide
    have k8 : x8.toInt = 2 := by rw [e8]; omega
    refine y_image (by omega) (by omega) (fun d => absurd d (by omega)) (fun _ im2 mi2 g0 g1 g2 g3 g4 => ?_)
    have nw := new rows rows2 im2 k9 h1 e2 h2 g1 g2 g3
    rw [show mi.toNatClampNeg = 1 by omega] at nw
    exact hq r0 rows2 r2 im2 k0 k9 k2 x8 mi2 (t_eq.mpr (by omega)) ⟨by omega, ⟨by omega, by omega⟩, fun _ => keep 0 k0 r0 im2 (by omega) g4 (i0 (by omega)), fun _ => nw, fun z => absurd z (by omega)⟩
  · refine c_copyFrom w2 (by omega) (fun rows h1 => ⟨hin, fun d => absurd (c2.symm.trans d) (by decide), fun d => absurd (c2.symm.trans d) (by decide), fun _ => c_push w2 w3 (fun rows2 k9 e2 h2 x8 e8 => ?_)⟩)
    have e0 : m.toInt = 2 := by rw [c2]; decide
    have k8 : x8.toInt = 3 := by rw [e8]; omega
    refine y_image (by omega) (by omega) (fun d => absurd d (by omega)) (fun _ im2 mi2 g0 g1 g2 g3 g4 => ?_)
    have nw := new rows rows2 im2 k9 h1 e2 h2 g1 g2 g3
    rw [show mi.toNatClampNeg = 2 by omega] at nw
    exact hq r0 r1 rows2 im2 k0 k1 k9 x8 mi2 (t_eq.mpr (by omega)) ⟨by omega, ⟨by omega, by omega⟩, fun _ => keep 0 k0 r0 im2 (by omega) g4 (i0 (by omega)), fun _ => keep 1 k1 r1 im2 (by omega) g4 (i1 (by omega)), fun _ => nw⟩
theorem imG_out {NH NF : Nat} {k9 k : Int32} {rows im row2 pr2 now2 pm2 : Nat → Int32} {i : Nat} (h : imG NH NF k rows im i) (H6 : NH ≤ 6) (e : k9.toInt = k.toInt - 1) (h1 : ∀ j : Nat, j < 64 → row2 j = rows (k9.toNatClampNeg * 64 + j)) (h2 : ∀ j : Nat, (j : Int) < 64 * k9.toInt → pr2 j = rows j) (g1 : ∀ j : Nat, j < 68 → now2 j = im (1157 * i + j)) (g2 : ∀ j : Nat, j < 1088 → pm2 j = im (1157 * i + 68 + j)) : relW NH NF k9 (im (1157 * i + 1156)) pr2 pm2 ∧ relN NH NF row2 now2 ∧ yrOk now2 := by
  obtain ⟨W, a1, a2, a3, a4, a5, a6⟩ := h
  have n := t_nat (x := k9) (by omega)
  have en : k9.toNatClampNeg = W := by omega
  rw [en] at h1
  refine ⟨⟨by omega, by omega, by omega, fun r hr => ?_⟩, rN_eq a4 H6 h1 g1, yr_eq a5 (g1 67 (by omega))⟩
  obtain ⟨y1, y2⟩ := a6 r (by omega)
  exact ⟨rN_eq y1 H6 (fun j hj => h2 (r * 64 + j) (by omega)) (fun j hj => g2 (68 * r + j) (by omega)), yr_eq y2 (g2 (68 * r + 67) (by omega))⟩
theorem v_restore {NH NF : Nat} {kp wo m mi k0 k1 k2 th rs rs2 : Int32} {pr pm row now r0 r1 r2 im : Nat → Int32} {C : Int32 → Int32 → Int32 → (Nat → Int32) → (Nat → Int32) → Int32 → Int32 → Int32 → Int32 → (Int32 → Int32 → Int32 → (Nat → Int32) → (Nat → Int32) → (Nat → Int32) → Int32 → Int32 → Prop)} (hI : relI NH NF m mi k0 k1 k2 r0 r1 r2 im) (H6 : NH ≤ 6)
    (hz : C (-1) m k0 row pr kp rs k1 k2 (-1) 0 mi now im pm wo rs2)
    (hq : ∀ (m2 k0 : Int32) (row2 pr2 : Nat → Int32) (kp2 k1 k2 mi2 : Int32) (now2 pm2 : Nat → Int32) (wo2 : Int32), m2 = mi2 → relI NH NF m2 mi2 k0 k1 k2 r0 r1 r2 im → relW NH NF kp2 wo2 pr2 pm2 → relN NH NF row2 now2 → yrOk now2 → C m2 m2 k0 row2 pr2 kp2 0 k1 k2 mi2 0 mi2 now2 im pm2 wo2 0) :
    wq_X10_restore r0 r1 r2 m k0 row pr kp rs k1 k2 (fun a b c d e f g h i => wq_X11_restore th mi now im pm wo rs2 (C a b c d e f g h i)) := by
  obtain ⟨e, ⟨m0, m3⟩, i0, i1, i2⟩ := id hI
  refine ⟨fun c x2 e2 => ?_, fun c => y_restore (by omega) (by omega) (fun _ => hz) (fun d => absurd (by rw [← e, c]; exact t_0) d)⟩
  have c : m.toInt ≠ 0 := fun d => c (t_eq.mpr (by rw [d, t_0]))
  have q2 : x2.toInt = m.toInt - 1 := by rw [e2]; exact t_pred (by omega)
  have hin : vp_in x2 3 := t_in (by omega) (by omega)
  have fin : ∀ (i : Nat) (kq k9 : Int32) (rq row2 pr2 : Nat → Int32) (ka kb kc : Int32), x2.toInt = (i : Int) → imG NH NF kq rq im i → k9.toInt = kq.toInt - 1 → (∀ j : Nat, j < 64 → row2 j = rq (k9.toNatClampNeg * 64 + j)) → (∀ j : Nat, (j : Int) < 64 * k9.toInt → pr2 j = rq j) → relI NH NF x2 x2 ka kb kc r0 r1 r2 im → wq_X11_restore th mi now im pm wo rs2 (C x2 x2 ka row2 pr2 k9 0 kb kc) := fun i kq k9 rq row2 pr2 ka kb kc hi h hk h1 h2 hn => by
    refine y_restore (by omega) (by omega) (fun d => absurd (by omega) c) (fun _ mi2 now2 pm2 g0 g1 g2 => ?_)
    have en : mi2.toNatClampNeg = i := by have := t_nat (x := mi2) (by omega); omega
    rw [en] at g1 g2
    obtain ⟨o1, o2, o3⟩ := imG_out h H6 hk h1 h2 g1 g2
    have em : x2 = mi2 := t_eq.mpr (by omega)
    rw [en]
    exact hq x2 ka row2 pr2 k9 kb kc mi2 now2 pm2 _ em (by rw [em] at hn ⊢; exact hn) o1 o2 o3
  refine ⟨hin, fun c0 => ?_, fun c1 => ?_, fun c2 => ?_⟩
  · have e0 : x2.toInt = 0 := by rw [c0]; decide
    have g := i0 (by omega)
    obtain ⟨W, a1, a2, -⟩ := id g
    exact c_pop (by omega) (by omega) (fun k9 row2 ek h1 => ⟨hin, fun _ => c_copyFrom (by omega) (by omega) (fun rows h3 => fin 0 k0 k9 r0 row2 rows k9 k1 k2 (by omega) g ek h1 h3 ⟨rfl, ⟨by omega, by omega⟩, fun z => absurd z (by omega), fun z => absurd z (by omega), fun z => absurd z (by omega)⟩), fun d => absurd (c0.symm.trans d) (by decide), fun d => absurd (c0.symm.trans d) (by decide)⟩)
  · have e0 : x2.toInt = 1 := by rw [c1]; decide
    have g := i1 (by omega)
    obtain ⟨W, a1, a2, -⟩ := id g
    exact c_pop (by omega) (by omega) (fun k9 row2 ek h1 => ⟨hin, fun d => absurd (c1.symm.trans d) (by decide), fun _ => c_copyFrom (by omega) (by omega) (fun rows h3 => fin 1 k1 k9 r1 row2 rows k0 k9 k2 (by omega) g ek h1 h3 ⟨rfl, ⟨by omega, by omega⟩, fun _ => i0 (by omega), fun z => absurd z (by omega), fun z => absurd z (by omega)⟩), fun d => absurd (c1.symm.trans d) (by decide)⟩)
  · have e0 : x2.toInt = 2 := by rw [c2]; decide
    have g := i2 (by omega)
    obtain ⟨W, a1, a2, -⟩ := id g
    exact c_pop (by omega) (by omega) (fun k9 row2 ek h1 => ⟨hin, fun d => absurd (c2.symm.trans d) (by decide), fun d => absurd (c2.symm.trans d) (by decide), fun _ => c_copyFrom (by omega) (by omega) (fun rows h3 => fin 2 k2 k9 r2 row2 rows k0 k1 k9 (by omega) g ek h1 h3 ⟨rfl, ⟨by omega, by omega⟩, fun _ => i0 (by omega), fun _ => i1 (by omega), fun z => absurd z (by omega)⟩)⟩)
