/-! undo, exactly -/
theorem c_pop {kp : Int32} {rows row : Nat → Int32} {Q : Int32 → (Nat → Int32) → Prop} (k0 : 0 < kp.toInt) (k1 : kp.toInt ≤ 17) (hq : ∀ (k2 : Int32) (row2 : Nat → Int32), k2.toInt = kp.toInt - 1 → (∀ j : Nat, j < 64 → row2 j = rows (k2.toNatClampNeg * 64 + j)) → Q k2 row2) : wq_X5_pop rows kp row Q := by
  refine ⟨fun c => ?_, fun _ x2 e2 x3 e3 => ?_⟩
  · rw [t_le, t_0] at c; omega
  · have ea : x2.toInt = kp.toInt - 1 := by rw [e2]; exact t_pred (by omega)
    have e := t_mul64 (k := x2) (by omega) (by omega)
    rw [← e3] at e
    have b := t_nat (x := x3) (by omega)
    have c := t_nat (x := x2) (by omega)
    refine ⟨fun c => ?_, ?_, fun f4 e4 => hq x2 f4 ea (fun j hj => ?_)⟩
    · rw [t_lt, t_0] at c; omega
    · rw [t_c64]; omega
    · rw [e4, t_c0, t_c64, pk_cpy_in (by omega) (by omega)]
      exact congrArg rows (by omega)
theorem c_push {kp : Int32} {row rows : Nat → Int32} {Q : (Nat → Int32) → Int32 → Prop} (k0 : 0 ≤ kp.toInt) (k1 : kp.toInt ≤ 16) (hq : ∀ (rows2 : Nat → Int32) (k2 : Int32), k2.toInt = kp.toInt + 1 → (∀ j : Nat, rows2 j = if kp.toNatClampNeg * 64 ≤ j ∧ j < kp.toNatClampNeg * 64 + 64 then row (j - kp.toNatClampNeg * 64) else rows j) → Q rows2 k2) : wq_X5_push row rows kp Q := by
  refine ⟨fun c => ?_, fun _ x2 e2 => ?_⟩
  · rw [t_lt, t_16] at c; omega
  · have e := t_mul64 k0 (by omega)
    rw [← e2] at e
    have b := t_nat (x := x2) (by omega)
    have kn := t_nat k0
    refine ⟨fun c => ?_, ?_, fun f3 e3 x4 e4 => ?_⟩
    · rw [t_lt, t_0] at c; omega
    · rw [t_c64]; omega
    · refine hq f3 x4 (by rw [e4]; exact t_inc (by omega)) (fun j => ?_)
      rw [e3, t_c0, t_c64, cp_at]
      by_cases z : kp.toNatClampNeg * 64 ≤ j ∧ j < kp.toNatClampNeg * 64 + 64
      · rw [if_pos z, if_pos (by omega)]
        exact congrArg row (by omega)
      · rw [if_neg z, if_neg (by omega)]
theorem c_copyFrom {k1 k0 : Int32} {r1 r0 : Nat → Int32} {Q : (Nat → Int32) → Int32 → Prop} (a0 : 0 ≤ k1.toInt) (a1 : k1.toInt ≤ 17) (hq : ∀ rows : Nat → Int32, (∀ j : Nat, (j : Int) < 64 * k1.toInt → rows j = r1 j) → Q rows k1) : wq_X5_copyFrom k1 r1 r0 k0 Q := by
  have e := t_mul64 a0 a1
  have b := t_nat (x := k1 * 64) (by omega)
  refine ⟨fun c => ?_, ?_, ?_, fun f1 e1 => hq f1 (fun j hj => ?_)⟩
  · rw [t_lt, t_0] at c; omega
  · rw [t_c0]; omega
  · rw [t_c0]; omega
  · rw [e1, t_c0, pk_cpy_in (by omega) (by omega)]
    exact congrArg r1 (by omega)
theorem y_undo {pm now : Nat → Int32} {th wo rs : Int32} {Q : Int32 → Int32 → Int32 → Int32 → (Nat → Int32) → Prop} (w0 : 0 ≤ wo.toInt) (w16 : wo.toInt ≤ 16) (hz : wo.toInt = 0 → Q (-1) 0 wo rs now) (hq : wo.toInt ≠ 0 → ∀ (wo2 : Int32) (now2 : Nat → Int32), wo2.toInt = wo.toInt - 1 → (∀ j : Nat, j < 68 → now2 j = pm (68 * wo2.toNatClampNeg + j)) → Q wo2 0 wo2 0 now2) : wq_X11_undo pm th wo rs now Q := by
  refine ⟨fun c x2 e2 => ?_, fun c => hz (by rw [c]; exact t_0)⟩
  have c : wo.toInt ≠ 0 := fun d => c (t_eq.mpr (by rw [d, t_0]))
  have q2 : x2.toInt = wo.toInt - 1 := by rw [e2]; exact t_pred (by omega)
  have n2 := t_nat (x := x2) (by omega)
  have go : ∀ (m : Nat) (nw : Nat → Int32) (l1 : Int32) (k : Nat), l1.toInt = (k : Int) → k ≤ 68 → (∀ j : Nat, j < k → nw j = pm (68 * x2.toNatClampNeg + j)) → 68 - k < m → wl_X11_undo_26 pm Q m 0 x2 rs nw l1 := by
    intro m
    induction m with
    | zero => intro nw l1 k h1 h2 h3 h4; omega
    | succ m ih =>
      intro nw l1 k h1 h2 h3 h4
      refine ⟨fun d => ?_, fun d x4 e4 x5 e5 => ?_⟩
      · rw [t_le, t_68] at d
        exact hq c x2 nw q2 (fun j hj => h3 j (by omega))
      · rw [t_le, t_68] at d
        have q4 : x4.toInt = 68 * x2.toInt := by rw [e4, t_mul (by rw [t_68]; omega) (by rw [t_68]; omega), t_68]
        have q5 : x5.toInt = ((68 * x2.toNatClampNeg + k : Nat) : Int) := by
          rw [e5, t_add (by rw [q4]; omega) (by rw [q4]; omega), q4]; omega
        refine ⟨t_in (by omega) (by omega), fun x6 e6 => ⟨t_in (by omega) (by omega), fun f7 e7 x8 e8 => ih f7 x8 (k + 1) (by rw [e8, t_inc (by omega), h1]; omega) (by omega) (fun j hj => ?_) (by omega)⟩⟩
        rw [t_clamp q5] at e6
        rw [t_clamp h1] at e7
        rw [e7]
        by_cases z : j = k
        · rw [z, pk_us]; exact e6
        · rw [pk_un z]; exact h3 j (by omega)
  exact ⟨69, go 69 now 0 0 t_0 (by omega) (fun j hj => absurd hj (Nat.not_lt_zero j)) (by omega)⟩
theorem rW_pop {NH NF : Nat} {kp wo kp2 wo2 : Int32} {pr pm : Nat → Int32} (h : relW NH NF kp wo pr pm) (k0 : 0 < kp.toInt) (e1 : kp2.toInt = kp.toInt - 1) (e2 : wo2.toInt = wo.toInt - 1) : relW NH NF kp2 wo2 pr pm := by
  obtain ⟨q1, q2, q3, q4⟩ := h
  exact ⟨by omega, by omega, by omega, fun r hr => q4 r (by omega)⟩
/-- undo, by both -/
theorem v_undo {NH NF : Nat} {kp wo rs1 rs2 th : Int32} {pr pm row s : Nat → Int32} {C : Int32 → Int32 → (Nat → Int32) → Int32 → (Int32 → Int32 → Int32 → Int32 → (Nat → Int32) → Prop)} (hW : relW NH NF kp wo pr pm) (H6 : NH ≤ 6) (hR : relN NH NF row s) (hy : yrOk s)
    (hz : C (-1) kp row rs1 (-1) 0 wo rs2 s)
    (hq : ∀ (k2 wo2 : Int32) (row2 s2 : Nat → Int32), k2 = wo2 → relW NH NF k2 wo2 pr pm → relN NH NF row2 s2 → yrOk s2 → C k2 k2 row2 0 wo2 0 wo2 0 s2) : wq_X10_undo pr kp row rs1 (fun a b r d => wq_X11_undo pm th wo rs2 s (C a b r d)) := by
  have w : kp.toInt = wo.toInt := hW.1
  have k0 := hW.2.1
  have k16 := hW.2.2.1
  refine ⟨fun c => ?_, fun c => y_undo (by omega) (by omega) (fun _ => hz) (fun d => absurd (by rw [← w, c]; exact t_0) d)⟩
  have c : kp.toInt ≠ 0 := fun d => c (t_eq.mpr (by rw [d, t_0]))
  refine c_pop (by omega) (by omega) (fun k2 row2 e2 h2 => y_undo (by omega) (by omega) (fun d => absurd (w.trans d) c) (fun _ wo2 s2 e3 h3 => ?_))
  have n2 := t_nat (x := k2) (by omega)
  have n3 := t_nat (x := wo2) (by omega)
  obtain ⟨g1, g2⟩ := hW.2.2.2 k2.toNatClampNeg (by omega)
  have en : wo2.toNatClampNeg = k2.toNatClampNeg := by omega
  refine hq k2 wo2 row2 s2 (t_eq.mpr (by omega)) (rW_pop hW (by omega) e2 e3) (rN_eq g1 H6 (fun j hj => h2 j hj) (fun j hj => ?_)) (yr_eq g2 ?_)
  · show s2 j = pm (68 * k2.toNatClampNeg + j)
    rw [h3 j hj, en]
  · show s2 67 = pm (68 * k2.toNatClampNeg + 67)
    rw [h3 67 (by omega), en]
