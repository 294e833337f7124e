/-! images, exactly -/
def imG (NH NF : Nat) (kp : Int32) (rows im : Nat → Int32) (i : Nat) : Prop := ∃ W : Nat, W ≤ 16 ∧ kp.toInt = (W : Int) + 1 ∧ (im (1157 * i + 1156)).toInt = (W : Int) ∧ relN NH NF (fun j => rows (W * 64 + j)) (fun j => im (1157 * i + j)) ∧ yrOk (fun j => im (1157 * i + j)) ∧ ∀ r : Nat, r < W → relN NH NF (fun j => rows (r * 64 + j)) (fun j => im (1157 * i + 68 + (68 * r + j))) ∧ yrOk (fun j => im (1157 * i + 68 + (68 * r + j)))
def relI (NH NF : Nat) (m mi k0 k1 k2 : Int32) (r0 r1 r2 im : Nat → Int32) : Prop := m.toInt = mi.toInt ∧ (0 ≤ m.toInt ∧ m.toInt ≤ 3) ∧ (1 ≤ m.toInt → imG NH NF k0 r0 im 0) ∧ (2 ≤ m.toInt → imG NH NF k1 r1 im 1) ∧ (3 ≤ m.toInt → imG NH NF k2 r2 im 2)
theorem imG_same {NH NF : Nat} {kp : Int32} {rows im im' : Nat → Int32} {i : Nat} (h : imG NH NF kp rows im i) (H6 : NH ≤ 6) (e : ∀ j : Nat, j < 1157 → im' (1157 * i + j) = im (1157 * i + j)) : imG NH NF kp rows im' i := by
  obtain ⟨W, h1, h2, h3, h4, h5, h6⟩ := h
  refine ⟨W, h1, h2, by rw [e 1156 (by omega)]; exact h3, rN_eq h4 H6 (fun _ _ => rfl) (fun j hj => e j (by omega)), yr_eq h5 (e 67 (by omega)), fun r hr => ?_⟩
  obtain ⟨g1, g2⟩ := h6 r hr
  have k : ∀ j : Nat, j < 68 → im' (1157 * i + 68 + (68 * r + j)) = im (1157 * i + 68 + (68 * r + j)) := fun j hj => by
    have := e (68 + (68 * r + j)) (by omega)
    rw [show 1157 * i + 68 + (68 * r + j) = 1157 * i + (68 + (68 * r + j)) by omega]; exact this
  exact ⟨rN_eq g1 H6 (fun _ _ => rfl) (fun j hj => k j hj), yr_eq g2 (k 67 (by omega))⟩
theorem imG_new {NH NF : Nat} {kp wo k2 : Int32} {pr pm row now rows2 im : Nat → Int32} {i : Nat} (hW : relW NH NF kp wo pr pm) (hR : relN NH NF row now) (hy : yrOk now) (H6 : NH ≤ 6) (e2 : k2.toInt = kp.toInt + 1) (g1 : ∀ j : Nat, (j : Int) < 64 * kp.toInt → rows2 j = pr j) (g2 : ∀ j : Nat, j < 64 → rows2 (kp.toNatClampNeg * 64 + j) = row j) (f1 : ∀ j : Nat, j < 68 → im (1157 * i + j) = now j) (f2 : ∀ j : Nat, j < 1088 → im (1157 * i + 68 + j) = pm j) (f3 : im (1157 * i + 1156) = wo) : imG NH NF k2 rows2 im i := by
  obtain ⟨q1, q2, q3, q4⟩ := hW
  have n := t_nat q2
  refine ⟨kp.toNatClampNeg, by omega, by omega, by rw [f3]; omega, rN_eq hR H6 (fun j hj => g2 j hj) (fun j hj => f1 j hj), yr_eq hy (f1 67 (by omega)), fun r hr => ?_⟩
  obtain ⟨y1, y2⟩ := q4 r (by omega)
  exact ⟨rN_eq y1 H6 (fun j hj => g1 (r * 64 + j) (by omega)) (fun j hj => f2 (68 * r + j) (by omega)), yr_eq y2 (f2 (68 * r + 67) (by omega))⟩
theorem y_image {th wo mi : Int32} {now im past : Nat → Int32} {Q : Int32 → Int32 → (Nat → Int32) → (Nat → Int32) → (Nat → Int32) → Int32 → Int32 → Prop} (m0 : 0 ≤ mi.toInt) (m3 : mi.toInt ≤ 3) (hz : mi.toInt = 3 → Q (-1) 0 now im past wo mi) (hq : mi.toInt < 3 → ∀ (im2 : Nat → Int32) (mi2 : Int32), mi2.toInt = mi.toInt + 1 → (∀ j : Nat, j < 68 → im2 (1157 * mi.toNatClampNeg + j) = now j) → (∀ j : Nat, j < 1088 → im2 (1157 * mi.toNatClampNeg + 68 + j) = past j) → im2 (1157 * mi.toNatClampNeg + 1156) = wo → (∀ q : Nat, q < 1157 * mi.toNatClampNeg → im2 q = im q) → Q mi2 0 now im2 past wo mi2) : wq_X11_image th now im past wo mi Q := by
  refine ⟨fun c => ?_, fun c => hz (by rw [c]; decide)⟩
  rw [t_eq, t_3] at c
  have n0 := t_nat m0
  intro x1 e1
  have q1 : x1.toInt = 1157 * mi.toInt := by rw [e1]; exact t_1157 m0 (by omega)
  have m1 := t_nat (x := x1) (by omega)
  refine ⟨69, sl_X11_keepsRow1 (by decide) (by omega) (by decide) (by rw [v_68]; omega) (by decide) (fun G hG => ?_) 69 im 0 (fun j => by rw [if_neg (by rw [t_c0]; omega)]) (by decide) (by decide) (by decide)⟩
  rw [c_68] at hG
  have q4 : (x1 + 68).toInt = x1.toInt + 68 := by rw [t_add (by rw [v_68]; omega) (by rw [v_68]; omega), v_68]
  have m4 := t_nat (x := x1 + 68) (by omega)
  refine ⟨1089, sl_X11_keepsRow1 (by decide) (by omega) (by decide) (by rw [v_1088]; omega) (by decide) (fun H hH => ?_) 1089 G 0 (fun j => by rw [if_neg (by rw [t_c0]; omega)]) (by decide) (by decide) (by decide)⟩
  rw [c_1088] at hH
  have q7 : (x1 + 68 + 1088).toInt = x1.toInt + 1156 := by rw [t_add (by rw [v_1088]; omega) (by rw [v_1088]; omega), v_1088]; omega
  have m7 := t_nat (x := x1 + 68 + 1088) (by omega)
  refine ⟨fun z => absurd z (by decide), fun _ => ⟨t_in (by omega) (by omega), fun f10 e10 x6 e6 => ?_⟩⟩
  have q6 : x6.toInt = mi.toInt + 1 := by rw [e6]; exact t_inc (by omega)
  refine hq (by omega) f10 x6 q6 (fun j hj => ?_) (fun j hj => ?_) ?_ (fun q hq => ?_)
  · rw [e10, pk_un (by omega), hH, if_neg (by omega), hG, if_pos (by omega)]; exact congrArg now (by omega)
  · rw [e10, pk_un (by omega), hH, if_pos (by omega)]; exact congrArg past (by omega)
  · rw [e10, show 1157 * mi.toNatClampNeg + 1156 = (x1 + 68 + 1088).toNatClampNeg by omega, pk_us]
  · rw [e10, pk_un (by omega), hH, if_neg (by omega), hG, if_neg (by omega)]
theorem y_restore {th wo mi rs : Int32} {now im past : Nat → Int32} {Q : Int32 → Int32 → Int32 → (Nat → Int32) → (Nat → Int32) → (Nat → Int32) → Int32 → Int32 → Prop} (m0 : 0 ≤ mi.toInt) (m3 : mi.toInt ≤ 3) (hz : mi.toInt = 0 → Q (-1) 0 mi now im past wo rs) (hq : mi.toInt ≠ 0 → ∀ (mi2 : Int32) (now2 past2 : Nat → Int32), mi2.toInt = mi.toInt - 1 → (∀ j : Nat, j < 68 → now2 j = im (1157 * mi2.toNatClampNeg + j)) → (∀ j : Nat, j < 1088 → past2 j = im (1157 * mi2.toNatClampNeg + 68 + j)) → Q mi2 0 mi2 now2 im past2 (im (1157 * mi2.toNatClampNeg + 1156)) 0) : wq_X11_restore th mi now im past wo rs Q := by
  refine ⟨fun c x2 e2 => ?_, fun c => hz (by rw [c]; exact t_0)⟩
  rw [t_eq, t_0] at c
  have q2 : x2.toInt = mi.toInt - 1 := by rw [e2]; exact t_pred (by omega)
  have n2 := t_nat (x := x2) (by omega)
  intro x1 e1
  have q1 : x1.toInt = 1157 * x2.toInt := by rw [e1]; exact t_1157 (by omega) (by omega)
  have m1 := t_nat (x := x1) (by omega)
  refine ⟨69, sl_X11_keepsRow0 (by omega) (by decide) (by rw [v_68]; omega) (by decide) (fun F hF => ?_) 69 now 0 (fun j hj => by rw [t_c0] at hj; omega) (by decide) (by decide) (by decide)⟩
  rw [c_68] at hF
  have q4 : (x1 + 68).toInt = x1.toInt + 68 := by rw [t_add (by rw [v_68]; omega) (by rw [v_68]; omega), v_68]
  have m4 := t_nat (x := x1 + 68) (by omega)
  refine ⟨1089, sl_X11_keepsRow0 (by omega) (by decide) (by rw [v_1088]; omega) (by decide) (fun H hH => ?_) 1089 past 0 (fun j hj => by rw [t_c0] at hj; omega) (by decide) (by decide) (by decide)⟩
  rw [c_1088] at hH
  have q7 : (x1 + 68 + 1088).toInt = x1.toInt + 1156 := by rw [t_add (by rw [v_1088]; omega) (by rw [v_1088]; omega), v_1088]; omega
  have m7 := t_nat (x := x1 + 68 + 1088) (by omega)
  refine ⟨fun _ => ⟨t_in (by omega) (by omega), fun x9 e9 => ?_⟩, fun z => absurd rfl z⟩
  have ew : x9 = im (1157 * x2.toNatClampNeg + 1156) := by rw [e9]; exact congrArg im (by omega)
  rw [ew]
  exact hq c x2 F H q2 (fun j hj => by rw [hF j hj]; exact congrArg im (by omega)) (fun j hj => by rw [hH j hj]; exact congrArg im (by omega))
