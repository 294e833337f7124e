/-! days: both states held against each other -/
theorem i0 {p x : Int32} {h : Nat} (hx : x = 0 + p) (ep : p.toInt = (h : Int)) (hb : h < 1000) : x.toInt = (h : Int) := by
  rw [hx, Int32.zero_add]; exact ep
theorem i4 {p x : Int32} {h : Nat} (hx : x = 4 + p) (ep : p.toInt = (h : Int)) (hb : h < 1000) : x.toInt = ((4 + h : Nat) : Int) := by
  rw [hx, t_add (by rw [t_4]; omega) (by rw [t_4]; omega), t_4]; omega
theorem i6 {p x : Int32} {h : Nat} (hx : x = 6 + p) (ep : p.toInt = (h : Int)) (hb : h < 1000) : x.toInt = ((6 + h : Nat) : Int) := by
  rw [hx, t_add (by rw [t_6]; omega) (by rw [t_6]; omega), t_6]; omega
theorem i10 {p x : Int32} {h : Nat} (hx : x = 10 + p) (ep : p.toInt = (h : Int)) (hb : h < 1000) : x.toInt = ((10 + h : Nat) : Int) := by
  rw [hx, t_add (by rw [t_10]; omega) (by rw [t_10]; omega), t_10]; omega
theorem i12 {p x : Int32} {h : Nat} (hx : x = 12 + p) (ep : p.toInt = (h : Int)) (hb : h < 1000) : x.toInt = ((12 + h : Nat) : Int) := by
  rw [hx, t_add (by rw [t_12]; omega) (by rw [t_12]; omega), t_12]; omega
theorem i16 {p x : Int32} {h : Nat} (hx : x = 16 + p) (ep : p.toInt = (h : Int)) (hb : h < 1000) : x.toInt = ((16 + h : Nat) : Int) := by
  rw [hx, t_add (by rw [t_16]; omega) (by rw [t_16]; omega), t_16]; omega
theorem i18 {p x : Int32} {h : Nat} (hx : x = 18 + p) (ep : p.toInt = (h : Int)) (hb : h < 1000) : x.toInt = ((18 + h : Nat) : Int) := by
  rw [hx, t_add (by rw [t_18]; omega) (by rw [t_18]; omega), t_18]; omega
theorem i22 {p x : Int32} {h : Nat} (hx : x = 22 + p) (ep : p.toInt = (h : Int)) (hb : h < 1000) : x.toInt = ((22 + h : Nat) : Int) := by
  rw [hx, t_add (by rw [t_22]; omega) (by rw [t_22]; omega), t_22]; omega
theorem i24 {p x : Int32} {h : Nat} (hx : x = 24 + p) (ep : p.toInt = (h : Int)) (hb : h < 1000) : x.toInt = ((24 + h : Nat) : Int) := by
  rw [hx, t_add (by rw [t_24]; omega) (by rw [t_24]; omega), t_24]; omega
theorem i30 {p x : Int32} {h : Nat} (hx : x = 30 + p) (ep : p.toInt = (h : Int)) (hb : h < 1000) : x.toInt = ((30 + h : Nat) : Int) := by
  rw [hx, t_add (by rw [t_30]; omega) (by rw [t_30]; omega), t_30]; omega
theorem k_c1 : (1 : Int32).toNatClampNeg = 1 := by decide
theorem k_c2 : (2 : Int32).toNatClampNeg = 2 := by decide
theorem k_c3 : (3 : Int32).toNatClampNeg = 3 := by decide
theorem k_c4 : (4 : Int32).toNatClampNeg = 4 := by decide
theorem k_c5 : (5 : Int32).toNatClampNeg = 5 := by decide
theorem k_c6 : (6 : Int32).toNatClampNeg = 6 := by decide
theorem k_c7 : (7 : Int32).toNatClampNeg = 7 := by decide
theorem k_c66 : (66 : Int32).toNatClampNeg = 66 := by decide
theorem k_c67 : (67 : Int32).toNatClampNeg = 67 := by decide
def caN (s : Nat → Int32) (nh : Nat) : Nat := orN (fun h => decide (s h = -1)) nh
def buN (s : Nat → Int32) (nh : Nat) : Nat := orN (fun h => decide (s (24 + h) = 1)) nh
/-- who sits in a form -/
def siN (s : Nat → Int32) (p : Int32) (nh : Nat) : Nat := orN (fun h => decide (s h = p)) nh
def owS (s : Nat → Int32) (nh h : Nat) : Int32 := sumI (fun o => s (30 + (6 * h + o))) nh
def odS (s : Nat → Int32) (nh h : Nat) : Int32 := sumI (fun o => s (30 + (6 * o + h))) nh
/-- the row of the class and that of the reference, but for who is busy -/
def relM (nh nf : Nat) (row s : Nat → Int32) : Prop :=
  row 2 = Int32.ofNat (caN s nh) ∧
  (∀ h : Nat, h < nh → s h = -1 ∨ (s h = row (4 + h) ∧ row (10 + h) = s (6 + h) ∧ row (16 + h) = s (12 + h) ∧ 0 ≤ (s (6 + h)).toInt ∧ (s (6 + h)).toInt ≤ 9)) ∧
  (∀ h : Nat, h < nh → 0 ≤ (row (4 + h)).toInt ∧ (row (4 + h)).toInt < nf) ∧
  (∀ h : Nat, h < nh → row (22 + h) = s (18 + h)) ∧
  (∀ j : Nat, j < 36 → row (28 + j) = s (30 + j) ∧ 0 ≤ (s (30 + j)).toInt ∧ (s (30 + j)).toInt ≤ 99) ∧
  (row 0 = s 66 ∧ row 1 = s 67) ∧
  (∀ i k : Nat, i < 6 → k < 6 → ¬ (i < nh ∧ k < nh) → s (30 + (6 * i + k)) = 0)
def relB (nh : Nat) (row s : Nat → Int32) : Prop := row 3 = Int32.ofNat (buN s nh) ∧ ∀ h : Nat, h < nh → s (24 + h) = 0 ∨ s (24 + h) = 1
def relN (nh nf : Nat) (row s : Nat → Int32) : Prop := relM nh nf row s ∧ relB nh row s
section DC
variable {NH NF : Nat} {row s : Nat → Int32} {nh p q : Int32} {h i k : Nat}
theorem m_sit (hR : relM NH NF row s) (hh : h < NH) (hc : s h ≠ -1) : s h = row (4 + h) := ((hR.2.1 h hh).resolve_left hc).1
theorem m_in (hR : relM NH NF row s) (hh : h < NH) (hc : s h ≠ -1) : ∃ f : Nat, (s h).toInt = (f : Int) ∧ f < NF := by
  have e := hR.2.2.1 h hh
  rw [← m_sit hR hh hc] at e
  exact ⟨(s h).toInt.toNat, by omega, by omega⟩
theorem c_sits {Q : Int32 → Prop} (ep : p.toInt = (h : Int)) (hh : h < 6) (hq : Q (row (4 + h))) : wq_X1_sits row p Q := fun x1 e1 => by
  have e := i4 e1 ep (by omega)
  exact ⟨t_in (by omega) (by omega), fun x2 e2 => by rw [e2, t_clamp e]; exact hq⟩
theorem c_strong {Q : Int32 → Prop} (ep : p.toInt = (h : Int)) (hh : h < 6) (hq : Q (row (10 + h))) : wq_X1_strong row p Q := fun x1 e1 => by
  have e := i10 e1 ep (by omega)
  exact ⟨t_in (by omega) (by omega), fun x2 e2 => by rw [e2, t_clamp e]; exact hq⟩
theorem c_still {Q : Int32 → Prop} (ep : p.toInt = (h : Int)) (hh : h < 6) (hq : Q (row (16 + h))) : wq_X1_still row p Q := fun x1 e1 => by
  have e := i16 e1 ep (by omega)
  exact ⟨t_in (by omega) (by omega), fun x2 e2 => by rw [e2, t_clamp e]; exact hq⟩
theorem c_leaps {Q : Int32 → Prop} (ep : p.toInt = (h : Int)) (hh : h < 6) (hq : Q (row (22 + h))) : wq_X1_leaps row p Q := fun x1 e1 => by
  have e := i22 e1 ep (by omega)
  exact ⟨t_in (by omega) (by omega), fun x2 e2 => by rw [e2, t_clamp e]; exact hq⟩
theorem c_day {Q : Int32 → Prop} (hq : Q (row 0)) : wq_X1_day row Q := fun x1 e1 => by rw [e1, t_c0]; exact hq
theorem c_owesTo {Q : Int32 → Prop} (ep : p.toInt = (i : Int)) (hi : i < 6) (eq : q.toInt = (k : Int)) (hk : k < 6) (hq : Q (row (28 + (6 * i + k)))) : wq_X1_owesTo row p q Q := fun x1 e1 x2 e2 => by
  have e := ixc e1 ep hi e2 eq hk
  exact ⟨t_in (by omega) (by omega), fun x3 e3 => by rw [e3, t_clamp e]; exact hq⟩
theorem ca_bit (hh : h < NH) : (caN s NH).testBit h = true ↔ s h = -1 := by
  rw [show caN s NH = orN (fun h => decide (s h = -1)) NH from rfl, orN_bit]; simp [hh]
theorem ca_lt (H6 : NH ≤ 6) : caN s NH < 256 := orN_le (by omega)
theorem bu_lt (H6 : NH ≤ 6) : buN s NH < 256 := orN_le (by omega)
theorem si_lt (H6 : NH ≤ 6) : siN s p NH < 256 := orN_le (by omega)
theorem bu_bit (hh : h < NH) : (buN s NH).testBit h = true ↔ s (24 + h) = 1 := by
  rw [show buN s NH = orN (fun h => decide (s (24 + h) = 1)) NH from rfl, orN_bit]; simp [hh]
theorem si_bit (hh : h < NH) : (siN s p NH).testBit h = true ↔ s h = p := by
  rw [show siN s p NH = orN (fun h => decide (s h = p)) NH from rfl, orN_bit]; simp [hh]
theorem c_caught {Q : Int32 → Prop} (hR : row 2 = Int32.ofNat (caN s NH)) (H6 : NH ≤ 6) (ep : p.toInt = (h : Int)) (hh : h < NH) (q1 : s h = -1 → Q 1) (q0 : s h ≠ -1 → Q 0) : wq_X1_isCaught row p Q := by
  intro x1 e1
  rw [k_c2, hR] at e1
  have hb := b8_bit (X := caN s NH) (j := h) e1 (ca_lt H6) ep (by omega)
  rw [ca_bit hh] at hb
  exact ⟨fun c => q0 (fun w => c (hb.mpr w)), fun c => q1 (hb.mp c)⟩
theorem c_owes {Q : Int32 → Prop} (hR : relM NH NF row s) (H6 : NH ≤ 6) (eh : nh.toInt = (NH : Int)) (ep : p.toInt = (h : Int)) (hh : h < 6) (hq : Q (owS s NH h)) : wq_X1_owes nh row p Q := by
  have e : sumI (fun o => row (28 + (6 * h + o))) NH = owS s NH h := sumI_ext NH (fun o ho => (hR.2.2.2.2.1 (6 * h + o) (by omega)).1)
  have go : ∀ (m : Nat) (l2 l3 : Int32) (k : Nat), l3.toInt = (k : Int) → k ≤ NH → l2 = sumI (fun o => row (28 + (6 * h + o))) k → NH - k < m → wl_X1_owes_4 nh row Q m p l2 l3 := by
    intro m
    induction m with
    | zero => intro l2 l3 k h1 h2 h3 h4; omega
    | succ m ih =>
      intro l2 l3 k h1 h2 h3 h4
      refine ⟨fun c => ?_, fun c => c_owesTo ep hh h1 (by rw [t_le] at c; omega) (fun x3 e3 x4 e4 => ?_)⟩
      · rw [t_le] at c
        rw [h3, show k = NH by omega, e]; exact hq
      · rw [t_le] at c
        exact ih x3 x4 (k + 1) (by rw [e4, t_inc (by omega), h1]; omega) (by omega) (by rw [e3, h3]; rfl) (by omega)
  exact ⟨7, go 7 0 0 0 t_0 (by omega) rfl (by omega)⟩
theorem c_owed {Q : Int32 → Prop} (hR : relM NH NF row s) (H6 : NH ≤ 6) (eh : nh.toInt = (NH : Int)) (ep : p.toInt = (h : Int)) (hh : h < 6) (hq : Q (odS s NH h)) : wq_X1_owed nh row p Q := by
  have e : sumI (fun o => row (28 + (6 * o + h))) NH = odS s NH h := sumI_ext NH (fun o ho => (hR.2.2.2.2.1 (6 * o + h) (by omega)).1)
  have go : ∀ (m : Nat) (l2 l3 : Int32) (k : Nat), l3.toInt = (k : Int) → k ≤ NH → l2 = sumI (fun o => row (28 + (6 * o + h))) k → NH - k < m → wl_X1_owed_4 nh row Q m p l2 l3 := by
    intro m
    induction m with
    | zero => intro l2 l3 k h1 h2 h3 h4; omega
    | succ m ih =>
      intro l2 l3 k h1 h2 h3 h4
      refine ⟨fun c => ?_, fun c => c_owesTo h1 (by rw [t_le] at c; omega) ep hh (fun x3 e3 x4 e4 => ?_)⟩
      · rw [t_le] at c
        rw [h3, show k = NH by omega, e]; exact hq
      · rw [t_le] at c
        exact ih x3 x4 (k + 1) (by rw [e4, t_inc (by omega), h1]; omega) (by omega) (by rw [e3, h3]; rfl) (by omega)
  exact ⟨7, go 7 0 0 0 t_0 (by omega) rfl (by omega)⟩
theorem si_yes {l : Int32} {j : Nat} (e : l = Int32.ofNat (siN s p k)) (hk : k < 8) (ej : q.toInt = (k : Int)) (w : s k = p) : l ||| (1 <<< (q &&& 31)) = Int32.ofNat (siN s p (k + 1)) := by
  rw [b8_or e (orN_le (by omega)) ej hk]
  show _ = Int32.ofNat (if decide (s k = p) = true then siN s p k ||| (1 <<< k) else siN s p k)
  rw [if_pos (decide_eq_true w)]
theorem si_no (w : s k ≠ p) : siN s p (k + 1) = siN s p k := by
  show (if decide (s k = p) = true then siN s p k ||| (1 <<< k) else siN s p k) = _
  rw [if_neg (by rw [decide_eq_true_eq]; exact w)]
theorem c_seatedIn {Q : Int32 → Prop} (hR : relM NH NF row s) (H6 : NH ≤ 6) (eh : nh.toInt = (NH : Int)) (hp : p ≠ -1) (hq : Q (Int32.ofNat (siN s p NH))) : wq_X1_seatedIn nh row p Q := by
  have go : ∀ (m : Nat) (l2 l3 : Int32) (k : Nat), l3.toInt = (k : Int) → k ≤ NH → l2 = Int32.ofNat (siN s p k) → NH - k < m → wl_X1_seatedIn_4 nh row Q m p l2 l3 := by
    intro m
    induction m with
    | zero => intro l2 l3 k h1 h2 h3 h4; omega
    | succ m ih =>
      intro l2 l3 k h1 h2 h3 h4
      have nx : ∀ x : Int32, x = l3 + 1 → x.toInt = ((k + 1 : Nat) : Int) := fun x e => by rw [e, t_inc (by omega), h1]; omega
      refine ⟨fun c => ?_, fun c => ?_⟩
      · rw [t_le] at c
        rw [h3, show k = NH by omega]; exact hq
      · rw [t_le] at c
        have hk : k < NH := by omega
        refine c_caught hR.1 H6 h1 hk (fun w => ⟨fun _ x7 e7 => ih l2 x7 (k + 1) (nx x7 e7) (by omega) ?_ (by omega), fun z => absurd z (by decide)⟩) (fun w => ⟨fun z => absurd rfl z, fun _ => c_sits h1 (by omega) ⟨fun z x7 e7 => ih l2 x7 (k + 1) (nx x7 e7) (by omega) ?_ (by omega), fun z x6 e6 x7 e7 => ih x6 x7 (k + 1) (nx x7 e7) (by omega) ?_ (by omega)⟩⟩)
        · rw [si_no (by rw [w]; exact fun d => hp d.symm)]; exact h3
        · rw [si_no (by rw [m_sit hR hk w]; exact z)]; exact h3
        · rw [e6]; exact si_yes (j := 0) h3 (by omega) h1 (by rw [m_sit hR hk w]; exact z)
  exact ⟨7, go 7 0 0 0 t_0 (by omega) rfl (by omega)⟩
end DC
/-! the reference's reading of its row -/
section DM
variable {NH NF : Nat} {s : Nat → Int32} {nh p q : Int32} {h i k : Nat}
theorem y_caught {Q : Int32 → Prop} (ep : p.toInt = (h : Int)) (hh : h < 6) (q1 : s h = -1 → Q 1) (q0 : s h ≠ -1 → Q 0) : wq_X11_isCaught s p Q := fun x1 e1 => by
  have e := i0 e1 ep (by omega)
  refine ⟨t_in (by omega) (by omega), fun x2 e2 => ?_⟩
  rw [t_clamp e] at e2
  exact ⟨fun c => q0 (by rw [← e2]; exact c), fun c => q1 (by rw [← e2]; exact c)⟩
theorem yq_owes {Q : Int32 → Prop} (H6 : NH ≤ 6) (eh : nh.toInt = (NH : Int)) (ep : p.toInt = (h : Int)) (hh : h < 6) (hq : Q (owS s NH h)) : wq_X11_owes nh s p Q := by
  have go : ∀ (m : Nat) (l2 l3 : Int32) (k : Nat), l3.toInt = (k : Int) → k ≤ NH → l2 = sumI (fun o => s (30 + (6 * h + o))) k → NH - k < m → wl_X11_owes_4 nh s Q m p l2 l3 := by
    intro m
    induction m with
    | zero => intro l2 l3 k h1 h2 h3 h4; omega
    | succ m ih =>
      intro l2 l3 k h1 h2 h3 h4
      refine ⟨fun c => ?_, fun c x2 e2 x3 e3 => ?_⟩
      · rw [t_le] at c
        rw [h3, show k = NH by omega]; exact hq
      · rw [t_le] at c
        have e := ixm e2 ep hh e3 h1 (by omega)
        refine ⟨t_in (by omega) (by omega), fun x4 e4 x5 e5 x6 e6 => ?_⟩
        rw [t_clamp e] at e4
        exact ih x5 x6 (k + 1) (by rw [e6, t_inc (by omega), h1]; omega) (by omega) (by rw [e5, e4, h3]; rfl) (by omega)
  exact ⟨7, go 7 0 0 0 t_0 (by omega) rfl (by omega)⟩
theorem yq_owed {Q : Int32 → Prop} (H6 : NH ≤ 6) (eh : nh.toInt = (NH : Int)) (ep : p.toInt = (h : Int)) (hh : h < 6) (hq : Q (odS s NH h)) : wq_X11_isOwed nh s p Q := by
  have go : ∀ (m : Nat) (l2 l3 : Int32) (k : Nat), l3.toInt = (k : Int) → k ≤ NH → l2 = sumI (fun o => s (30 + (6 * o + h))) k → NH - k < m → wl_X11_isOwed_4 nh s Q m p l2 l3 := by
    intro m
    induction m with
    | zero => intro l2 l3 k h1 h2 h3 h4; omega
    | succ m ih =>
      intro l2 l3 k h1 h2 h3 h4
      refine ⟨fun c => ?_, fun c x2 e2 x3 e3 => ?_⟩
      · rw [t_le] at c
        rw [h3, show k = NH by omega]; exact hq
      · rw [t_le] at c
        have e := ixm e2 h1 (by omega) e3 ep hh
        refine ⟨t_in (by omega) (by omega), fun x4 e4 x5 e5 x6 e6 => ?_⟩
        rw [t_clamp e] at e4
        exact ih x5 x6 (k + 1) (by rw [e6, t_inc (by omega), h1]; omega) (by omega) (by rw [e5, e4, h3]; rfl) (by omega)
  exact ⟨7, go 7 0 0 0 t_0 (by omega) rfl (by omega)⟩
theorem y_sitIn {Q : Int32 → Prop} (H6 : NH ≤ 6) (eh : nh.toInt = (NH : Int)) (hq : Q (Int32.ofNat (siN s p NH))) : wq_X11_sitIn nh s p Q := by
  have go : ∀ (m : Nat) (l2 l3 : Int32) (k : Nat), l3.toInt = (k : Int) → k ≤ NH → l2 = Int32.ofNat (siN s p k) → NH - k < m → wl_X11_sitIn_4 nh s Q m p l2 l3 := by
    intro m
    induction m with
    | zero => intro l2 l3 k h1 h2 h3 h4; omega
    | succ m ih =>
      intro l2 l3 k h1 h2 h3 h4
      have nx : ∀ x : Int32, x = l3 + 1 → x.toInt = ((k + 1 : Nat) : Int) := fun x e => by rw [e, t_inc (by omega), h1]; omega
      refine ⟨fun c => ?_, fun c x2 e2 => ?_⟩
      · rw [t_le] at c
        rw [h3, show k = NH by omega]; exact hq
      · rw [t_le] at c
        have e := i0 e2 h1 (by omega)
        refine ⟨t_in (by omega) (by omega), fun x3 e3 => ?_⟩
        rw [t_clamp e] at e3
        refine ⟨fun z x5 e5 x6 e6 => ih x5 x6 (k + 1) (nx x6 e6) (by omega) ?_ (by omega), fun z x5 e5 x6 e6 => ih x5 x6 (k + 1) (nx x6 e6) (by omega) ?_ (by omega)⟩
        · rw [si_no (by rw [← e3]; exact z), e5, Int32.or_zero]; exact h3
        · rw [e5]; exact si_yes (j := 0) h3 (by omega) h1 (by rw [← e3]; exact z)
  exact ⟨7, go 7 0 0 0 t_0 (by omega) rfl (by omega)⟩
end DM
