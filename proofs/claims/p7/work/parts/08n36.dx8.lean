/-! a day leaves both rows held against each other -/
theorem rel_pass {NH NF : Nat} {row s hr : Nat → Int32} {sfB : Nat → Bool} (hR : relN NH NF row s) (H6 : NH ≤ 6) (hh : ∀ h : Nat, h < NH → 0 ≤ (hr (2 * h + 1)).toInt ∧ (hr (2 * h + 1)).toInt ≤ 9) : ∃ r : Nat → Int32, relN NH NF r (paS sfB hr NH s) := by
  have h1 : ∀ k : Nat, k ≤ NH → ∃ r : Nat → Int32, relM NH NF r (psF s k) := by
    intro k
    induction k with
    | zero => intro _; exact ⟨row, hR.1⟩
    | succ k ih =>
      intro hk
      obtain ⟨r, hr⟩ := ih (by omega)
      show ∃ r : Nat → Int32, relM NH NF r (psS (psF s k) k)
      unfold psS
      by_cases c : psF s k k ≠ -1 ∧ psF s k (24 + k) = 0
      · rw [if_pos c]; exact ⟨_, rM_still hr H6 (by omega)⟩
      · rw [if_neg c]; exact ⟨r, hr⟩
  obtain ⟨r1, q1⟩ := h1 NH (Nat.le_refl _)
  have h2 : ∃ r : Nat → Int32, relM NH NF r (ndS (psF s NH)) := by
    refine ⟨_, rM_same (rM_time (x := psF s NH 66 + 1) (y := psF s NH 67) q1 H6) H6 (fun j _ => rfl) (fun j hj => ?_)⟩
    unfold ndS
    by_cases z1 : j = 67
    · rw [z1, pk_us, pk_un (by omega)]
    · rw [pk_un z1]
  obtain ⟨r2, q2⟩ := h2
  have h3 : ∀ (t : Nat → Int32) (h : Nat), h < NH → (∃ r : Nat → Int32, relM NH NF r t) → ∀ o : Nat, o ≤ NH → ∃ r : Nat → Int32, relM NH NF r (dpF t h o) := by
    intro t h hh2 ht o
    induction o with
    | zero => intro _; exact ht
    | succ o ih =>
      intro ho
      obtain ⟨r, hr⟩ := ih (by omega)
      exact ⟨_, rM_zero (rM_zero hr H6 (by omega)) H6 (by omega)⟩
  have h4 : ∀ (t : Nat → Int32), (∃ r : Nat → Int32, relM NH NF r t) → ∀ k : Nat, k ≤ NH → ∃ r : Nat → Int32, relM NH NF r (stF sfB hr NH t k) := by
    intro t ht k
    induction k with
    | zero => intro _; exact ht
    | succ k ih =>
      intro hk
      obtain ⟨r, hr9⟩ := ih (by omega)
      show ∃ r : Nat → Int32, relM NH NF r (stS sfB hr NH (stF sfB hr NH t k) k)
      unfold stS
      by_cases c : wbB sfB (stF sfB hr NH t k) k = true
      · rw [if_pos c]
        exact h3 _ k (by omega) ⟨_, rM_catch hr9 H6 (by omega) rfl⟩ NH (Nat.le_refl _)
      · rw [if_neg c]
        by_cases d : stF sfB hr NH t k k = -1
        · rw [if_pos d]; exact ⟨r, hr9⟩
        · rw [if_neg d]
          exact ⟨_, rM_still (rM_strong hr9 H6 (by omega) (hh k (by omega))) H6 (by omega)⟩
  have h5 : ∃ r : Nat → Int32, relM NH NF r (if ndS (psF s NH) 66 ≤ 31 then ndS (psF s NH) else yrS (stF sfB hr NH (ndS (psF s NH)) NH)) := by
    by_cases c : ndS (psF s NH) 66 ≤ 31
    · rw [if_pos c]; exact ⟨r2, q2⟩
    · rw [if_neg c]
      obtain ⟨r, q⟩ := h4 _ ⟨r2, q2⟩ NH (Nat.le_refl _)
      unfold yrS
      exact ⟨_, rM_time q H6⟩
  obtain ⟨r, q⟩ := h5
  refine ⟨upd r 3 0, ?_, ?_, fun j hj => ?_⟩
  · unfold paS
    exact rM_same q H6 (fun j hj => pk_un hj) (fun j hj => bz_o 6 (by omega))
  · rw [pk_us]
    unfold buN paS
    rw [orN_ext (R := fun _ => false) NH (fun j hj => by rw [bz_z 6 (by omega)]; rfl)]
    have z : ∀ k : Nat, orN (fun _ => false) k = 0 := fun k => by
      induction k with
      | zero => rfl
      | succ k ih => exact ih
    rw [z NH]; rfl
  · unfold paS
    rw [bz_z 6 (by omega)]; exact Or.inl rfl
theorem pa_67 {NH : Nat} {s hr : Nat → Int32} {sfB : Nat → Bool} (H6 : NH ≤ 6) : paS sfB hr NH s 67 = s 67 ∨ paS sfB hr NH s 67 = s 67 + 1 := by
  have e : ndS (psF s NH) 67 = s 67 := by
    unfold ndS
    rw [pk_un (by omega)]; exact ps_o NH (by omega)
  unfold paS
  rw [bz_o 6 (by omega)]
  by_cases c : ndS (psF s NH) 66 ≤ 31
  · rw [if_pos c]; exact Or.inl e
  · rw [if_neg c]
    unfold yrS
    rw [pk_us, pk_un (by omega), st_keep H6 NH H6 (by omega), e]; exact Or.inr rfl
/-! steps that are no loops, by both -/
def alB (F : Nat → Int) (cs : List (Int × Int)) (nh : Nat) (v : wLf) (s : Nat → Int32) : Bool :=
  if v.1 = 0 then decide (cnS F cs s nh v.2.1.toNat v.2.2.1.toNat) else if v.1 = 1 then decide (bxS s v.2.1.toNat v.2.2.1.toNat) else if v.1 = 2 then decide (pyS s v.2.1.toNat v.2.2.1.toNat (Int32.ofInt v.2.2.2)) else decide (s 67 ≠ 40)
def doF (sfB : Nat → Bool) (hr : Nat → Int32) (nh : Nat) (v : wLf) (s : Nat → Int32) : Nat → Int32 :=
  if v.1 = 0 then lyS s v.2.1.toNat (Int32.ofInt v.2.2.1) else if v.1 = 1 then bxF s v.2.1.toNat v.2.2.1.toNat (loS s v.2.1.toNat v.2.2.1.toNat) else if v.1 = 2 then pyF s v.2.1.toNat v.2.2.1.toNat (Int32.ofInt v.2.2.2) else paS sfB hr nh s
/-- a step whose numbers are good -/
def wfL (NH NF : Nat) (v : wLf) : Prop := (v.1 = 0 ∧ 0 ≤ v.2.1 ∧ v.2.1 < NH ∧ 0 ≤ v.2.2.1 ∧ v.2.2.1 < NF) ∨ (v.1 = 1 ∧ 0 ≤ v.2.1 ∧ v.2.1 < NH ∧ 0 ≤ v.2.2.1 ∧ v.2.2.1 < NH) ∨ (v.1 = 2 ∧ 0 ≤ v.2.1 ∧ v.2.1 < NH ∧ 0 ≤ v.2.2.1 ∧ v.2.2.1 < NH ∧ 1 ≤ v.2.2.2 ∧ v.2.2.2 ≤ 99) ∨ v.1 = 3
def yrOk (s : Nat → Int32) : Prop := 0 ≤ (s 67).toInt ∧ (s 67).toInt ≤ 40
section DS
variable {NH NF : Nat} {row s : Nat → Int32} {nh nx p sf : Int32} {cs : List (Int × Int)} {ln ct : Int32} {kd vl cd oc X Y fo fx hr sr : Nat → Int32} {F : Nat → Int} {sfB : Nat → Bool} {v : wLf}
theorem ofI_t {x : Int} (h0 : -2147483648 ≤ x) (h1 : x < 2147483648) : (Int32.ofInt x).toInt = x := Int32.toInt_ofInt_of_le h0 h1
theorem do_ok (H6 : NH ≤ 6) (h8 : NF ≤ 8) (hh : ∀ h : Nat, h < NH → 0 ≤ (hr (2 * h + 1)).toInt ∧ (hr (2 * h + 1)).toInt ≤ 9) (hR : relN NH NF row s) (hy : yrOk s) (hv : wfL NH NF v) (ha : alB F cs NH v s = true) : (∃ r : Nat → Int32, relN NH NF r (doF sfB hr NH v s)) ∧ yrOk (doF sfB hr NH v s) := by
  unfold alB at ha
  unfold doF yrOk
  rcases hv with ⟨e, a1, a2, a3, a4⟩ | ⟨e, a1, a2, a3, a4⟩ | ⟨e, a1, a2, a3, a4, a5, a6⟩ | e
  · rw [if_pos e] at ha ⊢
    have ha := of_decide_eq_true ha
    refine ⟨⟨_, rel_leap (f := v.2.2.1.toNat) hR H6 (by omega) ha.1 (by rw [ofI_t (by omega) (by omega)]; omega) (by omega)⟩, ?_⟩
    rw [ly_o (by omega) (by omega) (by omega) (by omega)]; exact hy
  · rw [if_neg (by omega), if_pos e] at ha ⊢
    have ha := of_decide_eq_true ha
    have hl := lo_or (s := s) (a := v.2.1.toNat) (b := v.2.2.1.toNat)
    refine ⟨⟨_, rel_fight hR H6 (by omega) (by omega) ha hl⟩, ?_⟩
    rw [bf_o (by omega) (by omega) (by omega) (by omega) (by omega)]; exact hy
  · rw [if_neg (by omega), if_neg (by omega), if_pos e] at ha ⊢
    have ha := of_decide_eq_true ha
    refine ⟨⟨_, rel_pay hR H6 (by omega) (by omega) (by rw [ofI_t (by omega) (by omega)]; omega) ha⟩, ?_⟩
    unfold pyF
    rw [pk_un (by omega)]; exact hy
  · rw [if_neg (by omega), if_neg (by omega), if_neg (by omega)] at ha ⊢
    have ha := of_decide_eq_true ha
    refine ⟨rel_pass hR H6 hh, ?_⟩
    unfold yrOk at hy
    have h40 : (s 67).toInt ≠ 40 := fun d => ha (t_eq.mpr (by rw [d, t_40]))
    rcases pa_67 (sfB := sfB) (hr := hr) (s := s) H6 with w | w
    · rw [w]; exact hy
    · rw [w, t_inc (by omega)]; omega
/-- the class's step at a place of its rows -/
theorem c_allowed {A : wA} {fc pl : Nat → Int32} {Q : Int32 → (Nat → Int32) → (Nat → Int32) → Prop} {i : Nat} (hF : ∀ j : Nat, j < 2 * NF → 0 ≤ F j ∧ F j ≤ 30) (H6 : NH ≤ 6) (h8 : NF ≤ 8) (hpr : pr NF X Y F) (eh : nh.toInt = (NH : Int)) (hL : relLc cs ln kd vl ct cd oc) (hR : relN NH NF row s) (hy : yrOk s) (hv : wfL NH NF v) (ep : p.toInt = (i : Int)) (hi : i < 50) (g1 : (A.1 i).toInt = v.1) (g2 : (A.2.1 i).toInt = v.2.1) (g3 : (A.2.2.1 i).toInt = v.2.2.1) (g4 : (A.2.2.2 i).toInt = v.2.2.2)
    (q1 : alB F cs NH v s = true → ∀ fc pl : Nat → Int32, Q 1 fc pl) (q0 : alB F cs NH v s = false → ∀ fc pl : Nat → Int32, Q 0 fc pl) : wq_X9_isAllowed A.1 row A.2.1 A.2.2.1 nh X Y ln kd vl A.2.2.2 fc pl p Q := by
  refine ⟨t_in (by omega) (by omega), fun x1 e1 => ?_⟩
  rw [t_clamp ep] at e1
  rw [← e1] at g1
  have rd : ∀ (B : Nat → Int32) (x : Int32), x = B p.toNatClampNeg → x = B i := fun B x e => by rw [e, t_clamp ep]
  unfold alB at q1 q0
  rcases hv with ⟨e, a1, a2, a3, a4⟩ | ⟨e, a1, a2, a3, a4⟩ | ⟨e, a1, a2, a3, a4, a5, a6⟩ | e
  · rw [if_pos e] at q1 q0
    refine ⟨fun c => by omega, fun _ => ⟨t_in (by omega) (by omega), fun x5 e5 => ⟨t_in (by omega) (by omega), fun x6 e6 => ?_⟩⟩, fun c => by rw [c, t_1] at g1; omega, fun c => by rw [c, t_2] at g1; omega⟩
    rw [rd _ _ e5, rd _ _ e6]
    exact c_couldLeap (h := v.2.1.toNat) (f := v.2.2.1.toNat) hF h8 hpr hR.1 H6 eh hL (by omega) (by omega) (by omega) (by omega) (fun w fc pl => ⟨by decide, q1 (decide_eq_true w) fc pl⟩) (fun w fc pl => ⟨by decide, q0 (decide_eq_false w) fc pl⟩)
  · rw [if_neg (by omega), if_pos e] at q1 q0
    refine ⟨fun c => by omega, fun c => by rw [c, t_0] at g1; omega, fun _ => ⟨t_in (by omega) (by omega), fun x5 e5 => ⟨t_in (by omega) (by omega), fun x6 e6 => ?_⟩⟩, fun c => by rw [c, t_2] at g1; omega⟩
    rw [rd _ _ e5, rd _ _ e6]
    exact c_couldFight (a := v.2.1.toNat) (b := v.2.2.1.toNat) hR.1 H6 (by omega) (by omega) (by omega) (by omega) (fun w => ⟨by decide, q1 (decide_eq_true w) _ _⟩) (fun w => ⟨by decide, q0 (decide_eq_false w) _ _⟩)
  · rw [if_neg (by omega), if_neg (by omega), if_pos e] at q1 q0
    refine ⟨fun c => by omega, fun c => by rw [c, t_0] at g1; omega, fun c => by rw [c, t_1] at g1; omega, fun _ => ⟨t_in (by omega) (by omega), fun x5 e5 => ⟨t_in (by omega) (by omega), fun x6 e6 => ⟨t_in (by omega) (by omega), fun x7 e7 => ?_⟩⟩⟩⟩
    have en : x7 = Int32.ofInt v.2.2.2 := by rw [rd _ _ e7]; exact ofI g4
    rw [rd _ _ e5, rd _ _ e6, en]
    exact c_couldPay (a := v.2.1.toNat) (b := v.2.2.1.toNat) hR.1 H6 (by omega) (by omega) (by omega) (by omega) (fun w => ⟨by decide, q1 (decide_eq_true w) _ _⟩) (fun w => ⟨by decide, q0 (decide_eq_false w) _ _⟩)
  · rw [if_neg (by omega), if_neg (by omega), if_neg (by omega)] at q1 q0
    refine ⟨fun _ x3 e3 => ?_, fun c => by rw [c, t_0] at g1; omega, fun c => by rw [c, t_1] at g1; omega, fun c => by rw [c, t_2] at g1; omega⟩
    rw [k_c1, hR.1.2.2.2.2.2.1.2] at e3
    unfold yrOk at hy
    refine ⟨fun c => q0 (decide_eq_false (fun d => d (t_eq.mpr ?_))) _ _, fun c => q1 (decide_eq_true (fun d => c ?_)) _ _⟩
    · rw [t_le, t_40, e3] at c
      rw [t_40]; omega
    · rw [t_le, t_40, e3, d, t_40]; omega
theorem c_do {A : wA} {Q : (Nat → Int32) → Prop} {i : Nat} (H6 : NH ≤ 6) (h8 : NF ≤ 8) (eh : nh.toInt = (NH : Int)) (hs : sf = Int32.ofNat (orN sfB NF)) (hh : relH NH sr hr) (hR : relN NH NF row s) (hv : wfL NH NF v) (ha : alB F cs NH v s = true) (ep : p.toInt = (i : Int)) (hi : i < 50) (g1 : (A.1 i).toInt = v.1) (g2 : (A.2.1 i).toInt = v.2.1) (g3 : (A.2.2.1 i).toInt = v.2.2.1) (g4 : (A.2.2.2 i).toInt = v.2.2.2)
    (hq : ∀ r : Nat → Int32, relN NH NF r (doF sfB hr NH v s) → Q r) : wq_X9_doStep A.1 nh sf sr A.2.1 A.2.2.1 A.2.2.2 row p Q := by
  refine ⟨t_in (by omega) (by omega), fun x1 e1 => ?_⟩
  rw [t_clamp ep] at e1
  rw [← e1] at g1
  have rd : ∀ (B : Nat → Int32) (x : Int32), x = B p.toNatClampNeg → x = B i := fun B x e => by rw [e, t_clamp ep]
  unfold alB at ha
  unfold doF at hq
  rcases hv with ⟨e, a1, a2, a3, a4⟩ | ⟨e, a1, a2, a3, a4⟩ | ⟨e, a1, a2, a3, a4, a5, a6⟩ | e
  · rw [if_pos e] at ha hq
    have ha := of_decide_eq_true ha
    refine ⟨fun c => by omega, fun _ => ⟨t_in (by omega) (by omega), fun x5 e5 => ⟨t_in (by omega) (by omega), fun x6 e6 => ?_⟩⟩, fun c => by rw [c, t_1] at g1; omega, fun c => by rw [c, t_2] at g1; omega⟩
    have e6' : x6 = Int32.ofInt v.2.2.1 := by rw [rd _ _ e6]; exact ofI g3
    rw [rd _ _ e5, e6']
    exact c_leapTo (h := v.2.1.toNat) (by omega) (by omega) (hq _ (rel_leap (f := v.2.2.1.toNat) hR H6 (by omega) ha.1 (by rw [ofI_t (by omega) (by omega)]; omega) (by omega)))
  · rw [if_neg (by omega), if_pos e] at ha hq
    have ha := of_decide_eq_true ha
    refine ⟨fun c => by omega, fun c => by rw [c, t_0] at g1; omega, fun _ => ⟨t_in (by omega) (by omega), fun x5 e5 => ⟨t_in (by omega) (by omega), fun x6 e6 => ?_⟩⟩, fun c => by rw [c, t_2] at g1; omega⟩
    rw [rd _ _ e5, rd _ _ e6]
    exact c_fight (a := v.2.1.toNat) (b := v.2.2.1.toNat) hR.1 H6 (by omega) (by omega) (by omega) (by omega) ha (hq _ (rel_fight hR H6 (by omega) (by omega) ha lo_or))
  · rw [if_neg (by omega), if_neg (by omega), if_pos e] at ha hq
    have ha := of_decide_eq_true ha
    refine ⟨fun c => by omega, fun c => by rw [c, t_0] at g1; omega, fun c => by rw [c, t_1] at g1; omega, fun _ => ⟨t_in (by omega) (by omega), fun x5 e5 => ⟨t_in (by omega) (by omega), fun x6 e6 => ⟨t_in (by omega) (by omega), fun x7 e7 => ?_⟩⟩⟩⟩
    have en : x7 = Int32.ofInt v.2.2.2 := by rw [rd _ _ e7]; exact ofI g4
    rw [rd _ _ e5, rd _ _ e6, en]
    exact c_payBack (a := v.2.1.toNat) (b := v.2.2.1.toNat) (by omega) (by omega) (by omega) (by omega) (hq _ (rel_pay hR H6 (by omega) (by omega) (by rw [ofI_t (by omega) (by omega)]; omega) ha))
  · rw [if_neg (by omega), if_neg (by omega), if_neg (by omega)] at ha hq
    exact ⟨fun _ => c_passDay hR H6 h8 eh hs hh hq, fun c => by rw [c, t_0] at g1; omega, fun c => by rw [c, t_1] at g1; omega, fun c => by rw [c, t_2] at g1; omega⟩
/-- the reference's step -/
theorem y_isDone {fc st : Nat → Int32} {p1 p2 p3 p4 : Int32} {Q : Int32 → (Nat → Int32) → (Nat → Int32) → (Nat → Int32) → Prop} (hF : ∀ j : Nat, j < 2 * NF → 0 ≤ F j ∧ F j ≤ 30) (H6 : NH ≤ 6) (h8 : NF ≤ 8) (hpm : pm (2 * NF) fo F) (eh : nh.toInt = (NH : Int)) (hL : relLc cs ln kd vl ct cd oc) (hs : sfM NF sfB nx fo fx) (hg : rgS NH NF s) (hv : wfL NH NF v) (g1 : p1.toInt = v.1) (g2 : p2.toInt = v.2.1) (g3 : p3.toInt = v.2.2.1) (g4 : p4.toInt = v.2.2.2)
    (q1 : alB F cs NH v s = true → ∀ fc st : Nat → Int32, Q 1 (doF sfB hr NH v s) fc st) (q0 : alB F cs NH v s = false → ∀ fc st : Nat → Int32, Q 0 s fc st) : wq_X11_isDone nh nx ct fo fx hr cd oc s fc st p1 p2 p3 p4 Q := by
  unfold alB at q1 q0
  unfold doF at q1
  have no : ∀ (k : Int32) (j : Int), k.toInt = j → v.1 ≠ j → ¬ p1 = k := fun k j e d w => d (by rw [← g1, w, e])
  rcases hv with ⟨e, a1, a2, a3, a4⟩ | ⟨e, a1, a2, a3, a4⟩ | ⟨e, a1, a2, a3, a4, a5, a6⟩ | e
  · rw [if_pos e] at q1 q0
    refine ⟨fun c => absurd (t_eq.mpr (by rw [g1, e, t_0])) c, fun _ => ?_⟩
    have e3 : p3 = Int32.ofInt v.2.2.1 := ofI g3
    rw [if_pos e, ← e3] at q1
    exact y_leapsTo (h := v.2.1.toNat) (f := v.2.2.1.toNat) hF h8 hpm hg H6 eh hL (by omega) (by omega) (by omega) (by omega) (fun w fc st => ⟨by decide, q1 (decide_eq_true w) fc st⟩) (fun w fc st => ⟨by decide, q0 (decide_eq_false w) fc st⟩)
  · rw [if_neg (by omega), if_pos e] at q1 q0
    rw [if_neg (by omega), if_pos e] at q1
    refine ⟨fun _ => ⟨fun c => absurd (t_eq.mpr (by rw [g1, e, t_1])) c, fun _ => ?_⟩, fun c => absurd c (no 0 0 t_0 (by omega))⟩
    exact y_boxes (a := v.2.1.toNat) (b := v.2.2.1.toNat) H6 (by omega) (by omega) (by omega) (by omega) (fun w => ⟨by decide, q1 (decide_eq_true w) _ _⟩) (fun w => ⟨by decide, q0 (decide_eq_false w) _ _⟩)
  · rw [if_neg (by omega), if_neg (by omega), if_pos e] at q1 q0
    have e4 : p4 = Int32.ofInt v.2.2.2 := ofI g4
    rw [if_neg (by omega), if_neg (by omega), if_pos e, ← e4] at q1
    rw [← e4] at q0
    refine ⟨fun _ => ⟨fun _ => ⟨fun c => absurd (t_eq.mpr (by rw [g1, e, t_2])) c, fun _ => ?_⟩, fun c => absurd c (no 1 1 t_1 (by omega))⟩, fun c => absurd c (no 0 0 t_0 (by omega))⟩
    exact y_pays (a := v.2.1.toNat) (b := v.2.2.1.toNat) H6 (by omega) (by omega) (by omega) (by omega) (fun w => ⟨by decide, q1 (decide_eq_true w) _ _⟩) (fun w => ⟨by decide, q0 (decide_eq_false w) _ _⟩)
  · rw [if_neg (by omega), if_neg (by omega), if_neg (by omega)] at q1 q0
    rw [if_neg (by omega), if_neg (by omega), if_neg (by omega)] at q1
    refine ⟨fun _ => ⟨fun _ => ⟨fun _ x4 e4 => ?_, fun c => absurd c (no 2 2 t_2 (by omega))⟩, fun c => absurd c (no 1 1 t_1 (by omega))⟩, fun c => absurd c (no 0 0 t_0 (by omega))⟩
    rw [k_c67] at e4
    refine ⟨fun c => y_passes hs H6 eh hg (q1 (decide_eq_true (fun d => c (by rw [e4]; exact d))) _ _), fun c => q0 (decide_eq_false (fun d => d (by rw [← e4]; exact c))) _ _⟩
end DS
