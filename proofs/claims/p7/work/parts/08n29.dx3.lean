/-! how far by the law, by both -/
def f8 (a0 a1 a2 a3 a4 a5 a6 a7 : Int32) (j : Nat) : Int32 := if j = 0 then a0 else if j = 1 then a1 else if j = 2 then a2 else if j = 3 then a3 else if j = 4 then a4 else if j = 5 then a5 else if j = 6 then a6 else a7
/-- the law that is in force at first -/
def plL : List (Int × Int) := [(0, 4), (1, 0), (2, 0), (1, 1), (3, 0)]
def relLc (cs : List (Int × Int)) (ln : Int32) (kd vl : Nat → Int32) (ct : Int32) (cd oc : Nat → Int32) : Prop := rn cs = some 1 ∧ cL ((0, 0, 0), cs) kd vl ln ∧ ((ct ≠ 0 ∧ mL ((0, 0, 0), cs) cd oc ct ∧ cs.length ≤ 150) ∨ (ct = 0 ∧ cs = plL))
theorem rn_pl : rn plL = some 1 := by decide
theorem ev_ext {fs gs : Nat → Int32} {cs : List (Int × Int)} (hr : rn cs = some 1) (he : ∀ j : Nat, j < 8 → fs j = gs j) : ∀ k : Nat, k ≤ cs.length → evA fs cs k = evA gs cs k := by
  intro k
  induction k with
  | zero => intro _; rfl
  | succ k ih =>
    intro hk
    have nn := rn_all hr
    obtain ⟨d, d1, d2, d3, d4⟩ := rn_at (fs := fs) (cs := cs) k (by omega) (fun j hj => nn j (by omega))
    have hw := rn_word (show k < cs.length by omega) d1 (nn (k + 1) (by omega))
    rw [ev_s (by omega), ev_s (by omega), ih (by omega)]
    generalize cs.getD k (0, 0) = c at hw
    obtain ⟨c1, c2⟩ := c
    have hw : c1 = 0 ∨ (c1 = 1 ∧ 0 ≤ c2 ∧ c2 < 8) ∨ (2 ≤ c1 ∧ c1 ≤ 8 ∧ 2 ≤ d) := hw
    rcases hw with w | ⟨w, w1, w2⟩ | ⟨w, w1, w2⟩
    · rw [w, ev_0, ev_0]
    · rw [w, ev_1, ev_1, he c2.toNat (by omega)]
    · rw [ev_2 w, ev_2 w]
theorem lV_ext {fs gs : Nat → Int32} {cs : List (Int × Int)} (hr : rn cs = some 1) (he : ∀ j : Nat, j < 8 → fs j = gs j) : lV fs cs = lV gs cs := by
  unfold lV
  rw [ev_ext hr he cs.length (Nat.le_refl _)]
theorem lV_pl {fs : Nat → Int32} : lV fs plL = cl60 (4 + fs 0 - fs 1) := rfl
theorem f8_of {fs : Nat → Int32} {a0 a1 a2 a3 a4 a5 a6 a7 : Int32} (h0 : fs 0 = a0) (h1 : fs 1 = a1) (h2 : fs 2 = a2) (h3 : fs 3 = a3) (h4 : fs 4 = a4) (h5 : fs 5 = a5) (h6 : fs 6 = a6) (h7 : fs 7 = a7) : ∀ j : Nat, j < 8 → fs j = f8 a0 a1 a2 a3 a4 a5 a6 a7 j := by
  intro j hj
  have c : j = 0 ∨ j = 1 ∨ j = 2 ∨ j = 3 ∨ j = 4 ∨ j = 5 ∨ j = 6 ∨ j = 7 := by omega
  rcases c with c | c | c | c | c | c | c | c
  · rw [c]; exact h0
  · rw [c]; exact h1
  · rw [c]; exact h2
  · rw [c]; exact h3
  · rw [c]; exact h4
  · rw [c]; exact h5
  · rw [c]; exact h6
  · rw [c]; exact h7
theorem cl60_rng {v : Int32} : 0 ≤ (cl60 v).toInt ∧ (cl60 v).toInt ≤ 60 := by
  unfold cl60
  by_cases c : 0 ≤ v
  · rw [if_pos c]
    by_cases d : v ≤ 60
    · rw [if_pos d]
      rw [t_le, t_0] at c
      rw [t_le, t_60] at d
      exact ⟨c, d⟩
    · rw [if_neg d]; decide
  · rw [if_neg c]; decide
theorem lV_rng {fs : Nat → Int32} {cs : List (Int × Int)} : 0 ≤ (lV fs cs).toInt ∧ (lV fs cs).toInt ≤ 60 := cl60_rng
section DL
variable {cs : List (Int × Int)} {ln ct : Int32} {kd vl cd oc fc : Nat → Int32}
theorem z_setFacts {a0 a1 a2 a3 a4 : Int32} {Q : (Nat → Int32) → Prop} (hq : ∀ f : Nat → Int32, f 0 = a0 → f 1 = a1 → f 2 = a2 → f 3 = a3 → f 4 = a4 → Q f) : wq_X4_setFacts fc a0 a1 a2 a3 a4 Q := by
  intro f1 e1 f2 e2 f3 e3 f4 e4 f5 e5
  rw [t_c0] at e1
  rw [k_c1] at e2
  rw [k_c2] at e3
  rw [k_c3] at e4
  rw [k_c4] at e5
  refine hq f5 ?_ ?_ ?_ ?_ ?_ <;> rw [e5] <;> simp [upd, e4, e3, e2, e1]
theorem z_setTimes {a5 a6 a7 : Int32} {Q : (Nat → Int32) → Prop} (hq : ∀ f : Nat → Int32, (∀ j : Nat, j < 5 → f j = fc j) → f 5 = a5 → f 6 = a6 → f 7 = a7 → Q f) : wq_X4_setTimes fc a5 a6 a7 Q := by
  intro f1 e1 f2 e2 f3 e3
  rw [k_c5] at e1
  rw [k_c6] at e2
  rw [k_c7] at e3
  refine hq f3 (fun j hj => ?_) ?_ ?_ ?_
  · rw [e3, pk_un (by omega), e2, pk_un (by omega), e1, pk_un (by omega)]
  · rw [e3, pk_un (by decide), e2, pk_un (by decide), e1, pk_us]
  · rw [e3, pk_un (by decide), e2, pk_us]
  · rw [e3, pk_us]
theorem y_leapNow {st : Nat → Int32} {Q : Int32 → (Nat → Int32) → Prop} (hL : relLc cs ln kd vl ct cd oc) (hq : ∀ st : Nat → Int32, Q (lV fc cs) st) : wq_X11_leapNow ct cd oc fc st Q := by
  obtain ⟨hr, hc, hm⟩ := hL
  have cl : ∀ (v : Int32) (st : Nat → Int32), cl60 v = lV fc cs → wb_X11_leapNow_29 ct cd oc fc Q st v := fun v st e => by
    unfold cl60 at e
    refine ⟨fun c => ⟨fun d => ?_, fun d => ?_⟩, fun c => ?_⟩
    · rw [if_pos c, if_pos d] at e
      rw [e]; exact hq st
    · rw [if_pos c, if_neg d] at e
      rw [e]; exact hq st
    · rw [if_neg c] at e
      rw [e]; exact hq st
  rcases hm with ⟨h0, hm, h150⟩ | ⟨h0, hp⟩
  · exact ⟨fun _ => z_value hm h150 hr (fun st => cl _ st rfl), fun z => absurd z h0⟩
  · refine ⟨fun z => absurd h0 z, fun _ x4 e4 x5 e5 => cl _ st ?_⟩
    rw [e4, e5, t_c0, k_c1, hp, lV_pl]
theorem y_leapOf {st : Nat → Int32} {a0 a1 a2 a3 a4 a5 a6 a7 : Int32} {Q : Int32 → (Nat → Int32) → (Nat → Int32) → Prop} (hL : relLc cs ln kd vl ct cd oc) (hq : ∀ fc st : Nat → Int32, Q (lV (f8 a0 a1 a2 a3 a4 a5 a6 a7) cs) fc st) : wq_X11_leapOf ct cd oc fc st a0 a1 a2 a3 a4 a5 a6 a7 Q := by
  intro f1 e1 f2 e2 f3 e3 f4 e4 f5 e5 f6 e6 f7 e7 f9 e9
  rw [t_c0] at e1
  rw [k_c1] at e2
  rw [k_c2] at e3
  rw [k_c3] at e4
  rw [k_c4] at e5
  rw [k_c5] at e6
  rw [k_c6] at e7
  rw [k_c7] at e9
  have e : lV f9 cs = lV (f8 a0 a1 a2 a3 a4 a5 a6 a7) cs := by
    refine lV_ext hL.1 (f8_of ?_ ?_ ?_ ?_ ?_ ?_ ?_ ?_) <;> rw [e9] <;> simp [upd, e7, e6, e5, e4, e3, e2, e1]
  exact y_leapNow hL (fun st => by rw [e]; exact hq f9 st)
end DL
/-- the facts of a hare, its leap -/
def lpS (cs : List (Int × Int)) (s : Nat → Int32) (nh h : Nat) : Int32 := lV (f8 (s (6 + h)) (s (12 + h)) (owS s nh h) (odS s nh h) (Int32.ofNat (pcB (siN s (s h) nh) 8) - 1) (s 66) (Int32.ofNat h) (s (18 + h))) cs
theorem lpS_rng {cs : List (Int × Int)} {s : Nat → Int32} {nh h : Nat} : 0 ≤ (lpS cs s nh h).toInt ∧ (lpS cs s nh h).toInt ≤ 60 := lV_rng
section DR
variable {NH NF : Nat} {row s : Nat → Int32} {nh p : Int32} {h : Nat} {cs : List (Int × Int)} {ln ct : Int32} {kd vl cd oc : Nat → Int32}
theorem c_reach {fc pl : Nat → Int32} {Q : Int32 → (Nat → Int32) → (Nat → Int32) → Prop} (hR : relM NH NF row s) (H6 : NH ≤ 6) (eh : nh.toInt = (NH : Int)) (hL : relLc cs ln kd vl ct cd oc) (ep : p.toInt = (h : Int)) (hh : h < NH) (hc : s h ≠ -1) (hq : ∀ fc pl : Nat → Int32, Q (lpS cs s NH h) fc pl) : wq_X1_reach row nh ln kd vl fc pl p Q := by
  have ee := ofN_eq ep (by omega)
  subst ee
  have es := m_sit hR hh hc
  obtain ⟨-, es2, es3, -, -⟩ := (hR.2.1 h hh).resolve_left hc
  refine c_sits ep (by omega) ?_
  rw [← es]
  refine c_seatedIn hR H6 eh hc (c_bc ?_)
  have e3 := bc_rm ⟨siN s (s h) NH, si_lt H6⟩ ⟨h, by omega⟩ ((si_bit (p := s h) hh).mpr rfl)
  rw [e3]
  refine c_strong ep (by omega) (c_still ep (by omega) (c_owes hR H6 eh ep (by omega) (c_owed hR H6 eh ep (by omega) (z_setFacts (fun f g0 g1 g2 g3 g4 => c_day (c_leaps ep (by omega) (z_setTimes (fun f2 g5 g6 g7 g8 => z_reach hL.2.1 hL.1 (fun pl => ?_)))))))))
  have e : lV f2 cs = lpS cs s NH h := by
    refine lV_ext hL.1 (f8_of ?_ ?_ ?_ ?_ ?_ ?_ ?_ ?_)
    · rw [g5 0 (by decide), g0]; exact es2
    · rw [g5 1 (by decide), g1]; exact es3
    · rw [g5 2 (by decide), g2]
    · rw [g5 3 (by decide), g3]
    · rw [g5 4 (by decide), g4]
    · rw [g6]; exact hR.2.2.2.2.2.1.1
    · rw [g7]
    · rw [g8]; exact hR.2.2.2.1 h hh
  rw [e]; exact hq f2 pl
theorem y_leapBy {fc st : Nat → Int32} {Q : Int32 → (Nat → Int32) → (Nat → Int32) → Prop} (H6 : NH ≤ 6) (eh : nh.toInt = (NH : Int)) (hL : relLc cs ln kd vl ct cd oc) (ep : p.toInt = (h : Int)) (hh : h < NH) (q1 : s h = -1 → Q 0 fc st) (q0 : s h ≠ -1 → ∀ fc st : Nat → Int32, Q (lpS cs s NH h) fc st) : wq_X11_leapBy nh ct s cd oc fc st p Q := by
  refine y_caught ep (by omega) (fun w => ⟨fun z => absurd z (by decide), fun _ => q1 w⟩) (fun w => ⟨fun _ x3 e3 => ?_, fun z => absurd rfl z⟩)
  have i3 := i6 e3 ep (by omega)
  refine ⟨t_in (by omega) (by omega), fun x4 e4 x5 e5 => ?_⟩
  have i5 := i12 e5 ep (by omega)
  refine ⟨t_in (by omega) (by omega), fun x6 e6 => yq_owes H6 eh ep (by omega) (yq_owed H6 eh ep (by omega) (fun x9 e9 => ?_))⟩
  have i9 := i0 e9 ep (by omega)
  refine ⟨t_in (by omega) (by omega), fun x10 e10 => y_sitIn H6 eh (y_ones rfl (si_lt H6) (fun x13 e13 x14 e14 => ?_))⟩
  have i14 := i18 e14 ep (by omega)
  refine ⟨t_in (by omega) (by omega), fun x15 e15 => y_leapOf hL (fun fc st => ?_)⟩
  rw [t_clamp i3] at e4
  rw [t_clamp i5] at e6
  rw [t_clamp i9] at e10
  rw [k_c66] at e13
  rw [t_clamp i14] at e15
  have e := q0 w fc st
  unfold lpS at e
  rw [e4, e6, e10, e13, e15, ofN_eq ep (by omega)]
  exact e
end DR
