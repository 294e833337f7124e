/-! leaps, boxing, paying, by both -/
/-- where the reference's hares sit -/
def rgS (NH NF : Nat) (s : Nat → Int32) : Prop := ∀ h : Nat, h < NH → s h = -1 ∨ ∃ f : Nat, (s h).toInt = (f : Int) ∧ f < NF
theorem rg_of {NH NF : Nat} {row s : Nat → Int32} (hR : relM NH NF row s) : rgS NH NF s := fun h hh => by
  by_cases c : s h = -1
  · exact Or.inl c
  · exact Or.inr (m_in hR hh c)
/-- a leap could be done -/
abbrev cnS (F : Nat → Int) (cs : List (Int × Int)) (s : Nat → Int32) (nh h f : Nat) : Prop := s h ≠ -1 ∧ (s h).toInt ≠ (f : Int) ∧ fr F (s h).toInt.toNat f ≤ (lpS cs s nh h).toInt
def lyS (s : Nat → Int32) (h : Nat) (q : Int32) : Nat → Int32 := upd (upd (upd (upd s h q) (12 + h) 0) (18 + h) ((upd (upd s h q) (12 + h) 0) (18 + h) + 1)) (24 + h) 1
def stC (r : Nat → Int32) (h : Nat) : Nat → Int32 := upd (upd r (16 + h) 0) 3 ((upd r (16 + h) 0) 3 ||| (1 <<< (Int32.ofNat h &&& 31)))
def lyC (r : Nat → Int32) (h : Nat) (q : Int32) : Nat → Int32 := stC (upd (upd r (4 + h) q) (22 + h) ((upd r (4 + h) q) (22 + h) + 1)) h
theorem ly_a {s : Nat → Int32} {h : Nat} {q : Int32} (hh : h < 6) : lyS s h q h = q := by
  unfold lyS; rw [pk_un (by omega), pk_un (by omega), pk_un (by omega), pk_us]
theorem ly_b {s : Nat → Int32} {h : Nat} {q : Int32} (hh : h < 6) : lyS s h q (12 + h) = 0 := by
  unfold lyS; rw [pk_un (by omega), pk_un (by omega), pk_us]
theorem ly_c {s : Nat → Int32} {h : Nat} {q : Int32} (hh : h < 6) : lyS s h q (18 + h) = s (18 + h) + 1 := by
  unfold lyS; rw [pk_un (by omega), pk_us, pk_un (by omega), pk_un (by omega)]
theorem ly_d {s : Nat → Int32} {h : Nat} {q : Int32} : lyS s h q (24 + h) = 1 := by
  unfold lyS; rw [pk_us]
theorem ly_o {s : Nat → Int32} {h j : Nat} {q : Int32} (h1 : j ≠ h) (h2 : j ≠ 12 + h) (h3 : j ≠ 18 + h) (h4 : j ≠ 24 + h) : lyS s h q j = s j := by
  unfold lyS; rw [pk_un h4, pk_un h3, pk_un h2, pk_un h1]
theorem st_b {r : Nat → Int32} {h : Nat} : stC r h (16 + h) = 0 := by
  unfold stC; rw [pk_un (by omega), pk_us]
theorem st_3 {r : Nat → Int32} {h : Nat} : stC r h 3 = r 3 ||| (1 <<< (Int32.ofNat h &&& 31)) := by
  unfold stC; rw [pk_us, pk_un (by omega)]
theorem st_o {r : Nat → Int32} {h j : Nat} (h1 : j ≠ 3) (h2 : j ≠ 16 + h) : stC r h j = r j := by
  unfold stC; rw [pk_un h1, pk_un h2]
theorem lc_a {r : Nat → Int32} {h : Nat} {q : Int32} (hh : h < 6) : lyC r h q (4 + h) = q := by
  unfold lyC; rw [st_o (by omega) (by omega), pk_un (by omega), pk_us]
theorem lc_c {r : Nat → Int32} {h : Nat} {q : Int32} (hh : h < 6) : lyC r h q (22 + h) = r (22 + h) + 1 := by
  unfold lyC; rw [st_o (by omega) (by omega), pk_us, pk_un (by omega)]
theorem lc_3 {r : Nat → Int32} {h : Nat} {q : Int32} : lyC r h q 3 = r 3 ||| (1 <<< (Int32.ofNat h &&& 31)) := by
  unfold lyC; rw [st_3, pk_un (by omega), pk_un (by omega)]
theorem lc_o {r : Nat → Int32} {h j : Nat} {q : Int32} (h1 : j ≠ 3) (h2 : j ≠ 4 + h) (h3 : j ≠ 16 + h) (h4 : j ≠ 22 + h) : lyC r h q j = r j := by
  unfold lyC; rw [st_o h1 h3, pk_un h4, pk_un h2]
/-- one more is busy -/
theorem bu_more {s t : Nat → Int32} {x : Int32} {NH h : Nat} (H6 : NH ≤ 6) (hh : h < NH) (hx : x = Int32.ofNat (buN s NH)) (h1 : t (24 + h) = 1) (h2 : ∀ j : Nat, j < NH → j ≠ h → t (24 + j) = s (24 + j)) : x ||| (1 <<< (Int32.ofNat h &&& 31)) = Int32.ofNat (buN t NH) := by
  rw [b8_or hx (bu_lt H6) (Int32.toInt_ofNat_of_lt (by omega)) (by omega)]
  unfold buN
  rw [or_sh (R := fun h => decide (t (24 + h) = 1)) hh (decide_eq_true h1) (fun j hj hn => by rw [h2 j hj hn])]
section DU
variable {NH NF : Nat} {row s : Nat → Int32} {nh nf p q : Int32} {h f a b : Nat} {cs : List (Int × Int)} {ln ct : Int32} {kd vl cd oc X Y fo : Nat → Int32} {F : Nat → Int}
theorem c_couldLeap {fc pl : Nat → Int32} {Q : Int32 → (Nat → Int32) → (Nat → Int32) → Prop} (hF : ∀ j : Nat, j < 2 * NF → 0 ≤ F j ∧ F j ≤ 30) (h8 : NF ≤ 8) (hpr : pr NF X Y F) (hR : relM NH NF row s) (H6 : NH ≤ 6) (eh : nh.toInt = (NH : Int)) (hL : relLc cs ln kd vl ct cd oc) (ep : p.toInt = (h : Int)) (hh : h < NH) (eq : q.toInt = (f : Int)) (hf : f < NF)
    (q1 : cnS F cs s NH h f → ∀ fc pl : Nat → Int32, Q 1 fc pl) (q0 : ¬ cnS F cs s NH h f → ∀ fc pl : Nat → Int32, Q 0 fc pl) : wq_X1_couldLeap row nh X Y ln kd vl fc pl p q Q := by
  refine c_caught hR.1 H6 ep hh (fun w => ⟨fun _ => q0 (fun d => d.1 w) fc pl, fun z => absurd z (by decide)⟩) (fun w => ⟨fun z => absurd rfl z, fun _ => c_sits ep (by omega) ⟨fun z => q0 (fun d => d.2.1 (by rw [m_sit hR hh w, z]; exact eq)) fc pl, fun z => c_sits ep (by omega) ?_⟩⟩)
  rw [← m_sit hR hh w] at z ⊢
  obtain ⟨g, eg, hg⟩ := m_in hR hh w
  refine z_apart hF h8 hpr eg hg eq hf (fun r er => c_reach hR H6 eh hL ep hh w (fun fc pl => ⟨fun c => q0 (fun d => ?_) fc pl, fun c => q1 ⟨w, fun d => z (t_eq.mpr (by rw [d, eq])), ?_⟩ fc pl⟩))
  · have := d.2.2
    rw [eg, Int.toNat_natCast] at this
    rw [t_lt] at c; omega
  · rw [eg, Int.toNat_natCast]
    rw [t_lt] at c; omega
theorem y_canLeap {fc st : Nat → Int32} {Q : Int32 → (Nat → Int32) → (Nat → Int32) → Prop} (hF : ∀ j : Nat, j < 2 * NF → 0 ≤ F j ∧ F j ≤ 30) (h8 : NF ≤ 8) (hpm : pm (2 * NF) fo F) (hg : rgS NH NF s) (H6 : NH ≤ 6) (eh : nh.toInt = (NH : Int)) (hL : relLc cs ln kd vl ct cd oc) (ep : p.toInt = (h : Int)) (hh : h < NH) (eq : q.toInt = (f : Int)) (hf : f < NF)
    (q1 : cnS F cs s NH h f → ∀ fc st : Nat → Int32, Q 1 fc st) (q0 : ¬ cnS F cs s NH h f → ∀ fc st : Nat → Int32, Q 0 fc st) : wq_X11_canLeap nh ct s fo cd oc fc st p q Q := by
  refine y_caught ep (by omega) (fun w => ⟨fun _ => q0 (fun d => d.1 w) fc st, fun z => absurd z (by decide)⟩) (fun w => ⟨fun z => absurd rfl z, fun _ x3 e3 => ?_⟩)
  have k3 := i0 e3 ep (by omega)
  refine ⟨t_in (by omega) (by omega), fun x4 e4 => ?_⟩
  rw [t_clamp k3] at e4
  refine ⟨fun z => q0 (fun d => d.2.1 (by rw [← e4, z]; exact eq)) fc st, fun z x6 e6 => ?_⟩
  have k6 := i0 e6 ep (by omega)
  refine ⟨t_in (by omega) (by omega), fun x7 e7 => ?_⟩
  rw [t_clamp k6] at e7
  obtain ⟨g, eg, hg⟩ := (hg h hh).resolve_left w
  refine z_farOf hF h8 hpm (by rw [e7]; exact eg) hg eq hf (fun r er => y_leapBy H6 eh hL ep hh (fun w2 => absurd w2 w) (fun _ fc st => ⟨fun c => q0 (fun d => ?_) fc st, fun c => q1 ⟨w, fun d => z (t_eq.mpr (by rw [e4, d, eq])), ?_⟩ fc st⟩))
  · have := d.2.2
    rw [eg, Int.toNat_natCast] at this
    rw [t_lt] at c; omega
  · rw [eg, Int.toNat_natCast]
    rw [t_lt] at c; omega
theorem c_stir {Q : (Nat → Int32) → Prop} (ep : p.toInt = (h : Int)) (hh : h < 6) (hq : Q (stC row h)) : wq_X1_stir row p Q := fun x1 e1 => by
  have e := i16 e1 ep (by omega)
  refine ⟨t_in (by omega) (by omega), fun f2 e2 x3 e3 x4 e4 f5 e5 => ?_⟩
  rw [t_clamp e] at e2
  rw [k_c3] at e3 e5
  rw [e5, e4, e3, e2, ofN_eq ep (by omega)]; exact hq
theorem c_leapTo {Q : (Nat → Int32) → Prop} (ep : p.toInt = (h : Int)) (hh : h < 6) (hq : Q (lyC row h q)) : wq_X1_leapTo row p q Q := fun x1 e1 => by
  have k1 := i4 e1 ep (by omega)
  refine ⟨t_in (by omega) (by omega), fun f2 e2 x3 e3 => ?_⟩
  have k3 := i22 e3 ep (by omega)
  refine ⟨t_in (by omega) (by omega), fun x4 e4 x5 e5 => ⟨t_in (by omega) (by omega), fun f6 e6 => c_stir ep hh ?_⟩⟩
  rw [t_clamp k1] at e2
  rw [t_clamp k3] at e4 e6
  rw [e6, e5, e4, e2]; exact hq
theorem y_leapsTo {fc st : Nat → Int32} {Q : Int32 → (Nat → Int32) → (Nat → Int32) → (Nat → Int32) → Prop} (hF : ∀ j : Nat, j < 2 * NF → 0 ≤ F j ∧ F j ≤ 30) (h8 : NF ≤ 8) (hpm : pm (2 * NF) fo F) (hg : rgS NH NF s) (H6 : NH ≤ 6) (eh : nh.toInt = (NH : Int)) (hL : relLc cs ln kd vl ct cd oc) (ep : p.toInt = (h : Int)) (hh : h < NH) (eq : q.toInt = (f : Int)) (hf : f < NF)
    (q1 : cnS F cs s NH h f → ∀ fc st : Nat → Int32, Q 1 fc st (lyS s h q)) (q0 : ¬ cnS F cs s NH h f → ∀ fc st : Nat → Int32, Q 0 fc st s) : wq_X11_leapsTo nh ct fo cd oc fc st s p q Q := by
  refine y_canLeap hF h8 hpm hg H6 eh hL ep hh eq hf (fun w fc st => ⟨fun _ x5 e5 => ?_, fun z => absurd z (by decide)⟩) (fun w fc st => ⟨fun z => absurd rfl z, fun _ => q0 w fc st⟩)
  have k5 := i0 e5 ep (by omega)
  refine ⟨t_in (by omega) (by omega), fun g6 e6 x7 e7 => ?_⟩
  have k7 := i12 e7 ep (by omega)
  refine ⟨t_in (by omega) (by omega), fun g8 e8 x9 e9 => ?_⟩
  have k9 := i18 e9 ep (by omega)
  refine ⟨t_in (by omega) (by omega), fun x10 e10 x11 e11 => ⟨t_in (by omega) (by omega), fun g12 e12 x13 e13 => ?_⟩⟩
  have k13 := i24 e13 ep (by omega)
  refine ⟨t_in (by omega) (by omega), fun g14 e14 => ?_⟩
  rw [t_clamp k5] at e6
  rw [t_clamp k7] at e8
  rw [t_clamp k9] at e10 e12
  rw [t_clamp k13] at e14
  have e := q1 w fc st
  unfold lyS at e
  rw [e14, e12, e11, e10, e8, e6]; exact e
theorem rel_leap (hR : relN NH NF row s) (H6 : NH ≤ 6) (hh : h < NH) (hc : s h ≠ -1) (eq : q.toInt = (f : Int)) (hf : f < NF) : relN NH NF (lyC row h q) (lyS s h q) := by
  obtain ⟨⟨r1, r2, r3, r4, r5, ⟨r6, r7⟩, r8⟩, b1, b2⟩ := hR
  have hq1 : q ≠ -1 := fun w => by rw [w, t_m1] at eq; omega
  refine ⟨⟨?_, fun j hj => ?_, fun j hj => ?_, fun j hj => ?_, fun j hj => ?_, ⟨?_, ?_⟩, fun i k hi hk hn => ?_⟩, ?_, fun j hj => ?_⟩
  · rw [lc_o (by omega) (by omega) (by omega) (by omega), r1]
    unfold caN
    rw [orN_ext (R := fun j => decide (lyS s h q j = -1)) NH (fun j hj => ?_)]
    by_cases z : j = h
    · rw [z, ly_a (by omega), decide_eq_false hc, decide_eq_false hq1]
    · rw [ly_o z (by omega) (by omega) (by omega)]
  · by_cases z : j = h
    · rw [z, ly_a (by omega), lc_a (by omega)]
      obtain ⟨g1, g2, g3, g4, g5⟩ := (r2 h hh).resolve_left hc
      refine Or.inr ⟨rfl, ?_, ?_, ?_, ?_⟩
      · rw [lc_o (by omega) (by omega) (by omega) (by omega), ly_o (by omega) (by omega) (by omega) (by omega)]; exact g2
      · rw [ly_b (by omega)]
        unfold lyC; rw [st_b]
      · rw [ly_o (by omega) (by omega) (by omega) (by omega)]; exact g4
      · rw [ly_o (by omega) (by omega) (by omega) (by omega)]; exact g5
    · rw [ly_o z (by omega) (by omega) (by omega)]
      refine (r2 j hj).imp id (fun ⟨g1, g2, g3, g4, g5⟩ => ⟨?_, ?_, ?_, ?_, ?_⟩)
      · rw [lc_o (by omega) (by omega) (by omega) (by omega)]; exact g1
      · rw [lc_o (by omega) (by omega) (by omega) (by omega), ly_o (by omega) (by omega) (by omega) (by omega)]; exact g2
      · rw [lc_o (by omega) (by omega) (by omega) (by omega), ly_o (by omega) (by omega) (by omega) (by omega)]; exact g3
      · rw [ly_o (by omega) (by omega) (by omega) (by omega)]; exact g4
      · rw [ly_o (by omega) (by omega) (by omega) (by omega)]; exact g5
  · by_cases z : j = h
    · rw [z, lc_a (by omega)]; omega
    · rw [lc_o (by omega) (by omega) (by omega) (by omega)]; exact r3 j hj
  · by_cases z : j = h
    · rw [z, lc_c (by omega), ly_c (by omega), r4 h hh]
    · rw [lc_o (by omega) (by omega) (by omega) (by omega), ly_o (by omega) (by omega) (by omega) (by omega)]; exact r4 j hj
  · rw [lc_o (by omega) (by omega) (by omega) (by omega), ly_o (by omega) (by omega) (by omega) (by omega)]; exact r5 j hj
  · rw [lc_o (by omega) (by omega) (by omega) (by omega), ly_o (by omega) (by omega) (by omega) (by omega)]; exact r6
  · rw [lc_o (by omega) (by omega) (by omega) (by omega), ly_o (by omega) (by omega) (by omega) (by omega)]; exact r7
  · rw [ly_o (by omega) (by omega) (by omega) (by omega)]; exact r8 i k hi hk hn
  · rw [lc_3]
    exact bu_more H6 hh b1 ly_d (fun j hj hn => ly_o (by omega) (by omega) (by omega) (by omega))
  · by_cases z : j = h
    · rw [z, ly_d]; exact Or.inr rfl
    · rw [ly_o (by omega) (by omega) (by omega) (by omega)]; exact b2 j hj
end DU
