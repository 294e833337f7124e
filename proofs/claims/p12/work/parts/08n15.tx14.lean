/-! both states held against each other: the tapes, the downs -/
def relA (fl tp : Int32) (by_ ta : Nat → Int32) : Prop := ∃ (P : Nat) (t : Nat → Int), fl.toInt = P ∧ tp.toInt = P ∧ P ≤ 600 ∧ tB P by_ t ∧ tB P ta t
def relD (nf nh nx sf : Int32) (db FX FY se sr X Y : Nat → Int32) (mf mh mx : Int32) (fo ha fx : Nat → Int32) : Prop := ∃ d : dT, d.1.1 = 0 ∧ dOk d ∧ cD d nf nh nx db FX FY se sr X Y ∧ sf = sfD d ∧ mG d mf mh mx fo ha fx
theorem relA_0 {fl tp : Int32} {by_ ta : Nat → Int32} (h1 : fl.toInt = 0) (h2 : tp.toInt = 0) : relA fl tp by_ ta := ⟨0, fun _ => 0, h1, h2, by omega, fun j hj => absurd hj (Nat.not_lt_zero j), fun j hj => absurd hj (Nat.not_lt_zero j)⟩
theorem relA_go {fl tp f2 t2 : Int32} {by_ ta : Nat → Int32} (h : relA fl tp by_ ta) (hc : (f2.toInt = 0 ∧ t2.toInt = 0) ∨ (f2.toInt = fl.toInt ∧ t2.toInt = tp.toInt)) : relA f2 t2 by_ ta := by
  rcases hc with ⟨h1, h2⟩ | ⟨h1, h2⟩
  · exact relA_0 h1 h2
  · obtain ⟨P, t, g1, g2, g3, g4, g5⟩ := h
    exact ⟨P, t, by omega, by omega, g3, g4, g5⟩
theorem relD_0 {mf mh mx : Int32} {db FX FY se sr X Y fo ha fx : Nat → Int32} (h1 : mf.toInt = 0) (h2 : mh.toInt = 0) (h3 : mx.toInt = 0) (h4 : ∀ j : Nat, j < 36 → db j = 0) : relD 0 0 0 0 db FX FY se sr X Y mf mh mx fo ha fx :=
  ⟨((0, 0, 0), 0, 0, 0, (fun _ => 0), (fun _ => 0), (fun _ => 0), (fun _ => 0)), rfl, ⟨⟨by decide, by decide, by decide⟩, fun j hj => absurd hj (Nat.not_lt_zero j), fun j hj => absurd hj (Nat.not_lt_zero j), fun j hj => absurd hj (Nat.not_lt_zero j), fun x y _ _ => ⟨Int.le_refl _, (show (0 : Int) ≤ 99 by decide), fun e => absurd rfl e⟩⟩,
   ⟨⟨t_0, by decide⟩, ⟨t_0, by decide⟩, ⟨t_0, by decide⟩, fun _ => ⟨fun j hj => absurd hj (Nat.not_lt_zero j), fun j hj => absurd hj (Nat.not_lt_zero j), fun j hj => absurd hj (Nat.not_lt_zero j), fun j hj => by rw [h4 j hj]; exact t_0⟩⟩, rfl,
   ⟨⟨h1, h2, h3⟩, fun j hj => absurd hj (Nat.not_lt_zero j), fun j hj => absurd hj (Nat.not_lt_zero j), fun j hj => absurd hj (Nat.not_lt_zero j)⟩⟩
/-! answers held against each other -/
theorem z_self {fo : Nat → Int64} {r : Int64} : lg_cmp (vp_updL fo (0 : Int32).toNatClampNeg r (0 : Int32).toNatClampNeg) r = 0 := by
  have h := ((q_finO (fo := fo) (r := r)).1 rfl).2 rfl _ rfl
  by_cases c : lg_cmp (vp_updL fo (0 : Int32).toNatClampNeg r (0 : Int32).toNatClampNeg) r = 0
  · exact c
  · exact (h.2 c).elim
theorem z_cmp0 {G : Prop} {fo f6 : Nat → Int64} {x5 : Int64} {rc rm : Int32} (e5 : x5 = rc.toInt64) (e6 : f6 = vp_updL fo (0 : Int32).toNatClampNeg x5) (h : rc = rm) (g : G) : wq_X11_thrown 0 (fun r56 => ((r56 = 0 → ((¬ (0 : Int32) = 0 → G) ∧ ((0 : Int32) = 0 → ∀ x59 : Int64, x59 = f6 (0 : Int32).toNatClampNeg → (((lg_cmp x59 rm.toInt64) = 0 → G) ∧ (¬ (lg_cmp x59 rm.toInt64) = 0 → False))))) ∧ (¬ r56 = 0 → False))) :=
  ⟨fun _ => ⟨fun c => absurd rfl c, fun _ x59 e59 => ⟨fun _ => g, fun c => c (by rw [e59, e6, e5, h]; exact z_self)⟩⟩, fun c => absurd rfl c⟩
theorem z_cmpk {G : Prop} {k rm : Int32} {f6 : Nat → Int64} (hk : ¬ k = 0) (g : G) : wq_X11_thrown k (fun r56 => ((r56 = k → ((¬ k = 0 → G) ∧ (k = 0 → ∀ x59 : Int64, x59 = f6 (0 : Int32).toNatClampNeg → (((lg_cmp x59 rm.toInt64) = 0 → G) ∧ (¬ (lg_cmp x59 rm.toInt64) = 0 → False))))) ∧ (¬ r56 = k → False))) :=
  ⟨fun _ => ⟨fun _ => g, fun c => absurd c hk⟩, fun c => absurd rfl c⟩
/-! arguments that are refused -/
theorem z_within {p a b : Int32} {Q : Int32 → Prop} (q1 : a.toInt ≤ p.toInt → p.toInt ≤ b.toInt → Q 1) (q0 : ¬ (a.toInt ≤ p.toInt ∧ p.toInt ≤ b.toInt) → Q 0) : wq_X10_within p a b Q := by
  refine ⟨fun c => q0 ?_, fun c => ⟨fun c2 => q0 ?_, fun c2 => ?_⟩⟩
  · rw [t_lt] at c; omega
  · rw [t_lt] at c c2; omega
  · rw [t_lt] at c c2; exact q1 (by omega) (by omega)
theorem z_withinM {p a b : Int32} {Q : Int32 → Prop} (q1 : a.toInt ≤ p.toInt → p.toInt ≤ b.toInt → Q 1) (q0 : ¬ (a.toInt ≤ p.toInt ∧ p.toInt ≤ b.toInt) → Q 0) : wq_X11_within p a b Q := by
  refine ⟨fun c => q0 ?_, fun c => ⟨fun c2 => q0 ?_, fun c2 => ?_⟩⟩
  · rw [t_lt] at c; omega
  · rw [t_lt] at c c2; omega
  · rw [t_lt] at c c2; exact q1 (by omega) (by omega)
theorem z_need {v p a b : Int32} {E : String → Int32 → Prop} {Q : Int32 → Prop} (he : ¬ (a.toInt ≤ p.toInt ∧ p.toInt ≤ b.toInt) → E "java/lang/IllegalArgumentException" (v + 1)) (hq : a.toInt ≤ p.toInt → p.toInt ≤ b.toInt → Q v) : wq_X10_needWithin v p a b E Q :=
  z_within (fun h1 h2 => ⟨fun _ => hq h1 h2, fun c => absurd c (by decide)⟩) (fun h => ⟨fun c => absurd rfl c, fun _ x e => by rw [e]; exact he h⟩)
theorem z_form {n v p : Int32} {E : String → Int32 → Prop} {Q : Int32 → Prop} (hn : 0 ≤ n.toInt) (he : ¬ (0 ≤ p.toInt ∧ p.toInt < n.toInt) → E "java/util/NoSuchElementException" (v + 1)) (hq : 0 ≤ p.toInt → p.toInt < n.toInt → Q v) : wq_X10_needForm n v p E Q := by
  have en : (n - 1).toInt = n.toInt - 1 := t_pred (by omega)
  refine z_within (fun h1 h2 => ⟨fun _ => hq ?_ ?_, fun c => absurd c (by decide)⟩) (fun h => ⟨fun c => absurd rfl c, fun _ x e => by rw [e]; exact he (fun w => h (by rw [t_0, en]; omega))⟩)
  · rw [t_0] at h1; exact h1
  · rw [en] at h2; omega
theorem z_hare {n v p : Int32} {E : String → Int32 → Prop} {Q : Int32 → Prop} (hn : 0 ≤ n.toInt) (he : ¬ (0 ≤ p.toInt ∧ p.toInt < n.toInt) → E "java/util/NoSuchElementException" (v + 1)) (hq : 0 ≤ p.toInt → p.toInt < n.toInt → Q v) : wq_X10_needHare n v p E Q := by
  have en : (n - 1).toInt = n.toInt - 1 := t_pred (by omega)
  refine z_within (fun h1 h2 => ⟨fun _ => hq ?_ ?_, fun c => absurd c (by decide)⟩) (fun h => ⟨fun c => absurd rfl c, fun _ x e => by rw [e]; exact he (fun w => h (by rw [t_0, en]; omega))⟩)
  · rw [t_0] at h1; exact h1
  · rw [en] at h2; omega
theorem z_mayY {p1 p2 p3 : Int32} {rf : Nat → Int32} {Q : Int32 → Int32 → (Nat → Int32) → Prop} (h : ¬ p1 = 0) (hq : Q 1 0 rf) : wq_X11_may 0 rf p1 p2 p3 Q := ⟨fun _ => ⟨fun z => absurd rfl z, fun _ => hq⟩, fun z => absurd z h⟩
theorem z_mayN {p1 p2 p3 : Int32} {k : Nat} {rf : Nat → Int32} {Q : Int32 → Int32 → (Nat → Int32) → Prop} (h : p1 = 0) (h2 : ¬ p2 = 0) (h3 : p3.toInt = k) (h4 : k < 2) (hq : Q 0 p2 (upd rf k (rf k + 1))) : wq_X11_may 0 rf p1 p2 p3 Q :=
  ⟨fun z => absurd h z, fun _ => ⟨fun z => absurd rfl z, fun _ => ⟨t_in (by omega) (by omega), fun x3 e3 x4 e4 => ⟨t_in (by omega) (by omega), fun f5 e5 => ⟨fun _ => by rw [e5, e4, e3, t_clamp h3]; exact hq, fun z => absurd z h2⟩⟩⟩⟩⟩
theorem z_isForm {n p p2 : Int32} {rf : Nat → Int32} {Q : Int32 → Int32 → (Nat → Int32) → Prop} (hn : 0 ≤ n.toInt) (h2 : ¬ p2 = 0) (he : ¬ (0 ≤ p.toInt ∧ p.toInt < n.toInt) → Q 0 p2 (upd rf 0 (rf 0 + 1))) (hq : 0 ≤ p.toInt → p.toInt < n.toInt → Q 1 0 rf) : wq_X11_isForm n 0 rf p p2 Q := by
  have en : (n - 1).toInt = n.toInt - 1 := t_pred (by omega)
  refine z_withinM (fun h1 h3 => z_mayY (by decide) ⟨by decide, hq ?_ ?_⟩) (fun h => z_mayN (k := 0) rfl h2 t_0 (by decide) ⟨by decide, he (fun w => h ?_)⟩)
  · rw [t_0] at h1; exact h1
  · rw [en] at h3; omega
  · rw [t_0, en]; omega
theorem z_isHare {n p p2 : Int32} {rf : Nat → Int32} {Q : Int32 → Int32 → (Nat → Int32) → Prop} (hn : 0 ≤ n.toInt) (h2 : ¬ p2 = 0) (he : ¬ (0 ≤ p.toInt ∧ p.toInt < n.toInt) → Q 0 p2 (upd rf 0 (rf 0 + 1))) (hq : 0 ≤ p.toInt → p.toInt < n.toInt → Q 1 0 rf) : wq_X11_isHare n 0 rf p p2 Q := by
  have en : (n - 1).toInt = n.toInt - 1 := t_pred (by omega)
  refine z_withinM (fun h1 h3 => z_mayY (by decide) ⟨by decide, hq ?_ ?_⟩) (fun h => z_mayN (k := 0) rfl h2 t_0 (by decide) ⟨by decide, he (fun w => h ?_)⟩)
  · rw [t_0] at h1; exact h1
  · rw [en] at h3; omega
  · rw [t_0, en]; omega
theorem rS_ni {d : dT} {nf nh nx : Int32} {db fx ha fo g1 g2 g3 nw : Nat → Int32} (h0 : d.1.1 = 0) (ok : dOk d) (hd : mD d nf nh nx db fx ha fo) (hg : mG d nf nh nx g1 g2 g3) (hn : ∀ j : Nat, j < 68 → nw j = ni d.2.2.1 g2 db j) : rS nh nf nw := by
  obtain ⟨⟨k1, k2, k3⟩, o1, o2, o3, o4⟩ := ok
  obtain ⟨⟨n1, n2⟩, ⟨m1, m2⟩, ⟨x1, x2⟩, hr⟩ := hd
  obtain ⟨r1, r2, r3, r4⟩ := hr h0
  obtain ⟨c, p1, p2, p3⟩ := hg
  refine ⟨⟨by omega, by omega, by omega, ?_⟩, fun j hj => ?_, fun j j0 j1 => ?_⟩
  · by_cases z : d.2.2.1 = 0
    · exact Or.inl (by omega)
    · have := o2 0 (by omega)
      exact Or.inr (by omega)
  · have e : nw j = g2 (2 * j) := by
      rw [hn j (by omega)]
      unfold ni
      rw [if_neg (by omega), if_neg (by omega), if_pos (by omega), if_pos (by omega)]
    have q := p2 (2 * j) (by omega)
    have g := o2 j (by omega)
    rw [e, q]
    omega
  · have e : nw j = db (j - 30) := by
      rw [hn j (by omega)]
      unfold ni
      rw [if_neg (by omega), if_pos j0, if_pos j1]
    have q := r4 (j - 30) (by omega)
    have g := o4 ((j - 30) / 6) ((j - 30) % 6) (by omega) (by omega)
    rw [show 6 * ((j - 30) / 6) + (j - 30) % 6 = j - 30 by omega] at g
    rw [e, q]
    exact ⟨g.1, g.2.1⟩
