/-! answers held against each other -/
theorem z_self {fo : Nat → Int64} {r : Int64} : lg_cmp (vp_updL fo (0 : Int32).toNatClampNeg r (0 : Int32).toNatClampNeg) r = 0 := by
  have h := ((q_finO (fo := fo) (r := r)).1 rfl).2 rfl _ rfl
  by_cases c : lg_cmp (vp_updL fo (0 : Int32).toNatClampNeg r (0 : Int32).toNatClampNeg) r = 0
  · exact c
  · exact (h.2 c).elim
theorem z_cmp0 {G : Prop} {fo f6 : Nat → Int64} {x5 : Int64} {rc rm : Int32} (e5 : x5 = rc.toInt64) (e6 : f6 = vp_updL fo (0 : Int32).toNatClampNeg x5) (h : rc = rm) (g : G) : wq_X11_thrown 0 (fun r56 => ((r56 = 0 → ((¬ (0 : Int32) = 0 → G) ∧ ((0 : Int32) = 0 → ∀ x59 : Int64, x59 = f6 (0 : Int32).toNatClampNeg → (((lg_cmp x59 rm.toInt64) = 0 → G) ∧ (¬ (lg_cmp x59 rm.toInt64) = 0 → False))))) ∧ (¬ r56 = 0 → False))) :=
  ⟨fun _ => ⟨fun c => absurd rfl c, fun _ x59 e59 => ⟨fun _ => g, fun c => c (by rw [e59, e6, e5, h]; exact z_self)⟩⟩, fun c => absurd rfl c⟩
theorem z_cmpk {G : Prop} {k rm : Int32} {f6 : Nat → Int64} (hk : ¬ k = 0) (g : G) : wq_X11_thrown k (fun r56 => ((r56 = k → ((¬ k = 0 → G) ∧ (k = 0 → ∀ x59 : Int64, x59 = f6 (0 : Int32).toNatClampNeg → (((lg_cmp x59 rm.toInt64) = 0 → G) ∧ (¬ (lg_cmp x59 rm.toInt64) = 0 → False))))) ∧ (¬ r56 = k → False))) :=
  ⟨fun _ => ⟨fun _ => g, fun c => absurd c hk⟩, fun c => absurd rfl c⟩
/-! arguments that are refused -/
theorem z_within {p a b : Int32} {Q : Int32 → Prop} (q1 : a.toInt ≤ p.toInt → p.toInt ≤ b.toInt → Q 1) (q0 : ¬ (a.toInt ≤ p.toInt ∧ p.toInt ≤ b.toInt) → Q 0) : wq_X10_within p a b Q := by
  refine ⟨fun c => q0 ?_, fun c => ⟨fun c2 => q0 ?_, fun c2 => ?_⟩⟩
  · rw [t_lt] at c; omega
  · rw [t_lt] at c c2; omega
  · rw [t_lt] at c c2; exact q1 (by omega) (by omega)
theorem z_withinM {p a b : Int32} {Q : Int32 → Prop} (q1 : a.toInt ≤ p.toInt → p.toInt ≤ b.toInt → Q 1) (q0 : ¬ (a.toInt ≤ p.toInt ∧ p.toInt ≤ b.toInt) → Q 0) : wq_X11_within p a b Q := by
  refine ⟨fun c => q0 ?_, fun c => ⟨fun c2 => q0 ?_, fun c2 => ?_⟩⟩
  · rw [t_lt] at c; omega
  · rw [t_lt] at c c2; omega
  · rw [t_lt] at c c2; exact q1 (by omega) (by omega)
theorem z_need {v p a b : Int32} {E : String → Int32 → Prop} {Q : Int32 → Prop} (he : ¬ (a.toInt ≤ p.toInt ∧ p.toInt ≤ b.toInt) → E "java/lang/IllegalArgumentException" (v + 1)) (hq : a.toInt ≤ p.toInt → p.toInt ≤ b.toInt → Q v) : wq_X10_needWithin v p a b E Q :=
  z_within (fun h1 h2 => ⟨fun _ => hq h1 h2, fun c => absurd c (by decide)⟩) (fun h => ⟨fun c => absurd rfl c, fun _ x e => by rw [e]; exact he h⟩)
theorem z_form {n v p : Int32} {E : String → Int32 → Prop} {Q : Int32 → Prop} (hn : 0 ≤ n.toInt) (he : ¬ (0 ≤ p.toInt ∧ p.toInt < n.toInt) → E "java/util/NoSuchElementException" (v + 1)) (hq : 0 ≤ p.toInt → p.toInt < n.toInt → Q v) : wq_X10_needForm n v p E Q := by
  have en : (n - 1).toInt = n.toInt - 1 := t_pred (by omega)
  refine z_within (fun h1 h2 => ⟨fun _ => hq ?_ ?_, fun c => absurd c (by decide)⟩) (fun h => ⟨fun c => absurd rfl c, fun _ x e => by rw [e]; exact he (fun w => h (by rw [t_0, en]; omega))⟩)
  · rw [t_0] at h1; exact h1
  · rw [en] at h2; omega
theorem z_hare {n v p : Int32} {E : String → Int32 → Prop} {Q : Int32 → Prop} (hn : 0 ≤ n.toInt) (he : ¬ (0 ≤ p.toInt ∧ p.toInt < n.toInt) → E "java/util/NoSuchElementException" (v + 1)) (hq : 0 ≤ p.toInt → p.toInt < n.toInt → Q v) : wq_X10_needHare n v p E Q := by
  have en : (n - 1).toInt = n.toInt - 1 := t_pred (by omega)
  refine z_within (fun h1 h2 => ⟨fun _ => hq ?_ ?_, fun c => absurd c (by decide)⟩) (fun h => ⟨fun c => absurd rfl c, fun _ x e => by rw [e]; exact he (fun w => h (by rw [t_0, en]; omega))⟩)
  · rw [t_0] at h1; exact h1
  · rw [en] at h2; omega
theorem z_mayY {p1 p2 p3 : Int32} {rf : Nat → Int32} {Q : Int32 → Int32 → (Nat → Int32) → Prop} (h : ¬ p1 = 0) (hq : Q 1 0 rf) : wq_X11_may 0 rf p1 p2 p3 Q := ⟨fun _ => ⟨fun z => absurd rfl z, fun _ => hq⟩, fun z => absurd z h⟩
theorem z_mayN {p1 p2 p3 : Int32} {k : Nat} {rf : Nat → Int32} {Q : Int32 → Int32 → (Nat → Int32) → Prop} (h : p1 = 0) (h2 : ¬ p2 = 0) (h3 : p3.toInt = k) (h4 : k < 2) (hq : Q 0 p2 (upd rf k (rf k + 1))) : wq_X11_may 0 rf p1 p2 p3 Q :=
  ⟨fun z => absurd h z, fun _ => ⟨fun z => absurd rfl z, fun _ => ⟨t_in (by omega) (by omega), fun x3 e3 x4 e4 => ⟨t_in (by omega) (by omega), fun f5 e5 => ⟨fun _ => by rw [e5, e4, e3, t_clamp h3]; exact hq, fun z => absurd z h2⟩⟩⟩⟩⟩
/-! the road of two, told exactly -/
section RDg
variable {v w p2 p3 : Int32} {Q : Int32 → Prop}
theorem g1C (h2 : ¬ p2 = 1) (h3 : ¬ p3 = 1) (h : Q (-w)) : wq_X10_gain v w p2 p3 Q := ⟨fun _ => ⟨fun _ => h, fun d => absurd d h3⟩, fun d => absurd d h2⟩
theorem g2C (h2 : ¬ p2 = 1) (h3 : p3 = 1) (h : Q (v + w)) : wq_X10_gain v w p2 p3 Q := ⟨fun _ => ⟨fun d => absurd h3 d, fun _ => h⟩, fun d => absurd d h2⟩
theorem g3C (h2 : p2 = 1) (h3 : ¬ p3 = 1) (h : Q 0) : wq_X10_gain v w p2 p3 Q := ⟨fun d => absurd h2 d, fun _ => ⟨fun _ => h, fun d => absurd d h3⟩⟩
theorem g4C (h2 : p2 = 1) (h3 : p3 = 1) (h : Q v) : wq_X10_gain v w p2 p3 Q := ⟨fun d => absurd h2 d, fun _ => ⟨fun d => absurd h3 d, fun _ => h⟩⟩
theorem g1M (h2 : ¬ p2 = 1) (h3 : ¬ p3 = 1) (h : Q (-w)) : wq_X11_hasBy p2 p3 v w Q := ⟨fun _ => ⟨fun _ => h, fun d => absurd d h3⟩, fun d => absurd d h2⟩
theorem g2M (h2 : ¬ p2 = 1) (h3 : p3 = 1) (h : Q (v + w)) : wq_X11_hasBy p2 p3 v w Q := ⟨fun _ => ⟨fun d => absurd h3 d, fun _ => h⟩, fun d => absurd d h2⟩
theorem g3M (h2 : p2 = 1) (h3 : ¬ p3 = 1) (h : Q 0) : wq_X11_hasBy p2 p3 v w Q := ⟨fun d => absurd h2 d, fun _ => ⟨fun _ => h, fun d => absurd d h3⟩⟩
theorem g4M (h2 : p2 = 1) (h3 : p3 = 1) (h : Q v) : wq_X11_hasBy p2 p3 v w Q := ⟨fun d => absurd h2 d, fun _ => ⟨fun d => absurd h3 d, fun _ => h⟩⟩
end RDg
/-- what road answers -/
def roA (v w what : Int32) : Int32 := if w = 0 then (if what = 0 then 4 else if what = 1 then 0 else 0) else (if what = 0 then 2 else if what = 1 then 1 else v + w + 0)
theorem nl_le {a b : Int32} (h : ¬ a < b) : b ≤ a := by rw [t_lt] at h; rw [t_le]; omega
theorem c_road {v w what ci : Int32} {E : String → Int32 → Prop} {Q : Int32 → Int32 → Prop} (v0 : 0 ≤ v.toInt) (v9 : v.toInt ≤ 99) (w0 : 0 ≤ w.toInt) (w9 : w.toInt ≤ 99) (hq : Q (roA v w what) ci) : wl_X10_road_35 E Q 5 ci v w what 0 (-1) 0 0 := by
  have hv2 : (v + w).toInt = v.toInt + w.toInt := t_add (by omega) (by omega)
  by_cases hw : w = 0
  · subst hw
    have n00 : ¬ (-0 : Int32) < 0 := by decide
    have nvv : ¬ v + 0 < v := by rw [Int32.add_zero, t_lt]; omega
    have n0m : ¬ (0 : Int32) < -0 := by decide
    have nvw : ¬ v < v + 0 := by rw [Int32.add_zero, t_lt]; omega
    refine ⟨fun c => absurd c (by decide), fun _ x7 e7 x8 e8 => ?_⟩
    obtain rfl : x7 = 0 := by rw [e7]; decide
    obtain rfl : x8 = 0 := by rw [e8]; decide
    refine g1C (by decide) (by decide) (g3C (by decide) (by decide) ?_)
    refine ⟨fun c => absurd c n00, fun _ => g1C (by decide) (by decide) (g3C (by decide) (by decide) ?_)⟩
    refine ⟨fun c => absurd c n00, fun _ => ?_⟩
    refine ⟨fun c => absurd rfl c, fun _ x16 e16 => g1C (by decide) (by decide) (g1C (by decide) (by decide) (fun x19 e19 x21 e21 x20 e20 => ?_))⟩
    obtain rfl : x16 = 0 := by rw [e16]; decide
    obtain rfl : x21 = 1 := by rw [e21]; decide
    obtain rfl : x20 = 1 := by rw [e20]; decide
    refine ⟨fun c => absurd c (by decide), fun _ x7 e7 x8 e8 => ?_⟩
    obtain rfl : x7 = 0 := by rw [e7]; decide
    obtain rfl : x8 = 1 := by rw [e8]; decide
    refine g2C (by decide) (by decide) (g4C (by decide) (by decide) ?_)
    refine ⟨fun c => absurd c nvv, fun _ => g3C (by decide) (by decide) (g1C (by decide) (by decide) ?_)⟩
    refine ⟨fun c => absurd c n0m, fun _ => ?_⟩
    refine ⟨fun _ x21 e21 x20 e20 => ?_, fun c => absurd c (by decide)⟩
    obtain rfl : x21 = 2 := by rw [e21]; decide
    obtain rfl : x20 = 2 := by rw [e20]; decide
    refine ⟨fun c => absurd c (by decide), fun _ x7 e7 x8 e8 => ?_⟩
    obtain rfl : x7 = 1 := by rw [e7]; decide
    obtain rfl : x8 = 0 := by rw [e8]; decide
    refine g3C (by decide) (by decide) (g1C (by decide) (by decide) ?_)
    refine ⟨fun c => absurd c n0m, fun _ => g2C (by decide) (by decide) (g4C (by decide) (by decide) ?_)⟩
    refine ⟨fun c => absurd c nvv, fun _ => ?_⟩
    refine ⟨fun _ x21 e21 x20 e20 => ?_, fun c => absurd c (by decide)⟩
    obtain rfl : x21 = 3 := by rw [e21]; decide
    obtain rfl : x20 = 3 := by rw [e20]; decide
    refine ⟨fun c => absurd c (by decide), fun _ x7 e7 x8 e8 => ?_⟩
    obtain rfl : x7 = 1 := by rw [e7]; decide
    obtain rfl : x8 = 1 := by rw [e8]; decide
    refine g4C (by decide) (by decide) (g2C (by decide) (by decide) ?_)
    refine ⟨fun c => absurd c nvw, fun _ => g4C (by decide) (by decide) (g2C (by decide) (by decide) ?_)⟩
    refine ⟨fun c => absurd c nvw, fun _ => ?_⟩
    refine ⟨fun _ x21 e21 x20 e20 => ?_, fun c => absurd c (by decide)⟩
    obtain rfl : x21 = 4 := by rw [e21]; decide
    obtain rfl : x20 = 4 := by rw [e20]; decide
    refine ⟨fun _ => ⟨fun c => ?_, fun c => ⟨fun c2 => ?_, fun c2 => ?_⟩⟩, fun c => absurd (by decide) c⟩
    · have e := hq
      unfold roA at e; rw [if_pos rfl, if_pos c] at e; exact e
    · have e := hq
      unfold roA at e; rw [if_pos rfl, if_neg c, if_pos c2] at e; exact e
    · have e := hq
      unfold roA at e; rw [if_pos rfl, if_neg c, if_neg c2] at e; rw [e19, show (-0 : Int32) + -0 = 0 by decide]; exact e
  · have mw : (-w).toInt = -w.toInt := by rw [show (-w : Int32) = 0 - w by rw [Int32.zero_sub], t_sub (by rw [t_0]; omega) (by rw [t_0]; omega), t_0]; omega
    have w1 : 0 < w.toInt := by
      by_cases z : w.toInt = 0
      · exact absurd (t_eq.mpr (by rw [z, t_0])) hw
      · omega
    have m0 : -w < 0 := by rw [t_lt, mw, t_0]; omega
    have nvv : ¬ v + w < v := by rw [t_lt, hv2]; omega
    have n0m : ¬ 0 < -w := by rw [t_lt, mw, t_0]; omega
    have vvw : v < v + w := by rw [t_lt, hv2]; omega
    refine ⟨fun c => absurd c (by decide), fun _ x7 e7 x8 e8 => ?_⟩
    obtain rfl : x7 = 0 := by rw [e7]; decide
    obtain rfl : x8 = 0 := by rw [e8]; decide
    refine g1C (by decide) (by decide) (g3C (by decide) (by decide) ?_)
    refine ⟨fun _ x20 e20 => ?_, fun c => absurd m0 c⟩
    obtain rfl : x20 = 1 := by rw [e20]; decide
    refine ⟨fun c => absurd c (by decide), fun _ x7 e7 x8 e8 => ?_⟩
    obtain rfl : x7 = 0 := by rw [e7]; decide
    obtain rfl : x8 = 1 := by rw [e8]; decide
    refine g2C (by decide) (by decide) (g4C (by decide) (by decide) ?_)
    refine ⟨fun c => absurd c nvv, fun _ => g3C (by decide) (by decide) (g1C (by decide) (by decide) ?_)⟩
    refine ⟨fun c => absurd c n0m, fun _ => ?_⟩
    refine ⟨fun c => absurd rfl c, fun _ x16 e16 => g2C (by decide) (by decide) (g3C (by decide) (by decide) (fun x19 e19 x21 e21 x20 e20 => ?_))⟩
    obtain rfl : x16 = 1 := by rw [e16]; decide
    obtain rfl : x21 = 1 := by rw [e21]; decide
    obtain rfl : x20 = 2 := by rw [e20]; decide
    refine ⟨fun c => absurd c (by decide), fun _ x7 e7 x8 e8 => ?_⟩
    obtain rfl : x7 = 1 := by rw [e7]; decide
    obtain rfl : x8 = 0 := by rw [e8]; decide
    refine g3C (by decide) (by decide) (g1C (by decide) (by decide) ?_)
    refine ⟨fun c => absurd c n0m, fun _ => g2C (by decide) (by decide) (g4C (by decide) (by decide) ?_)⟩
    refine ⟨fun c => absurd c nvv, fun _ => ?_⟩
    refine ⟨fun _ x21 e21 x20 e20 => ?_, fun c => absurd c (by decide)⟩
    obtain rfl : x21 = 2 := by rw [e21]; decide
    obtain rfl : x20 = 3 := by rw [e20]; decide
    refine ⟨fun c => absurd c (by decide), fun _ x7 e7 x8 e8 => ?_⟩
    obtain rfl : x7 = 1 := by rw [e7]; decide
    obtain rfl : x8 = 1 := by rw [e8]; decide
    refine g4C (by decide) (by decide) (g2C (by decide) (by decide) ?_)
    refine ⟨fun _ x20 e20 => ?_, fun c => absurd vvw c⟩
    obtain rfl : x20 = 4 := by rw [e20]; decide
    refine ⟨fun _ => ⟨fun c => ?_, fun c => ⟨fun c2 => ?_, fun c2 => ?_⟩⟩, fun c => absurd (by decide) c⟩
    · have e := hq
      unfold roA at e; rw [if_neg hw, if_pos c] at e; exact e
    · have e := hq
      unfold roA at e; rw [if_neg hw, if_neg c, if_pos c2] at e; exact e
    · have e := hq
      unfold roA at e; rw [if_neg hw, if_neg c, if_neg c2] at e; rw [e19]; exact e
theorem m_road {v w what th : Int32} {rf : Nat → Int32} {Q : Int32 → Int32 → (Nat → Int32) → Prop} (v0 : 0 ≤ v.toInt) (v9 : v.toInt ≤ 99) (w0 : 0 ≤ w.toInt) (w9 : w.toInt ≤ 99) (hq : Q (roA v w what) th rf) : wl_X11_road_59 Q 5 th rf v w what 0 (-1) 0 := by
  have hv2 : (v + w).toInt = v.toInt + w.toInt := t_add (by omega) (by omega)
  by_cases hw : w = 0
  · subst hw
    have n00 : ¬ (-0 : Int32) < 0 := by decide
    have nvv : ¬ v + 0 < v := by rw [Int32.add_zero, t_lt]; omega
    have n0m : ¬ (0 : Int32) < -0 := by decide
    have nvw : ¬ v < v + 0 := by rw [Int32.add_zero, t_lt]; omega
    refine ⟨fun c => absurd c (by decide), fun _ x21 e21 x22 e22 => ?_⟩
    obtain rfl : x21 = 0 := by rw [e21]; decide
    obtain rfl : x22 = 0 := by rw [e22]; decide
    refine g3M (by decide) (by decide) (g1M (by decide) (by decide) ?_)
    refine ⟨fun c => absurd c n00, fun _ => g3M (by decide) (by decide) (g1M (by decide) (by decide) ?_)⟩
    refine ⟨fun _ x29 e29 => ?_, fun c => absurd (nl_le n00) c⟩
    obtain rfl : x29 = 1 := by rw [e29]; decide
    refine ⟨fun c => absurd rfl c, fun _ x31 e31 => ?_⟩
    rw [show (10 * (0 : Int32)) + 0 = 0 by decide]
    obtain rfl : x31 = 1 := by rw [e31]; decide
    refine ⟨fun c => absurd c (by decide), fun _ x21 e21 x22 e22 => ?_⟩
    obtain rfl : x21 = 0 := by rw [e21]; decide
    obtain rfl : x22 = 1 := by rw [e22]; decide
    refine g4M (by decide) (by decide) (g2M (by decide) (by decide) ?_)
    refine ⟨fun c => absurd c nvv, fun _ => g1M (by decide) (by decide) (g3M (by decide) (by decide) ?_)⟩
    refine ⟨fun _ x29 e29 => ?_, fun c => absurd (nl_le n0m) c⟩
    obtain rfl : x29 = 2 := by rw [e29]; decide
    refine ⟨fun _ x31 e31 => ?_, fun c => absurd c (by decide)⟩
    obtain rfl : x31 = 2 := by rw [e31]; decide
    refine ⟨fun c => absurd c (by decide), fun _ x21 e21 x22 e22 => ?_⟩
    obtain rfl : x21 = 1 := by rw [e21]; decide
    obtain rfl : x22 = 0 := by rw [e22]; decide
    refine g1M (by decide) (by decide) (g3M (by decide) (by decide) ?_)
    refine ⟨fun c => absurd c n0m, fun _ => g4M (by decide) (by decide) (g2M (by decide) (by decide) ?_)⟩
    refine ⟨fun _ x29 e29 => ?_, fun c => absurd (nl_le nvv) c⟩
    obtain rfl : x29 = 3 := by rw [e29]; decide
    refine ⟨fun _ x31 e31 => ?_, fun c => absurd c (by decide)⟩
    obtain rfl : x31 = 3 := by rw [e31]; decide
    refine ⟨fun c => absurd c (by decide), fun _ x21 e21 x22 e22 => ?_⟩
    obtain rfl : x21 = 1 := by rw [e21]; decide
    obtain rfl : x22 = 1 := by rw [e22]; decide
    refine g2M (by decide) (by decide) (g4M (by decide) (by decide) ?_)
    refine ⟨fun c => absurd c nvw, fun _ => g2M (by decide) (by decide) (g4M (by decide) (by decide) ?_)⟩
    refine ⟨fun _ x29 e29 => ?_, fun c => absurd (nl_le nvw) c⟩
    obtain rfl : x29 = 4 := by rw [e29]; decide
    refine ⟨fun _ x31 e31 => ?_, fun c => absurd c (by decide)⟩
    obtain rfl : x31 = 4 := by rw [e31]; decide
    refine ⟨fun _ => ⟨fun c => ⟨fun c2 => ⟨fun _ x15 e15 x16 e16 => ?_, fun d => absurd d (by decide)⟩, fun c2 => ?_⟩, fun c => ?_⟩, fun c => absurd (by decide) c⟩
    · have e := hq
      unfold roA at e; rw [if_pos rfl, if_neg c, if_neg c2] at e
      obtain rfl : x15 = 0 := by rw [e15]; decide
      obtain rfl : x16 = 0 := by rw [e16]; decide
      refine g1M (by decide) (by decide) (fun x18 e18 x19 e19 => ?_)
      obtain rfl : x18 = 0 := by rw [e18]; decide
      obtain rfl : x19 = 0 := by rw [e19]; decide
      exact g1M (by decide) (by decide) (by rw [show (-0 : Int32) + -0 = 0 by decide]; exact e)
    · have e := hq
      unfold roA at e; rw [if_pos rfl, if_neg c, if_pos c2] at e; rw [show (0 : Int32) = 0 from rfl]; exact e
    · have e := hq
      unfold roA at e; rw [if_pos rfl, if_pos c] at e; exact e
  · have mw : (-w).toInt = -w.toInt := by rw [show (-w : Int32) = 0 - w by rw [Int32.zero_sub], t_sub (by rw [t_0]; omega) (by rw [t_0]; omega), t_0]; omega
    have w1 : 0 < w.toInt := by
      by_cases z : w.toInt = 0
      · exact absurd (t_eq.mpr (by rw [z, t_0])) hw
      · omega
    have m0 : -w < 0 := by rw [t_lt, mw, t_0]; omega
    have nvv : ¬ v + w < v := by rw [t_lt, hv2]; omega
    have n0m : ¬ 0 < -w := by rw [t_lt, mw, t_0]; omega
    have vvw : v < v + w := by rw [t_lt, hv2]; omega
    refine ⟨fun c => absurd c (by decide), fun _ x21 e21 x22 e22 => ?_⟩
    obtain rfl : x21 = 0 := by rw [e21]; decide
    obtain rfl : x22 = 0 := by rw [e22]; decide
    refine g3M (by decide) (by decide) (g1M (by decide) (by decide) ?_)
    refine ⟨fun _ x31 e31 => ?_, fun c => absurd m0 c⟩
    obtain rfl : x31 = 1 := by rw [e31]; decide
    refine ⟨fun c => absurd c (by decide), fun _ x21 e21 x22 e22 => ?_⟩
    obtain rfl : x21 = 0 := by rw [e21]; decide
    obtain rfl : x22 = 1 := by rw [e22]; decide
    refine g4M (by decide) (by decide) (g2M (by decide) (by decide) ?_)
    refine ⟨fun c => absurd c nvv, fun _ => g1M (by decide) (by decide) (g3M (by decide) (by decide) ?_)⟩
    refine ⟨fun _ x29 e29 => ?_, fun c => absurd (nl_le n0m) c⟩
    obtain rfl : x29 = 1 := by rw [e29]; decide
    refine ⟨fun c => absurd rfl c, fun _ x31 e31 => ?_⟩
    rw [show (10 * (0 : Int32)) + 1 = 1 by decide]
    obtain rfl : x31 = 2 := by rw [e31]; decide
    refine ⟨fun c => absurd c (by decide), fun _ x21 e21 x22 e22 => ?_⟩
    obtain rfl : x21 = 1 := by rw [e21]; decide
    obtain rfl : x22 = 0 := by rw [e22]; decide
    refine g1M (by decide) (by decide) (g3M (by decide) (by decide) ?_)
    refine ⟨fun c => absurd c n0m, fun _ => g4M (by decide) (by decide) (g2M (by decide) (by decide) ?_)⟩
    refine ⟨fun _ x29 e29 => ?_, fun c => absurd (nl_le nvv) c⟩
    obtain rfl : x29 = 2 := by rw [e29]; decide
    refine ⟨fun _ x31 e31 => ?_, fun c => absurd c (by decide)⟩
    obtain rfl : x31 = 3 := by rw [e31]; decide
    refine ⟨fun c => absurd c (by decide), fun _ x21 e21 x22 e22 => ?_⟩
    obtain rfl : x21 = 1 := by rw [e21]; decide
    obtain rfl : x22 = 1 := by rw [e22]; decide
    refine g2M (by decide) (by decide) (g4M (by decide) (by decide) ?_)
    refine ⟨fun _ x31 e31 => ?_, fun c => absurd vvw c⟩
    obtain rfl : x31 = 4 := by rw [e31]; decide
    refine ⟨fun _ => ⟨fun c => ⟨fun c2 => ⟨fun _ x15 e15 x16 e16 => ?_, fun d => absurd d (by decide)⟩, fun c2 => ?_⟩, fun c => ?_⟩, fun c => absurd (by decide) c⟩
    · have e := hq
      unfold roA at e; rw [if_neg hw, if_neg c, if_neg c2] at e
      obtain rfl : x15 = 0 := by rw [e15]; decide
      obtain rfl : x16 = 1 := by rw [e16]; decide
      refine g2M (by decide) (by decide) (fun x18 e18 x19 e19 => ?_)
      obtain rfl : x18 = 1 := by rw [e18]; decide
      obtain rfl : x19 = 0 := by rw [e19]; decide
      exact g3M (by decide) (by decide) e
    · have e := hq
      unfold roA at e; rw [if_neg hw, if_neg c, if_pos c2] at e; rw [show (1 : Int32) = 1 from rfl]; exact e
    · have e := hq
      unfold roA at e; rw [if_neg hw, if_pos c] at e; exact e
