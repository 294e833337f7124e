section
/-! both states held against each other: the tapes, the downs -/
def relA (fl tp : Int32) (by_ ta : Nat → Int32) : Prop := ∃ (P : Nat) (t : Nat → Int), fl.toInt = P ∧ tp.toInt = P ∧ P ≤ 600 ∧ tB P by_ t ∧ tB P ta t
def relD (nf nh nx sf : Int32) (db FX FY se sr X Y : Nat → Int32) (mf mh mx : Int32) (fo ha fx : Nat → Int32) : Prop := ∃ d : dT, d.1.1 = 0 ∧ dOk d ∧ cD d nf nh nx db FX FY se sr X Y ∧ sf = sfD d ∧ mG d mf mh mx fo ha fx
theorem relA_0 {fl tp : Int32} {by_ ta : Nat → Int32} (h1 : fl.toInt = 0) (h2 : tp.toInt = 0) : relA fl tp by_ ta := ⟨0, fun _ => 0, h1, h2, by omega, fun j hj => absurd hj (Nat.not_lt_zero j), fun j hj => absurd hj (Nat.not_lt_zero j)⟩
theorem relA_go {fl tp f2 t2 : Int32} {by_ ta : Nat → Int32} (h : relA fl tp by_ ta) (hc : (f2.toInt = 0 ∧ t2.toInt = 0) ∨ (f2.toInt = fl.toInt ∧ t2.toInt = tp.toInt)) : relA f2 t2 by_ ta := by
  rcases hc with ⟨h1, h2⟩ | ⟨h1, h2⟩
  · exact relA_0 h1 h2
  · obtain ⟨P, t, g1, g2, g3, g4, g5⟩ := h
    exact ⟨P, t, by omega, by omega, g3, g4, g5⟩
theorem relD_0 {mf mh mx : Int32} {db FX FY se sr X Y fo ha fx : Nat → Int32} (h1 : mf.toInt = 0) (h2 : mh.toInt = 0) (h3 : mx.toInt = 0) (h4 : ∀ j : Nat, j < 36 → db j = 0) : relD 0 0 0 0 db FX FY se sr X Y mf mh mx fo ha fx :=
  ⟨((0, 0, 0), 0, 0, 0, (fun _ => 0), (fun _ => 0), (fun _ => 0), (fun _ => 0)), rfl, ⟨⟨by decide, by decide, by decide⟩, fun j hj => absurd hj (Nat.not_lt_zero j), fun j hj => absurd hj (Nat.not_lt_zero j), fun j hj => absurd hj (Nat.not_lt_zero j), fun x y _ _ => ⟨Int.le_refl _, (show (0 : Int) ≤ 99 by decide), fun e => absurd rfl e⟩⟩,
   ⟨⟨t_0, by decide⟩, ⟨t_0, by decide⟩, ⟨t_0, by decide⟩, fun _ => ⟨fun j hj => absurd hj (Nat.not_lt_zero j), fun j hj => absurd hj (Nat.not_lt_zero j), fun j hj => absurd hj (Nat.not_lt_zero j), fun j hj => by rw [h4 j hj]; exact t_0⟩⟩, rfl,
   ⟨⟨h1, h2, h3⟩, fun j hj => absurd hj (Nat.not_lt_zero j), fun j hj => absurd hj (Nat.not_lt_zero j), fun j hj => absurd hj (Nat.not_lt_zero j)⟩⟩
/-! answers held against each other -/
theorem z_self {fo : Nat → Int64} {r : Int64} : lg_cmp (vp_updL fo (0 : Int32).toNatClampNeg r (0 : Int32).toNatClampNeg) r = 0 := by
  have h := ((q_finO (fo := fo) (r := r)).1 rfl).2 rfl _ rfl
  by_cases c : lg_cmp (vp_updL fo (0 : Int32).toNatClampNeg r (0 : Int32).toNatClampNeg) r = 0
  · exact c
  · exact (h.2 c).elim
theorem z_cmp0 {G : Prop} {fo f6 : Nat → Int64} {x5 : Int64} {rc rm : Int32} (e5 : x5 = rc.toInt64) (e6 : f6 = vp_updL fo (0 : Int32).toNatClampNeg x5) (h : rc = rm) (g : G) : wq_X11_thrown 0 (fun r56 => ((r56 = 0 → ((¬ (0 : Int32) = 0 → G) ∧ ((0 : Int32) = 0 → ∀ x59 : Int64, x59 = f6 (0 : Int32).toNatClampNeg → (((lg_cmp x59 rm.toInt64) = 0 → G) ∧ (¬ (lg_cmp x59 rm.toInt64) = 0 → False))))) ∧ (¬ r56 = 0 → False))) :=
  ⟨fun _ => ⟨fun c => absurd rfl c, fun _ x59 e59 => ⟨fun _ => g, fun c => c (by rw [e59, e6, e5, h]; exact z_self)⟩⟩, fun c => absurd rfl c⟩
theorem z_cmpk {G : Prop} {k rm : Int32} {f6 : Nat → Int64} (hk : ¬ k = 0) (g : G) : wq_X11_thrown k (fun r56 => ((r56 = k → ((¬ k = 0 → G) ∧ (k = 0 → ∀ x59 : Int64, x59 = f6 (0 : Int32).toNatClampNeg → (((lg_cmp x59 rm.toInt64) = 0 → G) ∧ (¬ (lg_cmp x59 rm.toInt64) = 0 → False))))) ∧ (¬ r56 = k → False))) :=
  ⟨fun _ => ⟨fun _ => g, fun c => absurd c hk⟩, fun c => absurd rfl c⟩
/-! arguments that are refused -/
theorem z_within {p a b : Int32} {Q : Int32 → Prop} (q1 : a.toInt ≤ p.toInt → p.toInt ≤ b.toInt → Q 1) (q0 : ¬ (a.toInt ≤ p.toInt ∧ p.toInt ≤ b.toInt) → Q 0) : wq_X10_within p a b Q := by
  refine ⟨fun c => q0 ?_, fun c => ⟨fun c2 => q0 ?_, fun c2 => ?_⟩⟩
  · rw [t_lt] at c; omega
  · rw [t_lt] at c c2; omega
  · rw [t_lt] at c c2; exact q1 (by omega) (by omega)
theorem rS_ni {d : dT} {nf nh nx : Int32} {db fx ha fo g1 g2 g3 nw : Nat → Int32} (h0 : d.1.1 = 0) (ok : dOk d) (hd : mD d nf nh nx db fx ha fo) (hg : mG d nf nh nx g1 g2 g3) (hn : ∀ j : Nat, j < 68 → nw j = ni d.2.2.1 g2 db j) : rS nh nf nw := by
  obtain ⟨⟨k1, k2, k3⟩, o1, o2, o3, o4⟩ := ok
  obtain ⟨⟨n1, n2⟩, ⟨m1, m2⟩, ⟨x1, x2⟩, hr⟩ := hd
  obtain ⟨r1, r2, r3, r4⟩ := hr h0
  obtain ⟨c, p1, p2, p3⟩ := hg
  refine ⟨⟨by omega, by omega, by omega, ?_⟩, fun j hj => ?_, fun j j0 j1 => ?_⟩
  · by_cases z : d.2.2.1 = 0
    · exact Or.inl (by omega)
    · have := o2 0 (by omega)
      exact Or.inr (by omega)
  · have e : nw j = g2 (2 * j) := by
      rw [hn j (by omega)]
      unfold ni
      rw [if_neg (by omega), if_neg (by omega), if_pos (by omega), if_pos (by omega)]
    have q := p2 (2 * j) (by omega)
    have g := o2 j (by omega)
    rw [e, q]
    omega
  · have e : nw j = db (j - 30) := by
      rw [hn j (by omega)]
      unfold ni
      rw [if_neg (by omega), if_pos j0, if_pos j1]
    have q := r4 (j - 30) (by omega)
    have g := o4 ((j - 30) / 6) ((j - 30) % 6) (by omega) (by omega)
    rw [show 6 * ((j - 30) / 6) + (j - 30) % 6 = j - 30 by omega] at g
    rw [e, q]
    exact ⟨g.1, g.2.1⟩
end
section
/-! the class's reading of a law -/
def kC (k : Int) : Int := if k = 6 then 7 else if k = 7 then 8 else if k = 8 then 6 else k
section TC
variable {n : Nat} {b : Nat → Int} {st : sT} {len : Int32} {f : Nat → Int32}
end TC
end
section
/-! how far by a law: both piles -/
def bo (k : Int) (a c : Int32) : Int32 := if k = 2 then a + c else if k = 3 then a - c else if k = 4 then a * c else if k = 5 then (if c = 0 then 0 else a / c) else if k = 8 then (if c = 0 then 0 else a - a / c * c) else if k = 6 then (if c ≤ a then c else a) else (if a ≤ c then c else a)
end
section
/-! a book's text, by both -/
abbrev bkT := sT × Nat × (Nat → Int)
def bkM (n : Nat) (b : Nat → Int) (F : Int) (B : Nat → Int) (st : sT) : sT := if B (nV n b st).toNat ≠ -1 then fS 2 (sk n b st.2.2) (nS n b 0 (F - 1) st) else nS n b 0 (F - 1) st
def bkS (n : Nat) (b : Nat → Int) (F : Int) (x : bkT) : bkT := (gS n b 59 (nS n b 0 6 (bkM n b F x.2.2 x.1)), x.2.1 + 1, iu x.2.2 (nV n b x.1).toNat (nV n b (bkM n b F x.2.2 x.1)))
def bkR (n : Nat) (b : Nat → Int) (F : Int) : Nat → bkT → bkT
  | 0, x => x
  | k + 1, x => if x.1.1 ≠ 0 ∨ ¬ sk n b x.1.2.2 < n then x else bkR n b F k (bkS n b F x)
def bkAll (n : Nat) (b : Nat → Int) (F : Int) : bkT := bkR n b F 9 ((0, 0, 0), 0, fun _ => -1)
def cnB (B : Nat → Int) : Nat → Nat
  | 0 => 0
  | k + 1 => cnB B k + (if B k ≠ -1 then 1 else 0)
theorem cnB_le {B : Nat → Int} : ∀ k : Nat, cnB B k ≤ k := by
  intro k
  induction k with
  | zero => exact Nat.le_refl _
  | succ k ih =>
    unfold cnB
    by_cases z : B k ≠ -1
    · rw [if_pos z]; omega
    · rw [if_neg z]; omega
theorem cnB_ge {B : Nat → Int} {v : Nat} {w : Int} : ∀ k : Nat, k ≤ v → cnB (iu B v w) k = cnB B k := by
  intro k
  induction k with
  | zero => intro _; rfl
  | succ k ih =>
    intro h
    unfold cnB
    rw [ih (by omega), iu_n (by omega)]
theorem cnB_up {B : Nat → Int} {v : Nat} {w : Int} (h1 : B v = -1) (h2 : w ≠ -1) : ∀ k : Nat, v < k → cnB (iu B v w) k = cnB B k + 1 := by
  intro k
  induction k with
  | zero => intro h; omega
  | succ k ih =>
    intro h
    unfold cnB
    by_cases z : k = v
    · subst z
      rw [cnB_ge k (Nat.le_refl _), iu_s, if_pos h2, if_neg (fun d => d h1)]
    · rw [ih (by omega), iu_n z]; omega
section TB
variable {n : Nat} {b : Nat → Int} {len : Int32} {f : Nat → Int32}
theorem bkM_bad {F : Int} {B : Nat → Int} {st : sT} (h : (nS n b 0 (F - 1) st).1 ≠ 0) : bkM n b F B st = nS n b 0 (F - 1) st := by
  unfold bkM
  by_cases z : B (nV n b st).toNat ≠ -1
  · rw [if_pos z, fS_bad h]
  · rw [if_neg z]
theorem bkM_fine {F : Int} {B : Nat → Int} {st : sT} (h : (bkM n b F B st).1 = 0) : (nS n b 0 (F - 1) st).1 = 0 ∧ B (nV n b st).toNat = -1 := by
  have h1 : (nS n b 0 (F - 1) st).1 = 0 := by
    by_cases w : (nS n b 0 (F - 1) st).1 = 0
    · exact w
    · rw [bkM_bad w] at h; exact h
  refine ⟨h1, ?_⟩
  by_cases z : B (nV n b st).toNat = -1
  · exact z
  · unfold bkM at h
    rw [if_pos z, fS_0 h1] at h
    exact absurd h (by first | decide | simp)
theorem bkS_fine {F : Int} {x : bkT} (h : (bkS n b F x).1.1 = 0) : (nS n b 0 6 (bkM n b F x.2.2 x.1)).1 = 0 ∧ (bkM n b F x.2.2 x.1).1 = 0 ∧ (nS n b 0 (F - 1) x.1).1 = 0 ∧ x.2.2 (nV n b x.1).toNat = -1 := by
  have h1 : (nS n b 0 6 (bkM n b F x.2.2 x.1)).1 = 0 := gS_fine (c := 59) h
  have h2 : (bkM n b F x.2.2 x.1).1 = 0 := (nS_fine h1).1
  exact ⟨h1, h2, bkM_fine h2⟩
/-- lines as many as forms told -/
def bkO (x : bkT) : Prop := x.1.1 = 0 → cnB x.2.2 8 = x.2.1 ∧ ∀ j : Nat, j < 8 → -1 ≤ x.2.2 j ∧ x.2.2 j ≤ 6
theorem bkO_s {F : Int} {x : bkT} (hF : F ≤ 8) (h : bkO x) : bkO (bkS n b F x) := fun z => by
  obtain ⟨h1, h2, h3, h4⟩ := bkS_fine z
  obtain ⟨h0, a1, a2⟩ := nS_fine h3
  obtain ⟨-, a3, a4⟩ := nS_fine h1
  obtain ⟨o1, o2⟩ := h h0
  refine ⟨?_, fun j hj => ?_⟩
  · show cnB (iu x.2.2 (nV n b x.1).toNat (nV n b (bkM n b F x.2.2 x.1))) 8 = x.2.1 + 1
    rw [cnB_up h4 (by omega) 8 (by omega), o1]
  · show -1 ≤ iu x.2.2 (nV n b x.1).toNat (nV n b (bkM n b F x.2.2 x.1)) j ∧ iu x.2.2 (nV n b x.1).toNat (nV n b (bkM n b F x.2.2 x.1)) j ≤ 6
    by_cases e : j = (nV n b x.1).toNat
    · rw [e, iu_s]; omega
    · rw [iu_n e]; exact o2 j hj
theorem bkR_end {F : Int} {k : Nat} {x : bkT} (h : x.1.1 ≠ 0 ∨ ¬ sk n b x.1.2.2 < n) : bkR n b F k x = x := by
  cases k with
  | zero => rfl
  | succ k => unfold bkR; rw [if_pos h]
theorem bkR_go {F : Int} {k : Nat} {x : bkT} (h0 : x.1.1 = 0) (h : sk n b x.1.2.2 < n) : bkR n b F (k + 1) x = bkR n b F k (bkS n b F x) := by
  show (if _ then _ else _) = _
  rw [if_neg (fun d => d.elim (fun z => z h0) (fun z => z h))]
def cBk (x : bkT) (many : Int32) (seen : Nat → Int32) : Prop := x.1.1 = 0 → many.toInt = x.2.1 ∧ pm 8 seen x.2.2
theorem cs_line33 {Q : Int32 → Int32 → Int32 → Int32 → (Nat → Int32) → Int32 → Prop} {a fa fp tk many l3 : Int32} {seen : Nat → Int32} {x : bkT} {F : Int} (hl : len.toInt = n) (hn : n ≤ 600) (hb : tB n f b) (hF : F ≤ 8) (h9 : x.1.1 = 0 → x.2.1 ≤ 8) (hc : cS n b (bkM n b F x.2.2 x.1) a fa fp) (hB : cBk x many seen) (hv : (bkM n b F x.2.2 x.1).1 = 0 → l3.toInt = nV n b x.1)
    (hq : ∀ (a fa fp tk : Int32) (seen : Nat → Int32) (many : Int32), cS n b (bkS n b F x).1 a fa fp → cBk (bkS n b F x) many seen → Q a fa fp tk seen many) : wb_X0_readLine_33 len f Q a fa fp tk seen many l3 := by
  refine cs_number hl hn hb hc (by decide) (by decide) (fun r x12 x13 x14 x15 c1 v1 => cs_needs hl hn hb c1 (by decide) (fun x17 x18 x19 x20 c2 => ?_))
  rw [t_0, t_6] at v1
  rw [t_0, t_6, t_59] at c2
  have c2 : cS n b (bkS n b F x).1 x17 x19 x20 := c2
  refine ⟨fun z => ⟨fun d => absurd rfl d, fun _ => ?_⟩, fun z => ⟨fun _ => hq _ _ _ _ _ _ c2 (fun w => absurd (cS_fa c2 w) z), fun d => absurd d (by first | decide | simp)⟩⟩
  have hz : (bkS n b F x).1.1 = 0 := by rw [← c2.2.1, z, t_0]
  obtain ⟨h1, h2, h3, h4⟩ := bkS_fine hz
  obtain ⟨h0, a1, a2⟩ := nS_fine h3
  obtain ⟨b1, b2⟩ := hB h0
  have el := hv h2
  have k9 := h9 h0
  refine ⟨t_in (by omega) (by omega), fun f23 e23 x24 e24 => hq _ _ _ _ _ _ c2 (fun _ => ⟨?_, ?_⟩)⟩
  · show x24.toInt = ((x.2.1 + 1 : Nat) : Int)
    rw [e24, t_inc (by omega), b1]; omega
  · have ec : l3.toNatClampNeg = (nV n b x.1).toNat := t_clamp (by rw [el]; omega)
    rw [e23, ec]
    exact pm_upd b2 (v1 h1).1
theorem cs_line {Q : Int32 → Int32 → Int32 → Int32 → (Nat → Int32) → Int32 → Prop} {a fa fp tk many p2 : Int32} {seen : Nat → Int32} {x : bkT} {F : Int} (hl : len.toInt = n) (hn : n ≤ 600) (hb : tB n f b) (hp : p2.toInt = F) (hF0 : 0 ≤ F) (hF : F ≤ 8) (h0 : x.1.1 = 0) (h9 : x.1.1 = 0 → x.2.1 ≤ 8) (hc : cS n b x.1 a fa fp) (hB : cBk x many seen)
    (hq : ∀ (a fa fp tk : Int32) (seen : Nat → Int32) (many : Int32), cS n b (bkS n b F x).1 a fa fp → cBk (bkS n b F x) many seen → Q a fa fp tk seen many) : wq_X0_readLine len f a fa fp tk seen many p2 Q := by
  have en : (p2 - 1).toInt = F - 1 := by rw [t_pred (by omega), hp]
  obtain ⟨b1, b2⟩ := hB h0
  refine cs_number hl hn hb hc (by decide) (by rw [en]; omega) (fun r5 x1 x2 x3 x4 c1 v1 => ?_)
  rw [t_0, en] at c1 v1
  by_cases hs : (nS n b 0 (F - 1) x.1).1 = 0
  · obtain ⟨-, a1, a2⟩ := nS_fine hs
    obtain ⟨e5, e4⟩ := v1 hs
    have ec : r5.toNatClampNeg = (nV n b x.1).toNat := t_clamp (by rw [e5]; omega)
    refine z_within (fun g1 g2 => ⟨fun d => absurd d (by first | decide | simp), fun _ => ?_⟩) (fun w => absurd ⟨by rw [t_0]; omega, by rw [en]; omega⟩ w)
    refine ⟨t_in (by omega) (by omega), fun x9 e9 => ⟨fun z => ⟨fun _ => ?_, fun d => absurd rfl d⟩, fun z => ⟨fun d => absurd d (by first | decide | simp), fun _ => ?_⟩⟩⟩
    · rw [ec] at e9
      have hz : x.2.2 (nV n b x.1).toNat = -1 := by rw [← b2 _ (by omega), ← e9, z, t_m1]
      refine cs_line33 hl hn hb hF h9 ?_ hB (fun _ => e5) hq
      unfold bkM
      rw [if_neg (fun d => d hz)]; exact c1
    · rw [ec] at e9
      have hz : x.2.2 (nV n b x.1).toNat ≠ -1 := fun e => z (by rw [t_eq, t_m1, e9, b2 _ (by omega)]; exact e)
      refine cs_blameT (s := sk n b x.1.2.2) c1 (by decide) (fun _ => e4) (fun f2 p c => cs_line33 hl hn hb hF h9 ?_ hB (fun _ => e5) hq)
      unfold bkM
      rw [if_pos hz, ← t_2]; exact c
  · have eM : bkM n b F x.2.2 x.1 = nS n b 0 (F - 1) x.1 := bkM_bad hs
    have go : ∀ (fa fp : Int32), cS n b (nS n b 0 (F - 1) x.1) x1 fa fp → wb_X0_readLine_33 len f Q x1 fa fp x4 seen many r5 := fun fa fp c => cs_line33 hl hn hb hF h9 (by rw [eM]; exact c) hB (fun w => absurd (by rw [eM] at w; exact w) hs) hq
    refine z_within (fun g1 g2 => ⟨fun d => absurd d (by first | decide | simp), fun _ => ?_⟩) (fun w => ⟨fun _ => go _ _ c1, fun d => absurd rfl d⟩)
    rw [t_0] at g1
    rw [en] at g2
    refine ⟨t_in g1 (by omega), fun x9 e9 => ⟨fun z => ⟨fun _ => go _ _ c1, fun d => absurd rfl d⟩, fun z => ⟨fun d => absurd d (by first | decide | simp), fun _ => ?_⟩⟩⟩
    refine cs_blameT (s := 0) c1 (by decide) (fun w => absurd w hs) (fun f2 p c => go f2 p ?_)
    rw [fS_bad hs] at c; exact c
theorem cs_lines {Q : Int32 → (Nat → Int32) → Int32 → Int32 → Int32 → Int32 → Prop} {F : Int} {p2 : Int32} {R : bkT} (hl : len.toInt = n) (hn : n ≤ 600) (hb : tB n f b) (hp : p2.toInt = F) (hF0 : 0 ≤ F) (hF : F ≤ 8) (hq : ∀ (many : Int32) (seen : Nat → Int32) (a fa fp tk : Int32), cS n b R.1 a fa fp → cBk R many seen → Q many seen a fa fp tk) :
    ∀ (k : Nat) (many : Int32) (seen : Nat → Int32) (a fa fp tk l3 : Int32) (i : Nat) (x : bkT), cS n b x.1 a fa fp → cBk x many seen → bkO x → l3.toInt = i → i ≤ 9 → 9 - i < k → bkR n b F (9 - i) x = R → wl_X0_readFrom_6 len f Q k many seen a fa fp tk p2 l3 := by
  intro k
  induction k with
  | zero => intro many seen a fa fp tk l3 i x hc hB hO h1 h2 h3; omega
  | succ k ih =>
    intro many seen a fa fp tk l3 i x hc hB hO h1 h2 h3 hR
    refine ⟨fun c => ?_, fun c => ⟨fun z => ⟨fun d => absurd rfl d, fun _ => ?_⟩, fun z => ⟨fun _ => ?_, fun d => absurd d (by first | decide | simp)⟩⟩⟩
    · rw [t_lt, t_8] at c
      rw [show 9 - i = 0 by omega] at hR
      have hR : x = R := hR
      rw [hR] at hc hB
      exact hq _ _ _ _ _ _ hc hB
    · rw [t_lt, t_8] at c
      have h0 : x.1.1 = 0 := by rw [← hc.2.1, z, t_0]
      refine cs_isEnded hl hn hb hc h0 (fun w y cy => ⟨fun d => absurd rfl d, fun _ => ?_⟩) (fun w y cy => ⟨fun _ => ?_, fun d => absurd d (by first | decide | simp)⟩)
      · rw [show 9 - i = (9 - (i + 1)) + 1 by omega, bkR_go h0 w] at hR
        exact cs_line hl hn hb hp hF0 hF h0 (fun h => by have := (hO h).1; have := cnB_le (B := x.2.2) 8; omega) cy hB (fun a fa fp tk seen many c9 b9 x15 e15 => ih _ _ _ _ _ _ x15 (i + 1) _ c9 b9 (bkO_s hF hO) (by rw [e15, t_inc (by omega), h1]; omega) (by omega) (by omega) hR)
      · rw [bkR_end (Or.inr w)] at hR
        rw [hR] at cy hB
        exact hq _ _ _ _ _ _ cy hB
    · have h0 : x.1.1 ≠ 0 := fun w => z (cS_fa hc w)
      rw [bkR_end (Or.inl h0)] at hR
      rw [hR] at hc hB
      exact hq _ _ _ _ _ _ hc hB
theorem c_clear {Q : Int32 → (Nat → Int32) → Prop} {v : Int32} {seen : Nat → Int32} (hq : ∀ s : Nat → Int32, (∀ j : Nat, j < 8 → s j = -1) → Q 0 s) : wq_X0_clear v seen Q := by
  have go : ∀ (k : Nat) (s : Nat → Int32) (l1 : Int32) (i : Nat), l1.toInt = i → i ≤ 8 → (∀ j : Nat, j < i → s j = -1) → 8 - i < k → wl_X0_clear_7 Q k 0 s l1 := by
    intro k
    induction k with
    | zero => intro s l1 i h1 h2 h3 h4; omega
    | succ k ih =>
      intro s l1 i h1 h2 h3 h4
      refine ⟨fun c => hq s (fun j hj => h3 j (by rw [t_le, t_8] at c; omega)), fun c => ?_⟩
      rw [t_le, t_8] at c
      refine ⟨t_in (by omega) (by omega), fun f2 e2 x3 e3 => ih f2 x3 (i + 1) (by rw [e3, t_inc (by omega), h1]; omega) (by omega) (fun j hj => ?_) (by omega)⟩
      rw [e2, t_clamp h1]
      by_cases z : j = i
      · rw [z, pk_us]
      · rw [pk_un z]; exact h3 j (by omega)
  exact ⟨9, go 9 seen 0 0 t_0 (by omega) (fun j hj => by omega) (by omega)⟩
end TB
end
section
/-! a book's text by the reference; book, by both -/
section TBm
variable {n : Nat} {b : Nat → Int} {len : Int32} {f : Nat → Int32}
abbrev bkQ := Int32 → Int32 → (Nat → Int32) → Int32 → Int32 → Int32 → Int32 → Int32 → Int32 → (Nat → Int32) → Int32 → Int32 → (Nat → Int32) → Prop
theorem ms_book67 {Q : bkQ} {th tp fA op bo fm : Int32} {rf bk0 : Nat → Int32} {F : Int} {R : bkT} (hl : len.toInt = n) (hn : n ≤ 600) (hb : tB n f b) (hp : fm.toInt = F) (hF0 : 0 ≤ F) (hF : F ≤ 8)
    (hq : ∀ (a bd bk many : Int32) (nb : Nat → Int32), mS n b R.1 a bd bk → cBk R many nb → wb_X11_book_168 fm f Q th rf tp fA len a bd op nb bk bo bk0 many) :
    ∀ (k : Nat) (a bd bk many : Int32) (nb : Nat → Int32) (i : Nat) (x : bkT), mS n b x.1 a bd bk → cBk x many nb → bkO x → (x.1.1 = 0 → x.2.1 = i) → i ≤ 9 → 9 - i < k → bkR n b F (9 - i) x = R → wl_X11_book_67 fm f Q k th rf tp fA len a bd op nb bk bo bk0 many := by
  intro k
  induction k with
  | zero => intro a bd bk many nb i x hm hB hO h1 h2 h3; omega
  | succ k ih =>
    intro a bd bk many nb i x hm hB hO h1 h2 h3 hR
    refine ms_fine hm (fun h0 => ⟨fun z => absurd z (by first | decide | simp), fun _ => ?_⟩) (fun h0 => ⟨fun _ => ?_, fun z => absurd rfl z⟩)
    · have hi : i ≤ 8 := by have := (hO h0).1; have := cnB_le (B := x.2.2) 8; have := h1 h0; omega
      refine ms_isMore hl hn hb hm h0 (fun w y cy => ⟨fun z => absurd z (by first | decide | simp), fun _ => ?_⟩) (fun w y cy => ⟨fun _ => ?_, fun z => absurd rfl z⟩)
      · rw [show 9 - i = (9 - (i + 1)) + 1 by omega, bkR_go h0 w] at hR
        obtain ⟨b1, b2⟩ := hB h0
        have en : (fm - 1).toInt = F - 1 := by rw [t_pred (by omega), hp]
        have i1 := h1 h0
        refine ms_here hl hn hb cy (fun r23 x22 c22 v22 => ms_number hl hn hb c22 (by decide) (by rw [en]; omega) (fun r27 x24 x25 x26 c24 v24 => ?_))
        rw [t_0, en] at c24 v24
        have tail : ∀ (a bd bk : Int32), mS n b (bkM n b F x.2.2 x.1) a bd bk → ((bkM n b F x.2.2 x.1).1 = 0 → r27.toInt = nV n b x.1) → wb_X11_book_128 fm f Q (fun v0_thrown f0_refused v0_taped v0_faultAt v0_size v0_at v0_bad v0_opens f0_newBook v0_badKind v0_books f0_book l2 => wl_X11_book_67 fm f Q k v0_thrown f0_refused v0_taped v0_faultAt v0_size v0_at v0_bad v0_opens f0_newBook v0_badKind v0_books f0_book l2) th rf tp fA len a bd op nb bk bo bk0 many r27 := fun a bd bk c hv => by
          refine ms_number hl hn hb c (by decide) (by decide) (fun r41 x38 x39 x40 c38 v38 => ms_sign hl hn hb c38 (by decide) (fun x42 x43 x44 c42 => ?_))
          rw [t_0, t_6] at v38
          rw [t_0, t_6, t_59] at c42
          have c42 : mS n b (bkS n b F x).1 x42 x43 x44 := c42
          refine ms_fine c42 (fun hz => ⟨fun _ => ?_, fun z => absurd z (by first | decide | simp)⟩) (fun hz => ⟨fun z => absurd rfl z, fun _ => ?_⟩)
          · obtain ⟨s1, s2, s3, s4⟩ := bkS_fine hz
            obtain ⟨-, a1, a2⟩ := nS_fine s3
            have el := hv s2
            have ec : r27.toNatClampNeg = (nV n b x.1).toNat := t_clamp (by rw [el]; omega)
            refine ⟨t_in (by omega) (by omega), fun f47 e47 x48 e48 => ih _ _ _ x48 f47 (i + 1) _ c42 (fun _ => ⟨?_, ?_⟩) (bkO_s hF hO) (fun _ => by show x.2.1 + 1 = i + 1; omega) (by omega) (by omega) hR⟩
            · show x48.toInt = ((x.2.1 + 1 : Nat) : Int)
              rw [e48, t_inc (by omega), b1]; omega
            · rw [e47, ec]
              exact pm_upd b2 (v38 s1)
          · rw [bkR_end (Or.inl hz)] at hR
            exact hq _ _ _ _ _ (by rw [← hR]; exact c42) (fun w => absurd (by rw [← hR] at w; exact w) hz)
        refine ms_fine c24 (fun hs => ⟨fun z => absurd z (by first | decide | simp), fun _ => ?_⟩) (fun hs => ⟨fun _ => tail _ _ _ (by rw [bkM_bad hs]; exact c24) (fun w => absurd (by rw [bkM_bad hs] at w; exact w) hs), fun z => absurd rfl z⟩)
        obtain ⟨-, a1, a2⟩ := nS_fine hs
        have el := v24 hs
        have ec : r27.toNatClampNeg = (nV n b x.1).toNat := t_clamp (by rw [el]; omega)
        refine ⟨t_in (by omega) (by omega), fun x30 e30 => ⟨fun z => tail _ _ _ ?_ (fun _ => el), fun z => ?_⟩⟩
        · rw [ec] at e30
          have hz : x.2.2 (nV n b x.1).toNat = -1 := by rw [← b2 _ (by omega), ← e30, z, t_m1]
          unfold bkM
          rw [if_neg (fun d => d hz)]; exact c24
        · rw [ec] at e30
          have hz : x.2.2 (nV n b x.1).toNat ≠ -1 := fun e => z (by rw [t_eq, t_m1, e30, b2 _ (by omega)]; exact e)
          refine ms_wrong (s := sk n b x.1.2.2) c24 (fun _ => (v22 h0).1) (by decide) (fun bd2 bk2 c => tail _ _ _ ?_ (fun _ => el))
          unfold bkM
          rw [if_pos hz, ← t_2]; exact c
      · rw [bkR_end (Or.inr w)] at hR
        rw [hR] at cy hB
        exact hq _ _ _ _ _ cy hB
    · rw [bkR_end (Or.inl h0)] at hR
      rw [hR] at hm hB
      exact hq _ _ _ _ _ hm hB
theorem bkO_0 : bkO ((0, 0, 0), 0, fun _ => -1) := fun _ => ⟨rfl, fun j _ => ⟨Int.le_refl _, (show (-1 : Int) ≤ 6 by decide)⟩⟩
end TBm
section TBv
variable {by_ : Nat → Int32} {ci ln at_ tk fl fa fp p : Int32}
theorem v_X10_book {al asl : Nat} {nf sm : Int32} {ss : Nat → Int32} {rl rsl : Value} {P : Nat} {t : Nat → Int} {F : Int}
    {E : String → Int32 → Int32 → Int32 → Int32 → Int32 → Int32 → Int32 → Int32 → (Nat → Int32) → Value → Value → Prop}
    {Q : Int32 → Int32 → Int32 → Int32 → Int32 → Int32 → Int32 → Int32 → Int32 → (Nat → Int32) → Value → Value → Prop}
    (hf : fl.toInt = P) (hP : P ≤ 600) (ht : tB P by_ t) (hp : nf.toInt = F) (hF0 : 0 ≤ F) (hF : F ≤ 8) (he : ¬ uOk p fl 60 → E "java/lang/IllegalArgumentException" (ci + 1) ln at_ tk fl fa fp sm ss (.ref al) (.ref asl))
    (hbad : uOk p fl 60 → ∀ n : Nat, p.toInt = n → (bkAll n t F).1.1 ≠ 0 → ∀ (ln at_ tk fa fp sm : Int32) (ss : Nat → Int32), fa.toInt = (bkAll n t F).1.1 → fp.toInt = (bkAll n t F).1.2.1 → Q (fa - 10) ci ln at_ tk 0 fa fp sm ss (.ref al) (.ref asl))
    (hok : uOk p fl 60 → ∀ n : Nat, p.toInt = n → (bkAll n t F).1.1 = 0 → ∀ (ln at_ tk fa fp sm : Int32) (ss : Nat → Int32), fp.toInt = -1 → cBk (bkAll n t F) sm ss → Q sm ci ln at_ tk 0 fa fp sm ss (.ref asl) (.ref al)) :
    wq_X10_book al asl nf by_ ci ln at_ tk fl fa fp sm ss rl rsl p E Q := by
  refine u_X10_openText (M := 60) (by decide) (by omega) he (fun hu y y0 y1 y2 ey => ?_)
  obtain ⟨n, en⟩ : ∃ n : Nat, p.toInt = n := ⟨p.toInt.toNat, by have := hu.1; omega⟩
  have hn : n ≤ P := by have := hu.2.1; omega
  rw [ey]
  refine c_clear (fun s hs => ⟨10, cs_lines (n := n) (b := t) (R := bkAll n t F) en (by omega) (tB_le ht hn) hp hF0 hF (fun many seen a fa fp tk c9 b9 => ?_) 10 0 s 0 0 (-1) 0 0 0 ((0, 0, 0), 0, fun _ => -1) ⟨⟨0, t_0, by omega, fun _ => rfl⟩, t_0, fun _ => t_m1, fun w => absurd rfl w⟩ (fun _ => ⟨t_0, fun j hj => by rw [hs j hj]; exact t_m1⟩) bkO_0 t_0 (by omega) (by omega) rfl⟩)
  refine ⟨fun z => ⟨fun _ => ?_, fun c => absurd rfl c⟩, fun z => ⟨fun c => absurd c (by decide), fun _ => ?_⟩⟩
  · have h0 : (bkAll n t F).1.1 = 0 := by rw [← c9.2.1, z, t_0]
    exact hok hu n en h0 _ _ _ _ _ _ _ (c9.2.2.1 h0) b9
  · have h0 : (bkAll n t F).1.1 ≠ 0 := fun w => z (cS_fa c9 w)
    exact hbad hu n en h0 _ _ _ _ _ _ _ c9.2.1 (c9.2.2.2 h0)
end TBv
section TBw
variable {f : Nat → Int32} {th tp fA sz a0 bd0 op bk0 bo fm p1 : Int32} {rf nb bo0 : Nat → Int32} {Q : bkQ}
theorem v_X11_book {P : Nat} {t : Nat → Int} {F : Int} (hf : tp.toInt = P) (hP : P ≤ 600) (ht : tB P f t) (hp : fm.toInt = F) (hF0 : 0 ≤ F) (hF : F ≤ 8)
    (he : ¬ (0 ≤ p1.toInt ∧ p1.toInt ≤ P ∧ p1.toInt ≤ 60) → Q 0 1 (upd rf 1 (rf 1 + 1)) tp fA sz a0 bd0 op nb bk0 bo bo0)
    (hbad : 0 ≤ p1.toInt → p1.toInt ≤ P → p1.toInt ≤ 60 → ∀ n : Nat, p1.toInt = n → (bkAll n t F).1.1 ≠ 0 → ∀ (at_ bd bk : Int32) (nb : Nat → Int32), bd.toInt = (bkAll n t F).1.2.1 → bk.toInt = (bkAll n t F).1.1 → Q (bk - 10) 0 rf 0 bd p1 at_ bd 0 nb bk bo bo0)
    (hok : 0 ≤ p1.toInt → p1.toInt ≤ P → p1.toInt ≤ 60 → ∀ n : Nat, p1.toInt = n → (bkAll n t F).1.1 = 0 → ∀ (at_ bd bk many : Int32) (nb b2 : Nat → Int32), bd = -1 → cBk (bkAll n t F) many b2 → Q many 0 rf 0 bd p1 at_ bd 0 nb bk many b2) :
    wq_X11_book fm f th rf tp fA sz a0 bd0 op nb bk0 bo bo0 p1 Q := by
  have e1 : (1 : Int32).toNatClampNeg = 1 := by decide
  have bad : ¬ (0 ≤ p1.toInt ∧ p1.toInt ≤ P ∧ p1.toInt ≤ 60) → wb_X11_book_28 fm f Q 0 rf tp fA sz a0 bd0 op nb bk0 bo bo0 p1 := fun w =>
    ⟨fun z => absurd rfl z, fun _ => ⟨fun z => absurd rfl z, fun _ => ⟨t_in (by decide) (by decide), fun x3 e3 x4 e4 => ⟨t_in (by decide) (by decide), fun f5 e5 => ⟨fun _ => ⟨fun z => absurd rfl z, fun _ => by rw [e5, e4, e3, e1]; exact he w⟩, fun z => absurd z (by first | decide | simp)⟩⟩⟩⟩⟩
  refine ⟨fun c => bad (by rw [t_lt, t_0] at c; omega), fun c => ⟨fun c2 => bad (by rw [t_lt] at c2; omega), fun c2 => ⟨fun c3 => bad (by rw [t_lt, t_60] at c3; omega), fun c3 => ?_⟩⟩⟩
  rw [t_lt, t_0] at c
  rw [t_lt] at c2
  rw [t_lt, t_60] at c3
  have p0 : 0 ≤ p1.toInt := by omega
  have pP : p1.toInt ≤ P := by omega
  have p6 : p1.toInt ≤ 60 := by omega
  obtain ⟨n, en⟩ : ∃ n : Nat, p1.toInt = n := ⟨p1.toInt.toNat, by omega⟩
  have hb := tB_le ht (show n ≤ P by omega)
  refine ⟨fun _ => ⟨fun z => absurd rfl z, fun _ => ⟨fun _ => ?_, fun z => absurd z (by first | decide | simp)⟩⟩, fun z => absurd z (by first | decide | simp)⟩
  have clr : ∀ (k : Nat) (nb : Nat → Int32) (l2 : Int32) (i : Nat), l2.toInt = i → i ≤ 8 → (∀ j : Nat, j < i → nb j = -1) → 8 - i < k → wl_X11_book_46 fm f Q k 0 rf 0 (-1) p1 0 (-1) 0 nb bk0 bo bo0 l2 := by
    intro k
    induction k with
    | zero => intro nb l2 i h1 h2 h3 h4; omega
    | succ k ih =>
      intro nb l2 i h1 h2 h3 h4
      refine ⟨fun c => ⟨10, ms_book67 (n := n) (b := t) (R := bkAll n t F) en (by omega) hb hp hF0 hF (fun a bd bk many nb9 c9 b9 => ?_) 10 0 (-1) bk0 0 nb 0 ((0, 0, 0), 0, fun _ => -1) ⟨⟨0, t_0, by omega, fun _ => rfl⟩, fun _ => rfl, fun w => absurd rfl w⟩ (fun _ => ⟨t_0, fun j hj => by rw [h3 j (by rw [t_le, t_8] at c; omega)]; exact t_m1⟩) bkO_0 (fun _ => rfl) (by omega) (by omega) rfl⟩, fun c => ?_⟩
      · unfold wb_X11_book_168 wq_X11_result
        refine ms_fine c9 (fun h0 => ⟨fun z => absurd z (by first | decide | simp), fun _ => ⟨fun zb => ?_, fun z => absurd (c9.2.1 h0) z⟩⟩) (fun h0 => ⟨fun _ => ⟨fun z => absurd z (mS_nb c9 h0), fun _ => hbad p0 pP p6 n en h0 _ _ _ _ (c9.2.2 h0).1 (c9.2.2 h0).2⟩, fun z => absurd rfl z⟩)
        refine sf_X11_copies (by decide) (by decide) (fun t1 h1 => hok p0 pP p6 n en h0 _ _ _ _ _ _ zb (fun _ => ⟨(b9 h0).1, fun j hj => ?_⟩))
        rw [h1 j, t_8, if_pos (by omega)]
        exact (b9 h0).2 j hj
      · rw [t_le, t_8] at c
        refine ⟨t_in (by omega) (by omega), fun f15 e15 x16 e16 => ih f15 x16 (i + 1) (by rw [e16, t_inc (by omega), h1]; omega) (by omega) (fun j hj => ?_) (by omega)⟩
        rw [e15, t_clamp h1]
        by_cases z : j = i
        · rw [z, pk_us]
        · rw [pk_un z]; exact h3 j (by omega)
  exact ⟨9, clr 9 nb 0 0 t_0 (by omega) (fun j hj => by omega) (by omega)⟩
end TBw
end
