section
/-! down, by both, from the same bytes -/
theorem tB_le {n m : Nat} {f : Nat → Int32} {b : Nat → Int} (h : tB m f b) (hn : n ≤ m) : tB n f b := fun j hj => h j (by omega)
theorem cD_seat {d : dT} {nf nh nx : Int32} {db FX FY se sr X Y : Nat → Int32} (h : cD d nf nh nx db FX FY se sr X Y) (h0 : d.1.1 = 0) (ok : dOk d) : sSeat nh nf se := by
  obtain ⟨⟨n1, n2⟩, ⟨m1, m2⟩, ⟨x1, x2⟩, hr⟩ := h
  obtain ⟨r1, r2, r3, r4⟩ := hr h0
  obtain ⟨k, h1, h2, h3, h4⟩ := ok
  intro j hj
  have e := (r2 j (by omega)).1
  have g := h2 j (by omega)
  rw [e]
  omega
section TDv
variable {by_ : Nat → Int32} {ci ln at_ tk fl fa fp p : Int32}
theorem v_X10_down {ag asg ar : Nat} {f h x : Int32} {db : Nat → Int32} {sf : Int32} {FX FY st sr X Y : Nat → Int32} {rg rs : Value} {rl : Int32} {rk rv : Nat → Int32} {lm : Int32} {sn row : Nat → Int32} {nd nl : Value} {pk ik rf : Int32} {P : Nat} {t : Nat → Int}
    {E : String → Int32 → Int32 → Int32 → Int32 → Int32 → Int32 → Int32 → Int32 → Int32 → Int32 → (Nat → Int32) → Int32 → (Nat → Int32) → (Nat → Int32) → (Nat → Int32) → (Nat → Int32) → (Nat → Int32) → (Nat → Int32) → Value → Value → Int32 → (Nat → Int32) → (Nat → Int32) → Int32 → (Nat → Int32) → (Nat → Int32) → Value → Value → Int32 → Int32 → Int32 → Prop}
    {Q : Int32 → Int32 → Int32 → Int32 → Int32 → Int32 → Int32 → Int32 → Int32 → Int32 → Int32 → (Nat → Int32) → Int32 → (Nat → Int32) → (Nat → Int32) → (Nat → Int32) → (Nat → Int32) → (Nat → Int32) → (Nat → Int32) → Value → Value → Int32 → (Nat → Int32) → (Nat → Int32) → Int32 → (Nat → Int32) → (Nat → Int32) → Value → Value → Int32 → Int32 → Int32 → Prop}
    (hf : fl.toInt = P) (hP : P ≤ 600) (ht : tB P by_ t) (he : ¬ uOk p fl 600 → E "java/lang/IllegalArgumentException" (ci + 1) ln at_ tk fl fa fp f h x db sf FX FY st sr X Y (.ref ag) (.ref asg) rl rk rv lm sn row nd nl pk ik rf)
    (hbad : uOk p fl 600 → ∀ n : Nat, p.toInt = n → (dAll n t).1.1 ≠ 0 → ∀ (ln at_ tk fa fp f h x : Int32) (db : Nat → Int32) (sf : Int32) (FX FY st sr X Y : Nat → Int32), fa.toInt = (dAll n t).1.1 → fp.toInt = (dAll n t).1.2.1 → Q (fa - 10) ci ln at_ tk 0 fa fp f h x db sf FX FY st sr X Y (.ref ag) (.ref asg) rl rk rv lm sn row nd nl pk ik rf)
    (hok : uOk p fl 600 → ∀ n : Nat, p.toInt = n → (dAll n t).1.1 = 0 → ∀ (ln at_ tk fa fp f h x : Int32) (db : Nat → Int32) (sf : Int32) (FX FY st sr X Y : Nat → Int32) (rl : Int32) (rk rv : Nat → Int32) (lm : Int32) (sn row : Nat → Int32), fp.toInt = -1 → cD (dAll n t) f h x db FX FY st sr X Y → sf = sfD (dAll n t) → sLaw rl rk rv → sSits h f row → Q h ci ln at_ tk 0 fa fp f h x db sf FX FY st sr X Y (.ref asg) (.ref ag) rl rk rv lm sn row (.ref asg) (.ref ar) 0 0 0) :
    wq_X10_down_s ag asg ar by_ ci ln at_ tk fl fa fp f h x db sf FX FY st sr X Y rg rs rl rk rv lm sn row nd nl pk ik rf p E Q := by
  refine u_X10_openText (M := 600) (by decide) (by omega) he (fun hu y y0 y1 y2 ey => ?_)
  obtain ⟨n, en⟩ : ∃ n : Nat, p.toInt = n := ⟨p.toInt.toNat, by have := hu.1; omega⟩
  have hn : n ≤ P := by have := hu.2.1; omega
  rw [ey]
  refine cs_readFrom (n := n) (b := t) en (by omega) (tB_le ht hn) ⟨⟨0, t_0, by omega, fun _ => rfl⟩, t_0, fun _ => t_m1, fun w => absurd rfl w⟩ (fun nn h x db a sf t2 f2 fp2 FX FY se sr X Y hc hd => ?_)
  obtain ⟨⟨n1, n2⟩, ⟨m1, m2⟩, ⟨x1, x2⟩, hr⟩ := id hd
  by_cases h0 : (dAll n t).1.1 = 0
  · obtain ⟨r1, r2, r3, r4⟩ := hr h0
    have ok := dOk_all h0
    refine z_findSafe ok.2.1 ok.2.2.2.1 n2 x2 r1 r3 n1 x1 (fun sf2 esf => ⟨fun z => ⟨fun _ => ?_, fun c => absurd rfl c⟩, fun z => absurd (cS_fa hc h0) z⟩)
    exact sf_X4_setPlain (fun rk rv rl hl => sf_X0_clear (fun sn => sf_X1_begin (by omega) (cD_seat hd h0 ok) (fun row hr => hok hu n en h0 _ _ _ _ _ _ _ _ _ _ _ _ _ _ _ _ _ _ _ _ _ _ (hc.2.2.1 h0) hd esf hl hr)))
  · refine sf_X2_findSafe (by omega) (by omega) (fun sf2 => ⟨fun z => absurd (by rw [← hc.2.1, z, t_0]) h0, fun z => ⟨fun c => absurd c (by decide), fun _ => ?_⟩⟩)
    exact hbad hu n en h0 _ _ _ _ _ _ _ _ _ _ _ _ _ _ _ _ hc.2.1 (hc.2.2.2 h0)
end TDv
/-- what the reference keeps of a down -/
def mG (d : dT) (nf nh nx : Int32) (fo ha fx : Nat → Int32) : Prop := (nf.toInt = d.2.1 ∧ nh.toInt = d.2.2.1 ∧ nx.toInt = d.2.2.2.1) ∧ pm (2 * d.2.1) fo d.2.2.2.2.1 ∧ pm (2 * d.2.2.1) ha d.2.2.2.2.2.1 ∧ pm (2 * d.2.2.2.1) fx d.2.2.2.2.2.2.1
section TRv
variable {f : Nat → Int32} {th tp fA sz a0 bd0 op nf nh nx bk0 fm hm xm cd bo wo im rs p1 : Int32} {rf db fo ha fx bo0 nw fx0 ha0 fo0 : Nat → Int32} {Q : dQ}
theorem v_X11_down {P : Nat} {t : Nat → Int} (hf : tp.toInt = P) (hP : P ≤ 600) (ht : tB P f t)
    (he : ¬ (0 ≤ p1.toInt ∧ p1.toInt ≤ P) → Q 0 1 (upd rf 1 (rf 1 + 1)) tp fA sz a0 bd0 op nf nh nx db bk0 fm hm xm fo ha fx cd bo wo im rs bo0 nw fx0 ha0 fo0)
    (hbad : 0 ≤ p1.toInt → p1.toInt ≤ P → ∀ n : Nat, p1.toInt = n → (dAll n t).1.1 ≠ 0 → ∀ (at_ bd nf nh nx bk : Int32) (db fx1 ha1 fo1 : Nat → Int32), bd.toInt = (dAll n t).1.2.1 → bk.toInt = (dAll n t).1.1 → Q (bk - 10) 0 rf 0 bd p1 at_ bd 0 nf nh nx db bk fm hm xm fo ha fx cd bo wo im rs bo0 nw fx1 ha1 fo1)
    (hok : 0 ≤ p1.toInt → p1.toInt ≤ P → ∀ n : Nat, p1.toInt = n → (dAll n t).1.1 = 0 → ∀ (at_ bd nf nh nx bk : Int32) (db fx1 ha1 fo1 g1 g2 g3 bo1 nw1 : Nat → Int32), bd = -1 → mD (dAll n t) nf nh nx db fx1 ha1 fo1 → mG (dAll n t) nf nh nx g1 g2 g3 → (∀ j : Nat, j < 8 → bo1 j = -1) → (∀ j : Nat, j < 68 → nw1 j = ni (dAll n t).2.2.1 g2 db j) → Q nh 0 rf 0 bd p1 at_ bd 0 nf nh nx db bk nf nh nx g1 g2 g3 0 0 0 0 0 bo1 nw1 fx1 ha1 fo1) :
    wq_X11_down_s f th rf tp fA sz a0 bd0 op nf nh nx db bk0 fm hm xm fo ha fx cd bo wo im rs bo0 nw fx0 ha0 fo0 p1 Q := by
  have bad : ¬ (0 ≤ p1.toInt ∧ p1.toInt ≤ P) → wb_X11_down_s_22 f Q 0 rf tp fA sz a0 bd0 op nf nh nx db bk0 fm hm xm fo ha fx cd bo wo im rs bo0 nw fx0 ha0 fo0 p1 := fun w =>
    ⟨fun z => absurd rfl z, fun _ => ⟨fun z => absurd rfl z, fun _ => ⟨t_in (by decide) (by decide), fun x3 e3 x4 e4 => ⟨t_in (by decide) (by decide), fun f5 e5 => ⟨fun _ => ⟨fun z => absurd rfl z, fun _ => by rw [e5, e4, e3]; exact he w⟩, fun z => absurd z (by first | decide | simp)⟩⟩⟩⟩⟩
  refine ⟨fun c => bad (by rw [t_lt, t_0] at c; omega), fun c => ⟨fun c2 => bad (by rw [t_lt] at c2; omega), fun c2 => ?_⟩⟩
  rw [t_lt, t_0] at c
  rw [t_lt] at c2
  have p0 : 0 ≤ p1.toInt := by omega
  have pP : p1.toInt ≤ P := by omega
  obtain ⟨n, en⟩ : ∃ n : Nat, p1.toInt = n := ⟨p1.toInt.toNat, by omega⟩
  refine ⟨fun _ => ⟨fun z => absurd rfl z, fun _ => ⟨fun _ => ?_, fun z => absurd z (by first | decide | simp)⟩⟩, fun z => absurd z (by first | decide | simp)⟩
  show wq_X11_clears nf nh nx db _
  refine sf_X11_clears (fun y1 y2 y3 db1 e1 e2 e3 e4 => ⟨62, ms_down44 (n := n) (b := t) (R := dAll n t) en (by omega) (tB_le ht (by omega)) (fun at_ bd bk nf nh nx db fx1 ha1 fo1 hm9 hd9 => ?_) 62 0 (-1) bk0 y1 y2 y3 db1 fx0 ha0 fo0 0 0 ((0, 0, 0), 0, 0, 0, (fun _ => 0), (fun _ => 0), (fun _ => 0), (fun _ => 0)) ⟨⟨0, t_0, by omega, fun _ => rfl⟩, fun _ => rfl, fun w => absurd rfl w⟩ ⟨⟨e1, by decide⟩, ⟨e2, by decide⟩, ⟨e3, by decide⟩, fun _ => ⟨fun j hj => absurd hj (Nat.not_lt_zero j), fun j hj => absurd hj (Nat.not_lt_zero j), fun j hj => absurd hj (Nat.not_lt_zero j), e4⟩⟩ t_0 (by decide) (fun _ => by decide) (by decide) rfl⟩)
  unfold wb_X11_down_s_136 wq_X11_result
  refine ms_fine hm9 (fun h0 => ⟨fun z => absurd z (by first | decide | simp), fun _ => ⟨fun z => absurd (hm9.2.1 h0) z, fun zb => ?_⟩⟩) (fun h0 => ⟨fun _ => ⟨fun _ => hbad p0 pP n en h0 _ _ _ _ _ _ _ _ _ _ (hm9.2.2 h0).1 (hm9.2.2 h0).2, fun z => absurd z (mS_nb hm9 h0)⟩, fun z => absurd rfl z⟩)
  obtain ⟨⟨n1, n2⟩, ⟨m1, m2⟩, ⟨x1, x2⟩, hr⟩ := id hd9
  obtain ⟨r1, r2, r3, r4⟩ := hr h0
  refine m_sets m1 m2 (fun g1 g2 g3 b9 n9 q1 q2 q3 q4 q5 => hok p0 pP n en h0 _ _ _ _ _ _ _ _ _ _ _ _ _ _ _ zb hd9 ⟨⟨n1, m1, x1⟩, fun j hj => ?_, fun j hj => ?_, fun j hj => ?_⟩ q4 q5)
  · rw [q1 j (by omega)]; exact r1 j hj
  · rw [q2 j (by omega)]; exact r2 j hj
  · rw [q3 j (by omega)]; exact r3 j hj
end TRv
end
section
/-! both states held against each other: the tapes, the downs -/
def relA (fl tp : Int32) (by_ ta : Nat → Int32) : Prop := ∃ (P : Nat) (t : Nat → Int), fl.toInt = P ∧ tp.toInt = P ∧ P ≤ 600 ∧ tB P by_ t ∧ tB P ta t
def relD (nf nh nx sf : Int32) (db FX FY se sr X Y : Nat → Int32) (mf mh mx : Int32) (fo ha fx : Nat → Int32) : Prop := ∃ d : dT, d.1.1 = 0 ∧ dOk d ∧ cD d nf nh nx db FX FY se sr X Y ∧ sf = sfD d ∧ mG d mf mh mx fo ha fx
theorem relA_0 {fl tp : Int32} {by_ ta : Nat → Int32} (h1 : fl.toInt = 0) (h2 : tp.toInt = 0) : relA fl tp by_ ta := ⟨0, fun _ => 0, h1, h2, by omega, fun j hj => absurd hj (Nat.not_lt_zero j), fun j hj => absurd hj (Nat.not_lt_zero j)⟩
theorem relA_go {fl tp f2 t2 : Int32} {by_ ta : Nat → Int32} (h : relA fl tp by_ ta) (hc : (f2.toInt = 0 ∧ t2.toInt = 0) ∨ (f2.toInt = fl.toInt ∧ t2.toInt = tp.toInt)) : relA f2 t2 by_ ta := by
  rcases hc with ⟨h1, h2⟩ | ⟨h1, h2⟩
  · exact relA_0 h1 h2
  · obtain ⟨P, t, g1, g2, g3, g4, g5⟩ := h
    exact ⟨P, t, by omega, by omega, g3, g4, g5⟩
theorem relD_0 {mf mh mx : Int32} {db FX FY se sr X Y fo ha fx : Nat → Int32} (h1 : mf.toInt = 0) (h2 : mh.toInt = 0) (h3 : mx.toInt = 0) (h4 : ∀ j : Nat, j < 36 → db j = 0) : relD 0 0 0 0 db FX FY se sr X Y mf mh mx fo ha fx :=
  ⟨((0, 0, 0), 0, 0, 0, (fun _ => 0), (fun _ => 0), (fun _ => 0), (fun _ => 0)), rfl, ⟨⟨by decide, by decide, by decide⟩, fun j hj => absurd hj (Nat.not_lt_zero j), fun j hj => absurd hj (Nat.not_lt_zero j), fun j hj => absurd hj (Nat.not_lt_zero j), fun x y _ _ => ⟨Int.le_refl _, (show (0 : Int) ≤ 99 by decide), fun e => absurd rfl e⟩⟩,
   ⟨⟨t_0, by decide⟩, ⟨t_0, by decide⟩, ⟨t_0, by decide⟩, fun _ => ⟨fun j hj => absurd hj (Nat.not_lt_zero j), fun j hj => absurd hj (Nat.not_lt_zero j), fun j hj => absurd hj (Nat.not_lt_zero j), fun j hj => by rw [h4 j hj]; exact t_0⟩⟩, rfl,
   ⟨⟨h1, h2, h3⟩, fun j hj => absurd hj (Nat.not_lt_zero j), fun j hj => absurd hj (Nat.not_lt_zero j), fun j hj => absurd hj (Nat.not_lt_zero j)⟩⟩
/-! answers held against each other -/
theorem z_self {fo : Nat → Int64} {r : Int64} : lg_cmp (vp_updL fo (0 : Int32).toNatClampNeg r (0 : Int32).toNatClampNeg) r = 0 := by
  have h := ((q_finO (fo := fo) (r := r)).1 rfl).2 rfl _ rfl
  by_cases c : lg_cmp (vp_updL fo (0 : Int32).toNatClampNeg r (0 : Int32).toNatClampNeg) r = 0
  · exact c
  · exact (h.2 c).elim
theorem z_cmp0 {G : Prop} {fo f6 : Nat → Int64} {x5 : Int64} {rc rm : Int32} (e5 : x5 = rc.toInt64) (e6 : f6 = vp_updL fo (0 : Int32).toNatClampNeg x5) (h : rc = rm) (g : G) : wq_X11_thrown 0 (fun r56 => ((r56 = 0 → ((¬ (0 : Int32) = 0 → G) ∧ ((0 : Int32) = 0 → ∀ x59 : Int64, x59 = f6 (0 : Int32).toNatClampNeg → (((lg_cmp x59 rm.toInt64) = 0 → G) ∧ (¬ (lg_cmp x59 rm.toInt64) = 0 → False))))) ∧ (¬ r56 = 0 → False))) :=
  ⟨fun _ => ⟨fun c => absurd rfl c, fun _ x59 e59 => ⟨fun _ => g, fun c => c (by rw [e59, e6, e5, h]; exact z_self)⟩⟩, fun c => absurd rfl c⟩
theorem z_cmpk {G : Prop} {k rm : Int32} {f6 : Nat → Int64} (hk : ¬ k = 0) (g : G) : wq_X11_thrown k (fun r56 => ((r56 = k → ((¬ k = 0 → G) ∧ (k = 0 → ∀ x59 : Int64, x59 = f6 (0 : Int32).toNatClampNeg → (((lg_cmp x59 rm.toInt64) = 0 → G) ∧ (¬ (lg_cmp x59 rm.toInt64) = 0 → False))))) ∧ (¬ r56 = k → False))) :=
  ⟨fun _ => ⟨fun _ => g, fun c => absurd c hk⟩, fun c => absurd rfl c⟩
/-! arguments that are refused -/
theorem z_within {p a b : Int32} {Q : Int32 → Prop} (q1 : a.toInt ≤ p.toInt → p.toInt ≤ b.toInt → Q 1) (q0 : ¬ (a.toInt ≤ p.toInt ∧ p.toInt ≤ b.toInt) → Q 0) : wq_X10_within p a b Q := by
  refine ⟨fun c => q0 ?_, fun c => ⟨fun c2 => q0 ?_, fun c2 => ?_⟩⟩
  · rw [t_lt] at c; omega
  · rw [t_lt] at c c2; omega
  · rw [t_lt] at c c2; exact q1 (by omega) (by omega)
theorem z_withinM {p a b : Int32} {Q : Int32 → Prop} (q1 : a.toInt ≤ p.toInt → p.toInt ≤ b.toInt → Q 1) (q0 : ¬ (a.toInt ≤ p.toInt ∧ p.toInt ≤ b.toInt) → Q 0) : wq_X11_within p a b Q := by
  refine ⟨fun c => q0 ?_, fun c => ⟨fun c2 => q0 ?_, fun c2 => ?_⟩⟩
  · rw [t_lt] at c; omega
  · rw [t_lt] at c c2; omega
  · rw [t_lt] at c c2; exact q1 (by omega) (by omega)
theorem z_need {v p a b : Int32} {E : String → Int32 → Prop} {Q : Int32 → Prop} (he : ¬ (a.toInt ≤ p.toInt ∧ p.toInt ≤ b.toInt) → E "java/lang/IllegalArgumentException" (v + 1)) (hq : a.toInt ≤ p.toInt → p.toInt ≤ b.toInt → Q v) : wq_X10_needWithin v p a b E Q :=
  z_within (fun h1 h2 => ⟨fun _ => hq h1 h2, fun c => absurd c (by decide)⟩) (fun h => ⟨fun c => absurd rfl c, fun _ x e => by rw [e]; exact he h⟩)
theorem z_form {n v p : Int32} {E : String → Int32 → Prop} {Q : Int32 → Prop} (hn : 0 ≤ n.toInt) (he : ¬ (0 ≤ p.toInt ∧ p.toInt < n.toInt) → E "java/util/NoSuchElementException" (v + 1)) (hq : 0 ≤ p.toInt → p.toInt < n.toInt → Q v) : wq_X10_needForm n v p E Q := by
  have en : (n - 1).toInt = n.toInt - 1 := t_pred (by omega)
  refine z_within (fun h1 h2 => ⟨fun _ => hq ?_ ?_, fun c => absurd c (by decide)⟩) (fun h => ⟨fun c => absurd rfl c, fun _ x e => by rw [e]; exact he (fun w => h (by rw [t_0, en]; omega))⟩)
  · rw [t_0] at h1; exact h1
  · rw [en] at h2; omega
theorem z_mayY {p1 p2 p3 : Int32} {rf : Nat → Int32} {Q : Int32 → Int32 → (Nat → Int32) → Prop} (h : ¬ p1 = 0) (hq : Q 1 0 rf) : wq_X11_may 0 rf p1 p2 p3 Q := ⟨fun _ => ⟨fun z => absurd rfl z, fun _ => hq⟩, fun z => absurd z h⟩
theorem z_mayN {p1 p2 p3 : Int32} {k : Nat} {rf : Nat → Int32} {Q : Int32 → Int32 → (Nat → Int32) → Prop} (h : p1 = 0) (h2 : ¬ p2 = 0) (h3 : p3.toInt = k) (h4 : k < 2) (hq : Q 0 p2 (upd rf k (rf k + 1))) : wq_X11_may 0 rf p1 p2 p3 Q :=
  ⟨fun z => absurd h z, fun _ => ⟨fun z => absurd rfl z, fun _ => ⟨t_in (by omega) (by omega), fun x3 e3 x4 e4 => ⟨t_in (by omega) (by omega), fun f5 e5 => ⟨fun _ => by rw [e5, e4, e3, t_clamp h3]; exact hq, fun z => absurd z h2⟩⟩⟩⟩⟩
theorem z_isForm {n p p2 : Int32} {rf : Nat → Int32} {Q : Int32 → Int32 → (Nat → Int32) → Prop} (hn : 0 ≤ n.toInt) (h2 : ¬ p2 = 0) (he : ¬ (0 ≤ p.toInt ∧ p.toInt < n.toInt) → Q 0 p2 (upd rf 0 (rf 0 + 1))) (hq : 0 ≤ p.toInt → p.toInt < n.toInt → Q 1 0 rf) : wq_X11_isForm n 0 rf p p2 Q := by
  have en : (n - 1).toInt = n.toInt - 1 := t_pred (by omega)
  refine z_withinM (fun h1 h3 => z_mayY (by decide) ⟨by decide, hq ?_ ?_⟩) (fun h => z_mayN (k := 0) rfl h2 t_0 (by decide) ⟨by decide, he (fun w => h ?_)⟩)
  · rw [t_0] at h1; exact h1
  · rw [en] at h3; omega
  · rw [t_0, en]; omega
theorem rS_ni {d : dT} {nf nh nx : Int32} {db fx ha fo g1 g2 g3 nw : Nat → Int32} (h0 : d.1.1 = 0) (ok : dOk d) (hd : mD d nf nh nx db fx ha fo) (hg : mG d nf nh nx g1 g2 g3) (hn : ∀ j : Nat, j < 68 → nw j = ni d.2.2.1 g2 db j) : rS nh nf nw := by
  obtain ⟨⟨k1, k2, k3⟩, o1, o2, o3, o4⟩ := ok
  obtain ⟨⟨n1, n2⟩, ⟨m1, m2⟩, ⟨x1, x2⟩, hr⟩ := hd
  obtain ⟨r1, r2, r3, r4⟩ := hr h0
  obtain ⟨c, p1, p2, p3⟩ := hg
  refine ⟨⟨by omega, by omega, by omega, ?_⟩, fun j hj => ?_, fun j j0 j1 => ?_⟩
  · by_cases z : d.2.2.1 = 0
    · exact Or.inl (by omega)
    · have := o2 0 (by omega)
      exact Or.inr (by omega)
  · have e : nw j = g2 (2 * j) := by
      rw [hn j (by omega)]
      unfold ni
      rw [if_neg (by omega), if_neg (by omega), if_pos (by omega), if_pos (by omega)]
    have q := p2 (2 * j) (by omega)
    have g := o2 j (by omega)
    rw [e, q]
    omega
  · have e : nw j = db (j - 30) := by
      rw [hn j (by omega)]
      unfold ni
      rw [if_neg (by omega), if_pos j0, if_pos j1]
    have q := r4 (j - 30) (by omega)
    have g := o4 ((j - 30) / 6) ((j - 30) % 6) (by omega) (by omega)
    rw [show 6 * ((j - 30) / 6) + (j - 30) % 6 = j - 30 by omega] at g
    rw [e, q]
    exact ⟨g.1, g.2.1⟩
end
section
/-! the nearest refuge -/
def rfN (F G : Nat → Int) (nx i : Nat) : Nat → Int
  | 0 => -1
  | k + 1 => if nrB F G k nx = true then rfN F G nx i k else if rfN F G nx i k = -1 ∨ fr F i k < fr F i (rfN F G nx i k).toNat then k else rfN F G nx i k
theorem rfN_le {F G : Nat → Int} {nx i : Nat} : ∀ k : Nat, -1 ≤ rfN F G nx i k ∧ rfN F G nx i k < k ∨ rfN F G nx i k = -1 := by
  intro k
  induction k with
  | zero => exact Or.inr rfl
  | succ k ih =>
    unfold rfN
    by_cases z : nrB F G k nx = true
    · rw [if_pos z]; omega
    · rw [if_neg z]
      by_cases y : rfN F G nx i k = -1 ∨ fr F i k < fr F i (rfN F G nx i k).toNat
      · rw [if_pos y]; omega
      · rw [if_neg y]; omega
/-- what refuge answers -/
def rfA (F G : Nat → Int) (nf nx i : Nat) (w : Int) : Int := if w = 0 ∨ rfN F G nx i nf = -1 then rfN F G nx i nf else fr F i (rfN F G nx i nf).toNat
section ZR
variable {NF NX : Nat} {X Y fo fx : Nat → Int32} {F G : Nat → Int}
theorem z_refC {nf sf l1 l2 cn ci : Int32} {i : Nat} {E : String → Int32 → Int32 → Prop} {Q : Int32 → Int32 → Int32 → Prop} (hF : ∀ j : Nat, j < 2 * NF → 0 ≤ F j ∧ F j ≤ 30) (h8 : NF ≤ 8) (hp : pr NF X Y F) (en : nf.toInt = NF) (es : sf = Int32.ofNat (sfN F G NF NX)) (ei : l1.toInt = i) (hi : i < NF) (hq : ∀ r : Int32, r.toInt = rfA F G NF NX i l2.toInt → Q r cn ci) :
    ∀ (m : Nat) (l3 l4 : Int32) (k : Nat), l4.toInt = k → k ≤ NF → l3.toInt = rfN F G NX i k → NF - k < m → wl_X10_refuge_17 nf sf X Y E Q m cn ci l1 l2 l3 l4 := by
  intro m
  induction m with
  | zero => intro l3 l4 k h1 h2 h3 h4; omega
  | succ m ih =>
    intro l3 l4 k h1 h2 h3 h4
    have hb := rfN_le (F := F) (G := G) (nx := NX) (i := i) k
    refine ⟨fun c => ?_, fun c => ?_⟩
    · rw [t_le] at c
      have ek : k = NF := by omega
      rw [ek] at h3 hb
      have ans : ∀ r : Int32, r.toInt = rfA F G NF NX i l2.toInt → Q r cn ci := hq
      refine ⟨fun z => ans l3 ?_, fun z => ⟨fun y => ?_, fun y => ans l3 ?_⟩⟩
      · unfold rfA; rw [if_pos (Or.inl (by rw [z, t_0]))]; exact h3
      · rw [t_eq, t_m1] at y
        rw [t_eq, t_0] at z
        refine z_apart hF h8 hp ei hi (j := (rfN F G NX i NF).toNat) (by rw [h3]; omega) (by omega) (fun r er => ans r ?_)
        unfold rfA; rw [if_neg (by omega)]; exact er
      · unfold rfA; rw [if_pos (Or.inr (by rw [← h3, y, t_m1]))]; exact h3
    · rw [t_le] at c
      have hk : k < NF := by omega
      have nx1 : ∀ x : Int32, x = l4 + 1 → x.toInt = ((k + 1 : Nat) : Int) := fun x e => by rw [e, t_inc (by omega), h1]; omega
      have bit := b8_bit es (orN_le h8) h1 (by omega)
      rw [show sfN F G NF NX = orN (fun i => !(nrB F G i NX)) NF from rfl, orN_bit] at bit
      have stay : nrB F G k NX = true ∨ (rfN F G NX i k ≠ -1 ∧ ¬ fr F i k < fr F i (rfN F G NX i k).toNat) → wb_X10_refuge_71 nf sf X Y E Q (fun v0_callsNoSuch v0_callsIllegal l1 l2 l3 l4 => wl_X10_refuge_17 nf sf X Y E Q m v0_callsNoSuch v0_callsIllegal l1 l2 l3 l4) cn ci l1 l2 l3 l4 := fun w x13 e13 => by
        refine ih l3 x13 (k + 1) (nx1 x13 e13) (by omega) ?_ (by omega)
        unfold rfN
        rcases w with w | ⟨w1, w2⟩
        · rw [if_pos w]; exact h3
        · by_cases z : nrB F G k NX = true
          · rw [if_pos z]; exact h3
          · rw [if_neg z, if_neg (fun d => d.elim w1 w2)]; exact h3
      have take : ¬ nrB F G k NX = true → (rfN F G NX i k = -1 ∨ fr F i k < fr F i (rfN F G NX i k).toNat) → wb_X10_refuge_68 nf sf X Y E Q (fun v0_callsNoSuch v0_callsIllegal l1 l2 l3 l4 => wl_X10_refuge_17 nf sf X Y E Q m v0_callsNoSuch v0_callsIllegal l1 l2 l3 l4) cn ci l1 l2 l4 := fun w1 w2 x13 e13 => by
        refine ih l4 x13 (k + 1) (nx1 x13 e13) (by omega) ?_ (by omega)
        unfold rfN
        rw [if_neg w1, if_pos w2]; exact h1
      refine ⟨fun z => ⟨by decide, fun _ => stay (Or.inl ?_), fun d => absurd rfl d⟩, fun z => ⟨by decide, fun d => absurd d (by first | decide | simp), fun _ => ?_⟩⟩
      · cases e : nrB F G k NX with
        | true => rfl
        | false => exact absurd (bit.mpr (by simp [hk, e])) z
      · have hs : ¬ nrB F G k NX = true := fun e => by
          have := bit.mp z
          rw [e] at this; simp at this
        refine ⟨fun y => take hs (Or.inl (by rw [← h3, y, t_m1])), fun y => ?_⟩
        rw [t_eq, t_m1] at y
        refine z_apart hF h8 hp ei hi h1 hk (fun r10 e10 => z_apart hF h8 hp ei hi (j := (rfN F G NX i k).toNat) (by rw [h3]; omega) (by omega) (fun r11 e11 => ⟨fun w => stay (Or.inr ⟨by omega, ?_⟩), fun w => take hs (Or.inr ?_)⟩))
        · rw [t_le] at w; omega
        · rw [t_le] at w; omega
theorem z_refM {nf nx l1 l2 th : Int32} {rf : Nat → Int32} {i : Nat} {Q : Int32 → Int32 → (Nat → Int32) → Prop} (hF : ∀ j : Nat, j < 2 * NF → 0 ≤ F j ∧ F j ≤ 30) (hG : ∀ j : Nat, j < 2 * NX → 0 ≤ G j ∧ G j ≤ 30) (h8 : NF ≤ 8) (h4x : NX ≤ 4) (hp : pm (2 * NF) fo F) (hx : pm (2 * NX) fx G) (en : nf.toInt = NF) (ex : nx.toInt = NX) (ei : l1.toInt = i) (hi : i < NF) (hq : ∀ r : Int32, r.toInt = rfA F G NF NX i l2.toInt → Q r th rf) :
    ∀ (m : Nat) (l3 l4 : Int32) (k : Nat), l4.toInt = k → k ≤ NF → l3.toInt = rfN F G NX i k → NF - k < m → wl_X11_refuge_36 nf nx fo fx Q m th rf l1 l2 l3 l4 := by
  intro m
  induction m with
  | zero => intro l3 l4 k h1 h2 h3 h4; omega
  | succ m ih =>
    intro l3 l4 k h1 h2 h3 h4
    have hb := rfN_le (F := F) (G := G) (nx := NX) (i := i) k
    refine ⟨fun c => ?_, fun c => ?_⟩
    · rw [t_le] at c
      have ek : k = NF := by omega
      rw [ek] at h3 hb
      refine ⟨fun z => hq l3 ?_, fun z => ⟨fun y => ?_, fun y => hq l3 ?_⟩⟩
      · unfold rfA; rw [if_pos (Or.inl (by rw [z, t_0]))]; exact h3
      · rw [t_eq, t_m1] at y
        rw [t_eq, t_0] at z
        refine z_farOf hF h8 hp ei hi (j := (rfN F G NX i NF).toNat) (by rw [h3]; omega) (by omega) (fun r er => hq r ?_)
        unfold rfA; rw [if_neg (by omega)]; exact er
      · unfold rfA; rw [if_pos (Or.inr (by rw [← h3, y, t_m1]))]; exact h3
    · rw [t_le] at c
      have hk : k < NF := by omega
      have nx1 : ∀ x : Int32, x = l4 + 1 → x.toInt = ((k + 1 : Nat) : Int) := fun x e => by rw [e, t_inc (by omega), h1]; omega
      have stay : nrB F G k NX = true ∨ (rfN F G NX i k ≠ -1 ∧ ¬ fr F i k < fr F i (rfN F G NX i k).toNat) → wb_X11_refuge_78 nf nx fo fx Q (fun v0_thrown f0_refused l1 l2 l3 l4 => wl_X11_refuge_36 nf nx fo fx Q m v0_thrown f0_refused l1 l2 l3 l4) th rf l1 l2 l3 l4 := fun w x20 e20 => by
        refine ih l3 x20 (k + 1) (nx1 x20 e20) (by omega) ?_ (by omega)
        unfold rfN
        rcases w with w | ⟨w1, w2⟩
        · rw [if_pos w]; exact h3
        · by_cases z : nrB F G k NX = true
          · rw [if_pos z]; exact h3
          · rw [if_neg z, if_neg (fun d => d.elim w1 w2)]; exact h3
      have take : ¬ nrB F G k NX = true → (rfN F G NX i k = -1 ∨ fr F i k < fr F i (rfN F G NX i k).toNat) → wb_X11_refuge_75 nf nx fo fx Q (fun v0_thrown f0_refused l1 l2 l3 l4 => wl_X11_refuge_36 nf nx fo fx Q m v0_thrown f0_refused l1 l2 l3 l4) th rf l1 l2 l4 := fun w1 w2 x20 e20 => by
        refine ih l4 x20 (k + 1) (nx1 x20 e20) (by omega) ?_ (by omega)
        unfold rfN
        rw [if_neg w1, if_pos w2]; exact h1
      refine z_isSafeM hF hG h8 h4x hp hx ex h1 hk (fun w => ⟨fun _ => stay (Or.inl w), fun d => absurd rfl d⟩) (fun w => ⟨fun d => absurd d (by first | decide | simp), fun _ => ?_⟩)
      have hs : ¬ nrB F G k NX = true := by rw [w]; decide
      refine ⟨fun y => take hs (Or.inl (by rw [← h3, y, t_m1])), fun y => ?_⟩
      rw [t_eq, t_m1] at y
      refine z_farOf hF h8 hp ei hi h1 hk (fun r10 e10 => z_farOf hF h8 hp ei hi (j := (rfN F G NX i k).toNat) (by rw [h3]; omega) (by omega) (fun r11 e11 => ⟨fun w => stay (Or.inr ⟨by omega, ?_⟩), fun w => take hs (Or.inr ?_)⟩))
      · rw [t_le] at w; omega
      · rw [t_le] at w; omega
end ZR
end
