/-! down, by both, from the same bytes -/
theorem tB_le {n m : Nat} {f : Nat → Int32} {b : Nat → Int} (h : tB m f b) (hn : n ≤ m) : tB n f b := fun j hj => h j (by omega)
theorem cD_seat {d : dT} {nf nh nx : Int32} {db FX FY se sr X Y : Nat → Int32} (h : cD d nf nh nx db FX FY se sr X Y) (h0 : d.1.1 = 0) (ok : dOk d) : sSeat nh nf se := by
  obtain ⟨⟨n1, n2⟩, ⟨m1, m2⟩, ⟨x1, x2⟩, hr⟩ := h
  obtain ⟨r1, r2, r3, r4⟩ := hr h0
  obtain ⟨k, h1, h2, h3, h4⟩ := ok
  intro j hj
  have e := (r2 j (by omega)).1
  have g := h2 j (by omega)
  rw [e]
  omega
section TDv
variable {by_ : Nat → Int32} {ci ln at_ tk fl fa fp p : Int32}
theorem v_X10_down {ag asg ar : Nat} {f h x : Int32} {db : Nat → Int32} {sf : Int32} {FX FY st sr X Y : Nat → Int32} {rg rs : Value} {rl : Int32} {rk rv : Nat → Int32} {lm : Int32} {sn row : Nat → Int32} {nd nl : Value} {pk ik rf : Int32} {P : Nat} {t : Nat → Int}
    {E : String → Int32 → Int32 → Int32 → Int32 → Int32 → Int32 → Int32 → Int32 → Int32 → Int32 → (Nat → Int32) → Int32 → (Nat → Int32) → (Nat → Int32) → (Nat → Int32) → (Nat → Int32) → (Nat → Int32) → (Nat → Int32) → Value → Value → Int32 → (Nat → Int32) → (Nat → Int32) → Int32 → (Nat → Int32) → (Nat → Int32) → Value → Value → Int32 → Int32 → Int32 → Prop}
    {Q : Int32 → Int32 → Int32 → Int32 → Int32 → Int32 → Int32 → Int32 → Int32 → Int32 → Int32 → (Nat → Int32) → Int32 → (Nat → Int32) → (Nat → Int32) → (Nat → Int32) → (Nat → Int32) → (Nat → Int32) → (Nat → Int32) → Value → Value → Int32 → (Nat → Int32) → (Nat → Int32) → Int32 → (Nat → Int32) → (Nat → Int32) → Value → Value → Int32 → Int32 → Int32 → Prop}
    (hf : fl.toInt = P) (hP : P ≤ 600) (ht : tB P by_ t) (he : ¬ uOk p fl 600 → E "java/lang/IllegalArgumentException" (ci + 1) ln at_ tk fl fa fp f h x db sf FX FY st sr X Y (.ref ag) (.ref asg) rl rk rv lm sn row nd nl pk ik rf)
    (hbad : uOk p fl 600 → ∀ n : Nat, p.toInt = n → (dAll n t).1.1 ≠ 0 → ∀ (ln at_ tk fa fp f h x : Int32) (db : Nat → Int32) (sf : Int32) (FX FY st sr X Y : Nat → Int32), fa.toInt = (dAll n t).1.1 → fp.toInt = (dAll n t).1.2.1 → Q (fa - 10) ci ln at_ tk 0 fa fp f h x db sf FX FY st sr X Y (.ref ag) (.ref asg) rl rk rv lm sn row nd nl pk ik rf)
    (hok : uOk p fl 600 → ∀ n : Nat, p.toInt = n → (dAll n t).1.1 = 0 → ∀ (ln at_ tk fa fp f h x : Int32) (db : Nat → Int32) (sf : Int32) (FX FY st sr X Y : Nat → Int32) (rl : Int32) (rk rv : Nat → Int32) (lm : Int32) (sn row : Nat → Int32), fp.toInt = -1 → cD (dAll n t) f h x db FX FY st sr X Y → sf = sfD (dAll n t) → sLaw rl rk rv → sSits h f row → Q h ci ln at_ tk 0 fa fp f h x db sf FX FY st sr X Y (.ref asg) (.ref ag) rl rk rv lm sn row (.ref asg) (.ref ar) 0 0 0) :
    wq_X10_down_s ag asg ar by_ ci ln at_ tk fl fa fp f h x db sf FX FY st sr X Y rg rs rl rk rv lm sn row nd nl pk ik rf p E Q := by
  refine u_X10_openText (M := 600) (by decide) (by omega) he (fun hu y y0 y1 y2 ey => ?_)
  obtain ⟨n, en⟩ : ∃ n : Nat, p.toInt = n := ⟨p.toInt.toNat, by have := hu.1; omega⟩
  have hn : n ≤ P := by have := hu.2.1; omega
  rw [ey]
  refine cs_readFrom (n := n) (b := t) en (by omega) (tB_le ht hn) ⟨⟨0, t_0, by omega, fun _ => rfl⟩, t_0, fun _ => t_m1, fun w => absurd rfl w⟩ (fun nn h x db a sf t2 f2 fp2 FX FY se sr X Y hc hd => ?_)
  obtain ⟨⟨n1, n2⟩, ⟨m1, m2⟩, ⟨x1, x2⟩, hr⟩ := id hd
  by_cases h0 : (dAll n t).1.1 = 0
  · obtain ⟨r1, r2, r3, r4⟩ := hr h0
    have ok := dOk_all h0
    refine z_findSafe ok.2.1 ok.2.2.2.1 n2 x2 r1 r3 n1 x1 (fun sf2 esf => ⟨fun z => ⟨fun _ => ?_, fun c => absurd rfl c⟩, fun z => absurd (cS_fa hc h0) z⟩)
    exact sf_X4_setPlain (fun rk rv rl hl => sf_X0_clear (fun sn => sf_X1_begin (by omega) (cD_seat hd h0 ok) (fun row hr => hok hu n en h0 _ _ _ _ _ _ _ _ _ _ _ _ _ _ _ _ _ _ _ _ _ _ (hc.2.2.1 h0) hd esf hl hr)))
  · refine sf_X2_findSafe (by omega) (by omega) (fun sf2 => ⟨fun z => absurd (by rw [← hc.2.1, z, t_0]) h0, fun z => ⟨fun c => absurd c (by decide), fun _ => ?_⟩⟩)
    exact hbad hu n en h0 _ _ _ _ _ _ _ _ _ _ _ _ _ _ _ _ hc.2.1 (hc.2.2.2 h0)
end TDv
/-- what the reference keeps of a down -/
def mG (d : dT) (nf nh nx : Int32) (fo ha fx : Nat → Int32) : Prop := (nf.toInt = d.2.1 ∧ nh.toInt = d.2.2.1 ∧ nx.toInt = d.2.2.2.1) ∧ pm (2 * d.2.1) fo d.2.2.2.2.1 ∧ pm (2 * d.2.2.1) ha d.2.2.2.2.2.1 ∧ pm (2 * d.2.2.2.1) fx d.2.2.2.2.2.2.1
section TRv
variable {f : Nat → Int32} {th tp fA sz a0 bd0 op nf nh nx bk0 fm hm xm cd bo wo im rs p1 : Int32} {rf db fo ha fx bo0 nw fx0 ha0 fo0 : Nat → Int32} {Q : dQ}
theorem v_X11_down {P : Nat} {t : Nat → Int} (hf : tp.toInt = P) (hP : P ≤ 600) (ht : tB P f t)
    (he : ¬ (0 ≤ p1.toInt ∧ p1.toInt ≤ P) → Q 0 1 (upd rf 1 (rf 1 + 1)) tp fA sz a0 bd0 op nf nh nx db bk0 fm hm xm fo ha fx cd bo wo im rs bo0 nw fx0 ha0 fo0)
    (hbad : 0 ≤ p1.toInt → p1.toInt ≤ P → ∀ n : Nat, p1.toInt = n → (dAll n t).1.1 ≠ 0 → ∀ (at_ bd nf nh nx bk : Int32) (db fx1 ha1 fo1 : Nat → Int32), bd.toInt = (dAll n t).1.2.1 → bk.toInt = (dAll n t).1.1 → Q (bk - 10) 0 rf 0 bd p1 at_ bd 0 nf nh nx db bk fm hm xm fo ha fx cd bo wo im rs bo0 nw fx1 ha1 fo1)
    (hok : 0 ≤ p1.toInt → p1.toInt ≤ P → ∀ n : Nat, p1.toInt = n → (dAll n t).1.1 = 0 → ∀ (at_ bd nf nh nx bk : Int32) (db fx1 ha1 fo1 g1 g2 g3 bo1 nw1 : Nat → Int32), bd = -1 → mD (dAll n t) nf nh nx db fx1 ha1 fo1 → mG (dAll n t) nf nh nx g1 g2 g3 → (∀ j : Nat, j < 8 → bo1 j = -1) → (∀ j : Nat, j < 68 → nw1 j = ni (dAll n t).2.2.1 g2 db j) → Q nh 0 rf 0 bd p1 at_ bd 0 nf nh nx db bk nf nh nx g1 g2 g3 0 0 0 0 0 bo1 nw1 fx1 ha1 fo1) :
    wq_X11_down_s f th rf tp fA sz a0 bd0 op nf nh nx db bk0 fm hm xm fo ha fx cd bo wo im rs bo0 nw fx0 ha0 fo0 p1 Q := by
  have bad : ¬ (0 ≤ p1.toInt ∧ p1.toInt ≤ P) → wb_X11_down_s_22 f Q 0 rf tp fA sz a0 bd0 op nf nh nx db bk0 fm hm xm fo ha fx cd bo wo im rs bo0 nw fx0 ha0 fo0 p1 := fun w =>
    ⟨fun z => absurd rfl z, fun _ => ⟨fun z => absurd rfl z, fun _ => ⟨t_in (by decide) (by decide), fun x3 e3 x4 e4 => ⟨t_in (by decide) (by decide), fun f5 e5 => ⟨fun _ => ⟨fun z => absurd rfl z, fun _ => by rw [e5, e4, e3]; exact he w⟩, fun z => absurd z (by first | decide | simp)⟩⟩⟩⟩⟩
  refine ⟨fun c => bad (by rw [t_lt, t_0] at c; omega), fun c => ⟨fun c2 => bad (by rw [t_lt] at c2; omega), fun c2 => ?_⟩⟩
  rw [t_lt, t_0] at c
  rw [t_lt] at c2
  have p0 : 0 ≤ p1.toInt := by omega
  have pP : p1.toInt ≤ P := by omega
  obtain ⟨n, en⟩ : ∃ n : Nat, p1.toInt = n := ⟨p1.toInt.toNat, by omega⟩
  refine ⟨fun _ => ⟨fun z => absurd rfl z, fun _ => ⟨fun _ => ?_, fun z => absurd z (by first | decide | simp)⟩⟩, fun z => absurd z (by first | decide | simp)⟩
  show wq_X11_clears nf nh nx db _
  refine sf_X11_clears (fun y1 y2 y3 db1 e1 e2 e3 e4 => ⟨62, ms_down44 (n := n) (b := t) (R := dAll n t) en (by omega) (tB_le ht (by omega)) (fun at_ bd bk nf nh nx db fx1 ha1 fo1 hm9 hd9 => ?_) 62 0 (-1) bk0 y1 y2 y3 db1 fx0 ha0 fo0 0 0 ((0, 0, 0), 0, 0, 0, (fun _ => 0), (fun _ => 0), (fun _ => 0), (fun _ => 0)) ⟨⟨0, t_0, by omega, fun _ => rfl⟩, fun _ => rfl, fun w => absurd rfl w⟩ ⟨⟨e1, by decide⟩, ⟨e2, by decide⟩, ⟨e3, by decide⟩, fun _ => ⟨fun j hj => absurd hj (Nat.not_lt_zero j), fun j hj => absurd hj (Nat.not_lt_zero j), fun j hj => absurd hj (Nat.not_lt_zero j), e4⟩⟩ t_0 (by decide) (fun _ => by decide) (by decide) rfl⟩)
  unfold wb_X11_down_s_136 wq_X11_result
  refine ms_fine hm9 (fun h0 => ⟨fun z => absurd z (by first | decide | simp), fun _ => ⟨fun z => absurd (hm9.2.1 h0) z, fun zb => ?_⟩⟩) (fun h0 => ⟨fun _ => ⟨fun _ => hbad p0 pP n en h0 _ _ _ _ _ _ _ _ _ _ (hm9.2.2 h0).1 (hm9.2.2 h0).2, fun z => absurd z (mS_nb hm9 h0)⟩, fun z => absurd rfl z⟩)
  obtain ⟨⟨n1, n2⟩, ⟨m1, m2⟩, ⟨x1, x2⟩, hr⟩ := id hd9
  obtain ⟨r1, r2, r3, r4⟩ := hr h0
  refine m_sets m1 m2 (fun g1 g2 g3 b9 n9 q1 q2 q3 q4 q5 => hok p0 pP n en h0 _ _ _ _ _ _ _ _ _ _ _ _ _ _ _ zb hd9 ⟨⟨n1, m1, x1⟩, fun j hj => ?_, fun j hj => ?_, fun j hj => ?_⟩ q4 q5)
  · rw [q1 j (by omega)]; exact r1 j hj
  · rw [q2 j (by omega)]; exact r2 j hj
  · rw [q3 j (by omega)]; exact r3 j hj
end TRv
