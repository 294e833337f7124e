/-! work, by both, from the same bytes -/
theorem cp_at {f g : Nat → Int32} {d k j : Nat} : va_cpy f g 0 d k j = if d ≤ j ∧ j < d + k then f (j - d) else g j := by
  unfold va_cpy; simp
/-- works that were not undone: as many, and their rows -/
def relW (NH NF : Nat) (kp wo : Int32) (pr pm : Nat → Int32) : Prop := kp.toInt = wo.toInt ∧ 0 ≤ kp.toInt ∧ kp.toInt ≤ 16 ∧ ∀ r : Nat, (r : Int) < kp.toInt → relN NH NF (fun j => pr (r * 64 + j)) (fun j => pm (68 * r + j)) ∧ yrOk (fun j => pm (68 * r + j))
theorem rN_eq {NH NF : Nat} {r s r' s' : Nat → Int32} (h : relN NH NF r s) (H6 : NH ≤ 6) (h1 : ∀ j : Nat, j < 64 → r' j = r j) (h2 : ∀ j : Nat, j < 68 → s' j = s j) : relN NH NF r' s' := by
  obtain ⟨⟨r1, r2, r3, r4, r5, ⟨r6, r7⟩, r8⟩, b1, b2⟩ := h
  refine ⟨⟨?_, fun j hj => ?_, fun j hj => ?_, fun j hj => ?_, fun j hj => ?_, ⟨?_, ?_⟩, fun i k hi hk hn => ?_⟩, ?_, fun j hj => ?_⟩
  · rw [h1 2 (by omega), r1]
    unfold caN
    rw [orN_ext (R := fun j => decide (s' j = -1)) NH (fun j hj => by rw [h2 j (by omega)])]
  · rw [h2 j (by omega), h1 (4 + j) (by omega), h1 (10 + j) (by omega), h1 (16 + j) (by omega), h2 (6 + j) (by omega), h2 (12 + j) (by omega)]
    exact r2 j hj
  · rw [h1 (4 + j) (by omega)]; exact r3 j hj
  · rw [h1 (22 + j) (by omega), h2 (18 + j) (by omega)]; exact r4 j hj
  · rw [h1 (28 + j) (by omega), h2 (30 + j) (by omega)]; exact r5 j hj
  · rw [h1 0 (by omega), h2 66 (by omega)]; exact r6
  · rw [h1 1 (by omega), h2 67 (by omega)]; exact r7
  · rw [h2 (30 + (6 * i + k)) (by omega)]; exact r8 i k hi hk hn
  · rw [h1 3 (by omega), b1]
    unfold buN
    rw [orN_ext (R := fun j => decide (s' (24 + j) = 1)) NH (fun j hj => by rw [h2 (24 + j) (by omega)])]
  · rw [h2 (24 + j) (by omega)]; exact b2 j hj
theorem yr_eq {s s' : Nat → Int32} (h : yrOk s) (h2 : s' 67 = s 67) : yrOk s' := by
  unfold yrOk at h ⊢
  rw [h2]; exact h
/-- one work more -/
theorem rW_push {NH NF : Nat} {kp wo kp2 wo2 : Int32} {pr pm pr2 pm2 row nw : Nat → Int32} (h : relW NH NF kp wo pr pm) (H6 : NH ≤ 6) (h16 : kp.toInt < 16) (hR : relN NH NF row nw) (hy : yrOk nw) (e1 : kp2 = kp + 1) (e2 : wo2 = wo + 1) (g1 : pr2 = va_cpy row pr 0 (kp * 64).toNatClampNeg 64) (g2 : ∀ j : Nat, pm2 j = if 68 * wo.toNatClampNeg ≤ j ∧ j < 68 * wo.toNatClampNeg + 68 then nw (j - 68 * wo.toNatClampNeg) else pm j) : relW NH NF kp2 wo2 pr2 pm2 := by
  obtain ⟨q1, q2, q3, q4⟩ := h
  have k2 : kp2.toInt = kp.toInt + 1 := by rw [e1]; exact t_inc (by omega)
  have w2 : wo2.toInt = wo.toInt + 1 := by rw [e2]; exact t_inc (by omega)
  have km := t_mul64 q2 (by omega)
  have n1 := t_nat (x := kp * 64) (by omega)
  have n2 := t_nat (x := wo) (by omega)
  refine ⟨by omega, by omega, by omega, fun r hr => ?_⟩
  by_cases z : (r : Int) < kp.toInt
  · obtain ⟨y1, y2⟩ := q4 r z
    refine ⟨rN_eq y1 H6 (fun j hj => ?_) (fun j hj => ?_), yr_eq y2 ?_⟩
    · show pr2 (r * 64 + j) = pr (r * 64 + j)
      rw [g1, cp_at, if_neg (by omega)]
    · show pm2 (68 * r + j) = pm (68 * r + j)
      rw [g2, if_neg (by omega)]
    · show pm2 (68 * r + 67) = pm (68 * r + 67)
      rw [g2, if_neg (by omega)]
  · refine ⟨rN_eq hR H6 (fun j hj => ?_) (fun j hj => ?_), yr_eq hy ?_⟩
    · show pr2 (r * 64 + j) = row j
      rw [g1, cp_at, if_pos (by omega)]
      exact congrArg row (by omega)
    · show pm2 (68 * r + j) = nw j
      rw [g2, if_pos (by omega)]
      exact congrArg nw (by omega)
    · show pm2 (68 * r + 67) = nw 67
      rw [g2, if_pos (by omega)]
      exact congrArg nw (by omega)
section KC
variable {NH NF : Nat} {F : Nat → Int} {cs : List (Int × Int)} {sfB : Nat → Bool} {hr : Nat → Int32} {by_ X Y lk lv st : Nat → Int32} {gf gh gs rl p : Int32}
theorem v_X10_work {ci ln at_ tk fl fa fp sh sv sl so kp sd sr rs : Int32} {se kd fi th hd pr fc pl row rd s row0 : Nat → Int32} {wo : Int32} {pm9 : Nat → Int32} {P : Nat} {t : Nat → Int}
    {E : String → Int32 → Int32 → Int32 → Int32 → Int32 → Int32 → Int32 → Int32 → Int32 → Int32 → Int32 → (Nat → Int32) → (Nat → Int32) → (Nat → Int32) → (Nat → Int32) → (Nat → Int32) → (Nat → Int32) → Int32 → Int32 → Int32 → (Nat → Int32) → (Nat → Int32) → (Nat → Int32) → (Nat → Int32) → Int32 → Prop}
    {Q : Int32 → Int32 → Int32 → Int32 → Int32 → Int32 → Int32 → Int32 → Int32 → Int32 → Int32 → Int32 → (Nat → Int32) → (Nat → Int32) → (Nat → Int32) → (Nat → Int32) → (Nat → Int32) → (Nat → Int32) → Int32 → Int32 → Int32 → (Nat → Int32) → (Nat → Int32) → (Nat → Int32) → (Nat → Int32) → Int32 → Prop}
    (hE : evC NH NF F cs sfB hr gh gs rl X Y lk lv st) (egf : gf.toInt = (NF : Int)) (hR : relN NH NF row s) (hy : yrOk s) (k0 : 0 ≤ kp.toInt) (k16 : kp.toInt ≤ 16) (hf : fl.toInt = P) (hP : P ≤ 600) (ht : tB P by_ t)
    (he : ¬ uOk p fl 150 → E "java/lang/IllegalArgumentException" (ci + 1) ln at_ tk fl fa fp sh sv sl so se kd fi th hd pr kp sd sr fc pl row rd rs)
    (h16 : uOk p fl 150 → kp.toInt = 16 → Q (-20) ci p 0 0 0 0 (-1) sh sv sl so se kd fi th hd pr kp sd sr fc pl row rd rs)
    (hbad : uOk p fl 150 → kp.toInt < 16 → ∀ n : Nat, p.toInt = n → (wkAll n t NH NF).1.1 ≠ 0 → ∀ (ln at_ tk fa fp sh sv sl so : Int32) (se kd fi th hd : Nat → Int32), fa.toInt = (wkAll n t NH NF).1.1 → fp.toInt = (wkAll n t NH NF).1.2.1 → Q (fa - 10) ci ln at_ tk 0 fa fp sh sv sl so se kd fi th hd pr kp sd sr fc pl row rd rs)
    (e0 : row0 = row) (hok : uOk p fl 150 → kp.toInt < 16 → ∀ n : Nat, p.toInt = n → (wkAll n t NH NF).1.1 = 0 → wfN NH NF 6 (wkAll n t NH NF).2 → ∀ (ln at_ tk fp sh sv sl so : Int32) (se kd fi th hd pr2 fc pl row rd : Nat → Int32), fp.toInt = -1 → pr2 = va_cpy row0 pr 0 (kp * 64).toNatClampNeg 64 → relN NH NF row (ruN F cs sfB hr NH 6 (wkAll n t NH NF).2 (0, s, 0, 0)).2.1 → yrOk (ruN F cs sfB hr NH 6 (wkAll n t NH NF).2 (0, s, 0, 0)).2.1 → Q (ruN F cs sfB hr NH 6 (wkAll n t NH NF).2 (0, s, 0, 0)).2.2.1 ci ln at_ tk 0 0 fp sh sv sl so se kd fi th hd pr2 (kp + 1) (ruN F cs sfB hr NH 6 (wkAll n t NH NF).2 (0, s, 0, 0)).2.2.1 (ruN F cs sfB hr NH 6 (wkAll n t NH NF).2 (0, s, 0, 0)).2.2.2 fc pl row rd (ruN F cs sfB hr NH 6 (wkAll n t NH NF).2 (0, s, 0, 0)).2.2.2) :
    wq_X10_work_s gf gh gs by_ X Y rl lk lv st ci ln at_ tk fl fa fp sh sv sl so se kd fi th hd pr kp sd sr fc pl row rd rs p E Q := by
  obtain ⟨H6, h8, hF, hpr, eh, hlw, hsf, hh⟩ := id hE
  refine u_X10_openText (M := 150) (by decide) (by omega) he (fun hu y y0 y1 y2 ey => ?_)
  obtain ⟨n, en⟩ : ∃ n : Nat, p.toInt = n := ⟨p.toInt.toNat, by have := hu.1; omega⟩
  have hn : n ≤ P := by have := hu.2.1; omega
  have hn5 : n ≤ 150 := by have := hu.2.2; omega
  rw [ey]
  refine ⟨fun c => ?_, fun c => ?_⟩
  · rw [t_lt, t_16] at c
    refine w_readFrom (n := n) (b := t) (H := NH) (F := NF) (A := (kd, fi, se, th)) en hn5 (tB_le ht hn) eh (by omega) (by omega) egf (by omega) (by omega) ⟨⟨0, t_0, by omega, fun _ => rfl⟩, t_0, fun _ => t_m1, fun w => absurd rfl w⟩ (fun L op a tk A fa fp hd c9 h9 => ⟨fun z => ⟨fun _ => ?_, fun d => absurd rfl d⟩, fun z => ⟨fun d => absurd d (by decide), fun _ => ?_⟩⟩)
    · have h0 : (wkAll n t NH NF).1.1 = 0 := by rw [← c9.2.1, z, t_0]
      obtain ⟨eL, hL, hsg⟩ := h9 h0
      have hw := wf_all (n := n) (b := t) (NH := NH) (NF := NF) h0
      have km := t_mul64 k0 (by omega)
      have n1 := t_nat (x := kp * 64) (by omega)
      refine ⟨fun d => ?_, fun _ x2 e2 => ⟨fun d => ?_, ?_, fun f3 e3 x4 e4 => ?_⟩⟩
      · rw [t_lt, t_16] at d; omega
      · rw [e2, t_lt, t_0] at d; omega
      · rw [e2, t_c64]; omega
      refine r_runOn (T := (wkAll n t NH NF).2) (s := s) hE hL eL hsg hw hR hy (fun op fc pl r rd q1 q2 => ?_)
      rw [t_c0, t_c64, e2] at e3
      rw [z, e4]
      exact hok hu (by omega) n en h0 hw _ _ _ _ _ _ _ _ _ _ _ _ _ _ _ _ _ _ (c9.2.2.1 h0) (by rw [e0]; exact e3) q1 q2
    · have h0 : (wkAll n t NH NF).1.1 ≠ 0 := fun w => z (cS_fa c9 w)
      exact hbad hu (by omega) n en h0 _ _ _ _ _ _ _ _ _ _ _ _ _ _ c9.2.1 (c9.2.2.2 h0)
  · rw [t_lt, t_16] at c
    exact h16 hu (by omega)
end KC
section KM
variable {NH NF : Nat} {F : Nat → Int} {cs : List (Int × Int)} {sfB : Nat → Bool} {hr fo fx cd oc f : Nat → Int32} {nf nh nx ct p1 : Int32}
def tkF (a s0 : Nat → Int32) (j : Nat) : Int32 := if j < 68 then a j else s0 j
theorem tk_at {a s0 : Nat → Int32} {j : Nat} (h : j < 68) : tkF a s0 j = a j := if_pos h
theorem m_take {a s0 : Nat → Int32} {Q : (Nat → Int32) → Prop} (hq : Q (tkF a s0)) : wq_X11_take a s0 Q := sf_X11_copies (by rw [t_68]; decide) (by rw [t_68]; decide) (fun t h => by
  have e : t = tkF a s0 := funext (fun j => by
    rw [h j, t_68]
    unfold tkF
    by_cases c : j < 68
    · rw [if_pos c, if_pos (by omega)]
    · rw [if_neg c, if_neg (by omega)])
  rw [e]; exact hq)
theorem v_X11_work {thr tp fA sz a0 bd0 op0 nn0 bk0 wo bg0 dn0 rn0 rs0 : Int32} {rf ns0 sp0 s0 fc0 st0 nw pm : Nat → Int32} {P : Nat} {t : Nat → Int}
    {Q : Int32 → Int32 → (Nat → Int32) → Int32 → Int32 → Int32 → Int32 → Int32 → Int32 → Int32 → Int32 → (Nat → Int32) → (Nat → Int32) → Int32 → (Nat → Int32) → Int32 → Int32 → Int32 → (Nat → Int32) → (Nat → Int32) → (Nat → Int32) → Int32 → (Nat → Int32) → Prop}
    (hE : evM NH NF F cs sfB hr nh nx ct fo fx cd oc) (egf : nf.toInt = (NF : Int)) (hR : ∃ row : Nat → Int32, relN NH NF row nw) (hy : yrOk nw) (w0 : 0 ≤ wo.toInt) (w16 : wo.toInt ≤ 16) (hf : tp.toInt = P) (hP : P ≤ 600) (ht : tB P f t)
    (he : ¬ (0 ≤ p1.toInt ∧ p1.toInt ≤ P ∧ p1.toInt ≤ 150) → Q 0 1 (upd rf 1 (rf 1 + 1)) tp fA sz a0 bd0 op0 nn0 bk0 ns0 sp0 wo s0 bg0 dn0 rn0 fc0 st0 nw rs0 pm)
    (h16 : 0 ≤ p1.toInt → p1.toInt ≤ P → p1.toInt ≤ 150 → wo.toInt = 16 → Q (-20) 0 rf 0 (-1) p1 0 (-1) 0 nn0 bk0 ns0 sp0 wo s0 bg0 dn0 rn0 fc0 st0 nw rs0 pm)
    (hbad : 0 ≤ p1.toInt → p1.toInt ≤ P → p1.toInt ≤ 150 → wo.toInt < 16 → ∀ n : Nat, p1.toInt = n → (wkAll n t NH NF).1.1 ≠ 0 → ∀ (at_ bd op nn bk : Int32) (ns : Nat → Int32), bd.toInt = (wkAll n t NH NF).1.2.1 → bk.toInt = (wkAll n t NH NF).1.1 → Q (bk - 10) 0 rf 0 bd p1 at_ bd op nn bk ns sp0 wo s0 bg0 dn0 rn0 fc0 st0 nw rs0 pm)
    (hok : 0 ≤ p1.toInt → p1.toInt ≤ P → p1.toInt ≤ 150 → wo.toInt < 16 → ∀ n : Nat, p1.toInt = n → (wkAll n t NH NF).1.1 = 0 → ∀ (at_ bd op nn bk bg : Int32) (ns sp s fc st now2 pm2 : Nat → Int32), bd = -1 → (∀ j : Nat, pm2 j = if 68 * wo.toNatClampNeg ≤ j ∧ j < 68 * wo.toNatClampNeg + 68 then nw (j - 68 * wo.toNatClampNeg) else pm j) → (∀ j : Nat, j < 68 → now2 j = (ruN F cs sfB hr NH 6 (wkAll n t NH NF).2 (0, tkF nw s0, 0, 0)).2.1 j) → Q (ruN F cs sfB hr NH 6 (wkAll n t NH NF).2 (0, tkF nw s0, 0, 0)).2.2.1 0 rf 0 bd p1 at_ bd op nn bk ns sp (wo + 1) s bg (ruN F cs sfB hr NH 6 (wkAll n t NH NF).2 (0, tkF nw s0, 0, 0)).2.2.1 (ruN F cs sfB hr NH 6 (wkAll n t NH NF).2 (0, tkF nw s0, 0, 0)).2.2.2 fc st now2 (ruN F cs sfB hr NH 6 (wkAll n t NH NF).2 (0, tkF nw s0, 0, 0)).2.2.2 pm2) :
    wq_X11_work_s nf nh nx ct f fo fx hr cd oc thr rf tp fA sz a0 bd0 op0 nn0 bk0 ns0 sp0 wo s0 bg0 dn0 rn0 fc0 st0 nw rs0 pm p1 Q := by
  obtain ⟨H6, h8, hF, hpm, eh, hlw, hsm, hh⟩ := id hE
  have bad : ¬ (0 ≤ p1.toInt ∧ p1.toInt ≤ P ∧ p1.toInt ≤ 150) → wb_X11_work_s_29 nf nh nx ct f fo fx hr cd oc Q 0 rf tp fA sz a0 bd0 op0 nn0 bk0 ns0 sp0 wo s0 bg0 dn0 rn0 fc0 st0 nw rs0 pm p1 := fun w =>
    z_mayN (k := 1) rfl (by decide) t_1 (by decide) ⟨fun z => absurd rfl z, fun _ => he w⟩
  refine ⟨fun c => bad (by rw [t_lt, t_0] at c; omega), fun c => ⟨fun c2 => bad (by rw [t_lt] at c2; omega), fun c2 => ⟨fun c3 => bad (by rw [t_lt, t_150] at c3; omega), fun c3 => ?_⟩⟩⟩
  rw [t_lt, t_0] at c
  rw [t_lt] at c2
  rw [t_lt, t_150] at c3
  have p0 : 0 ≤ p1.toInt := by omega
  have pP : p1.toInt ≤ P := by omega
  have p5 : p1.toInt ≤ 150 := by omega
  obtain ⟨n, en⟩ : ∃ n : Nat, p1.toInt = n := ⟨p1.toInt.toNat, by omega⟩
  have hb := tB_le ht (show n ≤ P by omega)
  refine z_mayY (by decide) ⟨fun _ => ⟨fun d => ?_, fun d => ?_⟩, fun z => absurd z (by decide)⟩
  · -- the text is read, and done
    have hw16 : wo.toInt < 16 := by
      by_cases z : wo.toInt = 16
      · exact absurd (t_eq.mpr (by rw [z, t_16])) d
      · omega
    have nW := t_nat (x := wo) w0
    have fin : ∀ (at_ bd bk op nn : Int32) (ns : Nat → Int32), mS n t (wkAll n t NH NF).1 at_ bd bk → ((wkAll n t NH NF).1.1 = 0 → nn.toInt = ((4 * erL (erN 5) (wkAll n t NH NF).2 : Nat) : Int) ∧ erL (erN 5) (wkAll n t NH NF).2 ≤ 50 ∧ sgR (rN 5) ns (wkAll n t NH NF).2 0 (erL (erN 5) (wkAll n t NH NF).2)) → wb_X11_work_s_89 nf nh nx ct f fo fx hr cd oc Q 0 rf 0 (-1) p1 at_ bd op nn bk ns sp0 wo s0 bg0 dn0 rn0 fc0 st0 nw rs0 pm := fun at_ bd bk op nn ns cm hs => by
      unfold wb_X11_work_s_89 wq_X11_result
      refine ms_fine cm (fun h0 => ⟨fun z => absurd z (by first | decide | simp), fun _ => ⟨fun zb => ?_, fun z => absurd (cm.2.1 h0) z⟩⟩) (fun h0 => ⟨fun _ => ⟨fun z => absurd z (mS_nb cm h0), fun _ => hbad p0 pP p5 hw16 n en h0 _ _ _ _ _ _ (cm.2.2 h0).1 (cm.2.2 h0).2⟩, fun z => absurd rfl z⟩)
      obtain ⟨enn, h50, hsg⟩ := hs h0
      have hw := wf_all (n := n) (b := t) (NH := NH) (NF := NF) h0
      refine sf_X11_copies (by omega) (by omega) (fun sp hsp => ⟨69, ?_⟩)
      have hsg2 : rN 6 sp (wkAll n t NH NF).2 0 (erL (erN 5) (wkAll n t NH NF).2) := (sr_ok (rN_ok 5) ns sp _ 0 _ hsg).2 (fun q _ hq => by rw [hsp q, if_pos (by rw [enn]; omega)])
      have go : ∀ (m : Nat) (pm2 : Nat → Int32) (l3 : Int32) (k : Nat), l3.toInt = (k : Int) → k ≤ 68 → (∀ j : Nat, pm2 j = if 68 * wo.toNatClampNeg ≤ j ∧ j < 68 * wo.toNatClampNeg + k then nw (j - 68 * wo.toNatClampNeg) else pm j) → 68 - k < m → wl_X11_work_s_123 nf nh nx ct f fo fx hr cd oc Q m 0 rf 0 bd p1 at_ bd op nn bk ns sp wo s0 bg0 dn0 rn0 fc0 st0 nw rs0 pm2 l3 := by
        intro m
        induction m with
        | zero => intro pm2 l3 k h1 h2 h3 h4; omega
        | succ m ih =>
          intro pm2 l3 k h1 h2 h3 h4
          refine ⟨fun e x33 e33 => ?_, fun e x42 e42 x43 e43 => ?_⟩
          · rw [t_le, t_68] at e
            rw [show k = 68 by omega] at h3
            refine m_take ?_
            obtain ⟨row, hRr⟩ := hR
            have hR0 : ∃ row : Nat → Int32, rOk NH NF row (0, tkF nw s0, 0, 0) := ⟨row, rN_eq hRr H6 (fun _ _ => rfl) (fun j hj => tk_at hj), yr_eq hy (tk_at (a := nw) (s0 := s0) (j := 67) (by omega)), Nat.zero_le _⟩
            refine g_6 hE (wkAll n t NH NF).2 0 _ hsg2 hw h50 _ (0, tkF nw s0, 0, 0) 0 0 nn fc0 st0 hR0 t_0 t_0 enn (fun bg fc st q1 _ q2 => sf_X11_copies (by decide) (by decide) (fun now2 hn2 => ?_))
            rw [e33, zb]
            exact hok p0 pP p5 hw16 n en h0 at_ (-1) op nn bk bg ns sp _ fc st now2 pm2 rfl h3 (fun j hj => by rw [hn2 j, if_pos (by rw [t_68]; omega)])
          · rw [t_le, t_68] at e
            have k43 : x43.toInt = ((68 * wo.toNatClampNeg + k : Nat) : Int) := by
              have q42 : x42.toInt = 68 * wo.toInt := by rw [e42, t_mul (by rw [t_68]; omega) (by rw [t_68]; omega), t_68]
              rw [e43, t_add (by rw [q42]; omega) (by rw [q42]; omega), q42]; omega
            refine ⟨t_in (by omega) (by omega), fun x44 e44 => ⟨t_in (by omega) (by omega), fun f45 e45 x46 e46 => ih f45 x46 (k + 1) (by rw [e46, t_inc (by omega), h1]; omega) (by omega) (fun j => ?_) (by omega)⟩⟩
            rw [t_clamp h1] at e44
            rw [t_clamp k43] at e45
            rw [e45, e44]
            by_cases z : j = 68 * wo.toNatClampNeg + k
            · rw [z, pk_us, if_pos (by omega)]
              exact congrArg nw (by omega)
            · rw [pk_un z, h3 j]
              by_cases y : 68 * wo.toNatClampNeg ≤ j ∧ j < 68 * wo.toNatClampNeg + k
              · rw [if_pos y, if_pos (by omega)]
              · rw [if_neg y, if_neg (by omega)]
      exact go 69 pm 0 0 t_0 (by omega) (fun j => by rw [if_neg (by omega)]) (by omega)
    have h5 := m_st6 (n := n) (b := t) (len := p1) (f := f) (H := NH) (F := NF) (vh := nh) (vf := nf) en (by omega) hb eh (by omega) (by omega) egf (by omega) (by omega)
    have hBg : ∀ g : sT → sT × TT 5, some (blN n t NH NF 5) = some g → gdB n (enN 5) g := fun g hg => by rw [← Option.some.inj hg]; exact gd_blN 5
    have top : ∀ (kk : Nat) (x : sT × TG (TT 5)) (a bd bk op nn : Int32) (ns : Nat → Int32) (i : Nat), tpG n t NH NF (some (blN n t NH NF 5)) kk x = wkAll n t NH NF → mS n t x.1 a bd bk → (x.1.1 = 0 → x.1.2.2 ≤ n ∧ n < x.1.2.2 + 4 * kk ∧ op.toInt = 0 ∧ nn.toInt = ((4 * i : Nat) : Int) ∧ sgR (rN 5) ns x.2 0 i ∧ 3 * i ≤ x.1.2.2) → wl_X11_work_s_68 nf nh nx ct f fo fx hr cd oc Q (kk + 1) 0 rf 0 (-1) p1 a bd op nn bk ns sp0 wo s0 bg0 dn0 rn0 fc0 st0 nw rs0 pm := by
      intro kk
      induction kk with
      | zero =>
        intro x a bd bk op nn ns i hR2 hm hx
        have hR2 : x = wkAll n t NH NF := hR2
        refine ms_fine hm (fun z => ?_) (fun z => ⟨fun _ => fin _ _ _ _ _ _ (by rw [← hR2]; exact hm) (fun y => absurd (by rw [← hR2] at y; exact y) z), fun y => absurd rfl y⟩)
        obtain ⟨p1', p2', -⟩ := hx z
        exact absurd p2' (by omega)
      | succ kk ih =>
        intro x a bd bk op nn ns i hR2 hm hx
        have hR2 : (if x.1.1 ≠ 0 ∨ ¬ sk n t x.1.2.2 < n then x else tpG n t NH NF (some (blN n t NH NF 5)) kk ((stGw n t NH NF (some (blN n t NH NF 5)) x.1).1, x.2 ++ (stGw n t NH NF (some (blN n t NH NF 5)) x.1).2)) = wkAll n t NH NF := hR2
        refine ms_fine hm (fun z => ⟨fun y => absurd y (by first | decide | simp), fun _ => ms_isMore en (by omega) hb hm z (fun w x2 cx => ⟨fun y => absurd y (by first | decide | simp), fun _ => ?_⟩) (fun w x2 cx => ⟨fun _ => ?_, fun y => absurd rfl y⟩)⟩) (fun z => ?_)
        · obtain ⟨q1, q2, q3, q4, q5, q7⟩ := hx z
          rw [if_neg (fun y => y.elim (fun y => y z) (fun y => y w))] at hR2
          refine h5 _ x.1 x2 bd bk op ns nn i cx z q1 (by rw [q3]; rfl) q4 q7 (fun a3 bd3 bk3 op3 ns3 nn3 c3 hs3 => ?_)
          refine ih _ a3 bd3 bk3 op3 nn3 ns3 (i + erL (erN 5) (stGw n t NH NF (some (blN n t NH NF 5)) x.1).2) hR2 c3 (fun zs => ?_)
          obtain ⟨y3, y6, j, ej, y5⟩ := hs3 zs
          have on := gd_st (eB := enN 5) (B := some (blN n t NH NF 5)) hBg z q1 zs
          obtain ⟨enj, -⟩ := sr_ok (rN_ok 5) ns3 ns3 _ i j y5
          obtain ⟨ex, ey⟩ := sr_ok (rN_ok 5) ns ns3 _ 0 i q5
          have le := er_le (eR := erN 5) (eB := enN 5) (erN_le 5) (stGw n t NH NF (some (blN n t NH NF 5)) x.1).2
          refine ⟨on.2.1, ?_, by rw [y3]; rfl, by rw [← enj]; exact ej, by rw [← enj]; exact sr_app y5 _ _ (ey (fun q _ h2 => (y6 q h2).symm)), ?_⟩
          · show n < (stGw n t NH NF (some (blN n t NH NF 5)) x.1).1.2.2 + 4 * kk
            omega
          · show 3 * (i + erL (erN 5) (stGw n t NH NF (some (blN n t NH NF 5)) x.1).2) ≤ (stGw n t NH NF (some (blN n t NH NF 5)) x.1).1.2.2
            omega
        · obtain ⟨q1, q2, q3, q4, q5, q7⟩ := hx z
          rw [if_pos (Or.inr w)] at hR2
          obtain ⟨ex, -⟩ := sr_ok (rN_ok 5) ns ns _ 0 i q5
          have ex : i = erL (erN 5) x.2 := by omega
          exact fin _ _ _ _ _ _ (by rw [← hR2]; exact cx) (fun _ => by rw [← hR2, ← ex]; exact ⟨q4, by omega, q5⟩)
        · rw [if_pos (Or.inl z)] at hR2
          exact ⟨fun _ => fin _ _ _ _ _ _ (by rw [← hR2]; exact hm) (fun y => absurd (by rw [← hR2] at y; exact y) z), fun y => absurd rfl y⟩
    exact ⟨151, top 150 ((0, 0, 0), []) 0 (-1) bk0 0 0 ns0 0 rfl ⟨⟨0, t_0, by omega, fun _ => rfl⟩, fun _ => rfl, fun w => absurd rfl w⟩ (fun _ => ⟨Nat.zero_le _, by show n < 0 + 4 * 150; omega, t_0, t_0, rfl, Nat.le_refl _⟩)⟩
  · rw [t_eq, t_16] at d
    exact ⟨fun z => absurd rfl z, fun _ => ⟨fun y => absurd y (by first | decide | simp), fun _ => h16 p0 pP p5 d⟩⟩
end KM
