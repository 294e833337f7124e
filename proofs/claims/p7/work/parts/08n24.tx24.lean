/-! law, by both, from the same bytes -/
section TLe
variable {n : Nat} {b : Nat → Int} {st : sT} {len : Int32} {f : Nat → Int32}
theorem cs_needsEnd {Q : Int32 → Int32 → Int32 → Prop} {a fa fp : Int32} (hl : len.toInt = n) (hn : n ≤ 600) (hb : tB n f b) (h : cS n b st a fa fp) (hq : ∀ x fa2 fp2 : Int32, cS n b (enS n b st) x fa2 fp2 → Q x fa2 fp2) : wq_X8_needsEnd len f a fa fp Q := by
  by_cases h0 : st.1 = 0
  · refine cs_isEnded hl hn hb h h0 (fun w x c => ⟨fun d => absurd rfl d, fun _ => cs_blameS hl hn hb c (fun x2 fa2 fp2 c2 => hq x2 fa2 fp2 ?_)⟩) (fun w x c => ⟨fun _ => hq x fa fp ?_, fun d => absurd d (by first | decide | simp)⟩)
    · unfold enS
      rw [if_neg (fun z => z h0), if_pos w]
      rw [fS_0 h0] at c2; exact c2
    · unfold enS
      rw [if_neg (fun z => z h0), if_neg w]; exact c
  · obtain ⟨⟨q, e, hq6, es⟩, ef, e0, e1⟩ := id h
    have hs := sk_le (b := b) hq6 hn
    have e9 : enS n b st = st := by unfold enS; rw [if_pos h0]
    rw [e9] at hq
    have same : ∀ x : Int32, x.toInt = (sk n b q : Nat) → cS n b st x fa fp := fun x ex => ⟨aS_ex ex hs (fun w => absurd w h0), ef, e0, e1⟩
    refine x_isEnded hl hn hb e hq6 (fun w x ex => ⟨fun d => absurd rfl d, fun _ => cs_blameS hl hn hb (same x ex) (fun x2 fa2 fp2 c2 => hq x2 fa2 fp2 ?_)⟩) (fun w x ex => ⟨fun _ => hq x fa fp (same x ex), fun d => absurd d (by first | decide | simp)⟩)
    rw [fS_bad h0] at c2; exact c2
theorem ms_isMore2 {Q : Int32 → Int32 → Prop} {a bd bk : Int32} (hl : len.toInt = n) (hn : n ≤ 600) (hb : tB n f b) (h : mS n b st a bd bk) (h0 : st.1 = 0) (q1 : sk n b st.2.2 < n → ∀ x : Int32, mS n b st x bd bk → x.toInt = (sk n b st.2.2 : Nat) → Q 1 x) (q0 : ¬ sk n b st.2.2 < n → ∀ x : Int32, mS n b st x bd bk → Q 0 x) : wq_X11_isMore len f a Q := by
  obtain ⟨⟨q, e, hq6, es⟩, e0, e1⟩ := id h
  have hs := sk_le (b := b) hq6 hn
  have es' := es h0
  rw [es'] at hs
  refine y_isMore hl hn hb e hq6 (fun w x ex => ?_) (fun w x ex => ?_)
  · rw [es'] at w ex
    exact q1 w x ⟨aS_ex ex hs (fun _ => sk_sk), e0, e1⟩ ex
  · rw [es'] at w ex
    exact q0 w x ⟨aS_ex ex hs (fun _ => sk_sk), e0, e1⟩
end TLe
theorem cL_sLaw {cs : List (Int × Int)} {kd vl : Nat → Int32} {ln : Int32} (h : cL ((0, 0, 0), cs) kd vl ln) (hr : rn cs = some 1) : sLaw ln kd vl := by
  obtain ⟨⟨l0, l1⟩, hr2⟩ := h
  obtain ⟨el, hi⟩ := hr2 rfl
  have el : ln.toInt = (cs.length : Nat) := el
  refine ⟨l0, l1, fun j hj e => ?_⟩
  have hj : j < cs.length := by omega
  obtain ⟨i1, i2⟩ := hi j hj
  have i1 : (kd j).toInt = kC (cs.getD j (0, 0)).1 := i1
  have i2 : (vl j).toInt = (cs.getD j (0, 0)).2 := i2
  rw [e, t_1] at i1
  have k1 := kC_1 i1.symm
  obtain ⟨d, d1, d2, d3, d4⟩ := rn_at (fs := fun _ => 0) (cs := cs) j (by omega) (fun i hi => rn_all hr i (by omega))
  have hw := rn_word hj d1 (rn_all hr (j + 1) (by omega))
  rw [i2]
  omega
theorem mL_rC {cs : List (Int × Int)} {cd oc : Nat → Int32} {ct : Int32} (h : mL ((0, 0, 0), cs) cd oc ct) (h150 : cs.length ≤ 150) (hr : rn cs = some 1) : rC ct cd oc := by
  obtain ⟨el, hi⟩ := h rfl
  have el : ct.toInt = (cs.length : Nat) := el
  have hi : ∀ i : Nat, i < cs.length → (cd i).toInt = (cs.getD i (0, 0)).1 ∧ (oc i).toInt = (cs.getD i (0, 0)).2 := hi
  have dep : ∀ k : Nat, k ≤ cs.length → ∀ d : Int, rn (cs.take k) = some d → rD cd k = d := by
    intro k
    induction k with
    | zero => intro _ d e; exact Option.some.inj e
    | succ k ih =>
      intro hk d e
      obtain ⟨d0, q1, q2, q3, q4⟩ := rn_at (fs := fun _ => 0) (cs := cs) k (by omega) (fun i hi => rn_all hr i (by omega))
      have hw := rn_word (show k < cs.length by omega) q1 (rn_all hr (k + 1) hk)
      have r := ih (by omega) d0 q1
      obtain ⟨i1, i2⟩ := hi k (by omega)
      rw [rn_s (by omega), q1] at e
      unfold rD
      rw [r, i1]
      generalize cs.getD k (0, 0) = c at hw e i1
      obtain ⟨c1, c2⟩ := c
      have hw : c1 = 0 ∨ (c1 = 1 ∧ 0 ≤ c2 ∧ c2 < 8) ∨ (2 ≤ c1 ∧ c1 ≤ 8 ∧ 2 ≤ d0) := hw
      rcases hw with y | ⟨y, y1, y2⟩ | ⟨y, y1, y2⟩
      · subst y
        rw [rn_0] at e
        rw [if_pos (show ((0, c2) : Int × Int).1 ≤ 1 from (show (0 : Int) ≤ 1 by decide))]; exact Option.some.inj e
      · subst y
        rw [rn_1 ⟨y1, y2⟩] at e
        rw [if_pos (show ((1, c2) : Int × Int).1 ≤ 1 from (show (1 : Int) ≤ 1 by decide))]; exact Option.some.inj e
      · rw [rn_2 ⟨y, y1⟩ y2] at e
        rw [if_neg (show ¬ c1 ≤ 1 by omega)]; exact Option.some.inj e
  refine ⟨⟨by omega, by omega⟩, fun k hk => ?_⟩
  have hk : k < cs.length := by omega
  obtain ⟨d, d1, d2, d3, d4⟩ := rn_at (fs := fun _ => 0) (cs := cs) k (by omega) (fun i hi => rn_all hr i (by omega))
  have hw := rn_word hk d1 (rn_all hr (k + 1) (by omega))
  have r := dep k (by omega) d d1
  obtain ⟨i1, i2⟩ := hi k hk
  rw [r, i1, i2]
  refine ⟨by omega, fun _ => by omega, by omega⟩
section TLv
variable {by_ : Nat → Int32} {ci ln at_ tk fl fa fp p : Int32}
theorem v_X10_law {arl asr : Nat} {sl : Int32} {sk sv : Nat → Int32} {rr rsr nl : Value} {P : Nat} {t : Nat → Int}
    {E : String → Int32 → Int32 → Int32 → Int32 → Int32 → Int32 → Int32 → Int32 → (Nat → Int32) → (Nat → Int32) → Value → Value → Value → Prop}
    {Q : Int32 → Int32 → Int32 → Int32 → Int32 → Int32 → Int32 → Int32 → Int32 → (Nat → Int32) → (Nat → Int32) → Value → Value → Value → Prop}
    (hf : fl.toInt = P) (hP : P ≤ 600) (ht : tB P by_ t) (he : ¬ uOk p fl 150 → E "java/lang/IllegalArgumentException" (ci + 1) ln at_ tk fl fa fp sl sk sv (.ref arl) (.ref asr) nl)
    (hbad : uOk p fl 150 → ∀ n : Nat, p.toInt = n → (lwAll n t).1.1 ≠ 0 → ∀ (ln at_ tk fa fp sl : Int32) (sk sv : Nat → Int32), fa.toInt = (lwAll n t).1.1 → fp.toInt = (lwAll n t).1.2.1 → Q (fa - 10) ci ln at_ tk 0 fa fp sl sk sv (.ref arl) (.ref asr) nl)
    (hok : uOk p fl 150 → ∀ n : Nat, p.toInt = n → (lwAll n t).1.1 = 0 → ∀ (ln at_ tk fa fp sl : Int32) (sk sv : Nat → Int32), fp.toInt = -1 → cL ((0, 0, 0), (lwAll n t).2) sk sv sl → Q 1 ci ln at_ tk 0 fa fp sl sk sv (.ref asr) (.ref arl) (.ref asr)) :
    wq_X10_law_s arl asr by_ ci ln at_ tk fl fa fp sl sk sv rr rsr nl p E Q := by
  refine u_X10_openText (M := 150) (by decide) (by omega) he (fun hu y y0 y1 y2 ey => ?_)
  obtain ⟨n, en⟩ : ∃ n : Nat, p.toInt = n := ⟨p.toInt.toNat, by have := hu.1; omega⟩
  have hn : n ≤ P := by have := hu.2.1; omega
  have hn5 : n ≤ 150 := by have := hu.2.2; omega
  rw [ey]
  refine cs_6 (n := n) (b := t) en hn5 (tB_le ht hn) 0 0 0 (-1) sk sv 0 0 ((0, 0, 0), []) _ ⟨⟨0, t_0, by omega, fun _ => rfl⟩, t_0, fun _ => t_m1, fun w => absurd rfl w⟩ ⟨⟨by decide, by decide⟩, fun _ => ⟨t_0, fun i hi => absurd hi (Nat.not_lt_zero i)⟩⟩ t_0 (fun _ => ⟨Nat.le_refl _, Nat.zero_le _⟩) (fun x1 x2 x3 x4 f5 f6 x7 c1 l1 => ?_)
  refine cs_needsEnd en (by omega) (tB_le ht hn) c1 (fun x8 x9 x10 c8 => ?_)
  have c8 : cS n t (lwAll n t).1 x8 x9 x10 := c8
  refine ⟨fun z => ⟨fun _ => ?_, fun c => absurd rfl c⟩, fun z => ⟨fun c => absurd c (by decide), fun _ => ?_⟩⟩
  · have h0 : (lwAll n t).1.1 = 0 := by rw [← c8.2.1, z, t_0]
    have h1 : (suN n t 6 ((0, 0, 0), [])).1.1 = 0 := (enS_fine h0).1
    exact hok hu n en h0 _ _ _ _ _ _ _ _ (c8.2.2.1 h0) ⟨l1.1, fun _ => l1.2 h1⟩
  · have h0 : (lwAll n t).1.1 ≠ 0 := fun w => z (cS_fa c8 w)
    exact hbad hu n en h0 _ _ _ _ _ _ _ _ c8.2.1 (c8.2.2.2 h0)
end TLv
section TLm
variable {f : Nat → Int32} {th tp fA sz a0 bd0 op nc bk0 cd p1 : Int32} {rf nC nO co oc : Nat → Int32}
    {Q : Int32 → Int32 → (Nat → Int32) → Int32 → Int32 → Int32 → Int32 → Int32 → Int32 → Int32 → Int32 → (Nat → Int32) → (Nat → Int32) → Int32 → (Nat → Int32) → (Nat → Int32) → Prop}
theorem v_X11_law {P : Nat} {t : Nat → Int} (hf : tp.toInt = P) (hP : P ≤ 600) (ht : tB P f t)
    (he : ¬ (0 ≤ p1.toInt ∧ p1.toInt ≤ P ∧ p1.toInt ≤ 150) → Q 0 1 (upd rf 1 (rf 1 + 1)) tp fA sz a0 bd0 op nc bk0 nC nO cd co oc)
    (hbad : 0 ≤ p1.toInt → p1.toInt ≤ P → p1.toInt ≤ 150 → ∀ n : Nat, p1.toInt = n → (lwAll n t).1.1 ≠ 0 → ∀ (at_ bd op nc bk : Int32) (nC nO : Nat → Int32), bd.toInt = (lwAll n t).1.2.1 → bk.toInt = (lwAll n t).1.1 → Q (bk - 10) 0 rf 0 bd p1 at_ bd op nc bk nC nO cd co oc)
    (hok : 0 ≤ p1.toInt → p1.toInt ≤ P → p1.toInt ≤ 150 → ∀ n : Nat, p1.toInt = n → (lwAll n t).1.1 = 0 → ∀ (at_ bd op nc bk : Int32) (nC nO c2 o2 : Nat → Int32), bd = -1 → mL ((0, 0, 0), (lwAll n t).2) c2 o2 nc → Q 1 0 rf 0 bd p1 at_ bd op nc bk nC nO nc c2 o2) :
    wq_X11_law_s f th rf tp fA sz a0 bd0 op nc bk0 nC nO cd co oc p1 Q := by
  have e1 : (1 : Int32).toNatClampNeg = 1 := by decide
  have bad : ¬ (0 ≤ p1.toInt ∧ p1.toInt ≤ P ∧ p1.toInt ≤ 150) → wb_X11_law_s_29 f Q 0 rf tp fA sz a0 bd0 op nc bk0 nC nO cd co oc p1 := fun w =>
    ⟨fun z => absurd rfl z, fun _ => ⟨fun z => absurd rfl z, fun _ => ⟨t_in (by decide) (by decide), fun x3 e3 x4 e4 => ⟨t_in (by decide) (by decide), fun f5 e5 => ⟨fun _ => ⟨fun z => absurd rfl z, fun _ => by rw [e5, e4, e3, e1]; exact he w⟩, fun z => absurd z (by first | decide | simp)⟩⟩⟩⟩⟩
  refine ⟨fun c => bad (by rw [t_lt, t_0] at c; omega), fun c => ⟨fun c2 => bad (by rw [t_lt] at c2; omega), fun c2 => ⟨fun c3 => bad (by rw [t_lt, t_150] at c3; omega), fun c3 => ?_⟩⟩⟩
  rw [t_lt, t_0] at c
  rw [t_lt] at c2
  rw [t_lt, t_150] at c3
  have p0 : 0 ≤ p1.toInt := by omega
  have pP : p1.toInt ≤ P := by omega
  have p5 : p1.toInt ≤ 150 := by omega
  obtain ⟨n, en⟩ : ∃ n : Nat, p1.toInt = n := ⟨p1.toInt.toNat, by omega⟩
  have hb := tB_le ht (show n ≤ P by omega)
  refine ⟨fun _ => ⟨fun z => absurd rfl z, fun _ => ⟨fun _ => ?_, fun z => absurd z (by first | decide | simp)⟩⟩, fun z => absurd z (by first | decide | simp)⟩
  refine ms_7 (n := n) (b := t) en (by omega) hb 0 (-1) bk0 0 nC nO 0 ((0, 0, 0), []) _ ⟨⟨0, t_0, by omega, fun _ => rfl⟩, fun _ => rfl, fun w => absurd rfl w⟩ (fun _ => ⟨t_0, fun i hi => absurd hi (Nat.not_lt_zero i)⟩) (fun _ => t_0) (fun _ => ⟨Nat.le_refl _, Nat.zero_le _⟩) (fun x14 x15 x16 x17 f18 f19 x20 c14 l14 o14 => ?_)
  have fin : ∀ (at_ bd bk : Int32), mS n t (lwAll n t).1 at_ bd bk → wb_X11_law_s_77 f Q 0 rf 0 (-1) p1 at_ bd x17 x20 bk f18 f19 cd co oc := fun at_ bd bk c => by
    unfold wb_X11_law_s_77 wq_X11_result
    refine ms_fine c (fun h0 => ⟨fun z => absurd z (by first | decide | simp), fun _ => ⟨fun zb => ?_, fun z => absurd (c.2.1 h0) z⟩⟩) (fun h0 => ⟨fun _ => ⟨fun z => absurd z (mS_nb c h0), fun _ => hbad p0 pP p5 n en h0 _ _ _ _ _ _ _ (c.2.2 h0).1 (c.2.2 h0).2⟩, fun z => absurd rfl z⟩)
    have h1 : (suN n t 6 ((0, 0, 0), [])).1.1 = 0 := (enS_fine h0).1
    obtain ⟨el, hi⟩ := l14 h1
    have hlen := (lw_one h0).2
    have hlen : (suN n t 6 ((0, 0, 0), [])).2.length ≤ n := hlen
    refine sf_X11_copies (by omega) (by omega) (fun t1 h1 => sf_X11_copies (by omega) (by omega) (fun t2 h2 => hok p0 pP p5 n en h0 _ _ _ _ _ _ _ _ _ zb (fun _ => ⟨el, fun i hh => ?_⟩)))
    have hh : i < (suN n t 6 ((0, 0, 0), [])).2.length := hh
    rw [h1 i, h2 i, if_pos (by omega), if_pos (by omega)]
    exact hi i hh
  by_cases h0 : (suN n t 6 ((0, 0, 0), [])).1.1 = 0
  · refine ms_fine c14 (fun _ => ⟨fun z => absurd z (by first | decide | simp), fun _ => ?_⟩) (fun d => absurd h0 d)
    refine ms_isMore2 en (by omega) hb c14 h0 (fun w x23 c23 ex => ⟨fun z => absurd z (by first | decide | simp), fun _ => ?_⟩) (fun w x23 c23 => ⟨fun _ => fin _ _ _ ?_, fun z => absurd rfl z⟩)
    · refine ms_wrong (s := sk n t (suN n t 6 ((0, 0, 0), [])).1.2.2) c23 (fun _ => ex) (by decide) (fun bd2 bk2 c => fin _ _ _ ?_)
      rw [fS_0 h0, t_1] at c
      show mS n t (enS n t _) _ _ _
      unfold enS; rw [if_neg (fun z => z h0), if_pos w]; exact c
    · show mS n t (enS n t _) _ _ _
      unfold enS; rw [if_neg (fun z => z h0), if_neg w]; exact c23
  · refine ms_fine c14 (fun d => absurd d h0) (fun _ => ⟨fun _ => fin _ _ _ ?_, fun z => absurd rfl z⟩)
    show mS n t (enS n t _) _ _ _
    unfold enS; rw [if_pos h0]; exact c14
end TLm
