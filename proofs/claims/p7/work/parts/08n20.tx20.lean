/-! the reference's sums, products, units of a law, by depth -/
def mL (x : lX) (cd oc : Nat → Int32) (ct : Int32) : Prop := x.1.1 = 0 → ct.toInt = (x.2.length : Nat) ∧ ∀ i : Nat, i < x.2.length → (cd i).toInt = (x.2.getD i (0, 0)).1 ∧ (oc i).toInt = (x.2.getD i (0, 0)).2
abbrev mR7 := Int32 → (Nat → Int32) → Int32 → Int32 → Int32 → Int32 → (Nat → Int32) → (Nat → Int32) → Int32 → lQ → Prop
/-- a reader of the reference does what g says -/
def MR (n : Nat) (b : Nat → Int) (len : Int32) (f : Nat → Int32) (o : Int) (g : lX → lX) (R : mR7) : Prop := ∀ (a bd bk op : Int32) (cd oc : Nat → Int32) (ct : Int32) (x : lX) (Q : lQ), mS n b x.1 a bd bk → mL x cd oc ct → (x.1.1 = 0 → op.toInt = o) → wfX n x → (∀ (a bd bk op : Int32) (cd oc : Nat → Int32) (ct : Int32), mS n b (g x).1 a bd bk → mL (g x) cd oc ct → ((g x).1.1 = 0 → op.toInt = o) → Q a bd bk op cd oc ct) → R len f a bd bk op cd oc ct Q
/-- behind a fault a reader of the reference does nothing -/
def MZ (n : Nat) (b : Nat → Int) (len : Int32) (f : Nat → Int32) (R : mR7) : Prop := ∀ (a bd bk op : Int32) (cd oc : Nat → Int32) (ct : Int32) (st : sT) (Q : lQ), mS n b st a bd bk → st.1 ≠ 0 → (∀ (a bd bk op : Int32) (cd oc : Nat → Int32) (ct : Int32), mS n b st a bd bk → Q a bd bk op cd oc ct) → R len f a bd bk op cd oc ct Q
theorem mL_st {x : lX} {st : sT} {cd oc : Nat → Int32} {ct : Int32} (h : mL x cd oc ct) (hs : st.1 = 0 → x.1.1 = 0) : mL (st, x.2) cd oc ct := fun z => h (hs z)
section TMl
variable {n : Nat} {b : Nat → Int} {len : Int32} {f : Nat → Int32}
theorem m_emit {Q : (Nat → Int32) → (Nat → Int32) → Int32 → Prop} {a bd bk ct p1 p2 : Int32} {cd oc : Nat → Int32} {x : lX} {k v : Int} (hm : mS n b x.1 a bd bk) (h : mL x cd oc ct) (hk : x.1.1 = 0 → p1.toInt = k ∧ p2.toInt = v ∧ x.2.length < 150) (hq : ∀ (cd oc : Nat → Int32) (ct : Int32), mL (eS k v x) cd oc ct → Q cd oc ct) : wq_X11_emit bd cd oc ct p1 p2 Q := by
  refine ms_fine hm (fun z => ⟨fun _ => ?_, fun d => absurd d (by first | decide | simp)⟩) (fun z => ⟨fun d => absurd rfl d, fun _ => hq _ _ _ (fun w => ?_)⟩)
  · obtain ⟨el, hi⟩ := h z
    obtain ⟨k1, k2, k3⟩ := hk z
    refine ⟨t_in (by omega) (by omega), fun f3 e3 => ⟨t_in (by omega) (by omega), fun f4 e4 x5 e5 => hq _ _ _ ?_⟩⟩
    rw [eS_0 z]
    refine fun _ => ⟨?_, fun i h9 => ?_⟩
    · show x5.toInt = ((x.2 ++ [(k, v)]).length : Nat)
      rw [List.length_append]
      show x5.toInt = ((x.2.length + 1 : Nat) : Int)
      rw [e5, t_inc (by omega), el]; omega
    · have h9 : i < (x.2 ++ [(k, v)]).length := h9
      rw [List.length_append] at h9
      have h9 : i < x.2.length + 1 := h9
      show (f3 i).toInt = ((x.2 ++ [(k, v)]).getD i (0, 0)).1 ∧ (f4 i).toInt = ((x.2 ++ [(k, v)]).getD i (0, 0)).2
      rw [e3, e4, t_clamp el]
      by_cases y : i = x.2.length
      · rw [y, pk_us, pk_us, gD_r]; exact ⟨k1, k2⟩
      · rw [pk_un y, pk_un y, gD_l (by omega)]; exact hi i (by omega)
  · rw [eS_bad z] at w; exact absurd w z
theorem m_open6 {Q : Int32 → Int32 → Int32 → Int32 → Prop} {a bd bk op j : Int32} {st : sT} {s : Nat} (hm : mS n b st a bd bk) (h0 : st.1 = 0) (ha : a.toInt = s) (ho : op.toInt = 6) (hq : ∀ bd2 bk2 op2 : Int32, mS n b (3, s, 0) a bd2 bk2 → Q bd2 bk2 a op2) : wq_X11_opensOne bd bk a op j Q := by
  refine ms_fine hm (fun _ => ⟨fun d => absurd d (by first | decide | simp), fun _ => ⟨fun d => absurd (by rw [t_eq, t_6]; exact ho) d, fun _ => ?_⟩⟩) (fun d => absurd h0 d)
  refine ms_wrong (s := s) hm (fun _ => ha) (by decide) (fun bd2 bk2 c => ?_)
  rw [fS_0 h0, t_3] at c
  exact ms_fine c (fun d => absurd d (by first | decide | simp)) (fun _ => ⟨fun _ x9 _ => hq bd2 bk2 x9 c, fun d => absurd rfl d⟩)
theorem m_openS {Q : Int32 → Int32 → Int32 → Int32 → Prop} {a bd bk op j : Int32} {st : sT} {s J : Nat} {o : Int} (hm : mS n b st a bd bk) (h0 : st.1 = 0) (ha : a.toInt = s) (hj : j.toInt = J) (hs : s + J ≤ 600) (ho : op.toInt = o) (h6 : 0 ≤ o ∧ o < 6) (hq : ∀ at2 op2 : Int32, mS n b (0, 0, s + J) at2 bd bk → op2.toInt = o + 1 → Q bd bk at2 op2) : wq_X11_opensOne bd bk a op j Q := by
  refine ms_fine hm (fun _ => ⟨fun d => absurd d (by first | decide | simp), fun _ => ⟨fun _ => ?_, fun d => absurd (by rw [d, t_6] at ho; omega : o = 6) (by omega)⟩⟩) (fun d => absurd h0 d)
  refine ms_fine hm (fun _ => ⟨fun d => absurd d (by first | decide | simp), fun _ x8 e8 x9 e9 => hq x8 x9 ?_ (by rw [e9, t_inc (by omega), ho])⟩) (fun d => absurd h0 d)
  exact ⟨aS_ex (s := s + J) (by rw [e8, t_add (by omega) (by omega), ha, hj]; omega) hs (fun _ => rfl), fun _ => hm.2.1 h0, fun d => absurd rfl d⟩
theorem y_least {Q : Int32 → Prop} (hq : ∀ r : Int32, r.toInt = 12748404 → Q r) : wq_X11_of_s 5 zb_X11_278 Q := y_of (by decide) (by decide) (by decide) hq
theorem y_most {Q : Int32 → Prop} (hq : ∀ r : Int32, r.toInt = 441972 → Q r) : wq_X11_of_s 4 zb_X11_283 Q := y_of (by decide) (by decide) (by decide) hq
theorem y_strong {Q : Int32 → Prop} (hq : ∀ r : Int32, r.toInt = 659111367 → Q r) : wq_X11_of_s 6 zb_X11_264 Q := y_of (by decide) (by decide) (by decide) hq
theorem y_still {Q : Int32 → Prop} (hq : ∀ r : Int32, r.toInt = 20587916 → Q r) : wq_X11_of_s 5 zb_X11_266 Q := y_of (by decide) (by decide) (by decide) hq
theorem y_owes {Q : Int32 → Prop} (hq : ∀ r : Int32, r.toInt = 515251 → Q r) : wq_X11_of_s 4 zb_X11_268 Q := y_of (by decide) (by decide) (by decide) hq
theorem y_owed {Q : Int32 → Prop} (hq : ∀ r : Int32, r.toInt = 515236 → Q r) : wq_X11_of_s 4 zb_X11_270 Q := y_of (by decide) (by decide) (by decide) hq
theorem y_others {Q : Int32 → Prop} (hq : ∀ r : Int32, r.toInt = 524555859 → Q r) : wq_X11_of_s 6 zb_X11_272 Q := y_of (by decide) (by decide) (by decide) hq
theorem y_day {Q : Int32 → Prop} (hq : ∀ r : Int32, r.toInt = 4153 → Q r) : wq_X11_of_s 3 zb_X11_274 Q := y_of (by decide) (by decide) (by decide) hq
theorem y_leaps {Q : Int32 → Prop} (hq : ∀ r : Int32, r.toInt = 12748307 → Q r) : wq_X11_of_s 5 zb_X11_276 Q := y_of (by decide) (by decide) (by decide) hq
theorem m_fact {Q : Int32 → Int32 → Prop} {a bd bk : Int32} {st : sT} (hl : len.toInt = n) (hn : n ≤ 600) (hb : tB n f b) (hm : mS n b st a bd bk) (h0 : st.1 = 0) (hq : ∀ r x : Int32, mS n b st x bd bk → x.toInt = (sk n b st.2.2 : Nat) → r.toInt = fW (pw n b (sk n b st.2.2)) → Q r x) : wq_X11_factHere_s len f a Q := by
  refine ms_word hl hn hb hm h0 (fun r x c ex er => ?_)
  rw [← er] at hq
  refine y_strong (fun r4 e4 => ⟨fun z4 => ?_, fun z => hq 0 x c ex (by rw [z, e4]; decide)⟩)
  refine y_still (fun r7 e7 => ⟨fun z7 => ?_, fun z => hq 1 x c ex (by rw [z, e7]; decide)⟩)
  refine y_owes (fun r10 e10 => ⟨fun z10 => ?_, fun z => hq 2 x c ex (by rw [z, e10]; decide)⟩)
  refine y_owed (fun r13 e13 => ⟨fun z13 => ?_, fun z => hq 3 x c ex (by rw [z, e13]; decide)⟩)
  refine y_others (fun r16 e16 => ⟨fun z16 => ?_, fun z => hq 4 x c ex (by rw [z, e16]; decide)⟩)
  refine y_day (fun r19 e19 => ⟨fun z19 => ?_, fun z => hq 5 x c ex (by rw [z, e19]; decide)⟩)
  refine y_hare (fun r22 e22 => ⟨fun z22 => ?_, fun z => hq 6 x c ex (by rw [z, e22]; decide)⟩)
  refine y_leaps (fun r25 e25 => ⟨fun z25 => hq (-1) x c ex ?_, fun z => hq 7 x c ex (by rw [z, e25]; decide)⟩)
  rw [t_eq] at z4 z7 z10 z13 z16 z19 z22 z25
  unfold fW
  rw [if_neg (by omega), if_neg (by omega), if_neg (by omega), if_neg (by omega), if_neg (by omega), if_neg (by omega), if_neg (by omega), if_neg (by omega)]
  exact t_m1
/-- readTwo behind too many -/
theorem mp_0 {RS : mR7} (hl : len.toInt = n) (hn : n ≤ 150) (hb : tB n f b) (hR : MZ n b len f RS) {a bd bk op ct p1 p2 : Int32} {cd oc : Nat → Int32} {st : sT} {s : Nat} {Q : Int32 → Int32 → Int32 → Int32 → (Nat → Int32) → (Nat → Int32) → Int32 → Prop} (hm : mS n b st a bd bk) (h0 : st.1 = 0) (ha : a.toInt = s) (ho : op.toInt = 6)
    (hq : ∀ (a bd bk op : Int32) (cd oc : Nat → Int32) (ct : Int32), mS n b (3, s, 0) a bd bk → Q bd bk a op cd oc ct) : wq_X11_readTwo_s_g RS len f bd bk a op cd oc ct p1 p2 Q := by
  have hn6 : n ≤ 600 := by omega
  refine m_open6 hm h0 ha ho (fun bd2 bk2 op2 c => ms_sign hl hn6 hb c (by decide) (fun x5 x6 x7 c5 => ?_))
  rw [gS_bad (show ¬ (3 : Int) = 0 by decide)] at c5
  refine hR _ _ _ _ _ _ _ _ _ c5 (show ¬ (3 : Int) = 0 by decide) (fun x8 x9 x10 x11 f12 f13 x14 c8 => ms_sign hl hn6 hb c8 (by decide) (fun x15 x16 x17 c15 => ?_))
  rw [gS_bad (show ¬ (3 : Int) = 0 by decide)] at c15
  refine hR _ _ _ _ _ _ _ _ _ c15 (show ¬ (3 : Int) = 0 by decide) (fun x18 x19 x20 x21 f22 f23 x24 c18 => ms_sign hl hn6 hb c18 (by decide) (fun x25 x26 x27 c25 x28 _ => ?_))
  rw [gS_bad (show ¬ (3 : Int) = 0 by decide)] at c25
  exact ms_fine c25 (fun d => absurd d (by first | decide | simp)) (fun _ => ⟨fun d => absurd rfl d, fun _ => hq _ _ _ _ _ _ _ c25⟩)
theorem mp_g {RS : mR7} {g : lX → lX} {o : Int} (hl : len.toInt = n) (hn : n ≤ 150) (hb : tB n f b) (h6 : 0 ≤ o ∧ o < 6) (hg : gdR n g) (hR : MR n b len f (o + 1) g RS) {a bd bk op ct p1 p2 : Int32} {cd oc : Nat → Int32} {x : lX} {s J : Nat} {k : Int} {Q : Int32 → Int32 → Int32 → Int32 → (Nat → Int32) → (Nat → Int32) → Int32 → Prop} {st : sT} (hm : mS n b st a bd bk) (h0 : st.1 = 0) (ha : a.toInt = s) (hj : p1.toInt = J) (ho : op.toInt = o) (hx : x.1 = (0, 0, s + J)) (hs : s + J ≤ 600) (hL : mL x cd oc ct) (hw : wfX n x) (hk : p2.toInt = k)
    (hq : ∀ (a bd bk op : Int32) (cd oc : Nat → Int32) (ct : Int32), mS n b (prG n b (some g) k s x).1 a bd bk → mL (prG n b (some g) k s x) cd oc ct → ((prG n b (some g) k s x).1.1 = 0 → op.toInt = o) → Q bd bk a op cd oc ct) : wq_X11_readTwo_s_g RS len f bd bk a op cd oc ct p1 p2 Q := by
  have hn6 : n ≤ 600 := by omega
  obtain ⟨y1, e1⟩ : ∃ y : lX, y = g (gS n b 91 x.1, x.2) := ⟨_, rfl⟩
  obtain ⟨y3, e3⟩ : ∃ y : lX, y = g (gS n b 44 y1.1, y1.2) := ⟨_, rfl⟩
  have er : prG n b (some g) k s x = eS k 0 (gS n b 93 y3.1, y3.2) := by rw [e3, e1]; rfl
  rw [er] at hq
  have w0 : wfX n (gS n b 91 x.1, x.2) := wf_gS (by decide) hw
  have w1 : wfX n y1 := by rw [e1]; exact wf_gd hg w0
  have w2 : wfX n (gS n b 44 y1.1, y1.2) := wf_gS (by decide) w1
  have w3 : wfX n y3 := by rw [e3]; exact wf_gd hg w2
  refine m_openS hm h0 ha hj hs ho h6 (fun at2 op2 c eo => ?_)
  rw [← hx] at c
  refine ms_sign hl hn6 hb c (by decide) (fun x5 x6 x7 c5 => ?_)
  rw [t_91] at c5
  refine hR _ _ _ _ _ _ _ (gS n b 91 x.1, x.2) _ c5 (mL_st hL gS_fine) (fun _ => eo) w0 (fun x8 x9 x10 x11 f12 f13 x14 c8 l8 o8 => ?_)
  rw [← e1] at c8 l8 o8
  refine ms_sign hl hn6 hb c8 (by decide) (fun x15 x16 x17 c15 => ?_)
  rw [t_44] at c15
  refine hR _ _ _ _ _ _ _ (gS n b 44 y1.1, y1.2) _ c15 (mL_st l8 gS_fine) (fun z => o8 (gS_fine z)) w2 (fun x18 x19 x20 x21 f22 f23 x24 c18 l18 o18 => ?_)
  rw [← e3] at c18 l18 o18
  refine ms_sign hl hn6 hb c18 (by decide) (fun x25 x26 x27 c25 x28 e28 => ?_)
  rw [t_93] at c25
  refine m_emit (x := (gS n b 93 y3.1, y3.2)) (k := k) (v := 0) c25 (mL_st l18 gS_fine) (fun z => ⟨hk, t_0, ?_⟩) (fun cd2 oc2 ct2 h2 => hq _ _ _ _ _ _ _ (by rw [eS_st]; exact c25) h2 (fun z => ?_))
  · have h3 := gS_fine z
    have a3 := gS_go (n := n) (b := b) (c := 93) (by decide) h3 z
    have w9 := w3 h3
    show y3.2.length < 150
    omega
  · rw [eS_st] at z
    have h3 : y3.1.1 = 0 := gS_fine z
    rw [e28, t_pred (by rw [o18 h3]; omega), o18 h3]; omega
theorem mu_g {RS : mR7} {g : lX → lX} {o : Int} (hl : len.toInt = n) (hn : n ≤ 150) (hb : tB n f b) (h6 : 0 ≤ o ∧ o < 6) (hg : gdR n g) (hR : MR n b len f (o + 1) g RS) : MR n b len f o (unG n b (some g)) (wq_X11_readUnit_s_g RS) := by
  intro a bd bk op cd oc ct x Q hm hL ho hw hq
  have hn6 : n ≤ 600 := by omega
  refine ms_fine hm (fun h0 => ⟨fun _ => ?_, fun d => absurd d (by first | decide | simp)⟩) (fun h0 => ⟨fun d => absurd rfl d, fun _ => ?_⟩)
  rotate_left
  · rw [unG_bad h0] at hq
    exact hq _ _ _ _ _ _ _ hm hL ho
  have hsk := (sk_facts (n := n) (b := b) _ x.1.2.2 rfl).1
  have ho := ho h0
  refine ms_here hl hn6 hb hm (fun r4 x3 c3 v3 => ⟨fun z4 => ?_, fun z4 => ?_⟩)
  · obtain ⟨ex3, g3⟩ := v3 h0
    have w1 : at0 n b (sk n b x.1.2.2) ≠ 40 := fun e => z4 (by rw [t_eq, t_40]; unfold cR at g3; omega)
    refine ms_here hl hn6 hb c3 (fun r7 x6 c6 v6 => y_isDigit (v6 h0).2 (fun y => ⟨fun d => absurd d (by first | decide | simp), fun _ => ?_⟩) (fun y => ⟨fun _ => ?_, fun d => absurd rfl d⟩))
    · rw [unG_d (fun _ => y)] at hq
      refine ms_number hl hn6 hb c6 (by decide) (by decide) (fun r x39 x40 x41 c1 v1 => ?_)
      rw [t_0, t_999] at c1 v1
      refine m_emit (x := (nS n b 0 999 x.1, x.2)) (k := 0) (v := nV n b x.1) c1 (mL_st hL (fun z => (nS_fine z).1)) (fun z => ⟨t_0, v1 z, ?_⟩) (fun cd2 oc2 ct2 h2 => hq _ _ _ _ _ _ _ (by rw [eS_st]; exact c1) h2 (fun _ => ho))
      have a1 := nS_go (n := n) (b := b) h0 z
      have w := hw h0
      show x.2.length < 150
      omega
    · refine ms_word hl hn6 hb c6 h0 (fun r11 x10 c10 e10 er => y_least (fun r13 e13 => ⟨fun z13 => ?_, fun z13 => ?_⟩))
      · have w2 : pw n b (sk n b x.1.2.2) ≠ 12748404 := fun e => z13 (by rw [t_eq, er, e13]; exact e)
        refine ms_word hl hn6 hb c10 h0 (fun r16 x15 c15 e15 er2 => y_most (fun r18 e18 => ⟨fun z18 => ?_, fun z18 => ?_⟩))
        · have w3 : pw n b (sk n b x.1.2.2) ≠ 441972 := fun e => z18 (by rw [t_eq, er2, e18]; exact e)
          rw [unG_f h0 y w1 w2 w3] at hq
          refine m_fact hl hn6 hb c15 h0 (fun r21 x20 c20 e20 e21 => ⟨fun z => ?_, fun z => ?_⟩)
          · have hf : fW (pw n b (sk n b x.1.2.2)) ≠ -1 := fun e => z (by rw [t_eq, t_m1, e21]; exact e)
            rw [if_neg hf] at hq
            refine ms_fine c20 (fun _ => ⟨fun _ => ms_pass hl hn6 hb c20 h0 e20 (fun x63 c63 => ?_), fun d => absurd d (by first | decide | simp)⟩) (fun d => absurd h0 d)
            have g := wE_go (n := n) (b := b) (st := x.1) (fW_pos hf).1
            refine m_emit (x := (wE n b x.1, x.2)) (k := 1) (v := fW (pw n b (sk n b x.1.2.2))) c63 (mL_st hL (fun _ => h0)) (fun _ => ⟨t_1, e21, ?_⟩) (fun cd2 oc2 ct2 h2 => hq _ _ _ _ _ _ _ (by rw [eS_st]; exact c63) h2 (fun _ => ho))
            have w := hw h0
            show x.2.length < 150
            omega
          · have hf : fW (pw n b (sk n b x.1.2.2)) = -1 := by rw [← e21, z, t_m1]
            rw [if_pos hf] at hq
            refine ms_wrong (s := sk n b x.1.2.2) c20 (fun _ => e20) (by decide) (fun bd2 bk2 c => ?_)
            rw [fS_0 h0, t_1] at c
            exact ms_fine c (fun d => absurd d (by first | decide | simp)) (fun _ => ⟨fun d => absurd rfl d, fun _ => hq _ _ _ _ _ _ _ c (fun d => absurd d (by first | decide | simp)) (fun d => absurd d (by first | decide | simp))⟩)
        · have w3 : pw n b (sk n b x.1.2.2) = 441972 := by rw [← er2, z18]; exact e18
          rw [unG_m h0 y w1 w3] at hq
          have hs : sk n b x.1.2.2 ≤ 600 := by have := hw h0; have := sk_le (n := n) (b := b) (a := x.1.2.2) (by omega) hn6; omega
          have hE : lE n b (sk n b x.1.2.2) = sk n b x.1.2.2 + 4 := ((wl_most (n := n) (b := b)).2 _ hs).2 (((wl_most (n := n) (b := b)).2 _ hs).1.mp w3)
          have g := wE_go (n := n) (b := b) (st := x.1) (by rw [w3]; decide)
          have ew : (wE n b x.1).2.2 = sk n b x.1.2.2 + 4 := hE
          exact mp_g hl hn hb h6 hg hR (x := (wE n b x.1, x.2)) (J := 4) c15 h0 e15 (by decide) ho (by show wE n b x.1 = _; unfold wE; rw [hE]) (by omega) (mL_st hL (fun _ => h0)) (fun _ => ⟨by show x.2.length ≤ (wE n b x.1).2.2; have := hw h0; omega, g.2⟩) (by decide) (fun a2 bd2 bk2 op2 cd2 oc2 ct2 c2 l2 o2 => hq _ _ _ _ _ _ _ c2 l2 o2)
      · have w2 : pw n b (sk n b x.1.2.2) = 12748404 := by rw [← er, z13]; exact e13
        rw [unG_l h0 y w1 w2] at hq
        have hs : sk n b x.1.2.2 ≤ 600 := by have := hw h0; have := sk_le (n := n) (b := b) (a := x.1.2.2) (by omega) hn6; omega
        have hE : lE n b (sk n b x.1.2.2) = sk n b x.1.2.2 + 5 := ((wl_least (n := n) (b := b)).2 _ hs).2 (((wl_least (n := n) (b := b)).2 _ hs).1.mp w2)
        have g := wE_go (n := n) (b := b) (st := x.1) (by rw [w2]; decide)
        have ew : (wE n b x.1).2.2 = sk n b x.1.2.2 + 5 := hE
        exact mp_g hl hn hb h6 hg hR (x := (wE n b x.1, x.2)) (J := 5) c10 h0 e10 (by decide) ho (by show wE n b x.1 = _; unfold wE; rw [hE]) (by omega) (mL_st hL (fun _ => h0)) (fun _ => ⟨by show x.2.length ≤ (wE n b x.1).2.2; have := hw h0; omega, g.2⟩) (by decide) (fun a2 bd2 bk2 op2 cd2 oc2 ct2 c2 l2 o2 => hq _ _ _ _ _ _ _ c2 l2 o2)
  · obtain ⟨ex3, g3⟩ := v3 h0
    have w1 : at0 n b (sk n b x.1.2.2) = 40 := by rw [z4] at g3; unfold cR at g3; rw [t_40] at g3; omega
    have w0 : ¬ isD (at0 n b (sk n b x.1.2.2)) := by rw [w1]; omega
    rw [unG_o h0 w0 w1] at hq
    have hlt := at0_lt w1 (by decide)
    refine m_openS (J := 1) c3 h0 ex3 t_1 (by omega) ho h6 (fun at2 op2 c eo => ?_)
    refine hR _ _ _ _ _ _ _ ((0, 0, sk n b x.1.2.2 + 1), x.2) _ c (mL_st hL (fun _ => h0)) (fun _ => eo) (fun _ => ⟨by show x.2.length ≤ sk n b x.1.2.2 + 1; have := hw h0; omega, by show sk n b x.1.2.2 + 1 ≤ n; omega⟩) (fun x50 x51 x52 x53 f54 f55 x56 c50 l50 o50 => ?_)
    refine ms_sign hl hn6 hb c50 (by decide) (fun x57 x58 x59 c57 x60 e60 => ?_)
    rw [t_41] at c57
    refine hq _ _ _ _ _ _ _ c57 (mL_st l50 gS_fine) (fun z => ?_)
    have h3 := gS_fine z
    rw [e60, t_pred (by rw [o50 h3]; omega), o50 h3]; omega
theorem mu_0 {RS : mR7} (hl : len.toInt = n) (hn : n ≤ 150) (hb : tB n f b) (hR : MZ n b len f RS) : MR n b len f 6 (unG n b none) (wq_X11_readUnit_s_g RS) := by
  intro a bd bk op cd oc ct x Q hm hL ho hw hq
  have hn6 : n ≤ 600 := by omega
  refine ms_fine hm (fun h0 => ⟨fun _ => ?_, fun d => absurd d (by first | decide | simp)⟩) (fun h0 => ⟨fun d => absurd rfl d, fun _ => ?_⟩)
  rotate_left
  · rw [unG_bad h0] at hq
    exact hq _ _ _ _ _ _ _ hm hL ho
  have hsk := (sk_facts (n := n) (b := b) _ x.1.2.2 rfl).1
  have ho := ho h0
  refine ms_here hl hn6 hb hm (fun r4 x3 c3 v3 => ⟨fun z4 => ?_, fun z4 => ?_⟩)
  · obtain ⟨ex3, g3⟩ := v3 h0
    have w1 : at0 n b (sk n b x.1.2.2) ≠ 40 := fun e => z4 (by rw [t_eq, t_40]; unfold cR at g3; omega)
    refine ms_here hl hn6 hb c3 (fun r7 x6 c6 v6 => y_isDigit (v6 h0).2 (fun y => ⟨fun d => absurd d (by first | decide | simp), fun _ => ?_⟩) (fun y => ⟨fun _ => ?_, fun d => absurd rfl d⟩))
    · rw [unG_d (fun _ => y)] at hq
      refine ms_number hl hn6 hb c6 (by decide) (by decide) (fun r x39 x40 x41 c1 v1 => ?_)
      rw [t_0, t_999] at c1 v1
      refine m_emit (x := (nS n b 0 999 x.1, x.2)) (k := 0) (v := nV n b x.1) c1 (mL_st hL (fun z => (nS_fine z).1)) (fun z => ⟨t_0, v1 z, ?_⟩) (fun cd2 oc2 ct2 h2 => hq _ _ _ _ _ _ _ (by rw [eS_st]; exact c1) h2 (fun _ => ho))
      have a1 := nS_go (n := n) (b := b) h0 z
      have w := hw h0
      show x.2.length < 150
      omega
    · refine ms_word hl hn6 hb c6 h0 (fun r11 x10 c10 e10 er => y_least (fun r13 e13 => ⟨fun z13 => ?_, fun z13 => ?_⟩))
      · have w2 : pw n b (sk n b x.1.2.2) ≠ 12748404 := fun e => z13 (by rw [t_eq, er, e13]; exact e)
        refine ms_word hl hn6 hb c10 h0 (fun r16 x15 c15 e15 er2 => y_most (fun r18 e18 => ⟨fun z18 => ?_, fun z18 => ?_⟩))
        · have w3 : pw n b (sk n b x.1.2.2) ≠ 441972 := fun e => z18 (by rw [t_eq, er2, e18]; exact e)
          rw [unG_f h0 y w1 w2 w3] at hq
          refine m_fact hl hn6 hb c15 h0 (fun r21 x20 c20 e20 e21 => ⟨fun z => ?_, fun z => ?_⟩)
          · have hf : fW (pw n b (sk n b x.1.2.2)) ≠ -1 := fun e => z (by rw [t_eq, t_m1, e21]; exact e)
            rw [if_neg hf] at hq
            refine ms_fine c20 (fun _ => ⟨fun _ => ms_pass hl hn6 hb c20 h0 e20 (fun x63 c63 => ?_), fun d => absurd d (by first | decide | simp)⟩) (fun d => absurd h0 d)
            have g := wE_go (n := n) (b := b) (st := x.1) (fW_pos hf).1
            refine m_emit (x := (wE n b x.1, x.2)) (k := 1) (v := fW (pw n b (sk n b x.1.2.2))) c63 (mL_st hL (fun _ => h0)) (fun _ => ⟨t_1, e21, ?_⟩) (fun cd2 oc2 ct2 h2 => hq _ _ _ _ _ _ _ (by rw [eS_st]; exact c63) h2 (fun _ => ho))
            have w := hw h0
            show x.2.length < 150
            omega
          · have hf : fW (pw n b (sk n b x.1.2.2)) = -1 := by rw [← e21, z, t_m1]
            rw [if_pos hf] at hq
            refine ms_wrong (s := sk n b x.1.2.2) c20 (fun _ => e20) (by decide) (fun bd2 bk2 c => ?_)
            rw [fS_0 h0, t_1] at c
            exact ms_fine c (fun d => absurd d (by first | decide | simp)) (fun _ => ⟨fun d => absurd rfl d, fun _ => hq _ _ _ _ _ _ _ c (fun d => absurd d (by first | decide | simp)) (fun d => absurd d (by first | decide | simp))⟩)
        · have w3 : pw n b (sk n b x.1.2.2) = 441972 := by rw [← er2, z18]; exact e18
          rw [unG_m h0 y w1 w3] at hq
          exact mp_0 hl hn hb hR c15 h0 e15 ho (fun a2 bd2 bk2 op2 cd2 oc2 ct2 c2 => hq _ _ _ _ _ _ _ c2 (fun d => absurd d (show ¬ (3 : Int) = 0 by decide)) (fun d => absurd d (show ¬ (3 : Int) = 0 by decide)))
      · have w2 : pw n b (sk n b x.1.2.2) = 12748404 := by rw [← er, z13]; exact e13
        rw [unG_l h0 y w1 w2] at hq
        exact mp_0 hl hn hb hR c10 h0 e10 ho (fun a2 bd2 bk2 op2 cd2 oc2 ct2 c2 => hq _ _ _ _ _ _ _ c2 (fun d => absurd d (show ¬ (3 : Int) = 0 by decide)) (fun d => absurd d (show ¬ (3 : Int) = 0 by decide)))
  · obtain ⟨ex3, g3⟩ := v3 h0
    have w1 : at0 n b (sk n b x.1.2.2) = 40 := by rw [z4] at g3; unfold cR at g3; rw [t_40] at g3; omega
    have w0 : ¬ isD (at0 n b (sk n b x.1.2.2)) := by rw [w1]; omega
    rw [unG_o h0 w0 w1] at hq
    refine m_open6 c3 h0 ex3 ho (fun bd2 bk2 op2 c => ?_)
    refine hR _ _ _ _ _ _ _ _ _ c (show ¬ (3 : Int) = 0 by decide) (fun x50 x51 x52 x53 f54 f55 x56 c50 => ms_sign hl hn6 hb c50 (by decide) (fun x57 x58 x59 c57 x60 _ => ?_))
    rw [gS_bad (show ¬ (3 : Int) = 0 by decide)] at c57
    exact hq _ _ _ _ _ _ _ c57 (fun d => absurd d (show ¬ (3 : Int) = 0 by decide)) (fun d => absurd d (show ¬ (3 : Int) = 0 by decide))
theorem mlp {RS : mR7} {u : lX → lX} {o : Int} (hl : len.toInt = n) (hn : n ≤ 150) (hb : tB n f b) (hu : gdR n u) (hU : MR n b len f o u (wq_X11_readUnit_s_g RS)) {Q : lQ} {R : lX} (hq : ∀ (a bd bk op : Int32) (cd oc : Nat → Int32) (ct : Int32), mS n b R.1 a bd bk → mL R cd oc ct → (R.1.1 = 0 → op.toInt = o) → Q a bd bk op cd oc ct) :
    ∀ (k : Nat) (a bd bk op : Int32) (cd oc : Nat → Int32) (ct : Int32) (i : Nat) (x : lX), mS n b x.1 a bd bk → mL x cd oc ct → (x.1.1 = 0 → op.toInt = o) → wfX n x → (x.1.1 = 0 → n ≤ x.1.2.2 + i) → i < k → lpG n b oP u i x = R → wl_X11_readProduct_s_g_4 RS len f Q k a bd bk op cd oc ct := by
  have hn6 : n ≤ 600 := by omega
  intro k
  induction k with
  | zero => intro a bd bk op cd oc ct i x hm hL ho hw h1 h2; omega
  | succ k ih =>
    intro a bd bk op cd oc ct i x hm hL ho hw h1 h2 hR
    refine ms_fine hm (fun h0 => ⟨fun d => absurd d (by first | decide | simp), fun _ => ?_⟩) (fun h0 => ⟨fun _ => ?_, fun d => absurd rfl d⟩)
    · have hsk := (sk_facts (n := n) (b := b) _ x.1.2.2 rfl).1
      have h1 := h1 h0
      have stop : oP (at0 n b (sk n b x.1.2.2)) = -1 → x = R := fun e => by
        cases i with
        | zero => exact hR
        | succ i =>
          unfold lpG at hR
          rw [if_pos (Or.inr e)] at hR
          exact hR
      have go : ∀ (s0 : Int32) (w : Int) (y : Int32), oP (at0 n b (sk n b x.1.2.2)) = w → w ≠ -1 → s0.toInt = w → y.toInt = (sk n b x.1.2.2 : Nat) → ∀ (bd2 bk2 op2 : Int32), mS n b x.1 y bd2 bk2 → op2.toInt = o → wb_X11_readProduct_s_g_66 RS len f Q (fun v0_at v0_bad v0_badKind v0_opens f0_newCode f0_newOf v0_newCodes => wl_X11_readProduct_s_g_4 RS len f Q k v0_at v0_bad v0_badKind v0_opens f0_newCode f0_newOf v0_newCodes) y bd2 bk2 op2 cd oc ct s0 := fun s0 w y ew hw9 es ey bd2 bk2 op2 cy eo x25 e25 => by
        have hlt : sk n b x.1.2.2 < n := by
          by_cases g : sk n b x.1.2.2 < n
          · exact g
          · rw [at0_out g] at ew; exact absurd ew.symm hw9
        have w2 : wfX n ((0, 0, sk n b x.1.2.2 + 1), x.2) := fun _ => ⟨by show x.2.length ≤ sk n b x.1.2.2 + 1; have := hw h0; omega, by show sk n b x.1.2.2 + 1 ≤ n; omega⟩
        have w3 := wf_gd hu w2
        have hi : ∃ j : Nat, i = j + 1 := ⟨i - 1, by omega⟩
        obtain ⟨j, ej⟩ := hi
        rw [ej] at hR
        unfold lpG at hR
        rw [if_neg (fun d => d.elim (fun g => g h0) (fun g => hw9 (by rw [← ew]; exact g))), ew] at hR
        have cz : mS n b (0, 0, sk n b x.1.2.2 + 1) x25 bd2 bk2 := ⟨aS_ex (s := sk n b x.1.2.2 + 1) (by rw [e25, t_inc (by omega), ey]; omega) (by omega) (fun _ => rfl), fun _ => cy.2.1 h0, fun d => absurd rfl d⟩
        have a1 := (hu ((0, 0, sk n b x.1.2.2 + 1), x.2)).2 rfl (by show sk n b x.1.2.2 + 1 ≤ n; omega)
        refine hU _ _ _ _ _ _ _ ((0, 0, sk n b x.1.2.2 + 1), x.2) _ cz (mL_st hL (fun _ => h0)) (fun _ => eo) w2 (fun x26 x27 x28 x29 f30 f31 x32 c26 l26 o26 => ?_)
        refine m_emit (k := w) (v := 0) c26 l26 (fun g => ⟨es, t_0, ?_⟩) (fun cd2 oc2 ct2 h5 => ?_)
        · have a2 := a1 g
          have a3 := w3 g
          simp only at a2
          have w4 := hw h0
          omega
        · refine ih _ _ _ _ _ _ _ j _ (by rw [eS_st]; exact c26) h5 (by rw [eS_st]; exact o26) (fun g => ?_) (fun g => ?_) (by omega) hR
          · rw [eS_st] at g ⊢
            have a2 := a1 g
            rw [eS_len g]
            simp only at a2
            have w4 := hw h0
            omega
          · rw [eS_st] at g ⊢
            have a2 := a1 g
            simp only at a2
            omega
      have again : ∀ (y bd2 bk2 op2 : Int32), mS n b x.1 y bd2 bk2 → op2.toInt = o → oP (at0 n b (sk n b x.1.2.2)) ≠ -1 → wb_X11_readProduct_s_g_38 RS len f Q (fun v0_at v0_bad v0_badKind v0_opens f0_newCode f0_newOf v0_newCodes => wl_X11_readProduct_s_g_4 RS len f Q k v0_at v0_bad v0_badKind v0_opens f0_newCode f0_newOf v0_newCodes) y bd2 bk2 op2 cd oc ct := fun y bd2 bk2 op2 cy eo hne => by
        refine ms_here hl hn6 hb cy (fun r20 x19 c19 v19 => ⟨fun z => ?_, fun z => ?_⟩)
        · have e1 : at0 n b (sk n b x.1.2.2) ≠ 42 := (fun e => z (by rw [t_eq, t_42]; have g := (v19 h0).2; unfold cR at g; omega))
          refine ms_here hl hn6 hb c19 (fun r23 x22 c22 v22 => ⟨fun z2 => ?_, fun z2 => ?_⟩)
          · have e2 : at0 n b (sk n b x.1.2.2) ≠ 47 := (fun e => z2 (by rw [t_eq, t_47]; have g := (v22 h0).2; unfold cR at g; omega))
            have e3 : at0 n b (sk n b x.1.2.2) = 37 := by
              by_cases e : at0 n b (sk n b x.1.2.2) = 37
              · exact e
              · exact absurd (by unfold oP; rw [if_neg e1, if_neg e2, if_neg e]) hne
            exact go 8 8 x22 (by rw [e3]; rfl) (by decide) (by decide) (v22 h0).1 bd2 bk2 op2 c22 eo
          · have e2 : at0 n b (sk n b x.1.2.2) = 47 := (by have g := (v22 h0).2; rw [z2] at g; unfold cR at g; rw [t_47] at g; omega)
            exact go 5 5 x22 (by rw [e2]; rfl) (by decide) (by decide) (v22 h0).1 bd2 bk2 op2 c22 eo
        · have e1 : at0 n b (sk n b x.1.2.2) = 42 := (by have g := (v19 h0).2; rw [z] at g; unfold cR at g; rw [t_42] at g; omega)
          exact go 4 4 x19 (by rw [e1]; rfl) (by decide) (by decide) (v19 h0).1 bd2 bk2 op2 c19 eo
      refine ms_here hl hn6 hb hm (fun r11 x10 c10 v10 => ⟨fun z => again _ _ _ _ c10 (ho h0) ?_, fun z => ?_⟩)
      · have e1 : at0 n b (sk n b x.1.2.2) = 42 := (by have g := (v10 h0).2; rw [z] at g; unfold cR at g; rw [t_42] at g; omega)
        rw [e1]; decide
      have e1 : at0 n b (sk n b x.1.2.2) ≠ 42 := (fun e => z (by rw [t_eq, t_42]; have g := (v10 h0).2; unfold cR at g; omega))
      refine ms_here hl hn6 hb c10 (fun r14 x13 c13 v13 => ⟨fun z2 => again _ _ _ _ c13 (ho h0) ?_, fun z2 => ?_⟩)
      · have e2 : at0 n b (sk n b x.1.2.2) = 47 := (by have g := (v13 h0).2; rw [z2] at g; unfold cR at g; rw [t_47] at g; omega)
        rw [e2]; decide
      have e2 : at0 n b (sk n b x.1.2.2) ≠ 47 := (fun e => z2 (by rw [t_eq, t_47]; have g := (v13 h0).2; unfold cR at g; omega))
      refine ms_here hl hn6 hb c13 (fun r17 x16 c16 v16 => ⟨fun z3 => ?_, fun z3 => again _ _ _ _ c16 (ho h0) ?_⟩)
      · have e3 : at0 n b (sk n b x.1.2.2) ≠ 37 := (fun e => z3 (by rw [t_eq, t_37]; have g := (v16 h0).2; unfold cR at g; omega))
        have e := stop (by unfold oP; rw [if_neg e1, if_neg e2, if_neg e3])
        rw [e] at c16 hL ho
        exact hq _ _ _ _ _ _ _ c16 hL ho
      · have e3 : at0 n b (sk n b x.1.2.2) = 37 := (by have g := (v16 h0).2; rw [z3] at g; unfold cR at g; rw [t_37] at g; omega)
        rw [e3]; decide
    · rw [(gd_lp hu rfl _ x).1 h0] at hR
      rw [hR] at hm hL ho
      exact hq _ _ _ _ _ _ _ hm hL ho
theorem mls {RS : mR7} {u : lX → lX} {o : Int} (hl : len.toInt = n) (hn : n ≤ 150) (hb : tB n f b) (hu : gdR n u) (hU : MR n b len f o u (wq_X11_readProduct_s_g RS)) {Q : lQ} {R : lX} (hq : ∀ (a bd bk op : Int32) (cd oc : Nat → Int32) (ct : Int32), mS n b R.1 a bd bk → mL R cd oc ct → (R.1.1 = 0 → op.toInt = o) → Q a bd bk op cd oc ct) :
    ∀ (k : Nat) (a bd bk op : Int32) (cd oc : Nat → Int32) (ct : Int32) (i : Nat) (x : lX), mS n b x.1 a bd bk → mL x cd oc ct → (x.1.1 = 0 → op.toInt = o) → wfX n x → (x.1.1 = 0 → n ≤ x.1.2.2 + i) → i < k → lpG n b oS u i x = R → wl_X11_readSum_s_g_4 RS len f Q k a bd bk op cd oc ct := by
  have hn6 : n ≤ 600 := by omega
  intro k
  induction k with
  | zero => intro a bd bk op cd oc ct i x hm hL ho hw h1 h2; omega
  | succ k ih =>
    intro a bd bk op cd oc ct i x hm hL ho hw h1 h2 hR
    refine ms_fine hm (fun h0 => ⟨fun d => absurd d (by first | decide | simp), fun _ => ?_⟩) (fun h0 => ⟨fun _ => ?_, fun d => absurd rfl d⟩)
    · have hsk := (sk_facts (n := n) (b := b) _ x.1.2.2 rfl).1
      have h1 := h1 h0
      have stop : oS (at0 n b (sk n b x.1.2.2)) = -1 → x = R := fun e => by
        cases i with
        | zero => exact hR
        | succ i =>
          unfold lpG at hR
          rw [if_pos (Or.inr e)] at hR
          exact hR
      have go : ∀ (s0 : Int32) (w : Int) (y : Int32), oS (at0 n b (sk n b x.1.2.2)) = w → w ≠ -1 → s0.toInt = w → y.toInt = (sk n b x.1.2.2 : Nat) → ∀ (bd2 bk2 op2 : Int32), mS n b x.1 y bd2 bk2 → op2.toInt = o → wb_X11_readSum_s_g_43 RS len f Q (fun v0_at v0_bad v0_badKind v0_opens f0_newCode f0_newOf v0_newCodes => wl_X11_readSum_s_g_4 RS len f Q k v0_at v0_bad v0_badKind v0_opens f0_newCode f0_newOf v0_newCodes) y bd2 bk2 op2 cd oc ct s0 := fun s0 w y ew hw9 es ey bd2 bk2 op2 cy eo x25 e25 => by
        have hlt : sk n b x.1.2.2 < n := by
          by_cases g : sk n b x.1.2.2 < n
          · exact g
          · rw [at0_out g] at ew; exact absurd ew.symm hw9
        have w2 : wfX n ((0, 0, sk n b x.1.2.2 + 1), x.2) := fun _ => ⟨by show x.2.length ≤ sk n b x.1.2.2 + 1; have := hw h0; omega, by show sk n b x.1.2.2 + 1 ≤ n; omega⟩
        have w3 := wf_gd hu w2
        have hi : ∃ j : Nat, i = j + 1 := ⟨i - 1, by omega⟩
        obtain ⟨j, ej⟩ := hi
        rw [ej] at hR
        unfold lpG at hR
        rw [if_neg (fun d => d.elim (fun g => g h0) (fun g => hw9 (by rw [← ew]; exact g))), ew] at hR
        have cz : mS n b (0, 0, sk n b x.1.2.2 + 1) x25 bd2 bk2 := ⟨aS_ex (s := sk n b x.1.2.2 + 1) (by rw [e25, t_inc (by omega), ey]; omega) (by omega) (fun _ => rfl), fun _ => cy.2.1 h0, fun d => absurd rfl d⟩
        have a1 := (hu ((0, 0, sk n b x.1.2.2 + 1), x.2)).2 rfl (by show sk n b x.1.2.2 + 1 ≤ n; omega)
        refine hU _ _ _ _ _ _ _ ((0, 0, sk n b x.1.2.2 + 1), x.2) _ cz (mL_st hL (fun _ => h0)) (fun _ => eo) w2 (fun x26 x27 x28 x29 f30 f31 x32 c26 l26 o26 => ?_)
        refine m_emit (k := w) (v := 0) c26 l26 (fun g => ⟨es, t_0, ?_⟩) (fun cd2 oc2 ct2 h5 => ?_)
        · have a2 := a1 g
          have a3 := w3 g
          simp only at a2
          have w4 := hw h0
          omega
        · refine ih _ _ _ _ _ _ _ j _ (by rw [eS_st]; exact c26) h5 (by rw [eS_st]; exact o26) (fun g => ?_) (fun g => ?_) (by omega) hR
          · rw [eS_st] at g ⊢
            have a2 := a1 g
            rw [eS_len g]
            simp only at a2
            have w4 := hw h0
            omega
          · rw [eS_st] at g ⊢
            have a2 := a1 g
            simp only at a2
            omega
      have again : ∀ (y bd2 bk2 op2 : Int32), mS n b x.1 y bd2 bk2 → op2.toInt = o → oS (at0 n b (sk n b x.1.2.2)) ≠ -1 → wb_X11_readSum_s_g_29 RS len f Q (fun v0_at v0_bad v0_badKind v0_opens f0_newCode f0_newOf v0_newCodes => wl_X11_readSum_s_g_4 RS len f Q k v0_at v0_bad v0_badKind v0_opens f0_newCode f0_newOf v0_newCodes) y bd2 bk2 op2 cd oc ct := fun y bd2 bk2 op2 cy eo hne => by
        refine ms_here hl hn6 hb cy (fun r20 x19 c19 v19 => ⟨fun z => ?_, fun z => ?_⟩)
        · have e1 : at0 n b (sk n b x.1.2.2) ≠ 43 := (fun e => z (by rw [t_eq, t_43]; have g := (v19 h0).2; unfold cR at g; omega))
          have e2 : at0 n b (sk n b x.1.2.2) = 45 := by
            by_cases e : at0 n b (sk n b x.1.2.2) = 45
            · exact e
            · exact absurd (by unfold oS; rw [if_neg e1, if_neg e]) hne
          exact go 3 3 x19 (by rw [e2]; rfl) (by decide) (by decide) (v19 h0).1 bd2 bk2 op2 c19 eo
        · have e1 : at0 n b (sk n b x.1.2.2) = 43 := (by have g := (v19 h0).2; rw [z] at g; unfold cR at g; rw [t_43] at g; omega)
          exact go 2 2 x19 (by rw [e1]; rfl) (by decide) (by decide) (v19 h0).1 bd2 bk2 op2 c19 eo
      refine ms_here hl hn6 hb hm (fun r11 x10 c10 v10 => ⟨fun z => again _ _ _ _ c10 (ho h0) ?_, fun z => ?_⟩)
      · have e1 : at0 n b (sk n b x.1.2.2) = 43 := (by have g := (v10 h0).2; rw [z] at g; unfold cR at g; rw [t_43] at g; omega)
        rw [e1]; decide
      have e1 : at0 n b (sk n b x.1.2.2) ≠ 43 := (fun e => z (by rw [t_eq, t_43]; have g := (v10 h0).2; unfold cR at g; omega))
      refine ms_here hl hn6 hb c10 (fun r14 x13 c13 v13 => ⟨fun z2 => ?_, fun z2 => again _ _ _ _ c13 (ho h0) ?_⟩)
      · have e2 : at0 n b (sk n b x.1.2.2) ≠ 45 := (fun e => z2 (by rw [t_eq, t_45]; have g := (v13 h0).2; unfold cR at g; omega))
        have e := stop (by unfold oS; rw [if_neg e1, if_neg e2])
        rw [e] at c13 hL ho
        exact hq _ _ _ _ _ _ _ c13 hL ho
      · have e2 : at0 n b (sk n b x.1.2.2) = 45 := (by have g := (v13 h0).2; rw [z2] at g; unfold cR at g; rw [t_45] at g; omega)
        rw [e2]; decide
    · rw [(gd_lp hu rfl _ x).1 h0] at hR
      rw [hR] at hm hL ho
      exact hq _ _ _ _ _ _ _ hm hL ho
theorem md_g {RS : mR7} {g : lX → lX} {o : Int} (hl : len.toInt = n) (hn : n ≤ 150) (hb : tB n f b) (h6 : 0 ≤ o ∧ o < 6) (hg : gdR n g) (hR : MR n b len f (o + 1) g RS) : MR n b len f o (pdG n b (some g)) (wq_X11_readProduct_s_g RS) := by
  have hS : ∀ f : lX → lX, some g = some f → gdR n f := fun f e => by rw [← Option.some.inj e]; exact hg
  intro a bd bk op cd oc ct x Q hm hL ho hw hq
  exact mu_g hl hn hb h6 hg hR a bd bk op cd oc ct x _ hm hL ho hw (fun x1 x2 x3 x4 f5 f6 x7 c1 l1 o1 => ⟨151, mlp hl hn hb (gd_un hS) (mu_g hl hn hb h6 hg hR) hq 151 x1 x2 x3 x4 f5 f6 x7 150 _ c1 l1 o1 (wf_gd (gd_un hS) hw) (fun _ => by omega) (by omega) rfl⟩)
theorem ms_g {RS : mR7} {g : lX → lX} {o : Int} (hl : len.toInt = n) (hn : n ≤ 150) (hb : tB n f b) (h6 : 0 ≤ o ∧ o < 6) (hg : gdR n g) (hR : MR n b len f (o + 1) g RS) : MR n b len f o (suG n b (some g)) (wq_X11_readSum_s_g RS) := by
  have hS : ∀ f : lX → lX, some g = some f → gdR n f := fun f e => by rw [← Option.some.inj e]; exact hg
  intro a bd bk op cd oc ct x Q hm hL ho hw hq
  exact md_g hl hn hb h6 hg hR a bd bk op cd oc ct x _ hm hL ho hw (fun x1 x2 x3 x4 f5 f6 x7 c1 l1 o1 => ⟨151, mls hl hn hb (gd_pd hS) (md_g hl hn hb h6 hg hR) hq 151 x1 x2 x3 x4 f5 f6 x7 150 _ c1 l1 o1 (wf_gd (gd_pd hS) hw) (fun _ => by omega) (by omega) rfl⟩)
theorem md_0 {RS : mR7} (hl : len.toInt = n) (hn : n ≤ 150) (hb : tB n f b) (hR : MZ n b len f RS) : MR n b len f 6 (pdG n b none) (wq_X11_readProduct_s_g RS) := by
  have hS : ∀ f : lX → lX, (none : Option (lX → lX)) = some f → gdR n f := fun f e => absurd e (by simp)
  intro a bd bk op cd oc ct x Q hm hL ho hw hq
  exact mu_0 hl hn hb hR a bd bk op cd oc ct x _ hm hL ho hw (fun x1 x2 x3 x4 f5 f6 x7 c1 l1 o1 => ⟨151, mlp hl hn hb (gd_un hS) (mu_0 hl hn hb hR) hq 151 x1 x2 x3 x4 f5 f6 x7 150 _ c1 l1 o1 (wf_gd (gd_un hS) hw) (fun _ => by omega) (by omega) rfl⟩)
theorem ms_0 {RS : mR7} (hl : len.toInt = n) (hn : n ≤ 150) (hb : tB n f b) (hR : MZ n b len f RS) : MR n b len f 6 (suG n b none) (wq_X11_readSum_s_g RS) := by
  have hS : ∀ f : lX → lX, (none : Option (lX → lX)) = some f → gdR n f := fun f e => absurd e (by simp)
  intro a bd bk op cd oc ct x Q hm hL ho hw hq
  exact md_0 hl hn hb hR a bd bk op cd oc ct x _ hm hL ho hw (fun x1 x2 x3 x4 f5 f6 x7 c1 l1 o1 => ⟨151, mls hl hn hb (gd_pd hS) (md_0 hl hn hb hR) hq 151 x1 x2 x3 x4 f5 f6 x7 150 _ c1 l1 o1 (wf_gd (gd_pd hS) hw) (fun _ => by omega) (by omega) rfl⟩)
theorem mz_r0 : MZ n b len f wq_X11_readSum_s_r0 := by
  intro a bd bk op cd oc ct st Q hm h0 hq
  unfold wq_X11_readSum_s_r0 wq_X11_readProduct_s_r0 wq_X11_readUnit_s_r0
  exact ms_fine hm (fun d => absurd d h0) (fun _ => ⟨fun d => absurd rfl d, fun _ => ⟨1, ms_fine hm (fun d => absurd d h0) (fun _ => ⟨fun _ => ⟨1, ms_fine hm (fun d => absurd d h0) (fun _ => ⟨fun _ => hq _ _ _ _ _ _ _ hm, fun d => absurd rfl d⟩)⟩, fun d => absurd rfl d⟩)⟩⟩)
theorem ms_7 (hl : len.toInt = n) (hn : n ≤ 150) (hb : tB n f b) : MR n b len f 0 (suN n b 6) (wq_X11_readSum_s_r7) :=
  ms_g hl hn hb (by decide) (gd_suN 5) (ms_g hl hn hb (by decide) (gd_suN 4) (ms_g hl hn hb (by decide) (gd_suN 3) (ms_g hl hn hb (by decide) (gd_suN 2) (ms_g hl hn hb (by decide) (gd_suN 1) (ms_g hl hn hb (by decide) (gd_suN 0) (ms_0 hl hn hb mz_r0))))))
end TMl
