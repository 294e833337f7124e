/-! the class's sums, products, units of a law, by depth -/
abbrev cR7 := Int32 → (Nat → Int32) → Int32 → Int32 → Int32 → Int32 → (Nat → Int32) → (Nat → Int32) → Int32 → Int32 → lQ → Prop
/-- a reader of the class does what g says -/
def CR (n : Nat) (b : Nat → Int) (len : Int32) (f : Nat → Int32) (o : Int) (g : lX → lX) (R : cR7) : Prop := ∀ (a tk fa fp : Int32) (kd vl : Nat → Int32) (ln p : Int32) (x : lX) (Q : lQ), cS n b x.1 a fa fp → cL x kd vl ln → p.toInt = o → wfX n x → (∀ (a t fa fp : Int32) (kd vl : Nat → Int32) (ln : Int32), cS n b (g x).1 a fa fp → cL (g x) kd vl ln → Q a t fa fp kd vl ln) → R len f a tk fa fp kd vl ln p Q
section TU
variable {n : Nat} {b : Nat → Int} {len : Int32} {f : Nat → Int32}
theorem unG_bad {S : Option (lX → lX)} {x : lX} (h : x.1.1 ≠ 0) : unG n b S x = x := if_pos h
theorem unG_d {S : Option (lX → lX)} {x : lX} (w : x.1.1 = 0 → isD (at0 n b (sk n b x.1.2.2))) : unG n b S x = eS 0 (nV n b x.1) (nS n b 0 999 x.1, x.2) := by
  by_cases h : x.1.1 = 0
  · unfold unG; rw [if_neg (fun z => z h), if_pos (w h)]
  · rw [unG_bad h, nS_bad h, eS_bad h]
theorem unG_o {S : Option (lX → lX)} {x : lX} (h : x.1.1 = 0) (w0 : ¬ isD (at0 n b (sk n b x.1.2.2))) (w : at0 n b (sk n b x.1.2.2) = 40) : unG n b S x = opt S ((3, sk n b x.1.2.2, 0), x.2) (fun f => (gS n b 41 (f ((0, 0, sk n b x.1.2.2 + 1), x.2)).1, (f ((0, 0, sk n b x.1.2.2 + 1), x.2)).2)) := by
  unfold unG; rw [if_neg (fun z => z h), if_neg w0, if_pos w]
theorem unG_l {S : Option (lX → lX)} {x : lX} (h : x.1.1 = 0) (w0 : ¬ isD (at0 n b (sk n b x.1.2.2))) (w1 : at0 n b (sk n b x.1.2.2) ≠ 40) (w : pw n b (sk n b x.1.2.2) = 12748404) : unG n b S x = prG n b S 6 (sk n b x.1.2.2) (wE n b x.1, x.2) := by
  unfold unG; rw [if_neg (fun z => z h), if_neg w0, if_neg w1, if_pos w]
theorem unG_m {S : Option (lX → lX)} {x : lX} (h : x.1.1 = 0) (w0 : ¬ isD (at0 n b (sk n b x.1.2.2))) (w1 : at0 n b (sk n b x.1.2.2) ≠ 40) (w : pw n b (sk n b x.1.2.2) = 441972) : unG n b S x = prG n b S 7 (sk n b x.1.2.2) (wE n b x.1, x.2) := by
  unfold unG; rw [if_neg (fun z => z h), if_neg w0, if_neg w1, if_neg (by omega), if_pos w]
theorem unG_f {S : Option (lX → lX)} {x : lX} (h : x.1.1 = 0) (w0 : ¬ isD (at0 n b (sk n b x.1.2.2))) (w1 : at0 n b (sk n b x.1.2.2) ≠ 40) (w2 : pw n b (sk n b x.1.2.2) ≠ 12748404) (w3 : pw n b (sk n b x.1.2.2) ≠ 441972) : unG n b S x = if fW (pw n b (sk n b x.1.2.2)) = -1 then ((1, sk n b x.1.2.2, 0), x.2) else eS 1 (fW (pw n b (sk n b x.1.2.2))) (wE n b x.1, x.2) := by
  unfold unG; rw [if_neg (fun z => z h), if_neg w0, if_neg w1, if_neg w2, if_neg w3]
theorem cL_st {x : lX} {st : sT} {kd vl : Nat → Int32} {ln : Int32} (h : cL x kd vl ln) (hs : st.1 = 0 → x.1.1 = 0) : cL (st, x.2) kd vl ln := ⟨h.1, fun z => h.2 (hs z)⟩
theorem wf_gS {c : Int} {x : lX} (hc : c ≠ 0) (h : wfX n x) : wfX n (gS n b c x.1, x.2) := fun z => by
  have h0 := gS_fine z
  have a := gS_go hc h0 z
  have w := h h0
  show x.2.length ≤ (gS n b c x.1).2.2 ∧ (gS n b c x.1).2.2 ≤ n
  omega
theorem wf_gd {g : lX → lX} (hg : gdR n g) {x : lX} (h : wfX n x) : wfX n (g x) := fun z => by
  have h0 := gd_sub hg z
  have w := h h0
  have a := (hg x).2 h0 w.2 z
  omega
theorem cp_g {RS : cR7} {g : lX → lX} {o : Int} (hl : len.toInt = n) (hn : n ≤ 150) (hb : tB n f b) (ho : o + 1 ≤ 6) (hg : gdR n g) (hR : CR n b len f (o + 1) g RS) {a tk fa fp ln p p3 : Int32} {kd vl : Nat → Int32} {x : lX} {Q : lQ} {k : Int} {s : Nat} (hc : cS n b x.1 a fa fp) (hL : cL x kd vl ln) (hp : p.toInt = o) (hw : wfX n x) (hk : p3.toInt = kC k)
    (hq : ∀ (a t fa fp : Int32) (kd vl : Nat → Int32) (ln : Int32), cS n b (prG n b (some g) k s x).1 a fa fp → cL (prG n b (some g) k s x) kd vl ln → Q a t fa fp kd vl ln) : wq_X4_readPair_s_g RS len f a tk fa fp kd vl ln p p3 Q := by
  have hn6 : n ≤ 600 := by omega
  obtain ⟨y1, e1⟩ : ∃ y : lX, y = g (gS n b 91 x.1, x.2) := ⟨_, rfl⟩
  obtain ⟨y3, e3⟩ : ∃ y : lX, y = g (gS n b 44 y1.1, y1.2) := ⟨_, rfl⟩
  have er : prG n b (some g) k s x = eS k 0 (gS n b 93 y3.1, y3.2) := by rw [e3, e1]; rfl
  rw [er] at hq
  have ep : ∀ z : Int32, z = p + 1 → z.toInt = o + 1 := fun z e => by rw [e, t_inc (by omega), hp]
  have w0 : wfX n (gS n b 91 x.1, x.2) := wf_gS (by decide) hw
  have w1 : wfX n y1 := by rw [e1]; exact wf_gd hg w0
  have w2 : wfX n (gS n b 44 y1.1, y1.2) := wf_gS (by decide) w1
  have w3 : wfX n y3 := by rw [e3]; exact wf_gd hg w2
  have w4 : wfX n (gS n b 93 y3.1, y3.2) := wf_gS (by decide) w3
  refine ⟨fun _ => cs_needs hl hn6 hb hc (by decide) (fun x2 x3 x4 x5 c2 x6 e6 => ?_), fun c => ?_⟩
  · rw [t_91] at c2
    refine hR x2 x3 x4 x5 kd vl ln x6 (gS n b 91 x.1, x.2) _ c2 (cL_st hL gS_fine) (ep x6 e6) w0 (fun x7 x8 x9 x10 f11 f12 x13 c7 l7 => ?_)
    rw [← e1] at c7 l7
    refine cs_needs hl hn6 hb c7 (by decide) (fun x14 x15 x16 x17 c14 x18 e18 => ?_)
    rw [t_44] at c14
    refine hR x14 x15 x16 x17 f11 f12 x13 x18 (gS n b 44 y1.1, y1.2) _ c14 (cL_st l7 gS_fine) (ep x18 e18) w2 (fun x19 x20 x21 x22 f23 f24 x25 c19 l19 => ?_)
    rw [← e3] at c19 l19
    refine cs_needs hl hn6 hb c19 (by decide) (fun x26 x27 x28 x29 c26 => ?_)
    rw [t_93] at c26
    refine c_add (x := (gS n b 93 y3.1, y3.2)) (k := k) (v := 0) (cL_st l19 gS_fine) (fun z => ⟨hk, t_0, ?_⟩) (fun kd2 vl2 ln2 h2 => hq _ _ _ _ _ _ _ (by rw [eS_st]; exact c26) h2)
    have h3 := gS_fine z
    have a3 := gS_go (n := n) (b := b) (c := 93) (by decide) h3 z
    have w9 := w3 h3
    show y3.2.length < 150
    omega
  · rw [t_lt, t_6] at c; omega
theorem cu_g {RS : cR7} {g : lX → lX} {o : Int} (hl : len.toInt = n) (hn : n ≤ 150) (hb : tB n f b) (h0o : 0 ≤ o) (ho : o + 1 ≤ 6) (hg : gdR n g) (hR : CR n b len f (o + 1) g RS) : CR n b len f o (unG n b (some g)) (wq_X4_readUnit_s_g RS) := by
  intro a tk fa fp kd vl ln p x Q hc hL hp hw hq
  have hn6 : n ≤ 600 := by omega
  refine cs_sees hl hn6 hb hc (fun w0 y0 c0 => ⟨fun _ => ?_, fun d => absurd rfl d⟩) (fun w0 y0 c0 => ⟨fun d => absurd d (by first | decide | simp), fun _ => ?_⟩)
  · refine cs_takes hl hn6 hb c0 (by decide) (fun w1 y1 c1 => ⟨fun _ => ?_, fun d => absurd rfl d⟩) (fun h0 e y1 t1 c1 et => ⟨fun d => absurd d (by first | decide | simp), fun _ => ?_⟩)
    · have w1 : x.1.1 = 0 → at0 n b (sk n b x.1.2.2) ≠ 40 := fun h => by rw [t_40] at w1; exact w1.resolve_left (fun d => d h)
      refine cs_wordF hl hn6 hb wl_least c1 (fun w2 y2 c2 => ⟨fun _ => ?_, fun d => absurd rfl d⟩) (fun h0 e y2 t2 c2 et => ⟨fun d => absurd d (by first | decide | simp), fun _ => ?_⟩)
      · refine cs_wordF hl hn6 hb wl_most c2 (fun w3 y3 c3 => ⟨fun _ => ?_, fun d => absurd rfl d⟩) (fun h0 e y3 t3 c3 et => ⟨fun d => absurd d (by first | decide | simp), fun _ => ?_⟩)
        · refine cs_fact (st := x.1) (cs := x.2) hl hn hb c3 hL hw (fun a2 t2 fa2 fp2 kd2 vl2 ln2 y g1 g2 g3 c4 l4 => ?_)
          have ey : y = unG n b (some g) x := by
            by_cases h0 : x.1.1 = 0
            · rw [unG_f h0 (w0 h0) (w1 h0) (w2 h0) (w3 h0)]
              by_cases z : fW (pw n b (sk n b x.1.2.2)) = -1
              · rw [if_pos z]; exact g2 h0 z
              · rw [if_neg z]; exact g3 h0 z
            · rw [unG_bad h0]; exact g1 h0
          rw [ey] at c4 l4
          exact hq _ _ _ _ _ _ _ c4 l4
        · rw [unG_m h0 (w0 h0) (w1 h0) e] at hq
          exact cp_g hl hn hb ho hg hR (x := (wE n b x.1, x.2)) c3 (cL_st hL (fun _ => h0)) hp (fun _ => ⟨by show x.2.length ≤ (wE n b x.1).2.2; have := hw h0; have := wE_go (n := n) (b := b) (st := x.1) (by rw [e]; decide); omega, (wE_go (n := n) (b := b) (st := x.1) (by rw [e]; decide)).2⟩) (by decide) hq
      · rw [unG_l h0 (w0 h0) (w1 h0) e] at hq
        exact cp_g hl hn hb ho hg hR (x := (wE n b x.1, x.2)) c2 (cL_st hL (fun _ => h0)) hp (fun _ => ⟨by show x.2.length ≤ (wE n b x.1).2.2; have := hw h0; have := wE_go (n := n) (b := b) (st := x.1) (by rw [e]; decide); omega, (wE_go (n := n) (b := b) (st := x.1) (by rw [e]; decide)).2⟩) (by decide) hq
    · rw [t_40] at e
      rw [unG_o h0 (w0 h0) e] at hq
      refine ⟨fun _ x2 e2 => ?_, fun c => ?_⟩
      · have hlt := at0_lt e (by decide)
        have hsk := (sk_facts (n := n) (b := b) _ x.1.2.2 rfl).1
        refine hR y1 t1 fa fp kd vl ln x2 ((0, 0, sk n b x.1.2.2 + 1), x.2) _ c1 (cL_st hL (fun _ => h0)) (by rw [e2, t_inc (by omega), hp]) (fun _ => ⟨by show x.2.length ≤ sk n b x.1.2.2 + 1; have := hw h0; omega, by show sk n b x.1.2.2 + 1 ≤ n; omega⟩) (fun x3 x4 x5 x6 f7 f8 x9 c7 l7 => ?_)
        refine cs_needs hl hn6 hb c7 (by decide) (fun x10 x11 x12 x13 c10 => ?_)
        rw [t_41] at c10
        exact hq _ _ _ _ _ _ _ c10 (cL_st l7 gS_fine)
      · rw [t_lt, t_6] at c; omega
  · rw [unG_d w0] at hq
    refine cs_number hl hn6 hb c0 (by decide) (by decide) (fun r x46 x47 x48 x49 c1 v1 => ?_)
    rw [t_0, t_999] at c1 v1
    refine c_add (x := (nS n b 0 999 x.1, x.2)) (k := 0) (v := nV n b x.1) (cL_st hL (fun z => (nS_fine z).1)) (fun z => ⟨by decide, (v1 z).1, ?_⟩) (fun kd2 vl2 ln2 h2 => hq _ _ _ _ _ _ _ (by rw [eS_st]; exact c1) h2)
    have h0 := (nS_fine z).1
    have a1 := nS_go (n := n) (b := b) h0 z
    have w := hw h0
    show x.2.length < 150
    omega
theorem cu_0 (hl : len.toInt = n) (hn : n ≤ 150) (hb : tB n f b) : CR n b len f 6 (unG n b none) (wq_X4_readUnit_s_r0) := by
  intro a tk fa fp kd vl ln p x Q hc hL hp hw hq
  have hn6 : n ≤ 600 := by omega
  refine cs_sees hl hn6 hb hc (fun w0 y0 c0 => ⟨fun _ => ?_, fun d => absurd rfl d⟩) (fun w0 y0 c0 => ⟨fun d => absurd d (by first | decide | simp), fun _ => ?_⟩)
  · refine cs_takes hl hn6 hb c0 (by decide) (fun w1 y1 c1 => ⟨fun _ => ?_, fun d => absurd rfl d⟩) (fun h0 e y1 t1 c1 et => ⟨fun d => absurd d (by first | decide | simp), fun _ => ?_⟩)
    · have w1 : x.1.1 = 0 → at0 n b (sk n b x.1.2.2) ≠ 40 := fun h => by rw [t_40] at w1; exact w1.resolve_left (fun d => d h)
      refine cs_wordF hl hn6 hb wl_least c1 (fun w2 y2 c2 => ⟨fun _ => ?_, fun d => absurd rfl d⟩) (fun h0 e y2 t2 c2 et => ⟨fun d => absurd d (by first | decide | simp), fun _ => ?_⟩)
      · refine cs_wordF hl hn6 hb wl_most c2 (fun w3 y3 c3 => ⟨fun _ => ?_, fun d => absurd rfl d⟩) (fun h0 e y3 t3 c3 et => ⟨fun d => absurd d (by first | decide | simp), fun _ => ?_⟩)
        · refine cs_fact (st := x.1) (cs := x.2) hl hn hb c3 hL hw (fun a2 t2 fa2 fp2 kd2 vl2 ln2 y g1 g2 g3 c4 l4 => ?_)
          have ey : y = unG n b none x := by
            by_cases h0 : x.1.1 = 0
            · rw [unG_f h0 (w0 h0) (w1 h0) (w2 h0) (w3 h0)]
              by_cases z : fW (pw n b (sk n b x.1.2.2)) = -1
              · rw [if_pos z]; exact g2 h0 z
              · rw [if_neg z]; exact g3 h0 z
            · rw [unG_bad h0]; exact g1 h0
          rw [ey] at c4 l4
          exact hq _ _ _ _ _ _ _ c4 l4
        · rw [unG_m h0 (w0 h0) (w1 h0) e] at hq
          refine ⟨fun c => ?_, fun _ => cs_blameT (s := sk n b x.1.2.2) c3 (by decide) (fun _ => et) (fun f2 p2 c4 => ?_)⟩
          · rw [t_lt, t_6] at c; omega
          · rw [fS_0 (by rfl), t_3] at c4
            exact hq _ _ _ _ _ _ _ c4 ⟨hL.1, fun d => absurd d (show ¬ (3 : Int) = 0 by decide)⟩
      · rw [unG_l h0 (w0 h0) (w1 h0) e] at hq
        refine ⟨fun c => ?_, fun _ => cs_blameT (s := sk n b x.1.2.2) c2 (by decide) (fun _ => et) (fun f2 p2 c4 => ?_)⟩
        · rw [t_lt, t_6] at c; omega
        · rw [fS_0 (by rfl), t_3] at c4
          exact hq _ _ _ _ _ _ _ c4 ⟨hL.1, fun d => absurd d (show ¬ (3 : Int) = 0 by decide)⟩
    · rw [t_40] at e
      rw [unG_o h0 (w0 h0) e] at hq
      refine ⟨fun c => ?_, fun _ => cs_blameT (s := sk n b x.1.2.2) c1 (by decide) (fun _ => et) (fun f2 p2 c4 => ?_)⟩
      · rw [t_lt, t_6] at c; omega
      · rw [fS_0 (by rfl), t_3] at c4
        exact hq _ _ _ _ _ _ _ c4 ⟨hL.1, fun d => absurd d (show ¬ (3 : Int) = 0 by decide)⟩
  · rw [unG_d w0] at hq
    refine cs_number hl hn6 hb c0 (by decide) (by decide) (fun r x46 x47 x48 x49 c1 v1 => ?_)
    rw [t_0, t_999] at c1 v1
    refine c_add (x := (nS n b 0 999 x.1, x.2)) (k := 0) (v := nV n b x.1) (cL_st hL (fun z => (nS_fine z).1)) (fun z => ⟨by decide, (v1 z).1, ?_⟩) (fun kd2 vl2 ln2 h2 => hq _ _ _ _ _ _ _ (by rw [eS_st]; exact c1) h2)
    have h0 := (nS_fine z).1
    have a1 := nS_go (n := n) (b := b) h0 z
    have w := hw h0
    show x.2.length < 150
    omega
theorem clp_g {RS : cR7} {u : lX → lX} {o : Int} (hl : len.toInt = n) (hn : n ≤ 150) (hb : tB n f b) (hu : gdR n u) (hU : CR n b len f o u (wq_X4_readUnit_s_g RS)) {p : Int32} (hp : p.toInt = o) {Q : lQ} {R : lX} (hq : ∀ (a t fa fp : Int32) (kd vl : Nat → Int32) (ln : Int32), cS n b R.1 a fa fp → cL R kd vl ln → Q a t fa fp kd vl ln) :
    ∀ (k : Nat) (a tk fa fp : Int32) (kd vl : Nat → Int32) (ln l3 : Int32) (i : Nat) (x : lX), cS n b x.1 a fa fp → cL x kd vl ln → wfX n x → l3.toInt = i → i ≤ 150 → 150 - i < k → lpG n b oP u (150 - i) x = R → wl_X4_readProduct_s_g_8 RS len f Q k a tk fa fp kd vl ln p l3 := by
  have hn6 : n ≤ 600 := by omega
  intro k
  induction k with
  | zero => intro a tk fa fp kd vl ln l3 i x hc hL hw h1 h2 h3; omega
  | succ k ih =>
    intro a tk fa fp kd vl ln l3 i x hc hL hw h1 h2 h3 hR
    refine ⟨fun c => ?_, fun c => ⟨fun z => ⟨fun d => absurd rfl d, fun _ => ?_⟩, fun z => ⟨fun _ => ?_, fun d => absurd d (by first | decide | simp)⟩⟩⟩
    · rw [t_le, t_150] at c
      rw [show 150 - i = 0 by omega] at hR
      have hR : x = R := hR
      rw [hR] at hc hL
      exact hq _ _ _ _ _ _ _ hc hL
    · rw [t_le, t_150] at c
      have h0 : x.1.1 = 0 := by rw [← hc.2.1, z, t_0]
      have hsk := (sk_facts (n := n) (b := b) _ x.1.2.2 rfl).1
      have stop : oP (at0 n b (sk n b x.1.2.2)) = -1 → x = R := fun e => by
        rw [show 150 - i = (150 - (i + 1)) + 1 by omega] at hR
        unfold lpG at hR
        rw [if_pos (Or.inr e)] at hR
        exact hR
      have go : ∀ (s0 : Int32) (w : Int) (y t : Int32), oP (at0 n b (sk n b x.1.2.2)) = w → w ≠ -1 → s0.toInt = kC w → ¬ s0 = -1 → cS n b (0, 0, sk n b x.1.2.2 + 1) y fa fp → wb_X4_readProduct_s_g_63 RS len f Q (fun v1_at v1_token v1_fault v1_faultPlace f0_kinds f0_values v0_length l2 l3 => wl_X4_readProduct_s_g_8 RS len f Q k v1_at v1_token v1_fault v1_faultPlace f0_kinds f0_values v0_length l2 l3) y t fa fp kd vl ln p l3 s0 := fun s0 w y t ew hw9 es hs cy => by
        have hlt : sk n b x.1.2.2 < n := by
          by_cases g : sk n b x.1.2.2 < n
          · exact g
          · rw [at0_out g] at ew; exact absurd ew.symm hw9
        have w2 : wfX n ((0, 0, sk n b x.1.2.2 + 1), x.2) := fun _ => ⟨by show x.2.length ≤ sk n b x.1.2.2 + 1; have := hw h0; omega, by show sk n b x.1.2.2 + 1 ≤ n; omega⟩
        have w3 := wf_gd hu w2
        rw [show 150 - i = (150 - (i + 1)) + 1 by omega] at hR
        unfold lpG at hR
        rw [if_neg (fun d => d.elim (fun g => g h0) (fun g => hw9 (by rw [← ew]; exact g))), ew] at hR
        refine ⟨fun _ => hU y t fa fp kd vl ln p ((0, 0, sk n b x.1.2.2 + 1), x.2) _ cy (cL_st hL (fun _ => h0)) hp w2 (fun x24 x25 x26 x27 f28 f29 x30 c24 l24 => ?_), fun d => absurd d hs⟩
        have a1 := (hu ((0, 0, sk n b x.1.2.2 + 1), x.2)).2 rfl (by show sk n b x.1.2.2 + 1 ≤ n; omega)
        refine c_add (k := w) (v := 0) l24 (fun g => ⟨es, t_0, ?_⟩) (fun kd2 vl2 ln2 h5 x34 e34 => ?_)
        · have a2 := a1 g
          have a3 := w3 g
          simp only at a2
          have w4 := hw h0
          omega
        · refine ih x24 x25 x26 x27 kd2 vl2 ln2 x34 (i + 1) _ (by rw [eS_st]; exact c24) h5 (fun g => ?_) (by rw [e34, t_inc (by omega), h1]; omega) (by omega) (by omega) hR
          rw [eS_st] at g ⊢
          have a2 := a1 g
          rw [eS_len g]
          simp only at a2
          have w4 := hw h0
          omega
      refine cs_takes hl hn6 hb hc (by decide) (fun g1 y1 c1 => ⟨fun _ => ?_, fun d => absurd rfl d⟩) (fun _ e y1 t1 c1 _ => ⟨fun d => absurd d (by first | decide | simp), fun _ => go 4 4 y1 t1 (by rw [e, t_42]; rfl) (by decide) (by decide) (by decide) c1⟩)
      refine cs_takes hl hn6 hb c1 (by decide) (fun g2 y2 c2 => ⟨fun _ => ?_, fun d => absurd rfl d⟩) (fun _ e y2 t2 c2 _ => ⟨fun d => absurd d (by first | decide | simp), fun _ => go 5 5 y2 t2 (by rw [e, t_47]; rfl) (by decide) (by decide) (by decide) c2⟩)
      refine cs_takes hl hn6 hb c2 (by decide) (fun g3 y3 c3 => ⟨fun _ => ⟨fun d => absurd rfl d, fun _ => ?_⟩, fun d => absurd rfl d⟩) (fun _ e y3 t3 c3 _ => ⟨fun d => absurd d (by first | decide | simp), fun _ => go 6 8 y3 t3 (by rw [e, t_37]; rfl) (by decide) (by decide) (by decide) c3⟩)
      rw [t_42] at g1
      rw [t_47] at g2
      rw [t_37] at g3
      have e := stop (by unfold oP; rw [if_neg (g1.resolve_left (fun d => d h0)), if_neg (g2.resolve_left (fun d => d h0)), if_neg (g3.resolve_left (fun d => d h0))])
      rw [e] at c3 hL
      exact hq _ _ _ _ _ _ _ c3 hL
    · have h0 : x.1.1 ≠ 0 := fun w => z (cS_fa hc w)
      rw [(gd_lp hu rfl _ x).1 h0] at hR
      rw [hR] at hc hL
      exact hq _ _ _ _ _ _ _ hc hL
theorem cls_g {RS : cR7} {u : lX → lX} {o : Int} (hl : len.toInt = n) (hn : n ≤ 150) (hb : tB n f b) (hu : gdR n u) (hU : CR n b len f o u (wq_X4_readProduct_s_g RS)) {p : Int32} (hp : p.toInt = o) {Q : lQ} {R : lX} (hq : ∀ (a t fa fp : Int32) (kd vl : Nat → Int32) (ln : Int32), cS n b R.1 a fa fp → cL R kd vl ln → Q a t fa fp kd vl ln) :
    ∀ (k : Nat) (a tk fa fp : Int32) (kd vl : Nat → Int32) (ln l3 : Int32) (i : Nat) (x : lX), cS n b x.1 a fa fp → cL x kd vl ln → wfX n x → l3.toInt = i → i ≤ 150 → 150 - i < k → lpG n b oS u (150 - i) x = R → wl_X4_readSum_s_g_8 RS len f Q k a tk fa fp kd vl ln p l3 := by
  have hn6 : n ≤ 600 := by omega
  intro k
  induction k with
  | zero => intro a tk fa fp kd vl ln l3 i x hc hL hw h1 h2 h3; omega
  | succ k ih =>
    intro a tk fa fp kd vl ln l3 i x hc hL hw h1 h2 h3 hR
    refine ⟨fun c => ?_, fun c => ⟨fun z => ⟨fun d => absurd rfl d, fun _ => ?_⟩, fun z => ⟨fun _ => ?_, fun d => absurd d (by first | decide | simp)⟩⟩⟩
    · rw [t_le, t_150] at c
      rw [show 150 - i = 0 by omega] at hR
      have hR : x = R := hR
      rw [hR] at hc hL
      exact hq _ _ _ _ _ _ _ hc hL
    · rw [t_le, t_150] at c
      have h0 : x.1.1 = 0 := by rw [← hc.2.1, z, t_0]
      have hsk := (sk_facts (n := n) (b := b) _ x.1.2.2 rfl).1
      have stop : oS (at0 n b (sk n b x.1.2.2)) = -1 → x = R := fun e => by
        rw [show 150 - i = (150 - (i + 1)) + 1 by omega] at hR
        unfold lpG at hR
        rw [if_pos (Or.inr e)] at hR
        exact hR
      have go : ∀ (s0 : Int32) (w : Int) (y t : Int32), oS (at0 n b (sk n b x.1.2.2)) = w → w ≠ -1 → s0.toInt = kC w → ¬ s0 = -1 → cS n b (0, 0, sk n b x.1.2.2 + 1) y fa fp → wb_X4_readSum_s_g_49 RS len f Q (fun v1_at v1_token v1_fault v1_faultPlace f0_kinds f0_values v0_length l2 l3 => wl_X4_readSum_s_g_8 RS len f Q k v1_at v1_token v1_fault v1_faultPlace f0_kinds f0_values v0_length l2 l3) y t fa fp kd vl ln p l3 s0 := fun s0 w y t ew hw9 es hs cy => by
        have hlt : sk n b x.1.2.2 < n := by
          by_cases g : sk n b x.1.2.2 < n
          · exact g
          · rw [at0_out g] at ew; exact absurd ew.symm hw9
        have w2 : wfX n ((0, 0, sk n b x.1.2.2 + 1), x.2) := fun _ => ⟨by show x.2.length ≤ sk n b x.1.2.2 + 1; have := hw h0; omega, by show sk n b x.1.2.2 + 1 ≤ n; omega⟩
        have w3 := wf_gd hu w2
        rw [show 150 - i = (150 - (i + 1)) + 1 by omega] at hR
        unfold lpG at hR
        rw [if_neg (fun d => d.elim (fun g => g h0) (fun g => hw9 (by rw [← ew]; exact g))), ew] at hR
        refine ⟨fun _ => hU y t fa fp kd vl ln p ((0, 0, sk n b x.1.2.2 + 1), x.2) _ cy (cL_st hL (fun _ => h0)) hp w2 (fun x24 x25 x26 x27 f28 f29 x30 c24 l24 => ?_), fun d => absurd d hs⟩
        have a1 := (hu ((0, 0, sk n b x.1.2.2 + 1), x.2)).2 rfl (by show sk n b x.1.2.2 + 1 ≤ n; omega)
        refine c_add (k := w) (v := 0) l24 (fun g => ⟨es, t_0, ?_⟩) (fun kd2 vl2 ln2 h5 x34 e34 => ?_)
        · have a2 := a1 g
          have a3 := w3 g
          simp only at a2
          have w4 := hw h0
          omega
        · refine ih x24 x25 x26 x27 kd2 vl2 ln2 x34 (i + 1) _ (by rw [eS_st]; exact c24) h5 (fun g => ?_) (by rw [e34, t_inc (by omega), h1]; omega) (by omega) (by omega) hR
          rw [eS_st] at g ⊢
          have a2 := a1 g
          rw [eS_len g]
          simp only at a2
          have w4 := hw h0
          omega
      refine cs_takes hl hn6 hb hc (by decide) (fun g1 y1 c1 => ⟨fun _ => ?_, fun d => absurd rfl d⟩) (fun _ e y1 t1 c1 _ => ⟨fun d => absurd d (by first | decide | simp), fun _ => go 2 2 y1 t1 (by rw [e, t_43]; rfl) (by decide) (by decide) (by decide) c1⟩)
      refine cs_takes hl hn6 hb c1 (by decide) (fun g2 y2 c2 => ⟨fun _ => ⟨fun d => absurd rfl d, fun _ => ?_⟩, fun d => absurd rfl d⟩) (fun _ e y2 t2 c2 _ => ⟨fun d => absurd d (by first | decide | simp), fun _ => go 3 3 y2 t2 (by rw [e, t_45]; rfl) (by decide) (by decide) (by decide) c2⟩)
      rw [t_43] at g1
      rw [t_45] at g2
      have e := stop (by unfold oS; rw [if_neg (g1.resolve_left (fun d => d h0)), if_neg (g2.resolve_left (fun d => d h0))])
      rw [e] at c2 hL
      exact hq _ _ _ _ _ _ _ c2 hL
    · have h0 : x.1.1 ≠ 0 := fun w => z (cS_fa hc w)
      rw [(gd_lp hu rfl _ x).1 h0] at hR
      rw [hR] at hc hL
      exact hq _ _ _ _ _ _ _ hc hL
theorem clp_0 {u : lX → lX} {o : Int} (hl : len.toInt = n) (hn : n ≤ 150) (hb : tB n f b) (hu : gdR n u) (hU : CR n b len f o u (wq_X4_readUnit_s_r0)) {p : Int32} (hp : p.toInt = o) {Q : lQ} {R : lX} (hq : ∀ (a t fa fp : Int32) (kd vl : Nat → Int32) (ln : Int32), cS n b R.1 a fa fp → cL R kd vl ln → Q a t fa fp kd vl ln) :
    ∀ (k : Nat) (a tk fa fp : Int32) (kd vl : Nat → Int32) (ln l3 : Int32) (i : Nat) (x : lX), cS n b x.1 a fa fp → cL x kd vl ln → wfX n x → l3.toInt = i → i ≤ 150 → 150 - i < k → lpG n b oP u (150 - i) x = R → wl_X4_readProduct_s_r0_8 len f Q k a tk fa fp kd vl ln p l3 := by
  have hn6 : n ≤ 600 := by omega
  intro k
  induction k with
  | zero => intro a tk fa fp kd vl ln l3 i x hc hL hw h1 h2 h3; omega
  | succ k ih =>
    intro a tk fa fp kd vl ln l3 i x hc hL hw h1 h2 h3 hR
    refine ⟨fun c => ?_, fun c => ⟨fun z => ⟨fun d => absurd rfl d, fun _ => ?_⟩, fun z => ⟨fun _ => ?_, fun d => absurd d (by first | decide | simp)⟩⟩⟩
    · rw [t_le, t_150] at c
      rw [show 150 - i = 0 by omega] at hR
      have hR : x = R := hR
      rw [hR] at hc hL
      exact hq _ _ _ _ _ _ _ hc hL
    · rw [t_le, t_150] at c
      have h0 : x.1.1 = 0 := by rw [← hc.2.1, z, t_0]
      have hsk := (sk_facts (n := n) (b := b) _ x.1.2.2 rfl).1
      have stop : oP (at0 n b (sk n b x.1.2.2)) = -1 → x = R := fun e => by
        rw [show 150 - i = (150 - (i + 1)) + 1 by omega] at hR
        unfold lpG at hR
        rw [if_pos (Or.inr e)] at hR
        exact hR
      have go : ∀ (s0 : Int32) (w : Int) (y t : Int32), oP (at0 n b (sk n b x.1.2.2)) = w → w ≠ -1 → s0.toInt = kC w → ¬ s0 = -1 → cS n b (0, 0, sk n b x.1.2.2 + 1) y fa fp → wb_X4_readProduct_s_r0_63 len f Q (fun v1_at v1_token v1_fault v1_faultPlace f0_kinds f0_values v0_length l2 l3 => wl_X4_readProduct_s_r0_8 len f Q k v1_at v1_token v1_fault v1_faultPlace f0_kinds f0_values v0_length l2 l3) y t fa fp kd vl ln p l3 s0 := fun s0 w y t ew hw9 es hs cy => by
        have hlt : sk n b x.1.2.2 < n := by
          by_cases g : sk n b x.1.2.2 < n
          · exact g
          · rw [at0_out g] at ew; exact absurd ew.symm hw9
        have w2 : wfX n ((0, 0, sk n b x.1.2.2 + 1), x.2) := fun _ => ⟨by show x.2.length ≤ sk n b x.1.2.2 + 1; have := hw h0; omega, by show sk n b x.1.2.2 + 1 ≤ n; omega⟩
        have w3 := wf_gd hu w2
        rw [show 150 - i = (150 - (i + 1)) + 1 by omega] at hR
        unfold lpG at hR
        rw [if_neg (fun d => d.elim (fun g => g h0) (fun g => hw9 (by rw [← ew]; exact g))), ew] at hR
        refine ⟨fun _ => hU y t fa fp kd vl ln p ((0, 0, sk n b x.1.2.2 + 1), x.2) _ cy (cL_st hL (fun _ => h0)) hp w2 (fun x24 x25 x26 x27 f28 f29 x30 c24 l24 => ?_), fun d => absurd d hs⟩
        have a1 := (hu ((0, 0, sk n b x.1.2.2 + 1), x.2)).2 rfl (by show sk n b x.1.2.2 + 1 ≤ n; omega)
        refine c_add (k := w) (v := 0) l24 (fun g => ⟨es, t_0, ?_⟩) (fun kd2 vl2 ln2 h5 x34 e34 => ?_)
        · have a2 := a1 g
          have a3 := w3 g
          simp only at a2
          have w4 := hw h0
          omega
        · refine ih x24 x25 x26 x27 kd2 vl2 ln2 x34 (i + 1) _ (by rw [eS_st]; exact c24) h5 (fun g => ?_) (by rw [e34, t_inc (by omega), h1]; omega) (by omega) (by omega) hR
          rw [eS_st] at g ⊢
          have a2 := a1 g
          rw [eS_len g]
          simp only at a2
          have w4 := hw h0
          omega
      refine cs_takes hl hn6 hb hc (by decide) (fun g1 y1 c1 => ⟨fun _ => ?_, fun d => absurd rfl d⟩) (fun _ e y1 t1 c1 _ => ⟨fun d => absurd d (by first | decide | simp), fun _ => go 4 4 y1 t1 (by rw [e, t_42]; rfl) (by decide) (by decide) (by decide) c1⟩)
      refine cs_takes hl hn6 hb c1 (by decide) (fun g2 y2 c2 => ⟨fun _ => ?_, fun d => absurd rfl d⟩) (fun _ e y2 t2 c2 _ => ⟨fun d => absurd d (by first | decide | simp), fun _ => go 5 5 y2 t2 (by rw [e, t_47]; rfl) (by decide) (by decide) (by decide) c2⟩)
      refine cs_takes hl hn6 hb c2 (by decide) (fun g3 y3 c3 => ⟨fun _ => ⟨fun d => absurd rfl d, fun _ => ?_⟩, fun d => absurd rfl d⟩) (fun _ e y3 t3 c3 _ => ⟨fun d => absurd d (by first | decide | simp), fun _ => go 6 8 y3 t3 (by rw [e, t_37]; rfl) (by decide) (by decide) (by decide) c3⟩)
      rw [t_42] at g1
      rw [t_47] at g2
      rw [t_37] at g3
      have e := stop (by unfold oP; rw [if_neg (g1.resolve_left (fun d => d h0)), if_neg (g2.resolve_left (fun d => d h0)), if_neg (g3.resolve_left (fun d => d h0))])
      rw [e] at c3 hL
      exact hq _ _ _ _ _ _ _ c3 hL
    · have h0 : x.1.1 ≠ 0 := fun w => z (cS_fa hc w)
      rw [(gd_lp hu rfl _ x).1 h0] at hR
      rw [hR] at hc hL
      exact hq _ _ _ _ _ _ _ hc hL
theorem cls_0 {u : lX → lX} {o : Int} (hl : len.toInt = n) (hn : n ≤ 150) (hb : tB n f b) (hu : gdR n u) (hU : CR n b len f o u (wq_X4_readProduct_s_r0)) {p : Int32} (hp : p.toInt = o) {Q : lQ} {R : lX} (hq : ∀ (a t fa fp : Int32) (kd vl : Nat → Int32) (ln : Int32), cS n b R.1 a fa fp → cL R kd vl ln → Q a t fa fp kd vl ln) :
    ∀ (k : Nat) (a tk fa fp : Int32) (kd vl : Nat → Int32) (ln l3 : Int32) (i : Nat) (x : lX), cS n b x.1 a fa fp → cL x kd vl ln → wfX n x → l3.toInt = i → i ≤ 150 → 150 - i < k → lpG n b oS u (150 - i) x = R → wl_X4_readSum_s_r0_8 len f Q k a tk fa fp kd vl ln p l3 := by
  have hn6 : n ≤ 600 := by omega
  intro k
  induction k with
  | zero => intro a tk fa fp kd vl ln l3 i x hc hL hw h1 h2 h3; omega
  | succ k ih =>
    intro a tk fa fp kd vl ln l3 i x hc hL hw h1 h2 h3 hR
    refine ⟨fun c => ?_, fun c => ⟨fun z => ⟨fun d => absurd rfl d, fun _ => ?_⟩, fun z => ⟨fun _ => ?_, fun d => absurd d (by first | decide | simp)⟩⟩⟩
    · rw [t_le, t_150] at c
      rw [show 150 - i = 0 by omega] at hR
      have hR : x = R := hR
      rw [hR] at hc hL
      exact hq _ _ _ _ _ _ _ hc hL
    · rw [t_le, t_150] at c
      have h0 : x.1.1 = 0 := by rw [← hc.2.1, z, t_0]
      have hsk := (sk_facts (n := n) (b := b) _ x.1.2.2 rfl).1
      have stop : oS (at0 n b (sk n b x.1.2.2)) = -1 → x = R := fun e => by
        rw [show 150 - i = (150 - (i + 1)) + 1 by omega] at hR
        unfold lpG at hR
        rw [if_pos (Or.inr e)] at hR
        exact hR
      have go : ∀ (s0 : Int32) (w : Int) (y t : Int32), oS (at0 n b (sk n b x.1.2.2)) = w → w ≠ -1 → s0.toInt = kC w → ¬ s0 = -1 → cS n b (0, 0, sk n b x.1.2.2 + 1) y fa fp → wb_X4_readSum_s_r0_49 len f Q (fun v1_at v1_token v1_fault v1_faultPlace f0_kinds f0_values v0_length l2 l3 => wl_X4_readSum_s_r0_8 len f Q k v1_at v1_token v1_fault v1_faultPlace f0_kinds f0_values v0_length l2 l3) y t fa fp kd vl ln p l3 s0 := fun s0 w y t ew hw9 es hs cy => by
        have hlt : sk n b x.1.2.2 < n := by
          by_cases g : sk n b x.1.2.2 < n
          · exact g
          · rw [at0_out g] at ew; exact absurd ew.symm hw9
        have w2 : wfX n ((0, 0, sk n b x.1.2.2 + 1), x.2) := fun _ => ⟨by show x.2.length ≤ sk n b x.1.2.2 + 1; have := hw h0; omega, by show sk n b x.1.2.2 + 1 ≤ n; omega⟩
        have w3 := wf_gd hu w2
        rw [show 150 - i = (150 - (i + 1)) + 1 by omega] at hR
        unfold lpG at hR
        rw [if_neg (fun d => d.elim (fun g => g h0) (fun g => hw9 (by rw [← ew]; exact g))), ew] at hR
        refine ⟨fun _ => hU y t fa fp kd vl ln p ((0, 0, sk n b x.1.2.2 + 1), x.2) _ cy (cL_st hL (fun _ => h0)) hp w2 (fun x24 x25 x26 x27 f28 f29 x30 c24 l24 => ?_), fun d => absurd d hs⟩
        have a1 := (hu ((0, 0, sk n b x.1.2.2 + 1), x.2)).2 rfl (by show sk n b x.1.2.2 + 1 ≤ n; omega)
        refine c_add (k := w) (v := 0) l24 (fun g => ⟨es, t_0, ?_⟩) (fun kd2 vl2 ln2 h5 x34 e34 => ?_)
        · have a2 := a1 g
          have a3 := w3 g
          simp only at a2
          have w4 := hw h0
          omega
        · refine ih x24 x25 x26 x27 kd2 vl2 ln2 x34 (i + 1) _ (by rw [eS_st]; exact c24) h5 (fun g => ?_) (by rw [e34, t_inc (by omega), h1]; omega) (by omega) (by omega) hR
          rw [eS_st] at g ⊢
          have a2 := a1 g
          rw [eS_len g]
          simp only at a2
          have w4 := hw h0
          omega
      refine cs_takes hl hn6 hb hc (by decide) (fun g1 y1 c1 => ⟨fun _ => ?_, fun d => absurd rfl d⟩) (fun _ e y1 t1 c1 _ => ⟨fun d => absurd d (by first | decide | simp), fun _ => go 2 2 y1 t1 (by rw [e, t_43]; rfl) (by decide) (by decide) (by decide) c1⟩)
      refine cs_takes hl hn6 hb c1 (by decide) (fun g2 y2 c2 => ⟨fun _ => ⟨fun d => absurd rfl d, fun _ => ?_⟩, fun d => absurd rfl d⟩) (fun _ e y2 t2 c2 _ => ⟨fun d => absurd d (by first | decide | simp), fun _ => go 3 3 y2 t2 (by rw [e, t_45]; rfl) (by decide) (by decide) (by decide) c2⟩)
      rw [t_43] at g1
      rw [t_45] at g2
      have e := stop (by unfold oS; rw [if_neg (g1.resolve_left (fun d => d h0)), if_neg (g2.resolve_left (fun d => d h0))])
      rw [e] at c2 hL
      exact hq _ _ _ _ _ _ _ c2 hL
    · have h0 : x.1.1 ≠ 0 := fun w => z (cS_fa hc w)
      rw [(gd_lp hu rfl _ x).1 h0] at hR
      rw [hR] at hc hL
      exact hq _ _ _ _ _ _ _ hc hL
theorem cd_g {RS : cR7} {g : lX → lX} {o : Int} (hl : len.toInt = n) (hn : n ≤ 150) (hb : tB n f b) (h0o : 0 ≤ o) (ho : o + 1 ≤ 6) (hg : gdR n g) (hR : CR n b len f (o + 1) g RS) : CR n b len f o (pdG n b (some g)) (wq_X4_readProduct_s_g RS) := by
  have hS : ∀ f : lX → lX, some g = some f → gdR n f := fun f e => by rw [← Option.some.inj e]; exact hg
  intro a tk fa fp kd vl ln p x Q hc hL hp hw hq
  exact cu_g hl hn hb h0o ho hg hR a tk fa fp kd vl ln p x _ hc hL hp hw (fun x1 x2 x3 x4 f5 f6 x7 c1 l1 => ⟨151, clp_g hl hn hb (gd_un hS) (cu_g hl hn hb h0o ho hg hR) hp hq 151 x1 x2 x3 x4 f5 f6 x7 0 0 _ c1 l1 (wf_gd (gd_un hS) hw) t_0 (by omega) (by omega) rfl⟩)
theorem cs_g {RS : cR7} {g : lX → lX} {o : Int} (hl : len.toInt = n) (hn : n ≤ 150) (hb : tB n f b) (h0o : 0 ≤ o) (ho : o + 1 ≤ 6) (hg : gdR n g) (hR : CR n b len f (o + 1) g RS) : CR n b len f o (suG n b (some g)) (wq_X4_readSum_s_g RS) := by
  have hS : ∀ f : lX → lX, some g = some f → gdR n f := fun f e => by rw [← Option.some.inj e]; exact hg
  intro a tk fa fp kd vl ln p x Q hc hL hp hw hq
  exact cd_g hl hn hb h0o ho hg hR a tk fa fp kd vl ln p x _ hc hL hp hw (fun x1 x2 x3 x4 f5 f6 x7 c1 l1 => ⟨151, cls_g hl hn hb (gd_pd hS) (cd_g hl hn hb h0o ho hg hR) hp hq 151 x1 x2 x3 x4 f5 f6 x7 0 0 _ c1 l1 (wf_gd (gd_pd hS) hw) t_0 (by omega) (by omega) rfl⟩)
theorem cd_0 (hl : len.toInt = n) (hn : n ≤ 150) (hb : tB n f b) : CR n b len f 6 (pdG n b none) (wq_X4_readProduct_s_r0) := by
  have hS : ∀ f : lX → lX, (none : Option (lX → lX)) = some f → gdR n f := fun f e => absurd e (by simp)
  intro a tk fa fp kd vl ln p x Q hc hL hp hw hq
  exact cu_0 hl hn hb a tk fa fp kd vl ln p x _ hc hL hp hw (fun x1 x2 x3 x4 f5 f6 x7 c1 l1 => ⟨151, clp_0 hl hn hb (gd_un hS) (cu_0 hl hn hb) hp hq 151 x1 x2 x3 x4 f5 f6 x7 0 0 _ c1 l1 (wf_gd (gd_un hS) hw) t_0 (by omega) (by omega) rfl⟩)
theorem cs_0 (hl : len.toInt = n) (hn : n ≤ 150) (hb : tB n f b) : CR n b len f 6 (suG n b none) (wq_X4_readSum_s_r0) := by
  have hS : ∀ f : lX → lX, (none : Option (lX → lX)) = some f → gdR n f := fun f e => absurd e (by simp)
  intro a tk fa fp kd vl ln p x Q hc hL hp hw hq
  exact cd_0 hl hn hb a tk fa fp kd vl ln p x _ hc hL hp hw (fun x1 x2 x3 x4 f5 f6 x7 c1 l1 => ⟨151, cls_0 hl hn hb (gd_pd hS) (cd_0 hl hn hb) hp hq 151 x1 x2 x3 x4 f5 f6 x7 0 0 _ c1 l1 (wf_gd (gd_pd hS) hw) t_0 (by omega) (by omega) rfl⟩)
theorem cs_6 (hl : len.toInt = n) (hn : n ≤ 150) (hb : tB n f b) : CR n b len f 0 (suN n b 6) (wq_X4_readSum_s_r6) :=
  cs_g hl hn hb (by decide) (by decide) (gd_suN 5) (cs_g hl hn hb (by decide) (by decide) (gd_suN 4) (cs_g hl hn hb (by decide) (by decide) (gd_suN 3) (cs_g hl hn hb (by decide) (by decide) (gd_suN 2) (cs_g hl hn hb (by decide) (by decide) (gd_suN 1) (cs_g hl hn hb (by decide) (by decide) (gd_suN 0) (cs_0 hl hn hb))))))
end TU
