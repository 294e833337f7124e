/-! the reference's rows of a down, all of them -/
section TN
variable {n : Nat} {b : Nat → Int} {st : sT} {len : Int32} {f : Nat → Int32}
theorem ms_row {Q : Int32 → Int32 → Int32 → (Nat → Int32) → (Nat → Int32) → Int32 → (Nat → Int32) → Int32 → (Nat → Int32) → Int32 → Prop} {a bd bk nx nh nf p1 : Int32} {db fx ha fo : Nat → Int32} {NF NH NX : Nat}
    (hl : len.toInt = n) (hn : n ≤ 600) (hb : tB n f b) (h : mS n b st a bd bk) (n1 : nf.toInt = NF) (n2 : NF ≤ 8) (m1 : nh.toInt = NH) (m2 : NH ≤ 6) (x1 : nx.toInt = NX) (x2 : NX ≤ 4) (hr : isR p1.toInt) (hf1 : p1.toInt = 212557 → NF ≠ 8) (hf2 : p1.toInt = 263749 → NH ≠ 6) (hf3 : p1.toInt = 6648 → NX ≠ 4)
    (q1 : p1.toInt = 212557 → ∀ (r s x bd2 bk2 n9 : Int32), mS n b (nS n b 0 30 (nS n b 0 30 st)) x bd2 bk2 → ((nS n b 0 30 (nS n b 0 30 st)).1 = 0 → r.toInt = nV n b st ∧ s.toInt = nV n b (nS n b 0 30 st)) → n9.toInt = ((NF + 1 : Nat) : Int) → Q x bd2 bk2 db fx nx ha nh (upd (upd fo (2 * NF) r) (2 * NF + 1) s) n9)
    (q2 : p1.toInt = 263749 → ∀ (r s x bd2 bk2 n9 : Int32), mS n b (nS n b 1 9 (nS n b 0 ((NF : Int) - 1) st)) x bd2 bk2 → ((nS n b 1 9 (nS n b 0 ((NF : Int) - 1) st)).1 = 0 → r.toInt = nV n b st ∧ s.toInt = nV n b (nS n b 0 ((NF : Int) - 1) st)) → n9.toInt = ((NH + 1 : Nat) : Int) → Q x bd2 bk2 db fx nx (upd (upd ha (2 * NH) r) (2 * NH + 1) s) n9 fo nf)
    (q3 : p1.toInt = 6648 → ∀ (r s x bd2 bk2 n9 : Int32), mS n b (nS n b 0 30 (nS n b 0 30 st)) x bd2 bk2 → ((nS n b 0 30 (nS n b 0 30 st)).1 = 0 → r.toInt = nV n b st ∧ s.toInt = nV n b (nS n b 0 30 st)) → n9.toInt = ((NX + 1 : Nat) : Int) → Q x bd2 bk2 db (upd (upd fx (2 * NX) r) (2 * NX + 1) s) n9 ha nh fo nf)
    (q4 : p1.toInt = 136276 → ∀ (x bd2 bk2 : Int32) (db2 : Nat → Int32), mS n b (dbC n b NH st) x bd2 bk2 → ((dbC n b NH st).1 = 0 → ∃ (r : Int32) (k : Nat), k < 36 ∧ (k : Int) = 6 * nV n b st + nV n b (nS n b 0 ((NH : Int) - 1) st) ∧ r.toInt = nV n b (dbB n b NH st) ∧ db2 = upd db k r) → Q x bd2 bk2 db2 fx nx ha nh fo nf) : wq_X11_readRow_s len f a bd bk db fx nx ha nh fo nf p1 Q := by
  refine y_form (fun r2 e2 => ⟨fun z2 => y_hare (fun r5 e5 => ⟨fun z5 => y_fox (fun r8 e8 => ⟨fun z8 => ?_, fun z8 x14 e14 => ?_⟩), fun z5 x28 e28 => ?_⟩), fun z2 x42 e42 => ?_⟩)
  · rw [t_eq] at z2 z5 z8
    have hw : p1.toInt = 136276 := by
      rcases hr with w | w | w | w <;> omega
    exact ms_readDebt hl hn hb m1 m2 h (q4 hw)
  · have hw : p1.toInt = 6648 := by rw [z8]; exact e8
    have hx := hf3 hw
    have i1 : x14.toInt = ((2 * NX : Nat) : Int) := by rw [e14]; exact t_dbl x1 (by omega)
    refine ms_number hl hn hb h (by decide) (by decide) (fun r18 x15 x16 x17 c1 v1 => ⟨t_in (by omega) (by omega), fun f19 e19 x20 e20 x21 e21 => ms_number hl hn hb c1 (by decide) (by decide) (fun r25 x22 x23 x24 c2 v2 => ?_)⟩)
    have i2 : x21.toInt = ((2 * NX + 1 : Nat) : Int) := by rw [e21]; exact t_dbl1 (by rw [e20]; exact t_dbl x1 (by omega)) (by omega)
    refine ⟨t_in (by omega) (by omega), fun f26 e26 x27 e27 => ?_⟩
    rw [t_0, t_30] at v1 v2 c2
    rw [t_clamp i1] at e19
    rw [t_clamp i2, e19] at e26
    rw [e26]
    exact q3 hw r18 r25 x22 x23 x24 x27 c2 (fun z => ⟨v1 (nS_fine (lo := 0) (hi := 30) (st := nS n b 0 30 st) z).1, v2 z⟩) (by rw [e27, t_inc (by omega), x1]; omega)
  · have hw : p1.toInt = 263749 := by rw [z5]; exact e5
    have hx := hf2 hw
    have en : (nf - 1).toInt = (NF : Int) - 1 := by rw [t_pred (by omega), n1]
    have i1 : x28.toInt = ((2 * NH : Nat) : Int) := by rw [e28]; exact t_dbl m1 (by omega)
    refine ms_number hl hn hb h (by decide) (by rw [en]; omega) (fun r18 x15 x16 x17 c1 v1 => ⟨t_in (by omega) (by omega), fun f19 e19 x20 e20 x21 e21 => ms_number hl hn hb c1 (by decide) (by decide) (fun r25 x22 x23 x24 c2 v2 => ?_)⟩)
    have i2 : x21.toInt = ((2 * NH + 1 : Nat) : Int) := by rw [e21]; exact t_dbl1 (by rw [e20]; exact t_dbl m1 (by omega)) (by omega)
    refine ⟨t_in (by omega) (by omega), fun f26 e26 x27 e27 => ?_⟩
    rw [t_0, en] at v1
    rw [t_0, en, t_1, t_9] at v2 c2
    rw [t_clamp i1] at e19
    rw [t_clamp i2, e19] at e26
    rw [e26]
    exact q2 hw r18 r25 x22 x23 x24 x27 c2 (fun z => ⟨v1 (nS_fine (lo := 1) (hi := 9) (st := nS n b 0 ((NF : Int) - 1) st) z).1, v2 z⟩) (by rw [e27, t_inc (by omega), m1]; omega)
  · have hw : p1.toInt = 212557 := by rw [z2]; exact e2
    have hx := hf1 hw
    have i1 : x42.toInt = ((2 * NF : Nat) : Int) := by rw [e42]; exact t_dbl n1 (by omega)
    refine ms_number hl hn hb h (by decide) (by decide) (fun r18 x15 x16 x17 c1 v1 => ⟨t_in (by omega) (by omega), fun f19 e19 x20 e20 x21 e21 => ms_number hl hn hb c1 (by decide) (by decide) (fun r25 x22 x23 x24 c2 v2 => ?_)⟩)
    have i2 : x21.toInt = ((2 * NF + 1 : Nat) : Int) := by rw [e21]; exact t_dbl1 (by rw [e20]; exact t_dbl n1 (by omega)) (by omega)
    refine ⟨t_in (by omega) (by omega), fun f26 e26 x27 e27 => ?_⟩
    rw [t_0, t_30] at v1 v2 c2
    rw [t_clamp i1] at e19
    rw [t_clamp i2, e19] at e26
    rw [e26]
    exact q1 hw r18 r25 x22 x23 x24 x27 c2 (fun z => ⟨v1 (nS_fine (lo := 0) (hi := 30) (st := nS n b 0 30 st) z).1, v2 z⟩) (by rw [e27, t_inc (by omega), n1]; omega)
abbrev dQ := Int32 → Int32 → (Nat → Int32) → Int32 → Int32 → Int32 → Int32 → Int32 → Int32 → Int32 → Int32 → Int32 → (Nat → Int32) → Int32 → Int32 → Int32 → Int32 → (Nat → Int32) → (Nat → Int32) → (Nat → Int32) → Int32 → Int32 → Int32 → Int32 → Int32 → (Nat → Int32) → (Nat → Int32) → (Nat → Int32) → (Nat → Int32) → (Nat → Int32) → Prop
/-- a row that is too many -/
theorem ds_full {i NF NH NX : Nat} {F H G D : Nat → Int} (hr : isR (pw n b (sk n b st.2.2))) (hf : i = 60 ∨ ((pw n b (sk n b st.2.2) = 212557 ∧ NF = 8) ∨ (pw n b (sk n b st.2.2) = 263749 ∧ NH = 6) ∨ (pw n b (sk n b st.2.2) = 6648 ∧ NX = 4))) : dStep n b i st NF NH NX F H G D = (fS 3 (sk n b st.2.2) st, NF, NH, NX, F, H, G, D) := by
  rcases hr with w | w | w | w
  · rw [ds_form w, if_pos (by omega)]
  · rw [ds_hare w, if_pos (by omega)]
  · rw [ds_fox w, if_pos (by omega)]
  · rw [ds_debt w, if_pos (by omega)]
theorem ms_down44 {Q : dQ} {th tp fA op fm hm0 xm cd bo wo im rs : Int32} {rf fo0 ha0 fx0 bk0 nw : Nat → Int32} {R : dT} (hl : len.toInt = n) (hn : n ≤ 600) (hb : tB n f b)
    (hq : ∀ (a bd bk nf nh nx : Int32) (db fx ha fo : Nat → Int32), mS n b R.1 a bd bk → mD R nf nh nx db fx ha fo → wb_X11_down_s_136 f Q th rf tp fA len a bd op nf nh nx db bk fm hm0 xm fo0 ha0 fx0 cd bo wo im rs bk0 nw fx ha fo) :
    ∀ (k : Nat) (a bd bk nf nh nx : Int32) (db fx ha fo : Nat → Int32) (l2 : Int32) (i : Nat) (d : dT), mS n b d.1 a bd bk → mD d nf nh nx db fx ha fo → l2.toInt = i → i ≤ 61 → (d.1.1 = 0 → i ≤ 60) → 61 - i < k → dRun n b (61 - i) i d = R → wl_X11_down_s_44 f Q k th rf tp fA len a bd op nf nh nx db bk fm hm0 xm fo0 ha0 fx0 cd bo wo im rs bk0 nw fx ha fo l2 := by
  intro k
  induction k with
  | zero => intro a bd bk nf nh nx db fx ha fo l2 i d hm hd h1 h2 h3 h4; omega
  | succ k ih =>
    intro a bd bk nf nh nx db fx ha fo l2 i d hm hd h1 h2 h3 h4 hR
    refine ms_fine hm (fun h0 => ⟨fun z => absurd z (by first | decide | simp), fun _ => ?_⟩) (fun h0 => ⟨fun _ => ?_, fun z => absurd rfl z⟩)
    · have h3 := h3 h0
      refine ms_isMore hl hn hb hm h0 (fun w y cy => ⟨fun z => absurd z (by first | decide | simp), fun _ => ?_⟩) (fun w y cy => ⟨fun _ => ?_, fun z => absurd rfl z⟩)
      · obtain ⟨st, NF, NH, NX, F, H, G, D⟩ := d
        have h0 : st.1 = 0 := h0
        have w : sk n b st.2.2 < n := w
        have cy : mS n b st y bd bk := cy
        have hd : (nf.toInt = NF ∧ NF ≤ 8) ∧ (nh.toInt = NH ∧ NH ≤ 6) ∧ (nx.toInt = NX ∧ NX ≤ 4) ∧ (st.1 = 0 → pm (2 * NF) fo F ∧ pm (2 * NH) ha H ∧ pm (2 * NX) fx G ∧ pm 36 db D) := hd
        obtain ⟨⟨n1, n2⟩, ⟨m1, m2⟩, ⟨x1, x2⟩, hr⟩ := hd
        obtain ⟨r1, r2, r3, r4⟩ := hr h0
        rw [show 61 - i = (61 - (i + 1)) + 1 by omega, dRun_go h0 w] at hR
        have bad : ∀ (kd : Int) (a bd bk : Int32), kd ≠ 0 → dStep n b i st NF NH NX F H G D = (fS kd (sk n b st.2.2) st, NF, NH, NX, F, H, G, D) → mS n b (fS kd (sk n b st.2.2) st) a bd bk → ∀ l3 : Int32, wb_X11_down_s_105 f Q (fun v0_thrown f0_refused v0_taped v0_faultAt v0_size v0_at v0_bad v0_opens v0_newForms v0_newHares v0_newFoxes f0_newDebt v0_badKind v0_forms v0_hares v0_foxes f0_form f0_hare f0_fox v0_codes v0_books v0_works v0_images v0_refusedSteps f0_book f0_now f0_newFox f0_newHare f0_newForm l2 => wl_X11_down_s_44 f Q k v0_thrown f0_refused v0_taped v0_faultAt v0_size v0_at v0_bad v0_opens v0_newForms v0_newHares v0_newFoxes f0_newDebt v0_badKind v0_forms v0_hares v0_foxes f0_form f0_hare f0_fox v0_codes v0_books v0_works v0_images v0_refusedSteps f0_book f0_now f0_newFox f0_newHare f0_newForm l2) th rf tp fA len a bd op nf nh nx db bk fm hm0 xm fo0 ha0 fx0 cd bo wo im rs bk0 nw fx ha fo l2 l3 := fun kd a bd bk hk e c l3 => by
          rw [e, dRun_end (Or.inl (by rw [fS_0 h0]; exact hk))] at hR
          refine ms_fine c (fun z => absurd (by rw [fS_0 h0] at z; exact z) hk) (fun z => ⟨fun g => absurd rfl g, fun _ => hq _ _ _ _ _ _ _ _ _ _ (by rw [← hR]; exact c) ?_⟩)
          rw [← hR]
          exact ⟨⟨n1, n2⟩, ⟨m1, m2⟩, ⟨x1, x2⟩, fun g => absurd (by rw [fS_0 h0] at g; exact g) hk⟩
        refine ms_word hl hn hb cy h0 (fun r23 x22 c22 e22 e23 => y_isRow (fun z24 => ⟨fun _ => ?_, fun z => absurd z (by first | decide | simp)⟩) (fun z24 => ⟨fun z => absurd rfl z, fun _ => ?_⟩))
        · have full : (i = 60 ∨ ((pw n b (sk n b st.2.2) = 212557 ∧ NF = 8) ∨ (pw n b (sk n b st.2.2) = 263749 ∧ NH = 6) ∨ (pw n b (sk n b st.2.2) = 6648 ∧ NX = 4))) → wb_X11_down_s_96 f Q (fun v0_thrown f0_refused v0_taped v0_faultAt v0_size v0_at v0_bad v0_opens v0_newForms v0_newHares v0_newFoxes f0_newDebt v0_badKind v0_forms v0_hares v0_foxes f0_form f0_hare f0_fox v0_codes v0_books v0_works v0_images v0_refusedSteps f0_book f0_now f0_newFox f0_newHare f0_newForm l2 => wl_X11_down_s_44 f Q k v0_thrown f0_refused v0_taped v0_faultAt v0_size v0_at v0_bad v0_opens v0_newForms v0_newHares v0_newFoxes f0_newDebt v0_badKind v0_forms v0_hares v0_foxes f0_form f0_hare f0_fox v0_codes v0_books v0_works v0_images v0_refusedSteps f0_book f0_now f0_newFox f0_newHare f0_newForm l2) th rf tp fA len x22 bd op nf nh nx db bk fm hm0 xm fo0 ha0 fx0 cd bo wo im rs bk0 nw fx ha fo l2 r23 := fun hf =>
            ms_wrong (s := sk n b st.2.2) c22 (fun _ => e22) (by decide) (fun bd2 bk2 c => bad 3 _ _ _ (by decide) (ds_full (by rw [← e23]; exact z24) hf) (by rw [t_3] at c; exact c) r23)
          refine ⟨fun g => full (Or.inl (by rw [t_eq, t_60] at g; omega)), fun g => ?_⟩
          rw [t_eq, t_60] at g
          refine y_isFull (fun hf => ⟨fun z => absurd z (by first | decide | simp), fun _ => full (Or.inr (by rw [← e23]; omega))⟩) (fun hf => ⟨fun _ => ?_, fun z => absurd rfl z⟩)
          refine ms_fine c22 (fun _ => ⟨fun _ => ?_, fun z => absurd z (by first | decide | simp)⟩) (fun z => absurd h0 z)
          refine ms_pass hl hn hb c22 h0 e22 (fun x51 c51 => ?_)
          have nx1 : ∀ x65 : Int32, x65 = l2 + 1 → x65.toInt = ((i + 1 : Nat) : Int) := fun x65 e => by rw [e, t_inc (by omega), h1]; omega
          refine ms_row hl hn hb c51 n1 n2 m1 m2 x1 x2 z24 (by omega) (by omega) (by omega) (fun hw r s x bd2 bk2 n9 c v e9 => ?_) (fun hw r s x bd2 bk2 n9 c v e9 => ?_) (fun hw r s x bd2 bk2 n9 c v e9 => ?_) (fun hw x bd2 bk2 db2 c v => ?_)
          · rw [e23] at hw
            rw [ds_form hw, if_neg (by omega)] at hR
            refine ms_sign hl hn hb c (by decide) (fun x62 x63 x64 c9 x65 e65 => ih _ _ _ _ _ _ _ _ _ _ x65 (i + 1) _ ?_ ?_ (nx1 x65 e65) (by omega) (fun _ => by omega) (by omega) hR)
            · rw [t_59] at c9; exact c9
            · exact ⟨⟨e9, by show NF + 1 ≤ 8; omega⟩, ⟨m1, m2⟩, ⟨x1, x2⟩, fun z => ⟨pm_push r1 (v (twS_fine z).2).1 (v (twS_fine z).2).2, r2, r3, r4⟩⟩
          · rw [e23] at hw
            rw [ds_hare hw, if_neg (by omega)] at hR
            refine ms_sign hl hn hb c (by decide) (fun x62 x63 x64 c9 x65 e65 => ih _ _ _ _ _ _ _ _ _ _ x65 (i + 1) _ ?_ ?_ (nx1 x65 e65) (by omega) (fun _ => by omega) (by omega) hR)
            · rw [t_59] at c9; exact c9
            · exact ⟨⟨n1, n2⟩, ⟨e9, by show NH + 1 ≤ 6; omega⟩, ⟨x1, x2⟩, fun z => ⟨r1, pm_push r2 (v (twS_fine z).2).1 (v (twS_fine z).2).2, r3, r4⟩⟩
          · rw [e23] at hw
            rw [ds_fox hw, if_neg (by omega)] at hR
            refine ms_sign hl hn hb c (by decide) (fun x62 x63 x64 c9 x65 e65 => ih _ _ _ _ _ _ _ _ _ _ x65 (i + 1) _ ?_ ?_ (nx1 x65 e65) (by omega) (fun _ => by omega) (by omega) hR)
            · rw [t_59] at c9; exact c9
            · exact ⟨⟨n1, n2⟩, ⟨m1, m2⟩, ⟨e9, by show NX + 1 ≤ 4; omega⟩, fun z => ⟨r1, r2, pm_push r3 (v (twS_fine z).2).1 (v (twS_fine z).2).2, r4⟩⟩
          · rw [e23] at hw
            rw [ds_debt hw, if_neg (by omega)] at hR
            refine ms_sign hl hn hb c (by decide) (fun x62 x63 x64 c9 x65 e65 => ih _ _ _ _ _ _ _ _ _ _ x65 (i + 1) _ ?_ ?_ (nx1 x65 e65) (by omega) (fun _ => by omega) (by omega) hR)
            · rw [t_59] at c9; exact c9
            · refine ⟨⟨n1, n2⟩, ⟨m1, m2⟩, ⟨x1, x2⟩, fun z => ⟨r1, r2, r3, ?_⟩⟩
              obtain ⟨r, kk, k1, k2, k3, k4⟩ := v (dbS_fine z).1
              rw [k4, ← k2, Int.toNat_natCast]
              exact pm_upd r4 k3
        · rw [e23] at z24
          refine ms_wrong (s := sk n b st.2.2) c22 (fun _ => e22) (by decide) (fun bd2 bk2 c => bad 1 _ _ _ (by decide) (ds_none (fun z => z24 (Or.inl z)) (fun z => z24 (Or.inr (Or.inl z))) (fun z => z24 (Or.inr (Or.inr (Or.inl z)))) (fun z => z24 (Or.inr (Or.inr (Or.inr z))))) (by rw [t_1] at c; exact c) r23)
      · rw [dRun_end (Or.inr w)] at hR
        rw [hR] at cy hd
        exact hq _ _ _ _ _ _ _ _ _ _ cy hd
    · rw [dRun_end (Or.inl h0)] at hR
      rw [hR] at hm hd
      exact hq _ _ _ _ _ _ _ _ _ _ hm hd
end TN
