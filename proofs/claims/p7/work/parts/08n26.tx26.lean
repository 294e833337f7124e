/-! a book's text by the reference; book, by both -/
section TBm
variable {n : Nat} {b : Nat → Int} {len : Int32} {f : Nat → Int32}
abbrev bkQ := Int32 → Int32 → (Nat → Int32) → Int32 → Int32 → Int32 → Int32 → Int32 → Int32 → (Nat → Int32) → Int32 → Int32 → (Nat → Int32) → Prop
theorem ms_book67 {Q : bkQ} {th tp fA op bo fm : Int32} {rf bk0 : Nat → Int32} {F : Int} {R : bkT} (hl : len.toInt = n) (hn : n ≤ 600) (hb : tB n f b) (hp : fm.toInt = F) (hF0 : 0 ≤ F) (hF : F ≤ 8)
    (hq : ∀ (a bd bk many : Int32) (nb : Nat → Int32), mS n b R.1 a bd bk → cBk R many nb → wb_X11_book_168 fm f Q th rf tp fA len a bd op nb bk bo bk0 many) :
    ∀ (k : Nat) (a bd bk many : Int32) (nb : Nat → Int32) (i : Nat) (x : bkT), mS n b x.1 a bd bk → cBk x many nb → bkO x → (x.1.1 = 0 → x.2.1 = i) → i ≤ 9 → 9 - i < k → bkR n b F (9 - i) x = R → wl_X11_book_67 fm f Q k th rf tp fA len a bd op nb bk bo bk0 many := by
  intro k
  induction k with
  | zero => intro a bd bk many nb i x hm hB hO h1 h2 h3; omega
  | succ k ih =>
    intro a bd bk many nb i x hm hB hO h1 h2 h3 hR
    refine ms_fine hm (fun h0 => ⟨fun z => absurd z (by first | decide | simp), fun _ => ?_⟩) (fun h0 => ⟨fun _ => ?_, fun z => absurd rfl z⟩)
    · have hi : i ≤ 8 := by have := (hO h0).1; have := cnB_le (B := x.2.2) 8; have := h1 h0; omega
      refine ms_isMore hl hn hb hm h0 (fun w y cy => ⟨fun z => absurd z (by first | decide | simp), fun _ => ?_⟩) (fun w y cy => ⟨fun _ => ?_, fun z => absurd rfl z⟩)
      · rw [show 9 - i = (9 - (i + 1)) + 1 by omega, bkR_go h0 w] at hR
        obtain ⟨b1, b2⟩ := hB h0
        have en : (fm - 1).toInt = F - 1 := by rw [t_pred (by omega), hp]
        have i1 := h1 h0
        refine ms_here hl hn hb cy (fun r23 x22 c22 v22 => ms_number hl hn hb c22 (by decide) (by rw [en]; omega) (fun r27 x24 x25 x26 c24 v24 => ?_))
        rw [t_0, en] at c24 v24
        have tail : ∀ (a bd bk : Int32), mS n b (bkM n b F x.2.2 x.1) a bd bk → ((bkM n b F x.2.2 x.1).1 = 0 → r27.toInt = nV n b x.1) → wb_X11_book_128 fm f Q (fun v0_thrown f0_refused v0_taped v0_faultAt v0_size v0_at v0_bad v0_opens f0_newBook v0_badKind v0_books f0_book l2 => wl_X11_book_67 fm f Q k v0_thrown f0_refused v0_taped v0_faultAt v0_size v0_at v0_bad v0_opens f0_newBook v0_badKind v0_books f0_book l2) th rf tp fA len a bd op nb bk bo bk0 many r27 := fun a bd bk c hv => by
          refine ms_number hl hn hb c (by decide) (by decide) (fun r41 x38 x39 x40 c38 v38 => ms_sign hl hn hb c38 (by decide) (fun x42 x43 x44 c42 => ?_))
          rw [t_0, t_6] at v38
          rw [t_0, t_6, t_59] at c42
          have c42 : mS n b (bkS n b F x).1 x42 x43 x44 := c42
          refine ms_fine c42 (fun hz => ⟨fun _ => ?_, fun z => absurd z (by first | decide | simp)⟩) (fun hz => ⟨fun z => absurd rfl z, fun _ => ?_⟩)
          · obtain ⟨s1, s2, s3, s4⟩ := bkS_fine hz
            obtain ⟨-, a1, a2⟩ := nS_fine s3
            have el := hv s2
            have ec : r27.toNatClampNeg = (nV n b x.1).toNat := t_clamp (by rw [el]; omega)
            refine ⟨t_in (by omega) (by omega), fun f47 e47 x48 e48 => ih _ _ _ x48 f47 (i + 1) _ c42 (fun _ => ⟨?_, ?_⟩) (bkO_s hF hO) (fun _ => by show x.2.1 + 1 = i + 1; omega) (by omega) (by omega) hR⟩
            · show x48.toInt = ((x.2.1 + 1 : Nat) : Int)
              rw [e48, t_inc (by omega), b1]; omega
            · rw [e47, ec]
              exact pm_upd b2 (v38 s1)
          · rw [bkR_end (Or.inl hz)] at hR
            exact hq _ _ _ _ _ (by rw [← hR]; exact c42) (fun w => absurd (by rw [← hR] at w; exact w) hz)
        refine ms_fine c24 (fun hs => ⟨fun z => absurd z (by first | decide | simp), fun _ => ?_⟩) (fun hs => ⟨fun _ => tail _ _ _ (by rw [bkM_bad hs]; exact c24) (fun w => absurd (by rw [bkM_bad hs] at w; exact w) hs), fun z => absurd rfl z⟩)
        obtain ⟨-, a1, a2⟩ := nS_fine hs
        have el := v24 hs
        have ec : r27.toNatClampNeg = (nV n b x.1).toNat := t_clamp (by rw [el]; omega)
        refine ⟨t_in (by omega) (by omega), fun x30 e30 => ⟨fun z => tail _ _ _ ?_ (fun _ => el), fun z => ?_⟩⟩
        · rw [ec] at e30
          have hz : x.2.2 (nV n b x.1).toNat = -1 := by rw [← b2 _ (by omega), ← e30, z, t_m1]
          unfold bkM
          rw [if_neg (fun d => d hz)]; exact c24
        · rw [ec] at e30
          have hz : x.2.2 (nV n b x.1).toNat ≠ -1 := fun e => z (by rw [t_eq, t_m1, e30, b2 _ (by omega)]; exact e)
          refine ms_wrong (s := sk n b x.1.2.2) c24 (fun _ => (v22 h0).1) (by decide) (fun bd2 bk2 c => tail _ _ _ ?_ (fun _ => el))
          unfold bkM
          rw [if_pos hz, ← t_2]; exact c
      · rw [bkR_end (Or.inr w)] at hR
        rw [hR] at cy hB
        exact hq _ _ _ _ _ cy hB
    · rw [bkR_end (Or.inl h0)] at hR
      rw [hR] at hm hB
      exact hq _ _ _ _ _ hm hB
theorem bkO_0 : bkO ((0, 0, 0), 0, fun _ => -1) := fun _ => ⟨rfl, fun j _ => ⟨Int.le_refl _, (show (-1 : Int) ≤ 6 by decide)⟩⟩
end TBm
section TBv
variable {by_ : Nat → Int32} {ci ln at_ tk fl fa fp p : Int32}
theorem v_X10_book {al asl : Nat} {nf sm : Int32} {ss : Nat → Int32} {rl rsl : Value} {P : Nat} {t : Nat → Int} {F : Int}
    {E : String → Int32 → Int32 → Int32 → Int32 → Int32 → Int32 → Int32 → Int32 → (Nat → Int32) → Value → Value → Prop}
    {Q : Int32 → Int32 → Int32 → Int32 → Int32 → Int32 → Int32 → Int32 → Int32 → (Nat → Int32) → Value → Value → Prop}
    (hf : fl.toInt = P) (hP : P ≤ 600) (ht : tB P by_ t) (hp : nf.toInt = F) (hF0 : 0 ≤ F) (hF : F ≤ 8) (he : ¬ uOk p fl 60 → E "java/lang/IllegalArgumentException" (ci + 1) ln at_ tk fl fa fp sm ss (.ref al) (.ref asl))
    (hbad : uOk p fl 60 → ∀ n : Nat, p.toInt = n → (bkAll n t F).1.1 ≠ 0 → ∀ (ln at_ tk fa fp sm : Int32) (ss : Nat → Int32), fa.toInt = (bkAll n t F).1.1 → fp.toInt = (bkAll n t F).1.2.1 → Q (fa - 10) ci ln at_ tk 0 fa fp sm ss (.ref al) (.ref asl))
    (hok : uOk p fl 60 → ∀ n : Nat, p.toInt = n → (bkAll n t F).1.1 = 0 → ∀ (ln at_ tk fa fp sm : Int32) (ss : Nat → Int32), fp.toInt = -1 → cBk (bkAll n t F) sm ss → Q sm ci ln at_ tk 0 fa fp sm ss (.ref asl) (.ref al)) :
    wq_X10_book al asl nf by_ ci ln at_ tk fl fa fp sm ss rl rsl p E Q := by
  refine u_X10_openText (M := 60) (by decide) (by omega) he (fun hu y y0 y1 y2 ey => ?_)
  obtain ⟨n, en⟩ : ∃ n : Nat, p.toInt = n := ⟨p.toInt.toNat, by have := hu.1; omega⟩
  have hn : n ≤ P := by have := hu.2.1; omega
  rw [ey]
  refine c_clear (fun s hs => ⟨10, cs_lines (n := n) (b := t) (R := bkAll n t F) en (by omega) (tB_le ht hn) hp hF0 hF (fun many seen a fa fp tk c9 b9 => ?_) 10 0 s 0 0 (-1) 0 0 0 ((0, 0, 0), 0, fun _ => -1) ⟨⟨0, t_0, by omega, fun _ => rfl⟩, t_0, fun _ => t_m1, fun w => absurd rfl w⟩ (fun _ => ⟨t_0, fun j hj => by rw [hs j hj]; exact t_m1⟩) bkO_0 t_0 (by omega) (by omega) rfl⟩)
  refine ⟨fun z => ⟨fun _ => ?_, fun c => absurd rfl c⟩, fun z => ⟨fun c => absurd c (by decide), fun _ => ?_⟩⟩
  · have h0 : (bkAll n t F).1.1 = 0 := by rw [← c9.2.1, z, t_0]
    exact hok hu n en h0 _ _ _ _ _ _ _ (c9.2.2.1 h0) b9
  · have h0 : (bkAll n t F).1.1 ≠ 0 := fun w => z (cS_fa c9 w)
    exact hbad hu n en h0 _ _ _ _ _ _ _ c9.2.1 (c9.2.2.2 h0)
end TBv
section TBw
variable {f : Nat → Int32} {th tp fA sz a0 bd0 op bk0 bo fm p1 : Int32} {rf nb bo0 : Nat → Int32} {Q : bkQ}
theorem v_X11_book {P : Nat} {t : Nat → Int} {F : Int} (hf : tp.toInt = P) (hP : P ≤ 600) (ht : tB P f t) (hp : fm.toInt = F) (hF0 : 0 ≤ F) (hF : F ≤ 8)
    (he : ¬ (0 ≤ p1.toInt ∧ p1.toInt ≤ P ∧ p1.toInt ≤ 60) → Q 0 1 (upd rf 1 (rf 1 + 1)) tp fA sz a0 bd0 op nb bk0 bo bo0)
    (hbad : 0 ≤ p1.toInt → p1.toInt ≤ P → p1.toInt ≤ 60 → ∀ n : Nat, p1.toInt = n → (bkAll n t F).1.1 ≠ 0 → ∀ (at_ bd bk : Int32) (nb : Nat → Int32), bd.toInt = (bkAll n t F).1.2.1 → bk.toInt = (bkAll n t F).1.1 → Q (bk - 10) 0 rf 0 bd p1 at_ bd 0 nb bk bo bo0)
    (hok : 0 ≤ p1.toInt → p1.toInt ≤ P → p1.toInt ≤ 60 → ∀ n : Nat, p1.toInt = n → (bkAll n t F).1.1 = 0 → ∀ (at_ bd bk many : Int32) (nb b2 : Nat → Int32), bd = -1 → cBk (bkAll n t F) many b2 → Q many 0 rf 0 bd p1 at_ bd 0 nb bk many b2) :
    wq_X11_book fm f th rf tp fA sz a0 bd0 op nb bk0 bo bo0 p1 Q := by
  have e1 : (1 : Int32).toNatClampNeg = 1 := by decide
  have bad : ¬ (0 ≤ p1.toInt ∧ p1.toInt ≤ P ∧ p1.toInt ≤ 60) → wb_X11_book_28 fm f Q 0 rf tp fA sz a0 bd0 op nb bk0 bo bo0 p1 := fun w =>
    ⟨fun z => absurd rfl z, fun _ => ⟨fun z => absurd rfl z, fun _ => ⟨t_in (by decide) (by decide), fun x3 e3 x4 e4 => ⟨t_in (by decide) (by decide), fun f5 e5 => ⟨fun _ => ⟨fun z => absurd rfl z, fun _ => by rw [e5, e4, e3, e1]; exact he w⟩, fun z => absurd z (by first | decide | simp)⟩⟩⟩⟩⟩
  refine ⟨fun c => bad (by rw [t_lt, t_0] at c; omega), fun c => ⟨fun c2 => bad (by rw [t_lt] at c2; omega), fun c2 => ⟨fun c3 => bad (by rw [t_lt, t_60] at c3; omega), fun c3 => ?_⟩⟩⟩
  rw [t_lt, t_0] at c
  rw [t_lt] at c2
  rw [t_lt, t_60] at c3
  have p0 : 0 ≤ p1.toInt := by omega
  have pP : p1.toInt ≤ P := by omega
  have p6 : p1.toInt ≤ 60 := by omega
  obtain ⟨n, en⟩ : ∃ n : Nat, p1.toInt = n := ⟨p1.toInt.toNat, by omega⟩
  have hb := tB_le ht (show n ≤ P by omega)
  refine ⟨fun _ => ⟨fun z => absurd rfl z, fun _ => ⟨fun _ => ?_, fun z => absurd z (by first | decide | simp)⟩⟩, fun z => absurd z (by first | decide | simp)⟩
  have clr : ∀ (k : Nat) (nb : Nat → Int32) (l2 : Int32) (i : Nat), l2.toInt = i → i ≤ 8 → (∀ j : Nat, j < i → nb j = -1) → 8 - i < k → wl_X11_book_46 fm f Q k 0 rf 0 (-1) p1 0 (-1) 0 nb bk0 bo bo0 l2 := by
    intro k
    induction k with
    | zero => intro nb l2 i h1 h2 h3 h4; omega
    | succ k ih =>
      intro nb l2 i h1 h2 h3 h4
      refine ⟨fun c => ⟨10, ms_book67 (n := n) (b := t) (R := bkAll n t F) en (by omega) hb hp hF0 hF (fun a bd bk many nb9 c9 b9 => ?_) 10 0 (-1) bk0 0 nb 0 ((0, 0, 0), 0, fun _ => -1) ⟨⟨0, t_0, by omega, fun _ => rfl⟩, fun _ => rfl, fun w => absurd rfl w⟩ (fun _ => ⟨t_0, fun j hj => by rw [h3 j (by rw [t_le, t_8] at c; omega)]; exact t_m1⟩) bkO_0 (fun _ => rfl) (by omega) (by omega) rfl⟩, fun c => ?_⟩
      · unfold wb_X11_book_168 wq_X11_result
        refine ms_fine c9 (fun h0 => ⟨fun z => absurd z (by first | decide | simp), fun _ => ⟨fun zb => ?_, fun z => absurd (c9.2.1 h0) z⟩⟩) (fun h0 => ⟨fun _ => ⟨fun z => absurd z (mS_nb c9 h0), fun _ => hbad p0 pP p6 n en h0 _ _ _ _ (c9.2.2 h0).1 (c9.2.2 h0).2⟩, fun z => absurd rfl z⟩)
        refine sf_X11_copies (by decide) (by decide) (fun t1 h1 => hok p0 pP p6 n en h0 _ _ _ _ _ _ zb (fun _ => ⟨(b9 h0).1, fun j hj => ?_⟩))
        rw [h1 j, t_8, if_pos (by omega)]
        exact (b9 h0).2 j hj
      · rw [t_le, t_8] at c
        refine ⟨t_in (by omega) (by omega), fun f15 e15 x16 e16 => ih f15 x16 (i + 1) (by rw [e16, t_inc (by omega), h1]; omega) (by omega) (fun j hj => ?_) (by omega)⟩
        rw [e15, t_clamp h1]
        by_cases z : j = i
        · rw [z, pk_us]
        · rw [pk_un z]; exact h3 j (by omega)
  exact ⟨9, clr 9 nb 0 0 t_0 (by omega) (fun j hj => by omega) (by omega)⟩
end TBw
