/-! the class's loop over a work's text -/
abbrev wF := Int32 → Int32 → Int32 → Int32 → Int32 → Int32 → (Nat → Int32) → (Nat → Int32) → (Nat → Int32) → (Nat → Int32) → Int32 → Int32 → (Nat → Int32) → Prop
/-- a place in the class's loop from which Q is reached -/
def wlA (len : Int32) (f : Nat → Int32) (Q : wF) (k : Nat) (vh vf L op a tk : Int32) (A : wA) (fa fp : Int32) (hd : Nat → Int32) (l4 : Int32) : Prop := wl_X9_readFrom_s_23 len f Q k vh vf L op a tk A.2.2.1 A.1 A.2.1 A.2.2.2 fa fp hd l4
/-- the rest of the loop, reached by a reader of steps at a depth -/
def CBk (n : Nat) (b : Nat → Int) (len : Int32) (f : Nat → Int32) (vh vf : Int32) {β : Type} (CB : wA → β → Nat → Nat → Prop) (o : Nat) (g : sT → sT × β) : Prop :=
  ∀ (Q : wF) (k : Nat) (st : sT) (L op a tk : Int32) (A : wA) (fa fp : Int32) (hd : Nat → Int32) (l4 : Int32) (i : Nat), cS n b st a fa fp → st.1 = 0 → st.2.2 ≤ n → op.toInt = (o : Int) → L.toInt = (i : Int) → 3 * i ≤ st.2.2 → (k : Int) + l4.toInt = 152 → 0 ≤ l4.toInt → l4.toInt ≤ (st.2.2 : Nat) →
  ((g st).1.1 ≠ 0 → ∀ (L op a tk : Int32) (A : wA) (fa fp : Int32) (hd : Nat → Int32), cS n b (g st).1 a fa fp → Q vh vf L op a tk A.2.2.1 A.1 A.2.1 A.2.2.2 fa fp hd) →
  ((g st).1.1 = 0 → ∀ (k : Nat) (L op a tk : Int32) (A' : wA) (fa fp : Int32) (hd' : Nat → Int32) (l4 : Int32) (j : Nat), cS n b (g st).1 a fa fp → op.toInt = (o : Int) → L.toInt = (j : Int) → CB A' (g st).2 i j → agA A A' 0 i → (∀ q : Nat, q < o → hd' q = hd q) → (k : Int) + l4.toInt = 152 → 0 ≤ l4.toInt → l4.toInt ≤ ((g st).1.2.2 : Nat) → wlA len f Q k vh vf L op a tk A' fa fp hd' l4) →
  wlA len f Q k vh vf L op a tk A fa fp hd l4
section WL
variable {n : Nat} {b : Nat → Int} {len : Int32} {f : Nat → Int32} {H F : Int} {vh vf : Int32}
theorem w_bad {Q : wF} {k : Nat} {L op a tk fa fp l4 : Int32} {A : wA} {hd : Nat → Int32} {st : sT} (hc : cS n b st a fa fp) (h0 : st.1 ≠ 0) (hk : 1 ≤ k) (hq : Q vh vf L op a tk A.2.2.1 A.1 A.2.1 A.2.2.2 fa fp hd) : wlA len f Q k vh vf L op a tk A fa fp hd l4 := by
  obtain ⟨k, rfl⟩ : ∃ j : Nat, k = j + 1 := ⟨k - 1, by omega⟩
  exact ⟨fun _ => hq, fun _ => sf_X8_isFaulty (fun z => absurd z (cS_nf hc h0)) (fun _ => ⟨fun _ => hq, fun d => absurd d (by decide)⟩)⟩
theorem w_one {β : Type} {eB : β → Nat} {CB : wA → β → Nat → Nat → Prop} {B : Option (sT → sT × β)} {o : Nat} (hl : len.toInt = n) (hn : n ≤ 150) (hb : tB n f b) (eH : vh.toInt = H) (hH0 : 0 ≤ H) (h6 : H ≤ 6) (eF : vf.toInt = F) (hF0 : 0 ≤ F) (h8 : F ≤ 8) (ho : o ≤ 6) (hC : okC eB CB)
    (hB0 : o = 6 → B = none) (hB1 : o < 6 → ∃ g : sT → sT × β, B = some g) (hBs : ∀ g : sT → sT × β, B = some g → CBk n b len f vh vf CB (o + 1) g ∧ gdB n eB g ∧ ∀ st : sT, st.1 = 0 → st.2.2 ≤ n → (g st).1.1 = 0 → at0 n b (sk n b (g st).1.2.2) = 93)
    {Q : wF} {k : Nat} {st : sT} {L op a tk fa fp l4 : Int32} {A : wA} {hd : Nat → Int32} {i : Nat} (hc : cS n b st a fa fp) (h0 : st.1 = 0) (hp : st.2.2 ≤ n) (eo : op.toInt = (o : Int)) (eL : L.toInt = (i : Int)) (hi : 3 * i ≤ st.2.2) (hk : (k : Int) + l4.toInt = 152) (hl0 : 0 ≤ l4.toInt) (hl4 : l4.toInt ≤ (st.2.2 : Nat)) (hw : (o = 0 ∧ sk n b st.2.2 < n) ∨ (0 < o ∧ at0 n b (sk n b st.2.2) ≠ 93))
    (bad : (stGw n b H F B st).1.1 ≠ 0 → ∀ (L op a tk : Int32) (A : wA) (fa fp : Int32) (hd : Nat → Int32), cS n b (stGw n b H F B st).1 a fa fp → Q vh vf L op a tk A.2.2.1 A.1 A.2.1 A.2.2.2 fa fp hd)
    (ok : (stGw n b H F B st).1.1 = 0 → ∀ (k : Nat) (L op a tk : Int32) (A' : wA) (fa fp : Int32) (hd' : Nat → Int32) (l4 : Int32) (j : Nat), cS n b (stGw n b H F B st).1 a fa fp → op.toInt = (o : Int) → L.toInt = (j : Int) → sgC CB A' (stGw n b H F B st).2 i j → agA A A' 0 i → (∀ q : Nat, q < o → hd' q = hd q) → (k : Int) + l4.toInt = 152 → 0 ≤ l4.toInt → l4.toInt ≤ ((stGw n b H F B st).1.2.2 : Nat) → wlA len f Q k vh vf L op a tk A' fa fp hd' l4) :
    wlA len f Q k vh vf L op a tk A fa fp hd l4 := by
  have hn6 : n ≤ 600 := by omega
  have t150 := t_150
  obtain ⟨k, rfl⟩ : ∃ j : Nat, k = j + 1 := ⟨k - 1, by omega⟩
  -- where the step's own reading ends
  have fine : ∀ (k : Nat) (L op a tk : Int32) (A' : wA) (fa fp : Int32) (hd' : Nat → Int32) (l4 : Int32), (stGw n b H F B st).1.1 ≠ 0 → cS n b (stGw n b H F B st).1 a fa fp → 1 ≤ k → wlA len f Q k vh vf L op a tk A' fa fp hd' l4 := fun k L op a tk A' fa fp hd' l4 z c hk => w_bad c z hk (bad z _ _ _ _ _ _ _ _ c)
  have go82 : ∀ a tk : Int32, cS n b st a fa fp → wb_X9_readFrom_s_82 len f Q (fun v0_hares v0_forms v0_length v0_open v1_at v1_token f0_second f0_kinds f0_first f0_third v1_fault v1_faultPlace f0_heads l4 => wl_X9_readFrom_s_23 len f Q k v0_hares v0_forms v0_length v0_open v1_at v1_token f0_second f0_kinds f0_first f0_third v1_fault v1_faultPlace f0_heads l4) vh vf L op a tk A.2.2.1 A.1 A.2.1 A.2.2.2 fa fp hd l4 := fun a tk hc => by
    refine w_step (B := B) (A := A) (i := i) (o := o) hl hn hb eH hH0 h6 eF hF0 h8 hc h0 hp eL hi eo ho hB0 (fun hw1 a t fa fp A' L' c1 l0 l1 hA x34 e34 => ?_) (fun hw1 ho6 a t fa fp A' L' op' c1 l0 l1 eo' hA x34 e34 => ?_) (fun hw1 ho6 a t fa fp c1 x34 e34 => ?_)
    · have q34 : x34.toInt = l4.toInt + 1 := by rw [e34]; exact t_inc (by omega)
      by_cases z : (stGw n b H F B st).1.1 = 0
      · obtain ⟨v, ev, eL', ag, v1, v2, v3, v4⟩ := hA z
        have on := gd_st (eB := eB) (B := B) (fun g hg => (hBs g hg).2.1) h0 hp z
        exact ok z k L' op a t A' fa fp hd x34 (i + 1) c1 eo eL' (by rw [ev]; exact ⟨⟨v1, v2, v3, v4⟩, rfl⟩) ag (fun _ _ => rfl) (by omega) (by omega) (by omega)
      · exact fine k L' op a t A' fa fp hd x34 z c1 (by omega)
    · have q34 : x34.toInt = l4.toInt + 1 := by rw [e34]; exact t_inc (by omega)
      obtain ⟨g, eg⟩ := hB1 ho6
      obtain ⟨hg1, hg2, hg3⟩ := hBs g eg
      have es : stGw n b H F B st = (gS n b 59 (gS n b 93 (g (gS n b 91 (nS n b 0 40 (wE n b st)))).1), [Sum.inr (nV n b (wE n b st), (g (gS n b 91 (nS n b 0 40 (wE n b st)))).2)]) := by
        unfold stGw; rw [if_pos hw1, eg]; rfl
      rw [es] at bad ok fine
      obtain ⟨s2, e2⟩ : ∃ s : sT, s = gS n b 91 (nS n b 0 40 (wE n b st)) := ⟨_, rfl⟩
      rw [← e2] at bad ok fine c1 hA
      have ends : (g s2).1.1 ≠ 0 → gS n b 59 (gS n b 93 (g s2).1) = (g s2).1 := fun z => by rw [gS_bad z, gS_bad z]
      by_cases z2 : s2.1 = 0
      · obtain ⟨eL', ag, v1, v2⟩ := hA z2
        have z2' := z2
        rw [e2] at z2'
        have a2 := gS_on (by decide) z2'
        have a1 := nS_on (gS_fine z2')
        have a0 := wE_3 (n := n) (b := b) (st := st) (by omega)
        rw [← e2] at a2
        refine hg1 Q k s2 L' op' a t A' fa fp (upd hd o L) x34 (i + 1) c1 z2 a2.2 eo' eL' (by omega) (by omega) (by omega) (by omega) (fun z => ?_) (fun z k3 L3 op3 a3 t3 A3 fa3 fp3 hd3 l3 j c3 eo3 eL3 hCB ag3 hh3 hk3 hl03 hl3 => ?_)
        · have g9 := bad (by rw [ends z]; exact z)
          rw [ends z] at g9; exact g9
        · have hend := hg3 s2 z2 a2.2 z
          have on := (hg2 s2).2 z2 a2.2 z
          have e93 : gS n b 93 (g s2).1 = (0, 0, sk n b (g s2).1.2.2 + 1) := gS_0 z hend
          rw [e93] at bad ok fine
          obtain ⟨q1, q2⟩ := hC A3 A3 (g s2).2 (i + 1) j hCB
          have hlt : sk n b (g s2).1.2.2 < n := at0_lt hend (by decide)
          have hsk := (sk_facts (n := n) (b := b) _ (g s2).1.2.2 rfl).1
          obtain ⟨k3, rfl⟩ : ∃ j : Nat, k3 = j + 1 := ⟨k3 - 1, by omega⟩
          have hh : hd3 o = L := by rw [hh3 o (by omega), pk_us]
          refine ⟨fun c => ?_, fun _ => sf_X8_isFaulty (fun _ => ⟨fun d => absurd rfl d, fun _ => ⟨fun _ => ⟨fun c => ?_, fun _ => ?_⟩, fun c => ?_⟩⟩) (fun d => absurd (cS_fa c3 z) d)⟩
          · rw [t_lt, t_150] at c; omega
          · rw [t_le, t_0] at c; omega
          · refine cs_takes hl hn6 hb c3 (by decide) (fun w x c5 => ?_) (fun _ _ x t5 c5 et5 => ⟨fun d => absurd d (by first | decide | simp), fun _ x1 e1 => ?_⟩)
            · rw [t_93] at w
              exact absurd hend (w.resolve_left (fun d => d z))
            · have k1 : x1.toInt = (o : Int) := by rw [e1, t_pred (by omega), eo3]; omega
              refine ⟨t_in (by omega) (by omega), fun x2 e2x => ?_⟩
              rw [t_clamp k1, hh] at e2x
              have t50 : (50 : Int32).toInt = 50 := by decide
              refine ⟨fun c => ?_, fun _ => ⟨t_in (by rw [e2x]; omega) (by rw [e2x]; omega), fun f4 e4 => ?_⟩⟩
              · rw [t_le, t50, e2x] at c; omega
              rw [e2x, t_clamp eL] at e4
              refine w_add (A := (A3.1, A3.2.1, f4, A3.2.2.2)) (by omega) (by omega) (fun A5 L5 l05 l15 hA5 => cs_needs hl hn6 hb c5 (by decide) (fun x19 x20 x21 x22 c6 x35 e35 => ?_))
              rw [t_59] at c6
              have q35 : x35.toInt = l3.toInt + 1 := by rw [e35]; exact t_inc (by omega)
              by_cases z6 : (gS n b 59 (0, 0, sk n b (g s2).1.2.2 + 1)).1 = 0
              · obtain ⟨eA5, eL5⟩ := hA5 j eL3 (by omega)
                have on6 := gS_on (by decide) z6
                have on6 : sk n b (g s2).1.2.2 + 1 < (gS n b 59 (0, 0, sk n b (g s2).1.2.2 + 1)).2.2 ∧ _ := on6
                have agj : agA A3 A5 (i + 1) j := fun q h1 h2 => by
                  rw [eA5, e4]
                  unfold adA
                  refine ⟨?_, ?_, ?_, ?_⟩
                  · show A3.1 q = upd A3.1 j 5 q
                    rw [pk_un (by omega)]
                  · show A3.2.1 q = upd A3.2.1 j x2 q
                    rw [pk_un (by omega)]
                  · show A3.2.2.1 q = upd (upd A3.2.2.1 i L3) j 0 q
                    rw [pk_un (by omega), pk_un (by omega)]
                  · show A3.2.2.2 q = upd A3.2.2.2 j 0 q
                    rw [pk_un (by omega)]
                have ag0 : agA A3 A5 0 i := fun q h1 h2 => by
                  rw [eA5, e4]
                  unfold adA
                  refine ⟨?_, ?_, ?_, ?_⟩
                  · show A3.1 q = upd A3.1 j 5 q
                    rw [pk_un (by omega)]
                  · show A3.2.1 q = upd A3.2.1 j x2 q
                    rw [pk_un (by omega)]
                  · show A3.2.2.1 q = upd (upd A3.2.2.1 i L3) j 0 q
                    rw [pk_un (by omega), pk_un (by omega)]
                  · show A3.2.2.2 q = upd A3.2.2.2 j 0 q
                    rw [pk_un (by omega)]
                obtain ⟨m1, m2, -, -⟩ := ag3 i (Nat.zero_le _) (by omega)
                refine ok z6 k3 L5 x1 x19 x20 A5 x21 x22 hd3 x35 (j + 1) c6 k1 eL5 ⟨j, ⟨?_, ?_, ?_, ?_, ?_⟩, (hC A3 A5 (g s2).2 (i + 1) j hCB).2 agj, rfl⟩ (ag_tr ag (ag_tr (ag_le ag3 (Nat.le_refl _) (by omega)) ag0)) (fun q hq => by rw [hh3 q (by omega), pk_un (by omega)]) (by omega) (by omega) (by show x35.toInt ≤ ((gS n b 59 (0, 0, sk n b (g s2).1.2.2 + 1)).2.2 : Nat); omega)
                · rw [eA5]
                  show (upd A3.1 j 5 i).toInt = 4
                  rw [pk_un (by omega), ← m1]; exact v1
                · rw [eA5]
                  show (upd A3.2.1 j x2 i).toInt = _
                  rw [pk_un (by omega), ← m2]; exact v2
                · rw [eA5, e4]
                  show (upd (upd A3.2.2.1 i L3) j 0 i).toInt = _
                  rw [pk_un (by omega), pk_us]; exact eL3
                · rw [eA5]
                  show (upd A3.1 j 5 j).toInt = 5
                  rw [pk_us]; decide
                · rw [eA5]
                  show (upd A3.2.1 j x2 j).toInt = _
                  rw [pk_us, e2x]; exact eL
              · exact fine k3 L5 x1 x19 x20 A5 x21 x22 hd3 x35 z6 c6 (by omega)
          · rw [t_eq, t_0] at c; omega
      · have ez : gS n b 59 (gS n b 93 (g s2).1) = s2 := by rw [(hg2 s2).1 z2, gS_bad z2, gS_bad z2]
        have g9 := fine k L' op' a t A' fa fp (upd hd o L) x34
        rw [ez] at g9
        exact g9 z2 c1 (by omega)
    · have eN := hB0 ho6
      have es : stGw n b H F B st = ((3, sk n b st.2.2, 0), []) := by
        unfold stGw; rw [if_pos hw1, eN]; rfl
      have q34 : x34.toInt = l4.toInt + 1 := by rw [e34]; exact t_inc (by omega)
      have g9 := fine k L op a t A fa fp hd x34
      rw [es] at g9
      exact g9 (by show ¬ (3 : Int) = 0; decide) c1 (by omega)
  refine ⟨fun c => ?_, fun _ => sf_X8_isFaulty (fun _ => ⟨fun d => absurd rfl d, fun _ => ⟨fun d => ?_, fun d => ?_⟩⟩) (fun d => absurd (cS_fa hc h0) d)⟩
  · rw [t_lt, t_150] at c; omega
  · rw [t_eq, t_0] at d
    obtain ⟨ho0, hw⟩ := hw.resolve_left (fun w => d (by omega))
    refine ⟨fun c => ?_, fun _ => cs_takes hl hn6 hb hc (by decide) (fun _ x c5 => ⟨fun _ => go82 x _ c5, fun d => absurd rfl d⟩) (fun _ w x t5 c5 et5 => ?_)⟩
    · rw [t_le, t_0] at c; omega
    · rw [t_93] at w; exact absurd w hw
  · rw [t_eq, t_0] at d
    have hw := (hw.resolve_right (fun w => by omega)).2
    refine cs_isEnded hl hn6 hb hc h0 (fun _ x c5 => ⟨fun _ => ⟨fun _ => go82 x _ c5, fun c => ?_⟩, fun d => absurd rfl d⟩) (fun w => absurd hw w)
    rw [t_le, t_0] at c; omega
/-- a block -/
theorem w_bl {β : Type} {eB : β → Nat} {CB : wA → β → Nat → Nat → Prop} {B : Option (sT → sT × β)} {o : Nat} (hl : len.toInt = n) (hn : n ≤ 150) (hb : tB n f b) (eH : vh.toInt = H) (hH0 : 0 ≤ H) (h6 : H ≤ 6) (eF : vf.toInt = F) (hF0 : 0 ≤ F) (h8 : F ≤ 8) (ho0 : 0 < o) (ho : o ≤ 6) (hC : okC eB CB)
    (hB0 : o = 6 → B = none) (hB1 : o < 6 → ∃ g : sT → sT × β, B = some g) (hBs : ∀ g : sT → sT × β, B = some g → CBk n b len f vh vf CB (o + 1) g ∧ gdB n eB g ∧ ∀ st : sT, st.1 = 0 → st.2.2 ≤ n → (g st).1.1 = 0 → at0 n b (sk n b (g st).1.2.2) = 93)
    {Q : wF} {i0 : Nat} {A0 : wA} {hd0 : Nat → Int32} {R : sT × TG β}
    (bad : R.1.1 ≠ 0 → ∀ (L op a tk : Int32) (A : wA) (fa fp : Int32) (hd : Nat → Int32), cS n b R.1 a fa fp → Q vh vf L op a tk A.2.2.1 A.1 A.2.1 A.2.2.2 fa fp hd)
    (ok : R.1.1 = 0 → ∀ (k : Nat) (L op a tk : Int32) (A' : wA) (fa fp : Int32) (hd' : Nat → Int32) (l4 : Int32) (j : Nat), cS n b R.1 a fa fp → op.toInt = (o : Int) → L.toInt = (j : Int) → sgC CB A' R.2 i0 j → agA A0 A' 0 i0 → (∀ q : Nat, q < o → hd' q = hd0 q) → (k : Int) + l4.toInt = 152 → 0 ≤ l4.toInt → l4.toInt ≤ (R.1.2.2 : Nat) → wlA len f Q k vh vf L op a tk A' fa fp hd' l4) :
    ∀ (kk : Nat) (x : sT × TG β) (k : Nat) (L op a tk : Int32) (A : wA) (fa fp : Int32) (hd : Nat → Int32) (l4 : Int32) (i : Nat), blG n b H F B kk x = R → cS n b x.1 a fa fp → (x.1.1 = 0 → x.1.2.2 ≤ n ∧ op.toInt = (o : Int) ∧ L.toInt = (i : Int) ∧ sgC CB A x.2 i0 i ∧ agA A0 A 0 i0 ∧ (∀ q : Nat, q < o → hd q = hd0 q) ∧ 3 * i ≤ x.1.2.2 ∧ 0 ≤ l4.toInt ∧ l4.toInt ≤ (x.1.2.2 : Nat) ∧ (k : Int) + l4.toInt = 152) → 1 ≤ k → wlA len f Q k vh vf L op a tk A fa fp hd l4 := by
  intro kk
  induction kk with
  | zero =>
    intro x k L op a tk A fa fp hd l4 i hR hc hx hk
    have hR : x = R := hR
    by_cases z : x.1.1 = 0
    · obtain ⟨p1, p2, p3, p4, p5, p6, p7, p8, p9, p10⟩ := hx z
      rw [hR] at z hc p4 p9
      exact ok z k L op a tk A fa fp hd l4 i hc p2 p3 p4 p5 p6 p10 p8 p9
    · rw [hR] at z hc
      exact w_bad hc z hk (bad z _ _ _ _ _ _ _ _ hc)
  | succ kk ih =>
    intro x k L op a tk A fa fp hd l4 i hR hc hx hk
    have hR : (if x.1.1 ≠ 0 ∨ at0 n b (sk n b x.1.2.2) = 93 then x else blG n b H F B kk ((stGw n b H F B x.1).1, x.2 ++ (stGw n b H F B x.1).2)) = R := hR
    by_cases z : x.1.1 = 0
    · obtain ⟨p1, p2, p3, p4, p5, p6, p7, p8, p9, p10⟩ := hx z
      by_cases w : at0 n b (sk n b x.1.2.2) = 93
      · rw [if_pos (Or.inr w)] at hR
        rw [hR] at z hc p4 p9
        exact ok z k L op a tk A fa fp hd l4 i hc p2 p3 p4 p5 p6 p10 p8 p9
      · rw [if_neg (fun d => d.elim (fun y => y z) w)] at hR
        refine w_one hl hn hb eH hH0 h6 eF hF0 h8 ho hC hB0 hB1 hBs hc z p1 p2 p3 p7 p10 p8 p9 (Or.inr ⟨ho0, w⟩) (fun zs L op a tk A fa fp hd c => ?_) (fun zs k L op a tk A' fa fp hd' l4 j c q2 q3 q4 q5 q6 q10 q8 q9 => ?_)
        · have e : R.1 = (stGw n b H F B x.1).1 := by
            rw [← hR]
            rw [(gd_bl (n := n) (b := b) (H := H) (F := F) (eB := eB) (B := B) (fun g hg => (hBs g hg).2.1) kk ((stGw n b H F B x.1).1, x.2 ++ (stGw n b H F B x.1).2)).1 zs]
          rw [← e] at zs c
          exact bad zs L op a tk A fa fp hd c
        · have on := gd_st (eB := eB) (B := B) (fun g hg => (hBs g hg).2.1) z p1 zs
          obtain ⟨en, -⟩ := sg_ok hC A' A' _ i j q4
          obtain ⟨en0, en1⟩ := sg_ok hC A A' _ i0 i p4
          refine ih _ k L op a tk A' fa fp hd' l4 j hR c (fun _ => ⟨on.2.1, q2, q3, sg_app q4 _ _ (en1 (ag_le q5 (Nat.zero_le _) (Nat.le_refl _))), ag_tr p5 (ag_le q5 (Nat.le_refl _) (by omega)), fun q hq => (q6 q hq).trans (p6 q hq), ?_, q8, q9, q10⟩) ?_
          · show 3 * j ≤ (stGw n b H F B x.1).1.2.2
            omega
          · omega
    · rw [if_pos (Or.inl z)] at hR
      rw [hR] at z hc
      exact w_bad hc z hk (bad z _ _ _ _ _ _ _ _ hc)
theorem bl_ends {β : Type} {eB : β → Nat} {B : Option (sT → sT × β)} (hn : n ≤ 150) (hB : ∀ f : sT → sT × β, B = some f → gdB n eB f) {st : sT} (h0 : st.1 = 0) (hp : st.2.2 ≤ n) (h : (blG n b H F B 150 (st, [])).1.1 = 0) : at0 n b (sk n b (blG n b H F B 150 (st, [])).1.2.2) = 93 := by
  have g := ((gd_bl hB 150 (st, [])).2 h0 hp h)
  rcases g.2.2.2 with w | w
  · exact w
  · have w : st.2.2 + 4 * 150 ≤ _ := w
    have := g.2.1
    omega
/-- blocks of all depths -/
theorem w_blN (hl : len.toInt = n) (hn : n ≤ 150) (hb : tB n f b) (eH : vh.toInt = H) (hH0 : 0 ≤ H) (h6 : H ≤ 6) (eF : vf.toInt = F) (hF0 : 0 ≤ F) (h8 : F ≤ 8) : ∀ m : Nat, m ≤ 5 → CBk n b len f vh vf (cN m) (6 - m) (blN n b H F m) ∧ gdB n (enN m) (blN n b H F m) ∧ ∀ st : sT, st.1 = 0 → st.2.2 ≤ n → (blN n b H F m st).1.1 = 0 → at0 n b (sk n b (blN n b H F m st).1.2.2) = 93 := by
  intro m
  induction m with
  | zero =>
    intro _
    refine ⟨?_, gd_blN 0, fun st h0 hp h => bl_ends (β := Empty) (eB := fun _ => 0) (B := none) hn (fun g hg => by cases hg) h0 hp h⟩
    intro Q k st L op a tk A fa fp hd l4 i hc h0 hp eo eL hi hk hl0 hl4 bad ok
    exact w_bl (β := Empty) (eB := fun _ => 0) (CB := fun _ _ _ _ => False) (B := none) (o := 6) hl hn hb eH hH0 h6 eF hF0 h8 (by omega) (by omega) (fun A A' B i j h => h.elim) (fun _ => rfl) (fun d => absurd d (by omega)) (fun g hg => by cases hg) (R := blN n b H F 0 st) (i0 := i) (A0 := A) (hd0 := hd) bad ok 150 (st, []) k L op a tk A fa fp hd l4 i rfl hc (fun _ => ⟨hp, eo, eL, rfl, ag_rf, fun _ _ => rfl, hi, hl0, hl4, hk⟩) (by omega)
  | succ m ih =>
    intro hm
    have im := ih (by omega)
    refine ⟨?_, gd_blN (m + 1), fun st h0 hp h => bl_ends (β := TT m) (eB := enN m) (B := some (blN n b H F m)) hn (fun g hg => by rw [← Option.some.inj hg]; exact im.2.1) h0 hp h⟩
    intro Q k st L op a tk A fa fp hd l4 i hc h0 hp eo eL hi hk hl0 hl4 bad ok
    exact w_bl (β := TT m) (eB := enN m) (CB := cN m) (B := some (blN n b H F m)) (o := 6 - (m + 1)) hl hn hb eH hH0 h6 eF hF0 h8 (by omega) (by omega) (cN_ok m) (fun d => absurd d (by omega)) (fun _ => ⟨_, rfl⟩) (fun g hg => by rw [← Option.some.inj hg, show 6 - (m + 1) + 1 = 6 - m by omega]; exact im) (R := blN n b H F (m + 1) st) (i0 := i) (A0 := A) (hd0 := hd) bad ok 150 (st, []) k L op a tk A fa fp hd l4 i rfl hc (fun _ => ⟨hp, eo, eL, rfl, ag_rf, fun _ _ => rfl, hi, hl0, hl4, hk⟩) (by omega)
/-- the whole text -/
theorem w_tp {Q : wF} {R : sT × TG (TT 5)} (hl : len.toInt = n) (hn : n ≤ 150) (hb : tB n f b) (eH : vh.toInt = H) (hH0 : 0 ≤ H) (h6 : H ≤ 6) (eF : vf.toInt = F) (hF0 : 0 ≤ F) (h8 : F ≤ 8)
    (hq : ∀ (L op a tk : Int32) (A : wA) (fa fp : Int32) (hd : Nat → Int32), cS n b R.1 a fa fp → (R.1.1 = 0 → L.toInt = ((enL (enN 5) R.2 : Nat) : Int) ∧ L.toInt ≤ 50 ∧ sgC (cN 5) A R.2 0 (enL (enN 5) R.2)) → Q vh vf L op a tk A.2.2.1 A.1 A.2.1 A.2.2.2 fa fp hd) :
    ∀ (kk : Nat) (x : sT × TG (TT 5)) (k : Nat) (L op a tk : Int32) (A : wA) (fa fp : Int32) (hd : Nat → Int32) (l4 : Int32) (i : Nat), tpG n b H F (some (blN n b H F 5)) kk x = R → n < x.1.2.2 + 4 * kk + 1 → cS n b x.1 a fa fp → (x.1.1 = 0 → x.1.2.2 ≤ n ∧ op.toInt = 0 ∧ L.toInt = (i : Int) ∧ sgC (cN 5) A x.2 0 i ∧ 3 * i ≤ x.1.2.2 ∧ 0 ≤ l4.toInt ∧ l4.toInt ≤ (x.1.2.2 : Nat) ∧ (k : Int) + l4.toInt = 152) → 1 ≤ k → wlA len f Q k vh vf L op a tk A fa fp hd l4 := by
  have h5 := w_blN (n := n) (b := b) (len := len) (f := f) (H := H) (F := F) (vh := vh) (vf := vf) hl hn hb eH hH0 h6 eF hF0 h8 5 (by omega)
  have bad9 : ∀ (x : sT × TG (TT 5)), x = R → x.1.1 ≠ 0 → ∀ (k : Nat) (L op a tk : Int32) (A : wA) (fa fp : Int32) (hd : Nat → Int32) (l4 : Int32), cS n b x.1 a fa fp → 1 ≤ k → wlA len f Q k vh vf L op a tk A fa fp hd l4 := fun x e z k L op a tk A fa fp hd l4 hc hk => w_bad hc z hk (hq _ _ _ _ _ _ _ _ (by rw [← e]; exact hc) (fun d => absurd (by rw [e]; exact d) z))
  have end9 : ∀ (x : sT × TG (TT 5)), x = R → x.1.1 = 0 → ¬ sk n b x.1.2.2 < n → ∀ (k : Nat) (L op a tk : Int32) (A : wA) (fa fp : Int32) (hd : Nat → Int32) (l4 : Int32) (i : Nat), cS n b x.1 a fa fp → op.toInt = 0 → L.toInt = (i : Int) → sgC (cN 5) A x.2 0 i → 3 * i ≤ x.1.2.2 → x.1.2.2 ≤ n → 1 ≤ k → wlA len f Q k vh vf L op a tk A fa fp hd l4 := fun x e z w k L op a tk A fa fp hd l4 i hc eo eL hs hi hp hk => by
    obtain ⟨en, -⟩ := sg_ok (cN_ok 5) A A _ 0 i hs
    have en : i = enL (enN 5) x.2 := by omega
    have fin : ∀ a : Int32, cS n b x.1 a fa fp → Q vh vf L op a tk A.2.2.1 A.1 A.2.1 A.2.2.2 fa fp hd := fun a hc => hq _ _ _ _ _ _ _ _ (by rw [← e]; exact hc) (fun _ => by rw [← e]; exact ⟨by rw [← en]; exact eL, by omega, by rw [← en]; exact hs⟩)
    obtain ⟨k, rfl⟩ : ∃ j : Nat, k = j + 1 := ⟨k - 1, by omega⟩
    refine ⟨fun _ => fin a hc, fun _ => sf_X8_isFaulty (fun _ => ⟨fun _ => fin a hc, fun _ => ⟨fun d => absurd (t_eq.mpr (by rw [t_0]; exact eo)) d, fun _ => cs_isEnded hl (by omega) hb hc z (fun d => absurd d w) (fun _ y c5 => ⟨fun d => absurd d (by first | decide | simp), fun _ => fin y c5⟩)⟩⟩) (fun d => absurd (cS_fa hc z) d)⟩
  intro kk
  induction kk with
  | zero =>
    intro x k L op a tk A fa fp hd l4 i hR hkk hc hx hk
    have hR : x = R := hR
    by_cases z : x.1.1 = 0
    · obtain ⟨p1, p2, p3, p4, p7, p8, p9, p10⟩ := hx z
      exact end9 x hR z (by have := (sk_facts (n := n) (b := b) _ x.1.2.2 rfl).1; omega) k L op a tk A fa fp hd l4 i hc p2 p3 p4 p7 p1 hk
    · exact bad9 x hR z k L op a tk A fa fp hd l4 hc hk
  | succ kk ih =>
    intro x k L op a tk A fa fp hd l4 i hR hkk hc hx hk
    have hR : (if x.1.1 ≠ 0 ∨ ¬ sk n b x.1.2.2 < n then x else tpG n b H F (some (blN n b H F 5)) kk ((stGw n b H F (some (blN n b H F 5)) x.1).1, x.2 ++ (stGw n b H F (some (blN n b H F 5)) x.1).2)) = R := hR
    by_cases z : x.1.1 = 0
    · obtain ⟨p1, p2, p3, p4, p7, p8, p9, p10⟩ := hx z
      by_cases w : sk n b x.1.2.2 < n
      · rw [if_neg (fun d => d.elim (fun y => y z) (fun y => y w))] at hR
        have hBs : ∀ g : sT → sT × TT 5, some (blN n b H F 5) = some g → CBk n b len f vh vf (cN 5) (0 + 1) g ∧ gdB n (enN 5) g ∧ ∀ st : sT, st.1 = 0 → st.2.2 ≤ n → (g st).1.1 = 0 → at0 n b (sk n b (g st).1.2.2) = 93 := fun g hg => by rw [← Option.some.inj hg]; exact h5
        refine w_one (o := 0) hl hn hb eH hH0 h6 eF hF0 h8 (by omega) (cN_ok 5) (fun d => absurd d (by omega)) (fun _ => ⟨_, rfl⟩) hBs hc z p1 p2 p3 p7 p10 p8 p9 (Or.inl ⟨rfl, w⟩) (fun zs L op a tk A fa fp hd c => ?_) (fun zs k L op a tk A' fa fp hd' l4 j c q2 q3 q4 q5 q6 q10 q8 q9 => ?_)
        · have e : R.1 = (stGw n b H F (some (blN n b H F 5)) x.1).1 := by
            rw [← hR]
            cases kk with
            | zero => rfl
            | succ kk =>
              show (if (stGw n b H F (some (blN n b H F 5)) x.1).1.1 ≠ 0 ∨ _ then ((stGw n b H F (some (blN n b H F 5)) x.1).1, x.2 ++ (stGw n b H F (some (blN n b H F 5)) x.1).2) else _ : sT × TG (TT 5)).1 = _
              rw [if_pos (Or.inl zs)]
          rw [← e] at zs c
          exact hq _ _ _ _ _ _ _ _ c (fun d => absurd d zs)
        · have on := gd_st (eB := enN 5) (B := some (blN n b H F 5)) (fun g hg => (hBs g hg).2.1) z p1 zs
          obtain ⟨en, -⟩ := sg_ok (cN_ok 5) A' A' _ i j q4
          obtain ⟨en0, en1⟩ := sg_ok (cN_ok 5) A A' _ 0 i p4
          refine ih _ k L op a tk A' fa fp hd' l4 j hR ?_ c (fun _ => ⟨on.2.1, q2, q3, sg_app q4 _ _ (en1 q5), ?_, q8, q9, q10⟩) (by omega)
          · show n < (stGw n b H F (some (blN n b H F 5)) x.1).1.2.2 + 4 * kk + 1
            omega
          · show 3 * j ≤ (stGw n b H F (some (blN n b H F 5)) x.1).1.2.2
            omega
      · rw [if_pos (Or.inr w)] at hR
        exact end9 x hR z w k L op a tk A fa fp hd l4 i hc p2 p3 p4 p7 p1 hk
    · rw [if_pos (Or.inl z)] at hR
      exact bad9 x hR z k L op a tk A fa fp hd l4 hc hk
/-- the class reads a work's text -/
theorem w_readFrom {Q : wF} {L op a tk fa fp : Int32} {A : wA} {hd : Nat → Int32} {vl vo : Int32} (hl : len.toInt = n) (hn : n ≤ 150) (hb : tB n f b) (eH : vh.toInt = H) (hH0 : 0 ≤ H) (h6 : H ≤ 6) (eF : vf.toInt = F) (hF0 : 0 ≤ F) (h8 : F ≤ 8) (hc : cS n b (0, 0, 0) a fa fp)
    (hq : ∀ (L op a tk : Int32) (A : wA) (fa fp : Int32) (hd : Nat → Int32), cS n b (wkAll n b H F).1 a fa fp → ((wkAll n b H F).1.1 = 0 → L.toInt = ((enL (enN 5) (wkAll n b H F).2 : Nat) : Int) ∧ L.toInt ≤ 50 ∧ sgC (cN 5) A (wkAll n b H F).2 0 (enL (enN 5) (wkAll n b H F).2)) → Q vh vf L op a tk A.2.2.1 A.1 A.2.1 A.2.2.2 fa fp hd) :
    wq_X9_readFrom_s len f vl vo L op a tk A.2.2.1 A.1 A.2.1 A.2.2.2 fa fp hd vh vf Q :=
  ⟨152, w_tp (R := wkAll n b H F) hl hn hb eH hH0 h6 eF hF0 h8 hq 150 ((0, 0, 0), []) 152 0 0 a tk A fa fp hd 0 0 rfl (by show n < 0 + 4 * 150 + 1; omega) hc (fun _ => ⟨Nat.zero_le _, t_0, t_0, rfl, Nat.le_refl _, by rw [t_0]; decide, by rw [t_0]; decide, by rw [t_0]; decide⟩) (by omega)⟩
end WL
