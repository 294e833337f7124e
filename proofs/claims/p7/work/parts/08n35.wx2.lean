/-! the class's rows of a work -/
abbrev wA := (Nat → Int32) × (Nat → Int32) × (Nat → Int32) × (Nat → Int32)
def agA (A A' : wA) (i j : Nat) : Prop := ∀ q : Nat, i ≤ q → q < j → A.1 q = A'.1 q ∧ A.2.1 q = A'.2.1 q ∧ A.2.2.1 q = A'.2.2.1 q ∧ A.2.2.2 q = A'.2.2.2 q
theorem ag_rf {A : wA} {i j : Nat} : agA A A i j := fun _ _ _ => ⟨rfl, rfl, rfl, rfl⟩
theorem ag_tr {A B C : wA} {i j : Nat} (h : agA A B i j) (g : agA B C i j) : agA A C i j := fun q h1 h2 => by
  obtain ⟨a1, a2, a3, a4⟩ := h q h1 h2
  obtain ⟨b1, b2, b3, b4⟩ := g q h1 h2
  exact ⟨a1.trans b1, a2.trans b2, a3.trans b3, a4.trans b4⟩
theorem ag_le {A B : wA} {i j i' j' : Nat} (h : agA A B i j) (h1 : i ≤ i') (h2 : j' ≤ j) : agA A B i' j' := fun q q1 q2 => h q (by omega) (by omega)
/-- a text's steps in the class's rows, from i to j -/
def sgC {β : Type} (CB : wA → β → Nat → Nat → Prop) (A : wA) : TG β → Nat → Nat → Prop
  | [], i, j => i = j
  | Sum.inl v :: L, i, j => ((A.1 i).toInt = v.1 ∧ (A.2.1 i).toInt = v.2.1 ∧ (A.2.2.1 i).toInt = v.2.2.1 ∧ (A.2.2.2 i).toInt = v.2.2.2) ∧ sgC CB A L (i + 1) j
  | Sum.inr v :: L, i, j => ∃ e : Nat, ((A.1 i).toInt = 4 ∧ (A.2.1 i).toInt = v.1 ∧ (A.2.2.1 i).toInt = (e : Int) ∧ (A.1 e).toInt = 5 ∧ (A.2.1 e).toInt = (i : Int)) ∧ CB A v.2 (i + 1) e ∧ sgC CB A L (e + 1) j
def okC {β : Type} (eB : β → Nat) (CB : wA → β → Nat → Nat → Prop) : Prop := ∀ (A A' : wA) (B : β) (i j : Nat), CB A B i j → j = i + eB B ∧ (agA A A' i j → CB A' B i j)
theorem sg_ok {β : Type} {eB : β → Nat} {CB : wA → β → Nat → Nat → Prop} (hC : okC eB CB) : okC (enL eB) (sgC CB) := by
  intro A A' L
  induction L with
  | nil => intro i j h; have h : i = j := h; exact ⟨by rw [← h]; rfl, fun _ => h⟩
  | cons x L ih =>
    intro i j h
    cases x with
    | inl v =>
      obtain ⟨h1, h2⟩ := h
      obtain ⟨g1, g2⟩ := ih (i + 1) j h2
      have e0 : enL eB (Sum.inl v :: L) = 1 + enL eB L := rfl
      refine ⟨by omega, fun a => ⟨?_, g2 (ag_le a (by omega) (Nat.le_refl _))⟩⟩
      obtain ⟨e1, e2, e3, e4⟩ := a i (Nat.le_refl _) (by omega)
      rw [← e1, ← e2, ← e3, ← e4]; exact h1
    | inr v =>
      obtain ⟨e, h1, h2, h3⟩ := h
      obtain ⟨g1, g2⟩ := ih (e + 1) j h3
      obtain ⟨k1, k2⟩ := hC A A' v.2 (i + 1) e h2
      have e0 : enL eB (Sum.inr v :: L) = 2 + eB v.2 + enL eB L := rfl
      refine ⟨by omega, fun a => ⟨e, ?_, k2 (ag_le a (by omega) (by omega)), g2 (ag_le a (by omega) (Nat.le_refl _))⟩⟩
      obtain ⟨e1, e2, e3, e4⟩ := a i (Nat.le_refl _) (by omega)
      obtain ⟨f1, f2, f3, f4⟩ := a e (by omega) (by omega)
      rw [← e1, ← e2, ← e3, ← f1, ← f2]; exact h1
theorem sg_app {β : Type} {CB : wA → β → Nat → Nat → Prop} {A : wA} {L2 : TG β} {m j : Nat} (g : sgC CB A L2 m j) : ∀ (L1 : TG β) (i : Nat), sgC CB A L1 i m → sgC CB A (L1 ++ L2) i j := by
  intro L1
  induction L1 with
  | nil => intro i h; have h : i = m := h; rw [h]; exact g
  | cons x L ih =>
    intro i h
    cases x with
    | inl v => exact ⟨h.1, ih (i + 1) h.2⟩
    | inr v =>
      obtain ⟨e, h1, h2, h3⟩ := h
      exact ⟨e, h1, h2, ih (e + 1) h3⟩
def cN : (m : Nat) → wA → TT m → Nat → Nat → Prop
  | 0 => sgC (β := Empty) (fun _ _ _ _ => False)
  | m + 1 => sgC (β := TT m) (cN m)
theorem cN_ok : ∀ m : Nat, okC (enN m) (cN m) := by
  intro m
  induction m with
  | zero => exact sg_ok (β := Empty) (eB := fun _ => 0) (fun A A' B i j h => h.elim)
  | succ m ih => exact sg_ok (β := TT m) ih
/-- a row more -/
def adA (A : wA) (i : Nat) (p1 p2 p3 p4 : Int32) : wA := (upd A.1 i p1, upd A.2.1 i p2, upd A.2.2.1 i p3, upd A.2.2.2 i p4)
theorem ad_ag {A : wA} {i : Nat} {p1 p2 p3 p4 : Int32} : agA A (adA A i p1 p2 p3 p4) 0 i := fun q _ h => ⟨(pk_un (by omega)).symm, (pk_un (by omega)).symm, (pk_un (by omega)).symm, (pk_un (by omega)).symm⟩
theorem w_add {Q : (Nat → Int32) → (Nat → Int32) → (Nat → Int32) → (Nat → Int32) → Int32 → Prop} {A : wA} {L p1 p2 p3 p4 : Int32} (h0 : 0 ≤ L.toInt) (h1 : L.toInt ≤ 50)
    (hq : ∀ (A' : wA) (L' : Int32), 0 ≤ L'.toInt → L'.toInt ≤ 50 → (∀ i : Nat, L.toInt = (i : Int) → i < 50 → A' = adA A i p1 p2 p3 p4 ∧ L'.toInt = ((i + 1 : Nat) : Int)) → Q A'.1 A'.2.1 A'.2.2.1 A'.2.2.2 L') : wq_X9_add A.1 A.2.1 A.2.2.1 A.2.2.2 L p1 p2 p3 p4 Q := by
  have t50 : (50 : Int32).toInt = 50 := by decide
  refine ⟨fun c => ?_, fun c => ?_⟩
  · rw [t_le, t50] at c
    exact hq A L h0 h1 (fun i e hi => by omega)
  · rw [t_le, t50] at c
    refine ⟨t_in h0 (by omega), fun f2 e2 => ⟨t_in h0 (by omega), fun f3 e3 => ⟨t_in h0 (by omega), fun f4 e4 => ⟨t_in h0 (by omega), fun f5 e5 x6 e6 => ?_⟩⟩⟩⟩
    have q6 : x6.toInt = L.toInt + 1 := by rw [e6]; exact t_inc (by omega)
    refine hq (f2, f3, f4, f5) x6 (by omega) (by omega) (fun i e hi => ⟨?_, by omega⟩)
    rw [e2, e3, e4, e5, t_clamp e]; rfl
/-! the class's reading of a work -/
section WC
variable {n : Nat} {b : Nat → Int} {len : Int32} {f : Nat → Int32} {H F : Int}
theorem wz_again : wSt 5 zb_X9_67 (fun j => (zb_X9_67 j).toInt) := ⟨by decide, by decide, by decide, by decide⟩
theorem wz_leap : wSt 4 zb_X9_76 (fun j => (zb_X9_76 j).toInt) := ⟨by decide, by decide, by decide, by decide⟩
theorem wz_box : wSt 3 zb_X9_86 (fun j => (zb_X9_86 j).toInt) := ⟨by decide, by decide, by decide, by decide⟩
theorem wz_pay : wSt 3 zb_X9_88 (fun j => (zb_X9_88 j).toInt) := ⟨by decide, by decide, by decide, by decide⟩
theorem wz_day : wSt 3 zb_X9_90 (fun j => (zb_X9_90 j).toInt) := ⟨by decide, by decide, by decide, by decide⟩
theorem wk_again : wK n b 5 zb_X9_67 1279278 := wK_5 wz_again (by decide)
theorem wk_leap : wK n b 4 zb_X9_76 398384 := wK_4 wz_leap (by decide)
theorem wk_box : wK n b 3 zb_X9_86 2552 := wK_3 wz_box (by decide)
theorem wk_pay : wK n b 3 zb_X9_88 16441 := wK_3 wz_pay (by decide)
theorem wk_day : wK n b 3 zb_X9_90 4153 := wK_3 wz_day (by decide)
abbrev wQ := Int32 → Int32 → Int32 → Int32 → (Nat → Int32) → (Nat → Int32) → (Nat → Int32) → (Nat → Int32) → Int32 → (Nat → Int32) → Int32 → Prop
/-- where the loops begin that are open -/
def hdA (hd : Nat → Int32) (o : Nat) : Prop := ∀ q : Nat, q < o → 0 ≤ (hd q).toInt ∧ (hd q).toInt ≤ 50
/-- one step of the class: a leaf is told, or a loop begins -/
theorem w_step {β : Type} {B : Option (sT → sT × β)} {Q : wQ} {vh vf a tk fa fp L op : Int32} {hd : Nat → Int32} {A : wA} {st : sT} {i o : Nat} (hl : len.toInt = n) (hn : n ≤ 150) (hb : tB n f b) (eH : vh.toInt = H) (hH0 : 0 ≤ H) (h6 : H ≤ 6) (eF : vf.toInt = F) (hF0 : 0 ≤ F) (h8 : F ≤ 8) (hc : cS n b st a fa fp) (h0 : st.1 = 0) (hp : st.2.2 ≤ n) (eL : L.toInt = (i : Int)) (hi : 3 * i ≤ st.2.2) (eo : op.toInt = (o : Int)) (ho : o ≤ 6) (hB : o = 6 → B = none)
    (q1 : pw n b (sk n b st.2.2) ≠ 1279278 → ∀ (a t fa fp : Int32) (A' : wA) (L' : Int32), cS n b (stGw n b H F B st).1 a fa fp → 0 ≤ L'.toInt → L'.toInt ≤ 50 → ((stGw n b H F B st).1.1 = 0 → ∃ v : wLf, (stGw n b H F B st).2 = [Sum.inl v] ∧ L'.toInt = ((i + 1 : Nat) : Int) ∧ agA A A' 0 i ∧ (A'.1 i).toInt = v.1 ∧ (A'.2.1 i).toInt = v.2.1 ∧ (A'.2.2.1 i).toInt = v.2.2.1 ∧ (A'.2.2.2 i).toInt = v.2.2.2) → Q a t fa fp A'.1 A'.2.1 A'.2.2.1 A'.2.2.2 L' hd op)
    (q2 : pw n b (sk n b st.2.2) = 1279278 → o < 6 → ∀ (a t fa fp : Int32) (A' : wA) (L' op' : Int32), cS n b (gS n b 91 (nS n b 0 40 (wE n b st))) a fa fp → 0 ≤ L'.toInt → L'.toInt ≤ 50 → op'.toInt = ((o + 1 : Nat) : Int) → ((gS n b 91 (nS n b 0 40 (wE n b st))).1 = 0 → L'.toInt = ((i + 1 : Nat) : Int) ∧ agA A A' 0 i ∧ (A'.1 i).toInt = 4 ∧ (A'.2.1 i).toInt = nV n b (wE n b st)) → Q a t fa fp A'.1 A'.2.1 A'.2.2.1 A'.2.2.2 L' (upd hd o L) op')
    (q3 : pw n b (sk n b st.2.2) = 1279278 → o = 6 → ∀ (a t fa fp : Int32), cS n b (3, sk n b st.2.2, 0) a fa fp → Q a t fa fp A.1 A.2.1 A.2.2.1 A.2.2.2 L hd op) :
    wq_X9_readStep_s vh vf len f a tk fa fp A.1 A.2.1 A.2.2.1 A.2.2.2 L hd op Q := by
  have hn6 : n ≤ 600 := by omega
  have eHm : (vh - 1).toInt = H - 1 := by rw [t_pred (by omega), eH]
  have eFm : (vf - 1).toInt = F - 1 := by rw [t_pred (by omega), eF]
  have fin : ∀ (w : Int) (p1 p2 p3 p4 a t fa fp : Int32), pw n b (sk n b st.2.2) = w → isLf w → cS n b (lfS n b H F w st) a fa fp → ((lfS n b H F w st).1 = 0 → p1.toInt = (lfV n b H w st).1 ∧ p2.toInt = (lfV n b H w st).2.1 ∧ p3.toInt = (lfV n b H w st).2.2.1 ∧ p4.toInt = (lfV n b H w st).2.2.2) → wq_X9_add A.1 A.2.1 A.2.2.1 A.2.2.2 L p1 p2 p3 p4 (fun f29 f30 f31 f32 x33 => wb_X9_readStep_s_173 vh vf len f Q a t fa fp f29 f30 f31 f32 x33 hd op) := fun w p1 p2 p3 p4 a t fa fp hw hlw c2 hv => by
    refine w_add (by omega) (by omega) (fun A' L' l0 l1 hA => cs_needs hl hn6 hb c2 (by decide) (fun x t2 fa2 fp2 c3 => ?_))
    rw [t_59] at c3
    have hw' := hw
    unfold isLf at hlw
    have es : stGw n b H F B st = (gS n b 59 (lfS n b H F w st), [Sum.inl (lfV n b H w st)]) := by
      unfold stGw
      rw [hw, if_neg (by omega), if_pos hlw]
    have g := q1 (by omega) x t2 fa2 fp2 A' L'
    rw [es] at g
    refine g c3 l0 l1 (fun z => ?_)
    have hz := gS_fine z
    have hon := lfS_on (n := n) (b := b) (H := H) (F := F) (st := st) hw hlw hz
    obtain ⟨e1, e2⟩ := hA i eL (by omega)
    obtain ⟨v1, v2, v3, v4⟩ := hv hz
    refine ⟨_, rfl, e2, by rw [e1]; exact ad_ag, ?_, ?_, ?_, ?_⟩ <;> rw [e1] <;> unfold adA
    · show (upd A.1 i p1 i).toInt = _
      rw [pk_us]; exact v1
    · show (upd A.2.1 i p2 i).toInt = _
      rw [pk_us]; exact v2
    · show (upd A.2.2.1 i p3 i).toInt = _
      rw [pk_us]; exact v3
    · show (upd A.2.2.2 i p4 i).toInt = _
      rw [pk_us]; exact v4
  refine cs_wordF hl hn6 hb wk_again hc (fun w1 y1 c1 => ⟨fun _ => ?_, fun d => absurd rfl d⟩) (fun _ e y1 t1 c1 et => ⟨fun d => absurd d (by first | decide | simp), fun _ => ?_⟩)
  · refine cs_wordF hl hn6 hb wk_leap c1 (fun w2 y2 c2 => ⟨fun _ => ?_, fun d => absurd rfl d⟩) (fun _ e y2 t2 c2 et => ⟨fun d => absurd d (by first | decide | simp), fun _ => ?_⟩)
    · refine cs_wordF hl hn6 hb wk_box c2 (fun w3 y3 c3 => ⟨fun _ => ?_, fun d => absurd rfl d⟩) (fun _ e y3 t3 c3 et => ⟨fun d => absurd d (by first | decide | simp), fun _ => ?_⟩)
      · refine cs_wordF hl hn6 hb wk_pay c3 (fun w4 y4 c4 => ⟨fun _ => ?_, fun d => absurd rfl d⟩) (fun _ e y4 t4 c4 et => ⟨fun d => absurd d (by first | decide | simp), fun _ => ?_⟩)
        · refine cs_wordF hl hn6 hb wk_day c4 (fun w5 y5 c5 => ⟨fun _ => ?_, fun d => absurd rfl d⟩) (fun _ e y5 t5 c5 et => ⟨fun d => absurd d (by first | decide | simp), fun _ => ?_⟩)
          · have es : stGw n b H F B st = ((1, sk n b st.2.2, 0), []) := by
              unfold stGw
              rw [if_neg (w1 h0), if_neg (fun d => by have := w2 h0; have := w3 h0; have := w4 h0; have := w5 h0; omega)]
            refine cs_blameS hl hn6 hb c5 (fun x fa2 fp2 c6 => cs_needs hl hn6 hb c6 (by decide) (fun x2 t2 fa3 fp3 c7 => ?_))
            rw [fS_0 h0, gS_bad (by show ¬ (1 : Int) = 0; decide)] at c7
            have g := q1 (w1 h0) x2 t2 fa3 fp3 A L
            rw [es] at g
            exact g c7 (by omega) (by omega) (fun z => absurd z (by show ¬ (1 : Int) = 0; decide))
          · refine fin 4153 3 0 0 0 y5 t5 fa fp e (Or.inr (Or.inr (Or.inr rfl))) ?_ (fun _ => ?_)
            · exact c5
            · unfold lfV
              rw [if_neg (by decide), if_neg (by decide), if_neg (by decide)]
              exact ⟨t_3, t_0, t_0, t_0⟩
        · refine cs_number hl hn6 hb c4 (by decide) (by rw [eHm]; omega) (fun r1 x1 fa1 fp1 t1 d1 v1 => cs_number hl hn6 hb d1 (by decide) (by rw [eHm]; omega) (fun r2 x2 fa2 fp2 t2 d2 v2 => cs_number hl hn6 hb d2 (by decide) (by decide) (fun r3 x3 fa3 fp3 t3 d3 v3 => ?_)))
          rw [t_0, eHm] at d1 v1 d2 v2 d3 v3
          rw [t_1, t_99] at d3 v3
          refine fin 16441 2 r1 r2 r3 x3 t3 fa3 fp3 e (Or.inr (Or.inr (Or.inl rfl))) ?_ (fun z => ?_)
          · exact d3
          · have z : (nS n b 1 99 (tnS n b H st)).1 = 0 := z
            have z2 := (nS_fine z).1
            unfold lfV
            rw [if_neg (by decide), if_neg (by decide), if_pos rfl]
            exact ⟨t_2, (v1 (nS_fine z2).1).1, (v2 z2).1, (v3 z).1⟩
      · refine cs_number hl hn6 hb c3 (by decide) (by rw [eHm]; omega) (fun r1 x1 fa1 fp1 t1 d1 v1 => cs_number hl hn6 hb d1 (by decide) (by rw [eHm]; omega) (fun r2 x2 fa2 fp2 t2 d2 v2 => ?_))
        rw [t_0, eHm] at d1 v1 d2 v2
        refine fin 2552 1 r1 r2 0 x2 t2 fa2 fp2 e (Or.inr (Or.inl rfl)) ?_ (fun z => ?_)
        · exact d2
        · have z : (tnS n b H st).1 = 0 := z
          unfold lfV
          rw [if_neg (by decide), if_pos rfl]
          exact ⟨t_1, (v1 (nS_fine z).1).1, (v2 z).1, t_0⟩
    · refine cs_number hl hn6 hb c2 (by decide) (by rw [eHm]; omega) (fun r1 x1 fa1 fp1 t1 d1 v1 => cs_number hl hn6 hb d1 (by decide) (by rw [eFm]; omega) (fun r2 x2 fa2 fp2 t2 d2 v2 => ?_))
      rw [t_0, eHm] at d1 v1
      rw [t_0, eHm, eFm] at d2 v2
      refine fin 398384 0 r1 r2 0 x2 t2 fa2 fp2 e (Or.inl rfl) ?_ (fun z => ?_)
      · exact d2
      · have z : (tfS n b H F st).1 = 0 := z
        unfold lfV
        rw [if_pos rfl]
        exact ⟨t_0, (v1 (nS_fine z).1).1, (v2 z).1, t_0⟩
  · refine ⟨fun c => ?_, fun c => ?_⟩
    · rw [t_lt, t_6] at c
      refine cs_number hl hn6 hb c1 (by decide) (by decide) (fun r1 x1 fa1 fp1 t1 d1 v1 => cs_needs hl hn6 hb d1 (by decide) (fun x2 t2 fa2 fp2 d2 => ⟨t_in (by omega) (by omega), fun f11 e11 x12 e12 => ?_⟩))
      rw [t_0, t_40] at d1 v1 d2
      rw [t_91] at d2
      refine w_add (by omega) (by omega) (fun A' L' l0 l1 hA => ?_)
      rw [e11, t_clamp eo]
      refine q2 e (by omega) _ _ _ _ A' L' x12 d2 l0 l1 (by rw [e12, t_inc (by omega), eo]; omega) (fun z => ?_)
      have a2 := gS_on (by decide) z
      have a1 := nS_on (gS_fine z)
      have a0 := wE_3 (n := n) (b := b) (st := st) (by omega)
      obtain ⟨e1, e2⟩ := hA i eL (by omega)
      refine ⟨e2, by rw [e1]; exact ad_ag, ?_, ?_⟩ <;> rw [e1] <;> unfold adA
      · show (upd A.1 i 4 i).toInt = 4
        rw [pk_us]; exact t_4
      · show (upd A.2.1 i r1 i).toInt = _
        rw [pk_us]; exact (v1 (gS_fine z)).1
    · rw [t_lt, t_6] at c
      refine cs_blameT (s := sk n b st.2.2) c1 (by decide) (fun _ => et) (fun fa2 fp2 c4 => ?_)
      rw [fS_0 (by rfl), t_3] at c4
      exact q3 e (by omega) _ _ _ _ c4
end WC
