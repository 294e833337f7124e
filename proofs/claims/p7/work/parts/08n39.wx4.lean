/-! the reference's rows of a work, and its reading -/
def sgR {β : Type} (RB : (Nat → Int32) → β → Nat → Nat → Prop) (s : Nat → Int32) : TG β → Nat → Nat → Prop
  | [], i, j => i = j
  | Sum.inl v :: L, i, j => ((s (4 * i)).toInt = v.1 ∧ (s (4 * i + 1)).toInt = v.2.1 ∧ (s (4 * i + 2)).toInt = v.2.2.1 ∧ (s (4 * i + 3)).toInt = v.2.2.2) ∧ sgR RB s L (i + 1) j
  | Sum.inr v :: L, i, j => ∃ e : Nat, ((s (4 * i)).toInt = 4 ∧ (s (4 * i + 1)).toInt = v.1 ∧ (s (4 * i + 2)).toInt = ((4 * e : Nat) : Int)) ∧ RB s v.2 (i + 1) e ∧ sgR RB s L e j
/-- how many rows of the reference a text wants -/
def erL {β : Type} (eB : β → Nat) : TG β → Nat
  | [] => 0
  | Sum.inl _ :: L => 1 + erL eB L
  | Sum.inr x :: L => 1 + eB x.2 + erL eB L
def okR {β : Type} (eB : β → Nat) (RB : (Nat → Int32) → β → Nat → Nat → Prop) : Prop := ∀ (s t : Nat → Int32) (B : β) (i j : Nat), RB s B i j → j = i + eB B ∧ ((∀ q : Nat, 4 * i ≤ q → q < 4 * j → s q = t q) → RB t B i j)
theorem sr_ok {β : Type} {eB : β → Nat} {RB : (Nat → Int32) → β → Nat → Nat → Prop} (hC : okR eB RB) : okR (erL eB) (sgR RB) := by
  intro s t L
  induction L with
  | nil => intro i j h; have h : i = j := h; exact ⟨by rw [← h]; rfl, fun _ => h⟩
  | cons x L ih =>
    intro i j h
    cases x with
    | inl v =>
      obtain ⟨h1, h2⟩ := h
      obtain ⟨g1, g2⟩ := ih (i + 1) j h2
      have e0 : erL eB (Sum.inl v :: L) = 1 + erL eB L := rfl
      refine ⟨by omega, fun a => ⟨?_, g2 (fun q q1 q2 => a q (by omega) q2)⟩⟩
      rw [← a (4 * i) (by omega) (by omega), ← a (4 * i + 1) (by omega) (by omega), ← a (4 * i + 2) (by omega) (by omega), ← a (4 * i + 3) (by omega) (by omega)]; exact h1
    | inr v =>
      obtain ⟨e, h1, h2, h3⟩ := h
      obtain ⟨g1, g2⟩ := ih e j h3
      obtain ⟨k1, k2⟩ := hC s t v.2 (i + 1) e h2
      have e0 : erL eB (Sum.inr v :: L) = 1 + eB v.2 + erL eB L := rfl
      refine ⟨by omega, fun a => ⟨e, ?_, k2 (fun q q1 q2 => a q (by omega) (by omega)), g2 (fun q q1 q2 => a q (by omega) q2)⟩⟩
      rw [← a (4 * i) (by omega) (by omega), ← a (4 * i + 1) (by omega) (by omega), ← a (4 * i + 2) (by omega) (by omega)]; exact h1
theorem sr_app {β : Type} {RB : (Nat → Int32) → β → Nat → Nat → Prop} {s : Nat → Int32} {L2 : TG β} {m j : Nat} (g : sgR RB s L2 m j) : ∀ (L1 : TG β) (i : Nat), sgR RB s L1 i m → sgR RB s (L1 ++ L2) i j := by
  intro L1
  induction L1 with
  | nil => intro i h; have h : i = m := h; rw [h]; exact g
  | cons x L ih =>
    intro i h
    cases x with
    | inl v => exact ⟨h.1, ih (i + 1) h.2⟩
    | inr v =>
      obtain ⟨e, h1, h2, h3⟩ := h
      exact ⟨e, h1, h2, ih e h3⟩
theorem er_le {β : Type} {eR eB : β → Nat} (h : ∀ B : β, eR B ≤ eB B) : ∀ L : TG β, erL eR L ≤ enL eB L := by
  intro L
  induction L with
  | nil => exact Nat.le_refl 0
  | cons x L ih =>
    cases x with
    | inl v => show 1 + erL eR L ≤ 1 + enL eB L; omega
    | inr v => have := h v.2; show 1 + eR v.2 + erL eR L ≤ 2 + eB v.2 + enL eB L; omega
def rN : (m : Nat) → (Nat → Int32) → TT m → Nat → Nat → Prop
  | 0 => sgR (β := Empty) (fun _ _ _ _ => False)
  | m + 1 => sgR (β := TT m) (rN m)
def erN : (m : Nat) → TT m → Nat
  | 0 => erL (β := Empty) (fun _ => 0)
  | m + 1 => erL (β := TT m) (erN m)
theorem rN_ok : ∀ m : Nat, okR (erN m) (rN m) := by
  intro m
  induction m with
  | zero => exact sr_ok (β := Empty) (eB := fun _ => 0) (fun A A' B i j h => h.elim)
  | succ m ih => exact sr_ok (β := TT m) ih
theorem erN_le : ∀ (m : Nat) (B : TT m), erN m B ≤ enN m B := by
  intro m
  induction m with
  | zero => exact fun B => er_le (β := Empty) (eR := fun _ => 0) (eB := fun _ => 0) (fun B => Nat.le_refl _) B
  | succ m ih => exact fun B => er_le (β := TT m) ih B
section WM
variable {n : Nat} {b : Nat → Int} {len : Int32} {f : Nat → Int32} {H F : Int} {vh vf : Int32}
theorem y_leapW {Q : Int32 → Prop} (hq : ∀ r : Int32, r.toInt = 398384 → Q r) : wq_X11_of_s 4 zb_X11_302 Q := y_of (by decide) (by decide) (by decide) hq
theorem y_boxW {Q : Int32 → Prop} (hq : ∀ r : Int32, r.toInt = 2552 → Q r) : wq_X11_of_s 3 zb_X11_307 Q := y_of (by decide) (by decide) (by decide) hq
theorem y_payW {Q : Int32 → Prop} (hq : ∀ r : Int32, r.toInt = 16441 → Q r) : wq_X11_of_s 3 zb_X11_309 Q := y_of (by decide) (by decide) (by decide) hq
theorem y_againW {Q : Int32 → Prop} (hq : ∀ r : Int32, r.toInt = 1279278 → Q r) : wq_X11_of_s 5 zb_X11_311 Q := y_of (by decide) (by decide) (by decide) hq
/-- four numbers of a step -/
def four (s : Nat → Int32) (i : Nat) (p1 p2 p3 p4 : Int32) : Nat → Int32 := upd (upd (upd (upd s (4 * i) p1) (4 * i + 1) p2) (4 * i + 2) p3) (4 * i + 3) p4
theorem fo_0 {s : Nat → Int32} {i : Nat} {p1 p2 p3 p4 : Int32} : four s i p1 p2 p3 p4 (4 * i) = p1 := by unfold four; rw [pk_un (by omega), pk_un (by omega), pk_un (by omega), pk_us]
theorem fo_1 {s : Nat → Int32} {i : Nat} {p1 p2 p3 p4 : Int32} : four s i p1 p2 p3 p4 (4 * i + 1) = p2 := by unfold four; rw [pk_un (by omega), pk_un (by omega), pk_us]
theorem fo_2 {s : Nat → Int32} {i : Nat} {p1 p2 p3 p4 : Int32} : four s i p1 p2 p3 p4 (4 * i + 2) = p3 := by unfold four; rw [pk_un (by omega), pk_us]
theorem fo_3 {s : Nat → Int32} {i : Nat} {p1 p2 p3 p4 : Int32} : four s i p1 p2 p3 p4 (4 * i + 3) = p4 := by unfold four; rw [pk_us]
theorem fo_o {s : Nat → Int32} {i q : Nat} {p1 p2 p3 p4 : Int32} (h : q < 4 * i) : four s i p1 p2 p3 p4 q = s q := by unfold four; rw [pk_un (by omega), pk_un (by omega), pk_un (by omega), pk_un (by omega)]
theorem m_tells {Q : (Nat → Int32) → Int32 → Prop} {a bd bk nn p1 p2 p3 p4 : Int32} {ns : Nat → Int32} {st : sT} {i : Nat} (hm : mS n b st a bd bk) (en : nn.toInt = ((4 * i : Nat) : Int)) (hi : st.1 = 0 → i < 50) (q0 : st.1 ≠ 0 → Q ns nn) (q1 : st.1 = 0 → ∀ nn : Int32, nn.toInt = ((4 * (i + 1) : Nat) : Int) → Q (four ns i p1 p2 p3 p4) nn) : wq_X11_tellsStep bd ns nn p1 p2 p3 p4 Q := by
  refine ms_fine hm (fun h0 => ⟨fun _ => ?_, fun d => absurd d (by first | decide | simp)⟩) (fun h0 => ⟨fun d => absurd rfl d, fun _ => q0 h0⟩)
  have h50 := hi h0
  refine ⟨t_in (by omega) (by omega), fun f3 e3 x4 e4 => ?_⟩
  have k4 : x4.toInt = ((4 * i + 1 : Nat) : Int) := by rw [e4, t_add (by rw [t_1]; omega) (by rw [t_1]; omega), t_1, en]; omega
  refine ⟨t_in (by omega) (by omega), fun f5 e5 x6 e6 => ?_⟩
  have k6 : x6.toInt = ((4 * i + 2 : Nat) : Int) := by rw [e6, t_add (by rw [t_2]; omega) (by rw [t_2]; omega), t_2, en]; omega
  refine ⟨t_in (by omega) (by omega), fun f7 e7 x8 e8 => ?_⟩
  have k8 : x8.toInt = ((4 * i + 3 : Nat) : Int) := by rw [e8, t_add (by rw [t_3]; omega) (by rw [t_3]; omega), t_3, en]; omega
  refine ⟨t_in (by omega) (by omega), fun f9 e9 x10 e10 => ?_⟩
  have k10 : x10.toInt = ((4 * (i + 1) : Nat) : Int) := by rw [e10, t_add (by rw [t_4]; omega) (by rw [t_4]; omega), t_4, en]; omega
  have g := q1 h0 x10 k10
  rw [t_clamp en] at e3
  rw [t_clamp k4] at e5
  rw [t_clamp k6] at e7
  rw [t_clamp k8] at e9
  unfold four at g
  rw [e9, e7, e5, e3]; exact g
abbrev sQw := Int32 → Int32 → Int32 → Int32 → (Nat → Int32) → Int32 → Prop
abbrev mW := Int32 → Int32 → Int32 → (Nat → Int32) → Int32 → Int32 → Int32 → Int32 → (Nat → Int32) → Int32 → sQw → Prop
/-- a reader of a step of the reference does what g says -/
def MSt (n : Nat) (b : Nat → Int) (len : Int32) (f : Nat → Int32) (vh vf : Int32) {β : Type} (RB : (Nat → Int32) → β → Nat → Nat → Prop) (o : Nat) (g : sT → sT × TG β) (R : mW) : Prop := ∀ (Q : sQw) (st : sT) (a bd bk op : Int32) (ns : Nat → Int32) (nn : Int32) (i : Nat), mS n b st a bd bk → st.1 = 0 → st.2.2 ≤ n → op.toInt = (o : Int) → nn.toInt = ((4 * i : Nat) : Int) → 3 * i ≤ st.2.2 →
  (∀ (a bd bk op : Int32) (ns' : Nat → Int32) (nn : Int32), mS n b (g st).1 a bd bk → ((g st).1.1 = 0 → op.toInt = (o : Int) ∧ (∀ q : Nat, q < 4 * i → ns' q = ns q) ∧ ∃ j : Nat, nn.toInt = ((4 * j : Nat) : Int) ∧ sgR RB ns' (g st).2 i j) → Q a bd bk op ns' nn) → R len vf vh f a bd bk op ns nn Q
theorem m_step0 (hl : len.toInt = n) (hn : n ≤ 150) (hb : tB n f b) (eH : vh.toInt = H) (hH0 : 0 ≤ H) (h6 : H ≤ 6) (eF : vf.toInt = F) (hF0 : 0 ≤ F) (h8 : F ≤ 8) : MSt n b len f vh vf (β := Empty) (fun _ _ _ _ => False) 6 (stGw n b H F (β := Empty) none) wq_X11_readStep_s_r0 := by
  intro Q st a bd bk op ns nn i hm h0 hp eo en hi hq
  have hn6 : n ≤ 600 := by omega
  have eHm : (vh - 1).toInt = H - 1 := by rw [t_pred (by omega), eH]
  have eFm : (vf - 1).toInt = F - 1 := by rw [t_pred (by omega), eF]
  -- a leaf: four numbers, and the sign
  have fin : ∀ (w : Int) (p1 p2 p3 p4 a bd bk : Int32), pw n b (sk n b st.2.2) = w → isLf w → mS n b (lfS n b H F w st) a bd bk → ((lfS n b H F w st).1 = 0 → p1.toInt = (lfV n b H w st).1 ∧ p2.toInt = (lfV n b H w st).2.1 ∧ p3.toInt = (lfV n b H w st).2.2.1 ∧ p4.toInt = (lfV n b H w st).2.2.2) → wq_X11_tellsStep bd ns nn p1 p2 p3 p4 (fun f88 x89 => wb_X11_readStep_s_r0_261 len vf vh f Q a bd bk op f88 x89) := fun w p1 p2 p3 p4 a bd bk hw hlw c2 hv => by
    have hw' := hw
    unfold isLf at hlw
    have es : stGw n b H F (β := Empty) none st = (gS n b 59 (lfS n b H F w st), [Sum.inl (lfV n b H w st)]) := by
      unfold stGw
      rw [hw, if_neg (by omega), if_pos hlw]
    rw [es] at hq
    refine m_tells (i := i) c2 en (fun z => ?_) (fun z => ms_sign hl hn6 hb c2 (by decide) (fun x bd2 bk2 c3 => ?_)) (fun z nn2 e2 => ms_sign hl hn6 hb c2 (by decide) (fun x bd2 bk2 c3 => ?_))
    · have hon := lfS_on (n := n) (b := b) (H := H) (F := F) (st := st) hw hlw z
      omega
    · rw [t_59] at c3
      exact hq _ _ _ _ _ _ c3 (fun d => absurd (gS_fine d) z)
    · rw [t_59] at c3
      obtain ⟨v1, v2, v3, v4⟩ := hv z
      exact hq _ _ _ _ _ _ c3 (fun _ => ⟨eo, fun q hq => fo_o hq, i + 1, e2, ⟨by rw [fo_0]; exact v1, by rw [fo_1]; exact v2, by rw [fo_2]; exact v3, by rw [fo_3]; exact v4⟩, rfl⟩)
  refine ms_word hl hn6 hb hm h0 (fun r x c1 ex er => y_day (fun rd ed => ⟨fun n1 => ?_, fun e1 => ?_⟩))
  · refine y_leapW (fun rl el => ⟨fun n2 => ?_, fun e2 => ?_⟩)
    · have two : (pw n b (sk n b st.2.2) = 2552 ∨ pw n b (sk n b st.2.2) = 16441) → wb_X11_readStep_s_r0_90 len vf vh f Q x bd bk op ns nn r := fun hw => by
        refine ms_pass hl hn6 hb c1 h0 ex (fun x1 d0 => ms_number hl hn6 hb d0 (by decide) (by rw [eHm]; omega) (fun r1 x2 bd1 bk1 d1 v1 => ms_number hl hn6 hb d1 (by decide) (by rw [eHm]; omega) (fun r2 x3 bd2 bk2 d2 v2 => y_boxW (fun rb eb => ?_))))
        rw [t_0, eHm] at d1 v1 d2 v2
        refine ⟨fun nb => y_payW (fun rp ep => ⟨fun np => ?_, fun _ => ?_⟩), fun yb => y_payW (fun rp ep => ⟨fun _ => ?_, fun yp => ?_⟩)⟩
        · rw [t_eq, er, eb] at nb
          rw [t_eq, er, ep] at np
          exact absurd hw (by omega)
        · refine ms_number hl hn6 hb d2 (by decide) (by decide) (fun r3 x4 bd3 bk3 d3 v3 => ?_)
          rw [t_1, t_99] at d3 v3
          rw [t_eq, er, eb] at nb
          refine fin 16441 2 r1 r2 r3 x4 bd3 bk3 (by omega) (Or.inr (Or.inr (Or.inl rfl))) d3 (fun z => ?_)
          have z : (nS n b 1 99 (tnS n b H st)).1 = 0 := z
          have z2 := (nS_fine z).1
          unfold lfV
          rw [if_neg (by decide), if_neg (by decide), if_pos rfl]
          exact ⟨t_2, v1 (nS_fine z2).1, v2 z2, v3 z⟩
        · rw [t_eq, er, eb] at yb
          refine fin 2552 1 r1 r2 0 x3 bd2 bk2 yb (Or.inr (Or.inl rfl)) d2 (fun z => ?_)
          have z : (tnS n b H st).1 = 0 := z
          unfold lfV
          rw [if_neg (by decide), if_pos rfl]
          exact ⟨t_1, v1 (nS_fine z).1, v2 z, t_0⟩
        · rw [t_eq, er, eb] at yb
          rw [t_eq, er, ep] at yp
          omega
      refine y_boxW (fun rb eb => ⟨fun yb => two (Or.inl (by rw [t_eq, er, eb] at yb; exact yb)), fun nb => y_payW (fun rp ep => ⟨fun np => ?_, fun yp => two (Or.inr (by rw [t_eq, er, ep] at yp; exact yp))⟩)⟩)
      refine y_againW (fun ra ea => ⟨fun na => ?_, fun ya => ?_⟩)
      · rw [t_eq, er, ed] at n1
        rw [t_eq, er, el] at n2
        rw [t_eq, er, eb] at nb
        rw [t_eq, er, ep] at np
        rw [t_eq, er, ea] at na
        have es : stGw n b H F (β := Empty) none st = ((1, sk n b st.2.2, 0), []) := by
          unfold stGw
          rw [if_neg na, if_neg (by omega)]
        rw [es] at hq
        refine ms_wrong (s := sk n b st.2.2) c1 (fun _ => ex) (by decide) (fun bd2 bk2 c2 => ms_sign hl hn6 hb c2 (by decide) (fun x3 bd3 bk3 c3 => ?_))
        rw [t_1, fS_0 h0, gS_bad (by show ¬ (1 : Int) = 0; decide)] at c3
        exact hq _ _ _ _ _ _ c3 (fun d => absurd d (by show ¬ (1 : Int) = 0; decide))
      · rw [t_eq, er, ea] at ya
        have es : stGw n b H F (β := Empty) none st = ((3, sk n b st.2.2, 0), []) := by
          unfold stGw; rw [if_pos ya]; rfl
        rw [es] at hq
        have n3 : ¬ ((3, sk n b st.2.2, 0) : sT).1 = 0 := by show ¬ (3 : Int) = 0; decide
        refine m_open6 (s := sk n b st.2.2) c1 h0 ex (by rw [eo]; rfl) (fun bd2 bk2 op2 c2 => ms_number hl hn6 hb c2 (by decide) (by decide) (fun r27 x24 x25 x26 c3 _ => ms_sign hl hn6 hb c3 (by decide) (fun x28 x29 x30 c4 => ?_)))
        rw [nS_bad n3] at c3 c4
        rw [gS_bad n3] at c4
        refine m_tells (i := i) c4 en (fun z => absurd z n3) (fun _ => ⟨1, ?_⟩) (fun z => absurd z n3)
        refine ⟨fun _ => ⟨fun _ => ?_, fun d => absurd rfl d⟩, fun zb => absurd (mS_f0 c4 zb) n3⟩
        unfold wb_X11_readStep_s_r0_214
        refine ms_sign hl hn6 hb c4 (by decide) (fun x80 x81 x82 c5 x83 e83 => ?_)
        rw [gS_bad n3] at c5
        refine ms_fine c5 (fun z => absurd z n3) (fun _ => ⟨fun _ => ms_sign hl hn6 hb c5 (by decide) (fun x59 x60 x61 c6 => ?_), fun d => absurd rfl d⟩)
        rw [gS_bad n3] at c6
        exact hq _ _ _ _ _ _ c6 (fun d => absurd d n3)
    · rw [t_eq, er, el] at e2
      refine ms_pass hl hn6 hb c1 h0 ex (fun x1 d0 => ms_number hl hn6 hb d0 (by decide) (by rw [eHm]; omega) (fun r1 x2 bd1 bk1 d1 v1 => ms_number hl hn6 hb d1 (by decide) (by rw [eFm]; omega) (fun r2 x3 bd2 bk2 d2 v2 => ?_)))
      rw [t_0, eHm] at d1 v1
      rw [t_0, eHm, eFm] at d2 v2
      refine fin 398384 0 r1 r2 0 x3 bd2 bk2 e2 (Or.inl rfl) d2 (fun z => ?_)
      have z : (tfS n b H F st).1 = 0 := z
      unfold lfV
      rw [if_pos rfl]
      exact ⟨t_0, v1 (nS_fine z).1, v2 z, t_0⟩
  · rw [t_eq, er, ed] at e1
    refine ms_pass hl hn6 hb c1 h0 ex (fun x1 d0 => fin 4153 3 0 0 0 x1 bd bk e1 (Or.inr (Or.inr (Or.inr rfl))) d0 (fun _ => ?_))
    unfold lfV
    rw [if_neg (by decide), if_neg (by decide), if_neg (by decide)]
    exact ⟨t_3, t_0, t_0, t_0⟩
/-- the inner loop of the reference, at a depth -/
def MBk (n : Nat) (b : Nat → Int) (len : Int32) (f : Nat → Int32) (vh vf : Int32) {β : Type} (RB : (Nat → Int32) → β → Nat → Nat → Prop) (o : Nat) (g : sT → sT × β) (RS : mW) : Prop := ∀ (Q : sQw) (st : sT) (l3 op a bd bk : Int32) (ns : Nat → Int32) (nn : Int32) (i : Nat), mS n b st a bd bk → st.1 = 0 → st.2.2 ≤ n → op.toInt = (o : Int) → nn.toInt = ((4 * i : Nat) : Int) → 3 * i ≤ st.2.2 →
  (∀ (a bd bk op : Int32) (ns' : Nat → Int32) (nn : Int32), mS n b (g st).1 a bd bk → ((g st).1.1 = 0 → op.toInt = (o : Int) ∧ st.1 = 0 ∧ (∀ q : Nat, q < 4 * i → ns' q = ns q) ∧ ∃ j : Nat, nn.toInt = ((4 * j : Nat) : Int) ∧ RB ns' (g st).2 i j) → wb_X11_readStep_s_g_214 RS len vf vh f Q a bd bk op ns' nn l3) → wl_X11_readStep_s_g_191 RS len vf vh f Q 151 a bd bk op ns nn l3
theorem m_step {β : Type} {eB : β → Nat} {RB : (Nat → Int32) → β → Nat → Nat → Prop} {g : sT → sT × β} {RS : mW} {o : Nat} (hl : len.toInt = n) (hn : n ≤ 150) (hb : tB n f b) (eH : vh.toInt = H) (hH0 : 0 ≤ H) (h6 : H ≤ 6) (eF : vf.toInt = F) (hF0 : 0 ≤ F) (h8 : F ≤ 8) (ho : o < 6) {eR : β → Nat} (hC : okR eR RB) (hG : MBk n b len f vh vf RB (o + 1) g RS ∧ gdB n eB g ∧ True) : MSt n b len f vh vf RB o (stGw n b H F (some g)) (wq_X11_readStep_s_g RS) := by
  intro Q st a bd bk op ns nn i hm h0 hp eo en hi hq
  have hn6 : n ≤ 600 := by omega
  have eHm : (vh - 1).toInt = H - 1 := by rw [t_pred (by omega), eH]
  have eFm : (vf - 1).toInt = F - 1 := by rw [t_pred (by omega), eF]
  -- a leaf: four numbers, and the sign
  have fin : ∀ (w : Int) (p1 p2 p3 p4 a bd bk : Int32), pw n b (sk n b st.2.2) = w → isLf w → mS n b (lfS n b H F w st) a bd bk → ((lfS n b H F w st).1 = 0 → p1.toInt = (lfV n b H w st).1 ∧ p2.toInt = (lfV n b H w st).2.1 ∧ p3.toInt = (lfV n b H w st).2.2.1 ∧ p4.toInt = (lfV n b H w st).2.2.2) → wq_X11_tellsStep bd ns nn p1 p2 p3 p4 (fun f88 x89 => wb_X11_readStep_s_g_261 RS len vf vh f Q a bd bk op f88 x89) := fun w p1 p2 p3 p4 a bd bk hw hlw c2 hv => by
    have hw' := hw
    unfold isLf at hlw
    have es : stGw n b H F (some g) st = (gS n b 59 (lfS n b H F w st), [Sum.inl (lfV n b H w st)]) := by
      unfold stGw
      rw [hw, if_neg (by omega), if_pos hlw]
    rw [es] at hq
    refine m_tells (i := i) c2 en (fun z => ?_) (fun z => ms_sign hl hn6 hb c2 (by decide) (fun x bd2 bk2 c3 => ?_)) (fun z nn2 e2 => ms_sign hl hn6 hb c2 (by decide) (fun x bd2 bk2 c3 => ?_))
    · have hon := lfS_on (n := n) (b := b) (H := H) (F := F) (st := st) hw hlw z
      omega
    · rw [t_59] at c3
      exact hq _ _ _ _ _ _ c3 (fun d => absurd (gS_fine d) z)
    · rw [t_59] at c3
      obtain ⟨v1, v2, v3, v4⟩ := hv z
      exact hq _ _ _ _ _ _ c3 (fun _ => ⟨eo, fun q hq => fo_o hq, i + 1, e2, ⟨by rw [fo_0]; exact v1, by rw [fo_1]; exact v2, by rw [fo_2]; exact v3, by rw [fo_3]; exact v4⟩, rfl⟩)
  refine ms_word hl hn6 hb hm h0 (fun r x c1 ex er => y_day (fun rd ed => ⟨fun n1 => ?_, fun e1 => ?_⟩))
  · refine y_leapW (fun rl el => ⟨fun n2 => ?_, fun e2 => ?_⟩)
    · have two : (pw n b (sk n b st.2.2) = 2552 ∨ pw n b (sk n b st.2.2) = 16441) → wb_X11_readStep_s_g_90 RS len vf vh f Q x bd bk op ns nn r := fun hw => by
        refine ms_pass hl hn6 hb c1 h0 ex (fun x1 d0 => ms_number hl hn6 hb d0 (by decide) (by rw [eHm]; omega) (fun r1 x2 bd1 bk1 d1 v1 => ms_number hl hn6 hb d1 (by decide) (by rw [eHm]; omega) (fun r2 x3 bd2 bk2 d2 v2 => y_boxW (fun rb eb => ?_))))
        rw [t_0, eHm] at d1 v1 d2 v2
        refine ⟨fun nb => y_payW (fun rp ep => ⟨fun np => ?_, fun _ => ?_⟩), fun yb => y_payW (fun rp ep => ⟨fun _ => ?_, fun yp => ?_⟩)⟩
        · rw [t_eq, er, eb] at nb
          rw [t_eq, er, ep] at np
          exact absurd hw (by omega)
        · refine ms_number hl hn6 hb d2 (by decide) (by decide) (fun r3 x4 bd3 bk3 d3 v3 => ?_)
          rw [t_1, t_99] at d3 v3
          rw [t_eq, er, eb] at nb
          refine fin 16441 2 r1 r2 r3 x4 bd3 bk3 (by omega) (Or.inr (Or.inr (Or.inl rfl))) d3 (fun z => ?_)
          have z : (nS n b 1 99 (tnS n b H st)).1 = 0 := z
          have z2 := (nS_fine z).1
          unfold lfV
          rw [if_neg (by decide), if_neg (by decide), if_pos rfl]
          exact ⟨t_2, v1 (nS_fine z2).1, v2 z2, v3 z⟩
        · rw [t_eq, er, eb] at yb
          refine fin 2552 1 r1 r2 0 x3 bd2 bk2 yb (Or.inr (Or.inl rfl)) d2 (fun z => ?_)
          have z : (tnS n b H st).1 = 0 := z
          unfold lfV
          rw [if_neg (by decide), if_pos rfl]
          exact ⟨t_1, v1 (nS_fine z).1, v2 z, t_0⟩
        · rw [t_eq, er, eb] at yb
          rw [t_eq, er, ep] at yp
          omega
      refine y_boxW (fun rb eb => ⟨fun yb => two (Or.inl (by rw [t_eq, er, eb] at yb; exact yb)), fun nb => y_payW (fun rp ep => ⟨fun np => ?_, fun yp => two (Or.inr (by rw [t_eq, er, ep] at yp; exact yp))⟩)⟩)
      refine y_againW (fun ra ea => ⟨fun na => ?_, fun ya => ?_⟩)
      · rw [t_eq, er, ed] at n1
        rw [t_eq, er, el] at n2
        rw [t_eq, er, eb] at nb
        rw [t_eq, er, ep] at np
        rw [t_eq, er, ea] at na
        have es : stGw n b H F (some g) st = ((1, sk n b st.2.2, 0), []) := by
          unfold stGw
          rw [if_neg na, if_neg (by omega)]
        rw [es] at hq
        refine ms_wrong (s := sk n b st.2.2) c1 (fun _ => ex) (by decide) (fun bd2 bk2 c2 => ms_sign hl hn6 hb c2 (by decide) (fun x3 bd3 bk3 c3 => ?_))
        rw [t_1, fS_0 h0, gS_bad (by show ¬ (1 : Int) = 0; decide)] at c3
        exact hq _ _ _ _ _ _ c3 (fun d => absurd d (by show ¬ (1 : Int) = 0; decide))
      · rw [t_eq, er, ea] at ya
        obtain ⟨hg1, hg2, hg3⟩ := hG
        have es : stGw n b H F (some g) st = (gS n b 59 (gS n b 93 (g (gS n b 91 (nS n b 0 40 (wE n b st)))).1), [Sum.inr (nV n b (wE n b st), (g (gS n b 91 (nS n b 0 40 (wE n b st)))).2)]) := by
          unfold stGw; rw [if_pos ya]; rfl
        rw [es] at hq
        obtain ⟨s2, e2⟩ : ∃ s : sT, s = gS n b 91 (nS n b 0 40 (wE n b st)) := ⟨_, rfl⟩
        rw [← e2] at hq
        have hk := (wk_again (n := n) (b := b)).2 (sk n b st.2.2) (by have := (sk_facts (n := n) (b := b) _ st.2.2 rfl).2.1; omega)
        have ewE : wE n b st = (0, 0, sk n b st.2.2 + 5) := by
          unfold wE
          rw [hk.2 (hk.1.mp ya)]
        have a0 := wE_3 (n := n) (b := b) (st := st) (by omega)
        have a05 : sk n b st.2.2 + 5 ≤ n := by have := a0.2; rw [ewE] at this; exact this
        refine m_openS (s := sk n b st.2.2) (J := 5) c1 h0 ex t_5 (by omega) eo (by omega) (fun at2 op2 c2 eo2 => ?_)
        rw [← ewE] at c2
        refine ms_number hl hn6 hb c2 (by decide) (by decide) (fun r27 x24 x25 x26 c3 v3 => ms_sign hl hn6 hb c3 (by decide) (fun x28 x29 x30 c4 => ?_))
        rw [t_0, t_40] at c3 v3 c4
        rw [t_91, ← e2] at c4
        -- behind the block: its end, the sign
        have tail : ∀ (a bd bk op3 : Int32) (ns3 : Nat → Int32) (nn3 : Int32), mS n b (g s2).1 a bd bk → ((g s2).1.1 = 0 → op3.toInt = ((o + 1 : Nat) : Int) ∧ s2.1 = 0 ∧ (∀ q : Nat, q < 4 * (i + 1) → ns3 q = four ns i 4 r27 0 0 q) ∧ ∃ j : Nat, nn3.toInt = ((4 * j : Nat) : Int) ∧ RB ns3 (g s2).2 (i + 1) j) → wb_X11_readStep_s_g_214 RS len vf vh f Q a bd bk op3 ns3 nn3 nn := fun a bd bk op3 ns3 nn3 c5 h5 => by
          refine ms_sign hl hn6 hb c5 (by decide) (fun x80 x81 x82 c6 x83 e83 => ?_)
          rw [t_93] at c6
          refine ms_fine c6 (fun z => ⟨fun d => absurd d (by first | decide | simp), fun _ x86 e86 => ?_⟩) (fun z => ⟨fun _ => ms_sign hl hn6 hb c6 (by decide) (fun x59 x60 x61 c7 => ?_), fun d => absurd rfl d⟩)
          · obtain ⟨eo3, z2, ag3, j, ej, hRB⟩ := h5 (gS_fine z)
            have z2' := z2
            rw [e2] at z2'
            have a2 := gS_on (by decide) z2'
            have a1 := nS_on (gS_fine z2')
            rw [← e2] at a2
            have k86 : x86.toInt = ((4 * i + 2 : Nat) : Int) := by rw [e86, t_add (by rw [t_2]; omega) (by rw [t_2]; omega), t_2, en]; omega
            refine ⟨t_in (by omega) (by omega), fun f87 e87 => ms_sign hl hn6 hb c6 (by decide) (fun x59 x60 x61 c7 => ?_)⟩
            rw [t_59] at c7
            rw [t_clamp k86] at e87
            have u : ∀ q : Nat, q ≠ 4 * i + 2 → f87 q = ns3 q := fun q hq => by rw [e87, pk_un hq]
            obtain ⟨q1, q2⟩ := hC ns3 f87 (g s2).2 (i + 1) j hRB
            refine hq _ _ _ _ _ _ c7 (fun _ => ⟨by rw [e83, t_pred (by omega), eo3]; omega, fun q hq => by rw [u q (by omega), ag3 q (by omega), fo_o hq], j, ej, j, ⟨?_, ?_, ?_⟩, q2 (fun q h1 h2 => (u q (by omega)).symm), rfl⟩)
            · rw [u (4 * i) (by omega), ag3 (4 * i) (by omega), fo_0]; exact t_4
            · rw [u (4 * i + 1) (by omega), ag3 (4 * i + 1) (by omega), fo_1]; exact v3 (gS_fine z2')
            · rw [e87, pk_us]; exact ej
          · rw [t_59, gS_bad z] at c7
            exact hq _ _ _ _ _ _ (by rw [gS_bad z]; exact c7) (fun d => absurd (by rw [gS_bad z] at d; exact d) z)
        refine m_tells (i := i) c4 en (fun z => ?_) (fun z => ⟨1, ?_⟩) (fun z nn2 en2 => ⟨151, ?_⟩)
        · rw [e2] at z
          have a2 := gS_on (by decide) z
          have a1 := nS_on (gS_fine z)
          omega
        · refine ms_fine c4 (fun d => absurd d z) (fun _ => ⟨fun _ => tail _ _ _ _ _ _ (by rw [(hg2 s2).1 z]; exact c4) (fun d => absurd (by rw [(hg2 s2).1 z] at d; exact d) z), fun d => absurd rfl d⟩)
        · have z' := z
          rw [e2] at z'
          have a2 := gS_on (by decide) z'
          have a1 := nS_on (gS_fine z')
          rw [← e2] at a2
          exact hg1 Q s2 nn op2 x28 x29 x30 (four ns i 4 r27 0 0) nn2 (i + 1) c4 z a2.2 (by rw [eo2]; omega) en2 (by omega) tail
    · rw [t_eq, er, el] at e2
      refine ms_pass hl hn6 hb c1 h0 ex (fun x1 d0 => ms_number hl hn6 hb d0 (by decide) (by rw [eHm]; omega) (fun r1 x2 bd1 bk1 d1 v1 => ms_number hl hn6 hb d1 (by decide) (by rw [eFm]; omega) (fun r2 x3 bd2 bk2 d2 v2 => ?_)))
      rw [t_0, eHm] at d1 v1
      rw [t_0, eHm, eFm] at d2 v2
      refine fin 398384 0 r1 r2 0 x3 bd2 bk2 e2 (Or.inl rfl) d2 (fun z => ?_)
      have z : (tfS n b H F st).1 = 0 := z
      unfold lfV
      rw [if_pos rfl]
      exact ⟨t_0, v1 (nS_fine z).1, v2 z, t_0⟩
  · rw [t_eq, er, ed] at e1
    refine ms_pass hl hn6 hb c1 h0 ex (fun x1 d0 => fin 4153 3 0 0 0 x1 bd bk e1 (Or.inr (Or.inr (Or.inr rfl))) d0 (fun _ => ?_))
    unfold lfV
    rw [if_neg (by decide), if_neg (by decide), if_neg (by decide)]
    exact ⟨t_3, t_0, t_0, t_0⟩
theorem m_bl {β : Type} {eB eR : β → Nat} {RB : (Nat → Int32) → β → Nat → Nat → Prop} {B : Option (sT → sT × β)} {RS : mW} {o : Nat} (hl : len.toInt = n) (hn : n ≤ 150) (hb : tB n f b) (hC : okR eR RB) (hle : ∀ B : β, eR B ≤ eB B) (hB : ∀ g : sT → sT × β, B = some g → gdB n eB g) (hS : MSt n b len f vh vf RB o (stGw n b H F B) RS) : MBk n b len f vh vf (sgR RB) o (fun st => blG n b H F B 150 (st, [])) RS := by
  intro Q st0 l3 op a bd bk ns0 nn i0 hm0 h00 hp0 eo0 en0 hi0 hq
  have hn6 : n ≤ 600 := by omega
  have hq : ∀ (a bd bk op : Int32) (ns' : Nat → Int32) (nn : Int32), mS n b (blG n b H F B 150 (st0, [])).1 a bd bk → ((blG n b H F B 150 (st0, [])).1.1 = 0 → op.toInt = (o : Int) ∧ st0.1 = 0 ∧ (∀ q : Nat, q < 4 * i0 → ns' q = ns0 q) ∧ ∃ j : Nat, nn.toInt = ((4 * j : Nat) : Int) ∧ sgR RB ns' (blG n b H F B 150 (st0, [])).2 i0 j) → wb_X11_readStep_s_g_214 RS len vf vh f Q a bd bk op ns' nn l3 := hq
  have go : ∀ (kk : Nat) (x : sT × TG β) (a bd bk op : Int32) (ns : Nat → Int32) (nn : Int32) (i : Nat), blG n b H F B kk x = blG n b H F B 150 (st0, []) → mS n b x.1 a bd bk → (x.1.1 = 0 → x.1.2.2 ≤ n ∧ n < x.1.2.2 + 4 * kk ∧ op.toInt = (o : Int) ∧ nn.toInt = ((4 * i : Nat) : Int) ∧ sgR RB ns x.2 i0 i ∧ (∀ q : Nat, q < 4 * i0 → ns q = ns0 q) ∧ 3 * i ≤ x.1.2.2) → wl_X11_readStep_s_g_191 RS len vf vh f Q (kk + 1) a bd bk op ns nn l3 := by
    intro kk
    induction kk with
    | zero =>
      intro x a bd bk op ns nn i hR hm hx
      have hR : x = blG n b H F B 150 (st0, []) := hR
      refine ms_fine hm (fun z => ?_) (fun z => ⟨fun _ => hq _ _ _ _ _ _ (by rw [← hR]; exact hm) (fun d => absurd (by rw [← hR] at d; exact d) z), fun d => absurd rfl d⟩)
      obtain ⟨p1, p2, -⟩ := hx z
      exact absurd p2 (by omega)
    | succ kk ih =>
      intro x a bd bk op ns nn i hR hm hx
      have hR : (if x.1.1 ≠ 0 ∨ at0 n b (sk n b x.1.2.2) = 93 then x else blG n b H F B kk ((stGw n b H F B x.1).1, x.2 ++ (stGw n b H F B x.1).2)) = blG n b H F B 150 (st0, []) := hR
      refine ms_fine hm (fun z => ⟨fun d => absurd d (by first | decide | simp), fun _ => ms_here hl hn6 hb hm (fun r x2 c2 hr => ?_)⟩) (fun z => ?_)
      · obtain ⟨p1, p2, p3, p4, p5, p6, p7⟩ := hx z
        obtain ⟨ex2, cr⟩ := hr z
        unfold cR at cr
        refine ⟨fun e => ?_, fun e => ?_⟩
        · rw [t_eq, t_93] at e
          have w : at0 n b (sk n b x.1.2.2) = 93 := by omega
          rw [if_pos (Or.inr w)] at hR
          exact hq _ _ _ _ _ _ (by rw [← hR]; exact c2) (fun _ => ⟨p3, h00, p6, i, p4, by rw [← hR]; exact p5⟩)
        · rw [t_eq, t_93] at e
          have w : ¬ at0 n b (sk n b x.1.2.2) = 93 := fun d => by omega
          rw [if_neg (fun d => d.elim (fun y => y z) w)] at hR
          refine hS _ x.1 x2 bd bk op ns nn i c2 z p1 p3 p4 p7 (fun a3 bd3 bk3 op3 ns3 nn3 c3 h3 => ?_)
          refine ih _ a3 bd3 bk3 op3 ns3 nn3 (i + erL eR (stGw n b H F B x.1).2) hR c3 (fun zs => ?_)
          obtain ⟨q3, q6, j, ej, q5⟩ := h3 zs
          have on := gd_st (eB := eB) (B := B) hB z p1 zs
          obtain ⟨en, -⟩ := sr_ok hC ns3 ns3 _ i j q5
          obtain ⟨ex, ey⟩ := sr_ok hC ns ns3 _ i0 i p5
          have le := er_le (eR := eR) (eB := eB) hle (stGw n b H F B x.1).2
          refine ⟨on.2.1, ?_, q3, by rw [← en]; exact ej, by rw [← en]; exact sr_app q5 _ _ (ey (fun q _ h2 => (q6 q h2).symm)), fun q hq => by rw [q6 q (by omega)]; exact p6 q hq, ?_⟩
          · show n < (stGw n b H F B x.1).1.2.2 + 4 * kk
            omega
          · show 3 * (i + erL eR (stGw n b H F B x.1).2) ≤ (stGw n b H F B x.1).1.2.2
            omega
      · rw [if_pos (Or.inl z)] at hR
        exact ⟨fun _ => hq _ _ _ _ _ _ (by rw [← hR]; exact hm) (fun d => absurd (by rw [← hR] at d; exact d) z), fun d => absurd rfl d⟩
  exact go 150 (st0, []) a bd bk op ns0 nn i0 rfl hm0 (fun _ => ⟨hp0, by show n < st0.2.2 + 4 * 150; omega, eo0, en0, rfl, fun _ _ => rfl, hi0⟩)
theorem m_st1 (hl : len.toInt = n) (hn : n ≤ 150) (hb : tB n f b) (eH : vh.toInt = H) (hH0 : 0 ≤ H) (h6 : H ≤ 6) (eF : vf.toInt = F) (hF0 : 0 ≤ F) (h8 : F ≤ 8) : MSt n b len f vh vf (rN 0) 5 (stGw n b H F (β := TT 0) (some (blN n b H F 0))) wq_X11_readStep_s_r1 :=
  m_step (β := TT 0) (eB := enN 0) (eR := erN 0) hl hn hb eH hH0 h6 eF hF0 h8 (by omega) (rN_ok 0) ⟨m_bl (β := Empty) (eB := fun _ => 0) (eR := fun _ => 0) (B := none) (o := 6) hl hn hb (fun A A' B i j h => h.elim) (fun _ => Nat.le_refl _) (fun g hg => by cases hg) (m_step0 hl hn hb eH hH0 h6 eF hF0 h8), gd_blN 0, trivial⟩
theorem m_st2 (hl : len.toInt = n) (hn : n ≤ 150) (hb : tB n f b) (eH : vh.toInt = H) (hH0 : 0 ≤ H) (h6 : H ≤ 6) (eF : vf.toInt = F) (hF0 : 0 ≤ F) (h8 : F ≤ 8) : MSt n b len f vh vf (rN 1) 4 (stGw n b H F (β := TT 1) (some (blN n b H F 1))) wq_X11_readStep_s_r2 :=
  m_step (β := TT 1) (eB := enN 1) (eR := erN 1) hl hn hb eH hH0 h6 eF hF0 h8 (by omega) (rN_ok 1) ⟨m_bl (β := TT 0) (eB := enN 0) (eR := erN 0) (B := some (blN n b H F 0)) (o := 5) hl hn hb (rN_ok 0) (erN_le 0) (fun g hg => by rw [← Option.some.inj hg]; exact gd_blN 0) (m_st1 hl hn hb eH hH0 h6 eF hF0 h8), gd_blN 1, trivial⟩
theorem m_st3 (hl : len.toInt = n) (hn : n ≤ 150) (hb : tB n f b) (eH : vh.toInt = H) (hH0 : 0 ≤ H) (h6 : H ≤ 6) (eF : vf.toInt = F) (hF0 : 0 ≤ F) (h8 : F ≤ 8) : MSt n b len f vh vf (rN 2) 3 (stGw n b H F (β := TT 2) (some (blN n b H F 2))) wq_X11_readStep_s_r3 :=
  m_step (β := TT 2) (eB := enN 2) (eR := erN 2) hl hn hb eH hH0 h6 eF hF0 h8 (by omega) (rN_ok 2) ⟨m_bl (β := TT 1) (eB := enN 1) (eR := erN 1) (B := some (blN n b H F 1)) (o := 4) hl hn hb (rN_ok 1) (erN_le 1) (fun g hg => by rw [← Option.some.inj hg]; exact gd_blN 1) (m_st2 hl hn hb eH hH0 h6 eF hF0 h8), gd_blN 2, trivial⟩
theorem m_st4 (hl : len.toInt = n) (hn : n ≤ 150) (hb : tB n f b) (eH : vh.toInt = H) (hH0 : 0 ≤ H) (h6 : H ≤ 6) (eF : vf.toInt = F) (hF0 : 0 ≤ F) (h8 : F ≤ 8) : MSt n b len f vh vf (rN 3) 2 (stGw n b H F (β := TT 3) (some (blN n b H F 3))) wq_X11_readStep_s_r4 :=
  m_step (β := TT 3) (eB := enN 3) (eR := erN 3) hl hn hb eH hH0 h6 eF hF0 h8 (by omega) (rN_ok 3) ⟨m_bl (β := TT 2) (eB := enN 2) (eR := erN 2) (B := some (blN n b H F 2)) (o := 3) hl hn hb (rN_ok 2) (erN_le 2) (fun g hg => by rw [← Option.some.inj hg]; exact gd_blN 2) (m_st3 hl hn hb eH hH0 h6 eF hF0 h8), gd_blN 3, trivial⟩
theorem m_st5 (hl : len.toInt = n) (hn : n ≤ 150) (hb : tB n f b) (eH : vh.toInt = H) (hH0 : 0 ≤ H) (h6 : H ≤ 6) (eF : vf.toInt = F) (hF0 : 0 ≤ F) (h8 : F ≤ 8) : MSt n b len f vh vf (rN 4) 1 (stGw n b H F (β := TT 4) (some (blN n b H F 4))) wq_X11_readStep_s_r5 :=
  m_step (β := TT 4) (eB := enN 4) (eR := erN 4) hl hn hb eH hH0 h6 eF hF0 h8 (by omega) (rN_ok 4) ⟨m_bl (β := TT 3) (eB := enN 3) (eR := erN 3) (B := some (blN n b H F 3)) (o := 2) hl hn hb (rN_ok 3) (erN_le 3) (fun g hg => by rw [← Option.some.inj hg]; exact gd_blN 3) (m_st4 hl hn hb eH hH0 h6 eF hF0 h8), gd_blN 4, trivial⟩
theorem m_st6 (hl : len.toInt = n) (hn : n ≤ 150) (hb : tB n f b) (eH : vh.toInt = H) (hH0 : 0 ≤ H) (h6 : H ≤ 6) (eF : vf.toInt = F) (hF0 : 0 ≤ F) (h8 : F ≤ 8) : MSt n b len f vh vf (rN 5) 0 (stGw n b H F (β := TT 5) (some (blN n b H F 5))) wq_X11_readStep_s_r6 :=
  m_step (β := TT 5) (eB := enN 5) (eR := erN 5) hl hn hb eH hH0 h6 eF hF0 h8 (by omega) (rN_ok 5) ⟨m_bl (β := TT 4) (eB := enN 4) (eR := erN 4) (B := some (blN n b H F 4)) (o := 1) hl hn hb (rN_ok 4) (erN_le 4) (fun g hg => by rw [← Option.some.inj hg]; exact gd_blN 4) (m_st5 hl hn hb eH hH0 h6 eF hF0 h8), gd_blN 5, trivial⟩
end WM
