/-! a down's text: what it says, and the class's reading of it -/
abbrev dT := sT × Nat × Nat × Nat × (Nat → Int) × (Nat → Int) × (Nat → Int) × (Nat → Int)
def iu (f : Nat → Int) (k : Nat) (v : Int) : Nat → Int := fun j => if j = k then v else f j
theorem iu_s {f : Nat → Int} {k : Nat} {v : Int} : iu f k v k = v := if_pos rfl
theorem iu_n {f : Nat → Int} {k j : Nat} {v : Int} (h : j ≠ k) : iu f k v j = f j := if_neg h
/-- two numbers and the sign behind them -/
def twS (n : Nat) (b : Nat → Int) (lo hi lo2 hi2 : Int) (st : sT) : sT := gS n b 59 (nS n b lo2 hi2 (nS n b lo hi st))
def dbA (n : Nat) (b : Nat → Int) (h : Int) (st : sT) : sT := nS n b 0 (h - 1) (nS n b 0 (h - 1) st)
def dbB (n : Nat) (b : Nat → Int) (h : Int) (st : sT) : sT := if nV n b st = nV n b (nS n b 0 (h - 1) st) then fS 2 (sk n b (nS n b 0 (h - 1) st).2.2) (dbA n b h st) else dbA n b h st
def dbC (n : Nat) (b : Nat → Int) (h : Int) (st : sT) : sT := nS n b 0 99 (dbB n b h st)
def dbS (n : Nat) (b : Nat → Int) (h : Int) (st : sT) : sT := gS n b 59 (dbC n b h st)
/-- behind a word -/
def wE (n : Nat) (b : Nat → Int) (st : sT) : sT := (0, 0, lE n b (sk n b st.2.2))
def dStep (n : Nat) (b : Nat → Int) (i : Nat) (st : sT) (nf nh nx : Nat) (F H X D : Nat → Int) : dT :=
  if pw n b (sk n b st.2.2) = 212557 then
    (if i = 60 ∨ nf = 8 then (fS 3 (sk n b st.2.2) st, nf, nh, nx, F, H, X, D) else (twS n b 0 30 0 30 (wE n b st), nf + 1, nh, nx, iu (iu F (2 * nf) (nV n b (wE n b st))) (2 * nf + 1) (nV n b (nS n b 0 30 (wE n b st))), H, X, D))
  else if pw n b (sk n b st.2.2) = 263749 then
    (if i = 60 ∨ nh = 6 then (fS 3 (sk n b st.2.2) st, nf, nh, nx, F, H, X, D) else (twS n b 0 ((nf : Int) - 1) 1 9 (wE n b st), nf, nh + 1, nx, F, iu (iu H (2 * nh) (nV n b (wE n b st))) (2 * nh + 1) (nV n b (nS n b 0 ((nf : Int) - 1) (wE n b st))), X, D))
  else if pw n b (sk n b st.2.2) = 6648 then
    (if i = 60 ∨ nx = 4 then (fS 3 (sk n b st.2.2) st, nf, nh, nx, F, H, X, D) else (twS n b 0 30 0 30 (wE n b st), nf, nh, nx + 1, F, H, iu (iu X (2 * nx) (nV n b (wE n b st))) (2 * nx + 1) (nV n b (nS n b 0 30 (wE n b st))), D))
  else if pw n b (sk n b st.2.2) = 136276 then
    (if i = 60 then (fS 3 (sk n b st.2.2) st, nf, nh, nx, F, H, X, D) else (dbS n b nh (wE n b st), nf, nh, nx, F, H, X, iu D (6 * nV n b (wE n b st) + nV n b (nS n b 0 ((nh : Int) - 1) (wE n b st))).toNat (nV n b (dbB n b nh (wE n b st)))))
  else (fS 1 (sk n b st.2.2) st, nf, nh, nx, F, H, X, D)
def dRun (n : Nat) (b : Nat → Int) : Nat → Nat → dT → dT
  | 0, _, d => d
  | k + 1, i, d => if d.1.1 ≠ 0 ∨ ¬ sk n b d.1.2.2 < n then d else dRun n b k (i + 1) (dStep n b i d.1 d.2.1 d.2.2.1 d.2.2.2.1 d.2.2.2.2.1 d.2.2.2.2.2.1 d.2.2.2.2.2.2.1 d.2.2.2.2.2.2.2)
/-- rows of pairs: the class keeps them in two rows, the reference in one -/
def pr (k : Nat) (A B : Nat → Int32) (G : Nat → Int) : Prop := ∀ j : Nat, j < k → (A j).toInt = G (2 * j) ∧ (B j).toInt = G (2 * j + 1)
def pm (k : Nat) (A : Nat → Int32) (G : Nat → Int) : Prop := ∀ j : Nat, j < k → (A j).toInt = G j
def cD (d : dT) (nf nh nx : Int32) (db FX FY se sr X Y : Nat → Int32) : Prop :=
  (nf.toInt = d.2.1 ∧ d.2.1 ≤ 8) ∧ (nh.toInt = d.2.2.1 ∧ d.2.2.1 ≤ 6) ∧ (nx.toInt = d.2.2.2.1 ∧ d.2.2.2.1 ≤ 4) ∧
  (d.1.1 = 0 → pr d.2.1 X Y d.2.2.2.2.1 ∧ pr d.2.2.1 se sr d.2.2.2.2.2.1 ∧ pr d.2.2.2.1 FX FY d.2.2.2.2.2.2.1 ∧ pm 36 db d.2.2.2.2.2.2.2)
theorem pr_push {k : Nat} {A B : Nat → Int32} {G : Nat → Int} {r s : Int32} {v w : Int} (h : pr k A B G) (e1 : r.toInt = v) (e2 : s.toInt = w) : pr (k + 1) (upd A k r) (upd B k s) (iu (iu G (2 * k) v) (2 * k + 1) w) := by
  intro j hj
  by_cases z : j = k
  · rw [z, pk_us, pk_us, iu_s, iu_n (by omega), iu_s]
    exact ⟨e1, e2⟩
  · rw [pk_un z, pk_un z, iu_n (by omega), iu_n (by omega), iu_n (by omega), iu_n (by omega)]
    exact h j (by omega)
section TD
variable {n : Nat} {b : Nat → Int} {st : sT} {len : Int32} {f : Nat → Int32}
/-- a word of the program's, known by its number -/
def wK (n : Nat) (b : Nat → Int) (m : Nat) (z : Nat → Int32) (c : Int) : Prop := wSt m z (fun j => (z j).toInt) ∧ ∀ s : Nat, s ≤ 600 → (pw n b s = c ↔ isW n b m (fun j => (z j).toInt) s) ∧ (isW n b m (fun j => (z j).toInt) s → lE n b s = s + m)
theorem wK_3 {z : Nat → Int32} {c : Int} (h : wSt 3 z (fun j => (z j).toInt)) (e : ((((z 0).toInt - 96) * 32 + ((z 1).toInt - 96)) * 32 + ((z 2).toInt - 96)) = c) : wK n b 3 z c :=
  ⟨h, fun s hs => by rw [← e]; exact pw_3 hs rfl rfl rfl (h.2.2.2 0 (by decide)).2 (h.2.2.2 1 (by decide)).2 (h.2.2.2 2 (by decide)).2⟩
theorem wK_4 {z : Nat → Int32} {c : Int} (h : wSt 4 z (fun j => (z j).toInt)) (e : (((((z 0).toInt - 96) * 32 + ((z 1).toInt - 96)) * 32 + ((z 2).toInt - 96)) * 32 + ((z 3).toInt - 96)) = c) : wK n b 4 z c :=
  ⟨h, fun s hs => by rw [← e]; exact pw_4 hs rfl rfl rfl rfl (h.2.2.2 0 (by decide)).2 (h.2.2.2 1 (by decide)).2 (h.2.2.2 2 (by decide)).2 (h.2.2.2 3 (by decide)).2⟩
theorem wK_5 {z : Nat → Int32} {c : Int} (h : wSt 5 z (fun j => (z j).toInt)) (e : ((((((z 0).toInt - 96) * 32 + ((z 1).toInt - 96)) * 32 + ((z 2).toInt - 96)) * 32 + ((z 3).toInt - 96)) * 32 + ((z 4).toInt - 96)) = c) : wK n b 5 z c :=
  ⟨h, fun s hs => by rw [← e]; exact pw_5 hs rfl rfl rfl rfl rfl (h.2.2.2 0 (by decide)).2 (h.2.2.2 1 (by decide)).2 (h.2.2.2 2 (by decide)).2 (h.2.2.2 3 (by decide)).2 (h.2.2.2 4 (by decide)).2⟩
theorem wK_6 {z : Nat → Int32} {c : Int} (h : wSt 6 z (fun j => (z j).toInt)) (e : (((((((z 0).toInt - 96) * 32 + ((z 1).toInt - 96)) * 32 + ((z 2).toInt - 96)) * 32 + ((z 3).toInt - 96)) * 32 + ((z 4).toInt - 96)) * 32 + ((z 5).toInt - 96)) = c) : wK n b 6 z c :=
  ⟨h, fun s hs => by rw [← e]; exact pw_6 hs rfl rfl rfl rfl rfl rfl (h.2.2.2 0 (by decide)).2 (h.2.2.2 1 (by decide)).2 (h.2.2.2 2 (by decide)).2 (h.2.2.2 3 (by decide)).2 (h.2.2.2 4 (by decide)).2 (h.2.2.2 5 (by decide)).2⟩
theorem wz_form : wSt 4 zb_X2_62 (fun j => (zb_X2_62 j).toInt) := ⟨by decide, by decide, by decide, by decide⟩
theorem wz_hare : wSt 4 zb_X2_71 (fun j => (zb_X2_71 j).toInt) := ⟨by decide, by decide, by decide, by decide⟩
theorem wz_fox : wSt 3 zb_X2_76 (fun j => (zb_X2_76 j).toInt) := ⟨by decide, by decide, by decide, by decide⟩
theorem wz_debt : wSt 4 zb_X2_81 (fun j => (zb_X2_81 j).toInt) := ⟨by decide, by decide, by decide, by decide⟩
theorem wk_form : wK n b 4 zb_X2_62 212557 := wK_4 wz_form (by decide)
theorem wk_hare : wK n b 4 zb_X2_71 263749 := wK_4 wz_hare (by decide)
theorem wk_fox : wK n b 3 zb_X2_76 6648 := wK_3 wz_fox (by decide)
theorem wk_debt : wK n b 4 zb_X2_81 136276 := wK_4 wz_debt (by decide)
theorem lE_le {a : Nat} (h : a ≤ 600) (hn : n ≤ 600) : lE n b a ≤ 600 := by
  have := (lE_facts (n := n) (b := b) (s := 0) _ a rfl).2.1
  omega
theorem cS_fa {a fa fp : Int32} (h : cS n b st a fa fp) (h0 : st.1 = 0) : fa = 0 := by rw [t_eq, t_0, h.2.1]; exact h0
theorem cS_nf {a fa fp : Int32} (h : cS n b st a fa fp) (h0 : st.1 ≠ 0) : ¬ fa = 0 := fun z => h0 (by rw [← h.2.1, z, t_0])
theorem cs_word {Q : Int32 → Int32 → Int32 → Prop} {m : Nat} {z : Nat → Int32} {c : Int} {a fa fp tk : Int32} (hl : len.toInt = n) (hn : n ≤ 600) (hb : tB n f b) (hw : wK n b m z c) (h : cS n b st a fa fp) (h0 : st.1 = 0)
    (q0 : pw n b (sk n b st.2.2) ≠ c → ∀ x : Int32, cS n b st x fa fp → Q 0 x tk)
    (q1 : pw n b (sk n b st.2.2) = c → ∀ x t : Int32, cS n b (wE n b st) x fa fp → t.toInt = (sk n b st.2.2 : Nat) → Q 1 x t) : wq_X8_takesWord_s m z len fa f a tk Q := by
  have hfa := cS_fa h h0
  obtain ⟨⟨q, e, hq6, es⟩, ef, e0, e1⟩ := h
  have hs := sk_le (b := b) hq6 hn
  have es' := es h0
  rw [es'] at hs
  refine x_word hl hn hb e hq6 hw.1 (fun w x ex => q0 (fun z2 => ?_) x ?_) (fun _ w x t ex et => q1 ?_ x t ?_ ?_)
  · rw [es'] at w
    exact (w.resolve_left (fun d => d hfa)) ((hw.2 _ hs).1.mp z2)
  · rw [es'] at ex
    exact ⟨aS_ex ex hs (fun _ => sk_sk), ef, e0, e1⟩
  · rw [es'] at w
    exact (hw.2 _ hs).1.mpr w
  · rw [es'] at w ex
    rw [← (hw.2 _ hs).2 w] at ex
    exact ⟨aS_ex ex (lE_le hs hn) (fun _ => rfl), ef.trans h0, fun _ => e0 h0, fun d => absurd rfl d⟩
  · rw [es'] at et
    exact et
theorem cs_blameT {Q : Int32 → Int32 → Prop} {a tk fa fp w : Int32} {s : Nat} (h : cS n b st a fa fp) (hw : w.toInt ≠ 0) (ht : st.1 = 0 → tk.toInt = s) (hq : ∀ fa2 fp2 : Int32, cS n b (fS w.toInt s st) a fa2 fp2 → Q fa2 fp2) : wq_X8_blameToken tk fa fp w Q := by
  refine ⟨fun z => hq fa fp ?_, fun z => hq w tk ?_⟩
  · have hz : st.1 ≠ 0 := fun d => z (cS_fa h d)
    rw [fS_bad hz]; exact h
  · have hz : st.1 = 0 := by rw [← h.2.1, z, t_0]
    rw [fS_0 hz]
    obtain ⟨⟨q, g1, g2, g3⟩, ef, e0, e1⟩ := h
    exact ⟨⟨q, g1, g2, fun d => absurd d hw⟩, rfl, fun d => absurd d hw, fun _ => ht hz⟩
theorem cs_blameS {Q : Int32 → Int32 → Int32 → Prop} {a fa fp : Int32} (hl : len.toInt = n) (hn : n ≤ 600) (hb : tB n f b) (h : cS n b st a fa fp) (hq : ∀ x fa2 fp2 : Int32, cS n b (fS 1 (sk n b st.2.2) st) x fa2 fp2 → Q x fa2 fp2) : wq_X8_blameSign len f a fa fp Q := by
  obtain ⟨⟨q, e, hq6, es⟩, ef, e0, e1⟩ := id h
  have hs := sk_le (b := b) hq6 hn
  refine x_skipBlanks hl hn hb e hq6 (fun x ex => ⟨fun z => hq x fa fp ?_, fun z => hq x 1 x ?_⟩)
  · have hz : st.1 ≠ 0 := fun d => z (cS_fa h d)
    rw [fS_bad hz]; exact ⟨aS_ex ex hs (fun d => absurd d hz), ef, e0, e1⟩
  · have hz : st.1 = 0 := by rw [← ef, z, t_0]
    rw [fS_0 hz]
    rw [es hz] at ex hs
    exact ⟨aS_ex ex hs (fun d => absurd d (by first | decide | simp)), t_1, fun d => absurd d (by first | decide | simp), fun _ => ex⟩
theorem cs_isEnded {Q : Int32 → Int32 → Prop} {a fa fp : Int32} (hl : len.toInt = n) (hn : n ≤ 600) (hb : tB n f b) (h : cS n b st a fa fp) (h0 : st.1 = 0) (q0 : sk n b st.2.2 < n → ∀ x : Int32, cS n b st x fa fp → Q 0 x) (q1 : ¬ sk n b st.2.2 < n → ∀ x : Int32, cS n b st x fa fp → Q 1 x) : wq_X8_isEnded len f a Q := by
  obtain ⟨⟨q, e, hq6, es⟩, ef, e0, e1⟩ := id h
  have hs := sk_le (b := b) hq6 hn
  have es' := es h0
  rw [es'] at hs
  refine x_isEnded hl hn hb e hq6 (fun w x ex => ?_) (fun w x ex => ?_)
  · rw [es'] at w ex
    exact q0 w x ⟨aS_ex ex hs (fun _ => sk_sk), ef, e0, e1⟩
  · rw [es'] at w ex
    exact q1 w x ⟨aS_ex ex hs (fun _ => sk_sk), ef, e0, e1⟩
theorem gS_fine {c : Int} (h : (gS n b c st).1 = 0) : st.1 = 0 := by
  by_cases w : st.1 = 0
  · exact w
  · rw [gS_bad w] at h; exact absurd h w
theorem twS_fine {l1 h1 l2 h2 : Int} (h : (twS n b l1 h1 l2 h2 st).1 = 0) : (nS n b l1 h1 st).1 = 0 ∧ (nS n b l2 h2 (nS n b l1 h1 st)).1 = 0 := by
  have z := gS_fine (c := 59) (st := nS n b l2 h2 (nS n b l1 h1 st)) h
  exact ⟨(nS_fine z).1, z⟩
theorem dbB_bad {h : Int} (w : (dbA n b h st).1 ≠ 0) : dbB n b h st = dbA n b h st := by
  unfold dbB
  by_cases z : nV n b st = nV n b (nS n b 0 (h - 1) st)
  · rw [if_pos z, fS_bad w]
  · rw [if_neg z]
theorem dbB_eq {h : Int} (z : nV n b st = nV n b (nS n b 0 (h - 1) st)) : dbB n b h st = fS 2 (sk n b (nS n b 0 (h - 1) st).2.2) (dbA n b h st) := if_pos z
theorem dbB_ne {h : Int} (z : ¬ nV n b st = nV n b (nS n b 0 (h - 1) st)) : dbB n b h st = dbA n b h st := if_neg z
theorem dbB_fine {h : Int} (z : (dbB n b h st).1 = 0) : (dbA n b h st).1 = 0 := by
  by_cases w : (dbA n b h st).1 = 0
  · exact w
  · rw [dbB_bad w] at z; exact z
theorem dbS_fine {h : Int} (z : (dbS n b h st).1 = 0) : (dbC n b h st).1 = 0 ∧ (dbB n b h st).1 = 0 ∧ (dbA n b h st).1 = 0 ∧ (nS n b 0 (h - 1) st).1 = 0 := by
  have z1 : (dbC n b h st).1 = 0 := gS_fine (c := 59) (st := dbC n b h st) z
  have z2 : (dbB n b h st).1 = 0 := (nS_fine (lo := 0) (hi := 99) (st := dbB n b h st) z1).1
  have z3 := dbB_fine z2
  exact ⟨z1, z2, z3, (nS_fine (lo := 0) (hi := h - 1) (st := nS n b 0 (h - 1) st) z3).1⟩
end TD
