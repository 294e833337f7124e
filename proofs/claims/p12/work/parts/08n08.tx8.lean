/-! a down's text by the reference -/
def mD (d : dT) (nf nh nx : Int32) (db fx ha fo : Nat → Int32) : Prop :=
  (nf.toInt = d.2.1 ∧ d.2.1 ≤ 8) ∧ (nh.toInt = d.2.2.1 ∧ d.2.2.1 ≤ 6) ∧ (nx.toInt = d.2.2.2.1 ∧ d.2.2.2.1 ≤ 4) ∧
  (d.1.1 = 0 → pm (2 * d.2.1) fo d.2.2.2.2.1 ∧ pm (2 * d.2.2.1) ha d.2.2.2.2.2.1 ∧ pm (2 * d.2.2.2.1) fx d.2.2.2.2.2.2.1 ∧ pm 36 db d.2.2.2.2.2.2.2)
theorem pm_push {k : Nat} {A : Nat → Int32} {G : Nat → Int} {r s : Int32} {v w : Int} (h : pm (2 * k) A G) (e1 : r.toInt = v) (e2 : s.toInt = w) : pm (2 * (k + 1)) (upd (upd A (2 * k) r) (2 * k + 1) s) (iu (iu G (2 * k) v) (2 * k + 1) w) := by
  intro j hj
  by_cases z : j = 2 * k + 1
  · rw [z, pk_us, iu_s]; exact e2
  · rw [pk_un z, iu_n z]
    by_cases z2 : j = 2 * k
    · rw [z2, pk_us, iu_s]; exact e1
    · rw [pk_un z2, iu_n z2]; exact h j (by omega)
theorem t_dbl {x : Int32} {k : Nat} (h : x.toInt = k) (h2 : k ≤ 100) : (2 * x).toInt = ((2 * k : Nat) : Int) := by
  rw [t_mul (by rw [t_2]; omega) (by rw [t_2]; omega), t_2]; omega
theorem t_dbl1 {x : Int32} {k : Nat} (h : x.toInt = ((2 * k : Nat) : Int)) (h2 : k ≤ 100) : (x + 1).toInt = ((2 * k + 1 : Nat) : Int) := by
  rw [t_inc (by omega), h]; omega
theorem y_of {m : Nat} {z : Nat → Int32} {c : Int} {Q : Int32 → Prop} (e1 : (Int32.ofNat m >>> ((0 : Int32) &&& 31)).toInt = m) (e2 : (Int32.ofNat m).toInt = m) (ec : (oW z m).toInt = c) (hq : ∀ r : Int32, r.toInt = c → Q r) : wq_X11_of_s m z Q :=
  sf_X11_of_s e1 e2 (fun r e => hq r (by rw [e]; exact ec))
theorem y_form {Q : Int32 → Prop} (hq : ∀ r : Int32, r.toInt = 212557 → Q r) : wq_X11_of_s 4 zb_X11_201 Q := y_of (by decide) (by decide) (by decide) hq
theorem y_hare {Q : Int32 → Prop} (hq : ∀ r : Int32, r.toInt = 263749 → Q r) : wq_X11_of_s 4 zb_X11_206 Q := y_of (by decide) (by decide) (by decide) hq
theorem y_fox {Q : Int32 → Prop} (hq : ∀ r : Int32, r.toInt = 6648 → Q r) : wq_X11_of_s 3 zb_X11_207 Q := y_of (by decide) (by decide) (by decide) hq
theorem y_debt {Q : Int32 → Prop} (hq : ∀ r : Int32, r.toInt = 136276 → Q r) : wq_X11_of_s 4 zb_X11_208 Q := y_of (by decide) (by decide) (by decide) hq
abbrev isR (c : Int) : Prop := c = 212557 ∨ c = 263749 ∨ c = 6648 ∨ c = 136276
theorem y_isRow {p0 : Int32} {Q : Int32 → Prop} (q1 : isR p0.toInt → Q 1) (q0 : ¬ isR p0.toInt → Q 0) : wq_X11_isRow_s p0 Q := by
  refine y_form (fun r2 e2 => ⟨fun z => q1 (Or.inl (by rw [z]; exact e2)), fun z2 => ?_⟩)
  refine y_hare (fun r5 e5 => ⟨fun z => q1 (Or.inr (Or.inl (by rw [z]; exact e5))), fun z5 => ?_⟩)
  refine y_fox (fun r8 e8 => ⟨fun z => q1 (Or.inr (Or.inr (Or.inl (by rw [z]; exact e8)))), fun z8 => ?_⟩)
  refine y_debt (fun r11 e11 => ⟨fun z11 => q0 ?_, fun z => q1 (Or.inr (Or.inr (Or.inr (by rw [z]; exact e11))))⟩)
  rw [t_eq] at z2 z5 z8 z11
  intro w
  rcases w with w | w | w | w <;> omega
theorem y_isFull {p1 nf nh nx : Int32} {Q : Int32 → Prop} (q1 : ((p1.toInt = 212557 ∧ nf.toInt = 8) ∨ (p1.toInt = 263749 ∧ nh.toInt = 6) ∨ (p1.toInt = 6648 ∧ nx.toInt = 4)) → Q 1) (q0 : ¬ ((p1.toInt = 212557 ∧ nf.toInt = 8) ∨ (p1.toInt = 263749 ∧ nh.toInt = 6) ∨ (p1.toInt = 6648 ∧ nx.toInt = 4)) → Q 0) : wq_X11_isFull_s nf nh nx p1 Q := by
  refine y_form (fun r2 e2 => ⟨fun z2 => ?_, fun z2 => ⟨fun z => q0 ?_, fun z => q1 (Or.inl ⟨by rw [z2]; exact e2, by rw [z]; exact t_8⟩)⟩⟩)
  · refine y_hare (fun r5 e5 => ⟨fun z5 => ?_, fun z5 => ⟨fun z => q0 ?_, fun z => q1 (Or.inr (Or.inl ⟨by rw [z5]; exact e5, by rw [z]; exact t_6⟩))⟩⟩)
    · refine y_fox (fun r8 e8 => ⟨fun z8 => q0 ?_, fun z8 => ⟨fun z => q0 ?_, fun z => q1 (Or.inr (Or.inr ⟨by rw [z8]; exact e8, by rw [z]; exact t_4⟩))⟩⟩)
      · rw [t_eq] at z2 z5 z8
        omega
      · rw [t_eq] at z2 z5 z8 z
        rw [t_4] at z
        omega
    · rw [t_eq] at z2 z5 z
      rw [t_6] at z
      omega
  · rw [t_eq] at z2 z
    rw [t_8] at z
    omega
section TM
variable {n : Nat} {b : Nat → Int} {st : sT} {len : Int32} {f : Nat → Int32}
theorem mS_nb {a bd bk : Int32} (h : mS n b st a bd bk) (h0 : st.1 ≠ 0) : ¬ bd = -1 := fun z => by
  have := (h.2.2 h0).1
  rw [z, t_m1] at this; omega
theorem mS_f0 {a bd bk : Int32} (h : mS n b st a bd bk) (z : bd = -1) : st.1 = 0 := by
  by_cases w : st.1 = 0
  · exact w
  · exact absurd z (mS_nb h w)
theorem ms_fine {Q : Int32 → Prop} {a bd bk : Int32} (h : mS n b st a bd bk) (q1 : st.1 = 0 → Q 1) (q0 : st.1 ≠ 0 → Q 0) : wq_X11_fine bd Q := ⟨fun z => q0 (fun w => z (h.2.1 w)), fun z => q1 (mS_f0 h z)⟩
theorem ms_wrong {Q : Int32 → Int32 → Prop} {a bd bk kind place : Int32} {s : Nat} (h : mS n b st a bd bk) (hp : st.1 = 0 → place.toInt = s) (hk : kind.toInt ≠ 0) (hq : ∀ bd2 bk2 : Int32, mS n b (fS kind.toInt s st) a bd2 bk2 → Q bd2 bk2) : wq_X11_wrong bd bk kind place Q := by
  refine ⟨fun z => hq place kind ?_, fun z => hq bd bk ?_⟩
  · have hz := mS_f0 h z
    rw [fS_0 hz]
    obtain ⟨⟨q, g1, g2, g3⟩, e0, e1⟩ := h
    exact ⟨⟨q, g1, g2, fun d => absurd d hk⟩, fun d => absurd d hk, fun _ => ⟨hp hz, rfl⟩⟩
  · have hz : st.1 ≠ 0 := fun w => z (h.2.1 w)
    rw [fS_bad hz]; exact h
theorem ms_here {Q : Int32 → Int32 → Prop} {a bd bk : Int32} (hl : len.toInt = n) (hn : n ≤ 600) (hb : tB n f b) (h : mS n b st a bd bk) (hq : ∀ r x : Int32, mS n b st x bd bk → (st.1 = 0 → x.toInt = (sk n b st.2.2 : Nat) ∧ cR r (at0 n b (sk n b st.2.2))) → Q r x) : wq_X11_here len f a Q := by
  obtain ⟨⟨q, e, hq6, es⟩, e0, e1⟩ := id h
  have hs := sk_le (b := b) hq6 hn
  refine y_here hl hn hb e hq6 (fun r x ex hr => hq r x ⟨aS_ex ex hs (fun w => by rw [sk_sk]; exact es w), e0, e1⟩ (fun w => ?_))
  rw [es w] at ex hr
  exact ⟨ex, hr⟩
theorem ms_isMore {Q : Int32 → Int32 → Prop} {a bd bk : Int32} (hl : len.toInt = n) (hn : n ≤ 600) (hb : tB n f b) (h : mS n b st a bd bk) (h0 : st.1 = 0) (q1 : sk n b st.2.2 < n → ∀ x : Int32, mS n b st x bd bk → Q 1 x) (q0 : ¬ sk n b st.2.2 < n → ∀ x : Int32, mS n b st x bd bk → Q 0 x) : wq_X11_isMore len f a Q := by
  obtain ⟨⟨q, e, hq6, es⟩, e0, e1⟩ := id h
  have hs := sk_le (b := b) hq6 hn
  have es' := es h0
  rw [es'] at hs
  refine y_isMore hl hn hb e hq6 (fun w x ex => ?_) (fun w x ex => ?_)
  · rw [es'] at w ex
    exact q1 w x ⟨aS_ex ex hs (fun _ => sk_sk), e0, e1⟩
  · rw [es'] at w ex
    exact q0 w x ⟨aS_ex ex hs (fun _ => sk_sk), e0, e1⟩
theorem ms_word {Q : Int32 → Int32 → Prop} {a bd bk : Int32} (hl : len.toInt = n) (hn : n ≤ 600) (hb : tB n f b) (h : mS n b st a bd bk) (h0 : st.1 = 0) (hq : ∀ r x : Int32, mS n b st x bd bk → x.toInt = (sk n b st.2.2 : Nat) → r.toInt = pw n b (sk n b st.2.2) → Q r x) : wq_X11_word len f a Q := by
  obtain ⟨⟨q, e, hq6, es⟩, e0, e1⟩ := id h
  have hs := sk_le (b := b) hq6 hn
  have es' := es h0
  rw [es'] at hs
  refine y_word hl hn hb e hq6 (fun r x ex er => ?_)
  rw [es'] at ex er
  exact hq r x ⟨aS_ex ex hs (fun _ => sk_sk), e0, e1⟩ ex er
/-- pass, from a word's first letter on -/
theorem ms_pass {Q : Int32 → Prop} {a bd bk : Int32} (hl : len.toInt = n) (hn : n ≤ 600) (hb : tB n f b) (h : mS n b st a bd bk) (h0 : st.1 = 0) (ha : a.toInt = (sk n b st.2.2 : Nat)) (hq : ∀ x : Int32, mS n b (wE n b st) x bd bk → Q x) : wq_X11_pass len f a Q := by
  have hs : sk n b st.2.2 ≤ 600 := by
    obtain ⟨⟨q, e, hq6, es⟩, e0, e1⟩ := id h
    have := sk_le (b := b) hq6 hn
    rw [es h0] at this; exact this
  exact y_pass hl hn hb ha hs (fun x ex => hq x ⟨aS_ex ex (lE_le hs hn) (fun _ => rfl), fun _ => h.2.1 h0, fun d => absurd rfl d⟩)
theorem ms_debt38 {Q : Int32 → Int32 → Int32 → (Nat → Int32) → Prop} {nh a bd bk r4 r10 : Int32} {db : Nat → Int32} {NH : Nat} (hl : len.toInt = n) (hn : n ≤ 600) (hb : tB n f b) (m2 : NH ≤ 6) (h : mS n b (dbB n b NH st) a bd bk) (hv : (dbB n b NH st).1 = 0 → r4.toInt = nV n b st ∧ r10.toInt = nV n b (nS n b 0 ((NH : Int) - 1) st))
    (hq : ∀ (x bd2 bk2 : Int32) (db2 : Nat → Int32), mS n b (dbC n b NH st) x bd2 bk2 → ((dbC n b NH st).1 = 0 → ∃ (r : Int32) (k : Nat), k < 36 ∧ (k : Int) = 6 * nV n b st + nV n b (nS n b 0 ((NH : Int) - 1) st) ∧ r.toInt = nV n b (dbB n b NH st) ∧ db2 = upd db k r) → Q x bd2 bk2 db2) : wb_X11_readDebt_38 len nh f Q a bd bk db r4 r10 := by
  refine ms_number hl hn hb h (by decide) (by decide) (fun r x16 x17 x18 c1 v1 => ?_)
  rw [t_0, t_99] at c1 v1
  have c1 : mS n b (dbC n b NH st) x16 x17 x18 := c1
  refine ms_fine c1 (fun z => ⟨fun d => absurd d (by first | decide | simp), fun _ x22 e22 x23 e23 => ?_⟩) (fun z => ⟨fun _ => hq _ _ _ _ c1 (fun w => absurd w z), fun d => absurd rfl d⟩)
  have z2 : (dbB n b NH st).1 = 0 := (nS_fine (lo := 0) (hi := 99) (st := dbB n b NH st) z).1
  have z3 := dbB_fine z2
  have z4 : (nS n b 0 ((NH : Int) - 1) st).1 = 0 := (nS_fine (lo := 0) (hi := (NH : Int) - 1) (st := nS n b 0 ((NH : Int) - 1) st) z3).1
  obtain ⟨w1, w2⟩ := hv z2
  obtain ⟨-, g1, g2⟩ := nS_fine (lo := 0) (hi := (NH : Int) - 1) (st := st) z4
  obtain ⟨-, g3, g4⟩ := nS_fine (lo := 0) (hi := (NH : Int) - 1) (st := nS n b 0 ((NH : Int) - 1) st) z3
  have e1 : x22.toInt = 6 * r4.toInt := by rw [e22, t_mul (by rw [t_6]; omega) (by rw [t_6]; omega), t_6]
  have e2 : x23.toInt = 6 * r4.toInt + r10.toInt := by rw [e23, t_add (by omega) (by omega), e1]
  refine ⟨t_in (by omega) (by omega), fun f24 e24 => hq _ _ _ _ c1 (fun _ => ⟨r, x23.toNatClampNeg, ?_, ?_, v1 z, e24⟩)⟩
  · have := t_nat (x := x23) (by omega); omega
  · have := t_nat (x := x23) (by omega); omega
theorem ms_readDebt {Q : Int32 → Int32 → Int32 → (Nat → Int32) → Prop} {nh a bd bk : Int32} {db : Nat → Int32} {NH : Nat} (hl : len.toInt = n) (hn : n ≤ 600) (hb : tB n f b) (m1 : nh.toInt = NH) (m2 : NH ≤ 6) (h : mS n b st a bd bk)
    (hq : ∀ (x bd2 bk2 : Int32) (db2 : Nat → Int32), mS n b (dbC n b NH st) x bd2 bk2 → ((dbC n b NH st).1 = 0 → ∃ (r : Int32) (k : Nat), k < 36 ∧ (k : Int) = 6 * nV n b st + nV n b (nS n b 0 ((NH : Int) - 1) st) ∧ r.toInt = nV n b (dbB n b NH st) ∧ db2 = upd db k r) → Q x bd2 bk2 db2) : wq_X11_readDebt len nh f a bd bk db Q := by
  have en : (nh - 1).toInt = (NH : Int) - 1 := by rw [t_pred (by omega), m1]
  refine ms_number hl hn hb h (by decide) (by rw [en]; omega) (fun r4 x1 x2 x3 c1 v1 => ms_here hl hn hb c1 (fun r6 x5 c5 v5 => ms_number hl hn hb c5 (by decide) (by rw [en]; omega) (fun r10 x7 x8 x9 c2 v2 => ?_)))
  rw [t_0, en] at v1 v2 c2 v5
  have c2 : mS n b (dbA n b NH st) x7 x8 x9 := c2
  have v2 : (dbA n b NH st).1 = 0 → r10.toInt = nV n b (nS n b 0 ((NH : Int) - 1) st) := v2
  have vz : (dbA n b NH st).1 = 0 → (r4.toInt = nV n b st ∧ r10.toInt = nV n b (nS n b 0 ((NH : Int) - 1) st)) ∧ x5.toInt = (sk n b (nS n b 0 ((NH : Int) - 1) st).2.2 : Nat) := fun z => by
    have z1 := (nS_fine (lo := 0) (hi := (NH : Int) - 1) (st := nS n b 0 ((NH : Int) - 1) st) z).1
    exact ⟨⟨v1 z1, v2 z⟩, (v5 z1).1⟩
  refine ms_fine c2 (fun z => ⟨fun d => absurd d (by first | decide | simp), fun _ => ⟨fun g => ?_, fun g => ?_⟩⟩) (fun z => ⟨fun _ => ?_, fun d => absurd rfl d⟩)
  · obtain ⟨⟨w1, w2⟩, w3⟩ := vz z
    rw [t_eq] at g
    have e := dbB_ne (n := n) (b := b) (h := (NH : Int)) (st := st) (fun w => g (by omega))
    rw [← e] at c2
    exact ms_debt38 hl hn hb m2 c2 (fun w => (vz (dbB_fine w)).1) hq
  · obtain ⟨⟨w1, w2⟩, w3⟩ := vz z
    rw [t_eq] at g
    have e := dbB_eq (n := n) (b := b) (h := (NH : Int)) (st := st) (by omega)
    refine ms_wrong (s := sk n b (nS n b 0 ((NH : Int) - 1) st).2.2) c2 (fun _ => w3) (by decide) (fun bd2 bk2 c => ?_)
    rw [t_2, ← e] at c
    exact ms_debt38 hl hn hb m2 c (fun w => (vz (dbB_fine w)).1) hq
  · rw [← dbB_bad z] at c2
    exact ms_debt38 hl hn hb m2 c2 (fun w => (vz (dbB_fine w)).1) hq
end TM
