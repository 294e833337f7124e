/-! the class's clauses of a down -/
section TDc
variable {n : Nat} {b : Nat → Int} {st : sT} {len : Int32} {f : Nat → Int32}
theorem cs_readForm {Q : Int32 → Int32 → Int32 → Int32 → (Nat → Int32) → (Nat → Int32) → Int32 → Prop} {a fa fp tk nn p2 : Int32} {X Y : Nat → Int32} {NF s0 : Nat} (hl : len.toInt = n) (hn : n ≤ 600) (hb : tB n f b) (hc : cS n b st a fa fp) (h0 : st.1 = 0) (ht : tk.toInt = s0) (n1 : nn.toInt = NF) (n2 : NF ≤ 8)
    (q1 : (¬ p2 = 0 ∨ NF = 8) → ∀ f2 p : Int32, cS n b (3, s0, 0) a f2 p → Q a f2 p tk X Y nn)
    (q2 : p2 = 0 → NF ≠ 8 → ∀ (r s x t f2 p : Int32) (n2 : Int32), cS n b (twS n b 0 30 0 30 st) x f2 p → ((twS n b 0 30 0 30 st).1 = 0 → r.toInt = nV n b st ∧ s.toInt = nV n b (nS n b 0 30 st)) → n2.toInt = ((NF + 1 : Nat) : Int) → Q x f2 p t (upd X NF r) (upd Y NF s) n2) : wq_X2_readForm len f a fa fp tk X Y nn p2 Q := by
  have hbad : (¬ p2 = 0 ∨ NF = 8) → wb_X2_readForm_13 len f Q a fa fp tk X Y nn := fun w => cs_blameT (s := s0) hc (by decide) (fun _ => ht) (fun f2 p c => q1 w f2 p (by rw [fS_0 h0, t_3] at c; exact c))
  refine ⟨fun w => hbad (Or.inl w), fun w => ⟨fun w2 => ?_, fun w2 => hbad (Or.inr (by rw [t_lt, t_8] at w2; omega))⟩⟩
  rw [t_lt, t_8] at w2
  have hk : nn.toNatClampNeg = NF := t_clamp n1
  refine cs_number hl hn hb hc (by decide) (by decide) (fun r x3 x4 x5 x6 c1 v1 => ⟨t_in (by omega) (by omega), fun f8 e8 => cs_number hl hn hb c1 (by decide) (by decide) (fun r2 x9 x10 x11 x12 c2 v2 => ⟨t_in (by omega) (by omega), fun f14 e14 => cs_needs hl hn hb c2 (by decide) (fun x15 x16 x17 x18 c3 x19 e19 => ?_)⟩)⟩)
  rw [hk] at e8 e14
  rw [t_0, t_30] at v1 v2
  rw [t_0, t_30, t_59] at c3
  rw [e8, e14]
  exact q2 w (by omega) r r2 x15 x16 x17 x18 x19 c3 (fun z => ⟨(v1 (twS_fine z).1).1, (v2 (twS_fine z).2).1⟩) (by rw [e19, t_inc (by omega), n1]; omega)
theorem cs_readHare {Q : Int32 → Int32 → Int32 → Int32 → (Nat → Int32) → (Nat → Int32) → Int32 → Prop} {a fa fp tk nn hh p2 : Int32} {X Y : Nat → Int32} {NF NH s0 : Nat} (hl : len.toInt = n) (hn : n ≤ 600) (hb : tB n f b) (hc : cS n b st a fa fp) (h0 : st.1 = 0) (ht : tk.toInt = s0) (n1 : nn.toInt = NF) (n2 : NF ≤ 8) (m1 : hh.toInt = NH) (m2 : NH ≤ 6)
    (q1 : (¬ p2 = 0 ∨ NH = 6) → ∀ f2 p : Int32, cS n b (3, s0, 0) a f2 p → Q a f2 p tk X Y hh)
    (q2 : p2 = 0 → NH ≠ 6 → ∀ (r s x t f2 p : Int32) (n2 : Int32), cS n b (twS n b 0 ((NF : Int) - 1) 1 9 st) x f2 p → ((twS n b 0 ((NF : Int) - 1) 1 9 st).1 = 0 → r.toInt = nV n b st ∧ s.toInt = nV n b (nS n b 0 ((NF : Int) - 1) st)) → n2.toInt = ((NH + 1 : Nat) : Int) → Q x f2 p t (upd X NH r) (upd Y NH s) n2) : wq_X2_readHare nn len f a fa fp tk X Y hh p2 Q := by
  have en : (nn - 1).toInt = (NF : Int) - 1 := by rw [t_pred (by omega), n1]
  have hbad : (¬ p2 = 0 ∨ NH = 6) → wb_X2_readHare_13 nn len f Q a fa fp tk X Y hh := fun w => cs_blameT (s := s0) hc (by decide) (fun _ => ht) (fun f2 p c => q1 w f2 p (by rw [fS_0 h0, t_3] at c; exact c))
  refine ⟨fun w => hbad (Or.inl w), fun w => ⟨fun w2 => ?_, fun w2 => hbad (Or.inr (by rw [t_lt, t_6] at w2; omega))⟩⟩
  rw [t_lt, t_6] at w2
  have hk : hh.toNatClampNeg = NH := t_clamp m1
  refine cs_number hl hn hb hc (by decide) (by rw [en]; omega) (fun r x3 x4 x5 x6 c1 v1 => ⟨t_in (by omega) (by omega), fun f8 e8 => cs_number hl hn hb c1 (by decide) (by decide) (fun r2 x9 x10 x11 x12 c2 v2 => ⟨t_in (by omega) (by omega), fun f14 e14 => cs_needs hl hn hb c2 (by decide) (fun x15 x16 x17 x18 c3 x19 e19 => ?_)⟩)⟩)
  rw [hk] at e8 e14
  rw [t_0, en] at v1
  rw [t_0, en, t_1, t_9] at v2
  rw [t_0, en, t_1, t_9, t_59] at c3
  rw [e8, e14]
  exact q2 w (by omega) r r2 x15 x16 x17 x18 x19 c3 (fun z => ⟨(v1 (twS_fine z).1).1, (v2 (twS_fine z).2).1⟩) (by rw [e19, t_inc (by omega), m1]; omega)
theorem cs_readFox {Q : Int32 → Int32 → Int32 → Int32 → (Nat → Int32) → (Nat → Int32) → Int32 → Prop} {a fa fp tk nn p2 : Int32} {X Y : Nat → Int32} {NX s0 : Nat} (hl : len.toInt = n) (hn : n ≤ 600) (hb : tB n f b) (hc : cS n b st a fa fp) (h0 : st.1 = 0) (ht : tk.toInt = s0) (n1 : nn.toInt = NX) (n2 : NX ≤ 4)
    (q1 : (¬ p2 = 0 ∨ NX = 4) → ∀ f2 p : Int32, cS n b (3, s0, 0) a f2 p → Q a f2 p tk X Y nn)
    (q2 : p2 = 0 → NX ≠ 4 → ∀ (r s x t f2 p : Int32) (n2 : Int32), cS n b (twS n b 0 30 0 30 st) x f2 p → ((twS n b 0 30 0 30 st).1 = 0 → r.toInt = nV n b st ∧ s.toInt = nV n b (nS n b 0 30 st)) → n2.toInt = ((NX + 1 : Nat) : Int) → Q x f2 p t (upd X NX r) (upd Y NX s) n2) : wq_X2_readFox len f a fa fp tk X Y nn p2 Q := by
  have hbad : (¬ p2 = 0 ∨ NX = 4) → wb_X2_readFox_12 len f Q a fa fp tk X Y nn := fun w => cs_blameT (s := s0) hc (by decide) (fun _ => ht) (fun f2 p c => q1 w f2 p (by rw [fS_0 h0, t_3] at c; exact c))
  refine ⟨fun w => hbad (Or.inl w), fun w => ⟨fun w2 => ?_, fun w2 => hbad (Or.inr (by rw [t_lt, t_4] at w2; omega))⟩⟩
  rw [t_lt, t_4] at w2
  have hk : nn.toNatClampNeg = NX := t_clamp n1
  refine cs_number hl hn hb hc (by decide) (by decide) (fun r x3 x4 x5 x6 c1 v1 => ⟨t_in (by omega) (by omega), fun f8 e8 => cs_number hl hn hb c1 (by decide) (by decide) (fun r2 x9 x10 x11 x12 c2 v2 => ⟨t_in (by omega) (by omega), fun f14 e14 => cs_needs hl hn hb c2 (by decide) (fun x15 x16 x17 x18 c3 x19 e19 => ?_)⟩)⟩)
  rw [hk] at e8 e14
  rw [t_0, t_30] at v1 v2
  rw [t_0, t_30, t_59] at c3
  rw [e8, e14]
  exact q2 w (by omega) r r2 x15 x16 x17 x18 x19 c3 (fun z => ⟨(v1 (twS_fine z).1).1, (v2 (twS_fine z).2).1⟩) (by rw [e19, t_inc (by omega), n1]; omega)
theorem cs_debt46 {h : Int32} {db : Nat → Int32} {r6 r11 a fa fp tk : Int32} {NH : Nat} {Q : Int32 → Int32 → Int32 → Int32 → (Nat → Int32) → Prop} (hl : len.toInt = n) (hn : n ≤ 600) (hb : tB n f b) (m2 : NH ≤ 6) (hc : cS n b (dbB n b NH st) a fa fp) (hv : (dbB n b NH st).1 = 0 → r6.toInt = nV n b st ∧ r11.toInt = nV n b (nS n b 0 ((NH : Int) - 1) st))
    (hq : ∀ (x t f2 p : Int32) (db2 : Nat → Int32), cS n b (dbS n b NH st) x f2 p → ((dbS n b NH st).1 = 0 → ∃ (r : Int32) (k : Nat), k < 36 ∧ (k : Int) = 6 * nV n b st + nV n b (nS n b 0 ((NH : Int) - 1) st) ∧ r.toInt = nV n b (dbB n b NH st) ∧ db2 = upd db k r) → Q x f2 p t db2) : wb_X2_readDebt_46 h len f Q a fa fp tk db r6 r11 := by
  refine cs_number hl hn hb hc (by decide) (by decide) (fun r x17 x18 x19 x20 c1 v1 => cs_needs hl hn hb c1 (by decide) (fun x22 x23 x24 x25 c2 => ?_))
  rw [t_0, t_99] at v1
  rw [t_0, t_99, t_59] at c2
  have c2 : cS n b (dbS n b NH st) x22 x24 x25 := c2
  refine ⟨fun z => ⟨fun d => absurd rfl d, fun _ x28 e28 x29 e29 => ?_⟩, fun z => ⟨fun _ => hq _ _ _ _ _ c2 (fun w => absurd (cS_fa c2 w) z), fun d => absurd d (by first | decide | simp)⟩⟩
  have hz : (dbS n b NH st).1 = 0 := by rw [← c2.2.1, z, t_0]
  obtain ⟨z1, z2, z3, z4⟩ := dbS_fine hz
  obtain ⟨w1, w2⟩ := hv z2
  obtain ⟨-, g1, g2⟩ := nS_fine (lo := 0) (hi := (NH : Int) - 1) (st := st) z4
  obtain ⟨-, g3, g4⟩ := nS_fine (lo := 0) (hi := (NH : Int) - 1) (st := nS n b 0 ((NH : Int) - 1) st) z3
  have e1 : x28.toInt = r6.toInt * 6 := by rw [e28, t_mul (by rw [t_6]; omega) (by rw [t_6]; omega), t_6]
  have e2 : x29.toInt = r6.toInt * 6 + r11.toInt := by rw [e29, t_add (by omega) (by omega), e1]
  refine ⟨t_in (by omega) (by omega), fun f30 e30 => hq _ _ _ _ _ c2 (fun _ => ⟨r, x29.toNatClampNeg, ?_, ?_, (v1 z1).1, e30⟩)⟩
  · have := t_nat (x := x29) (by omega); omega
  · have := t_nat (x := x29) (by omega); omega
theorem cs_readDebt {Q : Int32 → Int32 → Int32 → Int32 → (Nat → Int32) → Prop} {a fa fp tk hh p2 : Int32} {db : Nat → Int32} {NH s0 : Nat} (hl : len.toInt = n) (hn : n ≤ 600) (hb : tB n f b) (hc : cS n b st a fa fp) (h0 : st.1 = 0) (ht : tk.toInt = s0) (m1 : hh.toInt = NH) (m2 : NH ≤ 6)
    (q1 : ¬ p2 = 0 → ∀ f2 p : Int32, cS n b (3, s0, 0) a f2 p → Q a f2 p tk db)
    (q2 : p2 = 0 → ∀ (x t f2 p : Int32) (db2 : Nat → Int32), cS n b (dbS n b NH st) x f2 p → ((dbS n b NH st).1 = 0 → ∃ (r : Int32) (k : Nat), k < 36 ∧ (k : Int) = 6 * nV n b st + nV n b (nS n b 0 ((NH : Int) - 1) st) ∧ r.toInt = nV n b (dbB n b NH st) ∧ db2 = upd db k r) → Q x f2 p t db2) : wq_X2_readDebt hh len f a fa fp tk db p2 Q := by
  have en : (hh - 1).toInt = (NH : Int) - 1 := by rw [t_pred (by omega), m1]
  refine ⟨fun w => ?_, fun w => cs_blameT (s := s0) hc (by decide) (fun _ => ht) (fun f2 p c => q1 w f2 p (by rw [fS_0 h0, t_3] at c; exact c))⟩
  refine cs_number hl hn hb hc (by decide) (by rw [en]; omega) (fun r6 x2 x3 x4 x5 c1 v1 => cs_number hl hn hb c1 (by decide) (by rw [en]; omega) (fun r11 x7 x8 x9 x10 c2 v2 => ?_))
  rw [t_0, en] at v1 v2 c2
  have c2 : cS n b (dbA n b NH st) x7 x8 x9 := c2
  have v2 : (dbA n b NH st).1 = 0 → r11.toInt = nV n b (nS n b 0 ((NH : Int) - 1) st) ∧ x10.toInt = (sk n b (nS n b 0 ((NH : Int) - 1) st).2.2 : Nat) := v2
  have vz : (dbA n b NH st).1 = 0 → r6.toInt = nV n b st ∧ r11.toInt = nV n b (nS n b 0 ((NH : Int) - 1) st) := fun z => ⟨(v1 (nS_fine (lo := 0) (hi := (NH : Int) - 1) (st := nS n b 0 ((NH : Int) - 1) st) z).1).1, (v2 z).1⟩
  refine ⟨fun z => cs_debt46 hl hn hb m2 ?_ (fun w => vz (dbB_fine w)) (q2 w), fun z => cs_blameT (s := sk n b (nS n b 0 ((NH : Int) - 1) st).2.2) c2 (by decide) (fun w => (v2 w).2) (fun f2 p c => cs_debt46 hl hn hb m2 ?_ (fun w => vz (dbB_fine w)) (q2 w))⟩
  · by_cases g : (dbA n b NH st).1 = 0
    · obtain ⟨w1, w2⟩ := vz g
      rw [t_eq] at z
      rw [dbB_ne (fun w => z (by omega))]; exact c2
    · rw [dbB_bad g]; exact c2
  · rw [t_2] at c
    by_cases g : (dbA n b NH st).1 = 0
    · obtain ⟨w1, w2⟩ := vz g
      rw [t_eq] at z
      rw [dbB_eq (by omega)]; exact c
    · rw [fS_bad g] at c
      rw [dbB_bad g]; exact c
end TDc
