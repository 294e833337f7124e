/-! a clause, all clauses: the class -/
section TDd
variable {n : Nat} {b : Nat → Int} {st : sT} {len : Int32} {f : Nat → Int32}
theorem ds_form {i NF NH NX : Nat} {F H G D : Nat → Int} (w : pw n b (sk n b st.2.2) = 212557) : dStep n b i st NF NH NX F H G D = if i = 60 ∨ NF = 8 then (fS 3 (sk n b st.2.2) st, NF, NH, NX, F, H, G, D) else (twS n b 0 30 0 30 (wE n b st), NF + 1, NH, NX, iu (iu F (2 * NF) (nV n b (wE n b st))) (2 * NF + 1) (nV n b (nS n b 0 30 (wE n b st))), H, G, D) := by
  unfold dStep; rw [if_pos w]
theorem ds_hare {i NF NH NX : Nat} {F H G D : Nat → Int} (w : pw n b (sk n b st.2.2) = 263749) : dStep n b i st NF NH NX F H G D = if i = 60 ∨ NH = 6 then (fS 3 (sk n b st.2.2) st, NF, NH, NX, F, H, G, D) else (twS n b 0 ((NF : Int) - 1) 1 9 (wE n b st), NF, NH + 1, NX, F, iu (iu H (2 * NH) (nV n b (wE n b st))) (2 * NH + 1) (nV n b (nS n b 0 ((NF : Int) - 1) (wE n b st))), G, D) := by
  unfold dStep; rw [if_neg (by omega), if_pos w]
theorem ds_fox {i NF NH NX : Nat} {F H G D : Nat → Int} (w : pw n b (sk n b st.2.2) = 6648) : dStep n b i st NF NH NX F H G D = if i = 60 ∨ NX = 4 then (fS 3 (sk n b st.2.2) st, NF, NH, NX, F, H, G, D) else (twS n b 0 30 0 30 (wE n b st), NF, NH, NX + 1, F, H, iu (iu G (2 * NX) (nV n b (wE n b st))) (2 * NX + 1) (nV n b (nS n b 0 30 (wE n b st))), D) := by
  unfold dStep; rw [if_neg (by omega), if_neg (by omega), if_pos w]
theorem ds_debt {i NF NH NX : Nat} {F H G D : Nat → Int} (w : pw n b (sk n b st.2.2) = 136276) : dStep n b i st NF NH NX F H G D = if i = 60 then (fS 3 (sk n b st.2.2) st, NF, NH, NX, F, H, G, D) else (dbS n b NH (wE n b st), NF, NH, NX, F, H, G, iu D (6 * nV n b (wE n b st) + nV n b (nS n b 0 ((NH : Int) - 1) (wE n b st))).toNat (nV n b (dbB n b NH (wE n b st)))) := by
  unfold dStep; rw [if_neg (by omega), if_neg (by omega), if_neg (by omega), if_pos w]
theorem ds_none {i NF NH NX : Nat} {F H G D : Nat → Int} (w1 : pw n b (sk n b st.2.2) ≠ 212557) (w2 : pw n b (sk n b st.2.2) ≠ 263749) (w3 : pw n b (sk n b st.2.2) ≠ 6648) (w4 : pw n b (sk n b st.2.2) ≠ 136276) : dStep n b i st NF NH NX F H G D = (fS 1 (sk n b st.2.2) st, NF, NH, NX, F, H, G, D) := by
  unfold dStep; rw [if_neg w1, if_neg w2, if_neg w3, if_neg w4]
theorem pm_upd {k m : Nat} {A : Nat → Int32} {G : Nat → Int} {r : Int32} {v : Int} (h : pm m A G) (e : r.toInt = v) : pm m (upd A k r) (iu G k v) := by
  intro j hj
  by_cases z : j = k
  · rw [z, pk_us, iu_s]; exact e
  · rw [pk_un z, iu_n z]; exact h j hj
theorem cs_clause {Q : Int32 → Int32 → Int32 → Int32 → (Nat → Int32) → (Nat → Int32) → (Nat → Int32) → Int32 → (Nat → Int32) → (Nat → Int32) → Int32 → (Nat → Int32) → (Nat → Int32) → Int32 → Prop} {a tk fa fp x h nn p2 : Int32} {db FX FY se sr X Y : Nat → Int32} {i NF NH NX : Nat} {F H G D : Nat → Int}
    (hl : len.toInt = n) (hn : n ≤ 600) (hb : tB n f b) (hc : cS n b st a fa fp) (h0 : st.1 = 0) (hd : cD (st, NF, NH, NX, F, H, G, D) nn h x db FX FY se sr X Y) (hp1 : p2 = 0 → i ≠ 60) (hp2 : ¬ p2 = 0 → i = 60)
    (hq : ∀ (a t f2 fp2 : Int32) (db FX FY : Nat → Int32) (x : Int32) (se sr : Nat → Int32) (h : Int32) (X Y : Nat → Int32) (nn : Int32), cS n b (dStep n b i st NF NH NX F H G D).1 a f2 fp2 → cD (dStep n b i st NF NH NX F H G D) nn h x db FX FY se sr X Y → Q a t f2 fp2 db FX FY x se sr h X Y nn) :
    wq_X2_readClause_s len f a tk fa fp db FX FY x se sr h X Y nn p2 Q := by
  have hd : (nn.toInt = NF ∧ NF ≤ 8) ∧ (h.toInt = NH ∧ NH ≤ 6) ∧ (x.toInt = NX ∧ NX ≤ 4) ∧ (st.1 = 0 → pr NF X Y F ∧ pr NH se sr H ∧ pr NX FX FY G ∧ pm 36 db D) := hd
  obtain ⟨⟨n1, n2⟩, ⟨m1, m2⟩, ⟨x1, x2⟩, hr⟩ := hd
  obtain ⟨r1, r2, r3, r4⟩ := hr h0
  have bad : ∀ (a t f2 fp2 : Int32), dStep n b i st NF NH NX F H G D = (fS 3 (sk n b st.2.2) st, NF, NH, NX, F, H, G, D) → cS n b (3, sk n b st.2.2, 0) a f2 fp2 → Q a t f2 fp2 db FX FY x se sr h X Y nn := fun a t f2 fp2 e c => by
    rw [fS_0 h0] at e
    refine hq _ _ _ _ _ _ _ _ _ _ _ _ _ _ (by rw [e]; exact c) ?_
    rw [e]
    exact ⟨⟨n1, n2⟩, ⟨m1, m2⟩, ⟨x1, x2⟩, fun z => absurd z (by first | decide | simp)⟩
  refine cs_word hl hn hb wk_form hc h0 (fun w1 y2 c2 => ⟨fun _ => ?_, fun d => absurd rfl d⟩) (fun w1 y2 t2 c2 e2 => ⟨fun d => absurd d (by first | decide | simp), fun _ => ?_⟩)
  · refine cs_word hl hn hb wk_hare c2 h0 (fun w2 y3 c3 => ⟨fun _ => ?_, fun d => absurd rfl d⟩) (fun w2 y3 t3 c3 e3 => ⟨fun d => absurd d (by first | decide | simp), fun _ => ?_⟩)
    · refine cs_word hl hn hb wk_fox c3 h0 (fun w3 y4 c4 => ⟨fun _ => ?_, fun d => absurd rfl d⟩) (fun w3 y4 t4 c4 e4 => ⟨fun d => absurd d (by first | decide | simp), fun _ => ?_⟩)
      · refine cs_word hl hn hb wk_debt c4 h0 (fun w4 y5 c5 => ⟨fun _ => ?_, fun d => absurd rfl d⟩) (fun w4 y5 t5 c5 e5 => ⟨fun d => absurd d (by first | decide | simp), fun _ => ?_⟩)
        · refine cs_blameS hl hn hb c5 (fun z f2 p3 c6 => ?_)
          have e := ds_none (i := i) (NF := NF) (NH := NH) (NX := NX) (F := F) (H := H) (G := G) (D := D) w1 w2 w3 w4
          refine hq _ _ _ _ _ _ _ _ _ _ _ _ _ _ (by rw [e]; exact c6) ?_
          rw [e]
          rw [fS_0 h0]
          exact ⟨⟨n1, n2⟩, ⟨m1, m2⟩, ⟨x1, x2⟩, fun z => absurd z (by first | decide | simp)⟩
        · refine cs_readDebt hl hn hb c5 rfl e5 m1 m2 (fun g f2 p c => bad _ _ _ _ (by rw [ds_debt w4, if_pos (hp2 g)]) c) (fun g y t f2 p db2 c hv => ?_)
          have e := (ds_debt (i := i) (NF := NF) (NH := NH) (NX := NX) (F := F) (H := H) (G := G) (D := D) w4).trans (if_neg (hp1 g))
          refine hq _ _ _ _ _ _ _ _ _ _ _ _ _ _ (by rw [e]; exact c) ?_
          rw [e]
          refine ⟨⟨n1, n2⟩, ⟨m1, m2⟩, ⟨x1, x2⟩, fun z => ⟨r1, r2, r3, ?_⟩⟩
          obtain ⟨r, k, k1, k2, k3, k4⟩ := hv z
          rw [k4, ← k2, Int.toNat_natCast]
          exact pm_upd r4 k3
      · refine cs_readFox hl hn hb c4 rfl e4 x1 x2 (fun g f2 p c => bad _ _ _ _ (by rw [ds_fox w3, if_pos (g.elim (fun d => Or.inl (hp2 d)) Or.inr)]) c) (fun g g2 r s y t f2 p n9 c hv e9 => ?_)
        have e := (ds_fox (i := i) (NF := NF) (NH := NH) (NX := NX) (F := F) (H := H) (G := G) (D := D) w3).trans (if_neg (fun d => d.elim (hp1 g) g2))
        refine hq _ _ _ _ _ _ _ _ _ _ _ _ _ _ (by rw [e]; exact c) ?_
        rw [e]
        exact ⟨⟨n1, n2⟩, ⟨m1, m2⟩, ⟨e9, by show NX + 1 ≤ 4; omega⟩, fun z => ⟨r1, r2, pr_push r3 (hv z).1 (hv z).2, r4⟩⟩
    · refine cs_readHare hl hn hb c3 rfl e3 n1 n2 m1 m2 (fun g f2 p c => bad _ _ _ _ (by rw [ds_hare w2, if_pos (g.elim (fun d => Or.inl (hp2 d)) Or.inr)]) c) (fun g g2 r s y t f2 p n9 c hv e9 => ?_)
      have e := (ds_hare (i := i) (NF := NF) (NH := NH) (NX := NX) (F := F) (H := H) (G := G) (D := D) w2).trans (if_neg (fun d => d.elim (hp1 g) g2))
      refine hq _ _ _ _ _ _ _ _ _ _ _ _ _ _ (by rw [e]; exact c) ?_
      rw [e]
      exact ⟨⟨n1, n2⟩, ⟨e9, by show NH + 1 ≤ 6; omega⟩, ⟨x1, x2⟩, fun z => ⟨r1, pr_push r2 (hv z).1 (hv z).2, r3, r4⟩⟩
  · refine cs_readForm hl hn hb c2 rfl e2 n1 n2 (fun g f2 p c => bad _ _ _ _ (by rw [ds_form w1, if_pos (g.elim (fun d => Or.inl (hp2 d)) Or.inr)]) c) (fun g g2 r s y t f2 p n9 c hv e9 => ?_)
    have e := (ds_form (i := i) (NF := NF) (NH := NH) (NX := NX) (F := F) (H := H) (G := G) (D := D) w1).trans (if_neg (fun d => d.elim (hp1 g) g2))
    refine hq _ _ _ _ _ _ _ _ _ _ _ _ _ _ (by rw [e]; exact c) ?_
    rw [e]
    exact ⟨⟨e9, by show NF + 1 ≤ 8; omega⟩, ⟨m1, m2⟩, ⟨x1, x2⟩, fun z => ⟨pr_push r1 (hv z).1 (hv z).2, r2, r3, r4⟩⟩
theorem dRun_end {k i : Nat} {d : dT} (h : d.1.1 ≠ 0 ∨ ¬ sk n b d.1.2.2 < n) : dRun n b k i d = d := by
  cases k with
  | zero => rfl
  | succ k => unfold dRun; rw [if_pos h]
theorem dRun_go {k i NF NH NX : Nat} {F H G D : Nat → Int} (h0 : st.1 = 0) (h : sk n b st.2.2 < n) : dRun n b (k + 1) i (st, NF, NH, NX, F, H, G, D) = dRun n b k (i + 1) (dStep n b i st NF NH NX F H G D) := by
  show (if _ then _ else _) = _
  rw [if_neg (fun d => d.elim (fun z => z h0) (fun z => z h))]
theorem cs_from41 {Q : Int32 → Int32 → Int32 → (Nat → Int32) → Int32 → Int32 → Int32 → Int32 → Int32 → (Nat → Int32) → (Nat → Int32) → (Nat → Int32) → (Nat → Int32) → (Nat → Int32) → (Nat → Int32) → Prop} {R : dT} (hl : len.toInt = n) (hn : n ≤ 600) (hb : tB n f b)
    (hq : ∀ (nn h x : Int32) (db : Nat → Int32) (a sf t f2 fp2 : Int32) (FX FY se sr X Y : Nat → Int32), cS n b R.1 a f2 fp2 → cD R nn h x db FX FY se sr X Y → wb_X2_readFrom_s_83 len f Q nn h x db a sf t f2 fp2 FX FY se sr X Y) :
    ∀ (k : Nat) (nn h x : Int32) (db : Nat → Int32) (a sf t f2 fp2 : Int32) (FX FY se sr X Y : Nat → Int32) (l2 : Int32) (i : Nat) (d : dT), cS n b d.1 a f2 fp2 → cD d nn h x db FX FY se sr X Y → l2.toInt = i → i ≤ 61 → 61 - i < k → dRun n b (61 - i) i d = R → wl_X2_readFrom_s_41 len f Q k nn h x db a sf t f2 fp2 FX FY se sr X Y l2 := by
  intro k
  induction k with
  | zero => intro nn h x db a sf t f2 fp2 FX FY se sr X Y l2 i d hc hd h1 h2 h3; omega
  | succ k ih =>
    intro nn h x db a sf t f2 fp2 FX FY se sr X Y l2 i d hc hd h1 h2 h3 hR
    refine ⟨fun c => ?_, fun c => ⟨fun z => ⟨fun w => absurd rfl w, fun _ => ?_⟩, fun z => ⟨fun _ => ?_, fun w => absurd w (by first | decide | simp)⟩⟩⟩
    · rw [t_lt, t_60] at c
      rw [show 61 - i = 0 by omega] at hR
      have hR : d = R := hR
      rw [hR] at hc hd
      exact hq _ _ _ _ _ _ _ _ _ _ _ _ _ _ _ hc hd
    · rw [t_lt, t_60] at c
      have h0 : d.1.1 = 0 := by rw [← hc.2.1, z, t_0]
      refine cs_isEnded hl hn hb hc h0 (fun w y cy => ⟨fun d => absurd rfl d, fun _ => ?_⟩) (fun w y cy => ⟨fun _ => ?_, fun d => absurd d (by first | decide | simp)⟩)
      · obtain ⟨st, NF, NH, NX, F, H, G, D⟩ := d
        rw [show 61 - i = (61 - (i + 1)) + 1 by omega, dRun_go h0 w] at hR
        have go : ∀ s2 : Int32, (s2 = 0 → i ≠ 60) → (¬ s2 = 0 → i = 60) → wb_X2_readFrom_s_74 len f Q (fun n h x db a sf t f2 fp2 FX FY se sr X Y i => wl_X2_readFrom_s_41 len f Q k n h x db a sf t f2 fp2 FX FY se sr X Y i) nn h x db y sf t f2 fp2 FX FY se sr X Y l2 s2 := fun s2 g1 g2 =>
          cs_clause hl hn hb cy h0 hd g1 g2 (fun a t f2 fp2 db FX FY x se sr h X Y nn c9 d9 x26 e26 => ih _ _ _ _ _ _ _ _ _ _ _ _ _ _ _ x26 (i + 1) _ c9 d9 (by rw [e26, t_inc (by omega), h1]; omega) (by omega) (by omega) hR)
        exact ⟨fun g => go 0 (fun _ g9 => g (by rw [t_eq, t_60]; omega)) (fun g9 => absurd rfl g9), fun g => go 1 (fun g9 => absurd g9 (by decide)) (fun _ => by rw [t_eq, t_60] at g; omega)⟩
      · rw [dRun_end (Or.inr w)] at hR
        rw [hR] at cy hd
        exact hq _ _ _ _ _ _ _ _ _ _ _ _ _ _ _ cy hd
    · have h0 : d.1.1 ≠ 0 := fun w => z (cS_fa hc w)
      rw [dRun_end (Or.inl h0)] at hR
      rw [hR] at hc hd
      exact hq _ _ _ _ _ _ _ _ _ _ _ _ _ _ _ hc hd
theorem cs_from17 {Q : Int32 → Int32 → Int32 → (Nat → Int32) → Int32 → Int32 → Int32 → Int32 → Int32 → (Nat → Int32) → (Nat → Int32) → (Nat → Int32) → (Nat → Int32) → (Nat → Int32) → (Nat → Int32) → Prop} {nn h x a sf t f2 fp2 : Int32} {FX FY se sr X Y : Nat → Int32} (hk : ∀ db : Nat → Int32, pm 36 db (fun _ => 0) → ∃ k : Nat, wl_X2_readFrom_s_41 len f Q k nn h x db a sf t f2 fp2 FX FY se sr X Y 0) :
    ∀ (k : Nat) (db : Nat → Int32) (l2 : Int32) (i : Nat), l2.toInt = i → i ≤ 36 → 36 - i < k → pm i db (fun _ => 0) → wl_X2_readFrom_s_17 len f Q k nn h x db a sf t f2 fp2 FX FY se sr X Y l2 := by
  intro k
  induction k with
  | zero => intro db l2 i i0 i1 i2; omega
  | succ k ih =>
    intro db l2 i i0 i1 i2 hz
    refine ⟨fun c => hk db ?_, fun c => ?_⟩
    · rw [t_le, t_36] at c
      have e : i = 36 := by omega
      rw [← e]; exact hz
    rw [t_le, t_36] at c
    refine ⟨t_in (by omega) (by omega), fun f2' e2 x3 e3 => ?_⟩
    have e : x3.toInt = ((i + 1 : Nat) : Int) := by rw [e3, t_inc (by omega), i0]; omega
    refine ih f2' x3 (i + 1) e (by omega) (by omega) (fun j hj => ?_)
    rw [t_clamp i0] at e2
    by_cases z : j = i
    · rw [e2, z, pk_us]; exact t_0
    · rw [e2, pk_un z]; exact hz j (by omega)
/-- the text of a down, as it is read from its first byte on -/
def dAll (n : Nat) (b : Nat → Int) : dT := dRun n b 61 0 ((0, 0, 0), 0, 0, 0, (fun _ => 0), (fun _ => 0), (fun _ => 0), (fun _ => 0))
theorem cs_readFrom {Q : Int32 → Int32 → Int32 → (Nat → Int32) → Int32 → Int32 → Int32 → Int32 → Int32 → (Nat → Int32) → (Nat → Int32) → (Nat → Int32) → (Nat → Int32) → (Nat → Int32) → (Nat → Int32) → Prop} {nn h x a sf t f2 fp2 : Int32} {db FX FY se sr X Y : Nat → Int32} (hl : len.toInt = n) (hn : n ≤ 600) (hb : tB n f b) (hc : cS n b (0, 0, 0) a f2 fp2)
    (hq : ∀ (nn h x : Int32) (db : Nat → Int32) (a sf t f2 fp2 : Int32) (FX FY se sr X Y : Nat → Int32), cS n b (dAll n b).1 a f2 fp2 → cD (dAll n b) nn h x db FX FY se sr X Y → wb_X2_readFrom_s_83 len f Q nn h x db a sf t f2 fp2 FX FY se sr X Y) :
    wq_X2_readFrom_s len f nn h x db a sf t f2 fp2 FX FY se sr X Y Q :=
  ⟨37, cs_from17 (fun db hz => ⟨62, cs_from41 hl hn hb hq 62 0 0 0 db a sf t f2 fp2 FX FY se sr X Y 0 0 ((0, 0, 0), 0, 0, 0, (fun _ => 0), (fun _ => 0), (fun _ => 0), (fun _ => 0)) hc ⟨⟨t_0, by decide⟩, ⟨t_0, by decide⟩, ⟨t_0, by decide⟩, fun _ => ⟨fun j hj => absurd hj (Nat.not_lt_zero j), fun j hj => absurd hj (Nat.not_lt_zero j), fun j hj => absurd hj (Nat.not_lt_zero j), hz⟩⟩ t_0 (by decide) (by decide) rfl⟩) 37 db 0 0 t_0 (by decide) (by decide) (fun j hj => absurd hj (Nat.not_lt_zero j))⟩
end TDd
