/-! the class's reading of a law -/
def kC (k : Int) : Int := if k = 6 then 7 else if k = 7 then 8 else if k = 8 then 6 else k
def cL (x : lX) (kd vl : Nat → Int32) (ln : Int32) : Prop := (0 ≤ ln.toInt ∧ ln.toInt ≤ 150) ∧ (x.1.1 = 0 → ln.toInt = (x.2.length : Nat) ∧ ∀ i : Nat, i < x.2.length → (kd i).toInt = kC (x.2.getD i (0, 0)).1 ∧ (vl i).toInt = (x.2.getD i (0, 0)).2)
def wfX (n : Nat) (x : lX) : Prop := x.1.1 = 0 → x.2.length ≤ x.1.2.2 ∧ x.1.2.2 ≤ n
theorem gD_l {l : List (Int × Int)} {a : Int × Int} {i : Nat} (h : i < l.length) : (l ++ [a]).getD i (0, 0) = l.getD i (0, 0) := by
  rw [List.getD_eq_getElem?_getD, List.getD_eq_getElem?_getD, List.getElem?_append_left h]
theorem gD_r {l : List (Int × Int)} {a : Int × Int} : (l ++ [a]).getD l.length (0, 0) = a := by
  rw [List.getD_eq_getElem?_getD, List.getElem?_append_right (Nat.le_refl _), Nat.sub_self]; rfl
theorem c_add {Q : (Nat → Int32) → (Nat → Int32) → Int32 → Prop} {kd vl : Nat → Int32} {ln p1 p2 : Int32} {x : lX} {k v : Int} (h : cL x kd vl ln) (hk : x.1.1 = 0 → p1.toInt = kC k ∧ p2.toInt = v ∧ x.2.length < 150) (hq : ∀ (kd vl : Nat → Int32) (ln : Int32), cL (eS k v x) kd vl ln → Q kd vl ln) : wq_X4_add kd vl ln p1 p2 Q := by
  obtain ⟨⟨l0, l1⟩, hr⟩ := h
  refine ⟨fun c => hq _ _ _ ?_, fun c => ⟨t_in l0 (by rw [t_le, t_150] at c; omega), fun f2 e2 => ⟨t_in l0 (by rw [t_le, t_150] at c; omega), fun f3 e3 x4 e4 => hq _ _ _ ?_⟩⟩⟩
  · rw [t_le, t_150] at c
    by_cases z : x.1.1 = 0
    · have := (hr z).1; have := (hk z).2.2; omega
    · rw [eS_bad z]; exact ⟨⟨l0, l1⟩, hr⟩
  · rw [t_le, t_150] at c
    have e : x4.toInt = ln.toInt + 1 := by rw [e4]; exact t_inc (by omega)
    by_cases z : x.1.1 = 0
    · obtain ⟨el, hi⟩ := hr z
      obtain ⟨k1, k2, k3⟩ := hk z
      rw [eS_0 z]
      refine ⟨⟨by omega, by omega⟩, fun _ => ⟨?_, fun i h9 => ?_⟩⟩
      · show x4.toInt = ((x.2 ++ [(k, v)]).length : Nat)
        rw [List.length_append]
        show x4.toInt = ((x.2.length + 1 : Nat) : Int)
        omega
      · have h9 : i < (x.2 ++ [(k, v)]).length := h9
        rw [List.length_append] at h9
        have h9 : i < x.2.length + 1 := h9
        show (f2 i).toInt = kC ((x.2 ++ [(k, v)]).getD i (0, 0)).1 ∧ (f3 i).toInt = ((x.2 ++ [(k, v)]).getD i (0, 0)).2
        rw [e2, e3, t_clamp el]
        by_cases y : i = x.2.length
        · rw [y, pk_us, pk_us, gD_r]; exact ⟨k1, k2⟩
        · rw [pk_un y, pk_un y, gD_l (by omega)]; exact hi i (by omega)
    · rw [eS_bad z]; exact ⟨⟨by omega, by omega⟩, fun w => absurd w z⟩
section TC
variable {n : Nat} {b : Nat → Int} {st : sT} {len : Int32} {f : Nat → Int32}
theorem cs_takes {Q : Int32 → Int32 → Int32 → Prop} {a tk fa fp c : Int32} (hl : len.toInt = n) (hn : n ≤ 600) (hb : tB n f b) (h : cS n b st a fa fp) (hc : 1 ≤ c.toInt ∧ c.toInt ≤ 127)
    (q0 : (st.1 ≠ 0 ∨ at0 n b (sk n b st.2.2) ≠ c.toInt) → ∀ x : Int32, cS n b st x fa fp → Q 0 x tk)
    (q1 : st.1 = 0 → at0 n b (sk n b st.2.2) = c.toInt → ∀ x t : Int32, cS n b (0, 0, sk n b st.2.2 + 1) x fa fp → t.toInt = (sk n b st.2.2 : Nat) → Q 1 x t) : wq_X8_takes len fa f a tk c Q := by
  obtain ⟨⟨q, e, hq6, es⟩, ef, e0, e1⟩ := id h
  have hs := sk_le (b := b) hq6 hn
  refine x_skipBlanks hl hn hb e hq6 (fun x1 ex => ⟨fun z => ⟨fun d => absurd rfl d, fun _ => ?_⟩, fun z => ⟨fun _ => ?_, fun d => absurd d (by first | decide | simp)⟩⟩)
  · have hz : st.1 = 0 := by rw [← ef, z, t_0]
    rw [es hz] at ex hs
    have same : cS n b st x1 fa fp := ⟨aS_ex ex hs (fun _ => sk_sk), ef, e0, e1⟩
    refine ⟨fun c1 => q0 (Or.inr ?_) x1 same, fun c1 => ?_⟩
    · rw [t_le] at c1
      rw [at0_out (by omega)]; omega
    rw [t_le] at c1
    have hp : sk n b st.2.2 < n := by omega
    have hw := hb _ hp
    unfold cR at hw
    refine ⟨t_in (by omega) (by omega), fun x5 e5 => ⟨fun c5 x7 e7 => ?_, fun c5 => q0 (Or.inr ?_) x1 same⟩⟩
    · rw [t_clamp ex] at e5
      rw [e5, t_eq] at c5
      exact q1 hz (by rw [at0_in hp]; omega) x7 x1 ⟨aS_ex (s := sk n b st.2.2 + 1) (by rw [e7, t_inc (by omega), ex]; omega) (by omega) (fun _ => rfl), ef.trans hz, fun _ => e0 hz, fun d => absurd rfl d⟩ ex
    · rw [t_clamp ex] at e5
      rw [e5, t_eq] at c5
      rw [at0_in hp]; omega
  · have hz : st.1 ≠ 0 := fun w => z (cS_fa h w)
    exact q0 (Or.inl hz) x1 ⟨aS_ex ex hs (fun w => absurd w hz), ef, e0, e1⟩
theorem cs_sees {Q : Int32 → Int32 → Prop} {a fa fp : Int32} (hl : len.toInt = n) (hn : n ≤ 600) (hb : tB n f b) (h : cS n b st a fa fp)
    (q0 : (st.1 = 0 → ¬ isD (at0 n b (sk n b st.2.2))) → ∀ x : Int32, cS n b st x fa fp → Q 0 x)
    (q1 : (st.1 = 0 → isD (at0 n b (sk n b st.2.2))) → ∀ x : Int32, cS n b st x fa fp → Q 1 x) : wq_X8_seesDigit len f a Q := by
  obtain ⟨⟨q, e, hq6, es⟩, ef, e0, e1⟩ := id h
  have hs := sk_le (b := b) hq6 hn
  refine x_skipBlanks hl hn hb e hq6 (fun x1 ex => ?_)
  have same : cS n b st x1 fa fp := ⟨aS_ex ex hs (fun w => by rw [sk_sk]; exact es w), ef, e0, e1⟩
  refine x_digitAt hl hn hb ex (fun y r er => ⟨fun c => ?_, fun c => q1 (fun w => by rw [es w] at y; exact y) x1 same⟩) (fun y => ⟨fun c => q0 (fun w => by rw [es w] at y; exact y) x1 same, fun c => absurd (by decide) c⟩)
  rw [t_lt, t_0] at c; omega
/-- a word that is asked for, also behind a fault -/
theorem cs_wordF {Q : Int32 → Int32 → Int32 → Prop} {m : Nat} {z : Nat → Int32} {c : Int} {a fa fp tk : Int32} (hl : len.toInt = n) (hn : n ≤ 600) (hb : tB n f b) (hw : wK n b m z c) (h : cS n b st a fa fp)
    (q0 : (st.1 = 0 → pw n b (sk n b st.2.2) ≠ c) → ∀ x : Int32, cS n b st x fa fp → Q 0 x tk)
    (q1 : st.1 = 0 → pw n b (sk n b st.2.2) = c → ∀ x t : Int32, cS n b (wE n b st) x fa fp → t.toInt = (sk n b st.2.2 : Nat) → Q 1 x t) : wq_X8_takesWord_s m z len fa f a tk Q := by
  by_cases h0 : st.1 = 0
  · exact cs_word hl hn hb hw h h0 (fun w => q0 (fun _ => w)) (q1 h0)
  · obtain ⟨⟨q, e, hq6, es⟩, ef, e0, e1⟩ := id h
    have hs := sk_le (b := b) hq6 hn
    exact x_word hl hn hb e hq6 hw.1 (fun w x ex => q0 (fun d => absurd d h0) x ⟨aS_ex ex hs (fun w => absurd w h0), ef, e0, e1⟩) (fun d => absurd d (cS_nf h h0))
theorem wy_strong : wSt 6 zb_X4_92 (fun j => (zb_X4_92 j).toInt) := ⟨by decide, by decide, by decide, by decide⟩
theorem wy_still : wSt 5 zb_X4_94 (fun j => (zb_X4_94 j).toInt) := ⟨by decide, by decide, by decide, by decide⟩
theorem wy_owes : wSt 4 zb_X4_96 (fun j => (zb_X4_96 j).toInt) := ⟨by decide, by decide, by decide, by decide⟩
theorem wy_owed : wSt 4 zb_X4_98 (fun j => (zb_X4_98 j).toInt) := ⟨by decide, by decide, by decide, by decide⟩
theorem wy_others : wSt 6 zb_X4_100 (fun j => (zb_X4_100 j).toInt) := ⟨by decide, by decide, by decide, by decide⟩
theorem wy_day : wSt 3 zb_X4_102 (fun j => (zb_X4_102 j).toInt) := ⟨by decide, by decide, by decide, by decide⟩
theorem wy_hare : wSt 4 zb_X4_104 (fun j => (zb_X4_104 j).toInt) := ⟨by decide, by decide, by decide, by decide⟩
theorem wy_leaps : wSt 5 zb_X4_106 (fun j => (zb_X4_106 j).toInt) := ⟨by decide, by decide, by decide, by decide⟩
theorem wy_least : wSt 5 zb_X4_68 (fun j => (zb_X4_68 j).toInt) := ⟨by decide, by decide, by decide, by decide⟩
theorem wy_most : wSt 4 zb_X4_78 (fun j => (zb_X4_78 j).toInt) := ⟨by decide, by decide, by decide, by decide⟩
theorem wl_strong : wK n b 6 zb_X4_92 659111367 := wK_6 wy_strong (by decide)
theorem wl_still : wK n b 5 zb_X4_94 20587916 := wK_5 wy_still (by decide)
theorem wl_owes : wK n b 4 zb_X4_96 515251 := wK_4 wy_owes (by decide)
theorem wl_owed : wK n b 4 zb_X4_98 515236 := wK_4 wy_owed (by decide)
theorem wl_others : wK n b 6 zb_X4_100 524555859 := wK_6 wy_others (by decide)
theorem wl_day : wK n b 3 zb_X4_102 4153 := wK_3 wy_day (by decide)
theorem wl_hare : wK n b 4 zb_X4_104 263749 := wK_4 wy_hare (by decide)
theorem wl_leaps : wK n b 5 zb_X4_106 12748307 := wK_5 wy_leaps (by decide)
theorem wl_least : wK n b 5 zb_X4_68 12748404 := wK_5 wy_least (by decide)
theorem wl_most : wK n b 4 zb_X4_78 441972 := wK_4 wy_most (by decide)
abbrev lQ := Int32 → Int32 → Int32 → Int32 → (Nat → Int32) → (Nat → Int32) → Int32 → Prop
/-- a fact, behind what is no digit, no sign and no other word -/
theorem cs_fact {Q : lQ} {a tk fa fp ln : Int32} {kd vl : Nat → Int32} {cs : List (Int × Int)} (hl : len.toInt = n) (hn : n ≤ 150) (hb : tB n f b) (h : cS n b st a fa fp) (hL : cL (st, cs) kd vl ln) (hw : wfX n (st, cs))
    (hq : ∀ (a t fa fp : Int32) (kd vl : Nat → Int32) (ln : Int32) (y : lX), (st.1 ≠ 0 → y = (st, cs)) → (st.1 = 0 → fW (pw n b (sk n b st.2.2)) = -1 → y = ((1, sk n b st.2.2, 0), cs)) → (st.1 = 0 → fW (pw n b (sk n b st.2.2)) ≠ -1 → y = eS 1 (fW (pw n b (sk n b st.2.2))) (wE n b st, cs)) → cS n b y.1 a fa fp → cL y kd vl ln → Q a t fa fp kd vl ln) : wq_X4_readFact_s len f a tk fa fp kd vl ln Q := by
  have hn6 : n ≤ 600 := by omega
  have one : ∀ (c v : Int) (p2 : Int32) (x t : Int32), st.1 = 0 → pw n b (sk n b st.2.2) = c → fW c = v → v ≠ -1 → p2.toInt = v → cS n b (wE n b st) x fa fp → wq_X4_add kd vl ln 1 p2 (fun f44 f45 x46 => Q x t fa fp f44 f45 x46) := fun c v p2 x t h0 e ev hv ep hc => by
    have w := hw h0
    have g := wE_go (n := n) (b := b) (st := st) (fW_pos (by rw [e, ev]; exact hv)).1
    refine c_add (x := (wE n b st, cs)) (k := 1) (v := v) ⟨hL.1, fun _ => hL.2 h0⟩ (fun _ => ⟨by decide, ep, by show cs.length < 150; have : cs.length ≤ st.2.2 := w.1; omega⟩) (fun kd2 vl2 ln2 hc2 => hq x t fa fp kd2 vl2 ln2 (eS 1 v (wE n b st, cs)) (fun d => absurd h0 d) (fun _ d => absurd (by rw [e, ev] at d; exact d) hv) (fun _ _ => by rw [e, ev]) ?_ hc2)
    rw [eS_st]; exact hc
  refine cs_wordF hl hn6 hb wl_strong h (fun w1 y1 c1 => ⟨fun _ => ?_, fun d => absurd rfl d⟩) (fun h0 e y1 t1 c1 _ => ⟨fun d => absurd d (by first | decide | simp), fun _ => one _ 0 0 y1 t1 h0 e rfl (by decide) t_0 c1⟩)
  refine cs_wordF hl hn6 hb wl_still c1 (fun w2 y2 c2 => ⟨fun _ => ?_, fun d => absurd rfl d⟩) (fun h0 e y2 t2 c2 _ => ⟨fun d => absurd d (by first | decide | simp), fun _ => one _ 1 1 y2 t2 h0 e rfl (by decide) t_1 c2⟩)
  refine cs_wordF hl hn6 hb wl_owes c2 (fun w3 y3 c3 => ⟨fun _ => ?_, fun d => absurd rfl d⟩) (fun h0 e y3 t3 c3 _ => ⟨fun d => absurd d (by first | decide | simp), fun _ => one _ 2 2 y3 t3 h0 e rfl (by decide) t_2 c3⟩)
  refine cs_wordF hl hn6 hb wl_owed c3 (fun w4 y4 c4 => ⟨fun _ => ?_, fun d => absurd rfl d⟩) (fun h0 e y4 t4 c4 _ => ⟨fun d => absurd d (by first | decide | simp), fun _ => one _ 3 3 y4 t4 h0 e rfl (by decide) t_3 c4⟩)
  refine cs_wordF hl hn6 hb wl_others c4 (fun w5 y5 c5 => ⟨fun _ => ?_, fun d => absurd rfl d⟩) (fun h0 e y5 t5 c5 _ => ⟨fun d => absurd d (by first | decide | simp), fun _ => one _ 4 4 y5 t5 h0 e rfl (by decide) t_4 c5⟩)
  refine cs_wordF hl hn6 hb wl_day c5 (fun w6 y6 c6 => ⟨fun _ => ?_, fun d => absurd rfl d⟩) (fun h0 e y6 t6 c6 _ => ⟨fun d => absurd d (by first | decide | simp), fun _ => one _ 5 5 y6 t6 h0 e rfl (by decide) t_5 c6⟩)
  refine cs_wordF hl hn6 hb wl_hare c6 (fun w7 y7 c7 => ⟨fun _ => ?_, fun d => absurd rfl d⟩) (fun h0 e y7 t7 c7 _ => ⟨fun d => absurd d (by first | decide | simp), fun _ => one _ 6 6 y7 t7 h0 e rfl (by decide) t_6 c7⟩)
  refine cs_wordF hl hn6 hb wl_leaps c7 (fun w8 y8 c8 => ⟨fun _ => ?_, fun d => absurd rfl d⟩) (fun h0 e y8 t8 c8 _ => ⟨fun d => absurd d (by first | decide | simp), fun _ => one _ 7 7 y8 t8 h0 e rfl (by decide) t_7 c8⟩)
  refine cs_blameS hl hn6 hb c8 (fun x fa2 fp2 c9 => ?_)
  have hno : st.1 = 0 → fW (pw n b (sk n b st.2.2)) = -1 := fun h0 => by
    unfold fW
    rw [if_neg (w1 h0), if_neg (w2 h0), if_neg (w3 h0), if_neg (w4 h0), if_neg (w5 h0), if_neg (w6 h0), if_neg (w7 h0), if_neg (w8 h0)]
  by_cases h0 : st.1 = 0
  · rw [fS_0 h0] at c9
    exact hq _ _ _ _ _ _ _ ((1, sk n b st.2.2, 0), cs) (fun d => absurd h0 d) (fun _ _ => rfl) (fun _ d => absurd (hno h0) d) c9 ⟨hL.1, fun d => absurd d (by first | decide | simp)⟩
  · rw [fS_bad h0] at c9
    exact hq _ _ _ _ _ _ _ (st, cs) (fun _ => rfl) (fun d => absurd d h0) (fun d => absurd d h0) c9 hL
end TC
