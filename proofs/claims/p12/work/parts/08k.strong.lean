/-! the tape's count of the class, told exactly (p2) -/
theorem u_put {Q : (Nat → Int32) → Int32 → Prop} {v g : Int32} (g0 : 0 ≤ g.toInt) (g1 : g.toInt ≤ 596) (hq : ∀ (f : Nat → Int32) (x : Int32), x.toInt = g.toInt + 4 → Q f x) : ∀ (k : Nat) (f : Nat → Int32) (fi sh : Int32), 8 * (fi.toInt - g.toInt) + sh.toInt = 24 → sh.toInt ≤ 24 → -8 ≤ sh.toInt → sh.toInt + 8 < 8 * k → wl_X8_put_3 Q k f fi v sh := by
  intro k
  induction k with
  | zero => intro f fi sh h1 h2 h3 h4; omega
  | succ k ih =>
    intro f fi sh h1 h2 h3 h4
    refine ⟨fun c => ?_, fun c => ⟨fun c2 => ?_, fun c2 x3 _ => ⟨t_in (by omega) (by rw [t_lt, t_0] at c; omega), fun f4 _ x5 e5 x6 e6 => ?_⟩⟩⟩
    · rw [t_lt, t_0] at c
      exact hq f fi (by omega)
    · rw [t_lt, t_0] at c
      rw [t_le, t_600] at c2
      omega
    · rw [t_lt, t_0] at c
      have a5 : x5.toInt = fi.toInt + 1 := by rw [e5]; exact t_inc (by omega)
      have a6 : x6.toInt = sh.toInt - 8 := by rw [e6, t_add (by rw [t_m8]; omega) (by rw [t_m8]; omega), t_m8]; omega
      exact ih f4 x5 x6 (by omega) (by omega) (by omega) (by omega)
theorem u_X8_put {Q : (Nat → Int32) → Int32 → Prop} {v fi : Int32} {f : Nat → Int32} (h0 : 0 ≤ fi.toInt) (h1 : fi.toInt ≤ 596) (hq : ∀ (f : Nat → Int32) (x : Int32), x.toInt = fi.toInt + 4 → Q f x) : wq_X8_put f fi v Q :=
  ⟨5, u_put h0 h1 hq 5 f fi 24 (by rw [show (24 : Int32).toInt = 24 by decide]; omega) (by decide) (by decide) (by decide)⟩
theorem u_X10_feed {f : Nat → Int32} {fi a b c d e : Int32} {Q : Int32 → (Nat → Int32) → Int32 → Prop} (h0 : 0 ≤ fi.toInt) (h1 : fi.toInt ≤ 600) (hq : ∀ (r : Int32) (f : Nat → Int32) (x : Int32), (fi.toInt ≤ 580 ∧ x.toInt = fi.toInt + 20 ∧ r.toInt = x.toInt) ∨ (580 < fi.toInt ∧ x.toInt = fi.toInt ∧ r.toInt = -1) → Q r f x) : wq_X10_feed f fi a b c d e Q := by
  have e20 : (fi + 20).toInt = fi.toInt + 20 := by rw [t_add (by rw [t_20]; omega) (by rw [t_20]; omega), t_20]
  refine ⟨fun c0 => ⟨fun c => absurd rfl c, fun _ => hq _ _ _ (Or.inr ?_)⟩, fun c0 => ⟨fun _ => ?_, fun c => absurd c (by decide)⟩⟩
  · rw [t_lt, t_600, e20] at c0
    exact ⟨by omega, rfl, by decide⟩
  · rw [t_lt, t_600, e20] at c0
    exact u_X8_put h0 (by omega) (fun _ _ a1 => u_X8_put (by omega) (by omega) (fun _ _ a2 => u_X8_put (by omega) (by omega) (fun _ _ a3 => u_X8_put (by omega) (by omega) (fun _ _ a4 => u_X8_put (by omega) (by omega) (fun _ _ a5 => hq _ _ _ (Or.inl ⟨by omega, by omega, rfl⟩))))))
/-- a text of p signs can be opened on a tape of a, where at most M are let through -/
def uOk (p a : Int32) (M : Int) : Prop := 0 ≤ p.toInt ∧ p.toInt ≤ a.toInt ∧ p.toInt ≤ M
theorem u_X10_needWithin {v p a b : Int32} {E : String → Int32 → Prop} {Q : Int32 → Prop} (he : ¬ (a.toInt ≤ p.toInt ∧ p.toInt ≤ b.toInt) → E "java/lang/IllegalArgumentException" (v + 1)) (hq : a.toInt ≤ p.toInt → p.toInt ≤ b.toInt → Q v) : wq_X10_needWithin v p a b E Q :=
  q_nw (fun h => hq (t_le.mp h.1) (t_le.mp h.2)) (fun h => he (fun z => h ⟨t_le.mpr z.1, t_le.mpr z.2⟩))
theorem u_X10_openText {ci ln at_ tk fi fa fp p most : Int32} {M : Int} (eM : most.toInt = M) {E : String → Int32 → Int32 → Int32 → Int32 → Int32 → Int32 → Int32 → Prop} {Q : Int32 → Int32 → Int32 → Int32 → Int32 → Int32 → Int32 → Prop} (hf : fi.toInt ≤ 600)
    (he : ¬ uOk p fi M → E "java/lang/IllegalArgumentException" (ci + 1) ln at_ tk fi fa fp) (hq : uOk p fi M → ∀ x : Int32, 0 ≤ x.toInt → x.toInt ≤ fi.toInt → x.toInt ≤ most.toInt → x = p → Q ci x 0 0 0 0 (-1)) : wq_X10_openText ci ln at_ tk fi fa fp p most E Q := by
  intro x1 e1
  have hx1 : (fi.toInt < most.toInt ∧ x1.toInt = fi.toInt) ∨ (most.toInt ≤ fi.toInt ∧ x1.toInt = most.toInt) := by
    rw [e1]
    by_cases c : fi < most
    · rw [if_pos c]; rw [t_lt] at c; omega
    · rw [if_neg c]; rw [t_lt] at c; omega
  refine u_X10_needWithin (fun h => he (fun z => h ⟨by rw [t_0]; exact z.1, by have z1 := z.2.1; have z2 := z.2.2; omega⟩)) (fun g0 g1 x e => ?_)
  rw [t_0] at g0
  have ex : x = p := by
    rw [e]
    by_cases c : 600 < p
    · rw [t_lt, t_600] at c; omega
    · rw [if_neg c]
  exact hq ⟨g0, by omega, by omega⟩ x (by rw [ex]; exact g0) (by rw [ex]; omega) (by rw [ex]; omega) ex
theorem u_X10_book {al as_ : Nat} {fo ci ln at_ tk fi fa fp mn p : Int32} {by_ sn : Nat → Int32} {r1 r2 : Value} {E : String → Int32 → Int32 → Int32 → Int32 → Int32 → Int32 → Int32 → Int32 → (Nat → Int32) → Value → Value → Prop} {Q : Int32 → Int32 → Int32 → Int32 → Int32 → Int32 → Int32 → Int32 → Int32 → (Nat → Int32) → Value → Value → Prop} (hf : fi.toInt ≤ 600) (h0 : 0 ≤ fo.toInt) (h1 : fo.toInt ≤ 8)
    (he : ¬ uOk p fi 60 → E "java/lang/IllegalArgumentException" (ci + 1) ln at_ tk fi fa fp mn sn (.ref al) (.ref as_))
    (hq : uOk p fi 60 → ∀ (r ln2 at2 tk2 fa2 fp2 mn2 : Int32) (sn2 : Nat → Int32) (q1 q2 : Value), 0 ≤ ln2.toInt → ln2.toInt ≤ 600 → 0 ≤ at2.toInt → at2.toInt ≤ 600 → (q1 = .ref as_ ∧ q2 = .ref al ∨ q1 = .ref al ∧ q2 = .ref as_) → Q r ci ln2 at2 tk2 0 fa2 fp2 mn2 sn2 q1 q2) : wq_X10_book al as_ fo by_ ci ln at_ tk fi fa fp mn sn r1 r2 p E Q := by
  refine u_X10_openText (by decide) hf he (fun hu x g0 g1 g2 _ => sf_X0_readFrom (by omega) (by decide) (by decide) h0 h1 (fun mn2 sn2 a f2 fp2 t2 k0 k1 => sf_X8_isFaulty (fun _ => ⟨fun _ => ?_, fun c => absurd rfl c⟩) (fun _ => ⟨fun c => absurd c (by decide), fun _ => ?_⟩)))
  · exact hq hu _ _ _ _ _ _ _ _ _ _ g0 (by omega) k0 k1 (Or.inl ⟨rfl, rfl⟩)
  · exact hq hu _ _ _ _ _ _ _ _ _ _ g0 (by omega) k0 k1 (Or.inr ⟨rfl, rfl⟩)
theorem u_X10_down {by_ : Nat → Int32} {ci ln at_ tk fl fa fp p : Int32} {ag asg ar : Nat} {f h x : Int32} {db : Nat → Int32} {sf : Int32} {FX FY st sr X Y : Nat → Int32} {rg rs : Value} {rl : Int32} {rk rv : Nat → Int32} {lm : Int32} {sn row : Nat → Int32} {nd nl : Value} {pk ik rf : Int32}
    {E : String → Int32 → Int32 → Int32 → Int32 → Int32 → Int32 → Int32 → Int32 → Int32 → Int32 → (Nat → Int32) → Int32 → (Nat → Int32) → (Nat → Int32) → (Nat → Int32) → (Nat → Int32) → (Nat → Int32) → (Nat → Int32) → Value → Value → Int32 → (Nat → Int32) → (Nat → Int32) → Int32 → (Nat → Int32) → (Nat → Int32) → Value → Value → Int32 → Int32 → Int32 → Prop}
    {Q : Int32 → Int32 → Int32 → Int32 → Int32 → Int32 → Int32 → Int32 → Int32 → Int32 → Int32 → (Nat → Int32) → Int32 → (Nat → Int32) → (Nat → Int32) → (Nat → Int32) → (Nat → Int32) → (Nat → Int32) → (Nat → Int32) → Value → Value → Int32 → (Nat → Int32) → (Nat → Int32) → Int32 → (Nat → Int32) → (Nat → Int32) → Value → Value → Int32 → Int32 → Int32 → Prop}
    (f1 : fl.toInt ≤ 600) (he : ¬ uOk p fl 600 → E "java/lang/IllegalArgumentException" (ci + 1) ln at_ tk fl fa fp f h x db sf FX FY st sr X Y (.ref ag) (.ref asg) rl rk rv lm sn row nd nl pk ik rf)
    (hbad : uOk p fl 600 → ∀ (r ln at_ tk fa fp f h x : Int32) (db : Nat → Int32) (sf : Int32) (FX FY st sr X Y : Nat → Int32), Q r ci ln at_ tk 0 fa fp f h x db sf FX FY st sr X Y (.ref ag) (.ref asg) rl rk rv lm sn row nd nl pk ik rf)
    (hok : uOk p fl 600 → ∀ (r ln at_ tk fa fp f h x : Int32) (db : Nat → Int32) (sf : Int32) (FX FY st sr X Y : Nat → Int32) (rl : Int32) (rk rv : Nat → Int32) (lm : Int32) (sn row : Nat → Int32), 0 ≤ f.toInt → f.toInt ≤ 8 → 0 ≤ h.toInt → h.toInt ≤ 6 → 0 ≤ x.toInt → x.toInt ≤ 4 → sLaw rl rk rv → sSits h f row → Q r ci ln at_ tk 0 fa fp f h x db sf FX FY st sr X Y (.ref asg) (.ref ag) rl rk rv lm sn row (.ref asg) (.ref ar) 0 0 0) :
    wq_X10_down_s ag asg ar by_ ci ln at_ tk fl fa fp f h x db sf FX FY st sr X Y rg rs rl rk rv lm sn row nd nl pk ik rf p E Q := by
  refine u_X10_openText (by decide) f1 he (fun hu y y0 y1 y2 _ => sf_X2_readFrom (by rw [show (600 : Int32).toInt = 600 by decide] at y2; omega) (by decide) (by decide) (fun n h x db a sf t f2 fp2 FX FY st sr X Y a0 a1 x0 x1 h0 h1 n0 n1 hs => sf_X8_isFaulty (fun z => ⟨fun _ => ?_, fun c => absurd rfl c⟩) (fun z => ⟨fun c => absurd c (by decide), fun _ => hbad hu _ _ _ _ _ _ _ _ _ _ _ _ _ _ _ _ _⟩)))
  exact sf_X4_setPlain (fun rk rv rl hl => sf_X0_clear (fun sn => sf_X1_begin h1 (hs z) (fun row hr => hok hu _ _ _ _ _ _ _ _ _ _ _ _ _ _ _ _ _ _ _ _ _ _ _ n0 n1 h0 h1 x0 x1 hl hr)))
theorem u_X10_law {by_ : Nat → Int32} {ci ln at_ tk fl fa fp p : Int32} {arl asr : Nat} {sl : Int32} {sk sv : Nat → Int32} {rr rsr nl : Value}
    {E : String → Int32 → Int32 → Int32 → Int32 → Int32 → Int32 → Int32 → Int32 → (Nat → Int32) → (Nat → Int32) → Value → Value → Value → Prop}
    {Q : Int32 → Int32 → Int32 → Int32 → Int32 → Int32 → Int32 → Int32 → Int32 → (Nat → Int32) → (Nat → Int32) → Value → Value → Value → Prop}
    (f1 : fl.toInt ≤ 600) (he : ¬ uOk p fl 150 → E "java/lang/IllegalArgumentException" (ci + 1) ln at_ tk fl fa fp sl sk sv (.ref arl) (.ref asr) nl)
    (hbad : uOk p fl 150 → ∀ (r ln at_ tk fa fp sl : Int32) (sk sv : Nat → Int32), Q r ci ln at_ tk 0 fa fp sl sk sv (.ref arl) (.ref asr) nl)
    (hok : uOk p fl 150 → ∀ (r ln at_ tk fa fp sl : Int32) (sk sv : Nat → Int32), sLaw sl sk sv → Q r ci ln at_ tk 0 fa fp sl sk sv (.ref asr) (.ref arl) (.ref asr)) :
    wq_X10_law_s arl asr by_ ci ln at_ tk fl fa fp sl sk sv rr rsr nl p E Q := by
  refine u_X10_openText (by decide) f1 he (fun hu y y0 y1 y2 _ => sf_X4_readFrom_s (by omega) (by decide) (by decide) (fun ln a t f fp kd vl a0 a1 hl => sf_X8_isFaulty (fun z => ⟨fun _ => ?_, fun c => absurd rfl c⟩) (fun z => ⟨fun c => absurd c (by decide), fun _ => hbad hu _ _ _ _ _ _ _ _ _⟩)))
  exact hok hu _ _ _ _ _ _ _ _ _ hl
theorem u_X10_work {n h sf : Int32} {by_ X Y : Nat → Int32} {rl : Int32} {rk rv sr : Nat → Int32} {ci ln at_ tk fl fa fp sh sn sl so : Int32} {s2 sk s1 s3 hd pr : Nat → Int32} {pk dn rf : Int32} {fc pl row ro : Nat → Int32} {rs p : Int32}
    {E : String → Int32 → Int32 → Int32 → Int32 → Int32 → Int32 → Int32 → Int32 → Int32 → Int32 → Int32 → (Nat → Int32) → (Nat → Int32) → (Nat → Int32) → (Nat → Int32) → (Nat → Int32) → (Nat → Int32) → Int32 → Int32 → Int32 → (Nat → Int32) → (Nat → Int32) → (Nat → Int32) → (Nat → Int32) → Int32 → Prop}
    {Q : Int32 → Int32 → Int32 → Int32 → Int32 → Int32 → Int32 → Int32 → Int32 → Int32 → Int32 → Int32 → (Nat → Int32) → (Nat → Int32) → (Nat → Int32) → (Nat → Int32) → (Nat → Int32) → (Nat → Int32) → Int32 → Int32 → Int32 → (Nat → Int32) → (Nat → Int32) → (Nat → Int32) → (Nat → Int32) → Int32 → Prop}
    (f1 : fl.toInt ≤ 600) (h0 : 0 ≤ h.toInt) (h6 : h.toInt ≤ 6) (n0 : 0 ≤ n.toInt) (n8 : n.toInt ≤ 8) (hl : sLaw rl rk rv) (hs : sSits h n row) (k0 : 0 ≤ pk.toInt) (k1 : pk.toInt ≤ 16) (hp : sPast pk h n pr)
    (he : ¬ uOk p fl 150 → E "java/lang/IllegalArgumentException" (ci + 1) ln at_ tk fl fa fp sh sn sl so s2 sk s1 s3 hd pr pk dn rf fc pl row ro rs)
    (hq : uOk p fl 150 → ∀ (r ln at_ tk fa fp sh sn sl so : Int32) (s2 sk s1 s3 hd pr : Nat → Int32) (pk dn rf : Int32) (fc pl row ro : Nat → Int32) (rs : Int32), 0 ≤ pk.toInt → pk.toInt ≤ 16 → sPast pk h n pr → sSits h n row → Q r ci ln at_ tk 0 fa fp sh sn sl so s2 sk s1 s3 hd pr pk dn rf fc pl row ro rs) :
    wq_X10_work_s n h sf by_ X Y rl rk rv sr ci ln at_ tk fl fa fp sh sn sl so s2 sk s1 s3 hd pr pk dn rf fc pl row ro rs p E Q := by
  refine u_X10_openText (by decide) f1 he (fun hu y y0 y1 y2 _ => ⟨fun c => sf_X9_readFrom (by omega) (by decide) (by decide) h0 h6 n0 n8 (fun ln op a t s kd fi th f fp hd a0 a1 hw hc => sf_X8_isFaulty (fun z => ⟨fun _ => ?_, fun c => absurd rfl c⟩) (fun z => ⟨fun c => absurd c (by decide), fun _ => hq hu _ _ _ _ _ _ _ _ _ _ _ _ _ _ _ _ _ _ _ _ _ _ _ _ k0 k1 hp hs⟩)), fun _ => hq hu _ _ _ _ _ _ _ _ _ _ _ _ _ _ _ _ _ _ _ _ _ _ _ _ k0 k1 hp hs⟩)
  rw [t_lt, t_16] at c
  rw [z] at hw
  exact sf_X5_push k0 k1 h6 hs hp (fun rows k2 e h2 => sf_X9_runOn hw h6 n8 hl hs (fun d rf op fc pl row ro hr => hq hu _ _ _ _ _ _ _ _ _ _ _ _ _ _ _ _ _ _ _ _ _ _ _ _ (by omega) (by omega) h2 hr))
