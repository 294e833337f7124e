section Cs
variable {n h ci cn p : Int32} {row : Nat → Int32}
theorem sf_X10_watch {X Y nr : Nat → Int32} {E : String → Int32 → (Nat → Int32) → Prop} {Q : Int32 → Int32 → (Nat → Int32) → Prop} (n0 : 0 ≤ n.toInt) (n8 : n.toInt ≤ 8) (he : E "java/lang/IllegalArgumentException" (ci + 1) nr) (hq : ∀ (r : Int32) (nr : Nat → Int32), Q r ci nr) : wq_X10_watch n X Y ci nr p E Q :=
  sf_X10_needWithin he (fun _ _ => sf_X2_watchers n0 n8 (fun r nr => hq r nr))
theorem sl_X10_bouts {E : String → Int32 → Prop} {Q : Int32 → Int32 → Prop} (h6 : h.toInt ≤ 6) (hq : ∀ r, Q r cn) : ∀ (k : Nat) (l2 v i : Int32), 0 ≤ l2.toInt → l2.toInt < 64 → 0 ≤ i.toInt → i.toInt ≤ 6 → 6 - i.toInt < k → wl_X10_bouts_31 h row E Q k cn p l2 v i := by
  intro k
  induction k with
  | zero => intro l2 v i a0 a1 i0 i1 i2; omega
  | succ k ih =>
    intro l2 v i a0 a1 i0 i1 i2
    refine ⟨fun _ => hq _, fun c => ?_⟩
    rw [t_le] at c
    have go : ∀ v x9 : Int32, x9 = i + 1 → wl_X10_bouts_31 h row E Q k cn p l2 v x9 := fun v x9 e9 => by
      have e : x9.toInt = i.toInt + 1 := by rw [e9]; exact t_inc (by omega)
      exact ih l2 v x9 a0 a1 (by omega) (by omega) (by omega)
    have h5 := pc_le6 a0 a1
    refine sg_X10_holdsB a0 a1 i0 (by omega) (fun r hr => ⟨fun _ => go v, fun cr => ?_⟩)
    rw [t_eq, t_0] at cr
    have g := hr.resolve_left cr
    exact sf_X1_strong i0 (by omega) (fun r8 => sf_X10_ordersWon_r5 g.2.1 g.2.2.1 (by omega) (fun r9 x10 _ => go x10))
theorem sf_X10_bouts {E : String → Int32 → Prop} {Q : Int32 → Int32 → Prop} (h0 : 0 ≤ h.toInt) (h6 : h.toInt ≤ 6) (he : E "java/util/NoSuchElementException" (cn + 1)) (hq : ∀ r, Q r cn) : wq_X10_bouts h row cn p E Q := by
  refine sf_X10_needHare h0 he (fun _ _ => sf_X1_isCaught ⟨fun _ => ?_, fun c => absurd rfl c⟩ ⟨fun c => absurd c (by decide), fun _ => hq _⟩)
  intro x1 _ x2 e2
  have hs := t_shl h0 (by omega)
  have hp : ((1 <<< (h &&& 31)) - 1 : Int32).toInt = (1 <<< (h &&& 31) : Int32).toInt - 1 := t_pred (by omega)
  have g := t_andle (a := (1 <<< (h &&& 31)) - 1) (b := x1 ^^^ (-1)) (by omega)
  rw [← e2] at g
  exact ⟨7, sl_X10_bouts h6 hq 7 x2 0 0 g.1 (by omega) (by decide) (by decide) (by decide)⟩
theorem sf_X10_fits {al : Nat} {sn : Nat → Int32} {a b c d : Int32} {f1 f2 f3 : Nat → Int32} {rb : Value} {E : String → Int32 → Int32 → Int32 → Int32 → Int32 → (Nat → Int32) → (Nat → Int32) → (Nat → Int32) → Value → Prop} {Q : Int32 → Int32 → Int32 → Int32 → Int32 → Int32 → (Nat → Int32) → (Nat → Int32) → (Nat → Int32) → Value → Prop} (n8 : n.toInt ≤ 8) (h6 : h.toInt ≤ 6) (he : E "java/lang/IllegalArgumentException" (ci + 1) a b c d f1 f2 f3 rb) (hq : ∀ (r a b c d : Int32) (f1 f2 f3 : Nat → Int32), Q r ci a b c d f1 f2 f3 (.ref al)) : wq_X10_fits al n h row sn ci a b c d f1 f2 f3 rb p E Q :=
  sf_X10_needWithin he (fun _ _ => sf_X3_settle n8 h6 (fun _ _ _ _ _ _ _ _ _ => ⟨fun _ => hq _ _ _ _ _ _ _ _, fun _ => hq _ _ _ _ _ _ _ _⟩))
theorem sf_X10_look {al : Nat} {sn : Nat → Int32} {a b c d e f : Int32} {f1 f2 f3 f4 : Nat → Int32} {rb : Value} {E : String → Int32 → Int32 → Int32 → Int32 → Int32 → (Nat → Int32) → (Nat → Int32) → (Nat → Int32) → Value → Int32 → Int32 → (Nat → Int32) → Prop} {Q : Int32 → Int32 → Int32 → Int32 → Int32 → Int32 → (Nat → Int32) → (Nat → Int32) → (Nat → Int32) → Value → Int32 → Int32 → (Nat → Int32) → Prop} (n8 : n.toInt ≤ 8) (h6 : h.toInt ≤ 6) (he : E "java/lang/IllegalArgumentException" (ci + 1) a b c d f1 f2 f3 rb e f f4) (hq : ∀ (r a b c d : Int32) (f1 f2 f3 : Nat → Int32) (e f : Int32) (f4 : Nat → Int32), Q r ci a b c d f1 f2 f3 (.ref al) e f f4) : wq_X10_look al n h row sn ci a b c d f1 f2 f3 rb e f f4 p E Q :=
  sf_X10_needWithin he (fun _ _ => sf_X3_settle n8 h6 (fun _ _ _ _ _ _ _ g1 g2 => sf_X3_lookAhead (by omega) (by omega) (fun _ _ _ => ⟨fun _ => hq _ _ _ _ _ _ _ _ _ _ _, fun _ => hq _ _ _ _ _ _ _ _ _ _ _⟩)))
theorem sf_X10_ring {X Y : Nat → Int32} {l : Int32} {f1 f2 : Nat → Int32} {Q : Int32 → Int32 → (Nat → Int32) → (Nat → Int32) → Prop} (n0 : 0 ≤ n.toInt) (n8 : n.toInt ≤ 8) (hq : ∀ (r l : Int32) (f1 f2 : Nat → Int32), Q r l f1 f2) : wq_X10_ring n X Y l f1 f2 Q :=
  sf_X6_settle n0 n8 (fun _ _ _ => hq _ _ _ _)
theorem sf_X10_ringed {X Y : Nat → Int32} {l : Int32} {f1 f2 : Nat → Int32} {E : String → Int32 → Int32 → (Nat → Int32) → (Nat → Int32) → Prop} {Q : Int32 → Int32 → Int32 → (Nat → Int32) → (Nat → Int32) → Prop} (n0 : 0 ≤ n.toInt) (n8 : n.toInt ≤ 8) (he : E "java/lang/IllegalArgumentException" (ci + 1) l f1 f2) (hq : ∀ (r l : Int32) (f1 f2 : Nat → Int32), Q r ci l f1 f2) : wq_X10_ringed n X Y ci l f1 f2 p E Q := by
  refine ⟨fun _ => ⟨fun c => absurd rfl c, fun _ x2 e2 => by rw [e2]; exact he⟩, fun c => ⟨fun _ => ⟨fun c2 => sf_X6_settle n0 n8 (fun _ _ _ => ⟨t_in ?_ ?_, fun _ _ => hq _ _ _ _⟩), fun _ => hq _ _ _ _⟩, fun c2 => absurd c2 (by decide)⟩⟩
  · rw [t_lt, t_0] at c; omega
  · rw [t_lt] at c2; omega
section Se
variable {sf ln : Int32} {kd vl X Y : Nat → Int32} {mo gv fc pl al : Nat → Int32} {sd : Int32}
theorem sf_X10_seat {E : String → Int32 → (Nat → Int32) → Int32 → (Nat → Int32) → (Nat → Int32) → (Nat → Int32) → (Nat → Int32) → Prop} {Q : Int32 → Int32 → (Nat → Int32) → Int32 → (Nat → Int32) → (Nat → Int32) → (Nat → Int32) → (Nat → Int32) → Prop} (hs : sSits h n row) (hl : sLaw ln kd vl) (h0 : 0 ≤ h.toInt) (h6 : h.toInt ≤ 6) (n0 : 0 ≤ n.toInt) (n8 : n.toInt ≤ 8) (he : E "java/util/NoSuchElementException" (cn + 1) mo sd gv fc pl al) (hq : ∀ (r : Int32) (mo : Nat → Int32) (sd : Int32) (gv fc pl al : Nat → Int32), Q r cn mo sd gv fc pl al) : wq_X10_seat n h sf row ln kd vl X Y cn mo sd gv fc pl al p E Q :=
  sf_X10_needHare h0 he (fun p0 p1 => sf_X7_settle hs hl h0 h6 n0 n8 (fun _ _ _ _ _ _ => ⟨t_in p0 (by omega), fun _ _ => hq _ _ _ _ _ _ _⟩))
theorem sf_X10_seats {Q : Int32 → (Nat → Int32) → Int32 → (Nat → Int32) → (Nat → Int32) → (Nat → Int32) → (Nat → Int32) → Prop} (hs : sSits h n row) (hl : sLaw ln kd vl) (h0 : 0 ≤ h.toInt) (h6 : h.toInt ≤ 6) (n0 : 0 ≤ n.toInt) (n8 : n.toInt ≤ 8) (hq : ∀ (r : Int32) (mo : Nat → Int32) (sd : Int32) (gv fc pl al : Nat → Int32), Q r mo sd gv fc pl al) : wq_X10_seats n h sf row ln kd vl X Y mo sd gv fc pl al Q :=
  sf_X7_settle hs hl h0 h6 n0 n8 (fun _ _ _ _ _ _ => hq _ _ _ _ _ _ _)
end Se
/-- an image kept -/
def cI (k h n : Int32) (r : Nat → Int32) : Prop := 1 ≤ k.toInt ∧ k.toInt ≤ 17 ∧ sPast k h n r
/-- the images of the class -/
def cImg (m h n k0 k1 k2 : Int32) (r0 r1 r2 : Nat → Int32) : Prop := (0 ≤ m.toInt ∧ m.toInt ≤ 3) ∧ (0 < m.toInt → cI k0 h n r0) ∧ (1 < m.toInt → cI k1 h n r1) ∧ (2 < m.toInt → cI k2 h n r2)
section Mg
variable {pk m k0 k1 k2 : Int32} {pr r0 r1 r2 : Nat → Int32}
theorem cI_push {T : (Nat → Int32) → Int32 → Prop} {rr : Nat → Int32} {kk : Int32} (p0 : 0 ≤ pk.toInt) (p1 : pk.toInt ≤ 16) (h6 : h.toInt ≤ 6) (hs : sSits h n row) (hp : sPast pk h n pr) (hq : ∀ (rows : Nat → Int32) (k : Int32), cI k h n rows → T rows k) : wq_X5_copyFrom pk pr rr kk (fun f3 x4 => wq_X5_push row f3 x4 T) :=
  sf_X5_copyFrom p0 (by omega) h6 hp (fun rows hr => sf_X5_push p0 p1 h6 hs hr (fun rows k2 e h2 => hq rows k2 ⟨by omega, by omega, h2⟩))
theorem sf_X10_image {Q : Int32 → (Nat → Int32) → Int32 → Int32 → (Nat → Int32) → Int32 → (Nat → Int32) → Int32 → Prop} (p0 : 0 ≤ pk.toInt) (p1 : pk.toInt ≤ 16) (h6 : h.toInt ≤ 6) (hs : sSits h n row) (hp : sPast pk h n pr) (hi : cImg m h n k0 k1 k2 r0 r1 r2) (hq : ∀ (r : Int32) (r0 : Nat → Int32) (k0 m : Int32) (r1 : Nat → Int32) (k1 : Int32) (r2 : Nat → Int32) (k2 : Int32), cImg m h n k0 k1 k2 r0 r1 r2 → Q r r0 k0 m r1 k1 r2 k2) : wq_X10_image pk pr row r0 k0 m r1 k1 r2 k2 Q := by
  obtain ⟨m0, i0, i1, i2⟩ := hi
  refine ⟨fun c => ?_, fun _ => hq _ _ _ _ _ _ _ _ ⟨m0, i0, i1, i2⟩⟩
  rw [t_lt, t_3] at c
  have hin : vp_in m 3 := t_in m0.1 (by omega)
  have q : (m + 1).toInt = m.toInt + 1 := t_inc (by omega)
  refine ⟨hin, fun c0 => ?_, fun c1 => ?_, fun c2 => ?_⟩
  · refine sf_X5_copyFrom p0 (by omega) h6 hp (fun rows hr => ⟨hin, fun _ => sf_X5_push p0 p1 h6 hs hr (fun rows k e h2 x8 e8 => ?_), fun d => absurd (c0.symm.trans d) (by decide), fun d => absurd (c0.symm.trans d) (by decide)⟩)
    have e0 : m.toInt = 0 := by rw [c0]; decide
    exact hq _ _ _ _ _ _ _ _ ⟨by rw [e8]; omega, fun _ => ⟨by omega, by omega, h2⟩, fun z => by rw [e8] at z; omega, fun z => by rw [e8] at z; omega⟩
  · refine sf_X5_copyFrom p0 (by omega) h6 hp (fun rows hr => ⟨hin, fun d => absurd (c1.symm.trans d) (by decide), fun _ => sf_X5_push p0 p1 h6 hs hr (fun rows k e h2 x8 e8 => ?_), fun d => absurd (c1.symm.trans d) (by decide)⟩)
    have e0 : m.toInt = 1 := by rw [c1]; decide
    exact hq _ _ _ _ _ _ _ _ ⟨by rw [e8]; omega, fun _ => i0 (by omega), fun _ => ⟨by omega, by omega, h2⟩, fun z => by rw [e8] at z; omega⟩
  · refine sf_X5_copyFrom p0 (by omega) h6 hp (fun rows hr => ⟨hin, fun d => absurd (c2.symm.trans d) (by decide), fun d => absurd (c2.symm.trans d) (by decide), fun _ => sf_X5_push p0 p1 h6 hs hr (fun rows k e h2 x8 e8 => ?_)⟩)
    have e0 : m.toInt = 2 := by rw [c2]; decide
    exact hq _ _ _ _ _ _ _ _ ⟨by rw [e8]; omega, fun _ => i0 (by omega), fun _ => i1 (by omega), fun _ => ⟨by omega, by omega, h2⟩⟩
theorem sf_X10_restore {rs : Int32} {Q : Int32 → Int32 → Int32 → (Nat → Int32) → (Nat → Int32) → Int32 → Int32 → Int32 → Int32 → Prop} (p0 : 0 ≤ pk.toInt) (p1 : pk.toInt ≤ 16) (h6 : h.toInt ≤ 6) (hs : sSits h n row) (hp : sPast pk h n pr) (hi : cImg m h n k0 k1 k2 r0 r1 r2) (hq : ∀ (r m k0 : Int32) (row pr : Nat → Int32) (pk rs k1 k2 : Int32), 0 ≤ pk.toInt → pk.toInt ≤ 16 → sSits h n row → sPast pk h n pr → cImg m h n k0 k1 k2 r0 r1 r2 → Q r m k0 row pr pk rs k1 k2) : wq_X10_restore r0 r1 r2 m k0 row pr pk rs k1 k2 Q := by
  have hi' := hi
  obtain ⟨m0, i0, i1, i2⟩ := hi
  refine ⟨fun c x2 e2 => ?_, fun _ => hq _ _ _ _ _ _ _ _ _ p0 p1 hs hp hi'⟩
  rw [t_eq, t_0] at c
  have q2 : x2.toInt = m.toInt - 1 := by rw [e2]; exact t_pred (by omega)
  have hin : vp_in x2 3 := t_in (by omega) (by omega)
  refine ⟨hin, fun c0 => ?_, fun c1 => ?_, fun c2 => ?_⟩
  · have e0 : x2.toInt = 0 := by rw [c0]; decide
    obtain ⟨g0, g1, g2⟩ := i0 (by omega)
    exact sf_X5_pop (by omega) g1 h6 g2 (fun k row e h1 h2 => ⟨hin, fun _ => sf_X5_copyFrom (by omega) (by omega) h6 h2 (fun rows h3 => hq _ _ _ _ _ _ _ _ _ (by omega) (by omega) h1 h3 ⟨by omega, fun z => by omega, fun z => by omega, fun z => by omega⟩), fun d => absurd (c0.symm.trans d) (by decide), fun d => absurd (c0.symm.trans d) (by decide)⟩)
  · have e0 : x2.toInt = 1 := by rw [c1]; decide
    obtain ⟨g0, g1, g2⟩ := i1 (by omega)
    exact sf_X5_pop (by omega) g1 h6 g2 (fun k row e h1 h2 => ⟨hin, fun d => absurd (c1.symm.trans d) (by decide), fun _ => sf_X5_copyFrom (by omega) (by omega) h6 h2 (fun rows h3 => hq _ _ _ _ _ _ _ _ _ (by omega) (by omega) h1 h3 ⟨by omega, fun z => i0 (by omega), fun z => by omega, fun z => by omega⟩), fun d => absurd (c1.symm.trans d) (by decide)⟩)
  · have e0 : x2.toInt = 2 := by rw [c2]; decide
    obtain ⟨g0, g1, g2⟩ := i2 (by omega)
    exact sf_X5_pop (by omega) g1 h6 g2 (fun k row e h1 h2 => ⟨hin, fun d => absurd (c2.symm.trans d) (by decide), fun d => absurd (c2.symm.trans d) (by decide), fun _ => sf_X5_copyFrom (by omega) (by omega) h6 h2 (fun rows h3 => hq _ _ _ _ _ _ _ _ _ (by omega) (by omega) h1 h3 ⟨by omega, fun z => i0 (by omega), fun z => i1 (by omega), fun z => by omega⟩)⟩)
end Mg
end Cs
section Tx
variable {by_ : Nat → Int32} {ci ln at_ tk fl fa fp p : Int32}
theorem sf_X10_down {ag asg ar : Nat} {f h x : Int32} {db : Nat → Int32} {sf : Int32} {FX FY st sr X Y : Nat → Int32} {rg rs : Value} {rl : Int32} {rk rv : Nat → Int32} {lm : Int32} {sn row : Nat → Int32} {nd nl : Value} {pk ik rf : Int32}
    {E : String → Int32 → Int32 → Int32 → Int32 → Int32 → Int32 → Int32 → Int32 → Int32 → Int32 → (Nat → Int32) → Int32 → (Nat → Int32) → (Nat → Int32) → (Nat → Int32) → (Nat → Int32) → (Nat → Int32) → (Nat → Int32) → Value → Value → Int32 → (Nat → Int32) → (Nat → Int32) → Int32 → (Nat → Int32) → (Nat → Int32) → Value → Value → Int32 → Int32 → Int32 → Prop}
    {Q : Int32 → Int32 → Int32 → Int32 → Int32 → Int32 → Int32 → Int32 → Int32 → Int32 → Int32 → (Nat → Int32) → Int32 → (Nat → Int32) → (Nat → Int32) → (Nat → Int32) → (Nat → Int32) → (Nat → Int32) → (Nat → Int32) → Value → Value → Int32 → (Nat → Int32) → (Nat → Int32) → Int32 → (Nat → Int32) → (Nat → Int32) → Value → Value → Int32 → Int32 → Int32 → Prop}
    (f1 : fl.toInt ≤ 600) (he : E "java/lang/IllegalArgumentException" (ci + 1) ln at_ tk fl fa fp f h x db sf FX FY st sr X Y (.ref ag) (.ref asg) rl rk rv lm sn row nd nl pk ik rf)
    (hbad : ∀ (r ln at_ tk fa fp f h x : Int32) (db : Nat → Int32) (sf : Int32) (FX FY st sr X Y : Nat → Int32), Q r ci ln at_ tk 0 fa fp f h x db sf FX FY st sr X Y (.ref ag) (.ref asg) rl rk rv lm sn row nd nl pk ik rf)
    (hok : ∀ (r ln at_ tk fa fp f h x : Int32) (db : Nat → Int32) (sf : Int32) (FX FY st sr X Y : Nat → Int32) (rl : Int32) (rk rv : Nat → Int32) (lm : Int32) (sn row : Nat → Int32), 0 ≤ f.toInt → f.toInt ≤ 8 → 0 ≤ h.toInt → h.toInt ≤ 6 → 0 ≤ x.toInt → x.toInt ≤ 4 → sLaw rl rk rv → sSits h f row → Q r ci ln at_ tk 0 fa fp f h x db sf FX FY st sr X Y (.ref asg) (.ref ag) rl rk rv lm sn row (.ref asg) (.ref ar) 0 0 0) :
    wq_X10_down_s ag asg ar by_ ci ln at_ tk fl fa fp f h x db sf FX FY st sr X Y rg rs rl rk rv lm sn row nd nl pk ik rf p E Q := by
  refine sf_X10_openText f1 he (fun y y0 y1 y2 _ => sf_X2_readFrom (by rw [show (600 : Int32).toInt = 600 by decide] at y2; omega) (by decide) (by decide) (fun n h x db a sf t f2 fp2 FX FY st sr X Y a0 a1 x0 x1 h0 h1 n0 n1 hs => sf_X8_isFaulty (fun z => ⟨fun _ => ?_, fun c => absurd rfl c⟩) (fun z => ⟨fun c => absurd c (by decide), fun _ => hbad _ _ _ _ _ _ _ _ _ _ _ _ _ _ _ _ _⟩)))
  exact sf_X4_setPlain (fun rk rv rl hl => sf_X0_clear (fun sn => sf_X1_begin h1 (hs z) (fun row hr => hok _ _ _ _ _ _ _ _ _ _ _ _ _ _ _ _ _ _ _ _ _ _ _ n0 n1 h0 h1 x0 x1 hl hr)))
theorem sf_X10_law {arl asr : Nat} {sl : Int32} {sk sv : Nat → Int32} {rr rsr nl : Value}
    {E : String → Int32 → Int32 → Int32 → Int32 → Int32 → Int32 → Int32 → Int32 → (Nat → Int32) → (Nat → Int32) → Value → Value → Value → Prop}
    {Q : Int32 → Int32 → Int32 → Int32 → Int32 → Int32 → Int32 → Int32 → Int32 → (Nat → Int32) → (Nat → Int32) → Value → Value → Value → Prop}
    (f1 : fl.toInt ≤ 600) (he : E "java/lang/IllegalArgumentException" (ci + 1) ln at_ tk fl fa fp sl sk sv (.ref arl) (.ref asr) nl)
    (hbad : ∀ (r ln at_ tk fa fp sl : Int32) (sk sv : Nat → Int32), Q r ci ln at_ tk 0 fa fp sl sk sv (.ref arl) (.ref asr) nl)
    (hok : ∀ (r ln at_ tk fa fp sl : Int32) (sk sv : Nat → Int32), sLaw sl sk sv → Q r ci ln at_ tk 0 fa fp sl sk sv (.ref asr) (.ref arl) (.ref asr)) :
    wq_X10_law_s arl asr by_ ci ln at_ tk fl fa fp sl sk sv rr rsr nl p E Q := by
  refine sf_X10_openText f1 he (fun y y0 y1 y2 _ => sf_X4_readFrom_s (by omega) (by decide) (by decide) (fun ln a t f fp kd vl a0 a1 hl => sf_X8_isFaulty (fun z => ⟨fun _ => ?_, fun c => absurd rfl c⟩) (fun z => ⟨fun c => absurd c (by decide), fun _ => hbad _ _ _ _ _ _ _ _ _⟩)))
  exact hok _ _ _ _ _ _ _ _ _ hl
end Tx
