theorem t_6 : (6 : Int32).toInt = 6 := by decide
theorem t_8 : (8 : Int32).toInt = 8 := by decide
theorem t_20 : (20 : Int32).toInt = 20 := by decide
theorem t_600 : (600 : Int32).toInt = 600 := by decide
theorem t_m8 : (-8 : Int32).toInt = -8 := by decide
theorem t_24 : (24 : Int32).toInt = 24 := by decide
theorem t_pred {p : Int32} (h : -2147483648 < p.toInt) : (p - 1).toInt = p.toInt - 1 := by
  have := t_rng p
  rw [t_sub (by rw [t_1]; omega) (by rw [t_1]; omega), t_1]
theorem sl_X0_clear {Q : Int32 → (Nat → Int32) → Prop} {v : Int32} (hq : ∀ f, Q v f) : ∀ (k : Nat) (i : Int32) (f : Nat → Int32), 0 ≤ i.toInt → i.toInt ≤ 8 → 8 - i.toInt < k → wl_X0_clear_7 Q k v f i := by
  intro k
  induction k with
  | zero => intro i f h0 h1 h2; omega
  | succ k ih =>
    intro i f h0 h1 h2
    refine ⟨fun _ => hq f, fun c => ?_⟩
    rw [t_le, t_8] at c
    refine ⟨t_in h0 (by omega), fun f2 _ x3 e3 => ?_⟩
    have e : x3.toInt = i.toInt + 1 := by rw [e3]; exact t_inc (by omega)
    exact ih x3 f2 (by omega) (by omega) (by omega)
theorem sf_X0_clear {v : Int32} {f : Nat → Int32} {Q : Int32 → (Nat → Int32) → Prop} (hq : ∀ f, Q 0 f) : wq_X0_clear v f Q := ⟨9, sl_X0_clear hq 9 0 f (by decide) (by decide) (by decide)⟩
section Bk
variable {len : Int32} {by_ : Nat → Int32}
theorem sb_X0_readLine33 {Q : Int32 → Int32 → Int32 → Int32 → (Nat → Int32) → Int32 → Prop} {a fa fp tk mn l3 : Int32} {sn : Nat → Int32} (hl : len.toInt ≤ 600) (h0 : 0 ≤ a.toInt) (h1 : a.toInt ≤ 600) (h3 : fa = 0 → 0 ≤ l3.toInt ∧ l3.toInt < 8)
    (hq : ∀ (a f2 fp2 t2 : Int32) (sn : Nat → Int32) (mn : Int32), 0 ≤ a.toInt → a.toInt ≤ 600 → Q a f2 fp2 t2 sn mn) : wb_X0_readLine_33 len by_ Q a fa fp tk sn mn l3 := by
  refine sf_X8_number hl h0 h1 (fun r a2 f2 fp2 t2 g0 g1 g2 _ _ => sf_X8_needs hl g0 g1 (fun x t f3 p3 k0 k1 _ k3 _ => sf_X8_isFaulty (fun c => ⟨fun c2 => absurd rfl c2, fun _ => ?_⟩) (fun c => ⟨fun _ => hq _ _ _ _ _ _ k0 k1, fun c2 => absurd c2 (by decide)⟩)))
  have hz := h3 (g2 (k3 c)).1
  exact ⟨t_in hz.1 hz.2, fun f23 _ x24 _ => hq _ _ _ _ _ _ k0 k1⟩
theorem sf_X0_readLine {Q : Int32 → Int32 → Int32 → Int32 → (Nat → Int32) → Int32 → Prop} {a fa fp tk mn p2 : Int32} {sn : Nat → Int32} (hl : len.toInt ≤ 600) (h0 : 0 ≤ a.toInt) (h1 : a.toInt ≤ 600) (hp0 : 0 ≤ p2.toInt) (hp1 : p2.toInt ≤ 8)
    (hq : ∀ (a f2 fp2 t2 : Int32) (sn : Nat → Int32) (mn : Int32), 0 ≤ a.toInt → a.toInt ≤ 600 → Q a f2 fp2 t2 sn mn) : wq_X0_readLine len by_ a fa fp tk sn mn p2 Q := by
  have ep : (p2 - 1).toInt = p2.toInt - 1 := t_pred (by omega)
  refine sf_X8_number hl h0 h1 (fun r a2 f2 fp2 t2 g0 g1 g2 _ _ => ?_)
  rw [ep, t_0] at g2
  have hb : wb_X0_readLine_33 len by_ Q a2 f2 fp2 t2 sn mn r := sb_X0_readLine33 hl g0 g1 (fun z => ⟨(g2 z).2.1, by have := (g2 z).2.2; omega⟩) hq
  refine sf_X10_within (fun _ => ⟨fun _ => hb, fun c => absurd rfl c⟩) (fun k0 k1 => ⟨fun c => absurd c (by decide), fun _ => ?_⟩)
  rw [t_0] at k0
  rw [ep] at k1
  refine ⟨t_in k0 (by omega), fun x1 _ => ⟨fun _ => ⟨fun _ => hb, fun c => absurd rfl c⟩, fun _ => ⟨fun c => absurd c (by decide), fun _ => ?_⟩⟩⟩
  exact sf_X8_blame (fun c => hb) (fun c => sb_X0_readLine33 hl g0 g1 (fun z => absurd z (by decide)) hq)
theorem sl_X0_readFrom {Q : Int32 → (Nat → Int32) → Int32 → Int32 → Int32 → Int32 → Prop} {p2 : Int32} (hl : len.toInt ≤ 600) (hp0 : 0 ≤ p2.toInt) (hp1 : p2.toInt ≤ 8) (hq : ∀ (mn : Int32) (sn : Nat → Int32) (a f2 fp2 t2 : Int32), 0 ≤ a.toInt → a.toInt ≤ 600 → Q mn sn a f2 fp2 t2) :
    ∀ (k : Nat) (mn : Int32) (sn : Nat → Int32) (a f2 fp2 t2 i : Int32), 0 ≤ a.toInt → a.toInt ≤ 600 → 0 ≤ i.toInt → i.toInt ≤ 9 → 9 - i.toInt < k → wl_X0_readFrom_6 len by_ Q k mn sn a f2 fp2 t2 p2 i := by
  intro k
  induction k with
  | zero => intro mn sn a f2 fp2 t2 i h0 h1 h2 h3 h4; omega
  | succ k ih =>
    intro mn sn a f2 fp2 t2 i h0 h1 h2 h3 h4
    refine ⟨fun _ => hq _ _ _ _ _ _ h0 h1, fun c => sf_X8_isFaulty (fun _ => ⟨fun c2 => absurd rfl c2, fun _ => sf_X8_isEnded hl h0 h1 (fun r7 x6 g0 g1 _ => ⟨fun _ => hq _ _ _ _ _ _ g0 g1, fun _ => sf_X0_readLine hl g0 g1 hp0 hp1 (fun x9 x10 x11 x12 f13 x14 k0 k1 x15 e15 => ?_)⟩)⟩) (fun _ => ⟨fun _ => hq _ _ _ _ _ _ h0 h1, fun c2 => absurd c2 (by decide)⟩)⟩
    rw [t_lt, t_8] at c
    have e : x15.toInt = i.toInt + 1 := by rw [e15]; exact t_inc (by omega)
    exact ih _ _ _ _ _ _ x15 k0 k1 (by omega) (by omega) (by omega)
theorem sf_X0_readFrom {Q : Int32 → (Nat → Int32) → Int32 → Int32 → Int32 → Int32 → Prop} {p2 mn a fa fp tk : Int32} {sn : Nat → Int32} (hl : len.toInt ≤ 600) (h0 : 0 ≤ a.toInt) (h1 : a.toInt ≤ 600) (hp0 : 0 ≤ p2.toInt) (hp1 : p2.toInt ≤ 8) (hq : ∀ (mn : Int32) (sn : Nat → Int32) (a f2 fp2 t2 : Int32), 0 ≤ a.toInt → a.toInt ≤ 600 → Q mn sn a f2 fp2 t2) : wq_X0_readFrom len by_ mn sn a fa fp tk p2 Q :=
  sf_X0_clear (fun f => ⟨10, sl_X0_readFrom hl hp0 hp1 hq 10 0 f a fa fp tk 0 h0 h1 (by decide) (by decide) (by decide)⟩)
end Bk
theorem sf_X10_openText {ci ln at_ tk fi fa fp p most : Int32} {E : String → Int32 → Int32 → Int32 → Int32 → Int32 → Int32 → Int32 → Prop} {Q : Int32 → Int32 → Int32 → Int32 → Int32 → Int32 → Int32 → Prop} (hf : fi.toInt ≤ 600)
    (he : E "java/lang/IllegalArgumentException" (ci + 1) ln at_ tk fi fa fp) (hq : ∀ x : Int32, 0 ≤ x.toInt → x.toInt ≤ fi.toInt → x.toInt ≤ most.toInt → x = p → Q ci x 0 0 0 0 (-1)) : wq_X10_openText ci ln at_ tk fi fa fp p most E Q := by
  intro x1 e1
  refine sf_X10_needWithin he (fun g0 g1 x e => ?_)
  rw [t_0] at g0
  have hx1 : x1.toInt ≤ fi.toInt ∧ x1.toInt ≤ most.toInt := by
    rw [e1]
    by_cases c : fi < most
    · rw [if_pos c]; rw [t_lt] at c; omega
    · rw [if_neg c]; rw [t_lt] at c; omega
  have ex : x = p := by
    rw [e]
    by_cases c : 600 < p
    · rw [t_lt, t_600] at c; omega
    · rw [if_neg c]
  exact hq x (by rw [ex]; exact g0) (by rw [ex]; omega) (by rw [ex]; omega) ex
theorem sf_X10_book {al as_ : Nat} {fo ci ln at_ tk fi fa fp mn p : Int32} {by_ sn : Nat → Int32} {r1 r2 : Value} {E : String → Int32 → Int32 → Int32 → Int32 → Int32 → Int32 → Int32 → Int32 → (Nat → Int32) → Value → Value → Prop} {Q : Int32 → Int32 → Int32 → Int32 → Int32 → Int32 → Int32 → Int32 → Int32 → (Nat → Int32) → Value → Value → Prop} (hf : fi.toInt ≤ 600) (h0 : 0 ≤ fo.toInt) (h1 : fo.toInt ≤ 8)
    (he : E "java/lang/IllegalArgumentException" (ci + 1) ln at_ tk fi fa fp mn sn (.ref al) (.ref as_))
    (hq : ∀ (r ln2 at2 tk2 fa2 fp2 mn2 : Int32) (sn2 : Nat → Int32) (q1 q2 : Value), 0 ≤ ln2.toInt → ln2.toInt ≤ 600 → 0 ≤ at2.toInt → at2.toInt ≤ 600 → (q1 = .ref as_ ∧ q2 = .ref al ∨ q1 = .ref al ∧ q2 = .ref as_) → Q r ci ln2 at2 tk2 0 fa2 fp2 mn2 sn2 q1 q2) : wq_X10_book al as_ fo by_ ci ln at_ tk fi fa fp mn sn r1 r2 p E Q := by
  refine sf_X10_openText hf he (fun x g0 g1 g2 _ => sf_X0_readFrom (by omega) (by decide) (by decide) h0 h1 (fun mn2 sn2 a f2 fp2 t2 k0 k1 => sf_X8_isFaulty (fun _ => ⟨fun _ => ?_, fun c => absurd rfl c⟩) (fun _ => ⟨fun c => absurd c (by decide), fun _ => ?_⟩)))
  · exact hq _ _ _ _ _ _ _ _ _ _ g0 (by omega) k0 k1 (Or.inl ⟨rfl, rfl⟩)
  · exact hq _ _ _ _ _ _ _ _ _ _ g0 (by omega) k0 k1 (Or.inr ⟨rfl, rfl⟩)
