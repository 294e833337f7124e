/-! both ways to reckon a law -/
theorem ofI {x : Int32} {v : Int} (h : x.toInt = v) : x = Int32.ofInt v := by rw [← h, Int32.ofInt_toInt]
theorem kC_0 {k : Int} (h : kC k = 0) : k = 0 := by
  unfold kC at h
  by_cases a : k = 6
  · rw [if_pos a] at h; omega
  rw [if_neg a] at h
  by_cases c : k = 7
  · rw [if_pos c] at h; omega
  rw [if_neg c] at h
  by_cases d : k = 8
  · rw [if_pos d] at h; omega
  rw [if_neg d] at h; exact h
theorem kC_1 {k : Int} (h : kC k = 1) : k = 1 := by
  unfold kC at h
  by_cases a : k = 6
  · rw [if_pos a] at h; omega
  rw [if_neg a] at h
  by_cases c : k = 7
  · rw [if_pos c] at h; omega
  rw [if_neg c] at h
  by_cases d : k = 8
  · rw [if_pos d] at h; omega
  rw [if_neg d] at h; exact h
theorem ev_0 {fs : Nat → Int32} {s : eP} {v : Int} : evS fs s (0, v) = (s.1 + 1, upd s.2 s.1 (Int32.ofInt v)) := rfl
theorem ev_1 {fs : Nat → Int32} {s : eP} {v : Int} : evS fs s (1, v) = (s.1 + 1, upd s.2 s.1 (fs v.toNat)) := by
  unfold evS; rw [if_neg (by decide : ¬ ((1 : Int) = 0)), if_pos rfl]
theorem ev_2 {fs : Nat → Int32} {s : eP} {k v : Int} (h : 2 ≤ k) : evS fs s (k, v) = (s.1 - 1, upd s.2 (s.1 - 2) (bo k (s.2 (s.1 - 2)) (s.2 (s.1 - 1)))) := by
  unfold evS; rw [if_neg (show ¬ k = 0 by omega), if_neg (show ¬ k = 1 by omega)]
/-- a word of a law at its place -/
theorem rn_word {cs : List (Int × Int)} {k : Nat} {d : Int} (h : k < cs.length) (hr : rn (cs.take k) = some d) (hn : rn (cs.take (k + 1)) ≠ none) : (cs.getD k (0, 0)).1 = 0 ∨ ((cs.getD k (0, 0)).1 = 1 ∧ 0 ≤ (cs.getD k (0, 0)).2 ∧ (cs.getD k (0, 0)).2 < 8) ∨ (2 ≤ (cs.getD k (0, 0)).1 ∧ (cs.getD k (0, 0)).1 ≤ 8 ∧ 2 ≤ d) := by
  rw [rn_s h, hr] at hn
  generalize cs.getD k (0, 0) = c at hn ⊢
  obtain ⟨c1, c2⟩ := c
  show c1 = 0 ∨ (c1 = 1 ∧ 0 ≤ c2 ∧ c2 < 8) ∨ (2 ≤ c1 ∧ c1 ≤ 8 ∧ 2 ≤ d)
  by_cases y0 : c1 = 0
  · exact Or.inl y0
  by_cases y1 : c1 = 1
  · by_cases y2 : 0 ≤ c2 ∧ c2 < 8
    · exact Or.inr (Or.inl ⟨y1, y2⟩)
    · refine absurd ?_ hn
      show (if c1 = 0 then _ else if c1 = 1 then (if 0 ≤ c2 ∧ c2 < 8 then some (d + 1) else none) else _) = _
      rw [if_neg y0, if_pos y1, if_neg y2]
  by_cases y2 : 2 ≤ c1 ∧ c1 ≤ 8 ∧ 2 ≤ d
  · exact Or.inr (Or.inr y2)
  · refine absurd ?_ hn
    show (if c1 = 0 then _ else if c1 = 1 then _ else if 2 ≤ c1 ∧ c1 ≤ 8 ∧ 2 ≤ d then some (d - 1) else none) = _
    rw [if_neg y0, if_neg y1, if_neg y2]
section TV
variable {cs : List (Int × Int)} {fc : Nat → Int32}
theorem pile_push {h : Nat} {s pl : Nat → Int32} {v w : Int32} (e : v = w) (hp : ∀ j : Nat, j < h → pl j = s j) : ∀ j : Nat, j < h + 1 → upd pl h v j = upd s h w j := fun j hj => by
  by_cases z : j = h
  · rw [z, pk_us, pk_us]; exact e
  · rw [pk_un z, pk_un z]; exact hp j (by omega)
theorem pile_join {h : Nat} {s pl : Nat → Int32} {v w : Int32} (e : v = w) (h2 : 2 ≤ h) (hp : ∀ j : Nat, j < h → pl j = s j) : ∀ j : Nat, j < h - 1 → upd pl (h - 2) v j = upd s (h - 2) w j := fun j hj => by
  by_cases z : j = h - 2
  · rw [z, pk_us, pk_us]; exact e
  · rw [pk_un z, pk_un z]; exact hp j (by omega)
theorem z_reach {kd vl pl : Nat → Int32} {ln : Int32} {Q : Int32 → (Nat → Int32) → Prop} (hc : cL ((0, 0, 0), cs) kd vl ln) (hr : rn cs = some 1) (hq : ∀ pl : Nat → Int32, Q (lV fc cs) pl) : wq_X4_reach ln kd vl fc pl Q := by
  obtain ⟨⟨l0, l1⟩, hr2⟩ := hc
  obtain ⟨el, hi⟩ := hr2 rfl
  have el : ln.toInt = (cs.length : Nat) := el
  have hi : ∀ i : Nat, i < cs.length → (kd i).toInt = kC (cs.getD i (0, 0)).1 ∧ (vl i).toInt = (cs.getD i (0, 0)).2 := hi
  have nn := rn_all hr
  have go : ∀ (m : Nat) (pl : Nat → Int32) (l1 l2 : Int32) (k : Nat), l2.toInt = k → k ≤ cs.length → l1.toInt = ((evA fc cs k).1 : Nat) → (∀ j : Nat, j < (evA fc cs k).1 → pl j = (evA fc cs k).2 j) → cs.length - k < m → wl_X4_reach_4 ln kd vl fc Q m pl l1 l2 := by
    intro m
    induction m with
    | zero => intro pl l1 l2 k h1 h2 h3 h4 h5; omega
    | succ m ih =>
      intro pl l1 l2 k h1 h2 h3 h4 h5
      obtain ⟨d, d1, d2, d3, d4⟩ := rn_at (fs := fc) (cs := cs) k h2 (fun j hj => nn j (by omega))
      refine ⟨fun c => ?_, fun c => ?_⟩
      · rw [t_le] at c
        have ek : k = cs.length := by omega
        rw [ek, List.take_length, hr] at d1
        have ed : (1 : Int) = d := Option.some.inj d1
        refine ⟨fun z => ?_, fun _ x3 e3 x15 e15 x16 e16 => ?_⟩
        · rw [t_le, t_0] at z; omega
        have e0 : (0 : Int32).toNatClampNeg = 0 := by decide
        rw [e0, h4 0 (by omega), ek] at e3
        have e9 : x16 = lV fc cs := by
          rw [e16, e15, e3]
          unfold lV
          generalize (evA fc cs cs.length).2 0 = v
          unfold cl60
          by_cases z1 : v.toInt < 60
          · rw [if_pos (show v < 60 from t_lt.mpr (by rw [t_60]; exact z1))]
            by_cases z2 : 0 < v.toInt
            · rw [if_pos (show 0 < v from t_lt.mpr (by rw [t_0]; exact z2)), if_pos (show 0 ≤ v from t_le.mpr (by rw [t_0]; omega)), if_pos (show v ≤ 60 from t_le.mpr (by rw [t_60]; omega))]
            · rw [if_neg (show ¬ 0 < v from fun w => z2 (by rw [t_lt, t_0] at w; exact w))]
              by_cases z3 : 0 ≤ v.toInt
              · rw [if_pos (show 0 ≤ v from t_le.mpr (by rw [t_0]; exact z3)), if_pos (show v ≤ 60 from t_le.mpr (by rw [t_60]; omega))]
                exact t_eq.mpr (by rw [t_0]; omega)
              · rw [if_neg (show ¬ 0 ≤ v from fun w => z3 (by rw [t_le, t_0] at w; exact w))]
          · rw [if_neg (show ¬ v < 60 from fun w => z1 (by rw [t_lt, t_60] at w; exact w)), if_pos (by decide), if_pos (show 0 ≤ v from t_le.mpr (by rw [t_0]; omega))]
            by_cases z2 : v.toInt ≤ 60
            · rw [if_pos (show v ≤ 60 from t_le.mpr (by rw [t_60]; exact z2))]
              exact t_eq.mpr (by rw [t_60]; omega)
            · rw [if_neg (show ¬ v ≤ 60 from fun w => z2 (by rw [t_le, t_60] at w; exact w))]
        rw [e9]; exact hq pl
      · rw [t_le] at c
        have hk : k < cs.length := by omega
        have hw := rn_word hk d1 (nn (k + 1) (by omega))
        obtain ⟨i1, i2⟩ := hi k hk
        have ev := ev_s (fs := fc) (cs := cs) (k := k) hk
        generalize cs.getD k (0, 0) = cc at hw i1 i2 ev
        obtain ⟨c1, c2⟩ := cc
        have hw : c1 = 0 ∨ (c1 = 1 ∧ 0 ≤ c2 ∧ c2 < 8) ∨ (2 ≤ c1 ∧ c1 ≤ 8 ∧ 2 ≤ d) := hw
        have i1 : (kd k).toInt = kC c1 := i1
        have i2 : (vl k).toInt = c2 := i2
        have nx : ∀ x : Int32, x = l2 + 1 → x.toInt = ((k + 1 : Nat) : Int) := fun x e => by rw [e, t_inc (by omega), h1]; omega
        refine ⟨t_in (by omega) (by omega), fun x4 e4 => ?_⟩
        rw [t_clamp h1] at e4
        rw [← e4] at i1
        have push : ∀ (s2 w : Int32), s2 = w → evS fc (evA fc cs k) (c1, c2) = ((evA fc cs k).1 + 1, upd (evA fc cs k).2 (evA fc cs k).1 w) → wb_X4_reach_57 ln kd vl fc Q (fun f0_pile l1 l2 => wl_X4_reach_4 ln kd vl fc Q m f0_pile l1 l2) pl l1 l2 l1 s2 := fun s2 w es e => by
          refine ⟨t_in (by omega) (by omega), fun f22 e22 x23 e23 x21 e21 => ih f22 x23 x21 (k + 1) (nx x21 e21) (by omega) ?_ ?_ (by omega)⟩
          · rw [ev, e, e23, t_inc (by omega), h3]
            show ((evA fc cs k).1 : Int) + 1 = (((evA fc cs k).1 + 1 : Nat) : Int)
            omega
          · rw [ev, e, e22, t_clamp h3]
            exact pile_push es h4
        rcases hw with y | ⟨y, y1, y2⟩ | ⟨y, y1, y2⟩
        · subst y
          have hx : x4 = 0 := t_eq.mpr (by rw [i1]; decide)
          refine ⟨fun _ => ⟨fun d => absurd hx d, fun _ => ⟨t_in (by omega) (by omega), fun x20 e20 => ?_⟩⟩, fun d => absurd hx d⟩
          rw [t_clamp h1] at e20
          exact push x20 (Int32.ofInt c2) (ofI (by rw [e20]; exact i2)) ev_0
        · subst y
          have hx : x4 = 1 := t_eq.mpr (by rw [i1]; decide)
          refine ⟨fun d => absurd (hx.symm.trans d) (by decide), fun _ => ⟨fun d => absurd hx d, fun _ => ⟨fun _ => ⟨t_in (by omega) (by omega), fun x18 e18 => ?_⟩, fun d => absurd (hx.symm.trans d) (by decide)⟩⟩⟩
          rw [t_clamp h1] at e18
          rw [← e18] at i2
          refine ⟨t_in (by omega) (by omega), fun x19 e19 => ?_⟩
          have ec : x18.toNatClampNeg = c2.toNat := t_clamp (by rw [i2]; omega)
          exact push x19 (fc c2.toNat) (by rw [e19, ec]) ev_1
        · have hx0 : ¬ x4 = 0 := fun z => by rw [z, t_0] at i1; have := kC_0 i1.symm; omega
          have hx1 : ¬ x4 = 1 := fun z => by rw [z, t_1] at i1; have := kC_1 i1.symm; omega
          refine ⟨fun d => absurd d hx0, fun _ => ⟨fun _ => ⟨fun w => ?_, fun _ x8 e8 x9 e9 x10 e10 => ?_⟩, fun d => absurd d hx1⟩⟩
          · rw [t_lt, t_2] at w; omega
          have b8 : x8.toInt = (((evA fc cs k).1 - 1 : Nat) : Int) := by rw [e8, t_add (by rw [t_m1]; omega) (by rw [t_m1]; omega), t_m1, h3]; omega
          have b9 : x9.toInt = (((evA fc cs k).1 - 2 : Nat) : Int) := by rw [e9, t_pred (by omega), b8]; omega
          have b10 : x10.toInt = (((evA fc cs k).1 - 2 : Nat) : Int) := by rw [e10, t_pred (by omega), b8]; omega
          refine ⟨t_in (by omega) (by omega), fun x11 e11 => ⟨t_in (by omega) (by omega), fun x12 e12 => bo_joined (k := c1) ⟨y, y1⟩ i1 ⟨t_in (by omega) (by omega), fun f14 e14 x21 e21 => ih f14 x8 x21 (k + 1) (nx x21 e21) (by omega) ?_ ?_ (by omega)⟩⟩⟩
          · rw [ev, ev_2 y]; exact b8
          · rw [ev, ev_2 y, e14, t_clamp b9]
            rw [t_clamp b10, h4 _ (by omega)] at e11
            rw [t_clamp b8, h4 _ (by omega)] at e12
            exact pile_join (by rw [e11, e12]) (by omega) h4
  exact ⟨cs.length + 1, go (cs.length + 1) pl 0 0 0 t_0 (by omega) t_0 (fun j hj => absurd hj (Nat.not_lt_zero j)) (by omega)⟩
theorem z_value {cd oc sk : Nat → Int32} {ct : Int32} {Q : Int32 → (Nat → Int32) → Prop} (hc : mL ((0, 0, 0), cs) cd oc ct) (h150 : cs.length ≤ 150) (hr : rn cs = some 1) (hq : ∀ sk : Nat → Int32, Q ((evA fc cs cs.length).2 0) sk) : wq_X11_valueNow ct cd oc fc sk Q := by
  obtain ⟨el, hi⟩ := hc rfl
  have el : ct.toInt = (cs.length : Nat) := el
  have hi : ∀ i : Nat, i < cs.length → (cd i).toInt = (cs.getD i (0, 0)).1 ∧ (oc i).toInt = (cs.getD i (0, 0)).2 := hi
  have nn := rn_all hr
  have go : ∀ (m : Nat) (pl : Nat → Int32) (l1 l2 : Int32) (k : Nat), l2.toInt = k → k ≤ cs.length → l1.toInt = ((evA fc cs k).1 : Nat) → (∀ j : Nat, j < (evA fc cs k).1 → pl j = (evA fc cs k).2 j) → cs.length - k < m → wl_X11_valueNow_4 ct cd oc fc Q m pl l1 l2 := by
    intro m
    induction m with
    | zero => intro pl l1 l2 k h1 h2 h3 h4 h5; omega
    | succ m ih =>
      intro pl l1 l2 k h1 h2 h3 h4 h5
      obtain ⟨d, d1, d2, d3, d4⟩ := rn_at (fs := fc) (cs := cs) k h2 (fun j hj => nn j (by omega))
      refine ⟨fun c x2 e2 => ?_, fun c => ?_⟩
      · rw [t_le] at c
        have ek : k = cs.length := by omega
        rw [ek, List.take_length, hr] at d1
        have ed : (1 : Int) = d := Option.some.inj d1
        have e0 : (0 : Int32).toNatClampNeg = 0 := by decide
        rw [e0, h4 0 (by omega), ek] at e2
        rw [e2]; exact hq pl
      · rw [t_le] at c
        have hk : k < cs.length := by omega
        have hw := rn_word hk d1 (nn (k + 1) (by omega))
        obtain ⟨i1, i2⟩ := hi k hk
        have ev := ev_s (fs := fc) (cs := cs) (k := k) hk
        generalize cs.getD k (0, 0) = cc at hw i1 i2 ev
        obtain ⟨c1, c2⟩ := cc
        have hw : c1 = 0 ∨ (c1 = 1 ∧ 0 ≤ c2 ∧ c2 < 8) ∨ (2 ≤ c1 ∧ c1 ≤ 8 ∧ 2 ≤ d) := hw
        have i1 : (cd k).toInt = c1 := i1
        have i2 : (oc k).toInt = c2 := i2
        have nx : ∀ x : Int32, x = l2 + 1 → x.toInt = ((k + 1 : Nat) : Int) := fun x e => by rw [e, t_inc (by omega), h1]; omega
        refine ⟨t_in (by omega) (by omega), fun x3 e3 => ?_⟩
        rw [t_clamp h1] at e3
        rw [← e3] at i1
        have push : ∀ (s2 w : Int32), s2 = w → evS fc (evA fc cs k) (c1, c2) = ((evA fc cs k).1 + 1, upd (evA fc cs k).2 (evA fc cs k).1 w) → wb_X11_valueNow_53 ct cd oc fc Q (fun f0_stack l1 l2 => wl_X11_valueNow_4 ct cd oc fc Q m f0_stack l1 l2) pl l1 l2 l1 s2 := fun s2 w es e => by
          refine ⟨t_in (by omega) (by omega), fun f17 e17 x18 e18 x16 e16 => ih f17 x18 x16 (k + 1) (nx x16 e16) (by omega) ?_ ?_ (by omega)⟩
          · rw [ev, e, e18, t_inc (by omega), h3]
            show ((evA fc cs k).1 : Int) + 1 = (((evA fc cs k).1 + 1 : Nat) : Int)
            omega
          · rw [ev, e, e17, t_clamp h3]
            exact pile_push es h4
        rcases hw with y | ⟨y, y1, y2⟩ | ⟨y, y1, y2⟩
        · subst y
          have hx : x3 = 0 := t_eq.mpr (by rw [i1, t_0])
          refine ⟨fun w => ?_, fun _ => ⟨fun d => absurd hx d, fun _ => ⟨t_in (by omega) (by omega), fun x15 e15 => ?_⟩⟩⟩
          · rw [t_lt, t_1] at w; omega
          rw [t_clamp h1] at e15
          exact push x15 (Int32.ofInt c2) (ofI (by rw [e15]; exact i2)) ev_0
        · subst y
          have hx : x3 = 1 := t_eq.mpr (by rw [i1, t_1])
          refine ⟨fun w => ?_, fun _ => ⟨fun _ => ⟨t_in (by omega) (by omega), fun x13 e13 => ?_⟩, fun d => absurd (hx.symm.trans d) (by decide)⟩⟩
          · rw [t_lt, t_1] at w; omega
          rw [t_clamp h1] at e13
          rw [← e13] at i2
          refine ⟨t_in (by omega) (by omega), fun x14 e14 => ?_⟩
          have ec : x13.toNatClampNeg = c2.toNat := t_clamp (by rw [i2]; omega)
          exact push x14 (fc c2.toNat) (by rw [e14, ec]) ev_1
        · refine ⟨fun _ x5 e5 x6 e6 x7 e7 => ?_, fun w => ?_⟩
          · have b5 : x5.toInt = (((evA fc cs k).1 - 1 : Nat) : Int) := by rw [e5, t_add (by rw [t_m1]; omega) (by rw [t_m1]; omega), t_m1, h3]; omega
            have b6 : x6.toInt = (((evA fc cs k).1 - 2 : Nat) : Int) := by rw [e6, t_pred (by omega), b5]; omega
            have b7 : x7.toInt = (((evA fc cs k).1 - 2 : Nat) : Int) := by rw [e7, t_pred (by omega), b5]; omega
            refine ⟨t_in (by omega) (by omega), fun x8 e8 => ⟨t_in (by omega) (by omega), fun x9 e9 => bo_both (k := c1) ⟨y, y1⟩ i1 ⟨t_in (by omega) (by omega), fun f11 e11 x16 e16 => ih f11 x5 x16 (k + 1) (nx x16 e16) (by omega) ?_ ?_ (by omega)⟩⟩⟩
            · rw [ev, ev_2 y]; exact b5
            · rw [ev, ev_2 y, e11, t_clamp b6]
              rw [t_clamp b7, h4 _ (by omega)] at e8
              rw [t_clamp b5, h4 _ (by omega)] at e9
              exact pile_join (by rw [e8, e9]) (by omega) h4
          · rw [t_lt, t_1] at w; omega
  exact ⟨cs.length + 1, go (cs.length + 1) sk 0 0 0 t_0 (by omega) t_0 (fun j hj => absurd hj (Nat.not_lt_zero j)) (by omega)⟩
end TV
