/-! what is asked of both rows -/
theorem sumI_add {f : Nat → Int32} {a : Nat} : ∀ b : Nat, sumI f (a + b) = sumI f a + sumI (fun k => f (a + k)) b := by
  intro b
  induction b with
  | zero => show sumI f a = sumI f a + 0; rw [Int32.add_zero]
  | succ b ih =>
    show sumI f (a + b) + f (a + b) = sumI f a + (sumI (fun k => f (a + k)) b + f (a + b))
    rw [ih, Int32.add_assoc]
def addS (s : Nat → Int32) : Int32 := sumI (fun j => s (30 + j)) 36
def sgS (s : Nat → Int32) (nh : Nat) : Int32 := sumI (fun h => if s h = -1 then 0 else s (6 + h)) nh
theorem b8_ext {X Y : Nat} (hX : X < 256) (hY : Y < 256) (h : ∀ i : Nat, i < 8 → X.testBit i = Y.testBit i) : X = Y := by
  apply Nat.eq_of_testBit_eq
  intro i
  by_cases c : i < 8
  · exact h i c
  · have hp : 2 ^ 8 ≤ 2 ^ i := Nat.pow_le_pow_right (by decide) (by omega)
    rw [Nat.testBit_lt_two_pow (show X < 2 ^ i by omega), Nat.testBit_lt_two_pow (show Y < 2 ^ i by omega)]
theorem b8_clr : ∀ X : Fin 256, ∀ j : Fin 8, Int32.ofNat X.val &&& ((1 <<< (Int32.ofNat j.val &&& 31)) ^^^ (-1)) = Int32.ofNat (orN (fun i => X.val.testBit i && decide (i ≠ j.val)) 8) := by decide +kernel
section DQ
variable {NH NF : Nat} {row s : Nat → Int32} {nh nf p q : Int32} {h f : Nat} {cs : List (Int × Int)} {ln ct : Int32} {kd vl cd oc X Y fo : Nat → Int32} {F : Nat → Int}
theorem add_eq (hR : relM NH NF row s) (H6 : NH ≤ 6) : sumI (fun h => owS s NH h) NH = addS s := by
  have z := hR.2.2.2.2.2.2
  have row6 : ∀ i : Nat, i < 6 → sumI (fun k => s (30 + (6 * i + k))) 6 = if i < NH then owS s NH i else 0 := fun i hi => by
    by_cases c : i < NH
    · rw [if_pos c]
      exact sumI_0 NH 6 H6 (fun k h1 h2 => z i k hi h2 (by omega))
    · rw [if_neg c]
      have e : sumI (fun k => s (30 + (6 * i + k))) 6 = sumI (fun k => s (30 + (6 * i + k))) 0 := sumI_0 0 6 (by omega) (fun k h1 h2 => z i k hi h2 (by omega))
      rw [e]; rfl
  have all : ∀ i : Nat, i ≤ 6 → sumI (fun j => s (30 + j)) (6 * i) = sumI (fun h => if h < NH then owS s NH h else 0) i := by
    intro i
    induction i with
    | zero => intro _; rfl
    | succ i ih =>
      intro hi
      show sumI (fun j => s (30 + j)) (6 * i + 6) = sumI (fun h => if h < NH then owS s NH h else 0) i + (if i < NH then owS s NH i else 0)
      rw [sumI_add, ih (by omega), row6 i (by omega)]
  have e6 := all 6 (Nat.le_refl _)
  have e7 : sumI (fun h => if h < NH then owS s NH h else 0) 6 = sumI (fun h => if h < NH then owS s NH h else 0) NH := sumI_0 NH 6 H6 (fun j h1 h2 => by rw [if_neg (by omega)])
  have e8 : sumI (fun h => if h < NH then owS s NH h else 0) NH = sumI (fun h => owS s NH h) NH := sumI_ext NH (fun j hj => by rw [if_pos hj])
  show _ = sumI (fun j => s (30 + j)) (6 * 6)
  rw [e6, e7, e8]
theorem c_allDebts {Q : Int32 → Prop} (hR : relM NH NF row s) (H6 : NH ≤ 6) (eh : nh.toInt = (NH : Int)) (hq : Q (addS s)) : wq_X1_allDebts nh row Q := by
  have go : ∀ (m : Nat) (l1 l2 : Int32) (k : Nat), l2.toInt = (k : Int) → k ≤ NH → l1 = sumI (fun h => owS s NH h) k → NH - k < m → wl_X1_allDebts_4 nh row Q m l1 l2 := by
    intro m
    induction m with
    | zero => intro l1 l2 k h1 h2 h3 h4; omega
    | succ m ih =>
      intro l1 l2 k h1 h2 h3 h4
      refine ⟨fun c => ?_, fun c => c_owes hR H6 eh h1 (by rw [t_le] at c; omega) (fun x3 e3 x4 e4 => ?_)⟩
      · rw [t_le] at c
        rw [h3, show k = NH by omega, add_eq hR H6]; exact hq
      · rw [t_le] at c
        exact ih x3 x4 (k + 1) (by rw [e4, t_inc (by omega), h1]; omega) (by omega) (by rw [e3, h3]; rfl) (by omega)
  exact ⟨7, go 7 0 0 0 t_0 (by omega) rfl (by omega)⟩
theorem y_debtsNow {Q : Int32 → Prop} (hq : Q (addS s)) : wq_X11_debtsNow s Q := by
  have go : ∀ (m : Nat) (l1 l2 : Int32) (k : Nat), l2.toInt = (k : Int) → k ≤ 36 → l1 = sumI (fun j => s (30 + j)) k → 36 - k < m → wl_X11_debtsNow_4 s Q m l1 l2 := by
    intro m
    induction m with
    | zero => intro l1 l2 k h1 h2 h3 h4; omega
    | succ m ih =>
      intro l1 l2 k h1 h2 h3 h4
      refine ⟨fun c => ?_, fun c x2 e2 => ?_⟩
      · rw [t_le, t_36] at c
        rw [h3, show k = 36 by omega]; exact hq
      · rw [t_le, t_36] at c
        have k2 := i30 e2 h1 (by omega)
        refine ⟨t_in (by omega) (by omega), fun x3 e3 x4 e4 x5 e5 => ih x4 x5 (k + 1) (by rw [e5, t_inc (by omega), h1]; omega) (by omega) ?_ (by omega)⟩
        rw [t_clamp k2] at e3
        rw [e4, e3, h3]; rfl
  exact ⟨37, go 37 0 0 0 t_0 (by omega) rfl (by omega)⟩
theorem ca_no {k : Nat} (w : s k ≠ -1) : caN s (k + 1) = caN s k := by
  show (if decide (s k = -1) = true then caN s k ||| (1 <<< k) else caN s k) = _
  rw [if_neg (by rw [decide_eq_true_eq]; exact w)]
theorem ca_yes {l : Int32} {k : Nat} (e : l = Int32.ofNat (caN s k)) (hk : k < 8) (ej : q.toInt = (k : Int)) (w : s k = -1) : l ||| (1 <<< (q &&& 31)) = Int32.ofNat (caN s (k + 1)) := by
  rw [b8_or e (orN_le (by omega)) ej hk]
  show _ = Int32.ofNat (if decide (s k = -1) = true then caN s k ||| (1 <<< k) else caN s k)
  rw [if_pos (decide_eq_true w)]
theorem y_caughtNow {Q : Int32 → Prop} (H6 : NH ≤ 6) (eh : nh.toInt = (NH : Int)) (hq : Q (Int32.ofNat (caN s NH))) : wq_X11_caughtNow nh s Q := by
  have go : ∀ (m : Nat) (l1 l2 : Int32) (k : Nat), l2.toInt = (k : Int) → k ≤ NH → l1 = Int32.ofNat (caN s k) → NH - k < m → wl_X11_caughtNow_4 nh s Q m l1 l2 := by
    intro m
    induction m with
    | zero => intro l1 l2 k h1 h2 h3 h4; omega
    | succ m ih =>
      intro l1 l2 k h1 h2 h3 h4
      have nx : ∀ x : Int32, x = l2 + 1 → k < NH → x.toInt = ((k + 1 : Nat) : Int) := fun x e hk => by rw [e, t_inc (by omega), h1]; omega
      refine ⟨fun c => ?_, fun c => ?_⟩
      · rw [t_le] at c
        rw [h3, show k = NH by omega]; exact hq
      · rw [t_le] at c
        have hk : k < NH := by omega
        refine y_caught h1 (by omega) (fun w => ⟨fun d => absurd d (by decide), fun _ x4 e4 x5 e5 => ih x4 x5 (k + 1) (nx x5 e5 hk) (by omega) ?_ (by omega)⟩) (fun w => ⟨fun _ x4 e4 x5 e5 => ih x4 x5 (k + 1) (nx x5 e5 hk) (by omega) ?_ (by omega), fun d => absurd rfl d⟩)
        · rw [e4]; exact ca_yes h3 (by omega) h1 w
        · rw [ca_no w, e4, Int32.or_zero]; exact h3
  exact ⟨7, go 7 0 0 0 t_0 (by omega) rfl (by omega)⟩
theorem c_strongTogether {Q : Int32 → Prop} (hR : relM NH NF row s) (H6 : NH ≤ 6) (eh : nh.toInt = (NH : Int)) (hq : Q (sgS s NH)) : wq_X1_strongTogether nh row Q := by
  have go : ∀ (m : Nat) (l1 l2 : Int32) (k : Nat), l2.toInt = (k : Int) → k ≤ NH → l1 = sgS s k → NH - k < m → wl_X1_strongTogether_4 nh row Q m l1 l2 := by
    intro m
    induction m with
    | zero => intro l1 l2 k h1 h2 h3 h4; omega
    | succ m ih =>
      intro l1 l2 k h1 h2 h3 h4
      have st : sgS s (k + 1) = sgS s k + (if s k = -1 then 0 else s (6 + k)) := rfl
      refine ⟨fun c => ?_, fun c => ?_⟩
      · rw [t_le] at c
        rw [h3, show k = NH by omega]; exact hq
      · rw [t_le] at c
        have hk : k < NH := by omega
        have nx : ∀ x : Int32, x = l2 + 1 → x.toInt = ((k + 1 : Nat) : Int) := fun x e => by rw [e, t_inc (by omega), h1]; omega
        refine c_caught hR.1 H6 h1 hk (fun w => ⟨fun d => absurd d (by decide), fun _ x5 e5 x6 e6 => ih x5 x6 (k + 1) (nx x6 e6) (by omega) ?_ (by omega)⟩) (fun w => ⟨fun _ => c_strong h1 (by omega) (fun x5 e5 x6 e6 => ih x5 x6 (k + 1) (nx x6 e6) (by omega) ?_ (by omega)), fun d => absurd rfl d⟩)
        · rw [st, if_pos w, e5, h3]
        · rw [st, if_neg w, e5, h3, ((hR.2.1 k hk).resolve_left w).2.1]
  exact ⟨7, go 7 0 0 0 t_0 (by omega) rfl (by omega)⟩
theorem y_strengthNow {Q : Int32 → Prop} (H6 : NH ≤ 6) (eh : nh.toInt = (NH : Int)) (hq : Q (sgS s NH)) : wq_X11_strengthNow nh s Q := by
  have go : ∀ (m : Nat) (l1 l2 : Int32) (k : Nat), l2.toInt = (k : Int) → k ≤ NH → l1 = sgS s k → NH - k < m → wl_X11_strengthNow_4 nh s Q m l1 l2 := by
    intro m
    induction m with
    | zero => intro l1 l2 k h1 h2 h3 h4; omega
    | succ m ih =>
      intro l1 l2 k h1 h2 h3 h4
      have st : sgS s (k + 1) = sgS s k + (if s k = -1 then 0 else s (6 + k)) := rfl
      refine ⟨fun c => ?_, fun c => ?_⟩
      · rw [t_le] at c
        rw [h3, show k = NH by omega]; exact hq
      · rw [t_le] at c
        have hk : k < NH := by omega
        have nx : ∀ x : Int32, x = l2 + 1 → x.toInt = ((k + 1 : Nat) : Int) := fun x e => by rw [e, t_inc (by omega), h1]; omega
        refine y_caught h1 (by omega) (fun w => ⟨fun d => absurd d (by decide), fun _ x6 e6 x7 e7 => ih x6 x7 (k + 1) (nx x7 e7) (by omega) ?_ (by omega)⟩) (fun w => ⟨fun _ x4 e4 => ?_, fun d => absurd rfl d⟩)
        · rw [st, if_pos w, e6, h3]
        · have k4 := i6 e4 h1 (by omega)
          refine ⟨t_in (by omega) (by omega), fun x5 e5 x6 e6 x7 e7 => ih x6 x7 (k + 1) (nx x7 e7) (by omega) ?_ (by omega)⟩
          rw [t_clamp k4] at e5
          rw [st, if_neg w, e6, h3, e5]
  exact ⟨7, go 7 0 0 0 t_0 (by omega) rfl (by omega)⟩
/-- forms no farther than so much -/
def wiN (F : Nat → Int) (g : Nat) (r : Int) (nf : Nat) : Nat := orN (fun f => decide (fr F g f ≤ r)) nf
theorem c_formsWithin {Q : Int32 → Prop} {g : Nat} (hF : ∀ j : Nat, j < 2 * NF → 0 ≤ F j ∧ F j ≤ 30) (h8 : NF ≤ 8) (hpr : pr NF X Y F) (ef : nf.toInt = (NF : Int)) (ep : p.toInt = (g : Int)) (hg : g < NF) (hq : Q (Int32.ofNat (wiN F g q.toInt NF))) : wq_X2_formsWithin nf X Y p q Q := by
  have go : ∀ (m : Nat) (l3 l4 : Int32) (k : Nat), l4.toInt = (k : Int) → k ≤ NF → l3 = Int32.ofNat (wiN F g q.toInt k) → NF - k < m → wl_X2_formsWithin_5 nf X Y Q m p q l3 l4 := by
    intro m
    induction m with
    | zero => intro l3 l4 k h1 h2 h3 h4; omega
    | succ m ih =>
      intro l3 l4 k h1 h2 h3 h4
      have nx : ∀ x : Int32, x = l4 + 1 → k < NF → x.toInt = ((k + 1 : Nat) : Int) := fun x e hk => by rw [e, t_inc (by omega), h1]; omega
      have st : wiN F g q.toInt (k + 1) = if decide (fr F g k ≤ q.toInt) = true then wiN F g q.toInt k ||| (1 <<< k) else wiN F g q.toInt k := rfl
      refine ⟨fun c => ?_, fun c => ?_⟩
      · rw [t_le] at c
        rw [h3, show k = NF by omega]; exact hq
      · rw [t_le] at c
        have hk : k < NF := by omega
        refine z_apart hF h8 hpr ep hg h1 hk (fun r er => ⟨fun d x5 e5 => ih l3 x5 (k + 1) (nx x5 e5 hk) (by omega) ?_ (by omega), fun d x4 e4 x5 e5 => ih x4 x5 (k + 1) (nx x5 e5 hk) (by omega) ?_ (by omega)⟩)
        · rw [t_lt] at d
          rw [st, if_neg (by rw [decide_eq_true_eq]; omega)]; exact h3
        · rw [t_lt] at d
          rw [st, if_pos (decide_eq_true (by omega)), e4]
          exact b8_or h3 (orN_le (by omega)) h1 (by omega)
  exact ⟨9, go 9 0 0 0 t_0 (by omega) rfl (by omega)⟩
/-- forms a hare could leap to -/
def raN (F : Nat → Int) (cs : List (Int × Int)) (s : Nat → Int32) (nh h nf : Nat) : Nat := orN (fun f => decide (cnS F cs s nh h f)) nf
theorem c_leapable {fc pl : Nat → Int32} {Q : Int32 → (Nat → Int32) → (Nat → Int32) → Prop} (hF : ∀ j : Nat, j < 2 * NF → 0 ≤ F j ∧ F j ≤ 30) (h8 : NF ≤ 8) (hpr : pr NF X Y F) (ef : nf.toInt = (NF : Int)) (hR : relM NH NF row s) (H6 : NH ≤ 6) (eh : nh.toInt = (NH : Int)) (hL : relLc cs ln kd vl ct cd oc) (ep : p.toInt = (h : Int)) (hh : h < NH) (hq : ∀ fc pl : Nat → Int32, Q (Int32.ofNat (raN F cs s NH h NF)) fc pl) : wq_X1_leapable row nf nh ln kd vl X Y fc pl p Q := by
  refine c_caught hR.1 H6 ep hh (fun w => ⟨fun d => absurd d (by decide), fun _ => ?_⟩) (fun w => ⟨fun _ => c_sits ep (by omega) ?_, fun d => absurd rfl d⟩)
  · have e : raN F cs s NH h NF = 0 := by
      apply Nat.eq_of_testBit_eq
      intro i
      rw [show raN F cs s NH h NF = orN (fun f => decide (cnS F cs s NH h f)) NF from rfl, orN_bit, Nat.zero_testBit, decide_eq_false (fun d : cnS F cs s NH h i => d.1 w), Bool.and_false]
    have g := hq fc pl
    rw [e] at g; exact g
  · rw [← m_sit hR hh w]
    obtain ⟨g, eg, hg⟩ := m_in hR hh w
    refine c_reach hR H6 eh hL ep hh w (fun fc pl => c_formsWithin hF h8 hpr ef eg hg (c_sits ep (by omega) ?_))
    rw [← m_sit hR hh w, ofN_eq eg (by omega)]
    have e := b8_clr ⟨wiN F g (lpS cs s NH h).toInt NF, orN_le h8⟩ ⟨g, by omega⟩
    have e2 : orN (fun i => (wiN F g (lpS cs s NH h).toInt NF).testBit i && decide (i ≠ g)) 8 = raN F cs s NH h NF := by
      apply Nat.eq_of_testBit_eq
      intro i
      rw [show raN F cs s NH h NF = orN (fun f => decide (cnS F cs s NH h f)) NF from rfl, orN_bit, orN_bit, show wiN F g (lpS cs s NH h).toInt NF = orN (fun f => decide (fr F g f ≤ (lpS cs s NH h).toInt)) NF from rfl, orN_bit]
      by_cases hi : i < NF
      · have c : decide (cnS F cs s NH h i) = (decide (fr F g i ≤ (lpS cs s NH h).toInt) && decide (i ≠ g)) := by
          by_cases c1 : fr F g i ≤ (lpS cs s NH h).toInt
          · by_cases c2 : i = g
            · rw [decide_eq_false (fun d : cnS F cs s NH h i => d.2.1 (by rw [eg, c2])), c2]; simp
            · rw [decide_eq_true (show cnS F cs s NH h i from ⟨w, by rw [eg]; omega, by rw [eg, Int.toNat_natCast]; exact c1⟩)]; simp [c1, c2]
          · rw [decide_eq_false (fun d : cnS F cs s NH h i => c1 (by have := d.2.2; rw [eg, Int.toNat_natCast] at this; exact this))]; simp [c1]
        rw [c]; simp [hi, show i < 8 by omega]
      · simp [hi]
    have g9 := hq fc pl
    rw [← e2] at g9
    rw [← ofN_eq eg (by omega)] at e ⊢
    rw [ofN_eq eg (by omega)] at e ⊢
    rw [e]; exact g9
theorem y_rangeOf {fc st : Nat → Int32} {Q : Int32 → (Nat → Int32) → (Nat → Int32) → Prop} (hF : ∀ j : Nat, j < 2 * NF → 0 ≤ F j ∧ F j ≤ 30) (h8 : NF ≤ 8) (hpm : pm (2 * NF) fo F) (ef : nf.toInt = (NF : Int)) (hg : rgS NH NF s) (H6 : NH ≤ 6) (eh : nh.toInt = (NH : Int)) (hL : relLc cs ln kd vl ct cd oc) (ep : p.toInt = (h : Int)) (hh : h < NH) (hq : ∀ fc st : Nat → Int32, Q (Int32.ofNat (raN F cs s NH h NF)) fc st) : wq_X11_rangeOf nf nh ct s fo cd oc fc st p Q := by
  have go : ∀ (m : Nat) (fc st : Nat → Int32) (l2 l3 : Int32) (k : Nat), l3.toInt = (k : Int) → k ≤ NF → l2 = Int32.ofNat (raN F cs s NH h k) → NF - k < m → wl_X11_rangeOf_4 nf nh ct s fo cd oc Q m fc st p l2 l3 := by
    intro m
    induction m with
    | zero => intro fc st l2 l3 k h1 h2 h3 h4; omega
    | succ m ih =>
      intro fc st l2 l3 k h1 h2 h3 h4
      have nx : ∀ x : Int32, x = l3 + 1 → k < NF → x.toInt = ((k + 1 : Nat) : Int) := fun x e hk => by rw [e, t_inc (by omega), h1]; omega
      have st9 : raN F cs s NH h (k + 1) = if decide (cnS F cs s NH h k) = true then raN F cs s NH h k ||| (1 <<< k) else raN F cs s NH h k := rfl
      refine ⟨fun c => ?_, fun c => ?_⟩
      · rw [t_le] at c
        rw [h3, show k = NF by omega]; exact hq fc st
      · rw [t_le] at c
        have hk : k < NF := by omega
        refine y_canLeap hF h8 hpm hg H6 eh hL ep hh h1 hk (fun w fc st => ⟨fun d => absurd d (by decide), fun _ x6 e6 x7 e7 => ih fc st x6 x7 (k + 1) (nx x7 e7 hk) (by omega) ?_ (by omega)⟩) (fun w fc st => ⟨fun _ x6 e6 x7 e7 => ih fc st x6 x7 (k + 1) (nx x7 e7 hk) (by omega) ?_ (by omega), fun d => absurd rfl d⟩)
        · rw [st9, if_pos (decide_eq_true w), e6]
          exact b8_or h3 (orN_le (by omega)) h1 (by omega)
        · rw [st9, if_neg (by rw [decide_eq_true_eq]; exact w), e6, Int32.or_zero]; exact h3
  exact ⟨9, go 9 fc st 0 0 0 t_0 (by omega) rfl (by omega)⟩
end DQ
