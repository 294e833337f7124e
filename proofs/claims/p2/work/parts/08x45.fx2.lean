/-! forms to watch from -/
def cvB (F : Nat → Int) (d : Int) (set f : Nat) : Nat → Bool
  | 0 => false
  | o + 1 => cvB F d set f o || (set.testBit o && decide (fr F f o ≤ d))
def alW (F : Nat → Int) (d : Int) (nf set : Nat) : Nat → Bool
  | 0 => true
  | f + 1 => alW F d nf set f && cvB F d set f nf
/-- the best of the sets below k, or -1 -/
def wtN (F : Nat → Int) (d : Int) (nf : Nat) : Nat → Int
  | 0 => -1
  | k + 1 => if alW F d nf k nf = true ∧ (wtN F d nf k = -1 ∨ pcB k 8 < pcB (wtN F d nf k).toNat 8) then (k : Int) else wtN F d nf k
theorem wt_le {F : Nat → Int} {d : Int} {nf : Nat} : ∀ k : Nat, wtN F d nf k = -1 ∨ (0 ≤ wtN F d nf k ∧ wtN F d nf k < k) := by
  intro k
  induction k with
  | zero => exact Or.inl rfl
  | succ k ih =>
    unfold wtN
    by_cases c : alW F d nf k nf = true ∧ (wtN F d nf k = -1 ∨ pcB k 8 < pcB (wtN F d nf k).toNat 8)
    · rw [if_pos c]; omega
    · rw [if_neg c]; omega
theorem bool_01 {x : Int32} {B : Bool} (h : x = if B = true then 1 else 0) : (x = 0 ↔ B = false) := by
  cases B with
  | false => rw [h]; simp
  | true => rw [h]; simp
theorem pw2_le {NF : Nat} (h8 : NF ≤ 8) : 1 ≤ 2 ^ NF ∧ 2 ^ NF ≤ 256 := by
  have h := Nat.pow_le_pow_right (show 0 < 2 by decide) h8
  have h2 : (2 : Nat) ^ 8 = 256 := by decide
  have h3 := Nat.two_pow_pos NF
  omega
theorem t_pw2 {nf : Int32} {NF : Nat} (ef : nf.toInt = (NF : Int)) (h8 : NF ≤ 8) : (1 <<< (nf &&& 31) : Int32).toInt = ((2 ^ NF : Nat) : Int) := by
  rw [t_2p (by omega) (by omega), t_clamp ef]
theorem pc_full : ∀ n : Fin 9, ∀ k : Fin 256, k.val < 2 ^ n.val - 1 → pcB k.val 8 < pcB (2 ^ n.val - 1) 8 := by decide +kernel
theorem fr_sym {F : Nat → Int} {i j : Nat} : fr F i j = fr F j i := by
  have s : ∀ x y : Int, iab (x - y) = iab (y - x) := fun x y => by
    unfold iab
    by_cases c : 0 ≤ x - y
    · by_cases c2 : 0 ≤ y - x
      · rw [if_pos c, if_pos c2]; omega
      · rw [if_pos c, if_neg c2]; omega
    · by_cases c2 : 0 ≤ y - x
      · rw [if_neg c, if_pos c2]; omega
      · rw [if_neg c, if_neg c2]; omega
  unfold fr
  rw [s (F (2 * i)), s (F (2 * i + 1))]
theorem fr_self {F : Nat → Int} {i : Nat} : fr F i i = 0 := by
  unfold fr iab
  rw [if_pos (by omega), if_pos (by omega)]; omega
section FW
variable {NF : Nat} {X Y fo : Nat → Int32} {F : Nat → Int} {nf p : Int32}
theorem m_watch {th : Int32} {rf : Nat → Int32} {Q : Int32 → Int32 → (Nat → Int32) → Prop} (hF : ∀ j : Nat, j < 2 * NF → 0 ≤ F j ∧ F j ≤ 30) (h8 : NF ≤ 8) (hpm : pm (2 * NF) fo F) (ef : nf.toInt = (NF : Int)) (hq : ∀ x : Int32, x.toInt = wtN F p.toInt NF (2 ^ NF) → Q x th rf) :
    ∀ (m : Nat) (l2 l3 : Int32) (k : Nat), l3.toInt = (k : Int) → k ≤ 2 ^ NF → l2.toInt = wtN F p.toInt NF k → 2 ^ NF - k < m → wl_X11_watch_27 nf fo Q m th rf p l2 l3 := by
  have e2 := t_pw2 ef h8
  have hpw := pw2_le h8
  intro m
  induction m with
  | zero => intro l2 l3 k h1 h2 h3 h4; omega
  | succ m ih =>
    intro l2 l3 k h1 h2 h3 h4
    have hb := wt_le (F := F) (d := p.toInt) (nf := NF) k
    refine ⟨fun c => ?_, fun c => ?_⟩
    · rw [t_le, e2] at c
      rw [show k = 2 ^ NF by omega] at h3
      exact hq l2 h3
    rw [t_le, e2] at c
    have hk : k < 2 ^ NF := by omega
    have nx : ∀ x : Int32, x = l3 + 1 → x.toInt = ((k + 1 : Nat) : Int) := fun x e => by rw [e, t_inc (by omega), h1]; omega
    have st : wtN F p.toInt NF (k + 1) = if alW F p.toInt NF k NF = true ∧ (wtN F p.toInt NF k = -1 ∨ pcB k 8 < pcB (wtN F p.toInt NF k).toNat 8) then (k : Int) else wtN F p.toInt NF k := rfl
    have stay : ¬ (alW F p.toInt NF k NF = true ∧ (wtN F p.toInt NF k = -1 ∨ pcB k 8 < pcB (wtN F p.toInt NF k).toNat 8)) → wb_X11_watch_153 nf fo Q (fun v0_thrown f0_refused l1 l2 l3 => wl_X11_watch_27 nf fo Q m v0_thrown f0_refused l1 l2 l3) th rf p l2 l3 := fun w x e => ih l2 x (k + 1) (nx x e) (by omega) (by rw [st, if_neg w]; exact h3) (by omega)
    have take : (alW F p.toInt NF k NF = true ∧ (wtN F p.toInt NF k = -1 ∨ pcB k 8 < pcB (wtN F p.toInt NF k).toNat 8)) → wb_X11_watch_151 nf fo Q (fun v0_thrown f0_refused l1 l2 l3 => wl_X11_watch_27 nf fo Q m v0_thrown f0_refused l1 l2 l3) th rf p l3 := fun w x e => ih l3 x (k + 1) (nx x e) (by omega) (by rw [st, if_pos w]; exact h1) (by omega)
    have go : ∀ (m2 : Nat) (l4 l5 : Int32) (f : Nat), l5.toInt = (f : Int) → f ≤ NF → l4 = (if alW F p.toInt NF k f = true then 1 else 0) → NF - f < m2 → wl_X11_watch_43 nf fo Q (fun v0_thrown f0_refused l1 l2 l3 => wl_X11_watch_27 nf fo Q m v0_thrown f0_refused l1 l2 l3) m2 th rf p l2 l3 l4 l5 := by
      intro m2
      induction m2 with
      | zero => intro l4 l5 f g1 g2 g3 g4; omega
      | succ m2 ih2 =>
        intro l4 l5 f g1 g2 g3 g4
        have b4 := bool_01 g3
        refine ⟨fun c2 => ?_, fun c2 => ⟨9, ?_⟩⟩
        · rw [t_le] at c2
          rw [show f = NF by omega] at b4
          refine ⟨fun z => stay (fun w => ?_), fun z => ⟨fun y => take ⟨?_, Or.inl ?_⟩, fun y => ?_⟩⟩
          · have := b4.mp z
            rw [w.1] at this; exact absurd this (by decide)
          · cases e : alW F p.toInt NF k NF with
            | true => rfl
            | false => exact absurd (b4.mpr e) z
          · rw [← h3, y, t_m1]
          · have w0 : alW F p.toInt NF k NF = true := by
              cases e : alW F p.toInt NF k NF with
              | true => rfl
              | false => exact absurd (b4.mpr e) z
            rw [t_eq, t_m1] at y
            have hb2 := hb.resolve_left (by omega)
            have e3 : l3 = Int32.ofNat k := ofN_eq h1 (by omega)
            have e2' : l2 = Int32.ofNat (wtN F p.toInt NF k).toNat := ofN_eq (by rw [h3]; omega) (by omega)
            have p1 := pcB_le (X := k) 8
            have p2 := pcB_le (X := (wtN F p.toInt NF k).toNat) 8
            refine y_ones e3 (by omega) (y_ones e2' (by omega) ⟨fun d => stay (fun w => ?_), fun d => take ⟨w0, Or.inr ?_⟩⟩)
            · rw [t_le, Int32.toInt_ofNat_of_lt (by omega), Int32.toInt_ofNat_of_lt (by omega)] at d
              rcases w.2 with w | w
              · omega
              · omega
            · rw [t_le, Int32.toInt_ofNat_of_lt (by omega), Int32.toInt_ofNat_of_lt (by omega)] at d
              omega
        · rw [t_le] at c2
          have hf : f < NF := by omega
          have sA : alW F p.toInt NF k (f + 1) = (alW F p.toInt NF k f && cvB F p.toInt k f NF) := rfl
          have go3 : ∀ (m3 : Nat) (l6 l7 : Int32) (o : Nat), l7.toInt = (o : Int) → o ≤ NF → l6 = (if cvB F p.toInt k f o = true then 1 else 0) → NF - o < m3 → wl_X11_watch_58 nf fo Q (fun v0_thrown f0_refused l1 l2 l3 => wl_X11_watch_27 nf fo Q m v0_thrown f0_refused l1 l2 l3) (fun v0_thrown f0_refused l1 l2 l3 l4 l5 => wl_X11_watch_43 nf fo Q (fun v0_thrown f0_refused l1 l2 l3 => wl_X11_watch_27 nf fo Q m v0_thrown f0_refused l1 l2 l3) m2 v0_thrown f0_refused l1 l2 l3 l4 l5) m3 th rf p l2 l3 l4 l5 l6 l7 := by
            intro m3
            induction m3 with
            | zero => intro l6 l7 o k1 k2 k3 k4; omega
            | succ m3 ih3 =>
              intro l6 l7 o k1 k2 k3 k4
              have b6 := bool_01 k3
              have nx5 : ∀ x : Int32, x = l5 + 1 → x.toInt = ((f + 1 : Nat) : Int) := fun x e => by rw [e, t_inc (by omega), g1]; omega
              have nx7 : ∀ x : Int32, x = l7 + 1 → o < NF → x.toInt = ((o + 1 : Nat) : Int) := fun x e ho => by rw [e, t_inc (by omega), k1]; omega
              have sC : cvB F p.toInt k f (o + 1) = (cvB F p.toInt k f o || (k.testBit o && decide (fr F f o ≤ p.toInt))) := rfl
              refine ⟨fun c3 => ?_, fun c3 => ?_⟩
              · rw [t_le] at c3
                rw [show o = NF by omega] at b6
                refine ⟨fun z x21 e21 => ih2 0 x21 (f + 1) (nx5 x21 e21) (by omega) ?_ (by omega), fun z => ⟨fun y x21 e21 => ih2 0 x21 (f + 1) (nx5 x21 e21) (by omega) ?_ (by omega), fun y x21 e21 => ih2 1 x21 (f + 1) (nx5 x21 e21) (by omega) ?_ (by omega)⟩⟩
                · rw [sA, b4.mp z]; rfl
                · rw [sA, b6.mp y, Bool.and_false]; rfl
                · have a1 : alW F p.toInt NF k f = true := by
                    cases e : alW F p.toInt NF k f with
                    | true => rfl
                    | false => exact absurd (b4.mpr e) z
                  have a2 : cvB F p.toInt k f NF = true := by
                    cases e : cvB F p.toInt k f NF with
                    | true => rfl
                    | false => exact absurd (b6.mpr e) y
                  rw [sA, a1, a2]; rfl
              · rw [t_le] at c3
                have ho : o < NF := by omega
                have bb := b8_bit (x := l3) (X := k) (j := o) (p := l7) (ofN_eq h1 (by omega)) (by omega) k1 (by omega)
                refine ⟨fun y x22 e22 => ih3 1 x22 (o + 1) (nx7 x22 e22 ho) (by omega) ?_ (by omega), fun y => ⟨fun w x22 e22 => ih3 0 x22 (o + 1) (nx7 x22 e22 ho) (by omega) ?_ (by omega), fun w => z_farOf hF h8 hpm g1 hf k1 ho (fun r er => ⟨fun d x22 e22 => ih3 0 x22 (o + 1) (nx7 x22 e22 ho) (by omega) ?_ (by omega), fun d x22 e22 => ih3 1 x22 (o + 1) (nx7 x22 e22 ho) (by omega) ?_ (by omega)⟩)⟩⟩
                · have a2 : cvB F p.toInt k f o = true := by
                    cases e : cvB F p.toInt k f o with
                    | true => rfl
                    | false => exact absurd (b6.mpr e) y
                  rw [sC, a2]; rfl
                · have a2 := b6.mp y
                  have a3 : k.testBit o = false := by
                    cases e : k.testBit o with
                    | false => rfl
                    | true => exact absurd (bb.mpr e) w
                  rw [sC, a2, a3]; rfl
                · rw [t_lt] at d
                  rw [sC, b6.mp y, decide_eq_false (by omega), Bool.and_false]; rfl
                · rw [t_lt] at d
                  rw [sC, bb.mp w, decide_eq_true (show fr F f o ≤ p.toInt by omega), b6.mp y]; rfl
          exact go3 9 0 0 0 t_0 (by omega) rfl (by omega)
    exact ⟨9, go 9 1 0 0 t_0 (by omega) rfl (by omega)⟩
end FW
