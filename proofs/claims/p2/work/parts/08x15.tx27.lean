/-! the nearest refuge -/
def rfN (F G : Nat → Int) (nx i : Nat) : Nat → Int
  | 0 => -1
  | k + 1 => if nrB F G k nx = true then rfN F G nx i k else if rfN F G nx i k = -1 ∨ fr F i k < fr F i (rfN F G nx i k).toNat then k else rfN F G nx i k
theorem rfN_le {F G : Nat → Int} {nx i : Nat} : ∀ k : Nat, -1 ≤ rfN F G nx i k ∧ rfN F G nx i k < k ∨ rfN F G nx i k = -1 := by
  intro k
  induction k with
  | zero => exact Or.inr rfl
  | succ k ih =>
    unfold rfN
    by_cases z : nrB F G k nx = true
    · rw [if_pos z]; omega
    · rw [if_neg z]
      by_cases y : rfN F G nx i k = -1 ∨ fr F i k < fr F i (rfN F G nx i k).toNat
      · rw [if_pos y]; omega
      · rw [if_neg y]; omega
/-- what refuge answers -/
def rfA (F G : Nat → Int) (nf nx i : Nat) (w : Int) : Int := if w = 0 ∨ rfN F G nx i nf = -1 then rfN F G nx i nf else fr F i (rfN F G nx i nf).toNat
section ZR
variable {NF NX : Nat} {X Y fo fx : Nat → Int32} {F G : Nat → Int}
theorem z_refC {nf sf l1 l2 cn ci : Int32} {i : Nat} {E : String → Int32 → Int32 → Prop} {Q : Int32 → Int32 → Int32 → Prop} (hF : ∀ j : Nat, j < 2 * NF → 0 ≤ F j ∧ F j ≤ 30) (h8 : NF ≤ 8) (hp : pr NF X Y F) (en : nf.toInt = NF) (es : sf = Int32.ofNat (sfN F G NF NX)) (ei : l1.toInt = i) (hi : i < NF) (hq : ∀ r : Int32, r.toInt = rfA F G NF NX i l2.toInt → Q r cn ci) :
    ∀ (m : Nat) (l3 l4 : Int32) (k : Nat), l4.toInt = k → k ≤ NF → l3.toInt = rfN F G NX i k → NF - k < m → wl_X10_refuge_17 nf sf X Y E Q m cn ci l1 l2 l3 l4 := by
  intro m
  induction m with
  | zero => intro l3 l4 k h1 h2 h3 h4; omega
  | succ m ih =>
    intro l3 l4 k h1 h2 h3 h4
    have hb := rfN_le (F := F) (G := G) (nx := NX) (i := i) k
    refine ⟨fun c => ?_, fun c => ?_⟩
    · rw [t_le] at c
      have ek : k = NF := by omega
      rw [ek] at h3 hb
      have ans : ∀ r : Int32, r.toInt = rfA F G NF NX i l2.toInt → Q r cn ci := hq
      refine ⟨fun z => ans l3 ?_, fun z => ⟨fun y => ?_, fun y => ans l3 ?_⟩⟩
      · unfold rfA; rw [if_pos (Or.inl (by rw [z, t_0]))]; exact h3
      · rw [t_eq, t_m1] at y
        rw [t_eq, t_0] at z
        refine z_apart hF h8 hp ei hi (j := (rfN F G NX i NF).toNat) (by rw [h3]; omega) (by omega) (fun r er => ans r ?_)
        unfold rfA; rw [if_neg (by omega)]; exact er
      · unfold rfA; rw [if_pos (Or.inr (by rw [← h3, y, t_m1]))]; exact h3
    · rw [t_le] at c
      have hk : k < NF := by omega
      have nx1 : ∀ x : Int32, x = l4 + 1 → x.toInt = ((k + 1 : Nat) : Int) := fun x e => by rw [e, t_inc (by omega), h1]; omega
      have bit := b8_bit es (orN_le h8) h1 (by omega)
      rw [show sfN F G NF NX = orN (fun i => !(nrB F G i NX)) NF from rfl, orN_bit] at bit
      have stay : nrB F G k NX = true ∨ (rfN F G NX i k ≠ -1 ∧ ¬ fr F i k < fr F i (rfN F G NX i k).toNat) → wb_X10_refuge_71 nf sf X Y E Q (fun v0_callsNoSuch v0_callsIllegal l1 l2 l3 l4 => wl_X10_refuge_17 nf sf X Y E Q m v0_callsNoSuch v0_callsIllegal l1 l2 l3 l4) cn ci l1 l2 l3 l4 := fun w x13 e13 => by
        refine ih l3 x13 (k + 1) (nx1 x13 e13) (by omega) ?_ (by omega)
        unfold rfN
        rcases w with w | ⟨w1, w2⟩
        · rw [if_pos w]; exact h3
        · by_cases z : nrB F G k NX = true
          · rw [if_pos z]; exact h3
          · rw [if_neg z, if_neg (fun d => d.elim w1 w2)]; exact h3
      have take : ¬ nrB F G k NX = true → (rfN F G NX i k = -1 ∨ fr F i k < fr F i (rfN F G NX i k).toNat) → wb_X10_refuge_68 nf sf X Y E Q (fun v0_callsNoSuch v0_callsIllegal l1 l2 l3 l4 => wl_X10_refuge_17 nf sf X Y E Q m v0_callsNoSuch v0_callsIllegal l1 l2 l3 l4) cn ci l1 l2 l4 := fun w1 w2 x13 e13 => by
        refine ih l4 x13 (k + 1) (nx1 x13 e13) (by omega) ?_ (by omega)
        unfold rfN
        rw [if_neg w1, if_pos w2]; exact h1
      refine ⟨fun z => ⟨by decide, fun _ => stay (Or.inl ?_), fun d => absurd rfl d⟩, fun z => ⟨by decide, fun d => absurd d (by first | decide | simp), fun _ => ?_⟩⟩
      · cases e : nrB F G k NX with
        | true => rfl
        | false => exact absurd (bit.mpr (by simp [hk, e])) z
      · have hs : ¬ nrB F G k NX = true := fun e => by
          have := bit.mp z
          rw [e] at this; simp at this
        refine ⟨fun y => take hs (Or.inl (by rw [← h3, y, t_m1])), fun y => ?_⟩
        rw [t_eq, t_m1] at y
        refine z_apart hF h8 hp ei hi h1 hk (fun r10 e10 => z_apart hF h8 hp ei hi (j := (rfN F G NX i k).toNat) (by rw [h3]; omega) (by omega) (fun r11 e11 => ⟨fun w => stay (Or.inr ⟨by omega, ?_⟩), fun w => take hs (Or.inr ?_)⟩))
        · rw [t_le] at w; omega
        · rw [t_le] at w; omega
theorem z_refM {nf nx l1 l2 th : Int32} {rf : Nat → Int32} {i : Nat} {Q : Int32 → Int32 → (Nat → Int32) → Prop} (hF : ∀ j : Nat, j < 2 * NF → 0 ≤ F j ∧ F j ≤ 30) (hG : ∀ j : Nat, j < 2 * NX → 0 ≤ G j ∧ G j ≤ 30) (h8 : NF ≤ 8) (h4x : NX ≤ 4) (hp : pm (2 * NF) fo F) (hx : pm (2 * NX) fx G) (en : nf.toInt = NF) (ex : nx.toInt = NX) (ei : l1.toInt = i) (hi : i < NF) (hq : ∀ r : Int32, r.toInt = rfA F G NF NX i l2.toInt → Q r th rf) :
    ∀ (m : Nat) (l3 l4 : Int32) (k : Nat), l4.toInt = k → k ≤ NF → l3.toInt = rfN F G NX i k → NF - k < m → wl_X11_refuge_36 nf nx fo fx Q m th rf l1 l2 l3 l4 := by
  intro m
  induction m with
  | zero => intro l3 l4 k h1 h2 h3 h4; omega
  | succ m ih =>
    intro l3 l4 k h1 h2 h3 h4
    have hb := rfN_le (F := F) (G := G) (nx := NX) (i := i) k
    refine ⟨fun c => ?_, fun c => ?_⟩
    · rw [t_le] at c
      have ek : k = NF := by omega
      rw [ek] at h3 hb
      refine ⟨fun z => hq l3 ?_, fun z => ⟨fun y => ?_, fun y => hq l3 ?_⟩⟩
      · unfold rfA; rw [if_pos (Or.inl (by rw [z, t_0]))]; exact h3
      · rw [t_eq, t_m1] at y
        rw [t_eq, t_0] at z
        refine z_farOf hF h8 hp ei hi (j := (rfN F G NX i NF).toNat) (by rw [h3]; omega) (by omega) (fun r er => hq r ?_)
        unfold rfA; rw [if_neg (by omega)]; exact er
      · unfold rfA; rw [if_pos (Or.inr (by rw [← h3, y, t_m1]))]; exact h3
    · rw [t_le] at c
      have hk : k < NF := by omega
      have nx1 : ∀ x : Int32, x = l4 + 1 → x.toInt = ((k + 1 : Nat) : Int) := fun x e => by rw [e, t_inc (by omega), h1]; omega
      have stay : nrB F G k NX = true ∨ (rfN F G NX i k ≠ -1 ∧ ¬ fr F i k < fr F i (rfN F G NX i k).toNat) → wb_X11_refuge_78 nf nx fo fx Q (fun v0_thrown f0_refused l1 l2 l3 l4 => wl_X11_refuge_36 nf nx fo fx Q m v0_thrown f0_refused l1 l2 l3 l4) th rf l1 l2 l3 l4 := fun w x20 e20 => by
        refine ih l3 x20 (k + 1) (nx1 x20 e20) (by omega) ?_ (by omega)
        unfold rfN
        rcases w with w | ⟨w1, w2⟩
        · rw [if_pos w]; exact h3
        · by_cases z : nrB F G k NX = true
          · rw [if_pos z]; exact h3
          · rw [if_neg z, if_neg (fun d => d.elim w1 w2)]; exact h3
      have take : ¬ nrB F G k NX = true → (rfN F G NX i k = -1 ∨ fr F i k < fr F i (rfN F G NX i k).toNat) → wb_X11_refuge_75 nf nx fo fx Q (fun v0_thrown f0_refused l1 l2 l3 l4 => wl_X11_refuge_36 nf nx fo fx Q m v0_thrown f0_refused l1 l2 l3 l4) th rf l1 l2 l4 := fun w1 w2 x20 e20 => by
        refine ih l4 x20 (k + 1) (nx1 x20 e20) (by omega) ?_ (by omega)
        unfold rfN
        rw [if_neg w1, if_pos w2]; exact h1
      refine z_isSafeM hF hG h8 h4x hp hx ex h1 hk (fun w => ⟨fun _ => stay (Or.inl w), fun d => absurd rfl d⟩) (fun w => ⟨fun d => absurd d (by first | decide | simp), fun _ => ?_⟩)
      have hs : ¬ nrB F G k NX = true := by rw [w]; decide
      refine ⟨fun y => take hs (Or.inl (by rw [← h3, y, t_m1])), fun y => ?_⟩
      rw [t_eq, t_m1] at y
      refine z_farOf hF h8 hp ei hi h1 hk (fun r10 e10 => z_farOf hF h8 hp ei hi (j := (rfN F G NX i k).toNat) (by rw [h3]; omega) (by omega) (fun r11 e11 => ⟨fun w => stay (Or.inr ⟨by omega, ?_⟩), fun w => take hs (Or.inr ?_)⟩))
      · rw [t_le] at w; omega
      · rw [t_le] at w; omega
end ZR
