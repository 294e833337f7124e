section Im
theorem rPast_same {w h n : Int32} {p q : Nat → Int32} (a : rPast w h n p) (e : ∀ j : Nat, j < 1088 → q j = p j) : rPast w h n q := by
  have hw := a.1
  exact ⟨hw, fun r hr => rS_same (a.2 r hr) (fun j hj => e _ (by omega))⟩
theorem sl_X11_keepsRow1 {n2 : Nat} {f2 im : Nat → Int32} {l1 l3 l4 : Int32} {Q : Int32 → (Nat → Int32) → (Nat → Int32) → Prop} (k4 : ¬ l4 = 0) (b0 : 0 ≤ l1.toInt) (b1 : 0 ≤ l3.toInt) (b2 : l1.toInt + l3.toInt ≤ 3471) (b3 : l3.toInt ≤ n2) (hq : ∀ G : Nat → Int32, (∀ j : Nat, G j = if l1.toNatClampNeg ≤ j ∧ j < l1.toNatClampNeg + l3.toNatClampNeg then f2 (j - l1.toNatClampNeg) else im j) → Q (l1 + l3) f2 G) :
    ∀ (k : Nat) (G : Nat → Int32) (l5 : Int32), (∀ j : Nat, G j = if l1.toNatClampNeg ≤ j ∧ j < l1.toNatClampNeg + l5.toNatClampNeg then f2 (j - l1.toNatClampNeg) else im j) → 0 ≤ l5.toInt → l5.toInt ≤ l3.toInt → l3.toInt - l5.toInt < k → wl_X11_keepsRow_3 n2 Q k f2 G l1 l3 l4 l5 := by
  intro k
  induction k with
  | zero => intro G l5 hG h0 h1 h2; omega
  | succ k ih =>
    intro G l5 hG h0 h1 h2
    have n1 := t_nat b0
    have n3 := t_nat b1
    have n5 := t_nat h0
    refine ⟨fun c => hq G (fun j => ?_), fun c => ⟨fun z => absurd z k4, fun _ x6 e6 => ?_⟩⟩
    · rw [t_le] at c
      rw [hG j, show l5.toNatClampNeg = l3.toNatClampNeg by omega]
    · rw [t_le] at c
      have q6 : x6.toInt = l1.toInt + l5.toInt := by rw [e6]; exact t_add (by omega) (by omega)
      have n6 := t_nat (x := x6) (by omega)
      refine ⟨t_in h0 (by omega), fun x7 e7 => ⟨t_in (by omega) (by omega), fun f8 e8 x9 e9 => ?_⟩⟩
      have q9 : x9.toInt = l5.toInt + 1 := by rw [e9]; exact t_inc (by omega)
      have n9 := t_nat (x := x9) (by omega)
      refine ih f8 x9 (fun j => ?_) (by omega) (by omega) (by omega)
      rw [e8]
      by_cases z : j = x6.toNatClampNeg
      · rw [z, pk_us, if_pos (by omega), e7]; congr 1; omega
      · rw [pk_un z, hG j]
        by_cases y : l1.toNatClampNeg ≤ j ∧ j < l1.toNatClampNeg + l5.toNatClampNeg
        · rw [if_pos y, if_pos (by omega)]
        · rw [if_neg y, if_neg (by omega)]
theorem sl_X11_keepsRow0 {n2 : Nat} {im : Nat → Int32} {l1 l3 : Int32} {Q : Int32 → (Nat → Int32) → (Nat → Int32) → Prop} (b0 : 0 ≤ l1.toInt) (b1 : 0 ≤ l3.toInt) (b2 : l1.toInt + l3.toInt ≤ 3471) (b3 : l3.toInt ≤ n2) (hq : ∀ F : Nat → Int32, (∀ j : Nat, j < l3.toNatClampNeg → F j = im (l1.toNatClampNeg + j)) → Q (l1 + l3) F im) :
    ∀ (k : Nat) (F : Nat → Int32) (l5 : Int32), (∀ j : Nat, j < l5.toNatClampNeg → F j = im (l1.toNatClampNeg + j)) → 0 ≤ l5.toInt → l5.toInt ≤ l3.toInt → l3.toInt - l5.toInt < k → wl_X11_keepsRow_3 n2 Q k F im l1 l3 0 l5 := by
  intro k
  induction k with
  | zero => intro F l5 hF h0 h1 h2; omega
  | succ k ih =>
    intro F l5 hF h0 h1 h2
    have n1 := t_nat b0
    have n3 := t_nat b1
    have n5 := t_nat h0
    refine ⟨fun c => hq F (fun j hj => ?_), fun c => ⟨fun _ x3 e3 => ?_, fun z => absurd rfl z⟩⟩
    · rw [t_le] at c
      exact hF j (by omega)
    · rw [t_le] at c
      have q3 : x3.toInt = l1.toInt + l5.toInt := by rw [e3]; exact t_add (by omega) (by omega)
      have n6 := t_nat (x := x3) (by omega)
      refine ⟨t_in (by omega) (by omega), fun x4 e4 => ⟨t_in h0 (by omega), fun f5 e5 x9 e9 => ?_⟩⟩
      have q9 : x9.toInt = l5.toInt + 1 := by rw [e9]; exact t_inc (by omega)
      have n9 := t_nat (x := x9) (by omega)
      refine ih f5 x9 (fun j hj => ?_) (by omega) (by omega) (by omega)
      rw [e5]
      by_cases z : j = l5.toNatClampNeg
      · rw [z, pk_us, e4]; congr 1; omega
      · rw [pk_un z]; exact hF j (by omega)
theorem t_1157 {p : Int32} (h0 : 0 ≤ p.toInt) (h1 : p.toInt ≤ 2) : (1157 * p).toInt = 1157 * p.toInt := by
  have e : (1157 : Int32).toInt = 1157 := by decide
  rw [t_mul (by rw [e]; omega) (by rw [e]; omega), e]
theorem c_68 : (68 : Int32).toNatClampNeg = 68 := by decide
theorem c_1088 : (1088 : Int32).toNatClampNeg = 1088 := by decide
theorem v_68 : (68 : Int32).toInt = 68 := by decide
theorem v_1088 : (1088 : Int32).toInt = 1088 := by decide
theorem sf_X11_image {v0_thrown : Int32} {f0_now f0_image f0_past : Nat → Int32} {v0_works v0_images h n : Int32} {Q : Int32 → Int32 → (Nat → Int32) → (Nat → Int32) → (Nat → Int32) → Int32 → Int32 → Prop} (a0 : rS h n f0_now) (a1 : rPast v0_works h n f0_past) (a2 : rImg v0_images h n f0_image) (hq : ∀ (r t : Int32) (now im past : Nat → Int32) (w m : Int32), rS h n now → rPast w h n past → rImg m h n im → Q r t now im past w m) : wq_X11_image v0_thrown f0_now f0_image f0_past v0_works v0_images Q := by
  refine ⟨fun c => ?_, fun _ => hq _ _ _ _ _ _ _ a0 a1 a2⟩
  rw [t_eq, t_3] at c
  have hm := a2.1
  have n0 := t_nat hm.1
  intro x1 e1
  have q1 : x1.toInt = 1157 * v0_images.toInt := by rw [e1]; exact t_1157 hm.1 (by omega)
  have m1 := t_nat (x := x1) (by omega)
  refine ⟨69, sl_X11_keepsRow1 (by decide) (by omega) (by decide) (by rw [v_68]; omega) (by decide) (fun G hG => ?_) 69 f0_image 0 (fun j => by rw [if_neg (by rw [t_c0]; omega)]) (by decide) (by decide) (by decide)⟩
  rw [c_68] at hG
  have q4 : (x1 + 68).toInt = x1.toInt + 68 := by rw [t_add (by rw [v_68]; omega) (by rw [v_68]; omega), v_68]
  have m4 := t_nat (x := x1 + 68) (by omega)
  refine ⟨1089, sl_X11_keepsRow1 (by decide) (by omega) (by decide) (by rw [v_1088]; omega) (by decide) (fun H hH => ?_) 1089 G 0 (fun j => by rw [if_neg (by rw [t_c0]; omega)]) (by decide) (by decide) (by decide)⟩
  rw [c_1088] at hH
  have q7 : (x1 + 68 + 1088).toInt = x1.toInt + 1156 := by rw [t_add (by rw [v_1088]; omega) (by rw [v_1088]; omega), v_1088]; omega
  have m7 := t_nat (x := x1 + 68 + 1088) (by omega)
  refine ⟨fun z => absurd z (by decide), fun _ => ⟨t_in (by omega) (by omega), fun f10 e10 x6 e6 => ?_⟩⟩
  have q6 : x6.toInt = v0_images.toInt + 1 := by rw [e6]; exact t_inc (by omega)
  refine hq _ _ _ _ _ _ _ a0 a1 ⟨by omega, fun i hi => ?_⟩
  by_cases z : i = v0_images.toNatClampNeg
  · refine ⟨rS_same a0 (fun j hj => ?_), ?_⟩
    · show f10 (1157 * i + j) = f0_now j
      rw [e10, pk_un (by omega), hH, if_neg (by omega), hG, if_pos (by omega)]; exact congrArg f0_now (by omega)
    · have ew : f10 (1157 * i + 1156) = v0_works := by
        rw [e10, show 1157 * i + 1156 = (x1 + 68 + 1088).toNatClampNeg by omega, pk_us]
      rw [ew]
      refine rPast_same a1 (fun j hj => ?_)
      show f10 (1157 * i + 68 + j) = f0_past j
      rw [e10, pk_un (by omega), hH, if_pos (by omega)]; exact congrArg f0_past (by omega)
  · have hi2 := a2.2 i (by omega)
    have keep : ∀ j : Nat, j < 1157 → f10 (1157 * i + j) = f0_image (1157 * i + j) := fun j hj => by
      rw [e10, pk_un (by omega), hH, if_neg (by omega), hG, if_neg (by omega)]
    refine ⟨rS_same hi2.1 (fun j hj => keep j (by omega)), ?_⟩
    have ew := keep 1156 (by omega)
    rw [ew]
    refine rPast_same hi2.2 (fun j hj => ?_)
    have := keep (68 + j) (by omega)
    show f10 (1157 * i + 68 + j) = f0_image (1157 * i + 68 + j)
    rw [show 1157 * i + 68 + j = 1157 * i + (68 + j) by omega]; exact this
theorem sf_X11_restore {v0_thrown v0_images : Int32} {f0_now f0_image f0_past : Nat → Int32} {v0_works v0_refusedSteps h n : Int32} {Q : Int32 → Int32 → Int32 → (Nat → Int32) → (Nat → Int32) → (Nat → Int32) → Int32 → Int32 → Prop} (a0 : rS h n f0_now) (a1 : rPast v0_works h n f0_past) (a2 : rImg v0_images h n f0_image) (hq : ∀ (r t m : Int32) (now im past : Nat → Int32) (w rs : Int32), rS h n now → rPast w h n past → rImg m h n im → Q r t m now im past w rs) : wq_X11_restore v0_thrown v0_images f0_now f0_image f0_past v0_works v0_refusedSteps Q := by
  refine ⟨fun c x2 e2 => ?_, fun _ => hq _ _ _ _ _ _ _ _ a0 a1 a2⟩
  rw [t_eq, t_0] at c
  have hm := a2.1
  have q2 : x2.toInt = v0_images.toInt - 1 := by rw [e2]; exact t_pred (by omega)
  have n2 := t_nat (x := x2) (by omega)
  have hi2 := a2.2 x2.toNatClampNeg (by omega)
  intro x1 e1
  have q1 : x1.toInt = 1157 * x2.toInt := by rw [e1]; exact t_1157 (by omega) (by omega)
  have m1 := t_nat (x := x1) (by omega)
  refine ⟨69, sl_X11_keepsRow0 (by omega) (by decide) (by rw [v_68]; omega) (by decide) (fun F hF => ?_) 69 f0_now 0 (fun j hj => by rw [t_c0] at hj; omega) (by decide) (by decide) (by decide)⟩
  rw [c_68] at hF
  have q4 : (x1 + 68).toInt = x1.toInt + 68 := by rw [t_add (by rw [v_68]; omega) (by rw [v_68]; omega), v_68]
  have m4 := t_nat (x := x1 + 68) (by omega)
  refine ⟨1089, sl_X11_keepsRow0 (by omega) (by decide) (by rw [v_1088]; omega) (by decide) (fun H hH => ?_) 1089 f0_past 0 (fun j hj => by rw [t_c0] at hj; omega) (by decide) (by decide) (by decide)⟩
  rw [c_1088] at hH
  have q7 : (x1 + 68 + 1088).toInt = x1.toInt + 1156 := by rw [t_add (by rw [v_1088]; omega) (by rw [v_1088]; omega), v_1088]; omega
  have m7 := t_nat (x := x1 + 68 + 1088) (by omega)
  refine ⟨fun _ => ⟨t_in (by omega) (by omega), fun x9 e9 => ?_⟩, fun z => absurd rfl z⟩
  refine hq _ _ _ _ _ _ _ _ (rS_same hi2.1 (fun j hj => ?_)) ?_ ⟨by omega, fun i hi => a2.2 i (by omega)⟩
  · rw [hF j hj]; exact congrArg f0_image (by omega)
  · have ew : x9 = f0_image (1157 * x2.toNatClampNeg + 1156) := by rw [e9]; exact congrArg f0_image (by omega)
    rw [ew]
    refine rPast_same hi2.2 (fun j hj => ?_)
    rw [hH j hj]; exact congrArg f0_image (by omega)
end Im
