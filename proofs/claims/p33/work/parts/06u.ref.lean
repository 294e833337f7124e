theorem tY : ((0 : Int32).toInt = 0) ∧ ((1 : Int32).toInt = 1) ∧ ((2 : Int32).toInt = 2) ∧ ((3 : Int32).toInt = 3) ∧ ((4 : Int32).toInt = 4) ∧ ((6 : Int32).toInt = 6) ∧ ((8 : Int32).toInt = 8) ∧ ((-1 : Int32).toInt = -1) := ⟨t_0, t_1, t_2, t_3, t_4, t_6, t_8, qam⟩
theorem tZ : ((0 : Int32).toInt = 0) ∧ ((1 : Int32).toInt = 1) ∧ ((2 : Int32).toInt = 2) ∧ ((3 : Int32).toInt = 3) ∧ ((4 : Int32).toInt = 4) ∧ ((6 : Int32).toInt = 6) ∧ ((8 : Int32).toInt = 8) ∧ ((-1 : Int32).toInt = -1) ∧ (∀ p : Prop, (False ∧ p) = False) ∧ (∀ p : Prop, (True ∧ p) = p) ∧ (∀ p : Prop, (p ∧ True) = p) ∧ (∀ p : Prop, (p ∧ False) = False) ∧ (∀ p : Prop, (p ∨ False) = p) ∧ (∀ p : Prop, (False ∨ p) = p) ∧ (∀ p : Prop, (True ∨ p) = True) ∧ (∀ p : Prop, (p ∨ True) = True) ∧ (∀ {α : Type} (a b : α), (a ≠ b) = ¬ a = b) ∧ ((¬ False) = True) ∧ ((¬ True) = False) := ⟨t_0, t_1, t_2, t_3, t_4, t_6, t_8, qam, false_and, true_and, and_true, and_false, or_false, false_or, true_or, or_true, ne_eq, not_false_eq_true, not_true_eq_false⟩
theorem qbO {p0 : Int32} {p1 : Int32} {p2 : Int32} {Q : Int32 → Prop} (hq : ∀ (r : Int32), ((r.toInt = 1 ∧ p1.toInt ≤ p0.toInt ∧ p0.toInt ≤ p2.toInt) ∨ (r.toInt = 0 ∧ (p0.toInt < p1.toInt ∨ p2.toInt < p0.toInt))) → Q r) : qbm p0 p1 p2 Q := by
  refine ⟨?_, ?_⟩
  · intro c1
    try simp only [qao, qak, qan, tY] at c1
    exact hq _ (by first | with_reducible assumption | omega | (simp only [tZ]; first | done | omega))
  · intro c2
    try simp only [qao, qak, qan, tY] at c2
    refine ⟨?_, ?_⟩
    · intro c3
      try simp only [qao, qak, qan, tY] at c3
      exact hq _ (by first | with_reducible assumption | omega | (simp only [tZ]; first | done | omega))
    · intro c4
      try simp only [qao, qak, qan, tY] at c4
      exact hq _ (by first | with_reducible assumption | omega | (simp only [tZ]; first | done | omega))
theorem qcb {jbd : Int32} {ja9 : Nat → Int32} {p1 : Int32} {p2 : Int32} {p3 : Int32} {Q : Int32 → Int32 → NI → Prop} (a0 : 0 ≤ p3.toInt) (a1 : p3.toInt < 2) (a2 : p2.toInt ≠ 0) (hq : ∀ (r thrown : Int32) (refused : NI), ((r.toInt = 1 ∧ p1.toInt ≠ 0) ∨ r.toInt = 0) → Q r thrown refused) : qe6 jbd ja9 p1 p2 p3 Q := by
  refine ⟨?_, ?_⟩
  · intro c1
    try simp only [qao, qak, qan, tY] at c1
    refine ⟨?_, ?_⟩
    · intro c2
      try simp only [qao, qak, qan, tY] at c2
      exact hq _ _ _ (by first | with_reducible assumption | omega | (simp only [tZ]; first | done | omega))
    · intro c3
      try simp only [qao, qak, qan, tY] at c3
      exact hq _ _ _ (by first | with_reducible assumption | omega | (simp only [tZ]; first | done | omega))
  · intro c4
    try simp only [qao, qak, qan, tY] at c4
    refine ⟨?_, ?_⟩
    · intro c5
      try simp only [qao, qak, qan, tY] at c5
      refine ⟨?_, ?_⟩
      · intro c6
        try simp only [qao, qak, qan, tY] at c6
        exact hq _ _ _ (by first | with_reducible assumption | omega | (simp only [tZ]; first | done | omega))
      · intro c7
        try simp only [qao, qak, qan, tY] at c7
        exact hq _ _ _ (by first | with_reducible assumption | omega | (simp only [tZ]; first | done | omega))
    · intro c8
      try simp only [qao, qak, qan, tY] at c8
      refine ⟨qa6 (by first | with_reducible assumption | omega | (simp only [tZ]; first | done | omega)) (by first | with_reducible assumption | omega | (simp only [tZ]; first | done | omega)), ?_⟩
      intro y9 e10
      have h11 : y9.toInt = (ja9 p3.toNatClampNeg).toInt := by rw [e10]
      intro y12 e13
      try have h14 : (y9 + 1).toInt = (y9.toInt + 1) := by rw [qap] <;> (try simp only [tY]) <;> omega
      try have h15 : y12.toInt = (y9.toInt + 1) := by rw [e13]; exact h14
      refine ⟨qa6 (by first | with_reducible assumption | omega | (simp only [tZ]; first | done | omega)) (by first | with_reducible assumption | omega | (simp only [tZ]; first | done | omega)), ?_⟩
      intro y16 e17
      refine ⟨?_, ?_⟩
      · intro c18
        try simp only [qao, qak, qan, tY] at c18
        exact hq _ _ _ (by first | with_reducible assumption | omega | (simp only [tZ]; first | done | omega))
      · intro c19
        try simp only [qao, qak, qan, tY] at c19
        exact hq _ _ _ (by first | with_reducible assumption | omega | (simp only [tZ]; first | done | omega))
theorem qazj {n1 n2 : Nat} {f1 f2 : Nat → Int32} {p : Int32} {Q : NI → Prop} (a0 : p.toInt ≤ n1) (a1 : p.toInt ≤ n2) (hq : ∀ t : NI, (∀ j : Nat, t j = if (j : Int) < p.toInt then f1 j else f2 j) → Q t) :
    ∀ (k : Nat) (g : NI) (i : Int32), (∀ j : Nat, g j = if (j : Int) < i.toInt then f1 j else f2 j) → 0 ≤ i.toInt → (i.toInt ≤ p.toInt ∨ i.toInt = 0) → p.toInt - i.toInt < k ∧ 0 < (k : Int) → qI8 n1 n2 f1 Q k g p i := by
  intro k
  induction k with
  | zero =>
    intro g i hg i0 i1 i2
    omega
  | succ k ih =>
    intro g i hg i0 i1 i2
    refine ⟨fun c => hq g (fun j => ?_), fun c => ?_⟩
    · rw [qak] at c
      rw [hg j]
      by_cases z : (j : Int) < p.toInt
      · rw [if_pos z, if_pos (by omega)]
      · rw [if_neg z, if_neg (by omega)]
    · rw [qak] at c
      have hi := qkX i0
      have hp := qaoP p
      refine ⟨qa6 i0 (by omega), fun x2 e2 => ⟨qa6 i0 (by omega), fun f3 e3 x4 e4 => ?_⟩⟩
      have e : x4.toInt = i.toInt + 1 := by rw [e4]; exact qca (by omega)
      refine ih f3 x4 (fun j => ?_) (by omega) (by omega) (by omega)
      rw [e3]
      by_cases z : j = i.toNatClampNeg
      · rw [z, pk_us, e2, if_pos (by omega)]
      · rw [pk_un z, hg j]
        by_cases y : (j : Int) < i.toInt
        · rw [if_pos y, if_pos (by omega)]
        · rw [if_neg y, if_neg (by omega)]
theorem qtF {n1 n2 : Nat} {f1 f2 : Nat → Int32} {p3 : Int32} {Q : NI → Prop} (a0 : p3.toInt ≤ n1) (a1 : p3.toInt ≤ n2) (hq : ∀ t : NI, (∀ j : Nat, t j = if (j : Int) < p3.toInt then f1 j else f2 j) → Q t) : qr1 n1 n2 f1 f2 p3 Q := by
  have hp := qaoP p3
  refine ⟨p3.toInt.toNat + 1, qazj a0 a1 hq _ f2 0 (fun j => ?_) (by decide) (Or.inr (by decide)) (by rw [t_0]; omega)⟩
  rw [if_neg (by rw [t_0]; omega)]
theorem qoL {jb2 f0_s : Nat → Int32} {Q : NI → Prop} {hh n : Int32} (a0 : rS hh n jb2) (hq : ∀ s, rS hh n s → Q s) : qoM jb2 f0_s Q :=
  qtF (by decide) (by decide) (fun t ht => hq t (qbf5 a0 (fun j hj => by
    rw [ht j, if_pos (by rw [show (68 : Int32).toInt = 68 by decide]; omega)])))
theorem qeY {f0_s : Nat → Int32} {p1 : Int32} {Q : Int32 → Prop} (a0 : 0 ≤ p1.toInt) (a1 : p1.toInt < 6) (hq : ∀ (r : Int32), ((r.toInt = 1 ∧ (f0_s p1.toNatClampNeg).toInt = -1) ∨ (r.toInt = 0 ∧ (f0_s p1.toNatClampNeg).toInt ≠ -1)) → Q r) : qeW f0_s p1 Q := by
  intro y1 e2
  have h3 : y1 = p1 := by rw [e2]; exact Int32.zero_add _
  have h4 : y1.toInt = p1.toInt := by rw [h3]
  refine ⟨qa6 (by first | with_reducible assumption | omega | (simp only [tZ]; first | done | omega)) (by first | with_reducible assumption | omega | (simp only [tZ]; first | done | omega)), ?_⟩
  intro y5 e6
  have h7 : y5.toInt = (f0_s p1.toNatClampNeg).toInt := by rw [e6, h3]
  try have h8 := qn0 (s := f0_s) (x := p1) (by with_reducible assumption) (by first | with_reducible assumption | omega | (simp only [tZ]; first | done | omega)) (by first | with_reducible assumption | omega | (simp only [tZ]; first | done | omega))
  try have h9 := qgw (s := f0_s) (x := p1) (by with_reducible assumption) (by first | with_reducible assumption | omega | (simp only [tZ]; first | done | omega)) (by first | with_reducible assumption | omega | (simp only [tZ]; first | done | omega))
  refine ⟨?_, ?_⟩
  · intro c10
    try simp only [qao, qak, qan, tY] at c10
    exact hq _ (by first | with_reducible assumption | omega | (simp only [tZ]; first | done | omega))
  · intro c11
    try simp only [qao, qak, qan, tY] at c11
    exact hq _ (by first | with_reducible assumption | omega | (simp only [tZ]; first | done | omega))
theorem qWM {p0 : Int32} {Q : Int32 → Prop} (hq : ∀ (r : Int32), Q r) : qCi p0 Q := by
  refine ⟨?_, ?_⟩
  · intro c1
    try simp only [qao, qak, qan, tY] at c1
    exact hq _
  · intro c2
    try simp only [qao, qak, qan, tY] at c2
    exact hq _
theorem qaAE {jbw : Int32} {jbv : Nat → Int32} {jcy : Nat → Int32} {Q : Int32 → Prop} (a0 : jbw.toInt ≤ 4) (hq : ∀ (r : Int32), (r.toInt = 0 ∨ r.toInt = 1) → Q r) : ∀ (k : Nat) (l1 l2 : Int32), (0 ≤ l1.toInt) → (l1.toInt < 8) → (0 ≤ l2.toInt) → (l2.toInt ≤ 4) → 4 - l2.toInt < (k : Int) → qBQ jbw jbv jcy Q k l1 l2 := by
  intro k
  induction k with
  | zero => intro l1 l2 i0 i1 i2 i3 i4; omega
  | succ k ih =>
    intro l1 l2 i0 i1 i2 i3 i4
    refine ⟨?_, ?_⟩
    · intro c1
      try simp only [qao, qak, qan, tY] at c1
      exact hq _ (by first | with_reducible assumption | omega | (simp only [tZ]; first | done | omega))
    · intro c2
      try simp only [qao, qak, qan, tY] at c2
      intro y3 e4
      try have h5 : (2 * l1).toInt = (2 * l1.toInt) := by rw [qu8] <;> (try simp only [tY]) <;> omega
      try have h6 : y3.toInt = (2 * l1.toInt) := by rw [e4]; exact h5
      refine ⟨qa6 (by first | with_reducible assumption | omega | (simp only [tZ]; first | done | omega)) (by first | with_reducible assumption | omega | (simp only [tZ]; first | done | omega)), ?_⟩
      intro y7 e8
      have h9 : y7.toInt = (jbv y3.toNatClampNeg).toInt := by rw [e8]
      intro y10 e11
      try have h12 : (2 * l2).toInt = (2 * l2.toInt) := by rw [qu8] <;> (try simp only [tY]) <;> omega
      try have h13 : y10.toInt = (2 * l2.toInt) := by rw [e11]; exact h12
      refine ⟨qa6 (by first | with_reducible assumption | omega | (simp only [tZ]; first | done | omega)) (by first | with_reducible assumption | omega | (simp only [tZ]; first | done | omega)), ?_⟩
      intro y14 e15
      have h16 : y14.toInt = (jcy y10.toNatClampNeg).toInt := by rw [e15]
      try have h17 : (y7 - y14).toInt = (y7.toInt - y14.toInt) := by rw [qpT] <;> (try simp only [tY]) <;> omega
      refine qWM (fun y18 => ?_)
      intro y19 e20
      try have h21 : (2 * l1).toInt = (2 * l1.toInt) := by rw [qu8] <;> (try simp only [tY]) <;> omega
      try have h22 : y19.toInt = (2 * l1.toInt) := by rw [e20]; exact h21
      intro y23 e24
      try have h25 : (y19 + 1).toInt = (y19.toInt + 1) := by rw [qap] <;> (try simp only [tY]) <;> omega
      try have h26 : y23.toInt = (y19.toInt + 1) := by rw [e24]; exact h25
      refine ⟨qa6 (by first | with_reducible assumption | omega | (simp only [tZ]; first | done | omega)) (by first | with_reducible assumption | omega | (simp only [tZ]; first | done | omega)), ?_⟩
      intro y27 e28
      have h29 : y27.toInt = (jbv y23.toNatClampNeg).toInt := by rw [e28]
      intro y30 e31
      try have h32 : (2 * l2).toInt = (2 * l2.toInt) := by rw [qu8] <;> (try simp only [tY]) <;> omega
      try have h33 : y30.toInt = (2 * l2.toInt) := by rw [e31]; exact h32
      intro y34 e35
      try have h36 : (y30 + 1).toInt = (y30.toInt + 1) := by rw [qap] <;> (try simp only [tY]) <;> omega
      try have h37 : y34.toInt = (y30.toInt + 1) := by rw [e35]; exact h36
      refine ⟨qa6 (by first | with_reducible assumption | omega | (simp only [tZ]; first | done | omega)) (by first | with_reducible assumption | omega | (simp only [tZ]; first | done | omega)), ?_⟩
      intro y38 e39
      have h40 : y38.toInt = (jcy y34.toNatClampNeg).toInt := by rw [e39]
      try have h41 : (y27 - y38).toInt = (y27.toInt - y38.toInt) := by rw [qpT] <;> (try simp only [tY]) <;> omega
      refine qWM (fun y42 => ?_)
      refine ⟨?_, ?_⟩
      · intro c43
        try have h44 : (y18 + y42).toInt = (y18.toInt + y42.toInt) := by rw [qap] <;> (try simp only [tY]) <;> omega
        try simp only [qao, qak, qan, tY] at c43
        intro y45 e46
        try have h47 : (l2 + 1).toInt = (l2.toInt + 1) := by rw [qap] <;> (try simp only [tY]) <;> omega
        try have h48 : y45.toInt = (l2.toInt + 1) := by rw [e46]; exact h47
        exact ih _ _ (by first | with_reducible assumption | omega | (simp only [tZ]; first | done | omega)) (by first | with_reducible assumption | omega | (simp only [tZ]; first | done | omega)) (by first | with_reducible assumption | omega | (simp only [tZ]; first | done | omega)) (by first | with_reducible assumption | omega | (simp only [tZ]; first | done | omega)) (by first | with_reducible assumption | omega | (simp only [tZ]; first | done | omega))
      · intro c49
        try have h50 : (y18 + y42).toInt = (y18.toInt + y42.toInt) := by rw [qap] <;> (try simp only [tY]) <;> omega
        try simp only [qao, qak, qan, tY] at c49
        exact hq _ (by first | with_reducible assumption | omega | (simp only [tZ]; first | done | omega))
theorem qN5 {jbw : Int32} {jbv : Nat → Int32} {jcy : Nat → Int32} {p1 : Int32} {Q : Int32 → Prop} (a0 : 0 ≤ p1.toInt) (a1 : p1.toInt < 8) (a2 : jbw.toInt ≤ 4) (hq : ∀ (r : Int32), (r.toInt = 0 ∨ r.toInt = 1) → Q r) : qw0 jbw jbv jcy p1 Q := by
  refine ⟨5, qaAE (by first | with_reducible assumption | omega | (simp only [tZ]; first | done | omega)) hq 5 _ _ (by first | with_reducible assumption | omega | (simp only [tZ]; first | done | omega)) (by first | with_reducible assumption | omega | (simp only [tZ]; first | done | omega)) (by first | with_reducible assumption | omega | (simp only [tZ]; first | done | omega)) (by first | with_reducible assumption | omega | (simp only [tZ]; first | done | omega)) (by first | with_reducible assumption | omega | (simp only [tZ]; first | done | omega))⟩
theorem qNG {jbw : Int32} {f0_s : Nat → Int32} {jbv : Nat → Int32} {jcy : Nat → Int32} {p1 : Int32} {Q : Int32 → Prop} {hh n : Int32} (a0 : rS hh n f0_s) (a1 : 0 ≤ p1.toInt) (a2 : p1.toInt < hh.toInt) (a3 : p1.toInt < 6) (a4 : jbw.toInt ≤ 4) (hq : ∀ (r : Int32), (r.toInt = 0 ∨ r.toInt = 1) → Q r) : quN jbw f0_s jbv jcy p1 Q := by
  refine qeY (by first | with_reducible assumption | omega | (simp only [qaz, tZ]; first | done | omega)) (by first | with_reducible assumption | omega | (simp only [qaz, tZ]; first | done | omega)) (fun y1 po2 => ?_)
  try simp only [t_0, t_1, qaz, t_2, t_3, t_4, t_6, t_8, qam] at po2
  refine ⟨?_, ?_⟩
  · intro c3
    try simp only [qao, qak, qan, t_0, t_1, qaz, t_2, t_3, t_4, t_6, t_8, qam] at c3
    exact hq _ (by first | with_reducible assumption | omega | (simp only [qaz, tZ]; first | done | omega))
  · intro c4
    try simp only [qao, qak, qan, t_0, t_1, qaz, t_2, t_3, t_4, t_6, t_8, qam] at c4
    intro y5 e6
    have h7 : y5 = p1 := by rw [e6]; exact Int32.zero_add _
    have h8 : y5.toInt = p1.toInt := by rw [h7]
    refine ⟨qa6 (by first | with_reducible assumption | omega | (simp only [qaz, tZ]; first | done | omega)) (by first | with_reducible assumption | omega | (simp only [qaz, tZ]; first | done | omega)), ?_⟩
    intro y9 e10
    have h11 : y9.toInt = (f0_s p1.toNatClampNeg).toInt := by rw [e10, h7]
    try have h12 := qn0 (s := f0_s) (x := p1) (by with_reducible assumption) (by first | with_reducible assumption | omega | (simp only [qaz, tZ]; first | done | omega)) (by first | with_reducible assumption | omega | (simp only [qaz, tZ]; first | done | omega))
    try have h13 := qgw (s := f0_s) (x := p1) (by with_reducible assumption) (by first | with_reducible assumption | omega | (simp only [qaz, tZ]; first | done | omega)) (by first | with_reducible assumption | omega | (simp only [qaz, tZ]; first | done | omega))
    refine qN5 (by first | with_reducible assumption | omega | (simp only [qaz, tZ]; first | done | omega)) (by first | with_reducible assumption | omega | (simp only [qaz, tZ]; first | done | omega)) (by first | with_reducible assumption | omega | (simp only [qaz, tZ]; first | done | omega)) (fun y14 po15 => ?_)
    try simp only [t_0, t_1, qaz, t_2, t_3, t_4, t_6, t_8, qam] at po15
    refine ⟨?_, ?_⟩
    · intro c16
      try simp only [qao, qak, qan, t_0, t_1, qaz, t_2, t_3, t_4, t_6, t_8, qam] at c16
      exact hq _ (by first | with_reducible assumption | omega | (simp only [qaz, tZ]; first | done | omega))
    · intro c17
      try simp only [qao, qak, qan, t_0, t_1, qaz, t_2, t_3, t_4, t_6, t_8, qam] at c17
      intro y18 e19
      try have h20 : (12 + p1).toInt = (12 + p1.toInt) := by rw [qap] <;> (try simp only [t_0, t_1, qaz, t_2, t_3, t_4, t_6, t_8, qam]) <;> omega
      try have h21 : y18.toInt = (12 + p1.toInt) := by rw [e19]; exact h20
      refine ⟨qa6 (by first | with_reducible assumption | omega | (simp only [qaz, tZ]; first | done | omega)) (by first | with_reducible assumption | omega | (simp only [qaz, tZ]; first | done | omega)), ?_⟩
      intro y22 e23
      have h24 : y22.toInt = (f0_s y18.toNatClampNeg).toInt := by rw [e23]
      try have h25 := qn0 (s := f0_s) (x := y18) (by with_reducible assumption) (by first | with_reducible assumption | omega | (simp only [qaz, tZ]; first | done | omega)) (by first | with_reducible assumption | omega | (simp only [qaz, tZ]; first | done | omega))
      try have h26 := qgw (s := f0_s) (x := y18) (by with_reducible assumption) (by first | with_reducible assumption | omega | (simp only [qaz, tZ]; first | done | omega)) (by first | with_reducible assumption | omega | (simp only [qaz, tZ]; first | done | omega))
      refine ⟨?_, ?_⟩
      · intro c27
        try simp only [qao, qak, qan, t_0, t_1, qaz, t_2, t_3, t_4, t_6, t_8, qam] at c27
        exact hq _ (by first | with_reducible assumption | omega | (simp only [qaz, tZ]; first | done | omega))
      · intro c28
        try simp only [qao, qak, qan, t_0, t_1, qaz, t_2, t_3, t_4, t_6, t_8, qam] at c28
        exact hq _ (by first | with_reducible assumption | omega | (simp only [qaz, tZ]; first | done | omega))
theorem qakU {jaC : Int32} {jbw : Int32} {jbv : Nat → Int32} {jcy : Nat → Int32} {jdH : Nat → Int32} {Q : NI → Prop} {K2 : NI → Int32 → Prop} {n : Int32} {g1 : Int32} (a0 : jaC.toInt ≤ 6) (a1 : jbw.toInt ≤ 4) (hq : ∀ (s : NI), (rS jaC n s) → Q s) (hK2 : ∀ (f0_s : NI) (l1 : Int32), (rS jaC n f0_s) → (l1.toInt = g1.toInt + 1) → K2 f0_s l1) : ∀ (k : Nat) (f0_s : NI) (l1 l2 : Int32), (rS jaC n f0_s) → (l1.toInt = g1.toInt) → (0 ≤ l1.toInt) → (l1.toInt < jaC.toInt) → (0 ≤ l2.toInt) → (l2.toInt ≤ 6) → 6 - l2.toInt < (k : Int) → qyH jaC jbw jbv jcy jdH Q K2 k f0_s l1 l2 := by
  intro k
  induction k with
  | zero => intro f0_s l1 l2 i0 i1 i2 i3 i4 i5 i6; omega
  | succ k ih =>
    intro f0_s l1 l2 i0 i1 i2 i3 i4 i5 i6
    refine ⟨?_, ?_⟩
    · intro c1
      try simp only [qao, qak, qan, t_0, t_1, qaz, t_2, t_3, qcc, t_4, t_6, qh4, quh, t_8, qam] at c1
      intro y2 e3
      try have h4 : (l1 + 1).toInt = (l1.toInt + 1) := by rw [qap] <;> (try simp only [t_0, t_1, qaz, t_2, t_3, qcc, t_4, t_6, qh4, quh, t_8, qam]) <;> omega
      try have h5 : y2.toInt = (l1.toInt + 1) := by rw [e3]; exact h4
      exact hK2 _ _ (by first | with_reducible assumption | omega | (simp only [qaz, qcc, qh4, quh, tZ]; first | done | omega)) (by first | with_reducible assumption | omega | (simp only [qaz, qcc, qh4, quh, tZ]; first | done | omega))
    · intro c6
      try simp only [qao, qak, qan, t_0, t_1, qaz, t_2, t_3, qcc, t_4, t_6, qh4, quh, t_8, qam] at c6
      intro y7 e8
      try have h9 : (6 * l1).toInt = (6 * l1.toInt) := by rw [qu8] <;> (try simp only [t_0, t_1, qaz, t_2, t_3, qcc, t_4, t_6, qh4, quh, t_8, qam]) <;> omega
      try have h10 : (30 + (6 * l1)).toInt = (30 + (6 * l1).toInt) := by rw [qap] <;> (try simp only [t_0, t_1, qaz, t_2, t_3, qcc, t_4, t_6, qh4, quh, t_8, qam]) <;> omega
      try have h11 : y7.toInt = (30 + (6 * l1).toInt) := by rw [e8]; exact h10
      intro y12 e13
      try have h14 : (y7 + l2).toInt = (y7.toInt + l2.toInt) := by rw [qap] <;> (try simp only [t_0, t_1, qaz, t_2, t_3, qcc, t_4, t_6, qh4, quh, t_8, qam]) <;> omega
      try have h15 : y12.toInt = (y7.toInt + l2.toInt) := by rw [e13]; exact h14
      refine ⟨qa6 (by first | with_reducible assumption | omega | (simp only [qaz, qcc, qh4, quh, tZ]; first | done | omega)) (by first | with_reducible assumption | omega | (simp only [qaz, qcc, qh4, quh, tZ]; first | done | omega)), ?_⟩
      intro y16 e17
      try have h18 := qul (s := f0_s) (x := y12) (v := 0) (by with_reducible assumption) (by first | with_reducible assumption | omega | (simp only [qaz, qcc, qh4, quh, tZ]; first | done | omega)) (by first | with_reducible assumption | omega | (simp only [qaz, qcc, qh4, quh, tZ]; first | done | omega)) (by first | with_reducible assumption | omega | (simp only [qaz, qcc, qh4, quh, tZ]; first | done | omega))
      try rw [← e17] at h18
      intro y19 e20
      try have h21 : (6 * l2).toInt = (6 * l2.toInt) := by rw [qu8] <;> (try simp only [t_0, t_1, qaz, t_2, t_3, qcc, t_4, t_6, qh4, quh, t_8, qam]) <;> omega
      try have h22 : (30 + (6 * l2)).toInt = (30 + (6 * l2).toInt) := by rw [qap] <;> (try simp only [t_0, t_1, qaz, t_2, t_3, qcc, t_4, t_6, qh4, quh, t_8, qam]) <;> omega
      try have h23 : y19.toInt = (30 + (6 * l2).toInt) := by rw [e20]; exact h22
      intro y24 e25
      try have h26 : (y19 + l1).toInt = (y19.toInt + l1.toInt) := by rw [qap] <;> (try simp only [t_0, t_1, qaz, t_2, t_3, qcc, t_4, t_6, qh4, quh, t_8, qam]) <;> omega
      try have h27 : y24.toInt = (y19.toInt + l1.toInt) := by rw [e25]; exact h26
      refine ⟨qa6 (by first | with_reducible assumption | omega | (simp only [qaz, qcc, qh4, quh, tZ]; first | done | omega)) (by first | with_reducible assumption | omega | (simp only [qaz, qcc, qh4, quh, tZ]; first | done | omega)), ?_⟩
      intro y28 e29
      try have h30 := qul (s := y16) (x := y24) (v := 0) (by with_reducible assumption) (by first | with_reducible assumption | omega | (simp only [qaz, qcc, qh4, quh, tZ]; first | done | omega)) (by first | with_reducible assumption | omega | (simp only [qaz, qcc, qh4, quh, tZ]; first | done | omega)) (by first | with_reducible assumption | omega | (simp only [qaz, qcc, qh4, quh, tZ]; first | done | omega))
      try rw [← e29] at h30
      intro y31 e32
      try have h33 : (l2 + 1).toInt = (l2.toInt + 1) := by rw [qap] <;> (try simp only [t_0, t_1, qaz, t_2, t_3, qcc, t_4, t_6, qh4, quh, t_8, qam]) <;> omega
      try have h34 : y31.toInt = (l2.toInt + 1) := by rw [e32]; exact h33
      exact ih _ _ _ (by first | with_reducible assumption | omega | (simp only [qaz, qcc, qh4, quh, tZ]; first | done | omega)) (by first | with_reducible assumption | omega | (simp only [qaz, qcc, qh4, quh, tZ]; first | done | omega)) (by first | with_reducible assumption | omega | (simp only [qaz, qcc, qh4, quh, tZ]; first | done | omega)) (by first | with_reducible assumption | omega | (simp only [qaz, qcc, qh4, quh, tZ]; first | done | omega)) (by first | with_reducible assumption | omega | (simp only [qaz, qcc, qh4, quh, tZ]; first | done | omega)) (by first | with_reducible assumption | omega | (simp only [qaz, qcc, qh4, quh, tZ]; first | done | omega)) (by first | with_reducible assumption | omega | (simp only [qaz, qcc, qh4, quh, tZ]; first | done | omega))
theorem qatv {jaC : Int32} {jbw : Int32} {jbv : Nat → Int32} {jcy : Nat → Int32} {jdH : Nat → Int32} {Q : NI → Prop} {n : Int32} (a0 : jaC.toInt ≤ 6) (a1 : jbw.toInt ≤ 4) (hq : ∀ (s : NI), (rS jaC n s) → Q s) : ∀ (k : Nat) (f0_s : NI) (l1 : Int32), (rS jaC n f0_s) → (0 ≤ l1.toInt) → (l1.toInt ≤ 6) → 6 - l1.toInt < (k : Int) → qm2 jaC jbw jbv jcy jdH Q k f0_s l1 := by
  intro k
  induction k with
  | zero => intro f0_s l1 i0 i1 i2 i3; omega
  | succ k ih =>
    intro f0_s l1 i0 i1 i2 i3
    refine ⟨?_, ?_⟩
    · intro c35
      try simp only [qao, qak, qan, t_0, t_1, qaz, t_2, t_3, qcc, t_4, t_6, qh4, quh, t_8, qam] at c35
      intro y36 e37
      try have h38 := qul (s := f0_s) (x := (66 : Int32)) (v := 1) (by with_reducible assumption) (by first | with_reducible assumption | omega | (simp only [qaz, qcc, qh4, quh, tZ]; first | done | omega)) (by first | with_reducible assumption | omega | (simp only [qaz, qcc, qh4, quh, tZ]; first | done | omega)) (by first | with_reducible assumption | omega | (simp only [qaz, qcc, qh4, quh, tZ]; first | done | omega))
      try rw [← e37] at h38
      intro y39 e40
      have h41 : y39.toInt = (y36 (67 : Int32).toNatClampNeg).toInt := by rw [e40]
      try have h42 := qn0 (s := y36) (x := (67 : Int32)) (by with_reducible assumption) (by first | with_reducible assumption | omega | (simp only [qaz, qcc, qh4, quh, tZ]; first | done | omega)) (by first | with_reducible assumption | omega | (simp only [qaz, qcc, qh4, quh, tZ]; first | done | omega))
      try have h43 := qgw (s := y36) (x := (67 : Int32)) (by with_reducible assumption) (by first | with_reducible assumption | omega | (simp only [qaz, qcc, qh4, quh, tZ]; first | done | omega)) (by first | with_reducible assumption | omega | (simp only [qaz, qcc, qh4, quh, tZ]; first | done | omega))
      intro y44 e45
      try have h46 : (y39 + 1).toInt = (y39.toInt + 1) := by rw [qap] <;> (try simp only [t_0, t_1, qaz, t_2, t_3, qcc, t_4, t_6, qh4, quh, t_8, qam]) <;> omega
      try have h47 : y44.toInt = (y39.toInt + 1) := by rw [e45]; exact h46
      intro y48 e49
      try have h50 := qul (s := y36) (x := (67 : Int32)) (v := y44) (by with_reducible assumption) (by first | with_reducible assumption | omega | (simp only [qaz, qcc, qh4, quh, tZ]; first | done | omega)) (by first | with_reducible assumption | omega | (simp only [qaz, qcc, qh4, quh, tZ]; first | done | omega)) (by first | with_reducible assumption | omega | (simp only [qaz, qcc, qh4, quh, tZ]; first | done | omega))
      try rw [← e49] at h50
      exact hq _ (by first | with_reducible assumption | omega | (simp only [qaz, qcc, qh4, quh, tZ]; first | done | omega))
    · intro c51
      try simp only [qao, qak, qan, t_0, t_1, qaz, t_2, t_3, qcc, t_4, t_6, qh4, quh, t_8, qam] at c51
      refine qNG (by first | with_reducible assumption | omega | (simp only [qaz, qcc, qh4, quh, tZ]; first | done | omega)) (by first | with_reducible assumption | omega | (simp only [qaz, qcc, qh4, quh, tZ]; first | done | omega)) (by first | with_reducible assumption | omega | (simp only [qaz, qcc, qh4, quh, tZ]; first | done | omega)) (by first | with_reducible assumption | omega | (simp only [qaz, qcc, qh4, quh, tZ]; first | done | omega)) (by first | with_reducible assumption | omega | (simp only [qaz, qcc, qh4, quh, tZ]; first | done | omega)) (fun y52 po53 => ?_)
      try simp only [t_0, t_1, qaz, t_2, t_3, qcc, t_4, t_6, qh4, quh, t_8, qam] at po53
      refine ⟨?_, ?_⟩
      · intro c54
        try simp only [qao, qak, qan, t_0, t_1, qaz, t_2, t_3, qcc, t_4, t_6, qh4, quh, t_8, qam] at c54
        refine qeY (by first | with_reducible assumption | omega | (simp only [qaz, qcc, qh4, quh, tZ]; first | done | omega)) (by first | with_reducible assumption | omega | (simp only [qaz, qcc, qh4, quh, tZ]; first | done | omega)) (fun y55 po56 => ?_)
        try simp only [t_0, t_1, qaz, t_2, t_3, qcc, t_4, t_6, qh4, quh, t_8, qam] at po56
        refine ⟨?_, ?_⟩
        · intro c57
          try simp only [qao, qak, qan, t_0, t_1, qaz, t_2, t_3, qcc, t_4, t_6, qh4, quh, t_8, qam] at c57
          intro y58 e59
          try have h60 : (l1 + 1).toInt = (l1.toInt + 1) := by rw [qap] <;> (try simp only [t_0, t_1, qaz, t_2, t_3, qcc, t_4, t_6, qh4, quh, t_8, qam]) <;> omega
          try have h61 : y58.toInt = (l1.toInt + 1) := by rw [e59]; exact h60
          exact ih _ _ (by first | with_reducible assumption | omega | (simp only [qaz, qcc, qh4, quh, tZ]; first | done | omega)) (by first | with_reducible assumption | omega | (simp only [qaz, qcc, qh4, quh, tZ]; first | done | omega)) (by first | with_reducible assumption | omega | (simp only [qaz, qcc, qh4, quh, tZ]; first | done | omega)) (by first | with_reducible assumption | omega | (simp only [qaz, qcc, qh4, quh, tZ]; first | done | omega))
        · intro c62
          try simp only [qao, qak, qan, t_0, t_1, qaz, t_2, t_3, qcc, t_4, t_6, qh4, quh, t_8, qam] at c62
          intro y63 e64
          try have h65 : (6 + l1).toInt = (6 + l1.toInt) := by rw [qap] <;> (try simp only [t_0, t_1, qaz, t_2, t_3, qcc, t_4, t_6, qh4, quh, t_8, qam]) <;> omega
          try have h66 : y63.toInt = (6 + l1.toInt) := by rw [e64]; exact h65
          intro y67 e68
          try have h69 : (2 * l1).toInt = (2 * l1.toInt) := by rw [qu8] <;> (try simp only [t_0, t_1, qaz, t_2, t_3, qcc, t_4, t_6, qh4, quh, t_8, qam]) <;> omega
          try have h70 : y67.toInt = (2 * l1.toInt) := by rw [e68]; exact h69
          intro y71 e72
          try have h73 : (y67 + 1).toInt = (y67.toInt + 1) := by rw [qap] <;> (try simp only [t_0, t_1, qaz, t_2, t_3, qcc, t_4, t_6, qh4, quh, t_8, qam]) <;> omega
          try have h74 : y71.toInt = (y67.toInt + 1) := by rw [e72]; exact h73
          refine ⟨qa6 (by first | with_reducible assumption | omega | (simp only [qaz, qcc, qh4, quh, tZ]; first | done | omega)) (by first | with_reducible assumption | omega | (simp only [qaz, qcc, qh4, quh, tZ]; first | done | omega)), ?_⟩
          intro y75 e76
          have h77 : y75.toInt = (jdH y71.toNatClampNeg).toInt := by rw [e76]
          refine ⟨qa6 (by first | with_reducible assumption | omega | (simp only [qaz, qcc, qh4, quh, tZ]; first | done | omega)) (by first | with_reducible assumption | omega | (simp only [qaz, qcc, qh4, quh, tZ]; first | done | omega)), ?_⟩
          intro y78 e79
          try have h80 := qul (s := f0_s) (x := y63) (v := y75) (by with_reducible assumption) (by first | with_reducible assumption | omega | (simp only [qaz, qcc, qh4, quh, tZ]; first | done | omega)) (by first | with_reducible assumption | omega | (simp only [qaz, qcc, qh4, quh, tZ]; first | done | omega)) (by first | with_reducible assumption | omega | (simp only [qaz, qcc, qh4, quh, tZ]; first | done | omega))
          try rw [← e79] at h80
          intro y81 e82
          try have h83 : (12 + l1).toInt = (12 + l1.toInt) := by rw [qap] <;> (try simp only [t_0, t_1, qaz, t_2, t_3, qcc, t_4, t_6, qh4, quh, t_8, qam]) <;> omega
          try have h84 : y81.toInt = (12 + l1.toInt) := by rw [e82]; exact h83
          refine ⟨qa6 (by first | with_reducible assumption | omega | (simp only [qaz, qcc, qh4, quh, tZ]; first | done | omega)) (by first | with_reducible assumption | omega | (simp only [qaz, qcc, qh4, quh, tZ]; first | done | omega)), ?_⟩
          intro y85 e86
          try have h87 := qul (s := y78) (x := y81) (v := 0) (by with_reducible assumption) (by first | with_reducible assumption | omega | (simp only [qaz, qcc, qh4, quh, tZ]; first | done | omega)) (by first | with_reducible assumption | omega | (simp only [qaz, qcc, qh4, quh, tZ]; first | done | omega)) (by first | with_reducible assumption | omega | (simp only [qaz, qcc, qh4, quh, tZ]; first | done | omega))
          try rw [← e86] at h87
          intro y88 e89
          try have h90 : (l1 + 1).toInt = (l1.toInt + 1) := by rw [qap] <;> (try simp only [t_0, t_1, qaz, t_2, t_3, qcc, t_4, t_6, qh4, quh, t_8, qam]) <;> omega
          try have h91 : y88.toInt = (l1.toInt + 1) := by rw [e89]; exact h90
          exact ih _ _ (by first | with_reducible assumption | omega | (simp only [qaz, qcc, qh4, quh, tZ]; first | done | omega)) (by first | with_reducible assumption | omega | (simp only [qaz, qcc, qh4, quh, tZ]; first | done | omega)) (by first | with_reducible assumption | omega | (simp only [qaz, qcc, qh4, quh, tZ]; first | done | omega)) (by first | with_reducible assumption | omega | (simp only [qaz, qcc, qh4, quh, tZ]; first | done | omega))
      · intro c92
        try simp only [qao, qak, qan, t_0, t_1, qaz, t_2, t_3, qcc, t_4, t_6, qh4, quh, t_8, qam] at c92
        intro y93 e94
        have h95 : y93 = l1 := by rw [e94]; exact Int32.zero_add _
        have h96 : y93.toInt = l1.toInt := by rw [h95]
        refine ⟨qa6 (by first | with_reducible assumption | omega | (simp only [qaz, qcc, qh4, quh, tZ]; first | done | omega)) (by first | with_reducible assumption | omega | (simp only [qaz, qcc, qh4, quh, tZ]; first | done | omega)), ?_⟩
        intro y97 e98
        try have h99 := qul (s := f0_s) (x := l1) (v := (-1)) (by with_reducible assumption) (by first | with_reducible assumption | omega | (simp only [qaz, qcc, qh4, quh, tZ]; first | done | omega)) (by first | with_reducible assumption | omega | (simp only [qaz, qcc, qh4, quh, tZ]; first | done | omega)) (by first | with_reducible assumption | omega | (simp only [qaz, qcc, qh4, quh, tZ]; first | done | omega))
        try rw [← h95, ← e98] at h99
        refine ⟨7, qakU (g1 := l1) (by first | with_reducible assumption | omega | (simp only [qaz, qcc, qh4, quh, tZ]; first | done | omega)) (by first | with_reducible assumption | omega | (simp only [qaz, qcc, qh4, quh, tZ]; first | done | omega)) hq (fun y100 y101 po102 po103 => ?_) 7 _ _ _ (by first | with_reducible assumption | omega | (simp only [qaz, qcc, qh4, quh, tZ]; first | done | omega)) (by first | with_reducible assumption | omega | (simp only [qaz, qcc, qh4, quh, tZ]; first | done | omega)) (by first | with_reducible assumption | omega | (simp only [qaz, qcc, qh4, quh, tZ]; first | done | omega)) (by first | with_reducible assumption | omega | (simp only [qaz, qcc, qh4, quh, tZ]; first | done | omega)) (by first | with_reducible assumption | omega | (simp only [qaz, qcc, qh4, quh, tZ]; first | done | omega)) (by first | with_reducible assumption | omega | (simp only [qaz, qcc, qh4, quh, tZ]; first | done | omega)) (by first | with_reducible assumption | omega | (simp only [qaz, qcc, qh4, quh, tZ]; first | done | omega))⟩
        exact ih _ _ (by first | with_reducible assumption | omega | (simp only [qaz, qcc, qh4, quh, tZ]; first | done | omega)) (by first | with_reducible assumption | omega | (simp only [qaz, qcc, qh4, quh, tZ]; first | done | omega)) (by first | with_reducible assumption | omega | (simp only [qaz, qcc, qh4, quh, tZ]; first | done | omega)) (by first | with_reducible assumption | omega | (simp only [qaz, qcc, qh4, quh, tZ]; first | done | omega))
theorem qaJX {jaC : Int32} {jbw : Int32} {jbv : Nat → Int32} {jcy : Nat → Int32} {jdH : Nat → Int32} {f0_s : Nat → Int32} {Q : NI → Prop} {n : Int32} (a0 : rS jaC n f0_s) (a1 : jaC.toInt ≤ 6) (a2 : jbw.toInt ≤ 4) (hq : ∀ (s : NI), (rS jaC n s) → Q s) : qKJ jaC jbw jbv jcy jdH f0_s Q := by
  refine ⟨7, qatv (by first | with_reducible assumption | omega | (simp only [qaz, qcc, qh4, quh, tZ]; first | done | omega)) (by first | with_reducible assumption | omega | (simp only [qaz, qcc, qh4, quh, tZ]; first | done | omega)) hq 7 _ _ (by first | with_reducible assumption | omega | (simp only [qaz, qcc, qh4, quh, tZ]; first | done | omega)) (by first | with_reducible assumption | omega | (simp only [qaz, qcc, qh4, quh, tZ]; first | done | omega)) (by first | with_reducible assumption | omega | (simp only [qaz, qcc, qh4, quh, tZ]; first | done | omega)) (by first | with_reducible assumption | omega | (simp only [qaz, qcc, qh4, quh, tZ]; first | done | omega))⟩
theorem qZF {jaC : Int32} {jbw : Int32} {jbv : Nat → Int32} {jcy : Nat → Int32} {jdH : Nat → Int32} {Q : NI → Prop} {n : Int32} (a0 : jaC.toInt ≤ 6) (a1 : jbw.toInt ≤ 4) (hq : ∀ (s : NI), (rS jaC n s) → Q s) : ∀ (k : Nat) (f0_s : NI) (l1 : Int32), (rS jaC n f0_s) → (0 ≤ l1.toInt) → (l1.toInt ≤ 6) → 6 - l1.toInt < (k : Int) → qAj jaC jbw jbv jcy jdH Q k f0_s l1 := by
  intro k
  induction k with
  | zero => intro f0_s l1 i0 i1 i2 i3; omega
  | succ k ih =>
    intro f0_s l1 i0 i1 i2 i3
    refine ⟨?_, ?_⟩
    · intro c1
      try simp only [qao, qak, qan, t_0, t_1, qaz, t_2, qbz, t_3, qal, t_4, t_6, qh4, t_8, qam] at c1
      exact hq _ (by first | with_reducible assumption | omega | (simp only [qaz, qbz, qal, qh4, tZ]; first | done | omega))
    · intro c2
      try simp only [qao, qak, qan, t_0, t_1, qaz, t_2, qbz, t_3, qal, t_4, t_6, qh4, t_8, qam] at c2
      intro y3 e4
      try have h5 : (24 + l1).toInt = (24 + l1.toInt) := by rw [qap] <;> (try simp only [t_0, t_1, qaz, t_2, qbz, t_3, qal, t_4, t_6, qh4, t_8, qam]) <;> omega
      try have h6 : y3.toInt = (24 + l1.toInt) := by rw [e4]; exact h5
      refine ⟨qa6 (by first | with_reducible assumption | omega | (simp only [qaz, qbz, qal, qh4, tZ]; first | done | omega)) (by first | with_reducible assumption | omega | (simp only [qaz, qbz, qal, qh4, tZ]; first | done | omega)), ?_⟩
      intro y7 e8
      try have h9 := qul (s := f0_s) (x := y3) (v := 0) (by with_reducible assumption) (by first | with_reducible assumption | omega | (simp only [qaz, qbz, qal, qh4, tZ]; first | done | omega)) (by first | with_reducible assumption | omega | (simp only [qaz, qbz, qal, qh4, tZ]; first | done | omega)) (by first | with_reducible assumption | omega | (simp only [qaz, qbz, qal, qh4, tZ]; first | done | omega))
      try rw [← e8] at h9
      intro y10 e11
      try have h12 : (l1 + 1).toInt = (l1.toInt + 1) := by rw [qap] <;> (try simp only [t_0, t_1, qaz, t_2, qbz, t_3, qal, t_4, t_6, qh4, t_8, qam]) <;> omega
      try have h13 : y10.toInt = (l1.toInt + 1) := by rw [e11]; exact h12
      exact ih _ _ (by first | with_reducible assumption | omega | (simp only [qaz, qbz, qal, qh4, tZ]; first | done | omega)) (by first | with_reducible assumption | omega | (simp only [qaz, qbz, qal, qh4, tZ]; first | done | omega)) (by first | with_reducible assumption | omega | (simp only [qaz, qbz, qal, qh4, tZ]; first | done | omega)) (by first | with_reducible assumption | omega | (simp only [qaz, qbz, qal, qh4, tZ]; first | done | omega))
theorem qayj {jaC : Int32} {jbw : Int32} {jbv : Nat → Int32} {jcy : Nat → Int32} {jdH : Nat → Int32} {Q : NI → Prop} {n : Int32} (a0 : jaC.toInt ≤ 6) (a1 : jbw.toInt ≤ 4) (hq : ∀ (s : NI), (rS jaC n s) → Q s) : ∀ (k : Nat) (f0_s : NI) (l1 : Int32), (rS jaC n f0_s) → (0 ≤ l1.toInt) → (l1.toInt ≤ 6) → 6 - l1.toInt < (k : Int) → qpd jaC jbw jbv jcy jdH Q k f0_s l1 := by
  intro k
  induction k with
  | zero => intro f0_s l1 i0 i1 i2 i3; omega
  | succ k ih =>
    intro f0_s l1 i0 i1 i2 i3
    refine ⟨?_, ?_⟩
    · intro c14
      try simp only [qao, qak, qan, t_0, t_1, qaz, t_2, qbz, t_3, qal, t_4, t_6, qh4, t_8, qam] at c14
      intro y15 e16
      have h17 : y15.toInt = (f0_s (66 : Int32).toNatClampNeg).toInt := by rw [e16]
      try have h18 := qn0 (s := f0_s) (x := (66 : Int32)) (by with_reducible assumption) (by first | with_reducible assumption | omega | (simp only [qaz, qbz, qal, qh4, tZ]; first | done | omega)) (by first | with_reducible assumption | omega | (simp only [qaz, qbz, qal, qh4, tZ]; first | done | omega))
      try have h19 := qgw (s := f0_s) (x := (66 : Int32)) (by with_reducible assumption) (by first | with_reducible assumption | omega | (simp only [qaz, qbz, qal, qh4, tZ]; first | done | omega)) (by first | with_reducible assumption | omega | (simp only [qaz, qbz, qal, qh4, tZ]; first | done | omega))
      intro y20 e21
      try have h22 : (y15 + 1).toInt = (y15.toInt + 1) := by rw [qap] <;> (try simp only [t_0, t_1, qaz, t_2, qbz, t_3, qal, t_4, t_6, qh4, t_8, qam]) <;> omega
      try have h23 : y20.toInt = (y15.toInt + 1) := by rw [e21]; exact h22
      intro y24 e25
      try have h26 := qul (s := f0_s) (x := (66 : Int32)) (v := y20) (by with_reducible assumption) (by first | with_reducible assumption | omega | (simp only [qaz, qbz, qal, qh4, tZ]; first | done | omega)) (by first | with_reducible assumption | omega | (simp only [qaz, qbz, qal, qh4, tZ]; first | done | omega)) (by first | with_reducible assumption | omega | (simp only [qaz, qbz, qal, qh4, tZ]; first | done | omega))
      try rw [← e25] at h26
      intro y27 e28
      have h29 : y27.toInt = (y24 (66 : Int32).toNatClampNeg).toInt := by rw [e28]
      try have h30 := qn0 (s := y24) (x := (66 : Int32)) (by with_reducible assumption) (by first | with_reducible assumption | omega | (simp only [qaz, qbz, qal, qh4, tZ]; first | done | omega)) (by first | with_reducible assumption | omega | (simp only [qaz, qbz, qal, qh4, tZ]; first | done | omega))
      try have h31 := qgw (s := y24) (x := (66 : Int32)) (by with_reducible assumption) (by first | with_reducible assumption | omega | (simp only [qaz, qbz, qal, qh4, tZ]; first | done | omega)) (by first | with_reducible assumption | omega | (simp only [qaz, qbz, qal, qh4, tZ]; first | done | omega))
      refine ⟨?_, ?_⟩
      · intro c32
        try simp only [qao, qak, qan, t_0, t_1, qaz, t_2, qbz, t_3, qal, t_4, t_6, qh4, t_8, qam] at c32
        refine ⟨7, qZF (by first | with_reducible assumption | omega | (simp only [qaz, qbz, qal, qh4, tZ]; first | done | omega)) (by first | with_reducible assumption | omega | (simp only [qaz, qbz, qal, qh4, tZ]; first | done | omega)) hq 7 _ _ (by first | with_reducible assumption | omega | (simp only [qaz, qbz, qal, qh4, tZ]; first | done | omega)) (by first | with_reducible assumption | omega | (simp only [qaz, qbz, qal, qh4, tZ]; first | done | omega)) (by first | with_reducible assumption | omega | (simp only [qaz, qbz, qal, qh4, tZ]; first | done | omega)) (by first | with_reducible assumption | omega | (simp only [qaz, qbz, qal, qh4, tZ]; first | done | omega))⟩
      · intro c33
        try simp only [qao, qak, qan, t_0, t_1, qaz, t_2, qbz, t_3, qal, t_4, t_6, qh4, t_8, qam] at c33
        refine qaJX (by first | with_reducible assumption | omega | (simp only [qaz, qbz, qal, qh4, tZ]; first | done | omega)) (by first | with_reducible assumption | omega | (simp only [qaz, qbz, qal, qh4, tZ]; first | done | omega)) (by first | with_reducible assumption | omega | (simp only [qaz, qbz, qal, qh4, tZ]; first | done | omega)) (fun y34 po35 => ?_)
        refine ⟨7, qZF (by first | with_reducible assumption | omega | (simp only [qaz, qbz, qal, qh4, tZ]; first | done | omega)) (by first | with_reducible assumption | omega | (simp only [qaz, qbz, qal, qh4, tZ]; first | done | omega)) hq 7 _ _ (by first | with_reducible assumption | omega | (simp only [qaz, qbz, qal, qh4, tZ]; first | done | omega)) (by first | with_reducible assumption | omega | (simp only [qaz, qbz, qal, qh4, tZ]; first | done | omega)) (by first | with_reducible assumption | omega | (simp only [qaz, qbz, qal, qh4, tZ]; first | done | omega)) (by first | with_reducible assumption | omega | (simp only [qaz, qbz, qal, qh4, tZ]; first | done | omega))⟩
    · intro c36
      try simp only [qao, qak, qan, t_0, t_1, qaz, t_2, qbz, t_3, qal, t_4, t_6, qh4, t_8, qam] at c36
      refine qeY (by first | with_reducible assumption | omega | (simp only [qaz, qbz, qal, qh4, tZ]; first | done | omega)) (by first | with_reducible assumption | omega | (simp only [qaz, qbz, qal, qh4, tZ]; first | done | omega)) (fun y37 po38 => ?_)
      try simp only [t_0, t_1, qaz, t_2, qbz, t_3, qal, t_4, t_6, qh4, t_8, qam] at po38
      refine ⟨?_, ?_⟩
      · intro c39
        try simp only [qao, qak, qan, t_0, t_1, qaz, t_2, qbz, t_3, qal, t_4, t_6, qh4, t_8, qam] at c39
        intro y40 e41
        try have h42 : (l1 + 1).toInt = (l1.toInt + 1) := by rw [qap] <;> (try simp only [t_0, t_1, qaz, t_2, qbz, t_3, qal, t_4, t_6, qh4, t_8, qam]) <;> omega
        try have h43 : y40.toInt = (l1.toInt + 1) := by rw [e41]; exact h42
        exact ih _ _ (by first | with_reducible assumption | omega | (simp only [qaz, qbz, qal, qh4, tZ]; first | done | omega)) (by first | with_reducible assumption | omega | (simp only [qaz, qbz, qal, qh4, tZ]; first | done | omega)) (by first | with_reducible assumption | omega | (simp only [qaz, qbz, qal, qh4, tZ]; first | done | omega)) (by first | with_reducible assumption | omega | (simp only [qaz, qbz, qal, qh4, tZ]; first | done | omega))
      · intro c44
        try simp only [qao, qak, qan, t_0, t_1, qaz, t_2, qbz, t_3, qal, t_4, t_6, qh4, t_8, qam] at c44
        intro y45 e46
        try have h47 : (24 + l1).toInt = (24 + l1.toInt) := by rw [qap] <;> (try simp only [t_0, t_1, qaz, t_2, qbz, t_3, qal, t_4, t_6, qh4, t_8, qam]) <;> omega
        try have h48 : y45.toInt = (24 + l1.toInt) := by rw [e46]; exact h47
        refine ⟨qa6 (by first | with_reducible assumption | omega | (simp only [qaz, qbz, qal, qh4, tZ]; first | done | omega)) (by first | with_reducible assumption | omega | (simp only [qaz, qbz, qal, qh4, tZ]; first | done | omega)), ?_⟩
        intro y49 e50
        have h51 : y49.toInt = (f0_s y45.toNatClampNeg).toInt := by rw [e50]
        try have h52 := qn0 (s := f0_s) (x := y45) (by with_reducible assumption) (by first | with_reducible assumption | omega | (simp only [qaz, qbz, qal, qh4, tZ]; first | done | omega)) (by first | with_reducible assumption | omega | (simp only [qaz, qbz, qal, qh4, tZ]; first | done | omega))
        try have h53 := qgw (s := f0_s) (x := y45) (by with_reducible assumption) (by first | with_reducible assumption | omega | (simp only [qaz, qbz, qal, qh4, tZ]; first | done | omega)) (by first | with_reducible assumption | omega | (simp only [qaz, qbz, qal, qh4, tZ]; first | done | omega))
        refine ⟨?_, ?_⟩
        · intro c54
          try simp only [qao, qak, qan, t_0, t_1, qaz, t_2, qbz, t_3, qal, t_4, t_6, qh4, t_8, qam] at c54
          intro y55 e56
          try have h57 : (l1 + 1).toInt = (l1.toInt + 1) := by rw [qap] <;> (try simp only [t_0, t_1, qaz, t_2, qbz, t_3, qal, t_4, t_6, qh4, t_8, qam]) <;> omega
          try have h58 : y55.toInt = (l1.toInt + 1) := by rw [e56]; exact h57
          exact ih _ _ (by first | with_reducible assumption | omega | (simp only [qaz, qbz, qal, qh4, tZ]; first | done | omega)) (by first | with_reducible assumption | omega | (simp only [qaz, qbz, qal, qh4, tZ]; first | done | omega)) (by first | with_reducible assumption | omega | (simp only [qaz, qbz, qal, qh4, tZ]; first | done | omega)) (by first | with_reducible assumption | omega | (simp only [qaz, qbz, qal, qh4, tZ]; first | done | omega))
        · intro c59
          try simp only [qao, qak, qan, t_0, t_1, qaz, t_2, qbz, t_3, qal, t_4, t_6, qh4, t_8, qam] at c59
          intro y60 e61
          try have h62 : (12 + l1).toInt = (12 + l1.toInt) := by rw [qap] <;> (try simp only [t_0, t_1, qaz, t_2, qbz, t_3, qal, t_4, t_6, qh4, t_8, qam]) <;> omega
          try have h63 : y60.toInt = (12 + l1.toInt) := by rw [e61]; exact h62
          refine ⟨qa6 (by first | with_reducible assumption | omega | (simp only [qaz, qbz, qal, qh4, tZ]; first | done | omega)) (by first | with_reducible assumption | omega | (simp only [qaz, qbz, qal, qh4, tZ]; first | done | omega)), ?_⟩
          intro y64 e65
          have h66 : y64.toInt = (f0_s y60.toNatClampNeg).toInt := by rw [e65]
          try have h67 := qn0 (s := f0_s) (x := y60) (by with_reducible assumption) (by first | with_reducible assumption | omega | (simp only [qaz, qbz, qal, qh4, tZ]; first | done | omega)) (by first | with_reducible assumption | omega | (simp only [qaz, qbz, qal, qh4, tZ]; first | done | omega))
          try have h68 := qgw (s := f0_s) (x := y60) (by with_reducible assumption) (by first | with_reducible assumption | omega | (simp only [qaz, qbz, qal, qh4, tZ]; first | done | omega)) (by first | with_reducible assumption | omega | (simp only [qaz, qbz, qal, qh4, tZ]; first | done | omega))
          intro y69 e70
          try have h71 : (y64 + 1).toInt = (y64.toInt + 1) := by rw [qap] <;> (try simp only [t_0, t_1, qaz, t_2, qbz, t_3, qal, t_4, t_6, qh4, t_8, qam]) <;> omega
          try have h72 : y69.toInt = (y64.toInt + 1) := by rw [e70]; exact h71
          refine ⟨qa6 (by first | with_reducible assumption | omega | (simp only [qaz, qbz, qal, qh4, tZ]; first | done | omega)) (by first | with_reducible assumption | omega | (simp only [qaz, qbz, qal, qh4, tZ]; first | done | omega)), ?_⟩
          intro y73 e74
          try have h75 := qul (s := f0_s) (x := y60) (v := y69) (by with_reducible assumption) (by first | with_reducible assumption | omega | (simp only [qaz, qbz, qal, qh4, tZ]; first | done | omega)) (by first | with_reducible assumption | omega | (simp only [qaz, qbz, qal, qh4, tZ]; first | done | omega)) (by first | with_reducible assumption | omega | (simp only [qaz, qbz, qal, qh4, tZ]; first | done | omega))
          try rw [← e74] at h75
          intro y76 e77
          try have h78 : (l1 + 1).toInt = (l1.toInt + 1) := by rw [qap] <;> (try simp only [t_0, t_1, qaz, t_2, qbz, t_3, qal, t_4, t_6, qh4, t_8, qam]) <;> omega
          try have h79 : y76.toInt = (l1.toInt + 1) := by rw [e77]; exact h78
          exact ih _ _ (by first | with_reducible assumption | omega | (simp only [qaz, qbz, qal, qh4, tZ]; first | done | omega)) (by first | with_reducible assumption | omega | (simp only [qaz, qbz, qal, qh4, tZ]; first | done | omega)) (by first | with_reducible assumption | omega | (simp only [qaz, qbz, qal, qh4, tZ]; first | done | omega)) (by first | with_reducible assumption | omega | (simp only [qaz, qbz, qal, qh4, tZ]; first | done | omega))
theorem qNU {jaC : Int32} {jbw : Int32} {jbv : Nat → Int32} {jcy : Nat → Int32} {jdH : Nat → Int32} {f0_s : Nat → Int32} {Q : NI → Prop} {n : Int32} (a0 : rS jaC n f0_s) (a1 : jaC.toInt ≤ 6) (a2 : jbw.toInt ≤ 4) (hq : ∀ (s : NI), (rS jaC n s) → Q s) : qCW jaC jbw jbv jcy jdH f0_s Q := by
  refine ⟨7, qayj (by first | with_reducible assumption | omega | (simp only [qaz, qbz, qal, qh4, tZ]; first | done | omega)) (by first | with_reducible assumption | omega | (simp only [qaz, qbz, qal, qh4, tZ]; first | done | omega)) hq 7 _ _ (by first | with_reducible assumption | omega | (simp only [qaz, qbz, qal, qh4, tZ]; first | done | omega)) (by first | with_reducible assumption | omega | (simp only [qaz, qbz, qal, qh4, tZ]; first | done | omega)) (by first | with_reducible assumption | omega | (simp only [qaz, qbz, qal, qh4, tZ]; first | done | omega)) (by first | with_reducible assumption | omega | (simp only [qaz, qbz, qal, qh4, tZ]; first | done | omega))⟩
theorem qaeI {jaC : Int32} {f0_s : Nat → Int32} {Q : Int32 → Prop} (a0 : jaC.toInt ≤ 6) (hq : ∀ (r : Int32), Q r) : ∀ (k : Nat) (l1 l2 : Int32), (0 ≤ l2.toInt) → (l2.toInt ≤ 6) → 6 - l2.toInt < (k : Int) → qrU jaC f0_s Q k l1 l2 := by
  intro k
  induction k with
  | zero => intro l1 l2 i0 i1 i2; omega
  | succ k ih =>
    intro l1 l2 i0 i1 i2
    refine ⟨?_, ?_⟩
    · intro c1
      try simp only [qao, qak, qan, tY] at c1
      exact hq _
    · intro c2
      try simp only [qao, qak, qan, tY] at c2
      refine qeY (by first | with_reducible assumption | omega | (simp only [tZ]; first | done | omega)) (by first | with_reducible assumption | omega | (simp only [tZ]; first | done | omega)) (fun y3 po4 => ?_)
      try simp only [tY] at po4
      refine ⟨?_, ?_⟩
      · intro c5
        try simp only [qao, qak, qan, tY] at c5
        intro y6 e7
        try have h8 := qMY (a := l1) (b := 0) (by first | with_reducible assumption | omega | (simp only [tZ]; first | done | omega)) (by first | with_reducible assumption | omega | (simp only [tZ]; first | done | omega)) (by first | with_reducible assumption | omega | (simp only [tZ]; first | done | omega))
        have h9 : y6.toInt = (l1 ||| 0).toInt := by rw [e7]
        intro y10 e11
        try have h12 : (l2 + 1).toInt = (l2.toInt + 1) := by rw [qap] <;> (try simp only [tY]) <;> omega
        try have h13 : y10.toInt = (l2.toInt + 1) := by rw [e11]; exact h12
        exact ih _ _ (by first | with_reducible assumption | omega | (simp only [tZ]; first | done | omega)) (by first | with_reducible assumption | omega | (simp only [tZ]; first | done | omega)) (by first | with_reducible assumption | omega | (simp only [tZ]; first | done | omega))
      · intro c14
        try simp only [qao, qak, qan, tY] at c14
        intro y15 e16
        try have h17 := qN0 (x := l2) (by first | with_reducible assumption | omega | (simp only [tZ]; first | done | omega)) (by first | with_reducible assumption | omega | (simp only [tZ]; first | done | omega))
        try have h18 := qMY (a := l1) (b := (1 <<< (l2 &&& 31))) (by first | with_reducible assumption | omega | (simp only [tZ]; first | done | omega)) (by first | with_reducible assumption | omega | (simp only [tZ]; first | done | omega)) (by first | with_reducible assumption | omega | (simp only [tZ]; first | done | omega))
        have h19 : y15.toInt = (l1 ||| (1 <<< (l2 &&& 31))).toInt := by rw [e16]
        intro y20 e21
        try have h22 : (l2 + 1).toInt = (l2.toInt + 1) := by rw [qap] <;> (try simp only [tY]) <;> omega
        try have h23 : y20.toInt = (l2.toInt + 1) := by rw [e21]; exact h22
        exact ih _ _ (by first | with_reducible assumption | omega | (simp only [tZ]; first | done | omega)) (by first | with_reducible assumption | omega | (simp only [tZ]; first | done | omega)) (by first | with_reducible assumption | omega | (simp only [tZ]; first | done | omega))
theorem qwr {jaC : Int32} {f0_s : Nat → Int32} {Q : Int32 → Prop} (a0 : jaC.toInt ≤ 6) (hq : ∀ (r : Int32), Q r) : qwp jaC f0_s Q := by
  refine ⟨7, qaeI (by first | with_reducible assumption | omega | (simp only [tZ]; first | done | omega)) hq 7 _ _ (by first | with_reducible assumption | omega | (simp only [tZ]; first | done | omega)) (by first | with_reducible assumption | omega | (simp only [tZ]; first | done | omega)) (by first | with_reducible assumption | omega | (simp only [tZ]; first | done | omega))⟩
theorem qakR {f0_s : Nat → Int32} {Q : Int32 → Prop} (hq : ∀ (r : Int32), Q r) : ∀ (k : Nat) (l1 l2 : Int32), (0 ≤ l2.toInt) → (l2.toInt ≤ 36) → 36 - l2.toInt < (k : Int) → qCz f0_s Q k l1 l2 := by
  intro k
  induction k with
  | zero => intro l1 l2 i0 i1 i2; omega
  | succ k ih =>
    intro l1 l2 i0 i1 i2
    refine ⟨?_, ?_⟩
    · intro c1
      try simp only [qao, qak, qan, t_0, t_1, t_2, t_3, qcc, qSF, t_4, t_6, t_8, qam] at c1
      exact hq _
    · intro c2
      try simp only [qao, qak, qan, t_0, t_1, t_2, t_3, qcc, qSF, t_4, t_6, t_8, qam] at c2
      intro y3 e4
      try have h5 : (30 + l2).toInt = (30 + l2.toInt) := by rw [qap] <;> (try simp only [t_0, t_1, t_2, t_3, qcc, qSF, t_4, t_6, t_8, qam]) <;> omega
      try have h6 : y3.toInt = (30 + l2.toInt) := by rw [e4]; exact h5
      refine ⟨qa6 (by first | with_reducible assumption | omega | (simp only [qcc, qSF, tZ]; first | done | omega)) (by first | with_reducible assumption | omega | (simp only [qcc, qSF, tZ]; first | done | omega)), ?_⟩
      intro y7 e8
      have h9 : y7.toInt = (f0_s y3.toNatClampNeg).toInt := by rw [e8]
      try have h10 := qn0 (s := f0_s) (x := y3) (by with_reducible assumption) (by first | with_reducible assumption | omega | (simp only [qcc, qSF, tZ]; first | done | omega)) (by first | with_reducible assumption | omega | (simp only [qcc, qSF, tZ]; first | done | omega))
      try have h11 := qgw (s := f0_s) (x := y3) (by with_reducible assumption) (by first | with_reducible assumption | omega | (simp only [qcc, qSF, tZ]; first | done | omega)) (by first | with_reducible assumption | omega | (simp only [qcc, qSF, tZ]; first | done | omega))
      intro y12 e13
      try have h14 : (l1 + y7).toInt = (l1.toInt + y7.toInt) := by rw [qap] <;> (try simp only [t_0, t_1, t_2, t_3, qcc, qSF, t_4, t_6, t_8, qam]) <;> omega
      try have h15 : y12.toInt = (l1.toInt + y7.toInt) := by rw [e13]; exact h14
      intro y16 e17
      try have h18 : (l2 + 1).toInt = (l2.toInt + 1) := by rw [qap] <;> (try simp only [t_0, t_1, t_2, t_3, qcc, qSF, t_4, t_6, t_8, qam]) <;> omega
      try have h19 : y16.toInt = (l2.toInt + 1) := by rw [e17]; exact h18
      exact ih _ _ (by first | with_reducible assumption | omega | (simp only [qcc, qSF, tZ]; first | done | omega)) (by first | with_reducible assumption | omega | (simp only [qcc, qSF, tZ]; first | done | omega)) (by first | with_reducible assumption | omega | (simp only [qcc, qSF, tZ]; first | done | omega))
theorem q4b {f0_s : Nat → Int32} {Q : Int32 → Prop} (hq : ∀ (r : Int32), Q r) : qHD f0_s Q := by
  refine ⟨37, qakR hq 37 _ _ (by first | with_reducible assumption | omega | (simp only [qcc, qSF, tZ]; first | done | omega)) (by first | with_reducible assumption | omega | (simp only [qcc, qSF, tZ]; first | done | omega)) (by first | with_reducible assumption | omega | (simp only [qcc, qSF, tZ]; first | done | omega))⟩
theorem qajx {jaC : Int32} {jbw : Int32} {f0_s : Nat → Int32} {jbv : Nat → Int32} {jcy : Nat → Int32} {Q : Int32 → Prop} {n : Int32} (a0 : rS jaC n f0_s) (a1 : jaC.toInt ≤ 6) (a2 : jbw.toInt ≤ 4) (hq : ∀ (r : Int32), Q r) : ∀ (k : Nat) (l1 l2 l3 : Int32), (0 ≤ l3.toInt) → (l3.toInt ≤ 6) → 6 - l3.toInt < (k : Int) → qm8 jaC jbw f0_s jbv jcy Q k l1 l2 l3 := by
  intro k
  induction k with
  | zero => intro l1 l2 l3 i0 i1 i2; omega
  | succ k ih =>
    intro l1 l2 l3 i0 i1 i2
    refine ⟨?_, ?_⟩
    · intro c1
      try simp only [qao, qak, qan, t_0, t_1, t_2, qbz, t_3, t_4, t_6, t_8, qam] at c1
      exact hq _
    · intro c2
      try simp only [qao, qak, qan, t_0, t_1, t_2, qbz, t_3, t_4, t_6, t_8, qam] at c2
      refine ⟨?_, ?_⟩
      · intro c3
        try simp only [qao, qak, qan, t_0, t_1, t_2, qbz, t_3, t_4, t_6, t_8, qam] at c3
        refine qNG (by first | with_reducible assumption | omega | (simp only [qbz, tZ]; first | done | omega)) (by first | with_reducible assumption | omega | (simp only [qbz, tZ]; first | done | omega)) (by first | with_reducible assumption | omega | (simp only [qbz, tZ]; first | done | omega)) (by first | with_reducible assumption | omega | (simp only [qbz, tZ]; first | done | omega)) (by first | with_reducible assumption | omega | (simp only [qbz, tZ]; first | done | omega)) (fun y4 po5 => ?_)
        try simp only [t_0, t_1, t_2, qbz, t_3, t_4, t_6, t_8, qam] at po5
        refine ⟨?_, ?_⟩
        · intro c6
          try simp only [qao, qak, qan, t_0, t_1, t_2, qbz, t_3, t_4, t_6, t_8, qam] at c6
          intro y7 e8
          try have h9 := qMY (a := l2) (b := 0) (by first | with_reducible assumption | omega | (simp only [qbz, tZ]; first | done | omega)) (by first | with_reducible assumption | omega | (simp only [qbz, tZ]; first | done | omega)) (by first | with_reducible assumption | omega | (simp only [qbz, tZ]; first | done | omega))
          have h10 : y7.toInt = (l2 ||| 0).toInt := by rw [e8]
          intro y11 e12
          try have h13 : (l3 + 1).toInt = (l3.toInt + 1) := by rw [qap] <;> (try simp only [t_0, t_1, t_2, qbz, t_3, t_4, t_6, t_8, qam]) <;> omega
          try have h14 : y11.toInt = (l3.toInt + 1) := by rw [e12]; exact h13
          exact ih _ _ _ (by first | with_reducible assumption | omega | (simp only [qbz, tZ]; first | done | omega)) (by first | with_reducible assumption | omega | (simp only [qbz, tZ]; first | done | omega)) (by first | with_reducible assumption | omega | (simp only [qbz, tZ]; first | done | omega))
        · intro c15
          try simp only [qao, qak, qan, t_0, t_1, t_2, qbz, t_3, t_4, t_6, t_8, qam] at c15
          intro y16 e17
          try have h18 := qN0 (x := l3) (by first | with_reducible assumption | omega | (simp only [qbz, tZ]; first | done | omega)) (by first | with_reducible assumption | omega | (simp only [qbz, tZ]; first | done | omega))
          try have h19 := qMY (a := l2) (b := (1 <<< (l3 &&& 31))) (by first | with_reducible assumption | omega | (simp only [qbz, tZ]; first | done | omega)) (by first | with_reducible assumption | omega | (simp only [qbz, tZ]; first | done | omega)) (by first | with_reducible assumption | omega | (simp only [qbz, tZ]; first | done | omega))
          have h20 : y16.toInt = (l2 ||| (1 <<< (l3 &&& 31))).toInt := by rw [e17]
          intro y21 e22
          try have h23 : (l3 + 1).toInt = (l3.toInt + 1) := by rw [qap] <;> (try simp only [t_0, t_1, t_2, qbz, t_3, t_4, t_6, t_8, qam]) <;> omega
          try have h24 : y21.toInt = (l3.toInt + 1) := by rw [e22]; exact h23
          exact ih _ _ _ (by first | with_reducible assumption | omega | (simp only [qbz, tZ]; first | done | omega)) (by first | with_reducible assumption | omega | (simp only [qbz, tZ]; first | done | omega)) (by first | with_reducible assumption | omega | (simp only [qbz, tZ]; first | done | omega))
      · intro c25
        try simp only [qao, qak, qan, t_0, t_1, t_2, qbz, t_3, t_4, t_6, t_8, qam] at c25
        intro y26 e27
        try have h28 : (24 + l3).toInt = (24 + l3.toInt) := by rw [qap] <;> (try simp only [t_0, t_1, t_2, qbz, t_3, t_4, t_6, t_8, qam]) <;> omega
        try have h29 : y26.toInt = (24 + l3.toInt) := by rw [e27]; exact h28
        refine ⟨qa6 (by first | with_reducible assumption | omega | (simp only [qbz, tZ]; first | done | omega)) (by first | with_reducible assumption | omega | (simp only [qbz, tZ]; first | done | omega)), ?_⟩
        intro y30 e31
        have h32 : y30.toInt = (f0_s y26.toNatClampNeg).toInt := by rw [e31]
        try have h33 := qn0 (s := f0_s) (x := y26) (by with_reducible assumption) (by first | with_reducible assumption | omega | (simp only [qbz, tZ]; first | done | omega)) (by first | with_reducible assumption | omega | (simp only [qbz, tZ]; first | done | omega))
        try have h34 := qgw (s := f0_s) (x := y26) (by with_reducible assumption) (by first | with_reducible assumption | omega | (simp only [qbz, tZ]; first | done | omega)) (by first | with_reducible assumption | omega | (simp only [qbz, tZ]; first | done | omega))
        refine ⟨?_, ?_⟩
        · intro c35
          try simp only [qao, qak, qan, t_0, t_1, t_2, qbz, t_3, t_4, t_6, t_8, qam] at c35
          intro y36 e37
          try have h38 := qMY (a := l2) (b := 0) (by first | with_reducible assumption | omega | (simp only [qbz, tZ]; first | done | omega)) (by first | with_reducible assumption | omega | (simp only [qbz, tZ]; first | done | omega)) (by first | with_reducible assumption | omega | (simp only [qbz, tZ]; first | done | omega))
          have h39 : y36.toInt = (l2 ||| 0).toInt := by rw [e37]
          intro y40 e41
          try have h42 : (l3 + 1).toInt = (l3.toInt + 1) := by rw [qap] <;> (try simp only [t_0, t_1, t_2, qbz, t_3, t_4, t_6, t_8, qam]) <;> omega
          try have h43 : y40.toInt = (l3.toInt + 1) := by rw [e41]; exact h42
          exact ih _ _ _ (by first | with_reducible assumption | omega | (simp only [qbz, tZ]; first | done | omega)) (by first | with_reducible assumption | omega | (simp only [qbz, tZ]; first | done | omega)) (by first | with_reducible assumption | omega | (simp only [qbz, tZ]; first | done | omega))
        · intro c44
          try simp only [qao, qak, qan, t_0, t_1, t_2, qbz, t_3, t_4, t_6, t_8, qam] at c44
          intro y45 e46
          try have h47 := qN0 (x := l3) (by first | with_reducible assumption | omega | (simp only [qbz, tZ]; first | done | omega)) (by first | with_reducible assumption | omega | (simp only [qbz, tZ]; first | done | omega))
          try have h48 := qMY (a := l2) (b := (1 <<< (l3 &&& 31))) (by first | with_reducible assumption | omega | (simp only [qbz, tZ]; first | done | omega)) (by first | with_reducible assumption | omega | (simp only [qbz, tZ]; first | done | omega)) (by first | with_reducible assumption | omega | (simp only [qbz, tZ]; first | done | omega))
          have h49 : y45.toInt = (l2 ||| (1 <<< (l3 &&& 31))).toInt := by rw [e46]
          intro y50 e51
          try have h52 : (l3 + 1).toInt = (l3.toInt + 1) := by rw [qap] <;> (try simp only [t_0, t_1, t_2, qbz, t_3, t_4, t_6, t_8, qam]) <;> omega
          try have h53 : y50.toInt = (l3.toInt + 1) := by rw [e51]; exact h52
          exact ih _ _ _ (by first | with_reducible assumption | omega | (simp only [qbz, tZ]; first | done | omega)) (by first | with_reducible assumption | omega | (simp only [qbz, tZ]; first | done | omega)) (by first | with_reducible assumption | omega | (simp only [qbz, tZ]; first | done | omega))
theorem q1j {jaC : Int32} {jbw : Int32} {f0_s : Nat → Int32} {jbv : Nat → Int32} {jcy : Nat → Int32} {p1 : Int32} {Q : Int32 → Prop} {n : Int32} (a0 : rS jaC n f0_s) (a1 : jaC.toInt ≤ 6) (a2 : jbw.toInt ≤ 4) (hq : ∀ (r : Int32), Q r) : qQZ jaC jbw f0_s jbv jcy p1 Q := by
  refine ⟨7, qajx (by first | with_reducible assumption | omega | (simp only [qbz, tZ]; first | done | omega)) (by first | with_reducible assumption | omega | (simp only [qbz, tZ]; first | done | omega)) (by first | with_reducible assumption | omega | (simp only [qbz, tZ]; first | done | omega)) hq 7 _ _ _ (by first | with_reducible assumption | omega | (simp only [qbz, tZ]; first | done | omega)) (by first | with_reducible assumption | omega | (simp only [qbz, tZ]; first | done | omega)) (by first | with_reducible assumption | omega | (simp only [qbz, tZ]; first | done | omega))⟩
theorem qQK {jaC : Int32} {jbw : Int32} {jb2 : Nat → Int32} {jbv : Nat → Int32} {jcy : Nat → Int32} {jdH : Nat → Int32} {Q : Int32 → Int32 → NI → NI → Prop} {n : Int32} (a0 : rS jaC n jb2) (a1 : jaC.toInt ≤ 6) (a2 : jbw.toInt ≤ 4) (hq : ∀ (r thrown : Int32) (refused : NI) (s : NI), Q r thrown refused s) : ∀ (k : Nat) (jbd : Int32) (ja9 : NI) (f0_s : NI) (l1 l2 l3 : Int32), (rS jaC n f0_s) → (l1.toInt ≤ 99) → (0 ≤ l3.toInt) → (l3.toInt ≤ 99) → 99 - l3.toInt < (k : Int) → qIH jaC jbw jb2 jbv jcy jdH Q k jbd ja9 f0_s l1 l2 l3 := by
  intro k
  induction k with
  | zero => intro jbd ja9 f0_s l1 l2 l3 i0 i1 i2 i3 i4; omega
  | succ k ih =>
    intro jbd ja9 f0_s l1 l2 l3 i0 i1 i2 i3 i4
    refine ⟨?_, ?_⟩
    · intro c1
      try simp only [qao, qak, qan, t_0, t_1, t_2, t_3, t_4, t_6, t_8, qnP, qam] at c1
      refine ⟨?_, ?_⟩
      · intro c2
        try simp only [qao, qak, qan, t_0, t_1, t_2, t_3, t_4, t_6, t_8, qnP, qam] at c2
        refine ⟨?_, ?_⟩
        · intro c3
          try simp only [qao, qak, qan, t_0, t_1, t_2, t_3, t_4, t_6, t_8, qnP, qam] at c3
          refine q4b (fun y4 => ?_)
          exact hq _ _ _ _
        · intro c5
          try simp only [qao, qak, qan, t_0, t_1, t_2, t_3, t_4, t_6, t_8, qnP, qam] at c5
          refine qwr (by first | with_reducible assumption | omega | (simp only [qnP, tZ]; first | done | omega)) (fun y6 => ?_)
          exact hq _ _ _ _
      · intro c7
        try simp only [qao, qak, qan, t_0, t_1, t_2, t_3, t_4, t_6, t_8, qnP, qam] at c7
        intro y8 e9
        have h10 : y8.toInt = (f0_s (66 : Int32).toNatClampNeg).toInt := by rw [e9]
        try have h11 := qn0 (s := f0_s) (x := (66 : Int32)) (by with_reducible assumption) (by first | with_reducible assumption | omega | (simp only [qnP, tZ]; first | done | omega)) (by first | with_reducible assumption | omega | (simp only [qnP, tZ]; first | done | omega))
        try have h12 := qgw (s := f0_s) (x := (66 : Int32)) (by with_reducible assumption) (by first | with_reducible assumption | omega | (simp only [qnP, tZ]; first | done | omega)) (by first | with_reducible assumption | omega | (simp only [qnP, tZ]; first | done | omega))
        exact hq _ _ _ _
    · intro c13
      try simp only [qao, qak, qan, t_0, t_1, t_2, t_3, t_4, t_6, t_8, qnP, qam] at c13
      refine qNU (by first | with_reducible assumption | omega | (simp only [qnP, tZ]; first | done | omega)) (by first | with_reducible assumption | omega | (simp only [qnP, tZ]; first | done | omega)) (by first | with_reducible assumption | omega | (simp only [qnP, tZ]; first | done | omega)) (fun y14 po15 => ?_)
      intro y16 e17
      try have h18 : (l3 + 1).toInt = (l3.toInt + 1) := by rw [qap] <;> (try simp only [t_0, t_1, t_2, t_3, t_4, t_6, t_8, qnP, qam]) <;> omega
      try have h19 : y16.toInt = (l3.toInt + 1) := by rw [e17]; exact h18
      exact ih _ _ _ _ _ _ (by first | with_reducible assumption | omega | (simp only [qnP, tZ]; first | done | omega)) (by first | with_reducible assumption | omega | (simp only [qnP, tZ]; first | done | omega)) (by first | with_reducible assumption | omega | (simp only [qnP, tZ]; first | done | omega)) (by first | with_reducible assumption | omega | (simp only [qnP, tZ]; first | done | omega)) (by first | with_reducible assumption | omega | (simp only [qnP, tZ]; first | done | omega))
theorem qaoC {jaC : Int32} {jbw : Int32} {jb2 : Nat → Int32} {jbv : Nat → Int32} {jcy : Nat → Int32} {jdH : Nat → Int32} {jbd : Int32} {ja9 : Nat → Int32} {f0_s : Nat → Int32} {p1 : Int32} {p2 : Int32} {Q : Int32 → Int32 → NI → NI → Prop} {n : Int32} (a0 : rS jaC n jb2) (a1 : jaC.toInt ≤ 6) (a2 : jbw.toInt ≤ 4) (hq : ∀ (r thrown : Int32) (refused : NI) (s : NI), Q r thrown refused s) : q1Q jaC jbw jb2 jbv jcy jdH jbd ja9 f0_s p1 p2 Q := by
  refine qbO (fun y20 po21 => ?_)
  try simp only [t_0, t_1, t_2, t_3, t_4, t_6, t_8, qnP, qam] at po21
  refine ⟨?_, ?_⟩
  · intro c22
    try simp only [qao, qak, qan, t_0, t_1, t_2, t_3, t_4, t_6, t_8, qnP, qam] at c22
    refine qcb (by first | with_reducible assumption | omega | (simp only [qnP, tZ]; first | done | omega)) (by first | with_reducible assumption | omega | (simp only [qnP, tZ]; first | done | omega)) (by first | with_reducible assumption | omega | (simp only [qnP, tZ]; first | done | omega)) (fun y23 y24 y25 po26 => ?_)
    try simp only [t_0, t_1, t_2, t_3, t_4, t_6, t_8, qnP, qam] at po26
    refine ⟨?_, ?_⟩
    · intro c27
      try simp only [qao, qak, qan, t_0, t_1, t_2, t_3, t_4, t_6, t_8, qnP, qam] at c27
      refine qoL (by first | with_reducible assumption | omega | (simp only [qnP, tZ]; first | done | omega)) (fun y28 po29 => ?_)
      refine ⟨100, qQK (by first | with_reducible assumption | omega | (simp only [qnP, tZ]; first | done | omega)) (by first | with_reducible assumption | omega | (simp only [qnP, tZ]; first | done | omega)) (by first | with_reducible assumption | omega | (simp only [qnP, tZ]; first | done | omega)) hq 100 _ _ _ _ _ _ (by first | with_reducible assumption | omega | (simp only [qnP, tZ]; first | done | omega)) (by first | with_reducible assumption | omega | (simp only [qnP, tZ]; first | done | omega)) (by first | with_reducible assumption | omega | (simp only [qnP, tZ]; first | done | omega)) (by first | with_reducible assumption | omega | (simp only [qnP, tZ]; first | done | omega)) (by first | with_reducible assumption | omega | (simp only [qnP, tZ]; first | done | omega))⟩
    · intro c30
      try simp only [qao, qak, qan, t_0, t_1, t_2, t_3, t_4, t_6, t_8, qnP, qam] at c30
      exact hq _ _ _ _
  · intro c31
    try simp only [qao, qak, qan, t_0, t_1, t_2, t_3, t_4, t_6, t_8, qnP, qam] at c31
    refine qbO (fun y32 po33 => ?_)
    try simp only [t_0, t_1, t_2, t_3, t_4, t_6, t_8, qnP, qam] at po33
    refine ⟨?_, ?_⟩
    · intro c34
      try simp only [qao, qak, qan, t_0, t_1, t_2, t_3, t_4, t_6, t_8, qnP, qam] at c34
      refine qcb (by first | with_reducible assumption | omega | (simp only [qnP, tZ]; first | done | omega)) (by first | with_reducible assumption | omega | (simp only [qnP, tZ]; first | done | omega)) (by first | with_reducible assumption | omega | (simp only [qnP, tZ]; first | done | omega)) (fun y35 y36 y37 po38 => ?_)
      try simp only [t_0, t_1, t_2, t_3, t_4, t_6, t_8, qnP, qam] at po38
      refine ⟨?_, ?_⟩
      · intro c39
        try simp only [qao, qak, qan, t_0, t_1, t_2, t_3, t_4, t_6, t_8, qnP, qam] at c39
        refine qoL (by first | with_reducible assumption | omega | (simp only [qnP, tZ]; first | done | omega)) (fun y40 po41 => ?_)
        refine ⟨100, qQK (by first | with_reducible assumption | omega | (simp only [qnP, tZ]; first | done | omega)) (by first | with_reducible assumption | omega | (simp only [qnP, tZ]; first | done | omega)) (by first | with_reducible assumption | omega | (simp only [qnP, tZ]; first | done | omega)) hq 100 _ _ _ _ _ _ (by first | with_reducible assumption | omega | (simp only [qnP, tZ]; first | done | omega)) (by first | with_reducible assumption | omega | (simp only [qnP, tZ]; first | done | omega)) (by first | with_reducible assumption | omega | (simp only [qnP, tZ]; first | done | omega)) (by first | with_reducible assumption | omega | (simp only [qnP, tZ]; first | done | omega)) (by first | with_reducible assumption | omega | (simp only [qnP, tZ]; first | done | omega))⟩
      · intro c42
        try simp only [qao, qak, qan, t_0, t_1, t_2, t_3, t_4, t_6, t_8, qnP, qam] at c42
        exact hq _ _ _ _
    · intro c43
      try simp only [qao, qak, qan, t_0, t_1, t_2, t_3, t_4, t_6, t_8, qnP, qam] at c43
      refine qcb (by first | with_reducible assumption | omega | (simp only [qnP, tZ]; first | done | omega)) (by first | with_reducible assumption | omega | (simp only [qnP, tZ]; first | done | omega)) (by first | with_reducible assumption | omega | (simp only [qnP, tZ]; first | done | omega)) (fun y44 y45 y46 po47 => ?_)
      try simp only [t_0, t_1, t_2, t_3, t_4, t_6, t_8, qnP, qam] at po47
      refine ⟨?_, ?_⟩
      · intro c48
        try simp only [qao, qak, qan, t_0, t_1, t_2, t_3, t_4, t_6, t_8, qnP, qam] at c48
        refine qoL (by first | with_reducible assumption | omega | (simp only [qnP, tZ]; first | done | omega)) (fun y49 po50 => ?_)
        refine ⟨100, qQK (by first | with_reducible assumption | omega | (simp only [qnP, tZ]; first | done | omega)) (by first | with_reducible assumption | omega | (simp only [qnP, tZ]; first | done | omega)) (by first | with_reducible assumption | omega | (simp only [qnP, tZ]; first | done | omega)) hq 100 _ _ _ _ _ _ (by first | with_reducible assumption | omega | (simp only [qnP, tZ]; first | done | omega)) (by first | with_reducible assumption | omega | (simp only [qnP, tZ]; first | done | omega)) (by first | with_reducible assumption | omega | (simp only [qnP, tZ]; first | done | omega)) (by first | with_reducible assumption | omega | (simp only [qnP, tZ]; first | done | omega)) (by first | with_reducible assumption | omega | (simp only [qnP, tZ]; first | done | omega))⟩
      · intro c51
        try simp only [qao, qak, qan, t_0, t_1, t_2, t_3, t_4, t_6, t_8, qnP, qam] at c51
        exact hq _ _ _ _
