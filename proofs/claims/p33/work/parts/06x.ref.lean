theorem q0F {jaC : Int32} {f0_s : Nat → Int32} {p1 : Int32} {p2 : Int32} {p3 : Int32} {Q : Int32 → Prop} (a0 : jaC.toInt ≤ 6) (a1 : 0 ≤ p2.toInt) (a2 : p2.toInt < 6) (hq : ∀ (r : Int32), (0 ≤ r.toInt) → (r.toInt ≤ 6) → Q r) : qIt jaC f0_s p1 p2 p3 Q := by
  refine q4J (by first | with_reducible assumption | omega | (simp only [qal, tZ]; first | done | omega)) (fun y1 po2 po3 => ?_)
  try simp only [t_0, t_1, t_2, t_3, qal, t_4, t_6, t_8, qam] at po2
  try simp only [t_0, t_1, t_2, t_3, qal, t_4, t_6, t_8, qam] at po3
  have hp := qamV (x := y1) (i := p2) (by assumption) (by assumption) (by assumption) (by assumption)
  refine qXr (fun y4 po5 po6 po7 => ?_)
  try simp only [t_0, t_1, t_2, t_3, qal, t_4, t_6, t_8, qam] at po5
  try simp only [t_0, t_1, t_2, t_3, qal, t_4, t_6, t_8, qam] at po6
  try simp only [t_0, t_1, t_2, t_3, qal, t_4, t_6, t_8, qam] at po7
  refine ⟨?_, ?_⟩
  · intro c8
    try simp only [qao, qak, qan, t_0, t_1, t_2, t_3, qal, t_4, t_6, t_8, qam] at c8
    exact hq _ (by first | with_reducible assumption | omega | (simp only [qal, tZ]; first | done | omega)) (by first | with_reducible assumption | omega | (simp only [qal, tZ]; first | done | omega))
  · intro c9
    try simp only [qao, qak, qan, t_0, t_1, t_2, t_3, qal, t_4, t_6, t_8, qam] at c9
    try have h10 : (y4 + 1).toInt = (y4.toInt + 1) := by rw [qap] <;> (try simp only [t_0, t_1, t_2, t_3, qal, t_4, t_6, t_8, qam]) <;> omega
    exact hq _ (by first | with_reducible assumption | omega | (simp only [qal, tZ]; first | done | omega)) (by first | with_reducible assumption | omega | (simp only [qal, tZ]; first | done | omega))
theorem q3F {jaN : Int32} {jaC : Int32} {f0_s : Nat → Int32} {jgv : Nat → Int32} {Q : Int32 → Prop} (a0 : jaC.toInt ≤ 6) (a1 : jaN.toInt ≤ 8) (hq : ∀ (r : Int32), (r.toInt = 0 ∨ r.toInt = 1) → Q r) : ∀ (k : Nat) (l1 l2 l3 l4 : Int32), (0 ≤ l1.toInt) → (l1.toInt < 6) → (l3.toInt = 0 ∨ l3.toInt = 1) → (0 ≤ l4.toInt) → (l4.toInt ≤ 8) → 8 - l4.toInt < (k : Int) → qpi jaN jaC f0_s jgv Q k l1 l2 l3 l4 := by
  intro k
  induction k with
  | zero => intro l1 l2 l3 l4 i0 i1 i2 i3 i4 i5; omega
  | succ k ih =>
    intro l1 l2 l3 l4 i0 i1 i2 i3 i4 i5
    refine ⟨?_, ?_⟩
    · intro c1
      try simp only [qao, qak, qan, tY] at c1
      refine ⟨qa0H (by first | with_reducible assumption | omega | (simp only [tZ]; first | done | omega)), ?_⟩
      exact hq _ (by first | with_reducible assumption | omega | (simp only [tZ]; first | done | omega))
    · intro c2
      try simp only [qao, qak, qan, tY] at c2
      refine ⟨?_, ?_⟩
      · intro c3
        try simp only [qao, qak, qan, tY] at c3
        intro y4 e5
        try have h6 : (l4 + 1).toInt = (l4.toInt + 1) := by rw [qap] <;> (try simp only [tY]) <;> omega
        try have h7 : y4.toInt = (l4.toInt + 1) := by rw [e5]; exact h6
        exact ih _ _ _ _ (by first | with_reducible assumption | omega | (simp only [tZ]; first | done | omega)) (by first | with_reducible assumption | omega | (simp only [tZ]; first | done | omega)) (by first | with_reducible assumption | omega | (simp only [tZ]; first | done | omega)) (by first | with_reducible assumption | omega | (simp only [tZ]; first | done | omega)) (by first | with_reducible assumption | omega | (simp only [tZ]; first | done | omega)) (by first | with_reducible assumption | omega | (simp only [tZ]; first | done | omega))
      · intro c8
        try simp only [qao, qak, qan, tY] at c8
        refine ⟨qa6 (by first | with_reducible assumption | omega | (simp only [tZ]; first | done | omega)) (by first | with_reducible assumption | omega | (simp only [tZ]; first | done | omega)), ?_⟩
        intro y9 e10
        have h11 : y9.toInt = (jgv l4.toNatClampNeg).toInt := by rw [e10]
        refine ⟨?_, ?_⟩
        · intro c12
          try simp only [qao, qak, qan, tY] at c12
          intro y13 e14
          try have h15 : (l4 + 1).toInt = (l4.toInt + 1) := by rw [qap] <;> (try simp only [tY]) <;> omega
          try have h16 : y13.toInt = (l4.toInt + 1) := by rw [e14]; exact h15
          exact ih _ _ _ _ (by first | with_reducible assumption | omega | (simp only [tZ]; first | done | omega)) (by first | with_reducible assumption | omega | (simp only [tZ]; first | done | omega)) (by first | with_reducible assumption | omega | (simp only [tZ]; first | done | omega)) (by first | with_reducible assumption | omega | (simp only [tZ]; first | done | omega)) (by first | with_reducible assumption | omega | (simp only [tZ]; first | done | omega)) (by first | with_reducible assumption | omega | (simp only [tZ]; first | done | omega))
        · intro c17
          try simp only [qao, qak, qan, tY] at c17
          refine q0F (by first | with_reducible assumption | omega | (simp only [tZ]; first | done | omega)) (by first | with_reducible assumption | omega | (simp only [tZ]; first | done | omega)) (by first | with_reducible assumption | omega | (simp only [tZ]; first | done | omega)) (fun y18 po19 po20 => ?_)
          try simp only [tY] at po19
          try simp only [tY] at po20
          refine ⟨qa6 (by first | with_reducible assumption | omega | (simp only [tZ]; first | done | omega)) (by first | with_reducible assumption | omega | (simp only [tZ]; first | done | omega)), ?_⟩
          intro y21 e22
          have h23 : y21.toInt = (jgv l4.toNatClampNeg).toInt := by rw [e22]
          refine ⟨?_, ?_⟩
          · intro c24
            try simp only [qao, qak, qan, tY] at c24
            intro y25 e26
            try have h27 : (l4 + 1).toInt = (l4.toInt + 1) := by rw [qap] <;> (try simp only [tY]) <;> omega
            try have h28 : y25.toInt = (l4.toInt + 1) := by rw [e26]; exact h27
            exact ih _ _ _ _ (by first | with_reducible assumption | omega | (simp only [tZ]; first | done | omega)) (by first | with_reducible assumption | omega | (simp only [tZ]; first | done | omega)) (by first | with_reducible assumption | omega | (simp only [tZ]; first | done | omega)) (by first | with_reducible assumption | omega | (simp only [tZ]; first | done | omega)) (by first | with_reducible assumption | omega | (simp only [tZ]; first | done | omega)) (by first | with_reducible assumption | omega | (simp only [tZ]; first | done | omega))
          · intro c29
            try simp only [qao, qak, qan, tY] at c29
            intro y30 e31
            try have h32 : (l4 + 1).toInt = (l4.toInt + 1) := by rw [qap] <;> (try simp only [tY]) <;> omega
            try have h33 : y30.toInt = (l4.toInt + 1) := by rw [e31]; exact h32
            exact ih _ _ _ _ (by first | with_reducible assumption | omega | (simp only [tZ]; first | done | omega)) (by first | with_reducible assumption | omega | (simp only [tZ]; first | done | omega)) (by first | with_reducible assumption | omega | (simp only [tZ]; first | done | omega)) (by first | with_reducible assumption | omega | (simp only [tZ]; first | done | omega)) (by first | with_reducible assumption | omega | (simp only [tZ]; first | done | omega)) (by first | with_reducible assumption | omega | (simp only [tZ]; first | done | omega))
theorem qaou {jaN : Int32} {jaC : Int32} {f0_s : Nat → Int32} {jgv : Nat → Int32} {p1 : Int32} {p2 : Int32} {Q : Int32 → Prop} (a0 : jaC.toInt ≤ 6) (a1 : jaN.toInt ≤ 8) (a2 : 0 ≤ p1.toInt) (a3 : p1.toInt < 6) (hq : ∀ (r : Int32), (r.toInt = 0 ∨ r.toInt = 1) → Q r) : qS1 jaN jaC f0_s jgv p1 p2 Q := by
  refine qeY (by first | with_reducible assumption | omega | (simp only [tZ]; first | done | omega)) (by first | with_reducible assumption | omega | (simp only [tZ]; first | done | omega)) (fun y34 po35 => ?_)
  try simp only [tY] at po35
  refine ⟨?_, ?_⟩
  · intro c36
    try simp only [qao, qak, qan, tY] at c36
    refine ⟨9, q3F (by first | with_reducible assumption | omega | (simp only [tZ]; first | done | omega)) (by first | with_reducible assumption | omega | (simp only [tZ]; first | done | omega)) hq 9 _ _ _ _ (by first | with_reducible assumption | omega | (simp only [tZ]; first | done | omega)) (by first | with_reducible assumption | omega | (simp only [tZ]; first | done | omega)) (by first | with_reducible assumption | omega | (simp only [tZ]; first | done | omega)) (by first | with_reducible assumption | omega | (simp only [tZ]; first | done | omega)) (by first | with_reducible assumption | omega | (simp only [tZ]; first | done | omega)) (by first | with_reducible assumption | omega | (simp only [tZ]; first | done | omega))⟩
  · intro c37
    try simp only [qao, qak, qan, tY] at c37
    refine ⟨9, q3F (by first | with_reducible assumption | omega | (simp only [tZ]; first | done | omega)) (by first | with_reducible assumption | omega | (simp only [tZ]; first | done | omega)) hq 9 _ _ _ _ (by first | with_reducible assumption | omega | (simp only [tZ]; first | done | omega)) (by first | with_reducible assumption | omega | (simp only [tZ]; first | done | omega)) (by first | with_reducible assumption | omega | (simp only [tZ]; first | done | omega)) (by first | with_reducible assumption | omega | (simp only [tZ]; first | done | omega)) (by first | with_reducible assumption | omega | (simp only [tZ]; first | done | omega)) (by first | with_reducible assumption | omega | (simp only [tZ]; first | done | omega))⟩
theorem qaIh {jaN : Int32} {jaC : Int32} {jb2 : Nat → Int32} {jgv : Nat → Int32} {Q : Int32 → Int32 → NI → NI → Prop} {K33 : Int32 → NI → NI → Int32 → Int32 → Int32 → Int32 → Prop} {g4 : Int32} (a0 : jaC.toInt ≤ 6) (a1 : jaN.toInt ≤ 8) (hq : ∀ (r thrown : Int32) (refused : NI) (s : NI), Q r thrown refused s) (hK33 : ∀ (jbd : Int32) (ja9 : NI) (f0_s : NI) (l1 l2 l3 l4 : Int32), (rS jaC jaN f0_s) → (l4.toInt = g4.toInt + 1) → K33 jbd ja9 f0_s l1 l2 l3 l4) : ∀ (k : Nat) (jbd : Int32) (ja9 : NI) (f0_s : NI) (l1 l2 l3 l4 l5 : Int32), (rS jaC jaN f0_s) → (0 ≤ l4.toInt) → (l4.toInt < 6) → (l4.toInt = g4.toInt) → (0 ≤ l5.toInt) → (l5.toInt ≤ 8) → 8 - l5.toInt < (k : Int) → qtG jaN jaC jb2 jgv Q K33 k jbd ja9 f0_s l1 l2 l3 l4 l5 := by
  intro k
  induction k with
  | zero => intro jbd ja9 f0_s l1 l2 l3 l4 l5 i0 i1 i2 i3 i4 i5 i6; omega
  | succ k ih =>
    intro jbd ja9 f0_s l1 l2 l3 l4 l5 i0 i1 i2 i3 i4 i5 i6
    refine ⟨?_, ?_⟩
    · intro c1
      try simp only [qao, qak, qan, t_0, t_1, qgg, t_2, t_3, t_4, t_6, t_8, qam] at c1
      intro y2 e3
      try have h4 : (l4 + 1).toInt = (l4.toInt + 1) := by rw [qap] <;> (try simp only [t_0, t_1, qgg, t_2, t_3, t_4, t_6, t_8, qam]) <;> omega
      try have h5 : y2.toInt = (l4.toInt + 1) := by rw [e3]; exact h4
      exact hK33 _ _ _ _ _ _ _ (by first | with_reducible assumption | omega | (simp only [qgg, tZ]; first | done | omega)) (by first | with_reducible assumption | omega | (simp only [qgg, tZ]; first | done | omega))
    · intro c6
      try simp only [qao, qak, qan, t_0, t_1, qgg, t_2, t_3, t_4, t_6, t_8, qam] at c6
      refine qaou (by first | with_reducible assumption | omega | (simp only [qgg, tZ]; first | done | omega)) (by first | with_reducible assumption | omega | (simp only [qgg, tZ]; first | done | omega)) (by first | with_reducible assumption | omega | (simp only [qgg, tZ]; first | done | omega)) (by first | with_reducible assumption | omega | (simp only [qgg, tZ]; first | done | omega)) (fun y7 po8 => ?_)
      try simp only [t_0, t_1, qgg, t_2, t_3, t_4, t_6, t_8, qam] at po8
      refine ⟨?_, ?_⟩
      · intro c9
        try simp only [qao, qak, qan, t_0, t_1, qgg, t_2, t_3, t_4, t_6, t_8, qam] at c9
        intro y10 e11
        try have h12 : (l2 + 1).toInt = (l2.toInt + 1) := by rw [qap] <;> (try simp only [t_0, t_1, qgg, t_2, t_3, t_4, t_6, t_8, qam]) <;> omega
        try have h13 : y10.toInt = (l2.toInt + 1) := by rw [e11]; exact h12
        refine ⟨?_, ?_⟩
        · intro c14
          try simp only [qao, qak, qan, t_0, t_1, qgg, t_2, t_3, t_4, t_6, t_8, qam] at c14
          intro y15 e16
          try have h17 : (l5 + 1).toInt = (l5.toInt + 1) := by rw [qap] <;> (try simp only [t_0, t_1, qgg, t_2, t_3, t_4, t_6, t_8, qam]) <;> omega
          try have h18 : y15.toInt = (l5.toInt + 1) := by rw [e16]; exact h17
          exact ih _ _ _ _ _ _ _ _ (by first | with_reducible assumption | omega | (simp only [qgg, tZ]; first | done | omega)) (by first | with_reducible assumption | omega | (simp only [qgg, tZ]; first | done | omega)) (by first | with_reducible assumption | omega | (simp only [qgg, tZ]; first | done | omega)) (by first | with_reducible assumption | omega | (simp only [qgg, tZ]; first | done | omega)) (by first | with_reducible assumption | omega | (simp only [qgg, tZ]; first | done | omega)) (by first | with_reducible assumption | omega | (simp only [qgg, tZ]; first | done | omega)) (by first | with_reducible assumption | omega | (simp only [qgg, tZ]; first | done | omega))
        · intro c19
          try simp only [qao, qak, qan, t_0, t_1, qgg, t_2, t_3, t_4, t_6, t_8, qam] at c19
          intro y20 e21
          try have h22 : (l5 + 1).toInt = (l5.toInt + 1) := by rw [qap] <;> (try simp only [t_0, t_1, qgg, t_2, t_3, t_4, t_6, t_8, qam]) <;> omega
          try have h23 : y20.toInt = (l5.toInt + 1) := by rw [e21]; exact h22
          try have h24 : (10 * l4).toInt = (10 * l4.toInt) := by rw [qu8] <;> (try simp only [t_0, t_1, qgg, t_2, t_3, t_4, t_6, t_8, qam]) <;> omega
          try have h25 : ((10 * l4) + l5).toInt = ((10 * l4).toInt + l5.toInt) := by rw [qap] <;> (try simp only [t_0, t_1, qgg, t_2, t_3, t_4, t_6, t_8, qam]) <;> omega
          exact ih _ _ _ _ _ _ _ _ (by first | with_reducible assumption | omega | (simp only [qgg, tZ]; first | done | omega)) (by first | with_reducible assumption | omega | (simp only [qgg, tZ]; first | done | omega)) (by first | with_reducible assumption | omega | (simp only [qgg, tZ]; first | done | omega)) (by first | with_reducible assumption | omega | (simp only [qgg, tZ]; first | done | omega)) (by first | with_reducible assumption | omega | (simp only [qgg, tZ]; first | done | omega)) (by first | with_reducible assumption | omega | (simp only [qgg, tZ]; first | done | omega)) (by first | with_reducible assumption | omega | (simp only [qgg, tZ]; first | done | omega))
      · intro c26
        try simp only [qao, qak, qan, t_0, t_1, qgg, t_2, t_3, t_4, t_6, t_8, qam] at c26
        intro y27 e28
        try have h29 : (l5 + 1).toInt = (l5.toInt + 1) := by rw [qap] <;> (try simp only [t_0, t_1, qgg, t_2, t_3, t_4, t_6, t_8, qam]) <;> omega
        try have h30 : y27.toInt = (l5.toInt + 1) := by rw [e28]; exact h29
        exact ih _ _ _ _ _ _ _ _ (by first | with_reducible assumption | omega | (simp only [qgg, tZ]; first | done | omega)) (by first | with_reducible assumption | omega | (simp only [qgg, tZ]; first | done | omega)) (by first | with_reducible assumption | omega | (simp only [qgg, tZ]; first | done | omega)) (by first | with_reducible assumption | omega | (simp only [qgg, tZ]; first | done | omega)) (by first | with_reducible assumption | omega | (simp only [qgg, tZ]; first | done | omega)) (by first | with_reducible assumption | omega | (simp only [qgg, tZ]; first | done | omega)) (by first | with_reducible assumption | omega | (simp only [qgg, tZ]; first | done | omega))
theorem qaKa {jaN : Int32} {jaC : Int32} {jb2 : Nat → Int32} {jgv : Nat → Int32} {Q : Int32 → Int32 → NI → NI → Prop} (a0 : jaC.toInt ≤ 6) (a1 : jaN.toInt ≤ 8) (hq : ∀ (r thrown : Int32) (refused : NI) (s : NI), Q r thrown refused s) : ∀ (k : Nat) (jbd : Int32) (ja9 : NI) (f0_s : NI) (l1 l2 l3 l4 : Int32), (rS jaC jaN f0_s) → (0 ≤ l4.toInt) → (l4.toInt ≤ 6) → 6 - l4.toInt < (k : Int) → qDQ jaN jaC jb2 jgv Q k jbd ja9 f0_s l1 l2 l3 l4 := by
  intro k
  induction k with
  | zero => intro jbd ja9 f0_s l1 l2 l3 l4 i0 i1 i2 i3; omega
  | succ k ih =>
    intro jbd ja9 f0_s l1 l2 l3 l4 i0 i1 i2 i3
    refine ⟨?_, ?_⟩
    · intro c31
      try simp only [qao, qak, qan, t_0, t_1, qgg, t_2, t_3, t_4, t_6, t_8, qam] at c31
      refine ⟨?_, ?_⟩
      · intro c32
        try simp only [qao, qak, qan, t_0, t_1, qgg, t_2, t_3, t_4, t_6, t_8, qam] at c32
        exact hq _ _ _ _
      · intro c33
        try simp only [qao, qak, qan, t_0, t_1, qgg, t_2, t_3, t_4, t_6, t_8, qam] at c33
        exact hq _ _ _ _
    · intro c34
      try simp only [qao, qak, qan, t_0, t_1, qgg, t_2, t_3, t_4, t_6, t_8, qam] at c34
      refine ⟨9, qaIh (g4 := l4) (by first | with_reducible assumption | omega | (simp only [qgg, tZ]; first | done | omega)) (by first | with_reducible assumption | omega | (simp only [qgg, tZ]; first | done | omega)) hq (fun y35 y36 y37 y38 y39 y40 y41 po42 po43 => ?_) 9 _ _ _ _ _ _ _ _ (by first | with_reducible assumption | omega | (simp only [qgg, tZ]; first | done | omega)) (by first | with_reducible assumption | omega | (simp only [qgg, tZ]; first | done | omega)) (by first | with_reducible assumption | omega | (simp only [qgg, tZ]; first | done | omega)) (by first | with_reducible assumption | omega | (simp only [qgg, tZ]; first | done | omega)) (by first | with_reducible assumption | omega | (simp only [qgg, tZ]; first | done | omega)) (by first | with_reducible assumption | omega | (simp only [qgg, tZ]; first | done | omega)) (by first | with_reducible assumption | omega | (simp only [qgg, tZ]; first | done | omega))⟩
      exact ih _ _ _ _ _ _ _ (by first | with_reducible assumption | omega | (simp only [qgg, tZ]; first | done | omega)) (by first | with_reducible assumption | omega | (simp only [qgg, tZ]; first | done | omega)) (by first | with_reducible assumption | omega | (simp only [qgg, tZ]; first | done | omega)) (by first | with_reducible assumption | omega | (simp only [qgg, tZ]; first | done | omega))
theorem qaDn {jaN : Int32} {jaC : Int32} {jb2 : Nat → Int32} {jgv : Nat → Int32} {jbd : Int32} {ja9 : Nat → Int32} {f0_s : Nat → Int32} {p1 : Int32} {Q : Int32 → Int32 → NI → NI → Prop} (a0 : rS jaC jaN jb2) (a1 : jaC.toInt ≤ 6) (a2 : jaN.toInt ≤ 8) (hq : ∀ (r thrown : Int32) (refused : NI) (s : NI), Q r thrown refused s) : qaa6 jaN jaC jb2 jgv jbd ja9 f0_s p1 Q := by
  refine qbO (fun y44 po45 => ?_)
  try simp only [t_0, t_1, qgg, t_2, t_3, t_4, t_6, t_8, qam] at po45
  refine qcb (by first | with_reducible assumption | omega | (simp only [qgg, tZ]; first | done | omega)) (by first | with_reducible assumption | omega | (simp only [qgg, tZ]; first | done | omega)) (by first | with_reducible assumption | omega | (simp only [qgg, tZ]; first | done | omega)) (fun y46 y47 y48 po49 => ?_)
  try simp only [t_0, t_1, qgg, t_2, t_3, t_4, t_6, t_8, qam] at po49
  refine ⟨?_, ?_⟩
  · intro c50
    try simp only [qao, qak, qan, t_0, t_1, qgg, t_2, t_3, t_4, t_6, t_8, qam] at c50
    refine qoL (by first | with_reducible assumption | omega | (simp only [qgg, tZ]; first | done | omega)) (fun y51 po52 => ?_)
    refine ⟨7, qaKa (by first | with_reducible assumption | omega | (simp only [qgg, tZ]; first | done | omega)) (by first | with_reducible assumption | omega | (simp only [qgg, tZ]; first | done | omega)) hq 7 _ _ _ _ _ _ _ (by first | with_reducible assumption | omega | (simp only [qgg, tZ]; first | done | omega)) (by first | with_reducible assumption | omega | (simp only [qgg, tZ]; first | done | omega)) (by first | with_reducible assumption | omega | (simp only [qgg, tZ]; first | done | omega)) (by first | with_reducible assumption | omega | (simp only [qgg, tZ]; first | done | omega))⟩
  · intro c53
    try simp only [qao, qak, qan, t_0, t_1, qgg, t_2, t_3, t_4, t_6, t_8, qam] at c53
    exact hq _ _ _ _
theorem qanR {jaN : Int32} {jaC : Int32} {f0_s : Nat → Int32} {jgv : Nat → Int32} {Q : Int32 → NI → Prop} {K25 : NI → Int32 → Int32 → Int32 → Prop} {g3 : Int32} (a0 : jaC.toInt ≤ 6) (a1 : jaN.toInt ≤ 8) (hq : ∀ (r : Int32) (leftBy : NI), Q r leftBy) (hK25 : ∀ (jk9 : NI) (l1 l2 l3 : Int32), (l3.toInt = g3.toInt + 1) → K25 jk9 l1 l2 l3) : ∀ (k : Nat) (jk9 : NI) (l1 l2 l3 l4 : Int32), (0 ≤ l3.toInt) → (l3.toInt < 6) → (l3.toInt = g3.toInt) → (0 ≤ l4.toInt) → (l4.toInt ≤ 8) → 8 - l4.toInt < (k : Int) → qpF jaN jaC f0_s jgv Q K25 k jk9 l1 l2 l3 l4 := by
  intro k
  induction k with
  | zero => intro jk9 l1 l2 l3 l4 i0 i1 i2 i3 i4 i5; omega
  | succ k ih =>
    intro jk9 l1 l2 l3 l4 i0 i1 i2 i3 i4 i5
    refine ⟨?_, ?_⟩
    · intro c1
      try simp only [qao, qak, qan, tY] at c1
      intro y2 e3
      try have h4 : (l3 + 1).toInt = (l3.toInt + 1) := by rw [qap] <;> (try simp only [tY]) <;> omega
      try have h5 : y2.toInt = (l3.toInt + 1) := by rw [e3]; exact h4
      exact hK25 _ _ _ _ (by first | with_reducible assumption | omega | (simp only [tZ]; first | done | omega))
    · intro c6
      try simp only [qao, qak, qan, tY] at c6
      refine qaou (by first | with_reducible assumption | omega | (simp only [tZ]; first | done | omega)) (by first | with_reducible assumption | omega | (simp only [tZ]; first | done | omega)) (by first | with_reducible assumption | omega | (simp only [tZ]; first | done | omega)) (by first | with_reducible assumption | omega | (simp only [tZ]; first | done | omega)) (fun y7 po8 => ?_)
      try simp only [tY] at po8
      refine ⟨?_, ?_⟩
      · intro c9
        try simp only [qao, qak, qan, tY] at c9
        refine q0F (by first | with_reducible assumption | omega | (simp only [tZ]; first | done | omega)) (by first | with_reducible assumption | omega | (simp only [tZ]; first | done | omega)) (by first | with_reducible assumption | omega | (simp only [tZ]; first | done | omega)) (fun y10 po11 po12 => ?_)
        try simp only [tY] at po11
        try simp only [tY] at po12
        refine ⟨qa6 (by first | with_reducible assumption | omega | (simp only [tZ]; first | done | omega)) (by first | with_reducible assumption | omega | (simp only [tZ]; first | done | omega)), ?_⟩
        intro y13 e14
        have h15 : y13.toInt = (jk9 y10.toNatClampNeg).toInt := by rw [e14]
        intro y16 e17
        try have h18 : (y13 + 1).toInt = (y13.toInt + 1) := by rw [qap] <;> (try simp only [tY]) <;> omega
        try have h19 : y16.toInt = (y13.toInt + 1) := by rw [e17]; exact h18
        refine ⟨qa6 (by first | with_reducible assumption | omega | (simp only [tZ]; first | done | omega)) (by first | with_reducible assumption | omega | (simp only [tZ]; first | done | omega)), ?_⟩
        intro y20 e21
        refine ⟨qa6 (by first | with_reducible assumption | omega | (simp only [tZ]; first | done | omega)) (by first | with_reducible assumption | omega | (simp only [tZ]; first | done | omega)), ?_⟩
        intro y22 e23
        have h24 : y22.toInt = (y20 y10.toNatClampNeg).toInt := by rw [e23]
        refine ⟨?_, ?_⟩
        · intro c25
          try simp only [qao, qak, qan, tY] at c25
          intro y26 e27
          try have h28 : (l4 + 1).toInt = (l4.toInt + 1) := by rw [qap] <;> (try simp only [tY]) <;> omega
          try have h29 : y26.toInt = (l4.toInt + 1) := by rw [e27]; exact h28
          exact ih _ _ _ _ _ (by first | with_reducible assumption | omega | (simp only [tZ]; first | done | omega)) (by first | with_reducible assumption | omega | (simp only [tZ]; first | done | omega)) (by first | with_reducible assumption | omega | (simp only [tZ]; first | done | omega)) (by first | with_reducible assumption | omega | (simp only [tZ]; first | done | omega)) (by first | with_reducible assumption | omega | (simp only [tZ]; first | done | omega)) (by first | with_reducible assumption | omega | (simp only [tZ]; first | done | omega))
        · intro c30
          try simp only [qao, qak, qan, tY] at c30
          refine ⟨qa6 (by first | with_reducible assumption | omega | (simp only [tZ]; first | done | omega)) (by first | with_reducible assumption | omega | (simp only [tZ]; first | done | omega)), ?_⟩
          intro y31 e32
          have h33 : y31.toInt = (y20 y10.toNatClampNeg).toInt := by rw [e32]
          intro y34 e35
          try have h36 : (l4 + 1).toInt = (l4.toInt + 1) := by rw [qap] <;> (try simp only [tY]) <;> omega
          try have h37 : y34.toInt = (l4.toInt + 1) := by rw [e35]; exact h36
          exact ih _ _ _ _ _ (by first | with_reducible assumption | omega | (simp only [tZ]; first | done | omega)) (by first | with_reducible assumption | omega | (simp only [tZ]; first | done | omega)) (by first | with_reducible assumption | omega | (simp only [tZ]; first | done | omega)) (by first | with_reducible assumption | omega | (simp only [tZ]; first | done | omega)) (by first | with_reducible assumption | omega | (simp only [tZ]; first | done | omega)) (by first | with_reducible assumption | omega | (simp only [tZ]; first | done | omega))
      · intro c38
        try simp only [qao, qak, qan, tY] at c38
        intro y39 e40
        try have h41 : (l4 + 1).toInt = (l4.toInt + 1) := by rw [qap] <;> (try simp only [tY]) <;> omega
        try have h42 : y39.toInt = (l4.toInt + 1) := by rw [e40]; exact h41
        exact ih _ _ _ _ _ (by first | with_reducible assumption | omega | (simp only [tZ]; first | done | omega)) (by first | with_reducible assumption | omega | (simp only [tZ]; first | done | omega)) (by first | with_reducible assumption | omega | (simp only [tZ]; first | done | omega)) (by first | with_reducible assumption | omega | (simp only [tZ]; first | done | omega)) (by first | with_reducible assumption | omega | (simp only [tZ]; first | done | omega)) (by first | with_reducible assumption | omega | (simp only [tZ]; first | done | omega))
theorem qakS {jaN : Int32} {jaC : Int32} {f0_s : Nat → Int32} {jgv : Nat → Int32} {Q : Int32 → NI → Prop} (a0 : jaC.toInt ≤ 6) (a1 : jaN.toInt ≤ 8) (hq : ∀ (r : Int32) (leftBy : NI), Q r leftBy) : ∀ (k : Nat) (jk9 : NI) (l1 l2 l3 : Int32), (0 ≤ l3.toInt) → (l3.toInt ≤ 6) → 6 - l3.toInt < (k : Int) → qyF jaN jaC f0_s jgv Q k jk9 l1 l2 l3 := by
  intro k
  induction k with
  | zero => intro jk9 l1 l2 l3 i0 i1 i2; omega
  | succ k ih =>
    intro jk9 l1 l2 l3 i0 i1 i2
    refine ⟨?_, ?_⟩
    · intro c43
      try simp only [qao, qak, qan, tY] at c43
      exact hq _ _
    · intro c44
      try simp only [qao, qak, qan, tY] at c44
      refine ⟨9, qanR (g3 := l3) (by first | with_reducible assumption | omega | (simp only [tZ]; first | done | omega)) (by first | with_reducible assumption | omega | (simp only [tZ]; first | done | omega)) hq (fun y45 y46 y47 y48 po49 => ?_) 9 _ _ _ _ _ (by first | with_reducible assumption | omega | (simp only [tZ]; first | done | omega)) (by first | with_reducible assumption | omega | (simp only [tZ]; first | done | omega)) (by first | with_reducible assumption | omega | (simp only [tZ]; first | done | omega)) (by first | with_reducible assumption | omega | (simp only [tZ]; first | done | omega)) (by first | with_reducible assumption | omega | (simp only [tZ]; first | done | omega)) (by first | with_reducible assumption | omega | (simp only [tZ]; first | done | omega))⟩
      exact ih _ _ _ _ (by first | with_reducible assumption | omega | (simp only [tZ]; first | done | omega)) (by first | with_reducible assumption | omega | (simp only [tZ]; first | done | omega)) (by first | with_reducible assumption | omega | (simp only [tZ]; first | done | omega))
theorem qas2 {jaN : Int32} {jaC : Int32} {f0_s : Nat → Int32} {jgv : Nat → Int32} {Q : Int32 → NI → Prop} (a0 : jaC.toInt ≤ 6) (a1 : jaN.toInt ≤ 8) (hq : ∀ (r : Int32) (leftBy : NI), Q r leftBy) : ∀ (k : Nat) (jk9 : NI) (l1 l2 : Int32), (0 ≤ l2.toInt) → (l2.toInt ≤ 7) → 7 - l2.toInt < (k : Int) → qEA jaN jaC f0_s jgv Q k jk9 l1 l2 := by
  intro k
  induction k with
  | zero => intro jk9 l1 l2 i0 i1 i2; omega
  | succ k ih =>
    intro jk9 l1 l2 i0 i1 i2
    refine ⟨?_, ?_⟩
    · intro c50
      try simp only [qao, qak, qan, tY] at c50
      refine ⟨7, qakS (by first | with_reducible assumption | omega | (simp only [tZ]; first | done | omega)) (by first | with_reducible assumption | omega | (simp only [tZ]; first | done | omega)) hq 7 _ _ _ _ (by first | with_reducible assumption | omega | (simp only [tZ]; first | done | omega)) (by first | with_reducible assumption | omega | (simp only [tZ]; first | done | omega)) (by first | with_reducible assumption | omega | (simp only [tZ]; first | done | omega))⟩
    · intro c51
      try simp only [qao, qak, qan, tY] at c51
      refine ⟨qa6 (by first | with_reducible assumption | omega | (simp only [tZ]; first | done | omega)) (by first | with_reducible assumption | omega | (simp only [tZ]; first | done | omega)), ?_⟩
      intro y52 e53
      intro y54 e55
      try have h56 : (l2 + 1).toInt = (l2.toInt + 1) := by rw [qap] <;> (try simp only [tY]) <;> omega
      try have h57 : y54.toInt = (l2.toInt + 1) := by rw [e55]; exact h56
      exact ih _ _ _ (by first | with_reducible assumption | omega | (simp only [tZ]; first | done | omega)) (by first | with_reducible assumption | omega | (simp only [tZ]; first | done | omega)) (by first | with_reducible assumption | omega | (simp only [tZ]; first | done | omega))
theorem qaFT {jaN : Int32} {jaC : Int32} {f0_s : Nat → Int32} {jgv : Nat → Int32} {jk9 : Nat → Int32} {p1 : Int32} {Q : Int32 → NI → Prop} (a0 : jaC.toInt ≤ 6) (a1 : jaN.toInt ≤ 8) (hq : ∀ (r : Int32) (leftBy : NI), Q r leftBy) : qTe jaN jaC f0_s jgv jk9 p1 Q := by
  refine ⟨8, qas2 (by first | with_reducible assumption | omega | (simp only [tZ]; first | done | omega)) (by first | with_reducible assumption | omega | (simp only [tZ]; first | done | omega)) hq 8 _ _ _ (by first | with_reducible assumption | omega | (simp only [tZ]; first | done | omega)) (by first | with_reducible assumption | omega | (simp only [tZ]; first | done | omega)) (by first | with_reducible assumption | omega | (simp only [tZ]; first | done | omega))⟩
theorem qaH9 {jaN : Int32} {jaC : Int32} {jb2 : Nat → Int32} {jgv : Nat → Int32} {Q : Int32 → Int32 → NI → NI → NI → Prop} (a0 : rS jaC jaN jb2) (a1 : jaC.toInt ≤ 6) (a2 : jaN.toInt ≤ 8) (hq : ∀ (r thrown : Int32) (refused : NI) (s : NI) (leftBy : NI), Q r thrown refused s leftBy) : ∀ (k : Nat) (jbd : Int32) (ja9 : NI) (f0_s : NI) (jk9 : NI) (l1 l2 l3 l4 : Int32), (rS jaC jaN f0_s) → (0 ≤ l4.toInt) → (l4.toInt ≤ 8) → 8 - l4.toInt < (k : Int) → qqz jaN jaC jb2 jgv Q k jbd ja9 f0_s jk9 l1 l2 l3 l4 := by
  intro k
  induction k with
  | zero => intro jbd ja9 f0_s jk9 l1 l2 l3 l4 i0 i1 i2 i3; omega
  | succ k ih =>
    intro jbd ja9 f0_s jk9 l1 l2 l3 l4 i0 i1 i2 i3
    refine ⟨?_, ?_⟩
    · intro c1
      try simp only [qao, qak, qan, tY] at c1
      refine ⟨?_, ?_⟩
      · intro c2
        try simp only [qao, qak, qan, tY] at c2
        exact hq _ _ _ _ _
      · intro c3
        try simp only [qao, qak, qan, tY] at c3
        exact hq _ _ _ _ _
    · intro c4
      try simp only [qao, qak, qan, tY] at c4
      refine ⟨qa6 (by first | with_reducible assumption | omega | (simp only [tZ]; first | done | omega)) (by first | with_reducible assumption | omega | (simp only [tZ]; first | done | omega)), ?_⟩
      intro y5 e6
      have h7 : y5.toInt = (jgv l4.toNatClampNeg).toInt := by rw [e6]
      refine ⟨?_, ?_⟩
      · intro c8
        try simp only [qao, qak, qan, tY] at c8
        refine qaFT (by first | with_reducible assumption | omega | (simp only [tZ]; first | done | omega)) (by first | with_reducible assumption | omega | (simp only [tZ]; first | done | omega)) (fun y9 y10 => ?_)
        refine ⟨?_, ?_⟩
        · intro c11
          try simp only [qao, qak, qan, tY] at c11
          intro y12 e13
          try have h14 : (l4 + 1).toInt = (l4.toInt + 1) := by rw [qap] <;> (try simp only [tY]) <;> omega
          try have h15 : y12.toInt = (l4.toInt + 1) := by rw [e13]; exact h14
          exact ih _ _ _ _ _ _ _ _ (by first | with_reducible assumption | omega | (simp only [tZ]; first | done | omega)) (by first | with_reducible assumption | omega | (simp only [tZ]; first | done | omega)) (by first | with_reducible assumption | omega | (simp only [tZ]; first | done | omega)) (by first | with_reducible assumption | omega | (simp only [tZ]; first | done | omega))
        · intro c16
          try simp only [qao, qak, qan, tY] at c16
          refine ⟨?_, ?_⟩
          · intro c17
            try simp only [qao, qak, qan, tY] at c17
            intro y18 e19
            try have h20 : (l4 + 1).toInt = (l4.toInt + 1) := by rw [qap] <;> (try simp only [tY]) <;> omega
            try have h21 : y18.toInt = (l4.toInt + 1) := by rw [e19]; exact h20
            exact ih _ _ _ _ _ _ _ _ (by first | with_reducible assumption | omega | (simp only [tZ]; first | done | omega)) (by first | with_reducible assumption | omega | (simp only [tZ]; first | done | omega)) (by first | with_reducible assumption | omega | (simp only [tZ]; first | done | omega)) (by first | with_reducible assumption | omega | (simp only [tZ]; first | done | omega))
          · intro c22
            try simp only [qao, qak, qan, tY] at c22
            intro y23 e24
            try have h25 : (l4 + 1).toInt = (l4.toInt + 1) := by rw [qap] <;> (try simp only [tY]) <;> omega
            try have h26 : y23.toInt = (l4.toInt + 1) := by rw [e24]; exact h25
            exact ih _ _ _ _ _ _ _ _ (by first | with_reducible assumption | omega | (simp only [tZ]; first | done | omega)) (by first | with_reducible assumption | omega | (simp only [tZ]; first | done | omega)) (by first | with_reducible assumption | omega | (simp only [tZ]; first | done | omega)) (by first | with_reducible assumption | omega | (simp only [tZ]; first | done | omega))
      · intro c27
        try simp only [qao, qak, qan, tY] at c27
        intro y28 e29
        try have h30 : (l4 + 1).toInt = (l4.toInt + 1) := by rw [qap] <;> (try simp only [tY]) <;> omega
        try have h31 : y28.toInt = (l4.toInt + 1) := by rw [e29]; exact h30
        exact ih _ _ _ _ _ _ _ _ (by first | with_reducible assumption | omega | (simp only [tZ]; first | done | omega)) (by first | with_reducible assumption | omega | (simp only [tZ]; first | done | omega)) (by first | with_reducible assumption | omega | (simp only [tZ]; first | done | omega)) (by first | with_reducible assumption | omega | (simp only [tZ]; first | done | omega))
theorem qaCw {jaN : Int32} {jaC : Int32} {jb2 : Nat → Int32} {jgv : Nat → Int32} {jbd : Int32} {ja9 : Nat → Int32} {f0_s : Nat → Int32} {jk9 : Nat → Int32} {p1 : Int32} {Q : Int32 → Int32 → NI → NI → NI → Prop} (a0 : rS jaC jaN jb2) (a1 : jaC.toInt ≤ 6) (a2 : jaN.toInt ≤ 8) (hq : ∀ (r thrown : Int32) (refused : NI) (s : NI) (leftBy : NI), Q r thrown refused s leftBy) : qaas jaN jaC jb2 jgv jbd ja9 f0_s jk9 p1 Q := by
  refine qbO (fun y32 po33 => ?_)
  try simp only [tY] at po33
  refine qcb (by first | with_reducible assumption | omega | (simp only [tZ]; first | done | omega)) (by first | with_reducible assumption | omega | (simp only [tZ]; first | done | omega)) (by first | with_reducible assumption | omega | (simp only [tZ]; first | done | omega)) (fun y34 y35 y36 po37 => ?_)
  try simp only [tY] at po37
  refine ⟨?_, ?_⟩
  · intro c38
    try simp only [qao, qak, qan, tY] at c38
    refine qoL (by first | with_reducible assumption | omega | (simp only [tZ]; first | done | omega)) (fun y39 po40 => ?_)
    refine ⟨9, qaH9 (by first | with_reducible assumption | omega | (simp only [tZ]; first | done | omega)) (by first | with_reducible assumption | omega | (simp only [tZ]; first | done | omega)) (by first | with_reducible assumption | omega | (simp only [tZ]; first | done | omega)) hq 9 _ _ _ _ _ _ _ _ (by first | with_reducible assumption | omega | (simp only [tZ]; first | done | omega)) (by first | with_reducible assumption | omega | (simp only [tZ]; first | done | omega)) (by first | with_reducible assumption | omega | (simp only [tZ]; first | done | omega)) (by first | with_reducible assumption | omega | (simp only [tZ]; first | done | omega))⟩
  · intro c41
    try simp only [qao, qak, qan, tY] at c41
    exact hq _ _ _ _ _
theorem qazb {jaN : Int32} {jbv : Nat → Int32} {Q : Int32 → Int32 → NI → Prop} {K27 : Int32 → NI → Int32 → Int32 → Int32 → Prop} {K43 : Int32 → NI → Int32 → Int32 → Int32 → Int32 → Int32 → Prop} {g3 : Int32} {g5 : Int32} (a0 : 0 ≤ jaN.toInt) (a1 : jaN.toInt ≤ 8) (hq : ∀ (r thrown : Int32) (refused : NI), Q r thrown refused) (hK27 : ∀ (jbd : Int32) (ja9 : NI) (l1 l2 l3 : Int32), (l3.toInt = g3.toInt + 1) → K27 jbd ja9 l1 l2 l3) (hK43 : ∀ (jbd : Int32) (ja9 : NI) (l1 l2 l3 l4 l5 : Int32), (l3.toInt = g3.toInt) → (l5.toInt = g5.toInt + 1) → K43 jbd ja9 l1 l2 l3 l4 l5) : ∀ (k : Nat) (jbd : Int32) (ja9 : NI) (l1 l2 l3 l4 l5 l6 l7 : Int32), (0 ≤ l3.toInt) → (l3.toInt < 256) → (l3.toInt = g3.toInt) → (0 ≤ l5.toInt) → (l5.toInt < 8) → (l5.toInt = g5.toInt) → (0 ≤ l7.toInt) → (l7.toInt ≤ 8) → 8 - l7.toInt < (k : Int) → qpn jaN jbv Q K27 K43 k jbd ja9 l1 l2 l3 l4 l5 l6 l7 := by
  intro k
  induction k with
  | zero => intro jbd ja9 l1 l2 l3 l4 l5 l6 l7 i0 i1 i2 i3 i4 i5 i6 i7 i8; omega
  | succ k ih =>
    intro jbd ja9 l1 l2 l3 l4 l5 l6 l7 i0 i1 i2 i3 i4 i5 i6 i7 i8
    refine ⟨?_, ?_⟩
    · intro c1
      try simp only [qao, qak, qan, t_0, t_1, t_2, t_3, t_4, t_6, qlh, t_8, qam] at c1
      refine ⟨?_, ?_⟩
      · intro c2
        try simp only [qao, qak, qan, t_0, t_1, t_2, t_3, t_4, t_6, qlh, t_8, qam] at c2
        intro y3 e4
        try have h5 : (l5 + 1).toInt = (l5.toInt + 1) := by rw [qap] <;> (try simp only [t_0, t_1, t_2, t_3, t_4, t_6, qlh, t_8, qam]) <;> omega
        try have h6 : y3.toInt = (l5.toInt + 1) := by rw [e4]; exact h5
        exact hK43 _ _ _ _ _ _ _ (by first | with_reducible assumption | omega | (simp only [qlh, tZ]; first | done | omega)) (by first | with_reducible assumption | omega | (simp only [qlh, tZ]; first | done | omega))
      · intro c7
        try simp only [qao, qak, qan, t_0, t_1, t_2, t_3, t_4, t_6, qlh, t_8, qam] at c7
        refine ⟨?_, ?_⟩
        · intro c8
          try simp only [qao, qak, qan, t_0, t_1, t_2, t_3, t_4, t_6, qlh, t_8, qam] at c8
          intro y9 e10
          try have h11 : (l5 + 1).toInt = (l5.toInt + 1) := by rw [qap] <;> (try simp only [t_0, t_1, t_2, t_3, t_4, t_6, qlh, t_8, qam]) <;> omega
          try have h12 : y9.toInt = (l5.toInt + 1) := by rw [e10]; exact h11
          exact hK43 _ _ _ _ _ _ _ (by first | with_reducible assumption | omega | (simp only [qlh, tZ]; first | done | omega)) (by first | with_reducible assumption | omega | (simp only [qlh, tZ]; first | done | omega))
        · intro c13
          try simp only [qao, qak, qan, t_0, t_1, t_2, t_3, t_4, t_6, qlh, t_8, qam] at c13
          intro y14 e15
          try have h16 : (l5 + 1).toInt = (l5.toInt + 1) := by rw [qap] <;> (try simp only [t_0, t_1, t_2, t_3, t_4, t_6, qlh, t_8, qam]) <;> omega
          try have h17 : y14.toInt = (l5.toInt + 1) := by rw [e15]; exact h16
          exact hK43 _ _ _ _ _ _ _ (by first | with_reducible assumption | omega | (simp only [qlh, tZ]; first | done | omega)) (by first | with_reducible assumption | omega | (simp only [qlh, tZ]; first | done | omega))
    · intro c18
      try simp only [qao, qak, qan, t_0, t_1, t_2, t_3, t_4, t_6, qlh, t_8, qam] at c18
      refine ⟨?_, ?_⟩
      · intro c19
        try simp only [qao, qak, qan, t_0, t_1, t_2, t_3, t_4, t_6, qlh, t_8, qam] at c19
        intro y20 e21
        try have h22 : (l7 + 1).toInt = (l7.toInt + 1) := by rw [qap] <;> (try simp only [t_0, t_1, t_2, t_3, t_4, t_6, qlh, t_8, qam]) <;> omega
        try have h23 : y20.toInt = (l7.toInt + 1) := by rw [e21]; exact h22
        exact ih _ _ _ _ _ _ _ _ _ (by first | with_reducible assumption | omega | (simp only [qlh, tZ]; first | done | omega)) (by first | with_reducible assumption | omega | (simp only [qlh, tZ]; first | done | omega)) (by first | with_reducible assumption | omega | (simp only [qlh, tZ]; first | done | omega)) (by first | with_reducible assumption | omega | (simp only [qlh, tZ]; first | done | omega)) (by first | with_reducible assumption | omega | (simp only [qlh, tZ]; first | done | omega)) (by first | with_reducible assumption | omega | (simp only [qlh, tZ]; first | done | omega)) (by first | with_reducible assumption | omega | (simp only [qlh, tZ]; first | done | omega)) (by first | with_reducible assumption | omega | (simp only [qlh, tZ]; first | done | omega)) (by first | with_reducible assumption | omega | (simp only [qlh, tZ]; first | done | omega))
      · intro c24
        try simp only [qao, qak, qan, t_0, t_1, t_2, t_3, t_4, t_6, qlh, t_8, qam] at c24
        refine ⟨?_, ?_⟩
        · intro c25
          have h26 := q55 (x := (l3 >>> (l7 &&& 31)))
          try simp only [qao, qak, qan, t_0, t_1, t_2, t_3, t_4, t_6, qlh, t_8, qam] at c25
          intro y27 e28
          try have h29 : (l7 + 1).toInt = (l7.toInt + 1) := by rw [qap] <;> (try simp only [t_0, t_1, t_2, t_3, t_4, t_6, qlh, t_8, qam]) <;> omega
          try have h30 : y27.toInt = (l7.toInt + 1) := by rw [e28]; exact h29
          exact ih _ _ _ _ _ _ _ _ _ (by first | with_reducible assumption | omega | (simp only [qlh, tZ]; first | done | omega)) (by first | with_reducible assumption | omega | (simp only [qlh, tZ]; first | done | omega)) (by first | with_reducible assumption | omega | (simp only [qlh, tZ]; first | done | omega)) (by first | with_reducible assumption | omega | (simp only [qlh, tZ]; first | done | omega)) (by first | with_reducible assumption | omega | (simp only [qlh, tZ]; first | done | omega)) (by first | with_reducible assumption | omega | (simp only [qlh, tZ]; first | done | omega)) (by first | with_reducible assumption | omega | (simp only [qlh, tZ]; first | done | omega)) (by first | with_reducible assumption | omega | (simp only [qlh, tZ]; first | done | omega)) (by first | with_reducible assumption | omega | (simp only [qlh, tZ]; first | done | omega))
        · intro c31
          have h32 := q55 (x := (l3 >>> (l7 &&& 31)))
          try simp only [qao, qak, qan, t_0, t_1, t_2, t_3, t_4, t_6, qlh, t_8, qam] at c31
          refine qBt (by first | with_reducible assumption | omega | (simp only [qlh, tZ]; first | done | omega)) (by first | with_reducible assumption | omega | (simp only [qlh, tZ]; first | done | omega)) (by first | with_reducible assumption | omega | (simp only [qlh, tZ]; first | done | omega)) (by first | with_reducible assumption | omega | (simp only [qlh, tZ]; first | done | omega)) (fun y33 => ?_)
          refine ⟨?_, ?_⟩
          · intro c34
            try simp only [qao, qak, qan, t_0, t_1, t_2, t_3, t_4, t_6, qlh, t_8, qam] at c34
            intro y35 e36
            try have h37 : (l7 + 1).toInt = (l7.toInt + 1) := by rw [qap] <;> (try simp only [t_0, t_1, t_2, t_3, t_4, t_6, qlh, t_8, qam]) <;> omega
            try have h38 : y35.toInt = (l7.toInt + 1) := by rw [e36]; exact h37
            exact ih _ _ _ _ _ _ _ _ _ (by first | with_reducible assumption | omega | (simp only [qlh, tZ]; first | done | omega)) (by first | with_reducible assumption | omega | (simp only [qlh, tZ]; first | done | omega)) (by first | with_reducible assumption | omega | (simp only [qlh, tZ]; first | done | omega)) (by first | with_reducible assumption | omega | (simp only [qlh, tZ]; first | done | omega)) (by first | with_reducible assumption | omega | (simp only [qlh, tZ]; first | done | omega)) (by first | with_reducible assumption | omega | (simp only [qlh, tZ]; first | done | omega)) (by first | with_reducible assumption | omega | (simp only [qlh, tZ]; first | done | omega)) (by first | with_reducible assumption | omega | (simp only [qlh, tZ]; first | done | omega)) (by first | with_reducible assumption | omega | (simp only [qlh, tZ]; first | done | omega))
          · intro c39
            try simp only [qao, qak, qan, t_0, t_1, t_2, t_3, t_4, t_6, qlh, t_8, qam] at c39
            intro y40 e41
            try have h42 : (l7 + 1).toInt = (l7.toInt + 1) := by rw [qap] <;> (try simp only [t_0, t_1, t_2, t_3, t_4, t_6, qlh, t_8, qam]) <;> omega
            try have h43 : y40.toInt = (l7.toInt + 1) := by rw [e41]; exact h42
            exact ih _ _ _ _ _ _ _ _ _ (by first | with_reducible assumption | omega | (simp only [qlh, tZ]; first | done | omega)) (by first | with_reducible assumption | omega | (simp only [qlh, tZ]; first | done | omega)) (by first | with_reducible assumption | omega | (simp only [qlh, tZ]; first | done | omega)) (by first | with_reducible assumption | omega | (simp only [qlh, tZ]; first | done | omega)) (by first | with_reducible assumption | omega | (simp only [qlh, tZ]; first | done | omega)) (by first | with_reducible assumption | omega | (simp only [qlh, tZ]; first | done | omega)) (by first | with_reducible assumption | omega | (simp only [qlh, tZ]; first | done | omega)) (by first | with_reducible assumption | omega | (simp only [qlh, tZ]; first | done | omega)) (by first | with_reducible assumption | omega | (simp only [qlh, tZ]; first | done | omega))
theorem qayK {jaN : Int32} {jbv : Nat → Int32} {Q : Int32 → Int32 → NI → Prop} {K27 : Int32 → NI → Int32 → Int32 → Int32 → Prop} {g3 : Int32} (a0 : 0 ≤ jaN.toInt) (a1 : jaN.toInt ≤ 8) (hq : ∀ (r thrown : Int32) (refused : NI), Q r thrown refused) (hK27 : ∀ (jbd : Int32) (ja9 : NI) (l1 l2 l3 : Int32), (l3.toInt = g3.toInt + 1) → K27 jbd ja9 l1 l2 l3) : ∀ (k : Nat) (jbd : Int32) (ja9 : NI) (l1 l2 l3 l4 l5 : Int32), (0 ≤ l3.toInt) → (l3.toInt < 256) → (l3.toInt = g3.toInt) → (0 ≤ l5.toInt) → (l5.toInt ≤ 8) → 8 - l5.toInt < (k : Int) → qB9 jaN jbv Q K27 k jbd ja9 l1 l2 l3 l4 l5 := by
  intro k
  induction k with
  | zero => intro jbd ja9 l1 l2 l3 l4 l5 i0 i1 i2 i3 i4 i5; omega
  | succ k ih =>
    intro jbd ja9 l1 l2 l3 l4 l5 i0 i1 i2 i3 i4 i5
    refine ⟨?_, ?_⟩
    · intro c44
      try simp only [qao, qak, qan, t_0, t_1, t_2, t_3, t_4, t_6, qlh, t_8, qam] at c44
      refine ⟨?_, ?_⟩
      · intro c45
        try simp only [qao, qak, qan, t_0, t_1, t_2, t_3, t_4, t_6, qlh, t_8, qam] at c45
        intro y46 e47
        try have h48 : (l3 + 1).toInt = (l3.toInt + 1) := by rw [qap] <;> (try simp only [t_0, t_1, t_2, t_3, t_4, t_6, qlh, t_8, qam]) <;> omega
        try have h49 : y46.toInt = (l3.toInt + 1) := by rw [e47]; exact h48
        exact hK27 _ _ _ _ _ (by first | with_reducible assumption | omega | (simp only [qlh, tZ]; first | done | omega))
      · intro c50
        try simp only [qao, qak, qan, t_0, t_1, t_2, t_3, t_4, t_6, qlh, t_8, qam] at c50
        refine ⟨?_, ?_⟩
        · intro c51
          try simp only [qao, qak, qan, t_0, t_1, t_2, t_3, t_4, t_6, qlh, t_8, qam] at c51
          intro y52 e53
          try have h54 : (l3 + 1).toInt = (l3.toInt + 1) := by rw [qap] <;> (try simp only [t_0, t_1, t_2, t_3, t_4, t_6, qlh, t_8, qam]) <;> omega
          try have h55 : y52.toInt = (l3.toInt + 1) := by rw [e53]; exact h54
          exact hK27 _ _ _ _ _ (by first | with_reducible assumption | omega | (simp only [qlh, tZ]; first | done | omega))
        · intro c56
          try simp only [qao, qak, qan, t_0, t_1, t_2, t_3, t_4, t_6, qlh, t_8, qam] at c56
          refine qXr (fun y57 po58 po59 po60 => ?_)
          try simp only [t_0, t_1, t_2, t_3, t_4, t_6, qlh, t_8, qam] at po58
          try simp only [t_0, t_1, t_2, t_3, t_4, t_6, qlh, t_8, qam] at po59
          try simp only [t_0, t_1, t_2, t_3, t_4, t_6, qlh, t_8, qam] at po60
          refine qXr (fun y61 po62 po63 po64 => ?_)
          try simp only [t_0, t_1, t_2, t_3, t_4, t_6, qlh, t_8, qam] at po62
          try simp only [t_0, t_1, t_2, t_3, t_4, t_6, qlh, t_8, qam] at po63
          try simp only [t_0, t_1, t_2, t_3, t_4, t_6, qlh, t_8, qam] at po64
          refine ⟨?_, ?_⟩
          · intro c65
            try simp only [qao, qak, qan, t_0, t_1, t_2, t_3, t_4, t_6, qlh, t_8, qam] at c65
            intro y66 e67
            try have h68 : (l3 + 1).toInt = (l3.toInt + 1) := by rw [qap] <;> (try simp only [t_0, t_1, t_2, t_3, t_4, t_6, qlh, t_8, qam]) <;> omega
            try have h69 : y66.toInt = (l3.toInt + 1) := by rw [e67]; exact h68
            exact hK27 _ _ _ _ _ (by first | with_reducible assumption | omega | (simp only [qlh, tZ]; first | done | omega))
          · intro c70
            try simp only [qao, qak, qan, t_0, t_1, t_2, t_3, t_4, t_6, qlh, t_8, qam] at c70
            intro y71 e72
            try have h73 : (l3 + 1).toInt = (l3.toInt + 1) := by rw [qap] <;> (try simp only [t_0, t_1, t_2, t_3, t_4, t_6, qlh, t_8, qam]) <;> omega
            try have h74 : y71.toInt = (l3.toInt + 1) := by rw [e72]; exact h73
            exact hK27 _ _ _ _ _ (by first | with_reducible assumption | omega | (simp only [qlh, tZ]; first | done | omega))
    · intro c75
      try simp only [qao, qak, qan, t_0, t_1, t_2, t_3, t_4, t_6, qlh, t_8, qam] at c75
      refine ⟨9, qazb (g3 := g3) (g5 := l5) (by first | with_reducible assumption | omega | (simp only [qlh, tZ]; first | done | omega)) (by first | with_reducible assumption | omega | (simp only [qlh, tZ]; first | done | omega)) hq hK27 (fun y76 y77 y78 y79 y80 y81 y82 po83 po84 => ?_) 9 _ _ _ _ _ _ _ _ _ (by first | with_reducible assumption | omega | (simp only [qlh, tZ]; first | done | omega)) (by first | with_reducible assumption | omega | (simp only [qlh, tZ]; first | done | omega)) (by first | with_reducible assumption | omega | (simp only [qlh, tZ]; first | done | omega)) (by first | with_reducible assumption | omega | (simp only [qlh, tZ]; first | done | omega)) (by first | with_reducible assumption | omega | (simp only [qlh, tZ]; first | done | omega)) (by first | with_reducible assumption | omega | (simp only [qlh, tZ]; first | done | omega)) (by first | with_reducible assumption | omega | (simp only [qlh, tZ]; first | done | omega)) (by first | with_reducible assumption | omega | (simp only [qlh, tZ]; first | done | omega)) (by first | with_reducible assumption | omega | (simp only [qlh, tZ]; first | done | omega))⟩
      exact ih _ _ _ _ _ _ _ (by first | with_reducible assumption | omega | (simp only [qlh, tZ]; first | done | omega)) (by first | with_reducible assumption | omega | (simp only [qlh, tZ]; first | done | omega)) (by first | with_reducible assumption | omega | (simp only [qlh, tZ]; first | done | omega)) (by first | with_reducible assumption | omega | (simp only [qlh, tZ]; first | done | omega)) (by first | with_reducible assumption | omega | (simp only [qlh, tZ]; first | done | omega)) (by first | with_reducible assumption | omega | (simp only [qlh, tZ]; first | done | omega))
theorem qaCk {jaN : Int32} {jbv : Nat → Int32} {Q : Int32 → Int32 → NI → Prop} (a0 : 0 ≤ jaN.toInt) (a1 : jaN.toInt ≤ 8) (hq : ∀ (r thrown : Int32) (refused : NI), Q r thrown refused) : ∀ (k : Nat) (jbd : Int32) (ja9 : NI) (l1 l2 l3 : Int32), (0 ≤ l3.toInt) → (l3.toInt ≤ 256) → 256 - l3.toInt < (k : Int) → qCr jaN jbv Q k jbd ja9 l1 l2 l3 := by
  intro k
  induction k with
  | zero => intro jbd ja9 l1 l2 l3 i0 i1 i2; omega
  | succ k ih =>
    intro jbd ja9 l1 l2 l3 i0 i1 i2
    refine ⟨?_, ?_⟩
    · intro c85
      try have h86 := qN0 (x := jaN) (by first | with_reducible assumption | omega | (simp only [qlh, tZ]; first | done | omega)) (by first | with_reducible assumption | omega | (simp only [qlh, tZ]; first | done | omega))
      try simp only [qao, qak, qan, t_0, t_1, t_2, t_3, t_4, t_6, qlh, t_8, qam] at c85
      exact hq _ _ _
    · intro c87
      try have h88 := qN0 (x := jaN) (by first | with_reducible assumption | omega | (simp only [qlh, tZ]; first | done | omega)) (by first | with_reducible assumption | omega | (simp only [qlh, tZ]; first | done | omega))
      try simp only [qao, qak, qan, t_0, t_1, t_2, t_3, t_4, t_6, qlh, t_8, qam] at c87
      refine ⟨9, qayK (g3 := l3) (by first | with_reducible assumption | omega | (simp only [qlh, tZ]; first | done | omega)) (by first | with_reducible assumption | omega | (simp only [qlh, tZ]; first | done | omega)) hq (fun y89 y90 y91 y92 y93 po94 => ?_) 9 _ _ _ _ _ _ _ (by first | with_reducible assumption | omega | (simp only [qlh, tZ]; first | done | omega)) (by first | with_reducible assumption | omega | (simp only [qlh, tZ]; first | done | omega)) (by first | with_reducible assumption | omega | (simp only [qlh, tZ]; first | done | omega)) (by first | with_reducible assumption | omega | (simp only [qlh, tZ]; first | done | omega)) (by first | with_reducible assumption | omega | (simp only [qlh, tZ]; first | done | omega)) (by first | with_reducible assumption | omega | (simp only [qlh, tZ]; first | done | omega))⟩
      exact ih _ _ _ _ _ (by first | with_reducible assumption | omega | (simp only [qlh, tZ]; first | done | omega)) (by first | with_reducible assumption | omega | (simp only [qlh, tZ]; first | done | omega)) (by first | with_reducible assumption | omega | (simp only [qlh, tZ]; first | done | omega))
theorem qaoF {jaN : Int32} {jbv : Nat → Int32} {jbd : Int32} {ja9 : Nat → Int32} {p1 : Int32} {Q : Int32 → Int32 → NI → Prop} (a0 : 0 ≤ jaN.toInt) (a1 : jaN.toInt ≤ 8) (hq : ∀ (r thrown : Int32) (refused : NI), Q r thrown refused) : q0O jaN jbv jbd ja9 p1 Q := by
  refine qbO (fun y95 po96 => ?_)
  try simp only [t_0, t_1, t_2, t_3, t_4, t_6, qlh, t_8, qam] at po96
  refine qcb (by first | with_reducible assumption | omega | (simp only [qlh, tZ]; first | done | omega)) (by first | with_reducible assumption | omega | (simp only [qlh, tZ]; first | done | omega)) (by first | with_reducible assumption | omega | (simp only [qlh, tZ]; first | done | omega)) (fun y97 y98 y99 po100 => ?_)
  try simp only [t_0, t_1, t_2, t_3, t_4, t_6, qlh, t_8, qam] at po100
  refine ⟨?_, ?_⟩
  · intro c101
    try simp only [qao, qak, qan, t_0, t_1, t_2, t_3, t_4, t_6, qlh, t_8, qam] at c101
    refine ⟨257, qaCk (by first | with_reducible assumption | omega | (simp only [qlh, tZ]; first | done | omega)) (by first | with_reducible assumption | omega | (simp only [qlh, tZ]; first | done | omega)) hq 257 _ _ _ _ _ (by first | with_reducible assumption | omega | (simp only [qlh, tZ]; first | done | omega)) (by first | with_reducible assumption | omega | (simp only [qlh, tZ]; first | done | omega)) (by first | with_reducible assumption | omega | (simp only [qlh, tZ]; first | done | omega))⟩
  · intro c102
    try simp only [qao, qak, qan, t_0, t_1, t_2, t_3, t_4, t_6, qlh, t_8, qam] at c102
    exact hq _ _ _
theorem qal6 {jaC : Int32} {jb2 : Nat → Int32} {p1 p2 p3 p4 : Int32} {Q : Int32 → Prop} (a0 : jaC.toInt ≤ 6) (a1 : 0 ≤ p1.toInt) (a2 : p1.toInt < 64) (a3 : pcK p1 8 ≤ 0) (hq : ∀ r, Q r) : qDd jaC jb2 p1 p2 p3 p4 Q :=
  ⟨fun c => absurd (qan.mpr ((qa6D a1 a2 a3).trans t_0.symm)) c, fun _ => ⟨fun _ => hq _, fun _ => hq _⟩⟩
theorem q8Y {RS : Int32 → NI → Int32 → Int32 → Int32 → Int32 → (Int32 → Prop) → Prop} {K : Int} (hK : 1 ≤ K ∧ K ≤ 5) (hRS : ∀ {jaC : Int32} {jb2 : Nat → Int32} {p1 : Int32} {p2 : Int32} {p3 : Int32} {p4 : Int32} {Q : Int32 → Prop} (a0 : jaC.toInt ≤ 6) (a1 : 0 ≤ p1.toInt) (a2 : p1.toInt < 64) (a3 : pcK p1 8 ≤ (K - 1)) (hq : ∀ (r : Int32), Q r), RS jaC jb2 p1 p2 p3 p4 Q) {jaC : Int32} {jb2 : Nat → Int32} {Q : Int32 → Prop} (a0 : jaC.toInt ≤ 6) (hq : ∀ (r : Int32), Q r) : ∀ (k : Nat) (l1 l2 l3 l4 l5 l6 : Int32), (0 ≤ l1.toInt) → (l1.toInt < 64) → (pcK l1 8 ≤ K) → (0 ≤ l6.toInt) → (l6.toInt ≤ 6) → 6 - l6.toInt < (k : Int) → qnI RS jaC jb2 Q k l1 l2 l3 l4 l5 l6 := by
  obtain ⟨hKa, hKb⟩ := id hK
  intro k
  induction k with
  | zero => intro l1 l2 l3 l4 l5 l6 i0 i1 i2 i3 i4 i5; omega
  | succ k ih =>
    intro l1 l2 l3 l4 l5 l6 i0 i1 i2 i3 i4 i5
    refine ⟨?_, ?_⟩
    · intro c1
      try simp only [qao, qak, qan, t_0, t_1, t_2, t_3, qal, t_4, t_6, t_8, qam] at c1
      exact hq _
    · intro c2
      try simp only [qao, qak, qan, t_0, t_1, t_2, t_3, qal, t_4, t_6, t_8, qam] at c2
      refine ⟨?_, ?_⟩
      · intro c3
        have h4 := q55 (x := (l1 >>> (l6 &&& 31)))
        try simp only [qao, qak, qan, t_0, t_1, t_2, t_3, qal, t_4, t_6, t_8, qam] at c3
        intro y5 e6
        try have h7 : (6 + l6).toInt = (6 + l6.toInt) := by rw [qap] <;> (try simp only [t_0, t_1, t_2, t_3, qal, t_4, t_6, t_8, qam]) <;> omega
        try have h8 : y5.toInt = (6 + l6.toInt) := by rw [e6]; exact h7
        refine ⟨qa6 (by first | with_reducible assumption | omega | (simp only [qal, tZ]; first | done | omega)) (by first | with_reducible assumption | omega | (simp only [qal, tZ]; first | done | omega)), ?_⟩
        intro y9 e10
        have h11 : y9.toInt = (jb2 y5.toNatClampNeg).toInt := by rw [e10]
        try have h12 := qn0 (s := jb2) (x := y5) (by with_reducible assumption) (by first | with_reducible assumption | omega | (simp only [qal, tZ]; first | done | omega)) (by first | with_reducible assumption | omega | (simp only [qal, tZ]; first | done | omega))
        try have h13 := qgw (s := jb2) (x := y5) (by with_reducible assumption) (by first | with_reducible assumption | omega | (simp only [qal, tZ]; first | done | omega)) (by first | with_reducible assumption | omega | (simp only [qal, tZ]; first | done | omega))
        refine ⟨?_, ?_⟩
        · intro c14
          try simp only [qao, qak, qan, t_0, t_1, t_2, t_3, qal, t_4, t_6, t_8, qam] at c14
          refine ⟨?_, ?_⟩
          · intro c15
            try simp only [qao, qak, qan, t_0, t_1, t_2, t_3, qal, t_4, t_6, t_8, qam] at c15
            intro y16 e17
            try have h18 : (6 + l6).toInt = (6 + l6.toInt) := by rw [qap] <;> (try simp only [t_0, t_1, t_2, t_3, qal, t_4, t_6, t_8, qam]) <;> omega
            try have h19 : y16.toInt = (6 + l6.toInt) := by rw [e17]; exact h18
            refine ⟨qa6 (by first | with_reducible assumption | omega | (simp only [qal, tZ]; first | done | omega)) (by first | with_reducible assumption | omega | (simp only [qal, tZ]; first | done | omega)), ?_⟩
            intro y20 e21
            have h22 : y20.toInt = (jb2 y16.toNatClampNeg).toInt := by rw [e21]
            try have h23 := qn0 (s := jb2) (x := y16) (by with_reducible assumption) (by first | with_reducible assumption | omega | (simp only [qal, tZ]; first | done | omega)) (by first | with_reducible assumption | omega | (simp only [qal, tZ]; first | done | omega))
            try have h24 := qgw (s := jb2) (x := y16) (by with_reducible assumption) (by first | with_reducible assumption | omega | (simp only [qal, tZ]; first | done | omega)) (by first | with_reducible assumption | omega | (simp only [qal, tZ]; first | done | omega))
            intro y25 e26
            try have h27 : (y20 - 1).toInt = (y20.toInt - 1) := by rw [qpT] <;> (try simp only [t_0, t_1, t_2, t_3, qal, t_4, t_6, t_8, qam]) <;> omega
            try have h28 : y25.toInt = (y20.toInt - 1) := by rw [e26]; exact h27
            intro y29 e30
            have h31 : y29.toInt = (l1 &&& ((1 <<< (l6 &&& 31)) ^^^ (-1))).toInt := by rw [e30]
            have hp := qamV (x := l1) (i := l6) (by assumption) (by assumption) (by assumption) (by omega)
            rw [← e30] at hp
            refine ⟨?_, ?_⟩
            · intro c32
              try simp only [qao, qak, qan, t_0, t_1, t_2, t_3, qal, t_4, t_6, t_8, qam] at c32
              refine ⟨?_, ?_⟩
              · intro c33
                try simp only [qao, qak, qan, t_0, t_1, t_2, t_3, qal, t_4, t_6, t_8, qam] at c33
                refine hRS (by first | with_reducible assumption | omega | (simp only [qal, tZ]; first | done | omega)) (by first | with_reducible assumption | omega | (simp only [qal, tZ]; first | done | omega)) (by first | with_reducible assumption | omega | (simp only [qal, tZ]; first | done | omega)) (by first | with_reducible assumption | omega | (simp only [qal, tZ]; first | done | omega)) (fun y34 => ?_)
                intro y35 e36
                try have h37 : (l5 + y34).toInt = (l5.toInt + y34.toInt) := by rw [qap] <;> (try simp only [t_0, t_1, t_2, t_3, qal, t_4, t_6, t_8, qam]) <;> omega
                try have h38 : y35.toInt = (l5.toInt + y34.toInt) := by rw [e36]; exact h37
                intro y39 e40
                try have h41 : (l6 + 1).toInt = (l6.toInt + 1) := by rw [qap] <;> (try simp only [t_0, t_1, t_2, t_3, qal, t_4, t_6, t_8, qam]) <;> omega
                try have h42 : y39.toInt = (l6.toInt + 1) := by rw [e40]; exact h41
                exact ih _ _ _ _ _ _ (by first | with_reducible assumption | omega | (simp only [qal, tZ]; first | done | omega)) (by first | with_reducible assumption | omega | (simp only [qal, tZ]; first | done | omega)) (by first | with_reducible assumption | omega | (simp only [qal, tZ]; first | done | omega)) (by first | with_reducible assumption | omega | (simp only [qal, tZ]; first | done | omega)) (by first | with_reducible assumption | omega | (simp only [qal, tZ]; first | done | omega)) (by first | with_reducible assumption | omega | (simp only [qal, tZ]; first | done | omega))
              · intro c43
                try simp only [qao, qak, qan, t_0, t_1, t_2, t_3, qal, t_4, t_6, t_8, qam] at c43
                refine hRS (by first | with_reducible assumption | omega | (simp only [qal, tZ]; first | done | omega)) (by first | with_reducible assumption | omega | (simp only [qal, tZ]; first | done | omega)) (by first | with_reducible assumption | omega | (simp only [qal, tZ]; first | done | omega)) (by first | with_reducible assumption | omega | (simp only [qal, tZ]; first | done | omega)) (fun y44 => ?_)
                intro y45 e46
                try have h47 : (l5 + y44).toInt = (l5.toInt + y44.toInt) := by rw [qap] <;> (try simp only [t_0, t_1, t_2, t_3, qal, t_4, t_6, t_8, qam]) <;> omega
                try have h48 : y45.toInt = (l5.toInt + y44.toInt) := by rw [e46]; exact h47
                intro y49 e50
                try have h51 : (l6 + 1).toInt = (l6.toInt + 1) := by rw [qap] <;> (try simp only [t_0, t_1, t_2, t_3, qal, t_4, t_6, t_8, qam]) <;> omega
                try have h52 : y49.toInt = (l6.toInt + 1) := by rw [e50]; exact h51
                exact ih _ _ _ _ _ _ (by first | with_reducible assumption | omega | (simp only [qal, tZ]; first | done | omega)) (by first | with_reducible assumption | omega | (simp only [qal, tZ]; first | done | omega)) (by first | with_reducible assumption | omega | (simp only [qal, tZ]; first | done | omega)) (by first | with_reducible assumption | omega | (simp only [qal, tZ]; first | done | omega)) (by first | with_reducible assumption | omega | (simp only [qal, tZ]; first | done | omega)) (by first | with_reducible assumption | omega | (simp only [qal, tZ]; first | done | omega))
            · intro c53
              try simp only [qao, qak, qan, t_0, t_1, t_2, t_3, qal, t_4, t_6, t_8, qam] at c53
              refine ⟨?_, ?_⟩
              · intro c54
                try simp only [qao, qak, qan, t_0, t_1, t_2, t_3, qal, t_4, t_6, t_8, qam] at c54
                refine hRS (by first | with_reducible assumption | omega | (simp only [qal, tZ]; first | done | omega)) (by first | with_reducible assumption | omega | (simp only [qal, tZ]; first | done | omega)) (by first | with_reducible assumption | omega | (simp only [qal, tZ]; first | done | omega)) (by first | with_reducible assumption | omega | (simp only [qal, tZ]; first | done | omega)) (fun y55 => ?_)
                intro y56 e57
                try have h58 : (l5 + y55).toInt = (l5.toInt + y55.toInt) := by rw [qap] <;> (try simp only [t_0, t_1, t_2, t_3, qal, t_4, t_6, t_8, qam]) <;> omega
                try have h59 : y56.toInt = (l5.toInt + y55.toInt) := by rw [e57]; exact h58
                intro y60 e61
                try have h62 : (l6 + 1).toInt = (l6.toInt + 1) := by rw [qap] <;> (try simp only [t_0, t_1, t_2, t_3, qal, t_4, t_6, t_8, qam]) <;> omega
                try have h63 : y60.toInt = (l6.toInt + 1) := by rw [e61]; exact h62
                exact ih _ _ _ _ _ _ (by first | with_reducible assumption | omega | (simp only [qal, tZ]; first | done | omega)) (by first | with_reducible assumption | omega | (simp only [qal, tZ]; first | done | omega)) (by first | with_reducible assumption | omega | (simp only [qal, tZ]; first | done | omega)) (by first | with_reducible assumption | omega | (simp only [qal, tZ]; first | done | omega)) (by first | with_reducible assumption | omega | (simp only [qal, tZ]; first | done | omega)) (by first | with_reducible assumption | omega | (simp only [qal, tZ]; first | done | omega))
              · intro c64
                try simp only [qao, qak, qan, t_0, t_1, t_2, t_3, qal, t_4, t_6, t_8, qam] at c64
                refine hRS (by first | with_reducible assumption | omega | (simp only [qal, tZ]; first | done | omega)) (by first | with_reducible assumption | omega | (simp only [qal, tZ]; first | done | omega)) (by first | with_reducible assumption | omega | (simp only [qal, tZ]; first | done | omega)) (by first | with_reducible assumption | omega | (simp only [qal, tZ]; first | done | omega)) (fun y65 => ?_)
                intro y66 e67
                try have h68 : (l5 + y65).toInt = (l5.toInt + y65.toInt) := by rw [qap] <;> (try simp only [t_0, t_1, t_2, t_3, qal, t_4, t_6, t_8, qam]) <;> omega
                try have h69 : y66.toInt = (l5.toInt + y65.toInt) := by rw [e67]; exact h68
                intro y70 e71
                try have h72 : (l6 + 1).toInt = (l6.toInt + 1) := by rw [qap] <;> (try simp only [t_0, t_1, t_2, t_3, qal, t_4, t_6, t_8, qam]) <;> omega
                try have h73 : y70.toInt = (l6.toInt + 1) := by rw [e71]; exact h72
                exact ih _ _ _ _ _ _ (by first | with_reducible assumption | omega | (simp only [qal, tZ]; first | done | omega)) (by first | with_reducible assumption | omega | (simp only [qal, tZ]; first | done | omega)) (by first | with_reducible assumption | omega | (simp only [qal, tZ]; first | done | omega)) (by first | with_reducible assumption | omega | (simp only [qal, tZ]; first | done | omega)) (by first | with_reducible assumption | omega | (simp only [qal, tZ]; first | done | omega)) (by first | with_reducible assumption | omega | (simp only [qal, tZ]; first | done | omega))
          · intro c74
            try simp only [qao, qak, qan, t_0, t_1, t_2, t_3, qal, t_4, t_6, t_8, qam] at c74
            intro y75 e76
            try have h77 : (l3 - 1).toInt = (l3.toInt - 1) := by rw [qpT] <;> (try simp only [t_0, t_1, t_2, t_3, qal, t_4, t_6, t_8, qam]) <;> omega
            try have h78 : y75.toInt = (l3.toInt - 1) := by rw [e76]; exact h77
            intro y79 e80
            have h81 : y79.toInt = (l1 &&& ((1 <<< (l6 &&& 31)) ^^^ (-1))).toInt := by rw [e80]
            have hp := qamV (x := l1) (i := l6) (by assumption) (by assumption) (by assumption) (by omega)
            rw [← e80] at hp
            refine ⟨?_, ?_⟩
            · intro c82
              try simp only [qao, qak, qan, t_0, t_1, t_2, t_3, qal, t_4, t_6, t_8, qam] at c82
              refine ⟨?_, ?_⟩
              · intro c83
                try simp only [qao, qak, qan, t_0, t_1, t_2, t_3, qal, t_4, t_6, t_8, qam] at c83
                refine hRS (by first | with_reducible assumption | omega | (simp only [qal, tZ]; first | done | omega)) (by first | with_reducible assumption | omega | (simp only [qal, tZ]; first | done | omega)) (by first | with_reducible assumption | omega | (simp only [qal, tZ]; first | done | omega)) (by first | with_reducible assumption | omega | (simp only [qal, tZ]; first | done | omega)) (fun y84 => ?_)
                intro y85 e86
                try have h87 : (l5 + y84).toInt = (l5.toInt + y84.toInt) := by rw [qap] <;> (try simp only [t_0, t_1, t_2, t_3, qal, t_4, t_6, t_8, qam]) <;> omega
                try have h88 : y85.toInt = (l5.toInt + y84.toInt) := by rw [e86]; exact h87
                intro y89 e90
                try have h91 : (l6 + 1).toInt = (l6.toInt + 1) := by rw [qap] <;> (try simp only [t_0, t_1, t_2, t_3, qal, t_4, t_6, t_8, qam]) <;> omega
                try have h92 : y89.toInt = (l6.toInt + 1) := by rw [e90]; exact h91
                exact ih _ _ _ _ _ _ (by first | with_reducible assumption | omega | (simp only [qal, tZ]; first | done | omega)) (by first | with_reducible assumption | omega | (simp only [qal, tZ]; first | done | omega)) (by first | with_reducible assumption | omega | (simp only [qal, tZ]; first | done | omega)) (by first | with_reducible assumption | omega | (simp only [qal, tZ]; first | done | omega)) (by first | with_reducible assumption | omega | (simp only [qal, tZ]; first | done | omega)) (by first | with_reducible assumption | omega | (simp only [qal, tZ]; first | done | omega))
              · intro c93
                try simp only [qao, qak, qan, t_0, t_1, t_2, t_3, qal, t_4, t_6, t_8, qam] at c93
                refine hRS (by first | with_reducible assumption | omega | (simp only [qal, tZ]; first | done | omega)) (by first | with_reducible assumption | omega | (simp only [qal, tZ]; first | done | omega)) (by first | with_reducible assumption | omega | (simp only [qal, tZ]; first | done | omega)) (by first | with_reducible assumption | omega | (simp only [qal, tZ]; first | done | omega)) (fun y94 => ?_)
                intro y95 e96
                try have h97 : (l5 + y94).toInt = (l5.toInt + y94.toInt) := by rw [qap] <;> (try simp only [t_0, t_1, t_2, t_3, qal, t_4, t_6, t_8, qam]) <;> omega
                try have h98 : y95.toInt = (l5.toInt + y94.toInt) := by rw [e96]; exact h97
                intro y99 e100
                try have h101 : (l6 + 1).toInt = (l6.toInt + 1) := by rw [qap] <;> (try simp only [t_0, t_1, t_2, t_3, qal, t_4, t_6, t_8, qam]) <;> omega
                try have h102 : y99.toInt = (l6.toInt + 1) := by rw [e100]; exact h101
                exact ih _ _ _ _ _ _ (by first | with_reducible assumption | omega | (simp only [qal, tZ]; first | done | omega)) (by first | with_reducible assumption | omega | (simp only [qal, tZ]; first | done | omega)) (by first | with_reducible assumption | omega | (simp only [qal, tZ]; first | done | omega)) (by first | with_reducible assumption | omega | (simp only [qal, tZ]; first | done | omega)) (by first | with_reducible assumption | omega | (simp only [qal, tZ]; first | done | omega)) (by first | with_reducible assumption | omega | (simp only [qal, tZ]; first | done | omega))
            · intro c103
              try simp only [qao, qak, qan, t_0, t_1, t_2, t_3, qal, t_4, t_6, t_8, qam] at c103
              refine ⟨?_, ?_⟩
              · intro c104
                try simp only [qao, qak, qan, t_0, t_1, t_2, t_3, qal, t_4, t_6, t_8, qam] at c104
                refine hRS (by first | with_reducible assumption | omega | (simp only [qal, tZ]; first | done | omega)) (by first | with_reducible assumption | omega | (simp only [qal, tZ]; first | done | omega)) (by first | with_reducible assumption | omega | (simp only [qal, tZ]; first | done | omega)) (by first | with_reducible assumption | omega | (simp only [qal, tZ]; first | done | omega)) (fun y105 => ?_)
                intro y106 e107
                try have h108 : (l5 + y105).toInt = (l5.toInt + y105.toInt) := by rw [qap] <;> (try simp only [t_0, t_1, t_2, t_3, qal, t_4, t_6, t_8, qam]) <;> omega
                try have h109 : y106.toInt = (l5.toInt + y105.toInt) := by rw [e107]; exact h108
                intro y110 e111
                try have h112 : (l6 + 1).toInt = (l6.toInt + 1) := by rw [qap] <;> (try simp only [t_0, t_1, t_2, t_3, qal, t_4, t_6, t_8, qam]) <;> omega
                try have h113 : y110.toInt = (l6.toInt + 1) := by rw [e111]; exact h112
                exact ih _ _ _ _ _ _ (by first | with_reducible assumption | omega | (simp only [qal, tZ]; first | done | omega)) (by first | with_reducible assumption | omega | (simp only [qal, tZ]; first | done | omega)) (by first | with_reducible assumption | omega | (simp only [qal, tZ]; first | done | omega)) (by first | with_reducible assumption | omega | (simp only [qal, tZ]; first | done | omega)) (by first | with_reducible assumption | omega | (simp only [qal, tZ]; first | done | omega)) (by first | with_reducible assumption | omega | (simp only [qal, tZ]; first | done | omega))
              · intro c114
                try simp only [qao, qak, qan, t_0, t_1, t_2, t_3, qal, t_4, t_6, t_8, qam] at c114
                refine hRS (by first | with_reducible assumption | omega | (simp only [qal, tZ]; first | done | omega)) (by first | with_reducible assumption | omega | (simp only [qal, tZ]; first | done | omega)) (by first | with_reducible assumption | omega | (simp only [qal, tZ]; first | done | omega)) (by first | with_reducible assumption | omega | (simp only [qal, tZ]; first | done | omega)) (fun y115 => ?_)
                intro y116 e117
                try have h118 : (l5 + y115).toInt = (l5.toInt + y115.toInt) := by rw [qap] <;> (try simp only [t_0, t_1, t_2, t_3, qal, t_4, t_6, t_8, qam]) <;> omega
                try have h119 : y116.toInt = (l5.toInt + y115.toInt) := by rw [e117]; exact h118
                intro y120 e121
                try have h122 : (l6 + 1).toInt = (l6.toInt + 1) := by rw [qap] <;> (try simp only [t_0, t_1, t_2, t_3, qal, t_4, t_6, t_8, qam]) <;> omega
                try have h123 : y120.toInt = (l6.toInt + 1) := by rw [e121]; exact h122
                exact ih _ _ _ _ _ _ (by first | with_reducible assumption | omega | (simp only [qal, tZ]; first | done | omega)) (by first | with_reducible assumption | omega | (simp only [qal, tZ]; first | done | omega)) (by first | with_reducible assumption | omega | (simp only [qal, tZ]; first | done | omega)) (by first | with_reducible assumption | omega | (simp only [qal, tZ]; first | done | omega)) (by first | with_reducible assumption | omega | (simp only [qal, tZ]; first | done | omega)) (by first | with_reducible assumption | omega | (simp only [qal, tZ]; first | done | omega))
        · intro c124
          try simp only [qao, qak, qan, t_0, t_1, t_2, t_3, qal, t_4, t_6, t_8, qam] at c124
          refine ⟨?_, ?_⟩
          · intro c125
            try simp only [qao, qak, qan, t_0, t_1, t_2, t_3, qal, t_4, t_6, t_8, qam] at c125
            intro y126 e127
            try have h128 : (6 + l6).toInt = (6 + l6.toInt) := by rw [qap] <;> (try simp only [t_0, t_1, t_2, t_3, qal, t_4, t_6, t_8, qam]) <;> omega
            try have h129 : y126.toInt = (6 + l6.toInt) := by rw [e127]; exact h128
            refine ⟨qa6 (by first | with_reducible assumption | omega | (simp only [qal, tZ]; first | done | omega)) (by first | with_reducible assumption | omega | (simp only [qal, tZ]; first | done | omega)), ?_⟩
            intro y130 e131
            have h132 : y130.toInt = (jb2 y126.toNatClampNeg).toInt := by rw [e131]
            try have h133 := qn0 (s := jb2) (x := y126) (by with_reducible assumption) (by first | with_reducible assumption | omega | (simp only [qal, tZ]; first | done | omega)) (by first | with_reducible assumption | omega | (simp only [qal, tZ]; first | done | omega))
            try have h134 := qgw (s := jb2) (x := y126) (by with_reducible assumption) (by first | with_reducible assumption | omega | (simp only [qal, tZ]; first | done | omega)) (by first | with_reducible assumption | omega | (simp only [qal, tZ]; first | done | omega))
            intro y135 e136
            try have h137 : (y130 - 1).toInt = (y130.toInt - 1) := by rw [qpT] <;> (try simp only [t_0, t_1, t_2, t_3, qal, t_4, t_6, t_8, qam]) <;> omega
            try have h138 : y135.toInt = (y130.toInt - 1) := by rw [e136]; exact h137
            intro y139 e140
            have h141 : y139.toInt = (l1 &&& ((1 <<< (l6 &&& 31)) ^^^ (-1))).toInt := by rw [e140]
            have hp := qamV (x := l1) (i := l6) (by assumption) (by assumption) (by assumption) (by omega)
            rw [← e140] at hp
            refine ⟨?_, ?_⟩
            · intro c142
              try simp only [qao, qak, qan, t_0, t_1, t_2, t_3, qal, t_4, t_6, t_8, qam] at c142
              refine ⟨?_, ?_⟩
              · intro c143
                try simp only [qao, qak, qan, t_0, t_1, t_2, t_3, qal, t_4, t_6, t_8, qam] at c143
                refine hRS (by first | with_reducible assumption | omega | (simp only [qal, tZ]; first | done | omega)) (by first | with_reducible assumption | omega | (simp only [qal, tZ]; first | done | omega)) (by first | with_reducible assumption | omega | (simp only [qal, tZ]; first | done | omega)) (by first | with_reducible assumption | omega | (simp only [qal, tZ]; first | done | omega)) (fun y144 => ?_)
                intro y145 e146
                try have h147 : (l5 + y144).toInt = (l5.toInt + y144.toInt) := by rw [qap] <;> (try simp only [t_0, t_1, t_2, t_3, qal, t_4, t_6, t_8, qam]) <;> omega
                try have h148 : y145.toInt = (l5.toInt + y144.toInt) := by rw [e146]; exact h147
                intro y149 e150
                try have h151 : (l6 + 1).toInt = (l6.toInt + 1) := by rw [qap] <;> (try simp only [t_0, t_1, t_2, t_3, qal, t_4, t_6, t_8, qam]) <;> omega
                try have h152 : y149.toInt = (l6.toInt + 1) := by rw [e150]; exact h151
                exact ih _ _ _ _ _ _ (by first | with_reducible assumption | omega | (simp only [qal, tZ]; first | done | omega)) (by first | with_reducible assumption | omega | (simp only [qal, tZ]; first | done | omega)) (by first | with_reducible assumption | omega | (simp only [qal, tZ]; first | done | omega)) (by first | with_reducible assumption | omega | (simp only [qal, tZ]; first | done | omega)) (by first | with_reducible assumption | omega | (simp only [qal, tZ]; first | done | omega)) (by first | with_reducible assumption | omega | (simp only [qal, tZ]; first | done | omega))
              · intro c153
                try simp only [qao, qak, qan, t_0, t_1, t_2, t_3, qal, t_4, t_6, t_8, qam] at c153
                refine hRS (by first | with_reducible assumption | omega | (simp only [qal, tZ]; first | done | omega)) (by first | with_reducible assumption | omega | (simp only [qal, tZ]; first | done | omega)) (by first | with_reducible assumption | omega | (simp only [qal, tZ]; first | done | omega)) (by first | with_reducible assumption | omega | (simp only [qal, tZ]; first | done | omega)) (fun y154 => ?_)
                intro y155 e156
                try have h157 : (l5 + y154).toInt = (l5.toInt + y154.toInt) := by rw [qap] <;> (try simp only [t_0, t_1, t_2, t_3, qal, t_4, t_6, t_8, qam]) <;> omega
                try have h158 : y155.toInt = (l5.toInt + y154.toInt) := by rw [e156]; exact h157
                intro y159 e160
                try have h161 : (l6 + 1).toInt = (l6.toInt + 1) := by rw [qap] <;> (try simp only [t_0, t_1, t_2, t_3, qal, t_4, t_6, t_8, qam]) <;> omega
                try have h162 : y159.toInt = (l6.toInt + 1) := by rw [e160]; exact h161
                exact ih _ _ _ _ _ _ (by first | with_reducible assumption | omega | (simp only [qal, tZ]; first | done | omega)) (by first | with_reducible assumption | omega | (simp only [qal, tZ]; first | done | omega)) (by first | with_reducible assumption | omega | (simp only [qal, tZ]; first | done | omega)) (by first | with_reducible assumption | omega | (simp only [qal, tZ]; first | done | omega)) (by first | with_reducible assumption | omega | (simp only [qal, tZ]; first | done | omega)) (by first | with_reducible assumption | omega | (simp only [qal, tZ]; first | done | omega))
            · intro c163
              try simp only [qao, qak, qan, t_0, t_1, t_2, t_3, qal, t_4, t_6, t_8, qam] at c163
              refine ⟨?_, ?_⟩
              · intro c164
                try simp only [qao, qak, qan, t_0, t_1, t_2, t_3, qal, t_4, t_6, t_8, qam] at c164
                refine hRS (by first | with_reducible assumption | omega | (simp only [qal, tZ]; first | done | omega)) (by first | with_reducible assumption | omega | (simp only [qal, tZ]; first | done | omega)) (by first | with_reducible assumption | omega | (simp only [qal, tZ]; first | done | omega)) (by first | with_reducible assumption | omega | (simp only [qal, tZ]; first | done | omega)) (fun y165 => ?_)
                intro y166 e167
                try have h168 : (l5 + y165).toInt = (l5.toInt + y165.toInt) := by rw [qap] <;> (try simp only [t_0, t_1, t_2, t_3, qal, t_4, t_6, t_8, qam]) <;> omega
                try have h169 : y166.toInt = (l5.toInt + y165.toInt) := by rw [e167]; exact h168
                intro y170 e171
                try have h172 : (l6 + 1).toInt = (l6.toInt + 1) := by rw [qap] <;> (try simp only [t_0, t_1, t_2, t_3, qal, t_4, t_6, t_8, qam]) <;> omega
                try have h173 : y170.toInt = (l6.toInt + 1) := by rw [e171]; exact h172
                exact ih _ _ _ _ _ _ (by first | with_reducible assumption | omega | (simp only [qal, tZ]; first | done | omega)) (by first | with_reducible assumption | omega | (simp only [qal, tZ]; first | done | omega)) (by first | with_reducible assumption | omega | (simp only [qal, tZ]; first | done | omega)) (by first | with_reducible assumption | omega | (simp only [qal, tZ]; first | done | omega)) (by first | with_reducible assumption | omega | (simp only [qal, tZ]; first | done | omega)) (by first | with_reducible assumption | omega | (simp only [qal, tZ]; first | done | omega))
              · intro c174
                try simp only [qao, qak, qan, t_0, t_1, t_2, t_3, qal, t_4, t_6, t_8, qam] at c174
                refine hRS (by first | with_reducible assumption | omega | (simp only [qal, tZ]; first | done | omega)) (by first | with_reducible assumption | omega | (simp only [qal, tZ]; first | done | omega)) (by first | with_reducible assumption | omega | (simp only [qal, tZ]; first | done | omega)) (by first | with_reducible assumption | omega | (simp only [qal, tZ]; first | done | omega)) (fun y175 => ?_)
                intro y176 e177
                try have h178 : (l5 + y175).toInt = (l5.toInt + y175.toInt) := by rw [qap] <;> (try simp only [t_0, t_1, t_2, t_3, qal, t_4, t_6, t_8, qam]) <;> omega
                try have h179 : y176.toInt = (l5.toInt + y175.toInt) := by rw [e177]; exact h178
                intro y180 e181
                try have h182 : (l6 + 1).toInt = (l6.toInt + 1) := by rw [qap] <;> (try simp only [t_0, t_1, t_2, t_3, qal, t_4, t_6, t_8, qam]) <;> omega
                try have h183 : y180.toInt = (l6.toInt + 1) := by rw [e181]; exact h182
                exact ih _ _ _ _ _ _ (by first | with_reducible assumption | omega | (simp only [qal, tZ]; first | done | omega)) (by first | with_reducible assumption | omega | (simp only [qal, tZ]; first | done | omega)) (by first | with_reducible assumption | omega | (simp only [qal, tZ]; first | done | omega)) (by first | with_reducible assumption | omega | (simp only [qal, tZ]; first | done | omega)) (by first | with_reducible assumption | omega | (simp only [qal, tZ]; first | done | omega)) (by first | with_reducible assumption | omega | (simp only [qal, tZ]; first | done | omega))
          · intro c184
            try simp only [qao, qak, qan, t_0, t_1, t_2, t_3, qal, t_4, t_6, t_8, qam] at c184
            intro y185 e186
            try have h187 : (l3 - 1).toInt = (l3.toInt - 1) := by rw [qpT] <;> (try simp only [t_0, t_1, t_2, t_3, qal, t_4, t_6, t_8, qam]) <;> omega
            try have h188 : y185.toInt = (l3.toInt - 1) := by rw [e186]; exact h187
            intro y189 e190
            have h191 : y189.toInt = (l1 &&& ((1 <<< (l6 &&& 31)) ^^^ (-1))).toInt := by rw [e190]
            have hp := qamV (x := l1) (i := l6) (by assumption) (by assumption) (by assumption) (by omega)
            rw [← e190] at hp
            refine ⟨?_, ?_⟩
            · intro c192
              try simp only [qao, qak, qan, t_0, t_1, t_2, t_3, qal, t_4, t_6, t_8, qam] at c192
              refine ⟨?_, ?_⟩
              · intro c193
                try simp only [qao, qak, qan, t_0, t_1, t_2, t_3, qal, t_4, t_6, t_8, qam] at c193
                refine hRS (by first | with_reducible assumption | omega | (simp only [qal, tZ]; first | done | omega)) (by first | with_reducible assumption | omega | (simp only [qal, tZ]; first | done | omega)) (by first | with_reducible assumption | omega | (simp only [qal, tZ]; first | done | omega)) (by first | with_reducible assumption | omega | (simp only [qal, tZ]; first | done | omega)) (fun y194 => ?_)
                intro y195 e196
                try have h197 : (l5 + y194).toInt = (l5.toInt + y194.toInt) := by rw [qap] <;> (try simp only [t_0, t_1, t_2, t_3, qal, t_4, t_6, t_8, qam]) <;> omega
                try have h198 : y195.toInt = (l5.toInt + y194.toInt) := by rw [e196]; exact h197
                intro y199 e200
                try have h201 : (l6 + 1).toInt = (l6.toInt + 1) := by rw [qap] <;> (try simp only [t_0, t_1, t_2, t_3, qal, t_4, t_6, t_8, qam]) <;> omega
                try have h202 : y199.toInt = (l6.toInt + 1) := by rw [e200]; exact h201
                exact ih _ _ _ _ _ _ (by first | with_reducible assumption | omega | (simp only [qal, tZ]; first | done | omega)) (by first | with_reducible assumption | omega | (simp only [qal, tZ]; first | done | omega)) (by first | with_reducible assumption | omega | (simp only [qal, tZ]; first | done | omega)) (by first | with_reducible assumption | omega | (simp only [qal, tZ]; first | done | omega)) (by first | with_reducible assumption | omega | (simp only [qal, tZ]; first | done | omega)) (by first | with_reducible assumption | omega | (simp only [qal, tZ]; first | done | omega))
              · intro c203
                try simp only [qao, qak, qan, t_0, t_1, t_2, t_3, qal, t_4, t_6, t_8, qam] at c203
                refine hRS (by first | with_reducible assumption | omega | (simp only [qal, tZ]; first | done | omega)) (by first | with_reducible assumption | omega | (simp only [qal, tZ]; first | done | omega)) (by first | with_reducible assumption | omega | (simp only [qal, tZ]; first | done | omega)) (by first | with_reducible assumption | omega | (simp only [qal, tZ]; first | done | omega)) (fun y204 => ?_)
                intro y205 e206
                try have h207 : (l5 + y204).toInt = (l5.toInt + y204.toInt) := by rw [qap] <;> (try simp only [t_0, t_1, t_2, t_3, qal, t_4, t_6, t_8, qam]) <;> omega
                try have h208 : y205.toInt = (l5.toInt + y204.toInt) := by rw [e206]; exact h207
                intro y209 e210
                try have h211 : (l6 + 1).toInt = (l6.toInt + 1) := by rw [qap] <;> (try simp only [t_0, t_1, t_2, t_3, qal, t_4, t_6, t_8, qam]) <;> omega
                try have h212 : y209.toInt = (l6.toInt + 1) := by rw [e210]; exact h211
                exact ih _ _ _ _ _ _ (by first | with_reducible assumption | omega | (simp only [qal, tZ]; first | done | omega)) (by first | with_reducible assumption | omega | (simp only [qal, tZ]; first | done | omega)) (by first | with_reducible assumption | omega | (simp only [qal, tZ]; first | done | omega)) (by first | with_reducible assumption | omega | (simp only [qal, tZ]; first | done | omega)) (by first | with_reducible assumption | omega | (simp only [qal, tZ]; first | done | omega)) (by first | with_reducible assumption | omega | (simp only [qal, tZ]; first | done | omega))
            · intro c213
              try simp only [qao, qak, qan, t_0, t_1, t_2, t_3, qal, t_4, t_6, t_8, qam] at c213
              refine ⟨?_, ?_⟩
              · intro c214
                try simp only [qao, qak, qan, t_0, t_1, t_2, t_3, qal, t_4, t_6, t_8, qam] at c214
                refine hRS (by first | with_reducible assumption | omega | (simp only [qal, tZ]; first | done | omega)) (by first | with_reducible assumption | omega | (simp only [qal, tZ]; first | done | omega)) (by first | with_reducible assumption | omega | (simp only [qal, tZ]; first | done | omega)) (by first | with_reducible assumption | omega | (simp only [qal, tZ]; first | done | omega)) (fun y215 => ?_)
                intro y216 e217
                try have h218 : (l5 + y215).toInt = (l5.toInt + y215.toInt) := by rw [qap] <;> (try simp only [t_0, t_1, t_2, t_3, qal, t_4, t_6, t_8, qam]) <;> omega
                try have h219 : y216.toInt = (l5.toInt + y215.toInt) := by rw [e217]; exact h218
                intro y220 e221
                try have h222 : (l6 + 1).toInt = (l6.toInt + 1) := by rw [qap] <;> (try simp only [t_0, t_1, t_2, t_3, qal, t_4, t_6, t_8, qam]) <;> omega
                try have h223 : y220.toInt = (l6.toInt + 1) := by rw [e221]; exact h222
                exact ih _ _ _ _ _ _ (by first | with_reducible assumption | omega | (simp only [qal, tZ]; first | done | omega)) (by first | with_reducible assumption | omega | (simp only [qal, tZ]; first | done | omega)) (by first | with_reducible assumption | omega | (simp only [qal, tZ]; first | done | omega)) (by first | with_reducible assumption | omega | (simp only [qal, tZ]; first | done | omega)) (by first | with_reducible assumption | omega | (simp only [qal, tZ]; first | done | omega)) (by first | with_reducible assumption | omega | (simp only [qal, tZ]; first | done | omega))
              · intro c224
                try simp only [qao, qak, qan, t_0, t_1, t_2, t_3, qal, t_4, t_6, t_8, qam] at c224
                refine hRS (by first | with_reducible assumption | omega | (simp only [qal, tZ]; first | done | omega)) (by first | with_reducible assumption | omega | (simp only [qal, tZ]; first | done | omega)) (by first | with_reducible assumption | omega | (simp only [qal, tZ]; first | done | omega)) (by first | with_reducible assumption | omega | (simp only [qal, tZ]; first | done | omega)) (fun y225 => ?_)
                intro y226 e227
                try have h228 : (l5 + y225).toInt = (l5.toInt + y225.toInt) := by rw [qap] <;> (try simp only [t_0, t_1, t_2, t_3, qal, t_4, t_6, t_8, qam]) <;> omega
                try have h229 : y226.toInt = (l5.toInt + y225.toInt) := by rw [e227]; exact h228
                intro y230 e231
                try have h232 : (l6 + 1).toInt = (l6.toInt + 1) := by rw [qap] <;> (try simp only [t_0, t_1, t_2, t_3, qal, t_4, t_6, t_8, qam]) <;> omega
                try have h233 : y230.toInt = (l6.toInt + 1) := by rw [e231]; exact h232
                exact ih _ _ _ _ _ _ (by first | with_reducible assumption | omega | (simp only [qal, tZ]; first | done | omega)) (by first | with_reducible assumption | omega | (simp only [qal, tZ]; first | done | omega)) (by first | with_reducible assumption | omega | (simp only [qal, tZ]; first | done | omega)) (by first | with_reducible assumption | omega | (simp only [qal, tZ]; first | done | omega)) (by first | with_reducible assumption | omega | (simp only [qal, tZ]; first | done | omega)) (by first | with_reducible assumption | omega | (simp only [qal, tZ]; first | done | omega))
      · intro c234
        have h235 := q55 (x := (l1 >>> (l6 &&& 31)))
        try simp only [qao, qak, qan, t_0, t_1, t_2, t_3, qal, t_4, t_6, t_8, qam] at c234
        intro y236 e237
        try have h238 : (l6 + 1).toInt = (l6.toInt + 1) := by rw [qap] <;> (try simp only [t_0, t_1, t_2, t_3, qal, t_4, t_6, t_8, qam]) <;> omega
        try have h239 : y236.toInt = (l6.toInt + 1) := by rw [e237]; exact h238
        exact ih _ _ _ _ _ _ (by first | with_reducible assumption | omega | (simp only [qal, tZ]; first | done | omega)) (by first | with_reducible assumption | omega | (simp only [qal, tZ]; first | done | omega)) (by first | with_reducible assumption | omega | (simp only [qal, tZ]; first | done | omega)) (by first | with_reducible assumption | omega | (simp only [qal, tZ]; first | done | omega)) (by first | with_reducible assumption | omega | (simp only [qal, tZ]; first | done | omega)) (by first | with_reducible assumption | omega | (simp only [qal, tZ]; first | done | omega))
theorem qz9 {RS : Int32 → NI → Int32 → Int32 → Int32 → Int32 → (Int32 → Prop) → Prop} {K : Int} (hK : 1 ≤ K ∧ K ≤ 5) (hRS : ∀ {jaC : Int32} {jb2 : Nat → Int32} {p1 : Int32} {p2 : Int32} {p3 : Int32} {p4 : Int32} {Q : Int32 → Prop} (a0 : jaC.toInt ≤ 6) (a1 : 0 ≤ p1.toInt) (a2 : p1.toInt < 64) (a3 : pcK p1 8 ≤ (K - 1)) (hq : ∀ (r : Int32), Q r), RS jaC jb2 p1 p2 p3 p4 Q) {jaC : Int32} {jb2 : Nat → Int32} {p1 : Int32} {p2 : Int32} {p3 : Int32} {p4 : Int32} {Q : Int32 → Prop} (a0 : jaC.toInt ≤ 6) (a1 : 0 ≤ p1.toInt) (a2 : p1.toInt < 64) (a3 : pcK p1 8 ≤ K) (hq : ∀ (r : Int32), Q r) : quJ RS jaC jb2 p1 p2 p3 p4 Q := by
  obtain ⟨hKa, hKb⟩ := id hK
  refine ⟨?_, ?_⟩
  · intro c240
    try simp only [qao, qak, qan, t_0, t_1, t_2, t_3, qal, t_4, t_6, t_8, qam] at c240
    refine ⟨7, q8Y hK hRS (by first | with_reducible assumption | omega | (simp only [qal, tZ]; first | done | omega)) hq 7 _ _ _ _ _ _ (by first | with_reducible assumption | omega | (simp only [qal, tZ]; first | done | omega)) (by first | with_reducible assumption | omega | (simp only [qal, tZ]; first | done | omega)) (by first | with_reducible assumption | omega | (simp only [qal, tZ]; first | done | omega)) (by first | with_reducible assumption | omega | (simp only [qal, tZ]; first | done | omega)) (by first | with_reducible assumption | omega | (simp only [qal, tZ]; first | done | omega)) (by first | with_reducible assumption | omega | (simp only [qal, tZ]; first | done | omega))⟩
  · intro c241
    try simp only [qao, qak, qan, t_0, t_1, t_2, t_3, qal, t_4, t_6, t_8, qam] at c241
    refine ⟨?_, ?_⟩
    · intro c242
      try simp only [qao, qak, qan, t_0, t_1, t_2, t_3, qal, t_4, t_6, t_8, qam] at c242
      exact hq _
    · intro c243
      try simp only [qao, qak, qan, t_0, t_1, t_2, t_3, qal, t_4, t_6, t_8, qam] at c243
      exact hq _
theorem qan2 {jaC : Int32} {jb2 : Nat → Int32} {p1 : Int32} {p2 : Int32} {p3 : Int32} {p4 : Int32} {Q : Int32 → Prop} (a0 : jaC.toInt ≤ 6) (a1 : 0 ≤ p1.toInt) (a2 : p1.toInt < 64) (a3 : pcK p1 8 ≤ 1) (hq : ∀ (r : Int32), Q r) : qC2 jaC jb2 p1 p2 p3 p4 Q :=
  qz9 (K := 1) (by decide) qal6 a0 a1 a2 a3 hq
theorem qak1 {jaC : Int32} {jb2 : Nat → Int32} {p1 : Int32} {p2 : Int32} {p3 : Int32} {p4 : Int32} {Q : Int32 → Prop} (a0 : jaC.toInt ≤ 6) (a1 : 0 ≤ p1.toInt) (a2 : p1.toInt < 64) (a3 : pcK p1 8 ≤ 2) (hq : ∀ (r : Int32), Q r) : qCA jaC jb2 p1 p2 p3 p4 Q :=
  qz9 (K := 2) (by decide) qan2 a0 a1 a2 a3 hq
theorem qamP {jaC : Int32} {jb2 : Nat → Int32} {p1 : Int32} {p2 : Int32} {p3 : Int32} {p4 : Int32} {Q : Int32 → Prop} (a0 : jaC.toInt ≤ 6) (a1 : 0 ≤ p1.toInt) (a2 : p1.toInt < 64) (a3 : pcK p1 8 ≤ 3) (hq : ∀ (r : Int32), Q r) : qDe jaC jb2 p1 p2 p3 p4 Q :=
  qz9 (K := 3) (by decide) qak1 a0 a1 a2 a3 hq
theorem qajH {jaC : Int32} {jb2 : Nat → Int32} {p1 : Int32} {p2 : Int32} {p3 : Int32} {p4 : Int32} {Q : Int32 → Prop} (a0 : jaC.toInt ≤ 6) (a1 : 0 ≤ p1.toInt) (a2 : p1.toInt < 64) (a3 : pcK p1 8 ≤ 4) (hq : ∀ (r : Int32), Q r) : qC7 jaC jb2 p1 p2 p3 p4 Q :=
  qz9 (K := 4) (by decide) qamP a0 a1 a2 a3 hq
theorem qanl {jaC : Int32} {jb2 : Nat → Int32} {p1 : Int32} {p2 : Int32} {p3 : Int32} {p4 : Int32} {Q : Int32 → Prop} (a0 : jaC.toInt ≤ 6) (a1 : 0 ≤ p1.toInt) (a2 : p1.toInt < 64) (a3 : pcK p1 8 ≤ 5) (hq : ∀ (r : Int32), Q r) : qJT jaC jb2 p1 p2 p3 p4 Q :=
  qz9 (K := 5) (by decide) qajH a0 a1 a2 a3 hq
theorem qaD5 {jaC : Int32} {jb2 : Nat → Int32} {Q : Int32 → Int32 → NI → NI → Prop} {n : Int32} (a0 : jaC.toInt ≤ 6) (hq : ∀ (r thrown : Int32) (refused : NI) (s : NI), Q r thrown refused s) : ∀ (k : Nat) (jbd : Int32) (ja9 : NI) (f0_s : NI) (l1 l2 l3 l4 : Int32), (rS jaC n f0_s) → (0 ≤ l2.toInt) → (l2.toInt < 64) → (0 ≤ l4.toInt) → (l4.toInt ≤ 6) → 6 - l4.toInt < (k : Int) → qvL jaC jb2 Q k jbd ja9 f0_s l1 l2 l3 l4 := by
  intro k
  induction k with
  | zero => intro jbd ja9 f0_s l1 l2 l3 l4 i0 i1 i2 i3 i4 i5; omega
  | succ k ih =>
    intro jbd ja9 f0_s l1 l2 l3 l4 i0 i1 i2 i3 i4 i5
    refine ⟨?_, ?_⟩
    · intro c1
      try simp only [qao, qak, qan, t_0, t_1, t_2, t_3, qal, t_4, t_6, t_8, qam] at c1
      exact hq _ _ _ _
    · intro c2
      try simp only [qao, qak, qan, t_0, t_1, t_2, t_3, qal, t_4, t_6, t_8, qam] at c2
      refine ⟨?_, ?_⟩
      · intro c3
        have h4 := q55 (x := (l2 >>> (l4 &&& 31)))
        try simp only [qao, qak, qan, t_0, t_1, t_2, t_3, qal, t_4, t_6, t_8, qam] at c3
        intro y5 e6
        try have h7 : (l4 + 1).toInt = (l4.toInt + 1) := by rw [qap] <;> (try simp only [t_0, t_1, t_2, t_3, qal, t_4, t_6, t_8, qam]) <;> omega
        try have h8 : y5.toInt = (l4.toInt + 1) := by rw [e6]; exact h7
        exact ih _ _ _ _ _ _ _ (by first | with_reducible assumption | omega | (simp only [qal, tZ]; first | done | omega)) (by first | with_reducible assumption | omega | (simp only [qal, tZ]; first | done | omega)) (by first | with_reducible assumption | omega | (simp only [qal, tZ]; first | done | omega)) (by first | with_reducible assumption | omega | (simp only [qal, tZ]; first | done | omega)) (by first | with_reducible assumption | omega | (simp only [qal, tZ]; first | done | omega)) (by first | with_reducible assumption | omega | (simp only [qal, tZ]; first | done | omega))
      · intro c9
        have h10 := q55 (x := (l2 >>> (l4 &&& 31)))
        try simp only [qao, qak, qan, t_0, t_1, t_2, t_3, qal, t_4, t_6, t_8, qam] at c9
        intro y11 e12
        have h13 : y11.toInt = (l2 &&& ((1 <<< (l4 &&& 31)) ^^^ (-1))).toInt := by rw [e12]
        have hp := qamV (x := l2) (i := l4) (by assumption) (by assumption) (by assumption) (by omega)
        rw [← e12] at hp
        intro y14 e15
        try have h16 : (6 + l4).toInt = (6 + l4.toInt) := by rw [qap] <;> (try simp only [t_0, t_1, t_2, t_3, qal, t_4, t_6, t_8, qam]) <;> omega
        try have h17 : y14.toInt = (6 + l4.toInt) := by rw [e15]; exact h16
        refine ⟨qa6 (by first | with_reducible assumption | omega | (simp only [qal, tZ]; first | done | omega)) (by first | with_reducible assumption | omega | (simp only [qal, tZ]; first | done | omega)), ?_⟩
        intro y18 e19
        have h20 : y18.toInt = (jb2 y14.toNatClampNeg).toInt := by rw [e19]
        try have h21 := qn0 (s := jb2) (x := y14) (by with_reducible assumption) (by first | with_reducible assumption | omega | (simp only [qal, tZ]; first | done | omega)) (by first | with_reducible assumption | omega | (simp only [qal, tZ]; first | done | omega))
        try have h22 := qgw (s := jb2) (x := y14) (by with_reducible assumption) (by first | with_reducible assumption | omega | (simp only [qal, tZ]; first | done | omega)) (by first | with_reducible assumption | omega | (simp only [qal, tZ]; first | done | omega))
        refine qanl (by first | with_reducible assumption | omega | (simp only [qal, tZ]; first | done | omega)) (by first | with_reducible assumption | omega | (simp only [qal, tZ]; first | done | omega)) (by first | with_reducible assumption | omega | (simp only [qal, tZ]; first | done | omega)) (by first | with_reducible assumption | omega | (simp only [qal, tZ]; first | done | omega)) (fun y23 => ?_)
        intro y24 e25
        try have h26 : (l3 + y23).toInt = (l3.toInt + y23.toInt) := by rw [qap] <;> (try simp only [t_0, t_1, t_2, t_3, qal, t_4, t_6, t_8, qam]) <;> omega
        try have h27 : y24.toInt = (l3.toInt + y23.toInt) := by rw [e25]; exact h26
        intro y28 e29
        try have h30 : (l4 + 1).toInt = (l4.toInt + 1) := by rw [qap] <;> (try simp only [t_0, t_1, t_2, t_3, qal, t_4, t_6, t_8, qam]) <;> omega
        try have h31 : y28.toInt = (l4.toInt + 1) := by rw [e29]; exact h30
        exact ih _ _ _ _ _ _ _ (by first | with_reducible assumption | omega | (simp only [qal, tZ]; first | done | omega)) (by first | with_reducible assumption | omega | (simp only [qal, tZ]; first | done | omega)) (by first | with_reducible assumption | omega | (simp only [qal, tZ]; first | done | omega)) (by first | with_reducible assumption | omega | (simp only [qal, tZ]; first | done | omega)) (by first | with_reducible assumption | omega | (simp only [qal, tZ]; first | done | omega)) (by first | with_reducible assumption | omega | (simp only [qal, tZ]; first | done | omega))
theorem qaox {jaC : Int32} {jb2 : Nat → Int32} {jbd : Int32} {ja9 : Nat → Int32} {f0_s : Nat → Int32} {p1 : Int32} {Q : Int32 → Int32 → NI → NI → Prop} {n : Int32} (a0 : rS jaC n jb2) (a1 : jaC.toInt ≤ 6) (a2 : 0 ≤ jaC.toInt) (hq : ∀ (r thrown : Int32) (refused : NI) (s : NI), Q r thrown refused s) : q1a jaC jb2 jbd ja9 f0_s p1 Q := by
  refine qu6 (by first | with_reducible assumption | omega | (simp only [qal, tZ]; first | done | omega)) (by first | with_reducible assumption | omega | (simp only [qal, tZ]; first | done | omega)) (by first | with_reducible assumption | omega | (simp only [qal, tZ]; first | done | omega)) (fun y32 y33 y34 po35 => ?_)
  try simp only [t_0, t_1, t_2, t_3, qal, t_4, t_6, t_8, qam] at po35
  refine ⟨?_, ?_⟩
  · intro c36
    try simp only [qao, qak, qan, t_0, t_1, t_2, t_3, qal, t_4, t_6, t_8, qam] at c36
    refine qoL (by first | with_reducible assumption | omega | (simp only [qal, tZ]; first | done | omega)) (fun y37 po38 => ?_)
    refine qwr (by first | with_reducible assumption | omega | (simp only [qal, tZ]; first | done | omega)) (fun y39 => ?_)
    intro y40 e41
    have h42 : y40.toInt = (((1 <<< (jaC &&& 31)) - 1) &&& (y39 ^^^ (-1))).toInt := by rw [e41]
    have hs0 := qN0 (x := jaC) (by assumption) (by omega)
    have hs1 : ((1 <<< (jaC &&& 31)) - 1 : Int32).toInt = (1 <<< (jaC &&& 31) : Int32).toInt - 1 := qqj (by omega)
    have hk := qaN3 (a := (1 <<< (jaC &&& 31)) - 1) (b := y39 ^^^ (-1)) (by first | omega)
    rw [← e41] at hk
    refine ⟨7, qaD5 (by first | with_reducible assumption | omega | (simp only [qal, tZ]; first | done | omega)) hq 7 _ _ _ _ _ _ _ (by first | with_reducible assumption | omega | (simp only [qal, tZ]; first | done | omega)) (by first | with_reducible assumption | omega | (simp only [qal, tZ]; first | done | omega)) (by first | with_reducible assumption | omega | (simp only [qal, tZ]; first | done | omega)) (by first | with_reducible assumption | omega | (simp only [qal, tZ]; first | done | omega)) (by first | with_reducible assumption | omega | (simp only [qal, tZ]; first | done | omega)) (by first | with_reducible assumption | omega | (simp only [qal, tZ]; first | done | omega))⟩
  · intro c43
    try simp only [qao, qak, qan, t_0, t_1, t_2, t_3, qal, t_4, t_6, t_8, qam] at c43
    exact hq _ _ _ _
