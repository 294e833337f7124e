theorem qaW3 {p0 : Int32} {p1 : Int32} {p2 : Int32} {Q : Int32 → Prop} (hq : ∀ (r : Int32), Q r) : qXy p0 p1 p2 Q := by
  refine ⟨?_, ?_⟩
  · intro c1
    try simp only [qao, qak, qan, t_0, t_1, t_2, t_3, t_4, t_5, t_6, t_8, qam] at c1
    refine ⟨?_, ?_⟩
    · intro c2
      try simp only [qao, qak, qan, t_0, t_1, t_2, t_3, t_4, t_5, t_6, t_8, qam] at c2
      refine ⟨?_, ?_⟩
      · intro c3
        try simp only [qao, qak, qan, t_0, t_1, t_2, t_3, t_4, t_5, t_6, t_8, qam] at c3
        refine ⟨?_, ?_⟩
        · intro c4
          try simp only [qao, qak, qan, t_0, t_1, t_2, t_3, t_4, t_5, t_6, t_8, qam] at c4
          refine ⟨?_, ?_⟩
          · intro c5
            try simp only [qao, qak, qan, t_0, t_1, t_2, t_3, t_4, t_5, t_6, t_8, qam] at c5
            refine ⟨?_, ?_⟩
            · intro c6
              try simp only [qao, qak, qan, t_0, t_1, t_2, t_3, t_4, t_5, t_6, t_8, qam] at c6
              refine ⟨fun z7 => ?_, ?_⟩
              · simp only [qan, t_0, t_1, t_2, t_3, t_4, t_5, t_6, t_8, qam] at z7; omega
              intro y8 e9
              have h10 : y8.toInt = (p1 - p1 / p2 * p2).toInt := by rw [e9]
              exact hq _
            · intro c11
              try simp only [qao, qak, qan, t_0, t_1, t_2, t_3, t_4, t_5, t_6, t_8, qam] at c11
              refine ⟨fun z12 => ?_, ?_⟩
              · simp only [qan, t_0, t_1, t_2, t_3, t_4, t_5, t_6, t_8, qam] at z12; omega
              intro y13 e14
              have h15 : y13.toInt = (p1 / p2).toInt := by rw [e14]
              exact hq _
          · intro c16
            try simp only [qao, qak, qan, t_0, t_1, t_2, t_3, t_4, t_5, t_6, t_8, qam] at c16
            exact hq _
        · intro c17
          try simp only [qao, qak, qan, t_0, t_1, t_2, t_3, t_4, t_5, t_6, t_8, qam] at c17
          refine ⟨?_, ?_⟩
          · intro c18
            try simp only [qao, qak, qan, t_0, t_1, t_2, t_3, t_4, t_5, t_6, t_8, qam] at c18
            refine ⟨?_, ?_⟩
            · intro c19
              try simp only [qao, qak, qan, t_0, t_1, t_2, t_3, t_4, t_5, t_6, t_8, qam] at c19
              refine ⟨?_, ?_⟩
              · intro c20
                try simp only [qao, qak, qan, t_0, t_1, t_2, t_3, t_4, t_5, t_6, t_8, qam] at c20
                refine ⟨?_, ?_⟩
                · intro c21
                  try simp only [qao, qak, qan, t_0, t_1, t_2, t_3, t_4, t_5, t_6, t_8, qam] at c21
                  exact hq _
                · intro c22
                  try simp only [qao, qak, qan, t_0, t_1, t_2, t_3, t_4, t_5, t_6, t_8, qam] at c22
                  exact hq _
              · intro c23
                try simp only [qao, qak, qan, t_0, t_1, t_2, t_3, t_4, t_5, t_6, t_8, qam] at c23
                refine ⟨?_, ?_⟩
                · intro c24
                  try simp only [qao, qak, qan, t_0, t_1, t_2, t_3, t_4, t_5, t_6, t_8, qam] at c24
                  exact hq _
                · intro c25
                  try simp only [qao, qak, qan, t_0, t_1, t_2, t_3, t_4, t_5, t_6, t_8, qam] at c25
                  exact hq _
            · intro c26
              try simp only [qao, qak, qan, t_0, t_1, t_2, t_3, t_4, t_5, t_6, t_8, qam] at c26
              refine ⟨?_, ?_⟩
              · intro c27
                try simp only [qao, qak, qan, t_0, t_1, t_2, t_3, t_4, t_5, t_6, t_8, qam] at c27
                refine ⟨?_, ?_⟩
                · intro c28
                  try simp only [qao, qak, qan, t_0, t_1, t_2, t_3, t_4, t_5, t_6, t_8, qam] at c28
                  exact hq _
                · intro c29
                  try simp only [qao, qak, qan, t_0, t_1, t_2, t_3, t_4, t_5, t_6, t_8, qam] at c29
                  exact hq _
              · intro c30
                try simp only [qao, qak, qan, t_0, t_1, t_2, t_3, t_4, t_5, t_6, t_8, qam] at c30
                refine ⟨?_, ?_⟩
                · intro c31
                  try simp only [qao, qak, qan, t_0, t_1, t_2, t_3, t_4, t_5, t_6, t_8, qam] at c31
                  exact hq _
                · intro c32
                  try simp only [qao, qak, qan, t_0, t_1, t_2, t_3, t_4, t_5, t_6, t_8, qam] at c32
                  exact hq _
          · intro c33
            try simp only [qao, qak, qan, t_0, t_1, t_2, t_3, t_4, t_5, t_6, t_8, qam] at c33
            refine ⟨?_, ?_⟩
            · intro c34
              try simp only [qao, qak, qan, t_0, t_1, t_2, t_3, t_4, t_5, t_6, t_8, qam] at c34
              refine ⟨?_, ?_⟩
              · intro c35
                try simp only [qao, qak, qan, t_0, t_1, t_2, t_3, t_4, t_5, t_6, t_8, qam] at c35
                refine ⟨fun z36 => ?_, ?_⟩
                · simp only [qan, t_0, t_1, t_2, t_3, t_4, t_5, t_6, t_8, qam] at z36; omega
                intro y37 e38
                have h39 : y37.toInt = (p1 - p1 / p2 * p2).toInt := by rw [e38]
                exact hq _
              · intro c40
                try simp only [qao, qak, qan, t_0, t_1, t_2, t_3, t_4, t_5, t_6, t_8, qam] at c40
                refine ⟨fun z41 => ?_, ?_⟩
                · simp only [qan, t_0, t_1, t_2, t_3, t_4, t_5, t_6, t_8, qam] at z41; omega
                intro y42 e43
                have h44 : y42.toInt = (p1 / p2).toInt := by rw [e43]
                exact hq _
            · intro c45
              try simp only [qao, qak, qan, t_0, t_1, t_2, t_3, t_4, t_5, t_6, t_8, qam] at c45
              exact hq _
      · intro c46
        try simp only [qao, qak, qan, t_0, t_1, t_2, t_3, t_4, t_5, t_6, t_8, qam] at c46
        try have h47 : (p1 * p2).toInt = (p1.toInt * p2.toInt) := by rw [qu8] <;> (try simp only [t_0, t_1, t_2, t_3, t_4, t_5, t_6, t_8, qam]) <;> omega
        exact hq _
    · intro c48
      try simp only [qao, qak, qan, t_0, t_1, t_2, t_3, t_4, t_5, t_6, t_8, qam] at c48
      try have h49 : (p1 - p2).toInt = (p1.toInt - p2.toInt) := by rw [qpT] <;> (try simp only [t_0, t_1, t_2, t_3, t_4, t_5, t_6, t_8, qam]) <;> omega
      exact hq _
  · intro c50
    try simp only [qao, qak, qan, t_0, t_1, t_2, t_3, t_4, t_5, t_6, t_8, qam] at c50
    try have h51 : (p1 + p2).toInt = (p1.toInt + p2.toInt) := by rw [qap] <;> (try simp only [t_0, t_1, t_2, t_3, t_4, t_5, t_6, t_8, qam]) <;> omega
    exact hq _
theorem qu6 {jaC : Int32} {jbd : Int32} {ja9 : Nat → Int32} {p1 : Int32} {p2 : Int32} {Q : Int32 → Int32 → NI → Prop} (a0 : p2.toInt ≠ 0) (a1 : 0 ≤ jaC.toInt) (a2 : jaC.toInt ≤ 6) (hq : ∀ (r thrown : Int32) (refused : NI), ((r.toInt = 1 ∧ 0 ≤ p1.toInt ∧ p1.toInt < jaC.toInt) ∨ r.toInt = 0) → Q r thrown refused) : qpz jaC jbd ja9 p1 p2 Q := by
  try have h1 : (jaC - 1).toInt = (jaC.toInt - 1) := by rw [qpT] <;> (try simp only [tY]) <;> omega
  refine qbO (fun y2 po3 => ?_)
  try simp only [tY] at po3
  refine qcb (by first | with_reducible assumption | omega | (simp only [tZ]; first | done | omega)) (by first | with_reducible assumption | omega | (simp only [tZ]; first | done | omega)) (by first | with_reducible assumption | omega | (simp only [tZ]; first | done | omega)) (fun y4 y5 y6 po7 => ?_)
  try simp only [tY] at po7
  refine ⟨qa0H (by first | with_reducible assumption | omega | (simp only [tZ]; first | done | omega)), ?_⟩
  exact hq _ _ _ (by first | with_reducible assumption | omega | (simp only [tZ]; first | done | omega))
theorem qCN {jaN : Int32} {jbd : Int32} {ja9 : Nat → Int32} {p1 : Int32} {p2 : Int32} {Q : Int32 → Int32 → NI → Prop} (a0 : p2.toInt ≠ 0) (a1 : 0 ≤ jaN.toInt) (a2 : jaN.toInt ≤ 8) (hq : ∀ (r thrown : Int32) (refused : NI), ((r.toInt = 1 ∧ 0 ≤ p1.toInt ∧ p1.toInt < jaN.toInt) ∨ r.toInt = 0) → Q r thrown refused) : qwX jaN jbd ja9 p1 p2 Q := by
  try have h1 : (jaN - 1).toInt = (jaN.toInt - 1) := by rw [qpT] <;> (try simp only [tY]) <;> omega
  refine qbO (fun y2 po3 => ?_)
  try simp only [tY] at po3
  refine qcb (by first | with_reducible assumption | omega | (simp only [tZ]; first | done | omega)) (by first | with_reducible assumption | omega | (simp only [tZ]; first | done | omega)) (by first | with_reducible assumption | omega | (simp only [tZ]; first | done | omega)) (fun y4 y5 y6 po7 => ?_)
  try simp only [tY] at po7
  refine ⟨qa0H (by first | with_reducible assumption | omega | (simp only [tZ]; first | done | omega)), ?_⟩
  exact hq _ _ _ (by first | with_reducible assumption | omega | (simp only [tZ]; first | done | omega))
theorem qBt {jbv : Nat → Int32} {p1 : Int32} {p2 : Int32} {Q : Int32 → Prop} (a0 : 0 ≤ p1.toInt) (a1 : p1.toInt < 8) (a2 : 0 ≤ p2.toInt) (a3 : p2.toInt < 8) (hq : ∀ (r : Int32), Q r) : qqm jbv p1 p2 Q := by
  intro y1 e2
  try have h3 : (2 * p1).toInt = (2 * p1.toInt) := by rw [qu8] <;> (try simp only [tY]) <;> omega
  try have h4 : y1.toInt = (2 * p1.toInt) := by rw [e2]; exact h3
  refine ⟨qa6 (by first | with_reducible assumption | omega | (simp only [tZ]; first | done | omega)) (by first | with_reducible assumption | omega | (simp only [tZ]; first | done | omega)), ?_⟩
  intro y5 e6
  have h7 : y5.toInt = (jbv y1.toNatClampNeg).toInt := by rw [e6]
  intro y8 e9
  try have h10 : (2 * p2).toInt = (2 * p2.toInt) := by rw [qu8] <;> (try simp only [tY]) <;> omega
  try have h11 : y8.toInt = (2 * p2.toInt) := by rw [e9]; exact h10
  refine ⟨qa6 (by first | with_reducible assumption | omega | (simp only [tZ]; first | done | omega)) (by first | with_reducible assumption | omega | (simp only [tZ]; first | done | omega)), ?_⟩
  intro y12 e13
  have h14 : y12.toInt = (jbv y8.toNatClampNeg).toInt := by rw [e13]
  try have h15 : (y5 - y12).toInt = (y5.toInt - y12.toInt) := by rw [qpT] <;> (try simp only [tY]) <;> omega
  refine qWM (fun y16 => ?_)
  intro y17 e18
  try have h19 : (2 * p1).toInt = (2 * p1.toInt) := by rw [qu8] <;> (try simp only [tY]) <;> omega
  try have h20 : y17.toInt = (2 * p1.toInt) := by rw [e18]; exact h19
  intro y21 e22
  try have h23 : (y17 + 1).toInt = (y17.toInt + 1) := by rw [qap] <;> (try simp only [tY]) <;> omega
  try have h24 : y21.toInt = (y17.toInt + 1) := by rw [e22]; exact h23
  refine ⟨qa6 (by first | with_reducible assumption | omega | (simp only [tZ]; first | done | omega)) (by first | with_reducible assumption | omega | (simp only [tZ]; first | done | omega)), ?_⟩
  intro y25 e26
  have h27 : y25.toInt = (jbv y21.toNatClampNeg).toInt := by rw [e26]
  intro y28 e29
  try have h30 : (2 * p2).toInt = (2 * p2.toInt) := by rw [qu8] <;> (try simp only [tY]) <;> omega
  try have h31 : y28.toInt = (2 * p2.toInt) := by rw [e29]; exact h30
  intro y32 e33
  try have h34 : (y28 + 1).toInt = (y28.toInt + 1) := by rw [qap] <;> (try simp only [tY]) <;> omega
  try have h35 : y32.toInt = (y28.toInt + 1) := by rw [e33]; exact h34
  refine ⟨qa6 (by first | with_reducible assumption | omega | (simp only [tZ]; first | done | omega)) (by first | with_reducible assumption | omega | (simp only [tZ]; first | done | omega)), ?_⟩
  intro y36 e37
  have h38 : y36.toInt = (jbv y32.toNatClampNeg).toInt := by rw [e37]
  try have h39 : (y25 - y36).toInt = (y25.toInt - y36.toInt) := by rw [qpT] <;> (try simp only [tY]) <;> omega
  refine qWM (fun y40 => ?_)
  try have h41 : (y16 + y40).toInt = (y16.toInt + y40.toInt) := by rw [qap] <;> (try simp only [tY]) <;> omega
  exact hq _
theorem qaOO {jaC : Int32} {f0_s : Nat → Int32} {Q : Int32 → Prop} {n : Int32} (a0 : rS jaC n f0_s) (hq : ∀ (r : Int32), (0 ≤ r.toInt) → Q r) : ∀ (k : Nat) (l1 l2 l3 : Int32), (0 ≤ l1.toInt) → (l1.toInt < 6) → (0 ≤ l2.toInt) → (l2.toInt ≤ 99 * l3.toInt) → (0 ≤ l3.toInt) → (l3.toInt ≤ 6) → 6 - l3.toInt < (k : Int) → qIJ jaC f0_s Q k l1 l2 l3 := by
  intro k
  induction k with
  | zero => intro l1 l2 l3 i0 i1 i2 i3 i4 i5 i6; omega
  | succ k ih =>
    intro l1 l2 l3 i0 i1 i2 i3 i4 i5 i6
    have hz := rS_h a0
    refine ⟨?_, ?_⟩
    · intro c1
      try simp only [qao, qak, qan, t_0, t_1, t_2, t_3, qcc, t_4, t_6, t_8, qam] at c1
      exact hq _ (by first | with_reducible assumption | omega | (simp only [qcc, tZ]; first | done | omega))
    · intro c2
      try simp only [qao, qak, qan, t_0, t_1, t_2, t_3, qcc, t_4, t_6, t_8, qam] at c2
      intro y3 e4
      try have h5 : (6 * l1).toInt = (6 * l1.toInt) := by rw [qu8] <;> (try simp only [t_0, t_1, t_2, t_3, qcc, t_4, t_6, t_8, qam]) <;> omega
      try have h6 : (30 + (6 * l1)).toInt = (30 + (6 * l1).toInt) := by rw [qap] <;> (try simp only [t_0, t_1, t_2, t_3, qcc, t_4, t_6, t_8, qam]) <;> omega
      try have h7 : y3.toInt = (30 + (6 * l1).toInt) := by rw [e4]; exact h6
      intro y8 e9
      try have h10 : (y3 + l3).toInt = (y3.toInt + l3.toInt) := by rw [qap] <;> (try simp only [t_0, t_1, t_2, t_3, qcc, t_4, t_6, t_8, qam]) <;> omega
      try have h11 : y8.toInt = (y3.toInt + l3.toInt) := by rw [e9]; exact h10
      refine ⟨qa6 (by first | with_reducible assumption | omega | (simp only [qcc, tZ]; first | done | omega)) (by first | with_reducible assumption | omega | (simp only [qcc, tZ]; first | done | omega)), ?_⟩
      intro y12 e13
      have h14 : y12.toInt = (f0_s y8.toNatClampNeg).toInt := by rw [e13]
      try have h15 := qn0 (s := f0_s) (x := y8) (by with_reducible assumption) (by first | with_reducible assumption | omega | (simp only [qcc, tZ]; first | done | omega)) (by first | with_reducible assumption | omega | (simp only [qcc, tZ]; first | done | omega))
      try have h16 := qgw (s := f0_s) (x := y8) (by with_reducible assumption) (by first | with_reducible assumption | omega | (simp only [qcc, tZ]; first | done | omega)) (by first | with_reducible assumption | omega | (simp only [qcc, tZ]; first | done | omega))
      intro y17 e18
      try have h19 : (l2 + y12).toInt = (l2.toInt + y12.toInt) := by rw [qap] <;> (try simp only [t_0, t_1, t_2, t_3, qcc, t_4, t_6, t_8, qam]) <;> omega
      try have h20 : y17.toInt = (l2.toInt + y12.toInt) := by rw [e18]; exact h19
      intro y21 e22
      try have h23 : (l3 + 1).toInt = (l3.toInt + 1) := by rw [qap] <;> (try simp only [t_0, t_1, t_2, t_3, qcc, t_4, t_6, t_8, qam]) <;> omega
      try have h24 : y21.toInt = (l3.toInt + 1) := by rw [e22]; exact h23
      exact ih _ _ _ (by first | with_reducible assumption | omega | (simp only [qcc, tZ]; first | done | omega)) (by first | with_reducible assumption | omega | (simp only [qcc, tZ]; first | done | omega)) (by first | with_reducible assumption | omega | (simp only [qcc, tZ]; first | done | omega)) (by first | with_reducible assumption | omega | (simp only [qcc, tZ]; first | done | omega)) (by first | with_reducible assumption | omega | (simp only [qcc, tZ]; first | done | omega)) (by first | with_reducible assumption | omega | (simp only [qcc, tZ]; first | done | omega)) (by first | with_reducible assumption | omega | (simp only [qcc, tZ]; first | done | omega))
theorem qaDw {jaC : Int32} {f0_s : Nat → Int32} {p1 : Int32} {Q : Int32 → Prop} {n : Int32} (a0 : rS jaC n f0_s) (a1 : 0 ≤ p1.toInt) (a2 : p1.toInt < 6) (hq : ∀ (r : Int32), (0 ≤ r.toInt) → Q r) : qO6 jaC f0_s p1 Q := by
  have hz := rS_h a0
  refine ⟨7, qaOO (by first | with_reducible assumption | omega | (simp only [qcc, tZ]; first | done | omega)) hq 7 _ _ _ (by first | with_reducible assumption | omega | (simp only [qcc, tZ]; first | done | omega)) (by first | with_reducible assumption | omega | (simp only [qcc, tZ]; first | done | omega)) (by first | with_reducible assumption | omega | (simp only [qcc, tZ]; first | done | omega)) (by first | with_reducible assumption | omega | (simp only [qcc, tZ]; first | done | omega)) (by first | with_reducible assumption | omega | (simp only [qcc, tZ]; first | done | omega)) (by first | with_reducible assumption | omega | (simp only [qcc, tZ]; first | done | omega)) (by first | with_reducible assumption | omega | (simp only [qcc, tZ]; first | done | omega))⟩
theorem qaCN {jaC : Int32} {f0_s : Nat → Int32} {Q : Int32 → Prop} {n : Int32} (a0 : rS jaC n f0_s) (hq : ∀ (r : Int32), (0 ≤ r.toInt) → Q r) : ∀ (k : Nat) (l1 l2 l3 : Int32), (0 ≤ l1.toInt) → (l1.toInt < 6) → (0 ≤ l2.toInt) → (l2.toInt ≤ 99 * l3.toInt) → (0 ≤ l3.toInt) → (l3.toInt ≤ 6) → 6 - l3.toInt < (k : Int) → qB4 jaC f0_s Q k l1 l2 l3 := by
  intro k
  induction k with
  | zero => intro l1 l2 l3 i0 i1 i2 i3 i4 i5 i6; omega
  | succ k ih =>
    intro l1 l2 l3 i0 i1 i2 i3 i4 i5 i6
    have hz := rS_h a0
    refine ⟨?_, ?_⟩
    · intro c1
      try simp only [qao, qak, qan, t_0, t_1, t_2, t_3, qcc, t_4, t_6, t_8, qam] at c1
      exact hq _ (by first | with_reducible assumption | omega | (simp only [qcc, tZ]; first | done | omega))
    · intro c2
      try simp only [qao, qak, qan, t_0, t_1, t_2, t_3, qcc, t_4, t_6, t_8, qam] at c2
      intro y3 e4
      try have h5 : (6 * l3).toInt = (6 * l3.toInt) := by rw [qu8] <;> (try simp only [t_0, t_1, t_2, t_3, qcc, t_4, t_6, t_8, qam]) <;> omega
      try have h6 : (30 + (6 * l3)).toInt = (30 + (6 * l3).toInt) := by rw [qap] <;> (try simp only [t_0, t_1, t_2, t_3, qcc, t_4, t_6, t_8, qam]) <;> omega
      try have h7 : y3.toInt = (30 + (6 * l3).toInt) := by rw [e4]; exact h6
      intro y8 e9
      try have h10 : (y3 + l1).toInt = (y3.toInt + l1.toInt) := by rw [qap] <;> (try simp only [t_0, t_1, t_2, t_3, qcc, t_4, t_6, t_8, qam]) <;> omega
      try have h11 : y8.toInt = (y3.toInt + l1.toInt) := by rw [e9]; exact h10
      refine ⟨qa6 (by first | with_reducible assumption | omega | (simp only [qcc, tZ]; first | done | omega)) (by first | with_reducible assumption | omega | (simp only [qcc, tZ]; first | done | omega)), ?_⟩
      intro y12 e13
      have h14 : y12.toInt = (f0_s y8.toNatClampNeg).toInt := by rw [e13]
      try have h15 := qn0 (s := f0_s) (x := y8) (by with_reducible assumption) (by first | with_reducible assumption | omega | (simp only [qcc, tZ]; first | done | omega)) (by first | with_reducible assumption | omega | (simp only [qcc, tZ]; first | done | omega))
      try have h16 := qgw (s := f0_s) (x := y8) (by with_reducible assumption) (by first | with_reducible assumption | omega | (simp only [qcc, tZ]; first | done | omega)) (by first | with_reducible assumption | omega | (simp only [qcc, tZ]; first | done | omega))
      intro y17 e18
      try have h19 : (l2 + y12).toInt = (l2.toInt + y12.toInt) := by rw [qap] <;> (try simp only [t_0, t_1, t_2, t_3, qcc, t_4, t_6, t_8, qam]) <;> omega
      try have h20 : y17.toInt = (l2.toInt + y12.toInt) := by rw [e18]; exact h19
      intro y21 e22
      try have h23 : (l3 + 1).toInt = (l3.toInt + 1) := by rw [qap] <;> (try simp only [t_0, t_1, t_2, t_3, qcc, t_4, t_6, t_8, qam]) <;> omega
      try have h24 : y21.toInt = (l3.toInt + 1) := by rw [e22]; exact h23
      exact ih _ _ _ (by first | with_reducible assumption | omega | (simp only [qcc, tZ]; first | done | omega)) (by first | with_reducible assumption | omega | (simp only [qcc, tZ]; first | done | omega)) (by first | with_reducible assumption | omega | (simp only [qcc, tZ]; first | done | omega)) (by first | with_reducible assumption | omega | (simp only [qcc, tZ]; first | done | omega)) (by first | with_reducible assumption | omega | (simp only [qcc, tZ]; first | done | omega)) (by first | with_reducible assumption | omega | (simp only [qcc, tZ]; first | done | omega)) (by first | with_reducible assumption | omega | (simp only [qcc, tZ]; first | done | omega))
theorem qCI {jaC : Int32} {f0_s : Nat → Int32} {p1 : Int32} {Q : Int32 → Prop} {n : Int32} (a0 : rS jaC n f0_s) (a1 : 0 ≤ p1.toInt) (a2 : p1.toInt < 6) (hq : ∀ (r : Int32), (0 ≤ r.toInt) → Q r) : qrS jaC f0_s p1 Q := by
  have hz := rS_h a0
  refine ⟨7, qaCN (by first | with_reducible assumption | omega | (simp only [qcc, tZ]; first | done | omega)) hq 7 _ _ _ (by first | with_reducible assumption | omega | (simp only [qcc, tZ]; first | done | omega)) (by first | with_reducible assumption | omega | (simp only [qcc, tZ]; first | done | omega)) (by first | with_reducible assumption | omega | (simp only [qcc, tZ]; first | done | omega)) (by first | with_reducible assumption | omega | (simp only [qcc, tZ]; first | done | omega)) (by first | with_reducible assumption | omega | (simp only [qcc, tZ]; first | done | omega)) (by first | with_reducible assumption | omega | (simp only [qcc, tZ]; first | done | omega)) (by first | with_reducible assumption | omega | (simp only [qcc, tZ]; first | done | omega))⟩
theorem qaFB {jaC : Int32} {f0_s : Nat → Int32} {Q : Int32 → Prop} (a0 : jaC.toInt ≤ 6) (hq : ∀ (r : Int32), (0 ≤ r.toInt) → (r.toInt < 64) → Q r) : ∀ (k : Nat) (l1 l2 l3 : Int32), (0 ≤ l3.toInt) → (l3.toInt ≤ 6) → (0 ≤ l2.toInt) → (l2.toInt < 64) → 6 - l3.toInt < (k : Int) → qvh jaC f0_s Q k l1 l2 l3 := by
  intro k
  induction k with
  | zero => intro l1 l2 l3 i0 i1 i2 i3 i4; omega
  | succ k ih =>
    intro l1 l2 l3 i0 i1 i2 i3 i4
    refine ⟨?_, ?_⟩
    · intro c1
      try simp only [qao, qak, qan, tY] at c1
      exact hq _ (by first | with_reducible assumption | omega | (simp only [tZ]; first | done | omega)) (by first | with_reducible assumption | omega | (simp only [tZ]; first | done | omega))
    · intro c2
      try simp only [qao, qak, qan, tY] at c2
      intro y3 e4
      have h5 : y3 = l3 := by rw [e4]; exact Int32.zero_add _
      have h6 : y3.toInt = l3.toInt := by rw [h5]
      refine ⟨qa6 (by first | with_reducible assumption | omega | (simp only [tZ]; first | done | omega)) (by first | with_reducible assumption | omega | (simp only [tZ]; first | done | omega)), ?_⟩
      intro y7 e8
      have h9 : y7.toInt = (f0_s l3.toNatClampNeg).toInt := by rw [e8, h5]
      try have h10 := qn0 (s := f0_s) (x := l3) (by with_reducible assumption) (by first | with_reducible assumption | omega | (simp only [tZ]; first | done | omega)) (by first | with_reducible assumption | omega | (simp only [tZ]; first | done | omega))
      try have h11 := qgw (s := f0_s) (x := l3) (by with_reducible assumption) (by first | with_reducible assumption | omega | (simp only [tZ]; first | done | omega)) (by first | with_reducible assumption | omega | (simp only [tZ]; first | done | omega))
      refine ⟨?_, ?_⟩
      · intro c12
        try simp only [qao, qak, qan, tY] at c12
        intro y13 e14
        try have h15 := qbk2 (a := l2) (b := 0) (by first | with_reducible assumption | omega | (simp only [tZ]; first | done | omega)) (by first | with_reducible assumption | omega | (simp only [tZ]; first | done | omega)) (by first | with_reducible assumption | omega | (simp only [tZ]; first | done | omega)) (by first | with_reducible assumption | omega | (simp only [tZ]; first | done | omega))
        have h16 : y13.toInt = (l2 ||| 0).toInt := by rw [e14]
        intro y17 e18
        try have h19 : (l3 + 1).toInt = (l3.toInt + 1) := by rw [qap] <;> (try simp only [tY]) <;> omega
        try have h20 : y17.toInt = (l3.toInt + 1) := by rw [e18]; exact h19
        exact ih _ _ _ (by first | with_reducible assumption | omega | (simp only [tZ]; first | done | omega)) (by first | with_reducible assumption | omega | (simp only [tZ]; first | done | omega)) (by first | with_reducible assumption | omega | (simp only [tZ]; first | done | omega)) (by first | with_reducible assumption | omega | (simp only [tZ]; first | done | omega)) (by first | with_reducible assumption | omega | (simp only [tZ]; first | done | omega))
      · intro c21
        try simp only [qao, qak, qan, tY] at c21
        intro y22 e23
        try have h24 := qN0 (x := l3) (by first | with_reducible assumption | omega | (simp only [tZ]; first | done | omega)) (by first | with_reducible assumption | omega | (simp only [tZ]; first | done | omega))
        try have h25 := qbk2 (a := l2) (b := (1 <<< (l3 &&& 31))) (by first | with_reducible assumption | omega | (simp only [tZ]; first | done | omega)) (by first | with_reducible assumption | omega | (simp only [tZ]; first | done | omega)) (by first | with_reducible assumption | omega | (simp only [tZ]; first | done | omega)) (by first | with_reducible assumption | omega | (simp only [tZ]; first | done | omega))
        have h26 : y22.toInt = (l2 ||| (1 <<< (l3 &&& 31))).toInt := by rw [e23]
        intro y27 e28
        try have h29 : (l3 + 1).toInt = (l3.toInt + 1) := by rw [qap] <;> (try simp only [tY]) <;> omega
        try have h30 : y27.toInt = (l3.toInt + 1) := by rw [e28]; exact h29
        exact ih _ _ _ (by first | with_reducible assumption | omega | (simp only [tZ]; first | done | omega)) (by first | with_reducible assumption | omega | (simp only [tZ]; first | done | omega)) (by first | with_reducible assumption | omega | (simp only [tZ]; first | done | omega)) (by first | with_reducible assumption | omega | (simp only [tZ]; first | done | omega)) (by first | with_reducible assumption | omega | (simp only [tZ]; first | done | omega))
theorem q4J {jaC : Int32} {f0_s : Nat → Int32} {p1 : Int32} {Q : Int32 → Prop} (a0 : jaC.toInt ≤ 6) (hq : ∀ (r : Int32), (0 ≤ r.toInt) → (r.toInt < 64) → Q r) : qGy jaC f0_s p1 Q := by
  refine ⟨7, qaFB (by first | with_reducible assumption | omega | (simp only [tZ]; first | done | omega)) hq 7 _ _ _ (by first | with_reducible assumption | omega | (simp only [tZ]; first | done | omega)) (by first | with_reducible assumption | omega | (simp only [tZ]; first | done | omega)) (by first | with_reducible assumption | omega | (simp only [tZ]; first | done | omega)) (by first | with_reducible assumption | omega | (simp only [tZ]; first | done | omega)) (by first | with_reducible assumption | omega | (simp only [tZ]; first | done | omega))⟩
theorem qaPr {Q : Int32 → Prop} {g_p0 : Int32} (hq : ∀ (r : Int32), (0 ≤ r.toInt) → (r.toInt ≤ 8) → (r.toInt = pcK g_p0 8) → Q r) : ∀ (k : Nat) (l0 l1 l2 : Int32), (0 ≤ l2.toInt) → (l2.toInt ≤ 8) → (0 ≤ l1.toInt) → (l1.toInt ≤ l2.toInt) → (l0 = g_p0) → (l1.toInt = pcK g_p0 l2.toNatClampNeg) → 8 - l2.toInt < (k : Int) → qHp Q k l0 l1 l2 := by
  intro k
  induction k with
  | zero => intro l0 l1 l2 i0 i1 i2 i3 i4 i5 i6; omega
  | succ k ih =>
    intro l0 l1 l2 i0 i1 i2 i3 i4 i5 i6
    subst i4
    refine ⟨?_, ?_⟩
    · intro c1
      try simp only [qao, qak, qan, tY] at c1
      exact hq _ (by first | with_reducible assumption | omega | (simp only [tZ]; first | done | omega) | exact qw3 | exact qB1 (by assumption) (by omega) (by omega)) (by first | with_reducible assumption | omega | (simp only [tZ]; first | done | omega) | exact qw3 | exact qB1 (by assumption) (by omega) (by omega)) (by first | with_reducible assumption | omega | (simp only [tZ]; first | done | omega) | exact qw3 | exact qB1 (by assumption) (by omega) (by omega))
    · intro c2
      try simp only [qao, qak, qan, tY] at c2
      intro y3 e4
      have h5 := q55 (x := (l0 >>> (l2 &&& 31)))
      try have h6 : (l1 + ((l0 >>> (l2 &&& 31)) &&& 1)).toInt = (l1.toInt + ((l0 >>> (l2 &&& 31)) &&& 1).toInt) := by rw [qap] <;> (try simp only [tY]) <;> omega
      try have h7 : y3.toInt = (l1.toInt + ((l0 >>> (l2 &&& 31)) &&& 1).toInt) := by rw [e4]; exact h6
      intro y8 e9
      try have h10 : (l2 + 1).toInt = (l2.toInt + 1) := by rw [qap] <;> (try simp only [tY]) <;> omega
      try have h11 : y8.toInt = (l2.toInt + 1) := by rw [e9]; exact h10
      have hs1 := qbbr (x := l0) (i := l2) (y := y8) i0 (by omega)
      exact ih _ _ _ (by first | with_reducible assumption | omega | (simp only [tZ]; first | done | omega) | exact qw3 | exact qB1 (by assumption) (by omega) (by omega)) (by first | with_reducible assumption | omega | (simp only [tZ]; first | done | omega) | exact qw3 | exact qB1 (by assumption) (by omega) (by omega)) (by first | with_reducible assumption | omega | (simp only [tZ]; first | done | omega) | exact qw3 | exact qB1 (by assumption) (by omega) (by omega)) (by first | with_reducible assumption | omega | (simp only [tZ]; first | done | omega) | exact qw3 | exact qB1 (by assumption) (by omega) (by omega)) (by first | with_reducible assumption | omega | (simp only [tZ]; first | done | omega) | exact qw3 | exact qB1 (by assumption) (by omega) (by omega)) (by first | with_reducible assumption | omega | (simp only [tZ]; first | done | omega) | exact qw3 | exact qB1 (by assumption) (by omega) (by omega)) (by first | with_reducible assumption | omega | (simp only [tZ]; first | done | omega) | exact qw3 | exact qB1 (by assumption) (by omega) (by omega))
theorem qXr {p0 : Int32} {Q : Int32 → Prop} (hq : ∀ (r : Int32), (0 ≤ r.toInt) → (r.toInt ≤ 8) → (r.toInt = pcK p0 8) → Q r) : qFo p0 Q := by
  refine ⟨9, qaPr (g_p0 := p0) hq 9 _ _ _ (by first | with_reducible assumption | omega | (simp only [tZ]; first | done | omega) | exact qw3 | exact qB1 (by assumption) (by omega) (by omega)) (by first | with_reducible assumption | omega | (simp only [tZ]; first | done | omega) | exact qw3 | exact qB1 (by assumption) (by omega) (by omega)) (by first | with_reducible assumption | omega | (simp only [tZ]; first | done | omega) | exact qw3 | exact qB1 (by assumption) (by omega) (by omega)) (by first | with_reducible assumption | omega | (simp only [tZ]; first | done | omega) | exact qw3 | exact qB1 (by assumption) (by omega) (by omega)) (by first | with_reducible assumption | omega | (simp only [tZ]; first | done | omega) | exact qw3 | exact qB1 (by assumption) (by omega) (by omega)) (by first | with_reducible assumption | omega | (simp only [tZ]; first | done | omega) | exact qw3 | exact qB1 (by assumption) (by omega) (by omega)) (by first | with_reducible assumption | omega | (simp only [tZ]; first | done | omega) | exact qw3 | exact qB1 (by assumption) (by omega) (by omega))⟩
theorem qanp {jbD : Int32} {jcu : Nat → Int32} {jbT : Nat → Int32} {jb1 : Nat → Int32} {Q : Int32 → NI → Prop} (a0 : rC jbD jcu jbT) (hq : ∀ (r : Int32) (stack : NI), Q r stack) : ∀ (k : Nat) (jcb : NI) (l1 l2 : Int32), (l1.toInt = rD jcu l2.toNatClampNeg) → (0 ≤ l2.toInt) → (l2.toInt ≤ 150) → 150 - l2.toInt < (k : Int) → qm9 jbD jcu jbT jb1 Q k jcb l1 l2 := by
  intro k
  induction k with
  | zero => intro jcb l1 l2 i0 i1 i2 i3; omega
  | succ k ih =>
    intro jcb l1 l2 i0 i1 i2 i3
    have hz := a0.1
    have hn := qkX i1
    have hr := qbmZ jcu l2.toNatClampNeg
    refine ⟨?_, ?_⟩
    · intro c1
      try simp only [qao, qak, qan, tY] at c1
      intro y2 e3
      have h4 : y2.toInt = (jcb (0 : Int32).toNatClampNeg).toInt := by rw [e3]
      exact hq _ _
    · intro c5
      try simp only [qao, qak, qan, tY] at c5
      refine ⟨qa6 (by first | with_reducible assumption | omega | (simp only [tZ]; first | done | omega) | exact qo9) (by first | with_reducible assumption | omega | (simp only [tZ]; first | done | omega) | exact qo9), ?_⟩
      intro y6 e7
      have h8 : y6.toInt = (jcu l2.toNatClampNeg).toInt := by rw [e7]
      have hc := qbmB a0 i1 (by omega)
      refine ⟨?_, ?_⟩
      · intro c9
        try simp only [qao, qak, qan, tY] at c9
        intro y10 e11
        try have h12 : (l1 + (-1)).toInt = (l1.toInt + (-1)) := by rw [qap] <;> (try simp only [tY]) <;> omega
        try have h13 : y10.toInt = (l1.toInt + (-1)) := by rw [e11]; exact h12
        intro y14 e15
        try have h16 : (y10 - 1).toInt = (y10.toInt - 1) := by rw [qpT] <;> (try simp only [tY]) <;> omega
        try have h17 : y14.toInt = (y10.toInt - 1) := by rw [e15]; exact h16
        intro y18 e19
        try have h20 : (y10 - 1).toInt = (y10.toInt - 1) := by rw [qpT] <;> (try simp only [tY]) <;> omega
        try have h21 : y18.toInt = (y10.toInt - 1) := by rw [e19]; exact h20
        refine ⟨qa6 (by first | with_reducible assumption | omega | (simp only [tZ]; first | done | omega) | exact qo9) (by first | with_reducible assumption | omega | (simp only [tZ]; first | done | omega) | exact qo9), ?_⟩
        intro y22 e23
        have h24 : y22.toInt = (jcb y18.toNatClampNeg).toInt := by rw [e23]
        refine ⟨qa6 (by first | with_reducible assumption | omega | (simp only [tZ]; first | done | omega) | exact qo9) (by first | with_reducible assumption | omega | (simp only [tZ]; first | done | omega) | exact qo9), ?_⟩
        intro y25 e26
        have h27 : y25.toInt = (jcb y10.toNatClampNeg).toInt := by rw [e26]
        refine qaW3 (fun y28 => ?_)
        refine ⟨qa6 (by first | with_reducible assumption | omega | (simp only [tZ]; first | done | omega) | exact qo9) (by first | with_reducible assumption | omega | (simp only [tZ]; first | done | omega) | exact qo9), ?_⟩
        intro y29 e30
        intro y31 e32
        try have h33 : (l2 + 1).toInt = (l2.toInt + 1) := by rw [qap] <;> (try simp only [tY]) <;> omega
        try have h34 : y31.toInt = (l2.toInt + 1) := by rw [e32]; exact h33
        have hs1 := qaYX jcu (x := l2) (y := y31) i1 (by omega)
        exact ih _ _ _ (by first | with_reducible assumption | omega | (simp only [tZ]; first | done | omega) | exact qo9) (by first | with_reducible assumption | omega | (simp only [tZ]; first | done | omega) | exact qo9) (by first | with_reducible assumption | omega | (simp only [tZ]; first | done | omega) | exact qo9) (by first | with_reducible assumption | omega | (simp only [tZ]; first | done | omega) | exact qo9)
      · intro c35
        try simp only [qao, qak, qan, tY] at c35
        refine ⟨?_, ?_⟩
        · intro c36
          try simp only [qao, qak, qan, tY] at c36
          refine ⟨qa6 (by first | with_reducible assumption | omega | (simp only [tZ]; first | done | omega) | exact qo9) (by first | with_reducible assumption | omega | (simp only [tZ]; first | done | omega) | exact qo9), ?_⟩
          intro y37 e38
          have h39 : y37.toInt = (jbT l2.toNatClampNeg).toInt := by rw [e38]
          refine ⟨qa6 (by first | with_reducible assumption | omega | (simp only [tZ]; first | done | omega) | exact qo9) (by first | with_reducible assumption | omega | (simp only [tZ]; first | done | omega) | exact qo9), ?_⟩
          intro y40 e41
          have h42 : y40.toInt = (jb1 y37.toNatClampNeg).toInt := by rw [e41]
          refine ⟨qa6 (by first | with_reducible assumption | omega | (simp only [tZ]; first | done | omega) | exact qo9) (by first | with_reducible assumption | omega | (simp only [tZ]; first | done | omega) | exact qo9), ?_⟩
          intro y43 e44
          intro y45 e46
          try have h47 : (l1 + 1).toInt = (l1.toInt + 1) := by rw [qap] <;> (try simp only [tY]) <;> omega
          try have h48 : y45.toInt = (l1.toInt + 1) := by rw [e46]; exact h47
          intro y49 e50
          try have h51 : (l2 + 1).toInt = (l2.toInt + 1) := by rw [qap] <;> (try simp only [tY]) <;> omega
          try have h52 : y49.toInt = (l2.toInt + 1) := by rw [e50]; exact h51
          have hs1 := qaYX jcu (x := l2) (y := y49) i1 (by omega)
          exact ih _ _ _ (by first | with_reducible assumption | omega | (simp only [tZ]; first | done | omega) | exact qo9) (by first | with_reducible assumption | omega | (simp only [tZ]; first | done | omega) | exact qo9) (by first | with_reducible assumption | omega | (simp only [tZ]; first | done | omega) | exact qo9) (by first | with_reducible assumption | omega | (simp only [tZ]; first | done | omega) | exact qo9)
        · intro c53
          try simp only [qao, qak, qan, tY] at c53
          refine ⟨qa6 (by first | with_reducible assumption | omega | (simp only [tZ]; first | done | omega) | exact qo9) (by first | with_reducible assumption | omega | (simp only [tZ]; first | done | omega) | exact qo9), ?_⟩
          intro y54 e55
          have h56 : y54.toInt = (jbT l2.toNatClampNeg).toInt := by rw [e55]
          refine ⟨qa6 (by first | with_reducible assumption | omega | (simp only [tZ]; first | done | omega) | exact qo9) (by first | with_reducible assumption | omega | (simp only [tZ]; first | done | omega) | exact qo9), ?_⟩
          intro y57 e58
          intro y59 e60
          try have h61 : (l1 + 1).toInt = (l1.toInt + 1) := by rw [qap] <;> (try simp only [tY]) <;> omega
          try have h62 : y59.toInt = (l1.toInt + 1) := by rw [e60]; exact h61
          intro y63 e64
          try have h65 : (l2 + 1).toInt = (l2.toInt + 1) := by rw [qap] <;> (try simp only [tY]) <;> omega
          try have h66 : y63.toInt = (l2.toInt + 1) := by rw [e64]; exact h65
          have hs1 := qaYX jcu (x := l2) (y := y63) i1 (by omega)
          exact ih _ _ _ (by first | with_reducible assumption | omega | (simp only [tZ]; first | done | omega) | exact qo9) (by first | with_reducible assumption | omega | (simp only [tZ]; first | done | omega) | exact qo9) (by first | with_reducible assumption | omega | (simp only [tZ]; first | done | omega) | exact qo9) (by first | with_reducible assumption | omega | (simp only [tZ]; first | done | omega) | exact qo9)
theorem qaCJ {jbD : Int32} {jcu : Nat → Int32} {jbT : Nat → Int32} {jb1 : Nat → Int32} {jcb : Nat → Int32} {Q : Int32 → NI → Prop} (a0 : rC jbD jcu jbT) (hq : ∀ (r : Int32) (stack : NI), Q r stack) : qHi jbD jcu jbT jb1 jcb Q := by
  have hz := a0.1
  refine ⟨151, qanp (by first | with_reducible assumption | omega | (simp only [tZ]; first | done | omega) | exact qo9) hq 151 _ _ _ (by first | with_reducible assumption | omega | (simp only [tZ]; first | done | omega) | exact qo9) (by first | with_reducible assumption | omega | (simp only [tZ]; first | done | omega) | exact qo9) (by first | with_reducible assumption | omega | (simp only [tZ]; first | done | omega) | exact qo9) (by first | with_reducible assumption | omega | (simp only [tZ]; first | done | omega) | exact qo9)⟩
theorem qaJZ {jbD : Int32} {jcu : Nat → Int32} {jbT : Nat → Int32} {jb1 : Nat → Int32} {jcb : Nat → Int32} {Q : Int32 → NI → Prop} (a0 : rC jbD jcu jbT) (hq : ∀ (r : Int32) (stack : NI), Q r stack) : qKr jbD jcu jbT jb1 jcb Q := by
  refine ⟨?_, ?_⟩
  · intro c1
    try simp only [qao, qak, qan, t_0, t_1, t_2, t_3, t_4, t_6, qlh, t_8, qam] at c1
    refine qaCJ (by first | with_reducible assumption | omega | (simp only [qlh, tZ]; first | done | omega)) (fun y2 y3 => ?_)
    refine ⟨?_, ?_⟩
    · intro c4
      try simp only [qao, qak, qan, t_0, t_1, t_2, t_3, t_4, t_6, qlh, t_8, qam] at c4
      refine ⟨?_, ?_⟩
      · intro c5
        try simp only [qao, qak, qan, t_0, t_1, t_2, t_3, t_4, t_6, qlh, t_8, qam] at c5
        exact hq _ _
      · intro c6
        try simp only [qao, qak, qan, t_0, t_1, t_2, t_3, t_4, t_6, qlh, t_8, qam] at c6
        exact hq _ _
    · intro c7
      try simp only [qao, qak, qan, t_0, t_1, t_2, t_3, t_4, t_6, qlh, t_8, qam] at c7
      exact hq _ _
  · intro c8
    try simp only [qao, qak, qan, t_0, t_1, t_2, t_3, t_4, t_6, qlh, t_8, qam] at c8
    intro y9 e10
    have h11 : y9.toInt = (jb1 (0 : Int32).toNatClampNeg).toInt := by rw [e10]
    intro y12 e13
    have h14 : y12.toInt = (jb1 (1 : Int32).toNatClampNeg).toInt := by rw [e13]
    refine ⟨?_, ?_⟩
    · intro c15
      try have h16 : (4 + y9).toInt = (4 + y9.toInt) := by rw [qap] <;> (try simp only [t_0, t_1, t_2, t_3, t_4, t_6, qlh, t_8, qam]) <;> omega
      try have h17 : ((4 + y9) - y12).toInt = ((4 + y9).toInt - y12.toInt) := by rw [qpT] <;> (try simp only [t_0, t_1, t_2, t_3, t_4, t_6, qlh, t_8, qam]) <;> omega
      try simp only [qao, qak, qan, t_0, t_1, t_2, t_3, t_4, t_6, qlh, t_8, qam] at c15
      refine ⟨?_, ?_⟩
      · intro c18
        try have h19 : (4 + y9).toInt = (4 + y9.toInt) := by rw [qap] <;> (try simp only [t_0, t_1, t_2, t_3, t_4, t_6, qlh, t_8, qam]) <;> omega
        try have h20 : ((4 + y9) - y12).toInt = ((4 + y9).toInt - y12.toInt) := by rw [qpT] <;> (try simp only [t_0, t_1, t_2, t_3, t_4, t_6, qlh, t_8, qam]) <;> omega
        try simp only [qao, qak, qan, t_0, t_1, t_2, t_3, t_4, t_6, qlh, t_8, qam] at c18
        try have h21 : (4 + y9).toInt = (4 + y9.toInt) := by rw [qap] <;> (try simp only [t_0, t_1, t_2, t_3, t_4, t_6, qlh, t_8, qam]) <;> omega
        try have h22 : ((4 + y9) - y12).toInt = ((4 + y9).toInt - y12.toInt) := by rw [qpT] <;> (try simp only [t_0, t_1, t_2, t_3, t_4, t_6, qlh, t_8, qam]) <;> omega
        exact hq _ _
      · intro c23
        try have h24 : (4 + y9).toInt = (4 + y9.toInt) := by rw [qap] <;> (try simp only [t_0, t_1, t_2, t_3, t_4, t_6, qlh, t_8, qam]) <;> omega
        try have h25 : ((4 + y9) - y12).toInt = ((4 + y9).toInt - y12.toInt) := by rw [qpT] <;> (try simp only [t_0, t_1, t_2, t_3, t_4, t_6, qlh, t_8, qam]) <;> omega
        try simp only [qao, qak, qan, t_0, t_1, t_2, t_3, t_4, t_6, qlh, t_8, qam] at c23
        exact hq _ _
    · intro c26
      try have h27 : (4 + y9).toInt = (4 + y9.toInt) := by rw [qap] <;> (try simp only [t_0, t_1, t_2, t_3, t_4, t_6, qlh, t_8, qam]) <;> omega
      try have h28 : ((4 + y9) - y12).toInt = ((4 + y9).toInt - y12.toInt) := by rw [qpT] <;> (try simp only [t_0, t_1, t_2, t_3, t_4, t_6, qlh, t_8, qam]) <;> omega
      try simp only [qao, qak, qan, t_0, t_1, t_2, t_3, t_4, t_6, qlh, t_8, qam] at c26
      exact hq _ _
theorem qtH {jbD : Int32} {jcu : Nat → Int32} {jbT : Nat → Int32} {jb1 : Nat → Int32} {jcb : Nat → Int32} {p1 : Int32} {p2 : Int32} {p3 : Int32} {p4 : Int32} {p5 : Int32} {p6 : Int32} {p7 : Int32} {p8 : Int32} {Q : Int32 → NI → NI → Prop} (a0 : rC jbD jcu jbT) (hq : ∀ (r : Int32) (facts : NI) (stack : NI), Q r facts stack) : qGU jbD jcu jbT jb1 jcb p1 p2 p3 p4 p5 p6 p7 p8 Q := by
  intro y1 e2
  intro y3 e4
  intro y5 e6
  intro y7 e8
  intro y9 e10
  intro y11 e12
  intro y13 e14
  intro y15 e16
  refine qaJZ (by first | with_reducible assumption | omega | (simp only [t_5, t_7, tZ]; first | done | omega)) (fun y17 y18 => ?_)
  exact hq _ _ _
theorem qXW {jaC : Int32} {jbD : Int32} {f0_s : Nat → Int32} {jcu : Nat → Int32} {jbT : Nat → Int32} {jb1 : Nat → Int32} {jcb : Nat → Int32} {p1 : Int32} {Q : Int32 → NI → NI → Prop} {n : Int32} (a0 : rS jaC n f0_s) (a1 : rC jbD jcu jbT) (a2 : 0 ≤ p1.toInt) (a3 : p1.toInt < 6) (a4 : jaC.toInt ≤ 6) (hq : ∀ (r : Int32) (facts : NI) (stack : NI), Q r facts stack) : qC6 jaC jbD f0_s jcu jbT jb1 jcb p1 Q := by
  refine qeY (by first | with_reducible assumption | omega | (simp only [qaz, qlg, tZ]; first | done | omega)) (by first | with_reducible assumption | omega | (simp only [qaz, qlg, tZ]; first | done | omega)) (fun y1 po2 => ?_)
  try simp only [t_0, t_1, qaz, qlg, t_2, t_3, t_4, t_6, t_8, qam] at po2
  refine ⟨?_, ?_⟩
  · intro c3
    try simp only [qao, qak, qan, t_0, t_1, qaz, qlg, t_2, t_3, t_4, t_6, t_8, qam] at c3
    intro y4 e5
    try have h6 : (6 + p1).toInt = (6 + p1.toInt) := by rw [qap] <;> (try simp only [t_0, t_1, qaz, qlg, t_2, t_3, t_4, t_6, t_8, qam]) <;> omega
    try have h7 : y4.toInt = (6 + p1.toInt) := by rw [e5]; exact h6
    refine ⟨qa6 (by first | with_reducible assumption | omega | (simp only [qaz, qlg, tZ]; first | done | omega)) (by first | with_reducible assumption | omega | (simp only [qaz, qlg, tZ]; first | done | omega)), ?_⟩
    intro y8 e9
    have h10 : y8.toInt = (f0_s y4.toNatClampNeg).toInt := by rw [e9]
    try have h11 := qn0 (s := f0_s) (x := y4) (by with_reducible assumption) (by first | with_reducible assumption | omega | (simp only [qaz, qlg, tZ]; first | done | omega)) (by first | with_reducible assumption | omega | (simp only [qaz, qlg, tZ]; first | done | omega))
    try have h12 := qgw (s := f0_s) (x := y4) (by with_reducible assumption) (by first | with_reducible assumption | omega | (simp only [qaz, qlg, tZ]; first | done | omega)) (by first | with_reducible assumption | omega | (simp only [qaz, qlg, tZ]; first | done | omega))
    intro y13 e14
    try have h15 : (12 + p1).toInt = (12 + p1.toInt) := by rw [qap] <;> (try simp only [t_0, t_1, qaz, qlg, t_2, t_3, t_4, t_6, t_8, qam]) <;> omega
    try have h16 : y13.toInt = (12 + p1.toInt) := by rw [e14]; exact h15
    refine ⟨qa6 (by first | with_reducible assumption | omega | (simp only [qaz, qlg, tZ]; first | done | omega)) (by first | with_reducible assumption | omega | (simp only [qaz, qlg, tZ]; first | done | omega)), ?_⟩
    intro y17 e18
    have h19 : y17.toInt = (f0_s y13.toNatClampNeg).toInt := by rw [e18]
    try have h20 := qn0 (s := f0_s) (x := y13) (by with_reducible assumption) (by first | with_reducible assumption | omega | (simp only [qaz, qlg, tZ]; first | done | omega)) (by first | with_reducible assumption | omega | (simp only [qaz, qlg, tZ]; first | done | omega))
    try have h21 := qgw (s := f0_s) (x := y13) (by with_reducible assumption) (by first | with_reducible assumption | omega | (simp only [qaz, qlg, tZ]; first | done | omega)) (by first | with_reducible assumption | omega | (simp only [qaz, qlg, tZ]; first | done | omega))
    refine qaDw (by first | with_reducible assumption | omega | (simp only [qaz, qlg, tZ]; first | done | omega)) (by first | with_reducible assumption | omega | (simp only [qaz, qlg, tZ]; first | done | omega)) (by first | with_reducible assumption | omega | (simp only [qaz, qlg, tZ]; first | done | omega)) (fun y22 po23 => ?_)
    try simp only [t_0, t_1, qaz, qlg, t_2, t_3, t_4, t_6, t_8, qam] at po23
    refine qCI (by first | with_reducible assumption | omega | (simp only [qaz, qlg, tZ]; first | done | omega)) (by first | with_reducible assumption | omega | (simp only [qaz, qlg, tZ]; first | done | omega)) (by first | with_reducible assumption | omega | (simp only [qaz, qlg, tZ]; first | done | omega)) (fun y24 po25 => ?_)
    try simp only [t_0, t_1, qaz, qlg, t_2, t_3, t_4, t_6, t_8, qam] at po25
    intro y26 e27
    have h28 : y26 = p1 := by rw [e27]; exact Int32.zero_add _
    have h29 : y26.toInt = p1.toInt := by rw [h28]
    refine ⟨qa6 (by first | with_reducible assumption | omega | (simp only [qaz, qlg, tZ]; first | done | omega)) (by first | with_reducible assumption | omega | (simp only [qaz, qlg, tZ]; first | done | omega)), ?_⟩
    intro y30 e31
    have h32 : y30.toInt = (f0_s p1.toNatClampNeg).toInt := by rw [e31, h28]
    try have h33 := qn0 (s := f0_s) (x := p1) (by with_reducible assumption) (by first | with_reducible assumption | omega | (simp only [qaz, qlg, tZ]; first | done | omega)) (by first | with_reducible assumption | omega | (simp only [qaz, qlg, tZ]; first | done | omega))
    try have h34 := qgw (s := f0_s) (x := p1) (by with_reducible assumption) (by first | with_reducible assumption | omega | (simp only [qaz, qlg, tZ]; first | done | omega)) (by first | with_reducible assumption | omega | (simp only [qaz, qlg, tZ]; first | done | omega))
    refine q4J (by first | with_reducible assumption | omega | (simp only [qaz, qlg, tZ]; first | done | omega)) (fun y35 po36 po37 => ?_)
    try simp only [t_0, t_1, qaz, qlg, t_2, t_3, t_4, t_6, t_8, qam] at po36
    try simp only [t_0, t_1, qaz, qlg, t_2, t_3, t_4, t_6, t_8, qam] at po37
    refine qXr (fun y38 po39 po40 po41 => ?_)
    try simp only [t_0, t_1, qaz, qlg, t_2, t_3, t_4, t_6, t_8, qam] at po39
    try simp only [t_0, t_1, qaz, qlg, t_2, t_3, t_4, t_6, t_8, qam] at po40
    try simp only [t_0, t_1, qaz, qlg, t_2, t_3, t_4, t_6, t_8, qam] at po41
    intro y42 e43
    have h44 : y42.toInt = (f0_s (66 : Int32).toNatClampNeg).toInt := by rw [e43]
    try have h45 := qn0 (s := f0_s) (x := (66 : Int32)) (by with_reducible assumption) (by first | with_reducible assumption | omega | (simp only [qaz, qlg, tZ]; first | done | omega)) (by first | with_reducible assumption | omega | (simp only [qaz, qlg, tZ]; first | done | omega))
    try have h46 := qgw (s := f0_s) (x := (66 : Int32)) (by with_reducible assumption) (by first | with_reducible assumption | omega | (simp only [qaz, qlg, tZ]; first | done | omega)) (by first | with_reducible assumption | omega | (simp only [qaz, qlg, tZ]; first | done | omega))
    intro y47 e48
    try have h49 : (18 + p1).toInt = (18 + p1.toInt) := by rw [qap] <;> (try simp only [t_0, t_1, qaz, qlg, t_2, t_3, t_4, t_6, t_8, qam]) <;> omega
    try have h50 : y47.toInt = (18 + p1.toInt) := by rw [e48]; exact h49
    refine ⟨qa6 (by first | with_reducible assumption | omega | (simp only [qaz, qlg, tZ]; first | done | omega)) (by first | with_reducible assumption | omega | (simp only [qaz, qlg, tZ]; first | done | omega)), ?_⟩
    intro y51 e52
    have h53 : y51.toInt = (f0_s y47.toNatClampNeg).toInt := by rw [e52]
    try have h54 := qn0 (s := f0_s) (x := y47) (by with_reducible assumption) (by first | with_reducible assumption | omega | (simp only [qaz, qlg, tZ]; first | done | omega)) (by first | with_reducible assumption | omega | (simp only [qaz, qlg, tZ]; first | done | omega))
    try have h55 := qgw (s := f0_s) (x := y47) (by with_reducible assumption) (by first | with_reducible assumption | omega | (simp only [qaz, qlg, tZ]; first | done | omega)) (by first | with_reducible assumption | omega | (simp only [qaz, qlg, tZ]; first | done | omega))
    try have h56 : (y38 - 1).toInt = (y38.toInt - 1) := by rw [qpT] <;> (try simp only [t_0, t_1, qaz, qlg, t_2, t_3, t_4, t_6, t_8, qam]) <;> omega
    refine qtH (by first | with_reducible assumption | omega | (simp only [qaz, qlg, tZ]; first | done | omega)) (fun y57 y58 y59 => ?_)
    exact hq _ _ _
  · intro c60
    try simp only [qao, qak, qan, t_0, t_1, qaz, qlg, t_2, t_3, t_4, t_6, t_8, qam] at c60
    exact hq _ _ _
theorem qTR {jaC : Int32} {jbD : Int32} {f0_s : Nat → Int32} {jbv : Nat → Int32} {jcu : Nat → Int32} {jbT : Nat → Int32} {jb1 : Nat → Int32} {jcb : Nat → Int32} {p1 : Int32} {p2 : Int32} {Q : Int32 → NI → NI → Prop} {n : Int32} (a0 : rS jaC n f0_s) (a1 : rC jbD jcu jbT) (a2 : 0 ≤ p1.toInt) (a3 : p1.toInt < jaC.toInt) (a4 : jaC.toInt ≤ 6) (a5 : 0 ≤ p2.toInt) (a6 : p2.toInt < 8) (hq : ∀ (r : Int32) (facts : NI) (stack : NI), (r.toInt = 0 ∨ r.toInt = 1) → Q r facts stack) : qAB jaC jbD f0_s jbv jcu jbT jb1 jcb p1 p2 Q := by
  refine qeY (by first | with_reducible assumption | omega | (simp only [tZ]; first | done | omega)) (by first | with_reducible assumption | omega | (simp only [tZ]; first | done | omega)) (fun y1 po2 => ?_)
  try simp only [tY] at po2
  refine ⟨?_, ?_⟩
  · intro c3
    try simp only [qao, qak, qan, tY] at c3
    exact hq _ _ _ (by first | with_reducible assumption | omega | (simp only [tZ]; first | done | omega))
  · intro c4
    try simp only [qao, qak, qan, tY] at c4
    intro y5 e6
    have h7 : y5 = p1 := by rw [e6]; exact Int32.zero_add _
    have h8 : y5.toInt = p1.toInt := by rw [h7]
    refine ⟨qa6 (by first | with_reducible assumption | omega | (simp only [tZ]; first | done | omega)) (by first | with_reducible assumption | omega | (simp only [tZ]; first | done | omega)), ?_⟩
    intro y9 e10
    have h11 : y9.toInt = (f0_s p1.toNatClampNeg).toInt := by rw [e10, h7]
    try have h12 := qn0 (s := f0_s) (x := p1) (by with_reducible assumption) (by first | with_reducible assumption | omega | (simp only [tZ]; first | done | omega)) (by first | with_reducible assumption | omega | (simp only [tZ]; first | done | omega))
    try have h13 := qgw (s := f0_s) (x := p1) (by with_reducible assumption) (by first | with_reducible assumption | omega | (simp only [tZ]; first | done | omega)) (by first | with_reducible assumption | omega | (simp only [tZ]; first | done | omega))
    refine ⟨?_, ?_⟩
    · intro c14
      try simp only [qao, qak, qan, tY] at c14
      exact hq _ _ _ (by first | with_reducible assumption | omega | (simp only [tZ]; first | done | omega))
    · intro c15
      try simp only [qao, qak, qan, tY] at c15
      intro y16 e17
      have h18 : y16 = p1 := by rw [e17]; exact Int32.zero_add _
      have h19 : y16.toInt = p1.toInt := by rw [h18]
      refine ⟨qa6 (by first | with_reducible assumption | omega | (simp only [tZ]; first | done | omega)) (by first | with_reducible assumption | omega | (simp only [tZ]; first | done | omega)), ?_⟩
      intro y20 e21
      have h22 : y20.toInt = (f0_s p1.toNatClampNeg).toInt := by rw [e21, h18]
      try have h23 := qn0 (s := f0_s) (x := p1) (by with_reducible assumption) (by first | with_reducible assumption | omega | (simp only [tZ]; first | done | omega)) (by first | with_reducible assumption | omega | (simp only [tZ]; first | done | omega))
      try have h24 := qgw (s := f0_s) (x := p1) (by with_reducible assumption) (by first | with_reducible assumption | omega | (simp only [tZ]; first | done | omega)) (by first | with_reducible assumption | omega | (simp only [tZ]; first | done | omega))
      refine qBt (by first | with_reducible assumption | omega | (simp only [tZ]; first | done | omega)) (by first | with_reducible assumption | omega | (simp only [tZ]; first | done | omega)) (by first | with_reducible assumption | omega | (simp only [tZ]; first | done | omega)) (by first | with_reducible assumption | omega | (simp only [tZ]; first | done | omega)) (fun y25 => ?_)
      refine qXW (by first | with_reducible assumption | omega | (simp only [tZ]; first | done | omega)) (by first | with_reducible assumption | omega | (simp only [tZ]; first | done | omega)) (by first | with_reducible assumption | omega | (simp only [tZ]; first | done | omega)) (by first | with_reducible assumption | omega | (simp only [tZ]; first | done | omega)) (by first | with_reducible assumption | omega | (simp only [tZ]; first | done | omega)) (fun y26 y27 y28 => ?_)
      refine ⟨?_, ?_⟩
      · intro c29
        try simp only [qao, qak, qan, tY] at c29
        exact hq _ _ _ (by first | with_reducible assumption | omega | (simp only [tZ]; first | done | omega))
      · intro c30
        try simp only [qao, qak, qan, tY] at c30
        exact hq _ _ _ (by first | with_reducible assumption | omega | (simp only [tZ]; first | done | omega))
theorem qanS {jaN : Int32} {jaC : Int32} {jbD : Int32} {jb2 : Nat → Int32} {jbv : Nat → Int32} {jcu : Nat → Int32} {jbT : Nat → Int32} {jbd : Int32} {ja9 : Nat → Int32} {f0_s : Nat → Int32} {jb1 : Nat → Int32} {jcb : Nat → Int32} {p1 : Int32} {p2 : Int32} {Q : Int32 → Int32 → NI → NI → NI → NI → Prop} (a0 : rS jaC jaN jb2) (a1 : rC jbD jcu jbT) (a2 : 0 ≤ jaC.toInt) (a3 : 0 ≤ jaN.toInt) (hq : ∀ (r thrown : Int32) (refused : NI) (s : NI) (facts : NI) (stack : NI), Q r thrown refused s facts stack) : qalz jaN jaC jbD jb2 jbv jcu jbT jbd ja9 f0_s jb1 jcb p1 p2 Q := by
  have hz := rS_h a0
  refine qu6 (by first | with_reducible assumption | omega | (simp only [tZ]; first | done | omega)) (by first | with_reducible assumption | omega | (simp only [tZ]; first | done | omega)) (by first | with_reducible assumption | omega | (simp only [tZ]; first | done | omega)) (fun y1 y2 y3 po4 => ?_)
  try simp only [tY] at po4
  refine ⟨?_, ?_⟩
  · intro c5
    try simp only [qao, qak, qan, tY] at c5
    exact hq _ _ _ _ _ _
  · intro c6
    try simp only [qao, qak, qan, tY] at c6
    refine qCN (by first | with_reducible assumption | omega | (simp only [tZ]; first | done | omega)) (by first | with_reducible assumption | omega | (simp only [tZ]; first | done | omega)) (by first | with_reducible assumption | omega | (simp only [tZ]; first | done | omega)) (fun y7 y8 y9 po10 => ?_)
    try simp only [tY] at po10
    refine ⟨?_, ?_⟩
    · intro c11
      try simp only [qao, qak, qan, tY] at c11
      refine qoL (by first | with_reducible assumption | omega | (simp only [tZ]; first | done | omega)) (fun y12 po13 => ?_)
      refine qTR (by first | with_reducible assumption | omega | (simp only [tZ]; first | done | omega)) (by first | with_reducible assumption | omega | (simp only [tZ]; first | done | omega)) (by first | with_reducible assumption | omega | (simp only [tZ]; first | done | omega)) (by first | with_reducible assumption | omega | (simp only [tZ]; first | done | omega)) (by first | with_reducible assumption | omega | (simp only [tZ]; first | done | omega)) (by first | with_reducible assumption | omega | (simp only [tZ]; first | done | omega)) (by first | with_reducible assumption | omega | (simp only [tZ]; first | done | omega)) (fun y14 y15 y16 po17 => ?_)
      try simp only [tY] at po17
      refine ⟨qa0H (by first | with_reducible assumption | omega | (simp only [tZ]; first | done | omega)), ?_⟩
      exact hq _ _ _ _ _ _
    · intro c18
      try simp only [qao, qak, qan, tY] at c18
      exact hq _ _ _ _ _ _
