theorem qMj {jk7 : Nat → Int32} {p1 : Int32} {p2 : Int32} {Q : Int32 → Prop} (a0 : 0 ≤ p1.toInt) (a1 : p1.toInt < 6) (a2 : 0 ≤ p2.toInt) (a3 : p2.toInt < 256) (hq : ∀ (r : Int32), Q r) : qAn jk7 p1 p2 Q := by
  intro y1 e2
  try have h3 : (p1 + 1).toInt = (p1.toInt + 1) := by rw [qap] <;> (try simp only [tY]) <;> omega
  try have h4 : y1.toInt = (p1.toInt + 1) := by rw [e2]; exact h3
  intro y5 e6
  try have h7 := qVZ (x := y1) (by omega) (by omega)
  have h8 : y5.toInt = (y1 <<< (8 &&& 31)).toInt := by rw [e6]
  intro y9 e10
  try have h11 : (y5 + p2).toInt = (y5.toInt + p2.toInt) := by rw [qap] <;> (try simp only [tY]) <;> omega
  try have h12 : y9.toInt = (y5.toInt + p2.toInt) := by rw [e10]; exact h11
  refine ⟨qa6 (by first | with_reducible assumption | omega | (simp only [tZ]; first | done | omega)) (by first | with_reducible assumption | omega | (simp only [tZ]; first | done | omega)), ?_⟩
  intro y13 e14
  have h15 : y13.toInt = (jk7 y9.toNatClampNeg).toInt := by rw [e14]
  exact hq _
theorem qans {jj2 : Nat → Int32} {jk7 : Nat → Int32} {Q : Int32 → Prop} (hq : ∀ (r : Int32), Q r) : ∀ (k : Nat) (l1 l2 l3 l4 l5 : Int32), (0 ≤ l1.toInt) → (l1.toInt < 6) → (0 ≤ l2.toInt) → (l2.toInt < 256) → (0 ≤ l5.toInt) → (l5.toInt ≤ 8) → 8 - l5.toInt < (k : Int) → qs7 jj2 jk7 Q k l1 l2 l3 l4 l5 := by
  intro k
  induction k with
  | zero => intro l1 l2 l3 l4 l5 i0 i1 i2 i3 i4 i5 i6; omega
  | succ k ih =>
    intro l1 l2 l3 l4 l5 i0 i1 i2 i3 i4 i5 i6
    refine ⟨?_, ?_⟩
    · intro c1
      try simp only [qao, qak, qan, tY] at c1
      exact hq _
    · intro c2
      try simp only [qao, qak, qan, tY] at c2
      refine qGf (fun y3 po4 => ?_)
      try simp only [tY] at po4
      refine ⟨?_, ?_⟩
      · intro c5
        try simp only [qao, qak, qan, tY] at c5
        intro y6 e7
        try have h8 : (l5 + 1).toInt = (l5.toInt + 1) := by rw [qap] <;> (try simp only [tY]) <;> omega
        try have h9 : y6.toInt = (l5.toInt + 1) := by rw [e7]; exact h8
        exact ih _ _ _ _ _ (by first | with_reducible assumption | omega | (simp only [tZ]; first | done | omega)) (by first | with_reducible assumption | omega | (simp only [tZ]; first | done | omega)) (by first | with_reducible assumption | omega | (simp only [tZ]; first | done | omega)) (by first | with_reducible assumption | omega | (simp only [tZ]; first | done | omega)) (by first | with_reducible assumption | omega | (simp only [tZ]; first | done | omega)) (by first | with_reducible assumption | omega | (simp only [tZ]; first | done | omega)) (by first | with_reducible assumption | omega | (simp only [tZ]; first | done | omega))
      · intro c10
        try simp only [qao, qak, qan, tY] at c10
        first | have h11 := q1g (x := l5) (by omega) (by omega) | have h11 := qadN (x := l5) (by omega) (by omega) | skip
        try have h12 := qa61 (a := l2) (b := (1 <<< (l5 &&& 31))) (by omega) (by omega) (by omega) (by omega)
        refine qMj (by first | with_reducible assumption | omega | (simp only [tZ]; first | done | omega)) (by first | with_reducible assumption | omega | (simp only [tZ]; first | done | omega)) (by first | with_reducible assumption | omega | (simp only [tZ]; first | done | omega)) (by first | with_reducible assumption | omega | (simp only [tZ]; first | done | omega)) (fun y13 => ?_)
        intro y14 e15
        try have h16 : (1 + y13).toInt = (1 + y13.toInt) := by rw [qap] <;> (try simp only [tY]) <;> omega
        try have h17 : (1 + y13).toInt = (1 + y13.toInt) := by rw [qap] <;> (try simp only [tY]) <;> omega
        try have h18 : (l4.toInt < (1 + y13).toInt ∧ y14.toInt = (1 + y13).toInt) ∨ ((1 + y13).toInt ≤ l4.toInt ∧ y14.toInt = l4.toInt) := by rw [e15]; split <;> rename_i hc <;> simp only [qao, tY] at hc ⊢ <;> omega
        intro y19 e20
        try have h21 : (l5 + 1).toInt = (l5.toInt + 1) := by rw [qap] <;> (try simp only [tY]) <;> omega
        try have h22 : y19.toInt = (l5.toInt + 1) := by rw [e20]; exact h21
        exact ih _ _ _ _ _ (by first | with_reducible assumption | omega | (simp only [tZ]; first | done | omega)) (by first | with_reducible assumption | omega | (simp only [tZ]; first | done | omega)) (by first | with_reducible assumption | omega | (simp only [tZ]; first | done | omega)) (by first | with_reducible assumption | omega | (simp only [tZ]; first | done | omega)) (by first | with_reducible assumption | omega | (simp only [tZ]; first | done | omega)) (by first | with_reducible assumption | omega | (simp only [tZ]; first | done | omega)) (by first | with_reducible assumption | omega | (simp only [tZ]; first | done | omega))
theorem qaHr {jj2 : Nat → Int32} {jk7 : Nat → Int32} {p1 : Int32} {p2 : Int32} {Q : Int32 → Prop} (a0 : 0 ≤ p1.toInt) (a1 : p1.toInt < 6) (a2 : 0 ≤ p2.toInt) (a3 : p2.toInt < 256) (hq : ∀ (r : Int32), Q r) : qTK jj2 jk7 p1 p2 Q := by
  refine ⟨qa6 (by first | with_reducible assumption | omega | (simp only [tZ]; first | done | omega)) (by first | with_reducible assumption | omega | (simp only [tZ]; first | done | omega)), ?_⟩
  intro y23 e24
  have h25 : y23.toInt = (jj2 p1.toNatClampNeg).toInt := by rw [e24]
  intro y26 e27
  refine qMj (by first | with_reducible assumption | omega | (simp only [tZ]; first | done | omega)) (by first | with_reducible assumption | omega | (simp only [tZ]; first | done | omega)) (by first | with_reducible assumption | omega | (simp only [tZ]; first | done | omega)) (by first | with_reducible assumption | omega | (simp only [tZ]; first | done | omega)) (fun y28 => ?_)
  refine ⟨9, qans hq 9 _ _ _ _ _ (by first | with_reducible assumption | omega | (simp only [tZ]; first | done | omega)) (by first | with_reducible assumption | omega | (simp only [tZ]; first | done | omega)) (by first | with_reducible assumption | omega | (simp only [tZ]; first | done | omega)) (by first | with_reducible assumption | omega | (simp only [tZ]; first | done | omega)) (by first | with_reducible assumption | omega | (simp only [tZ]; first | done | omega)) (by first | with_reducible assumption | omega | (simp only [tZ]; first | done | omega)) (by first | with_reducible assumption | omega | (simp only [tZ]; first | done | omega))⟩
theorem qahD {jj2 : Nat → Int32} {jk7 : Nat → Int32} {Q : Int32 → Prop} (hq : ∀ (r : Int32), (-1 ≤ r.toInt) → (r.toInt < 8) → Q r) : ∀ (k : Nat) (l1 l2 l3 l4 l5 : Int32), (0 ≤ l1.toInt) → (l1.toInt < 6) → (0 ≤ l2.toInt) → (l2.toInt < 256) → (0 ≤ l5.toInt) → (l5.toInt ≤ 8) → 8 - l5.toInt < (k : Int) → qsn jj2 jk7 Q k l1 l2 l3 l4 l5 := by
  intro k
  induction k with
  | zero => intro l1 l2 l3 l4 l5 i0 i1 i2 i3 i4 i5 i6; omega
  | succ k ih =>
    intro l1 l2 l3 l4 l5 i0 i1 i2 i3 i4 i5 i6
    refine ⟨?_, ?_⟩
    · intro c1
      try simp only [qao, qak, qan, tY] at c1
      exact hq _ (by first | with_reducible assumption | omega | (simp only [tZ]; first | done | omega)) (by first | with_reducible assumption | omega | (simp only [tZ]; first | done | omega))
    · intro c2
      try simp only [qao, qak, qan, tY] at c2
      refine qGf (fun y3 po4 => ?_)
      try simp only [tY] at po4
      refine ⟨?_, ?_⟩
      · intro c5
        try simp only [qao, qak, qan, tY] at c5
        intro y6 e7
        try have h8 : (l5 + 1).toInt = (l5.toInt + 1) := by rw [qap] <;> (try simp only [tY]) <;> omega
        try have h9 : y6.toInt = (l5.toInt + 1) := by rw [e7]; exact h8
        exact ih _ _ _ _ _ (by first | with_reducible assumption | omega | (simp only [tZ]; first | done | omega)) (by first | with_reducible assumption | omega | (simp only [tZ]; first | done | omega)) (by first | with_reducible assumption | omega | (simp only [tZ]; first | done | omega)) (by first | with_reducible assumption | omega | (simp only [tZ]; first | done | omega)) (by first | with_reducible assumption | omega | (simp only [tZ]; first | done | omega)) (by first | with_reducible assumption | omega | (simp only [tZ]; first | done | omega)) (by first | with_reducible assumption | omega | (simp only [tZ]; first | done | omega))
      · intro c10
        try simp only [qao, qak, qan, tY] at c10
        first | have h11 := q1g (x := l5) (by omega) (by omega) | have h11 := qadN (x := l5) (by omega) (by omega) | skip
        try have h12 := qa61 (a := l2) (b := (1 <<< (l5 &&& 31))) (by omega) (by omega) (by omega) (by omega)
        refine qMj (by first | with_reducible assumption | omega | (simp only [tZ]; first | done | omega)) (by first | with_reducible assumption | omega | (simp only [tZ]; first | done | omega)) (by first | with_reducible assumption | omega | (simp only [tZ]; first | done | omega)) (by first | with_reducible assumption | omega | (simp only [tZ]; first | done | omega)) (fun y13 => ?_)
        refine ⟨?_, ?_⟩
        · intro c14
          try have h15 : (1 + y13).toInt = (1 + y13.toInt) := by rw [qap] <;> (try simp only [tY]) <;> omega
          try simp only [qao, qak, qan, tY] at c14
          intro y16 e17
          try have h18 : (l5 + 1).toInt = (l5.toInt + 1) := by rw [qap] <;> (try simp only [tY]) <;> omega
          try have h19 : y16.toInt = (l5.toInt + 1) := by rw [e17]; exact h18
          exact ih _ _ _ _ _ (by first | with_reducible assumption | omega | (simp only [tZ]; first | done | omega)) (by first | with_reducible assumption | omega | (simp only [tZ]; first | done | omega)) (by first | with_reducible assumption | omega | (simp only [tZ]; first | done | omega)) (by first | with_reducible assumption | omega | (simp only [tZ]; first | done | omega)) (by first | with_reducible assumption | omega | (simp only [tZ]; first | done | omega)) (by first | with_reducible assumption | omega | (simp only [tZ]; first | done | omega)) (by first | with_reducible assumption | omega | (simp only [tZ]; first | done | omega))
        · intro c20
          try have h21 : (1 + y13).toInt = (1 + y13.toInt) := by rw [qap] <;> (try simp only [tY]) <;> omega
          try simp only [qao, qak, qan, tY] at c20
          exact hq _ (by first | with_reducible assumption | omega | (simp only [tZ]; first | done | omega)) (by first | with_reducible assumption | omega | (simp only [tZ]; first | done | omega))
theorem qaDk {jj2 : Nat → Int32} {jk7 : Nat → Int32} {p1 : Int32} {p2 : Int32} {Q : Int32 → Prop} (a0 : 0 ≤ p1.toInt) (a1 : p1.toInt < 6) (a2 : 0 ≤ p2.toInt) (a3 : p2.toInt < 256) (hq : ∀ (r : Int32), (-1 ≤ r.toInt) → (r.toInt < 8) → Q r) : qPA jj2 jk7 p1 p2 Q := by
  refine ⟨qa6 (by first | with_reducible assumption | omega | (simp only [tZ]; first | done | omega)) (by first | with_reducible assumption | omega | (simp only [tZ]; first | done | omega)), ?_⟩
  intro y22 e23
  have h24 : y22.toInt = (jj2 p1.toNatClampNeg).toInt := by rw [e23]
  intro y25 e26
  intro y27 e28
  try have h29 := qVZ (x := p1) (by omega) (by omega)
  try rw [← e28] at h29
  intro y30 e31
  try have h32 : (y27 + p2).toInt = (y27.toInt + p2.toInt) := by rw [qap] <;> (try simp only [tY]) <;> omega
  try have h33 : y30.toInt = (y27.toInt + p2.toInt) := by rw [e31]; exact h32
  refine ⟨qa6 (by first | with_reducible assumption | omega | (simp only [tZ]; first | done | omega)) (by first | with_reducible assumption | omega | (simp only [tZ]; first | done | omega)), ?_⟩
  intro y34 e35
  have h36 : y34.toInt = (jk7 y30.toNatClampNeg).toInt := by rw [e35]
  refine ⟨9, qahD hq 9 _ _ _ _ _ (by first | with_reducible assumption | omega | (simp only [tZ]; first | done | omega)) (by first | with_reducible assumption | omega | (simp only [tZ]; first | done | omega)) (by first | with_reducible assumption | omega | (simp only [tZ]; first | done | omega)) (by first | with_reducible assumption | omega | (simp only [tZ]; first | done | omega)) (by first | with_reducible assumption | omega | (simp only [tZ]; first | done | omega)) (by first | with_reducible assumption | omega | (simp only [tZ]; first | done | omega)) (by first | with_reducible assumption | omega | (simp only [tZ]; first | done | omega))⟩
theorem qaVu {jj2 : Nat → Int32} {jk7 : Nat → Int32} {Q : NI → Prop} (hq : ∀ (given : NI), Q given) : ∀ (k : Nat) (jmq : NI) (l1 l2 l3 : Int32), (l1.toInt ≤ 6) → (0 ≤ l2.toInt) → (l2.toInt < 256) → (0 ≤ l3.toInt) → (l3.toInt ≤ 6) → 6 - l3.toInt < (k : Int) → qB0 jj2 jk7 Q k jmq l1 l2 l3 := by
  intro k
  induction k with
  | zero => intro jmq l1 l2 l3 i0 i1 i2 i3 i4 i5; omega
  | succ k ih =>
    intro jmq l1 l2 l3 i0 i1 i2 i3 i4 i5
    refine ⟨?_, ?_⟩
    · intro c1
      try simp only [qao, qak, qan, tY] at c1
      exact hq _
    · intro c2
      try simp only [qao, qak, qan, tY] at c2
      refine qaDk (by first | with_reducible assumption | omega | (simp only [tZ]; first | done | omega)) (by first | with_reducible assumption | omega | (simp only [tZ]; first | done | omega)) (by first | with_reducible assumption | omega | (simp only [tZ]; first | done | omega)) (by first | with_reducible assumption | omega | (simp only [tZ]; first | done | omega)) (fun y3 po4 po5 => ?_)
      try simp only [tY] at po4
      try simp only [tY] at po5
      refine ⟨qa6 (by first | with_reducible assumption | omega | (simp only [tZ]; first | done | omega)) (by first | with_reducible assumption | omega | (simp only [tZ]; first | done | omega)), ?_⟩
      intro y6 e7
      have hu : (y6 l3.toNatClampNeg).toInt = y3.toInt := by rw [e7, pk_us]
      refine ⟨qa6 (by first | with_reducible assumption | omega | (simp only [tZ]; first | done | omega)) (by first | with_reducible assumption | omega | (simp only [tZ]; first | done | omega)), ?_⟩
      intro y8 e9
      have h10 : y8.toInt = (y6 l3.toNatClampNeg).toInt := by rw [e9]
      refine ⟨?_, ?_⟩
      · intro c11
        try simp only [qao, qak, qan, tY] at c11
        intro y12 e13
        try have h14 : (l3 + 1).toInt = (l3.toInt + 1) := by rw [qap] <;> (try simp only [tY]) <;> omega
        try have h15 : y12.toInt = (l3.toInt + 1) := by rw [e13]; exact h14
        exact ih _ _ _ _ (by first | with_reducible assumption | omega | (simp only [tZ]; first | done | omega)) (by first | with_reducible assumption | omega | (simp only [tZ]; first | done | omega)) (by first | with_reducible assumption | omega | (simp only [tZ]; first | done | omega)) (by first | with_reducible assumption | omega | (simp only [tZ]; first | done | omega)) (by first | with_reducible assumption | omega | (simp only [tZ]; first | done | omega)) (by first | with_reducible assumption | omega | (simp only [tZ]; first | done | omega))
      · intro c16
        try simp only [qao, qak, qan, tY] at c16
        refine ⟨qa6 (by first | with_reducible assumption | omega | (simp only [tZ]; first | done | omega)) (by first | with_reducible assumption | omega | (simp only [tZ]; first | done | omega)), ?_⟩
        intro y17 e18
        have h19 : y17.toInt = (y6 l3.toNatClampNeg).toInt := by rw [e18]
        intro y20 e21
        first | have h22 := q1g (x := y17) (by omega) (by omega) | have h22 := qadN (x := y17) (by omega) (by omega) | skip
        try have h23 := qa61 (a := l2) (b := (1 <<< (y17 &&& 31))) (by omega) (by omega) (by omega) (by omega)
        try rw [← e21] at h23
        try clear h22
        intro y24 e25
        try have h26 : (l3 + 1).toInt = (l3.toInt + 1) := by rw [qap] <;> (try simp only [tY]) <;> omega
        try have h27 : y24.toInt = (l3.toInt + 1) := by rw [e25]; exact h26
        exact ih _ _ _ _ (by first | with_reducible assumption | omega | (simp only [tZ]; first | done | omega)) (by first | with_reducible assumption | omega | (simp only [tZ]; first | done | omega)) (by first | with_reducible assumption | omega | (simp only [tZ]; first | done | omega)) (by first | with_reducible assumption | omega | (simp only [tZ]; first | done | omega)) (by first | with_reducible assumption | omega | (simp only [tZ]; first | done | omega)) (by first | with_reducible assumption | omega | (simp only [tZ]; first | done | omega))
theorem qa1H {jj2 : Nat → Int32} {jk7 : Nat → Int32} {jmq : Nat → Int32} {p1 : Int32} {Q : NI → Prop} (a0 : p1.toInt ≤ 6) (hq : ∀ (given : NI), Q given) : qail jj2 jk7 jmq p1 Q := by
  refine ⟨7, qaVu hq 7 _ _ _ _ (by first | with_reducible assumption | omega | (simp only [tZ]; first | done | omega)) (by first | with_reducible assumption | omega | (simp only [tZ]; first | done | omega)) (by first | with_reducible assumption | omega | (simp only [tZ]; first | done | omega)) (by first | with_reducible assumption | omega | (simp only [tZ]; first | done | omega)) (by first | with_reducible assumption | omega | (simp only [tZ]; first | done | omega)) (by first | with_reducible assumption | omega | (simp only [tZ]; first | done | omega))⟩
theorem qaBI {jkO : Nat → Int32} {jjm : Int32} {jh5 : Int32} {jkF : Int32} {jka : Int32} {jkx : Nat → Int32} {jkb : Nat → Int32} {jkl : Nat → Int32} {jkm : Nat → Int32} {jkt : Nat → Int32} {jkS : Nat → Int32} {p2 : Int32} {Q : Int32 → NI → NI → Prop} (a0 : qrF jh5 jjm jkO) (a1 : sLaw jka jkx jkb) (a2 : 0 ≤ jh5.toInt) (a3 : jh5.toInt ≤ 6) (a4 : 0 ≤ jjm.toInt) (a5 : jjm.toInt ≤ 8) (a6 : 0 ≤ p2.toInt) (a7 : p2.toInt < jh5.toInt) (hq : ∀ (r : Int32) (facts : NI) (pile : NI), Q r facts pile) : qQw jkO jjm jh5 jkF jka jkx jkb jkl jkm jkt jkS p2 Q := by
  refine q7h (fun y1 po2 => ?_)
  try simp only [t_0, t_1, t_2, t_3, qal, t_4, t_6, t_8, qam] at po2
  refine ⟨?_, ?_⟩
  · intro c3
    try simp only [qao, qak, qan, t_0, t_1, t_2, t_3, qal, t_4, t_6, t_8, qam] at c3
    refine qaK7 (by first | with_reducible assumption | omega | (simp only [qal, tZ]; first | done | omega)) (by first | with_reducible assumption | omega | (simp only [qal, tZ]; first | done | omega)) (by first | with_reducible assumption | omega | (simp only [qal, tZ]; first | done | omega)) (by first | with_reducible assumption | omega | (simp only [qal, tZ]; first | done | omega)) (by first | with_reducible assumption | omega | (simp only [qal, tZ]; first | done | omega)) (by first | with_reducible assumption | omega | (simp only [qal, tZ]; first | done | omega)) (fun y4 y5 y6 => ?_)
    refine qaLW (by first | with_reducible assumption | omega | (simp only [qal, tZ]; first | done | omega)) (by first | with_reducible assumption | omega | (simp only [qal, tZ]; first | done | omega)) (fun y7 => ?_)
    intro y8 e9
    have h10 : y8.toInt = ((y4 ||| (1 <<< (y7 &&& 31))) &&& jkF).toInt := by rw [e9]
    exact hq _ _ _
  · intro c11
    try simp only [qao, qak, qan, t_0, t_1, t_2, t_3, qal, t_4, t_6, t_8, qam] at c11
    exact hq _ _ _
theorem qax6 {jjm : Int32} {jh5 : Int32} {jkF : Int32} {jkO : Nat → Int32} {jka : Int32} {jkx : Nat → Int32} {jkb : Nat → Int32} {jkl : Nat → Int32} {jkm : Nat → Int32} {Q : NI → Int32 → NI → NI → NI → NI → Prop} {K51 : NI → Int32 → NI → NI → NI → NI → Int32 → Int32 → Int32 → Prop} {g4 : Int32} {g3 : Int32} (a0 : qrF jh5 jjm jkO) (a1 : sLaw jka jkx jkb) (a2 : 0 ≤ jh5.toInt) (a3 : jh5.toInt ≤ 6) (a4 : 0 ≤ jjm.toInt) (a5 : jjm.toInt ≤ 8) (hq : ∀ (most : NI) (seated : Int32) (given : NI) (facts : NI) (pile : NI) (allowed : NI), Q most seated given facts pile allowed) (hK51 : ∀ (jk7 : NI) (jm9 : Int32) (jmq : NI) (jkt : NI) (jkS : NI) (jj2 : NI) (l2 l3 l4 : Int32), (l2.toInt = jh5.toInt) → (l3.toInt = g3.toInt) → (l4.toInt = g4.toInt - 1) → K51 jk7 jm9 jmq jkt jkS jj2 l2 l3 l4) : ∀ (k : Nat) (jk7 : NI) (jm9 : Int32) (jmq : NI) (jkt : NI) (jkS : NI) (jj2 : NI) (l2 l3 l4 l5 : Int32), (l2.toInt = jh5.toInt) → (0 ≤ l3.toInt) → (l3.toInt ≤ 256) → (0 ≤ l4.toInt) → (l4.toInt < jh5.toInt) → (l4.toInt = g4.toInt) → (l3.toInt = g3.toInt) → (0 ≤ l5.toInt) → (l5.toInt ≤ 256) → 256 - l5.toInt < (k : Int) → qIh jjm jh5 jkF jkO jka jkx jkb jkl jkm Q K51 k jk7 jm9 jmq jkt jkS jj2 l2 l3 l4 l5 := by
  intro k
  induction k with
  | zero => intro jk7 jm9 jmq jkt jkS jj2 l2 l3 l4 l5 i0 i1 i2 i3 i4 i5 i6 i7 i8 i9; omega
  | succ k ih =>
    intro jk7 jm9 jmq jkt jkS jj2 l2 l3 l4 l5 i0 i1 i2 i3 i4 i5 i6 i7 i8 i9
    refine ⟨?_, ?_⟩
    · intro c1
      try simp only [qao, qak, qan, tY] at c1
      intro y2 e3
      try have h4 : (l4 + (-1)).toInt = (l4.toInt + (-1)) := by rw [qap] <;> (try simp only [tY]) <;> omega
      try have h5 : y2.toInt = (l4.toInt + (-1)) := by rw [e3]; exact h4
      exact hK51 _ _ _ _ _ _ _ _ _ (by first | with_reducible assumption | omega | (simp only [tZ]; first | done | omega)) (by first | with_reducible assumption | omega | (simp only [tZ]; first | done | omega)) (by first | with_reducible assumption | omega | (simp only [tZ]; first | done | omega))
    · intro c6
      try simp only [qao, qak, qan, tY] at c6
      intro y7 e8
      try have h9 := qVZ (x := l4) (by omega) (by omega)
      have h10 : y7.toInt = (l4 <<< (8 &&& 31)).toInt := by rw [e8]
      intro y11 e12
      try have h13 : (y7 + l5).toInt = (y7.toInt + l5.toInt) := by rw [qap] <;> (try simp only [tY]) <;> omega
      try have h14 : y11.toInt = (y7.toInt + l5.toInt) := by rw [e12]; exact h13
      refine qaHr (by first | with_reducible assumption | omega | (simp only [tZ]; first | done | omega)) (by first | with_reducible assumption | omega | (simp only [tZ]; first | done | omega)) (by first | with_reducible assumption | omega | (simp only [tZ]; first | done | omega)) (by first | with_reducible assumption | omega | (simp only [tZ]; first | done | omega)) (fun y15 => ?_)
      refine ⟨qa6 (by first | with_reducible assumption | omega | (simp only [tZ]; first | done | omega)) (by first | with_reducible assumption | omega | (simp only [tZ]; first | done | omega)), ?_⟩
      intro y16 e17
      intro y18 e19
      try have h20 : (l5 + 1).toInt = (l5.toInt + 1) := by rw [qap] <;> (try simp only [tY]) <;> omega
      try have h21 : y18.toInt = (l5.toInt + 1) := by rw [e19]; exact h20
      exact ih _ _ _ _ _ _ _ _ _ _ (by first | with_reducible assumption | omega | (simp only [tZ]; first | done | omega)) (by first | with_reducible assumption | omega | (simp only [tZ]; first | done | omega)) (by first | with_reducible assumption | omega | (simp only [tZ]; first | done | omega)) (by first | with_reducible assumption | omega | (simp only [tZ]; first | done | omega)) (by first | with_reducible assumption | omega | (simp only [tZ]; first | done | omega)) (by first | with_reducible assumption | omega | (simp only [tZ]; first | done | omega)) (by first | with_reducible assumption | omega | (simp only [tZ]; first | done | omega)) (by first | with_reducible assumption | omega | (simp only [tZ]; first | done | omega)) (by first | with_reducible assumption | omega | (simp only [tZ]; first | done | omega)) (by first | with_reducible assumption | omega | (simp only [tZ]; first | done | omega))
theorem qaw1 {jjm : Int32} {jh5 : Int32} {jkF : Int32} {jkO : Nat → Int32} {jka : Int32} {jkx : Nat → Int32} {jkb : Nat → Int32} {jkl : Nat → Int32} {jkm : Nat → Int32} {Q : NI → Int32 → NI → NI → NI → NI → Prop} (a0 : qrF jh5 jjm jkO) (a1 : sLaw jka jkx jkb) (a2 : 0 ≤ jh5.toInt) (a3 : jh5.toInt ≤ 6) (a4 : 0 ≤ jjm.toInt) (a5 : jjm.toInt ≤ 8) (hq : ∀ (most : NI) (seated : Int32) (given : NI) (facts : NI) (pile : NI) (allowed : NI), Q most seated given facts pile allowed) : ∀ (k : Nat) (jk7 : NI) (jm9 : Int32) (jmq : NI) (jkt : NI) (jkS : NI) (jj2 : NI) (l2 l3 l4 : Int32), (l2.toInt = jh5.toInt) → (0 ≤ l3.toInt) → (l3.toInt ≤ 256) → (-1 ≤ l4.toInt) → (l4.toInt < jh5.toInt) → l4.toInt + 1 < (k : Int) → qBV jjm jh5 jkF jkO jka jkx jkb jkl jkm Q k jk7 jm9 jmq jkt jkS jj2 l2 l3 l4 := by
  intro k
  induction k with
  | zero => intro jk7 jm9 jmq jkt jkS jj2 l2 l3 l4 i0 i1 i2 i3 i4 i5; omega
  | succ k ih =>
    intro jk7 jm9 jmq jkt jkS jj2 l2 l3 l4 i0 i1 i2 i3 i4 i5
    refine ⟨?_, ?_⟩
    · intro c22
      try simp only [qao, qak, qan, tY] at c22
      intro y23 e24
      have h25 : y23.toInt = (jk7 (0 : Int32).toNatClampNeg).toInt := by rw [e24]
      refine qa1H (by first | with_reducible assumption | omega | (simp only [tZ]; first | done | omega)) (fun y26 => ?_)
      exact hq _ _ _ _ _ _
    · intro c27
      try simp only [qao, qak, qan, tY] at c27
      refine qaBI (by first | with_reducible assumption | omega | (simp only [tZ]; first | done | omega)) (by first | with_reducible assumption | omega | (simp only [tZ]; first | done | omega)) (by first | with_reducible assumption | omega | (simp only [tZ]; first | done | omega)) (by first | with_reducible assumption | omega | (simp only [tZ]; first | done | omega)) (by first | with_reducible assumption | omega | (simp only [tZ]; first | done | omega)) (by first | with_reducible assumption | omega | (simp only [tZ]; first | done | omega)) (by first | with_reducible assumption | omega | (simp only [tZ]; first | done | omega)) (by first | with_reducible assumption | omega | (simp only [tZ]; first | done | omega)) (fun y28 y29 y30 => ?_)
      refine ⟨qa6 (by first | with_reducible assumption | omega | (simp only [tZ]; first | done | omega)) (by first | with_reducible assumption | omega | (simp only [tZ]; first | done | omega)), ?_⟩
      intro y31 e32
      refine ⟨257, qax6 (g4 := l4) (g3 := l3) (by first | with_reducible assumption | omega | (simp only [tZ]; first | done | omega)) (by first | with_reducible assumption | omega | (simp only [tZ]; first | done | omega)) (by first | with_reducible assumption | omega | (simp only [tZ]; first | done | omega)) (by first | with_reducible assumption | omega | (simp only [tZ]; first | done | omega)) (by first | with_reducible assumption | omega | (simp only [tZ]; first | done | omega)) (by first | with_reducible assumption | omega | (simp only [tZ]; first | done | omega)) hq (fun y33 y34 y35 y36 y37 y38 y39 y40 y41 po42 po43 po44 => ?_) 257 _ _ _ _ _ _ _ _ _ _ (by first | with_reducible assumption | omega | (simp only [tZ]; first | done | omega)) (by first | with_reducible assumption | omega | (simp only [tZ]; first | done | omega)) (by first | with_reducible assumption | omega | (simp only [tZ]; first | done | omega)) (by first | with_reducible assumption | omega | (simp only [tZ]; first | done | omega)) (by first | with_reducible assumption | omega | (simp only [tZ]; first | done | omega)) (by first | with_reducible assumption | omega | (simp only [tZ]; first | done | omega)) (by first | with_reducible assumption | omega | (simp only [tZ]; first | done | omega)) (by first | with_reducible assumption | omega | (simp only [tZ]; first | done | omega)) (by first | with_reducible assumption | omega | (simp only [tZ]; first | done | omega)) (by first | with_reducible assumption | omega | (simp only [tZ]; first | done | omega))⟩
      exact ih _ _ _ _ _ _ _ _ _ (by first | with_reducible assumption | omega | (simp only [tZ]; first | done | omega)) (by first | with_reducible assumption | omega | (simp only [tZ]; first | done | omega)) (by first | with_reducible assumption | omega | (simp only [tZ]; first | done | omega)) (by first | with_reducible assumption | omega | (simp only [tZ]; first | done | omega)) (by first | with_reducible assumption | omega | (simp only [tZ]; first | done | omega)) (by first | with_reducible assumption | omega | (simp only [tZ]; first | done | omega))
theorem qavO {jjm : Int32} {jh5 : Int32} {jkF : Int32} {jkO : Nat → Int32} {jka : Int32} {jkx : Nat → Int32} {jkb : Nat → Int32} {jkl : Nat → Int32} {jkm : Nat → Int32} {Q : NI → Int32 → NI → NI → NI → NI → Prop} (a0 : qrF jh5 jjm jkO) (a1 : sLaw jka jkx jkb) (a2 : 0 ≤ jh5.toInt) (a3 : jh5.toInt ≤ 6) (a4 : 0 ≤ jjm.toInt) (a5 : jjm.toInt ≤ 8) (hq : ∀ (most : NI) (seated : Int32) (given : NI) (facts : NI) (pile : NI) (allowed : NI), Q most seated given facts pile allowed) : ∀ (k : Nat) (jk7 : NI) (jm9 : Int32) (jmq : NI) (jkt : NI) (jkS : NI) (jj2 : NI) (l2 l3 l4 : Int32), (l2.toInt = jh5.toInt) → (0 ≤ l3.toInt) → (l3.toInt ≤ 256) → (0 ≤ l4.toInt) → (l4.toInt ≤ 256) → 256 - l4.toInt < (k : Int) → qHQ jjm jh5 jkF jkO jka jkx jkb jkl jkm Q k jk7 jm9 jmq jkt jkS jj2 l2 l3 l4 := by
  intro k
  induction k with
  | zero => intro jk7 jm9 jmq jkt jkS jj2 l2 l3 l4 i0 i1 i2 i3 i4 i5; omega
  | succ k ih =>
    intro jk7 jm9 jmq jkt jkS jj2 l2 l3 l4 i0 i1 i2 i3 i4 i5
    refine ⟨?_, ?_⟩
    · intro c45
      try simp only [qao, qak, qan, tY] at c45
      intro y46 e47
      try have h48 : (l2 - 1).toInt = (l2.toInt - 1) := by rw [qpT] <;> (try simp only [tY]) <;> omega
      try have h49 : y46.toInt = (l2.toInt - 1) := by rw [e47]; exact h48
      refine ⟨7, qaw1 (by first | with_reducible assumption | omega | (simp only [tZ]; first | done | omega)) (by first | with_reducible assumption | omega | (simp only [tZ]; first | done | omega)) (by first | with_reducible assumption | omega | (simp only [tZ]; first | done | omega)) (by first | with_reducible assumption | omega | (simp only [tZ]; first | done | omega)) (by first | with_reducible assumption | omega | (simp only [tZ]; first | done | omega)) (by first | with_reducible assumption | omega | (simp only [tZ]; first | done | omega)) hq 7 _ _ _ _ _ _ _ _ _ (by first | with_reducible assumption | omega | (simp only [tZ]; first | done | omega)) (by first | with_reducible assumption | omega | (simp only [tZ]; first | done | omega)) (by first | with_reducible assumption | omega | (simp only [tZ]; first | done | omega)) (by first | with_reducible assumption | omega | (simp only [tZ]; first | done | omega)) (by first | with_reducible assumption | omega | (simp only [tZ]; first | done | omega)) (by first | with_reducible assumption | omega | (simp only [tZ]; first | done | omega))⟩
    · intro c50
      try simp only [qao, qak, qan, tY] at c50
      intro y51 e52
      try have h53 := qVZ (x := l2) (by omega) (by omega)
      have h54 : y51.toInt = (l2 <<< (8 &&& 31)).toInt := by rw [e52]
      intro y55 e56
      try have h57 : (y51 + l4).toInt = (y51.toInt + l4.toInt) := by rw [qap] <;> (try simp only [tY]) <;> omega
      try have h58 : y55.toInt = (y51.toInt + l4.toInt) := by rw [e56]; exact h57
      refine ⟨qa6 (by first | with_reducible assumption | omega | (simp only [tZ]; first | done | omega)) (by first | with_reducible assumption | omega | (simp only [tZ]; first | done | omega)), ?_⟩
      intro y59 e60
      intro y61 e62
      try have h63 : (l4 + 1).toInt = (l4.toInt + 1) := by rw [qap] <;> (try simp only [tY]) <;> omega
      try have h64 : y61.toInt = (l4.toInt + 1) := by rw [e62]; exact h63
      exact ih _ _ _ _ _ _ _ _ _ (by first | with_reducible assumption | omega | (simp only [tZ]; first | done | omega)) (by first | with_reducible assumption | omega | (simp only [tZ]; first | done | omega)) (by first | with_reducible assumption | omega | (simp only [tZ]; first | done | omega)) (by first | with_reducible assumption | omega | (simp only [tZ]; first | done | omega)) (by first | with_reducible assumption | omega | (simp only [tZ]; first | done | omega)) (by first | with_reducible assumption | omega | (simp only [tZ]; first | done | omega))
theorem qaow {jjm : Int32} {jh5 : Int32} {jkF : Int32} {jkO : Nat → Int32} {jka : Int32} {jkx : Nat → Int32} {jkb : Nat → Int32} {jkl : Nat → Int32} {jkm : Nat → Int32} {jk7 : Nat → Int32} {jm9 : Int32} {jmq : Nat → Int32} {jkt : Nat → Int32} {jkS : Nat → Int32} {jj2 : Nat → Int32} {Q : NI → Int32 → NI → NI → NI → NI → Prop} (a0 : qrF jh5 jjm jkO) (a1 : sLaw jka jkx jkb) (a2 : 0 ≤ jh5.toInt) (a3 : jh5.toInt ≤ 6) (a4 : 0 ≤ jjm.toInt) (a5 : jjm.toInt ≤ 8) (hq : ∀ (most : NI) (seated : Int32) (given : NI) (facts : NI) (pile : NI) (allowed : NI), Q most seated given facts pile allowed) : qRZ jjm jh5 jkF jkO jka jkx jkb jkl jkm jk7 jm9 jmq jkt jkS jj2 Q := by
  intro y65 e66
  try have h67 := qN0 (x := jjm) (by first | with_reducible assumption | omega | (simp only [tZ]; first | done | omega)) (by first | with_reducible assumption | omega | (simp only [tZ]; first | done | omega))
  have h68 : y65.toInt = (1 <<< (jjm &&& 31)).toInt := by rw [e66]
  refine ⟨257, qavO (by first | with_reducible assumption | omega | (simp only [tZ]; first | done | omega)) (by first | with_reducible assumption | omega | (simp only [tZ]; first | done | omega)) (by first | with_reducible assumption | omega | (simp only [tZ]; first | done | omega)) (by first | with_reducible assumption | omega | (simp only [tZ]; first | done | omega)) (by first | with_reducible assumption | omega | (simp only [tZ]; first | done | omega)) (by first | with_reducible assumption | omega | (simp only [tZ]; first | done | omega)) hq 257 _ _ _ _ _ _ _ _ _ (by first | with_reducible assumption | omega | (simp only [tZ]; first | done | omega)) (by first | with_reducible assumption | omega | (simp only [tZ]; first | done | omega)) (by first | with_reducible assumption | omega | (simp only [tZ]; first | done | omega)) (by first | with_reducible assumption | omega | (simp only [tZ]; first | done | omega)) (by first | with_reducible assumption | omega | (simp only [tZ]; first | done | omega)) (by first | with_reducible assumption | omega | (simp only [tZ]; first | done | omega))⟩
theorem qaat {jdE : Nat → Int32} {p1 p2 p3 p4 : Int32} {Q : Int32 → Prop} (a0 : 0 ≤ p4.toInt) (a1 : p4.toInt < 64) (a2 : pcK p4 8 ≤ 0) (hq : ∀ r, Q r) : qzg jdE p1 p2 p3 p4 Q :=
  ⟨fun c => absurd (qan.mpr ((qa6D a0 a1 a2).trans t_0.symm)) c, fun _ => ⟨fun _ => hq _, fun _ => hq _⟩⟩
theorem q02 {RS : NI → Int32 → Int32 → Int32 → Int32 → (Int32 → Prop) → Prop} {K : Int} (hK : 1 ≤ K ∧ K ≤ 5) (hRS : ∀ {jdE : Nat → Int32} {p1 : Int32} {p2 : Int32} {p3 : Int32} {p4 : Int32} {Q : Int32 → Prop} (a0 : 0 ≤ p4.toInt) (a1 : p4.toInt < 64) (a2 : pcK p4 8 ≤ (K - 1)) (hq : ∀ (r : Int32), Q r), RS jdE p1 p2 p3 p4 Q) {jdE : Nat → Int32} {Q : Int32 → Prop} (hq : ∀ (r : Int32), Q r) : ∀ (k : Nat) (l1 l2 l3 l4 l5 l6 : Int32), (0 ≤ l4.toInt) → (l4.toInt < 64) → (pcK l4 8 ≤ K) → (0 ≤ l6.toInt) → (l6.toInt ≤ 6) → 6 - l6.toInt < (k : Int) → qkZ RS jdE Q k l1 l2 l3 l4 l5 l6 := by
  obtain ⟨hKa, hKb⟩ := id hK
  intro k
  induction k with
  | zero => intro l1 l2 l3 l4 l5 l6 i0 i1 i2 i3 i4 i5; omega
  | succ k ih =>
    intro l1 l2 l3 l4 l5 l6 i0 i1 i2 i3 i4 i5
    refine ⟨?_, ?_⟩
    · intro c1
      try simp only [qao, qak, qan, t_0, t_1, t_2, t_3, qal, t_4, t_6, t_8, qam] at c1
      exact hq _
    · intro c2
      try simp only [qao, qak, qan, t_0, t_1, t_2, t_3, qal, t_4, t_6, t_8, qam] at c2
      refine qahj (by first | with_reducible assumption | omega | (simp only [qal, tZ]; first | done | omega)) (by first | with_reducible assumption | omega | (simp only [qal, tZ]; first | done | omega)) (by first | with_reducible assumption | omega | (simp only [qal, tZ]; first | done | omega)) (by first | with_reducible assumption | omega | (simp only [qal, tZ]; first | done | omega)) (fun y3 po4 => ?_)
      try simp only [t_0, t_1, t_2, t_3, qal, t_4, t_6, t_8, qam] at po4
      refine ⟨?_, ?_⟩
      · intro c5
        try simp only [qao, qak, qan, t_0, t_1, t_2, t_3, qal, t_4, t_6, t_8, qam] at c5
        intro y6 e7
        try have h8 : (l6 + 1).toInt = (l6.toInt + 1) := by rw [qap] <;> (try simp only [t_0, t_1, t_2, t_3, qal, t_4, t_6, t_8, qam]) <;> omega
        try have h9 : y6.toInt = (l6.toInt + 1) := by rw [e7]; exact h8
        exact ih _ _ _ _ _ _ (by first | with_reducible assumption | omega | (simp only [qal, tZ]; first | done | omega)) (by first | with_reducible assumption | omega | (simp only [qal, tZ]; first | done | omega)) (by first | with_reducible assumption | omega | (simp only [qal, tZ]; first | done | omega)) (by first | with_reducible assumption | omega | (simp only [qal, tZ]; first | done | omega)) (by first | with_reducible assumption | omega | (simp only [qal, tZ]; first | done | omega)) (by first | with_reducible assumption | omega | (simp only [qal, tZ]; first | done | omega))
      · intro c10
        try simp only [qao, qak, qan, t_0, t_1, t_2, t_3, qal, t_4, t_6, t_8, qam] at c10
        refine que (by first | with_reducible assumption | omega | (simp only [qal, tZ]; first | done | omega)) (by first | with_reducible assumption | omega | (simp only [qal, tZ]; first | done | omega)) (fun y11 => ?_)
        refine ⟨?_, ?_⟩
        · intro c12
          try simp only [qao, qak, qan, t_0, t_1, t_2, t_3, qal, t_4, t_6, t_8, qam] at c12
          refine ⟨?_, ?_⟩
          · intro c13
            try simp only [qao, qak, qan, t_0, t_1, t_2, t_3, qal, t_4, t_6, t_8, qam] at c13
            refine ⟨?_, ?_⟩
            · intro c14
              try simp only [qao, qak, qan, t_0, t_1, t_2, t_3, qal, t_4, t_6, t_8, qam] at c14
              intro y15 e16
              try have h17 : (y11 - 1).toInt = (y11.toInt - 1) := by rw [qpT] <;> (try simp only [t_0, t_1, t_2, t_3, qal, t_4, t_6, t_8, qam]) <;> omega
              try have h18 : (y11 - 1).toInt = (y11.toInt - 1) := by rw [qpT] <;> (try simp only [t_0, t_1, t_2, t_3, qal, t_4, t_6, t_8, qam]) <;> omega
              try have h19 : (0 < (y11 - 1).toInt ∧ y15.toInt = (y11 - 1).toInt) ∨ ((y11 - 1).toInt ≤ 0 ∧ y15.toInt = 0) := by rw [e16]; split <;> rename_i hc <;> simp only [qao, t_0, t_1, t_2, t_3, qal, t_4, t_6, t_8, qam] at hc ⊢ <;> omega
              refine hRS (by first | with_reducible assumption | omega | (simp only [qal, tZ]; first | done | omega)) (by first | with_reducible assumption | omega | (simp only [qal, tZ]; first | done | omega)) (by first | with_reducible assumption | omega | (simp only [qal, tZ]; first | done | omega)) (fun y20 => ?_)
              intro y21 e22
              try have h23 : (l5 + y20).toInt = (l5.toInt + y20.toInt) := by rw [qap] <;> (try simp only [t_0, t_1, t_2, t_3, qal, t_4, t_6, t_8, qam]) <;> omega
              try have h24 : y21.toInt = (l5.toInt + y20.toInt) := by rw [e22]; exact h23
              intro y25 e26
              try have h27 : (l6 + 1).toInt = (l6.toInt + 1) := by rw [qap] <;> (try simp only [t_0, t_1, t_2, t_3, qal, t_4, t_6, t_8, qam]) <;> omega
              try have h28 : y25.toInt = (l6.toInt + 1) := by rw [e26]; exact h27
              exact ih _ _ _ _ _ _ (by first | with_reducible assumption | omega | (simp only [qal, tZ]; first | done | omega)) (by first | with_reducible assumption | omega | (simp only [qal, tZ]; first | done | omega)) (by first | with_reducible assumption | omega | (simp only [qal, tZ]; first | done | omega)) (by first | with_reducible assumption | omega | (simp only [qal, tZ]; first | done | omega)) (by first | with_reducible assumption | omega | (simp only [qal, tZ]; first | done | omega)) (by first | with_reducible assumption | omega | (simp only [qal, tZ]; first | done | omega))
            · intro c29
              try simp only [qao, qak, qan, t_0, t_1, t_2, t_3, qal, t_4, t_6, t_8, qam] at c29
              intro y30 e31
              try have h32 : (l3 - 1).toInt = (l3.toInt - 1) := by rw [qpT] <;> (try simp only [t_0, t_1, t_2, t_3, qal, t_4, t_6, t_8, qam]) <;> omega
              try have h33 : (l3 - 1).toInt = (l3.toInt - 1) := by rw [qpT] <;> (try simp only [t_0, t_1, t_2, t_3, qal, t_4, t_6, t_8, qam]) <;> omega
              try have h34 : (0 < (l3 - 1).toInt ∧ y30.toInt = (l3 - 1).toInt) ∨ ((l3 - 1).toInt ≤ 0 ∧ y30.toInt = 0) := by rw [e31]; split <;> rename_i hc <;> simp only [qao, t_0, t_1, t_2, t_3, qal, t_4, t_6, t_8, qam] at hc ⊢ <;> omega
              refine hRS (by first | with_reducible assumption | omega | (simp only [qal, tZ]; first | done | omega)) (by first | with_reducible assumption | omega | (simp only [qal, tZ]; first | done | omega)) (by first | with_reducible assumption | omega | (simp only [qal, tZ]; first | done | omega)) (fun y35 => ?_)
              intro y36 e37
              try have h38 : (l5 + y35).toInt = (l5.toInt + y35.toInt) := by rw [qap] <;> (try simp only [t_0, t_1, t_2, t_3, qal, t_4, t_6, t_8, qam]) <;> omega
              try have h39 : y36.toInt = (l5.toInt + y35.toInt) := by rw [e37]; exact h38
              intro y40 e41
              try have h42 : (l6 + 1).toInt = (l6.toInt + 1) := by rw [qap] <;> (try simp only [t_0, t_1, t_2, t_3, qal, t_4, t_6, t_8, qam]) <;> omega
              try have h43 : y40.toInt = (l6.toInt + 1) := by rw [e41]; exact h42
              exact ih _ _ _ _ _ _ (by first | with_reducible assumption | omega | (simp only [qal, tZ]; first | done | omega)) (by first | with_reducible assumption | omega | (simp only [qal, tZ]; first | done | omega)) (by first | with_reducible assumption | omega | (simp only [qal, tZ]; first | done | omega)) (by first | with_reducible assumption | omega | (simp only [qal, tZ]; first | done | omega)) (by first | with_reducible assumption | omega | (simp only [qal, tZ]; first | done | omega)) (by first | with_reducible assumption | omega | (simp only [qal, tZ]; first | done | omega))
          · intro c44
            try simp only [qao, qak, qan, t_0, t_1, t_2, t_3, qal, t_4, t_6, t_8, qam] at c44
            refine ⟨?_, ?_⟩
            · intro c45
              try simp only [qao, qak, qan, t_0, t_1, t_2, t_3, qal, t_4, t_6, t_8, qam] at c45
              intro y46 e47
              try have h48 : (y11 - 1).toInt = (y11.toInt - 1) := by rw [qpT] <;> (try simp only [t_0, t_1, t_2, t_3, qal, t_4, t_6, t_8, qam]) <;> omega
              try have h49 : (y11 - 1).toInt = (y11.toInt - 1) := by rw [qpT] <;> (try simp only [t_0, t_1, t_2, t_3, qal, t_4, t_6, t_8, qam]) <;> omega
              try have h50 : (0 < (y11 - 1).toInt ∧ y46.toInt = (y11 - 1).toInt) ∨ ((y11 - 1).toInt ≤ 0 ∧ y46.toInt = 0) := by rw [e47]; split <;> rename_i hc <;> simp only [qao, t_0, t_1, t_2, t_3, qal, t_4, t_6, t_8, qam] at hc ⊢ <;> omega
              refine hRS (by first | with_reducible assumption | omega | (simp only [qal, tZ]; first | done | omega)) (by first | with_reducible assumption | omega | (simp only [qal, tZ]; first | done | omega)) (by first | with_reducible assumption | omega | (simp only [qal, tZ]; first | done | omega)) (fun y51 => ?_)
              intro y52 e53
              try have h54 : (l5 + y51).toInt = (l5.toInt + y51.toInt) := by rw [qap] <;> (try simp only [t_0, t_1, t_2, t_3, qal, t_4, t_6, t_8, qam]) <;> omega
              try have h55 : y52.toInt = (l5.toInt + y51.toInt) := by rw [e53]; exact h54
              intro y56 e57
              try have h58 : (l6 + 1).toInt = (l6.toInt + 1) := by rw [qap] <;> (try simp only [t_0, t_1, t_2, t_3, qal, t_4, t_6, t_8, qam]) <;> omega
              try have h59 : y56.toInt = (l6.toInt + 1) := by rw [e57]; exact h58
              exact ih _ _ _ _ _ _ (by first | with_reducible assumption | omega | (simp only [qal, tZ]; first | done | omega)) (by first | with_reducible assumption | omega | (simp only [qal, tZ]; first | done | omega)) (by first | with_reducible assumption | omega | (simp only [qal, tZ]; first | done | omega)) (by first | with_reducible assumption | omega | (simp only [qal, tZ]; first | done | omega)) (by first | with_reducible assumption | omega | (simp only [qal, tZ]; first | done | omega)) (by first | with_reducible assumption | omega | (simp only [qal, tZ]; first | done | omega))
            · intro c60
              try simp only [qao, qak, qan, t_0, t_1, t_2, t_3, qal, t_4, t_6, t_8, qam] at c60
              intro y61 e62
              try have h63 : (l3 - 1).toInt = (l3.toInt - 1) := by rw [qpT] <;> (try simp only [t_0, t_1, t_2, t_3, qal, t_4, t_6, t_8, qam]) <;> omega
              try have h64 : (l3 - 1).toInt = (l3.toInt - 1) := by rw [qpT] <;> (try simp only [t_0, t_1, t_2, t_3, qal, t_4, t_6, t_8, qam]) <;> omega
              try have h65 : (0 < (l3 - 1).toInt ∧ y61.toInt = (l3 - 1).toInt) ∨ ((l3 - 1).toInt ≤ 0 ∧ y61.toInt = 0) := by rw [e62]; split <;> rename_i hc <;> simp only [qao, t_0, t_1, t_2, t_3, qal, t_4, t_6, t_8, qam] at hc ⊢ <;> omega
              refine hRS (by first | with_reducible assumption | omega | (simp only [qal, tZ]; first | done | omega)) (by first | with_reducible assumption | omega | (simp only [qal, tZ]; first | done | omega)) (by first | with_reducible assumption | omega | (simp only [qal, tZ]; first | done | omega)) (fun y66 => ?_)
              intro y67 e68
              try have h69 : (l5 + y66).toInt = (l5.toInt + y66.toInt) := by rw [qap] <;> (try simp only [t_0, t_1, t_2, t_3, qal, t_4, t_6, t_8, qam]) <;> omega
              try have h70 : y67.toInt = (l5.toInt + y66.toInt) := by rw [e68]; exact h69
              intro y71 e72
              try have h73 : (l6 + 1).toInt = (l6.toInt + 1) := by rw [qap] <;> (try simp only [t_0, t_1, t_2, t_3, qal, t_4, t_6, t_8, qam]) <;> omega
              try have h74 : y71.toInt = (l6.toInt + 1) := by rw [e72]; exact h73
              exact ih _ _ _ _ _ _ (by first | with_reducible assumption | omega | (simp only [qal, tZ]; first | done | omega)) (by first | with_reducible assumption | omega | (simp only [qal, tZ]; first | done | omega)) (by first | with_reducible assumption | omega | (simp only [qal, tZ]; first | done | omega)) (by first | with_reducible assumption | omega | (simp only [qal, tZ]; first | done | omega)) (by first | with_reducible assumption | omega | (simp only [qal, tZ]; first | done | omega)) (by first | with_reducible assumption | omega | (simp only [qal, tZ]; first | done | omega))
        · intro c75
          try simp only [qao, qak, qan, t_0, t_1, t_2, t_3, qal, t_4, t_6, t_8, qam] at c75
          refine ⟨?_, ?_⟩
          · intro c76
            try simp only [qao, qak, qan, t_0, t_1, t_2, t_3, qal, t_4, t_6, t_8, qam] at c76
            refine ⟨?_, ?_⟩
            · intro c77
              try simp only [qao, qak, qan, t_0, t_1, t_2, t_3, qal, t_4, t_6, t_8, qam] at c77
              intro y78 e79
              try have h80 : (y11 - 1).toInt = (y11.toInt - 1) := by rw [qpT] <;> (try simp only [t_0, t_1, t_2, t_3, qal, t_4, t_6, t_8, qam]) <;> omega
              try have h81 : (y11 - 1).toInt = (y11.toInt - 1) := by rw [qpT] <;> (try simp only [t_0, t_1, t_2, t_3, qal, t_4, t_6, t_8, qam]) <;> omega
              try have h82 : (0 < (y11 - 1).toInt ∧ y78.toInt = (y11 - 1).toInt) ∨ ((y11 - 1).toInt ≤ 0 ∧ y78.toInt = 0) := by rw [e79]; split <;> rename_i hc <;> simp only [qao, t_0, t_1, t_2, t_3, qal, t_4, t_6, t_8, qam] at hc ⊢ <;> omega
              refine hRS (by first | with_reducible assumption | omega | (simp only [qal, tZ]; first | done | omega)) (by first | with_reducible assumption | omega | (simp only [qal, tZ]; first | done | omega)) (by first | with_reducible assumption | omega | (simp only [qal, tZ]; first | done | omega)) (fun y83 => ?_)
              intro y84 e85
              try have h86 : (l5 + y83).toInt = (l5.toInt + y83.toInt) := by rw [qap] <;> (try simp only [t_0, t_1, t_2, t_3, qal, t_4, t_6, t_8, qam]) <;> omega
              try have h87 : y84.toInt = (l5.toInt + y83.toInt) := by rw [e85]; exact h86
              intro y88 e89
              try have h90 : (l6 + 1).toInt = (l6.toInt + 1) := by rw [qap] <;> (try simp only [t_0, t_1, t_2, t_3, qal, t_4, t_6, t_8, qam]) <;> omega
              try have h91 : y88.toInt = (l6.toInt + 1) := by rw [e89]; exact h90
              exact ih _ _ _ _ _ _ (by first | with_reducible assumption | omega | (simp only [qal, tZ]; first | done | omega)) (by first | with_reducible assumption | omega | (simp only [qal, tZ]; first | done | omega)) (by first | with_reducible assumption | omega | (simp only [qal, tZ]; first | done | omega)) (by first | with_reducible assumption | omega | (simp only [qal, tZ]; first | done | omega)) (by first | with_reducible assumption | omega | (simp only [qal, tZ]; first | done | omega)) (by first | with_reducible assumption | omega | (simp only [qal, tZ]; first | done | omega))
            · intro c92
              try simp only [qao, qak, qan, t_0, t_1, t_2, t_3, qal, t_4, t_6, t_8, qam] at c92
              intro y93 e94
              try have h95 : (l3 - 1).toInt = (l3.toInt - 1) := by rw [qpT] <;> (try simp only [t_0, t_1, t_2, t_3, qal, t_4, t_6, t_8, qam]) <;> omega
              try have h96 : (l3 - 1).toInt = (l3.toInt - 1) := by rw [qpT] <;> (try simp only [t_0, t_1, t_2, t_3, qal, t_4, t_6, t_8, qam]) <;> omega
              try have h97 : (0 < (l3 - 1).toInt ∧ y93.toInt = (l3 - 1).toInt) ∨ ((l3 - 1).toInt ≤ 0 ∧ y93.toInt = 0) := by rw [e94]; split <;> rename_i hc <;> simp only [qao, t_0, t_1, t_2, t_3, qal, t_4, t_6, t_8, qam] at hc ⊢ <;> omega
              refine hRS (by first | with_reducible assumption | omega | (simp only [qal, tZ]; first | done | omega)) (by first | with_reducible assumption | omega | (simp only [qal, tZ]; first | done | omega)) (by first | with_reducible assumption | omega | (simp only [qal, tZ]; first | done | omega)) (fun y98 => ?_)
              intro y99 e100
              try have h101 : (l5 + y98).toInt = (l5.toInt + y98.toInt) := by rw [qap] <;> (try simp only [t_0, t_1, t_2, t_3, qal, t_4, t_6, t_8, qam]) <;> omega
              try have h102 : y99.toInt = (l5.toInt + y98.toInt) := by rw [e100]; exact h101
              intro y103 e104
              try have h105 : (l6 + 1).toInt = (l6.toInt + 1) := by rw [qap] <;> (try simp only [t_0, t_1, t_2, t_3, qal, t_4, t_6, t_8, qam]) <;> omega
              try have h106 : y103.toInt = (l6.toInt + 1) := by rw [e104]; exact h105
              exact ih _ _ _ _ _ _ (by first | with_reducible assumption | omega | (simp only [qal, tZ]; first | done | omega)) (by first | with_reducible assumption | omega | (simp only [qal, tZ]; first | done | omega)) (by first | with_reducible assumption | omega | (simp only [qal, tZ]; first | done | omega)) (by first | with_reducible assumption | omega | (simp only [qal, tZ]; first | done | omega)) (by first | with_reducible assumption | omega | (simp only [qal, tZ]; first | done | omega)) (by first | with_reducible assumption | omega | (simp only [qal, tZ]; first | done | omega))
          · intro c107
            try simp only [qao, qak, qan, t_0, t_1, t_2, t_3, qal, t_4, t_6, t_8, qam] at c107
            refine ⟨?_, ?_⟩
            · intro c108
              try simp only [qao, qak, qan, t_0, t_1, t_2, t_3, qal, t_4, t_6, t_8, qam] at c108
              intro y109 e110
              try have h111 : (y11 - 1).toInt = (y11.toInt - 1) := by rw [qpT] <;> (try simp only [t_0, t_1, t_2, t_3, qal, t_4, t_6, t_8, qam]) <;> omega
              try have h112 : (y11 - 1).toInt = (y11.toInt - 1) := by rw [qpT] <;> (try simp only [t_0, t_1, t_2, t_3, qal, t_4, t_6, t_8, qam]) <;> omega
              try have h113 : (0 < (y11 - 1).toInt ∧ y109.toInt = (y11 - 1).toInt) ∨ ((y11 - 1).toInt ≤ 0 ∧ y109.toInt = 0) := by rw [e110]; split <;> rename_i hc <;> simp only [qao, t_0, t_1, t_2, t_3, qal, t_4, t_6, t_8, qam] at hc ⊢ <;> omega
              refine hRS (by first | with_reducible assumption | omega | (simp only [qal, tZ]; first | done | omega)) (by first | with_reducible assumption | omega | (simp only [qal, tZ]; first | done | omega)) (by first | with_reducible assumption | omega | (simp only [qal, tZ]; first | done | omega)) (fun y114 => ?_)
              intro y115 e116
              try have h117 : (l5 + y114).toInt = (l5.toInt + y114.toInt) := by rw [qap] <;> (try simp only [t_0, t_1, t_2, t_3, qal, t_4, t_6, t_8, qam]) <;> omega
              try have h118 : y115.toInt = (l5.toInt + y114.toInt) := by rw [e116]; exact h117
              intro y119 e120
              try have h121 : (l6 + 1).toInt = (l6.toInt + 1) := by rw [qap] <;> (try simp only [t_0, t_1, t_2, t_3, qal, t_4, t_6, t_8, qam]) <;> omega
              try have h122 : y119.toInt = (l6.toInt + 1) := by rw [e120]; exact h121
              exact ih _ _ _ _ _ _ (by first | with_reducible assumption | omega | (simp only [qal, tZ]; first | done | omega)) (by first | with_reducible assumption | omega | (simp only [qal, tZ]; first | done | omega)) (by first | with_reducible assumption | omega | (simp only [qal, tZ]; first | done | omega)) (by first | with_reducible assumption | omega | (simp only [qal, tZ]; first | done | omega)) (by first | with_reducible assumption | omega | (simp only [qal, tZ]; first | done | omega)) (by first | with_reducible assumption | omega | (simp only [qal, tZ]; first | done | omega))
            · intro c123
              try simp only [qao, qak, qan, t_0, t_1, t_2, t_3, qal, t_4, t_6, t_8, qam] at c123
              intro y124 e125
              try have h126 : (l3 - 1).toInt = (l3.toInt - 1) := by rw [qpT] <;> (try simp only [t_0, t_1, t_2, t_3, qal, t_4, t_6, t_8, qam]) <;> omega
              try have h127 : (l3 - 1).toInt = (l3.toInt - 1) := by rw [qpT] <;> (try simp only [t_0, t_1, t_2, t_3, qal, t_4, t_6, t_8, qam]) <;> omega
              try have h128 : (0 < (l3 - 1).toInt ∧ y124.toInt = (l3 - 1).toInt) ∨ ((l3 - 1).toInt ≤ 0 ∧ y124.toInt = 0) := by rw [e125]; split <;> rename_i hc <;> simp only [qao, t_0, t_1, t_2, t_3, qal, t_4, t_6, t_8, qam] at hc ⊢ <;> omega
              refine hRS (by first | with_reducible assumption | omega | (simp only [qal, tZ]; first | done | omega)) (by first | with_reducible assumption | omega | (simp only [qal, tZ]; first | done | omega)) (by first | with_reducible assumption | omega | (simp only [qal, tZ]; first | done | omega)) (fun y129 => ?_)
              intro y130 e131
              try have h132 : (l5 + y129).toInt = (l5.toInt + y129.toInt) := by rw [qap] <;> (try simp only [t_0, t_1, t_2, t_3, qal, t_4, t_6, t_8, qam]) <;> omega
              try have h133 : y130.toInt = (l5.toInt + y129.toInt) := by rw [e131]; exact h132
              intro y134 e135
              try have h136 : (l6 + 1).toInt = (l6.toInt + 1) := by rw [qap] <;> (try simp only [t_0, t_1, t_2, t_3, qal, t_4, t_6, t_8, qam]) <;> omega
              try have h137 : y134.toInt = (l6.toInt + 1) := by rw [e135]; exact h136
              exact ih _ _ _ _ _ _ (by first | with_reducible assumption | omega | (simp only [qal, tZ]; first | done | omega)) (by first | with_reducible assumption | omega | (simp only [qal, tZ]; first | done | omega)) (by first | with_reducible assumption | omega | (simp only [qal, tZ]; first | done | omega)) (by first | with_reducible assumption | omega | (simp only [qal, tZ]; first | done | omega)) (by first | with_reducible assumption | omega | (simp only [qal, tZ]; first | done | omega)) (by first | with_reducible assumption | omega | (simp only [qal, tZ]; first | done | omega))
theorem qw8 {RS : NI → Int32 → Int32 → Int32 → Int32 → (Int32 → Prop) → Prop} {K : Int} (hK : 1 ≤ K ∧ K ≤ 5) (hRS : ∀ {jdE : Nat → Int32} {p1 : Int32} {p2 : Int32} {p3 : Int32} {p4 : Int32} {Q : Int32 → Prop} (a0 : 0 ≤ p4.toInt) (a1 : p4.toInt < 64) (a2 : pcK p4 8 ≤ (K - 1)) (hq : ∀ (r : Int32), Q r), RS jdE p1 p2 p3 p4 Q) {jdE : Nat → Int32} {p1 : Int32} {p2 : Int32} {p3 : Int32} {p4 : Int32} {Q : Int32 → Prop} (a0 : 0 ≤ p4.toInt) (a1 : p4.toInt < 64) (a2 : pcK p4 8 ≤ K) (hq : ∀ (r : Int32), Q r) : qsh RS jdE p1 p2 p3 p4 Q := by
  obtain ⟨hKa, hKb⟩ := id hK
  refine ⟨?_, ?_⟩
  · intro c138
    try simp only [qao, qak, qan, t_0, t_1, t_2, t_3, qal, t_4, t_6, t_8, qam] at c138
    refine ⟨7, q02 hK hRS hq 7 _ _ _ _ _ _ (by first | with_reducible assumption | omega | (simp only [qal, tZ]; first | done | omega)) (by first | with_reducible assumption | omega | (simp only [qal, tZ]; first | done | omega)) (by first | with_reducible assumption | omega | (simp only [qal, tZ]; first | done | omega)) (by first | with_reducible assumption | omega | (simp only [qal, tZ]; first | done | omega)) (by first | with_reducible assumption | omega | (simp only [qal, tZ]; first | done | omega)) (by first | with_reducible assumption | omega | (simp only [qal, tZ]; first | done | omega))⟩
  · intro c139
    try simp only [qao, qak, qan, t_0, t_1, t_2, t_3, qal, t_4, t_6, t_8, qam] at c139
    refine ⟨?_, ?_⟩
    · intro c140
      try simp only [qao, qak, qan, t_0, t_1, t_2, t_3, qal, t_4, t_6, t_8, qam] at c140
      exact hq _
    · intro c141
      try simp only [qao, qak, qan, t_0, t_1, t_2, t_3, qal, t_4, t_6, t_8, qam] at c141
      exact hq _
theorem qabz {jdE : Nat → Int32} {p1 : Int32} {p2 : Int32} {p3 : Int32} {p4 : Int32} {Q : Int32 → Prop} (a0 : 0 ≤ p4.toInt) (a1 : p4.toInt < 64) (a2 : pcK p4 8 ≤ 1) (hq : ∀ (r : Int32), Q r) : qzi jdE p1 p2 p3 p4 Q :=
  qw8 (K := 1) (by decide) qaat a0 a1 a2 hq
theorem qaby {jdE : Nat → Int32} {p1 : Int32} {p2 : Int32} {p3 : Int32} {p4 : Int32} {Q : Int32 → Prop} (a0 : 0 ≤ p4.toInt) (a1 : p4.toInt < 64) (a2 : pcK p4 8 ≤ 2) (hq : ∀ (r : Int32), Q r) : qzn jdE p1 p2 p3 p4 Q :=
  qw8 (K := 2) (by decide) qabz a0 a1 a2 hq
theorem qaaz {jdE : Nat → Int32} {p1 : Int32} {p2 : Int32} {p3 : Int32} {p4 : Int32} {Q : Int32 → Prop} (a0 : 0 ≤ p4.toInt) (a1 : p4.toInt < 64) (a2 : pcK p4 8 ≤ 3) (hq : ∀ (r : Int32), Q r) : qza jdE p1 p2 p3 p4 Q :=
  qw8 (K := 3) (by decide) qaby a0 a1 a2 hq
theorem qaaX {jdE : Nat → Int32} {p1 : Int32} {p2 : Int32} {p3 : Int32} {p4 : Int32} {Q : Int32 → Prop} (a0 : 0 ≤ p4.toInt) (a1 : p4.toInt < 64) (a2 : pcK p4 8 ≤ 4) (hq : ∀ (r : Int32), Q r) : qzF jdE p1 p2 p3 p4 Q :=
  qw8 (K := 4) (by decide) qaaz a0 a1 a2 hq
theorem q9T {jdE : Nat → Int32} {p1 : Int32} {p2 : Int32} {p3 : Int32} {p4 : Int32} {Q : Int32 → Prop} (a0 : 0 ≤ p4.toInt) (a1 : p4.toInt < 64) (a2 : pcK p4 8 ≤ 5) (hq : ∀ (r : Int32), Q r) : qFs jdE p1 p2 p3 p4 Q :=
  qw8 (K := 5) (by decide) qaaX a0 a1 a2 hq
