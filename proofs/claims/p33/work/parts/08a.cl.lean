theorem qbF : (2147483647 : Int32).toInt = 2147483647 := by decide
theorem q7h {jdE : Nat → Int32} {p1 : Int32} {Q : Int32 → Prop} (hq : ∀ r : Int32, (r.toInt = 0 ∨ r.toInt = 1) → Q r) : qdN jdE p1 Q := qnr (hq 0 (Or.inl t_0)) (hq 1 (Or.inr t_1))
theorem qGf {p0 p1 : Int32} {Q : Int32 → Prop} (hq : ∀ r : Int32, (r.toInt = 0 ∨ r.toInt = 1) → Q r) : qh5 p0 p1 Q := qxm (hq 0 (Or.inl t_0)) (hq 1 (Or.inr t_1))
theorem qaLW {jdE : Nat → Int32} {p1 : Int32} {Q : Int32 → Prop} (a0 : 0 ≤ p1.toInt) (a1 : p1.toInt < 6) (hq : ∀ r : Int32, Q r) : qrk jdE p1 Q := qwC a0 a1 (fun r _ => hq r)
theorem qaK7 {jdE : Nat → Int32} {jlS jc6 jj9 : Int32} {jkK jkj jlh jli jlg jlp : Nat → Int32} {p1 : Int32} {Q : Int32 → NI → NI → Prop} (a0 : qrF jc6 jlS jdE) (a1 : sLaw jj9 jkK jkj) (a2 : jc6.toInt ≤ 6) (a3 : jlS.toInt ≤ 8) (a4 : 0 ≤ p1.toInt) (a5 : p1.toInt < jc6.toInt) (hq : ∀ (r : Int32) (fc pl : NI), Q r fc pl) : qAv jdE jlS jc6 jj9 jkK jkj jlh jli jlg jlp p1 Q := qaF6 a2 a3 a0 a4 a5 a1 hq
theorem qaRU {p0 p1 p2 : Int32} {Q : Int32 → Prop} (hq : ∀ r : Int32, ((r.toInt = 1 ∧ p1.toInt ≤ p0.toInt ∧ p0.toInt ≤ p2.toInt) ∨ r.toInt = 0) → Q r) : qqN p0 p1 p2 Q := qI2 (fun _ => hq 0 (Or.inr t_0)) (fun a b => hq 1 (Or.inl ⟨t_1, a, b⟩))
set_option maxRecDepth 100000 in
theorem qbhX : ∀ x : Fin 64, ∀ i : Fin 6, ¬ (((Int32.ofNat x.val >>> (Int32.ofNat i.val &&& 31)) &&& 1 : Int32) = 1) ∨ (0 ≤ ((Int32.ofNat x.val) ^^^ (1 <<< (Int32.ofNat i.val &&& 31)) : Int32).toInt ∧ ((Int32.ofNat x.val) ^^^ (1 <<< (Int32.ofNat i.val &&& 31)) : Int32).toInt < 64 ∧ pcK ((Int32.ofNat x.val) ^^^ (1 <<< (Int32.ofNat i.val &&& 31))) 8 + 1 = pcK (Int32.ofNat x.val) 8) := by decide +kernel
set_option maxRecDepth 100000 in
theorem qbma : ∀ x : Fin 64, pcK (Int32.ofNat x.val) 8 ≤ 6 := by decide +kernel
theorem qbjh {x : Int32} (a0 : 0 ≤ x.toInt) (a1 : x.toInt < 64) : pcK x 8 ≤ 6 := by
  have h1 := qkX a0
  have g := qbma ⟨x.toNatClampNeg, by omega⟩
  rw [qP9 a0] at g
  exact g
theorem qahj {p0 p1 : Int32} {Q : Int32 → Prop} (a0 : 0 ≤ p0.toInt) (a1 : p0.toInt < 64) (a2 : 0 ≤ p1.toInt) (a3 : p1.toInt < 6) (hq : ∀ r : Int32, (r.toInt = 0 ∨ (r.toInt = 1 ∧ 0 ≤ (p0 ^^^ (1 <<< (p1 &&& 31)) : Int32).toInt ∧ (p0 ^^^ (1 <<< (p1 &&& 31)) : Int32).toInt < 64 ∧ pcK (p0 ^^^ (1 <<< (p1 &&& 31))) 8 + 1 = pcK p0 8)) → Q r) : qh5 p0 p1 Q := by
  refine ⟨fun _ => hq 0 (Or.inl t_0), fun c => hq 1 (Or.inr ⟨t_1, ?_⟩)⟩
  have h1 := qkX a0
  have h2 := qkX a2
  have g := qbhX ⟨p0.toNatClampNeg, by omega⟩ ⟨p1.toNatClampNeg, by omega⟩
  rw [qP9 a0, qP9 a2] at g
  exact g.resolve_left (fun z => z c)
theorem qbjd {x : Int32} (x0 : 1 ≤ x.toInt) (x1 : x.toInt ≤ 8) : 1 ≤ (1 <<< ((x - 1) &&& 31) : Int32).toInt ∧ (1 <<< ((x - 1) &&& 31) : Int32).toInt ≤ 128 := by
  rcases qaeh (x := x) (by omega) x1 with rfl | rfl | rfl | rfl | rfl | rfl | rfl | rfl | rfl <;> first | decide | (exfalso; revert x0; decide)
theorem qalB {jaN : Int32} {jiS : Nat → Int32} {jiP : Nat → Int32} {Q : Int32 → NI → Prop} (a0 : 0 ≤ jaN.toInt) (a1 : jaN.toInt ≤ 8) (hq : ∀ (r : Int32) (near : NI), Q r near) : ∀ (k : Nat) (jmJ : NI) (l2 l3 l4 : Int32), (l2.toInt ≤ 255) → (0 ≤ l4.toInt) → (l4.toInt ≤ 256) → 256 - l4.toInt < (k : Int) → qpP jaN jiS jiP Q k jmJ l2 l3 l4 := by
  intro k
  induction k with
  | zero => intro jmJ l2 l3 l4 i0 i1 i2 i3; omega
  | succ k ih =>
    intro jmJ l2 l3 l4 i0 i1 i2 i3
    refine ⟨?_, ?_⟩
    · intro c1
      try simp only [qao, qak, qan, tY] at c1
      exact hq _ _
    · intro c2
      try simp only [qao, qak, qan, tY] at c2
      refine qXT (fun y3 => ?_)
      refine qXT (fun y4 => ?_)
      refine ⟨?_, ?_⟩
      · intro c5
        try simp only [qao, qak, qan, tY] at c5
        intro y6 e7
        try have h8 : (l4 + 1).toInt = (l4.toInt + 1) := by rw [qap] <;> (try simp only [tY]) <;> omega
        try have h9 : y6.toInt = (l4.toInt + 1) := by rw [e7]; exact h8
        exact ih _ _ _ _ (by first | with_reducible assumption | omega | (simp only [tZ]; first | done | omega)) (by first | with_reducible assumption | omega | (simp only [tZ]; first | done | omega)) (by first | with_reducible assumption | omega | (simp only [tZ]; first | done | omega)) (by first | with_reducible assumption | omega | (simp only [tZ]; first | done | omega))
      · intro c10
        try simp only [qao, qak, qan, tY] at c10
        refine qaJt (by first | with_reducible assumption | omega | (simp only [tZ]; first | done | omega)) (fun y11 => ?_)
        refine ⟨?_, ?_⟩
        · intro c12
          try simp only [qao, qak, qan, tY] at c12
          intro y13 e14
          try have h15 : (l4 + 1).toInt = (l4.toInt + 1) := by rw [qap] <;> (try simp only [tY]) <;> omega
          try have h16 : y13.toInt = (l4.toInt + 1) := by rw [e14]; exact h15
          exact ih _ _ _ _ (by first | with_reducible assumption | omega | (simp only [tZ]; first | done | omega)) (by first | with_reducible assumption | omega | (simp only [tZ]; first | done | omega)) (by first | with_reducible assumption | omega | (simp only [tZ]; first | done | omega)) (by first | with_reducible assumption | omega | (simp only [tZ]; first | done | omega))
        · intro c17
          try simp only [qao, qak, qan, tY] at c17
          intro y18 e19
          try have h20 : (l4 + 1).toInt = (l4.toInt + 1) := by rw [qap] <;> (try simp only [tY]) <;> omega
          try have h21 : y18.toInt = (l4.toInt + 1) := by rw [e19]; exact h20
          exact ih _ _ _ _ (by first | with_reducible assumption | omega | (simp only [tZ]; first | done | omega)) (by first | with_reducible assumption | omega | (simp only [tZ]; first | done | omega)) (by first | with_reducible assumption | omega | (simp only [tZ]; first | done | omega)) (by first | with_reducible assumption | omega | (simp only [tZ]; first | done | omega))
theorem qasD {jaN : Int32} {jiS : Nat → Int32} {jiP : Nat → Int32} {Q : Int32 → NI → Prop} (a0 : 0 ≤ jaN.toInt) (a1 : jaN.toInt ≤ 8) (hq : ∀ (r : Int32) (near : NI), Q r near) : ∀ (k : Nat) (jmJ : NI) (l1 l2 : Int32), (0 ≤ l2.toInt) → (l2.toInt ≤ 8) → 8 - l2.toInt < (k : Int) → qEK jaN jiS jiP Q k jmJ l1 l2 := by
  intro k
  induction k with
  | zero => intro jmJ l1 l2 i0 i1 i2; omega
  | succ k ih =>
    intro jmJ l1 l2 i0 i1 i2
    refine ⟨?_, ?_⟩
    · intro c22
      try simp only [qao, qak, qan, tY] at c22
      intro y23 e24
      try have h25 := qN0 (x := jaN) (by first | with_reducible assumption | omega | (simp only [tZ]; first | done | omega)) (by first | with_reducible assumption | omega | (simp only [tZ]; first | done | omega))
      try have h26 : ((1 <<< (jaN &&& 31)) - 1).toInt = ((1 <<< (jaN &&& 31)).toInt - 1) := by rw [qpT] <;> (try simp only [tY]) <;> omega
      try have h27 : y23.toInt = ((1 <<< (jaN &&& 31)).toInt - 1) := by rw [e24]; exact h26
      refine ⟨257, qalB (by first | with_reducible assumption | omega | (simp only [tZ]; first | done | omega)) (by first | with_reducible assumption | omega | (simp only [tZ]; first | done | omega)) hq 257 _ _ _ _ (by first | with_reducible assumption | omega | (simp only [tZ]; first | done | omega)) (by first | with_reducible assumption | omega | (simp only [tZ]; first | done | omega)) (by first | with_reducible assumption | omega | (simp only [tZ]; first | done | omega)) (by first | with_reducible assumption | omega | (simp only [tZ]; first | done | omega))⟩
    · intro c28
      try simp only [qao, qak, qan, tY] at c28
      refine qJK (by first | with_reducible assumption | omega | (simp only [tZ]; first | done | omega)) (by first | with_reducible assumption | omega | (simp only [tZ]; first | done | omega)) (by first | with_reducible assumption | omega | (simp only [tZ]; first | done | omega)) (fun y29 => ?_)
      refine ⟨qa6 (by first | with_reducible assumption | omega | (simp only [tZ]; first | done | omega)) (by first | with_reducible assumption | omega | (simp only [tZ]; first | done | omega)), ?_⟩
      intro y30 e31
      intro y32 e33
      try have h34 : (l2 + 1).toInt = (l2.toInt + 1) := by rw [qap] <;> (try simp only [tY]) <;> omega
      try have h35 : y32.toInt = (l2.toInt + 1) := by rw [e33]; exact h34
      exact ih _ _ _ (by first | with_reducible assumption | omega | (simp only [tZ]; first | done | omega)) (by first | with_reducible assumption | omega | (simp only [tZ]; first | done | omega)) (by first | with_reducible assumption | omega | (simp only [tZ]; first | done | omega))
theorem qaIK {jaN : Int32} {jiS : Nat → Int32} {jiP : Nat → Int32} {jmJ : Nat → Int32} {p1 : Int32} {Q : Int32 → NI → Prop} (a0 : 0 ≤ jaN.toInt) (a1 : jaN.toInt ≤ 8) (hq : ∀ (r : Int32) (near : NI), Q r near) : qUt jaN jiS jiP jmJ p1 Q := by
  refine ⟨9, qasD (by first | with_reducible assumption | omega | (simp only [tZ]; first | done | omega)) (by first | with_reducible assumption | omega | (simp only [tZ]; first | done | omega)) hq 9 _ _ _ (by first | with_reducible assumption | omega | (simp only [tZ]; first | done | omega)) (by first | with_reducible assumption | omega | (simp only [tZ]; first | done | omega)) (by first | with_reducible assumption | omega | (simp only [tZ]; first | done | omega))⟩
theorem qaZd {jkG : Nat → Int32} {p1 : Int32} {Q : Int32 → Prop} (a0 : 0 ≤ p1.toInt) (a1 : p1.toInt < 8) (hq : ∀ (r : Int32), (r.toInt = 0 ∨ r.toInt = 1) → Q r) : qXK jkG p1 Q := by
  refine ⟨qa6 (by first | with_reducible assumption | omega | (simp only [tZ]; first | done | omega)) (by first | with_reducible assumption | omega | (simp only [tZ]; first | done | omega)), ?_⟩
  intro y1 e2
  have h3 : y1.toInt = (jkG p1.toNatClampNeg).toInt := by rw [e2]
  refine ⟨?_, ?_⟩
  · intro c4
    try simp only [qao, qak, qan, tY] at c4
    exact hq _ (by first | with_reducible assumption | omega | (simp only [tZ]; first | done | omega))
  · intro c5
    try simp only [qao, qak, qan, tY] at c5
    exact hq _ (by first | with_reducible assumption | omega | (simp only [tZ]; first | done | omega))
theorem qaTc {jkG : Nat → Int32} {p1 : Int32} {p2 : Int32} {Q : Int32 → Prop} (a0 : 0 ≤ p1.toInt) (a1 : p1.toInt < 8) (hq : ∀ (r : Int32), (r.toInt = 0 ∨ r.toInt = 1) → Q r) : q3C jkG p1 p2 Q := by
  refine ⟨qa6 (by first | with_reducible assumption | omega | (simp only [tZ]; first | done | omega)) (by first | with_reducible assumption | omega | (simp only [tZ]; first | done | omega)), ?_⟩
  intro y1 e2
  have h3 : y1.toInt = (jkG p1.toNatClampNeg).toInt := by rw [e2]
  refine ⟨?_, ?_⟩
  · intro c4
    try simp only [qao, qak, qan, tY] at c4
    exact hq _ (by first | with_reducible assumption | omega | (simp only [tZ]; first | done | omega))
  · intro c5
    try simp only [qao, qak, qan, tY] at c5
    refine ⟨qa6 (by first | with_reducible assumption | omega | (simp only [tZ]; first | done | omega)) (by first | with_reducible assumption | omega | (simp only [tZ]; first | done | omega)), ?_⟩
    intro y6 e7
    have h8 : y6.toInt = (jkG p1.toNatClampNeg).toInt := by rw [e7]
    refine ⟨?_, ?_⟩
    · intro c9
      try simp only [qao, qak, qan, tY] at c9
      exact hq _ (by first | with_reducible assumption | omega | (simp only [tZ]; first | done | omega))
    · intro c10
      try simp only [qao, qak, qan, tY] at c10
      exact hq _ (by first | with_reducible assumption | omega | (simp only [tZ]; first | done | omega))
theorem qZN {jiL : Nat → Int32} {jjH : Nat → Int32} {p1 : Int32} {p2 : Int32} {p3 : Int32} {Q : Int32 → Prop} (a0 : 0 ≤ p1.toInt) (a1 : p1.toInt < 8) (a2 : 0 ≤ p2.toInt) (a3 : p2.toInt < 6) (hq : ∀ (r : Int32), Q r) : qEM jiL jjH p1 p2 p3 Q := by
  refine ⟨qa6 (by first | with_reducible assumption | omega | (simp only [tZ]; first | done | omega)) (by first | with_reducible assumption | omega | (simp only [tZ]; first | done | omega)), ?_⟩
  intro y1 e2
  have h3 : y1.toInt = (jiL p1.toNatClampNeg).toInt := by rw [e2]
  refine ⟨qa6 (by first | with_reducible assumption | omega | (simp only [tZ]; first | done | omega)) (by first | with_reducible assumption | omega | (simp only [tZ]; first | done | omega)), ?_⟩
  intro y4 e5
  have h6 : y4.toInt = (jjH p2.toNatClampNeg).toInt := by rw [e5]
  refine ⟨?_, ?_⟩
  · intro c7
    try simp only [qao, qak, qan, tY] at c7
    refine ⟨?_, ?_⟩
    · intro c8
      try simp only [qao, qak, qan, tY] at c8
      try have h9 : (y1 - 0).toInt = (y1.toInt - 0) := by rw [qpT] <;> (try simp only [tY]) <;> omega
      try have h10 : ((y1 - 0) + 0).toInt = ((y1 - 0).toInt + 0) := by rw [qap] <;> (try simp only [tY]) <;> omega
      exact hq _
    · intro c11
      try simp only [qao, qak, qan, tY] at c11
      try have h12 : (y1 - 0).toInt = (y1.toInt - 0) := by rw [qpT] <;> (try simp only [tY]) <;> omega
      try have h13 : ((y1 - 0) + 1).toInt = ((y1 - 0).toInt + 1) := by rw [qap] <;> (try simp only [tY]) <;> omega
      exact hq _
  · intro c14
    try simp only [qao, qak, qan, tY] at c14
    refine ⟨?_, ?_⟩
    · intro c15
      try simp only [qao, qak, qan, tY] at c15
      try have h16 : (y1 - 1).toInt = (y1.toInt - 1) := by rw [qpT] <;> (try simp only [tY]) <;> omega
      try have h17 : ((y1 - 1) + 0).toInt = ((y1 - 1).toInt + 0) := by rw [qap] <;> (try simp only [tY]) <;> omega
      exact hq _
    · intro c18
      try simp only [qao, qak, qan, tY] at c18
      try have h19 : (y1 - 1).toInt = (y1.toInt - 1) := by rw [qpT] <;> (try simp only [tY]) <;> omega
      try have h20 : ((y1 - 1) + 1).toInt = ((y1 - 1).toInt + 1) := by rw [qap] <;> (try simp only [tY]) <;> omega
      exact hq _
theorem qar9 {jaN : Int32} {jiL : Nat → Int32} {jjH : Nat → Int32} {jkE : Nat → Int32} {Q : Int32 → Prop} (a0 : jaN.toInt ≤ 8) (hq : ∀ (r : Int32), (r.toInt = 0 ∨ r.toInt = 1) → Q r) : ∀ (k : Nat) (l1 l2 l3 : Int32), (0 ≤ l1.toInt) → (l1.toInt < 6) → (0 ≤ l3.toInt) → (l3.toInt ≤ 8) → 8 - l3.toInt < (k : Int) → qEs jaN jiL jjH jkE Q k l1 l2 l3 := by
  intro k
  induction k with
  | zero => intro l1 l2 l3 i0 i1 i2 i3 i4; omega
  | succ k ih =>
    intro l1 l2 l3 i0 i1 i2 i3 i4
    refine ⟨?_, ?_⟩
    · intro c1
      try simp only [qao, qak, qan, tY] at c1
      exact hq _ (by first | with_reducible assumption | omega | (simp only [tZ]; first | done | omega))
    · intro c2
      try simp only [qao, qak, qan, tY] at c2
      refine qZN (by first | with_reducible assumption | omega | (simp only [tZ]; first | done | omega)) (by first | with_reducible assumption | omega | (simp only [tZ]; first | done | omega)) (by first | with_reducible assumption | omega | (simp only [tZ]; first | done | omega)) (by first | with_reducible assumption | omega | (simp only [tZ]; first | done | omega)) (fun y3 => ?_)
      refine qaTc (by first | with_reducible assumption | omega | (simp only [tZ]; first | done | omega)) (by first | with_reducible assumption | omega | (simp only [tZ]; first | done | omega)) (fun y4 po5 => ?_)
      try simp only [tY] at po5
      refine ⟨?_, ?_⟩
      · intro c6
        try simp only [qao, qak, qan, tY] at c6
        intro y7 e8
        try have h9 : (l3 + 1).toInt = (l3.toInt + 1) := by rw [qap] <;> (try simp only [tY]) <;> omega
        try have h10 : y7.toInt = (l3.toInt + 1) := by rw [e8]; exact h9
        exact ih _ _ _ (by first | with_reducible assumption | omega | (simp only [tZ]; first | done | omega)) (by first | with_reducible assumption | omega | (simp only [tZ]; first | done | omega)) (by first | with_reducible assumption | omega | (simp only [tZ]; first | done | omega)) (by first | with_reducible assumption | omega | (simp only [tZ]; first | done | omega)) (by first | with_reducible assumption | omega | (simp only [tZ]; first | done | omega))
      · intro c11
        try simp only [qao, qak, qan, tY] at c11
        exact hq _ (by first | with_reducible assumption | omega | (simp only [tZ]; first | done | omega))
theorem qaJj {jaN : Int32} {jiL : Nat → Int32} {jjH : Nat → Int32} {jkE : Nat → Int32} {p1 : Int32} {p2 : Int32} {Q : Int32 → Prop} (a0 : jaN.toInt ≤ 8) (a1 : 0 ≤ p1.toInt) (a2 : p1.toInt < 6) (hq : ∀ (r : Int32), (r.toInt = 0 ∨ r.toInt = 1) → Q r) : qT9 jaN jiL jjH jkE p1 p2 Q := by
  refine ⟨9, qar9 (by first | with_reducible assumption | omega | (simp only [tZ]; first | done | omega)) hq 9 _ _ _ (by first | with_reducible assumption | omega | (simp only [tZ]; first | done | omega)) (by first | with_reducible assumption | omega | (simp only [tZ]; first | done | omega)) (by first | with_reducible assumption | omega | (simp only [tZ]; first | done | omega)) (by first | with_reducible assumption | omega | (simp only [tZ]; first | done | omega)) (by first | with_reducible assumption | omega | (simp only [tZ]; first | done | omega))⟩
theorem qaph {jaN : Int32} {jiL : Nat → Int32} {jjH : Nat → Int32} {jkE : Nat → Int32} {Q : Int32 → Int32 → Int32 → Prop} (a0 : jaN.toInt ≤ 8) (hq : ∀ (r first many : Int32), Q r first many) : ∀ (k : Nat) (jl7 jkY l1 l2 l3 : Int32), (0 ≤ l1.toInt) → (l1.toInt < 6) → (0 ≤ l3.toInt) → (l3.toInt ≤ 8) → 8 - l3.toInt < (k : Int) → qqT jaN jiL jjH jkE Q k jl7 jkY l1 l2 l3 := by
  intro k
  induction k with
  | zero => intro jl7 jkY l1 l2 l3 i0 i1 i2 i3 i4; omega
  | succ k ih =>
    intro jl7 jkY l1 l2 l3 i0 i1 i2 i3 i4
    refine ⟨?_, ?_⟩
    · intro c1
      try simp only [qao, qak, qan, t_0, t_1, qgg, t_2, t_3, t_4, t_6, t_8, qam] at c1
      exact hq _ _ _
    · intro c2
      try simp only [qao, qak, qan, t_0, t_1, qgg, t_2, t_3, t_4, t_6, t_8, qam] at c2
      refine qaJj (by first | with_reducible assumption | omega | (simp only [qgg, tZ]; first | done | omega)) (by first | with_reducible assumption | omega | (simp only [qgg, tZ]; first | done | omega)) (by first | with_reducible assumption | omega | (simp only [qgg, tZ]; first | done | omega)) (fun y3 po4 => ?_)
      try simp only [t_0, t_1, qgg, t_2, t_3, t_4, t_6, t_8, qam] at po4
      refine ⟨?_, ?_⟩
      · intro c5
        try simp only [qao, qak, qan, t_0, t_1, qgg, t_2, t_3, t_4, t_6, t_8, qam] at c5
        intro y6 e7
        try have h8 : (l3 + 1).toInt = (l3.toInt + 1) := by rw [qap] <;> (try simp only [t_0, t_1, qgg, t_2, t_3, t_4, t_6, t_8, qam]) <;> omega
        try have h9 : y6.toInt = (l3.toInt + 1) := by rw [e7]; exact h8
        exact ih _ _ _ _ _ (by first | with_reducible assumption | omega | (simp only [qgg, tZ]; first | done | omega)) (by first | with_reducible assumption | omega | (simp only [qgg, tZ]; first | done | omega)) (by first | with_reducible assumption | omega | (simp only [qgg, tZ]; first | done | omega)) (by first | with_reducible assumption | omega | (simp only [qgg, tZ]; first | done | omega)) (by first | with_reducible assumption | omega | (simp only [qgg, tZ]; first | done | omega))
      · intro c10
        try simp only [qao, qak, qan, t_0, t_1, qgg, t_2, t_3, t_4, t_6, t_8, qam] at c10
        intro y11 e12
        try have h13 := qN0 (x := l3) (by first | with_reducible assumption | omega | (simp only [qgg, tZ]; first | done | omega)) (by first | with_reducible assumption | omega | (simp only [qgg, tZ]; first | done | omega))
        try have h14 := qa61 (a := l2) (b := (1 <<< (l3 &&& 31))) (by omega) (by omega) (by omega) (by omega)
        have h15 : y11.toInt = (l2 ||| (1 <<< (l3 &&& 31))).toInt := by rw [e12]
        refine ⟨?_, ?_⟩
        · intro c16
          try simp only [qao, qak, qan, t_0, t_1, qgg, t_2, t_3, t_4, t_6, t_8, qam] at c16
          intro y17 e18
          try have h19 : (jkY + 1).toInt = (jkY.toInt + 1) := by rw [qap] <;> (try simp only [t_0, t_1, qgg, t_2, t_3, t_4, t_6, t_8, qam]) <;> omega
          try have h20 : y17.toInt = (jkY.toInt + 1) := by rw [e18]; exact h19
          intro y21 e22
          try have h23 : (l3 + 1).toInt = (l3.toInt + 1) := by rw [qap] <;> (try simp only [t_0, t_1, qgg, t_2, t_3, t_4, t_6, t_8, qam]) <;> omega
          try have h24 : y21.toInt = (l3.toInt + 1) := by rw [e22]; exact h23
          exact ih _ _ _ _ _ (by first | with_reducible assumption | omega | (simp only [qgg, tZ]; first | done | omega)) (by first | with_reducible assumption | omega | (simp only [qgg, tZ]; first | done | omega)) (by first | with_reducible assumption | omega | (simp only [qgg, tZ]; first | done | omega)) (by first | with_reducible assumption | omega | (simp only [qgg, tZ]; first | done | omega)) (by first | with_reducible assumption | omega | (simp only [qgg, tZ]; first | done | omega))
        · intro c25
          try simp only [qao, qak, qan, t_0, t_1, qgg, t_2, t_3, t_4, t_6, t_8, qam] at c25
          intro y26 e27
          try have h28 : (10 * l1).toInt = (10 * l1.toInt) := by rw [qu8] <;> (try simp only [t_0, t_1, qgg, t_2, t_3, t_4, t_6, t_8, qam]) <;> omega
          try have h29 : y26.toInt = (10 * l1.toInt) := by rw [e27]; exact h28
          intro y30 e31
          try have h32 : (y26 + l3).toInt = (y26.toInt + l3.toInt) := by rw [qap] <;> (try simp only [t_0, t_1, qgg, t_2, t_3, t_4, t_6, t_8, qam]) <;> omega
          try have h33 : y30.toInt = (y26.toInt + l3.toInt) := by rw [e31]; exact h32
          intro y34 e35
          try have h36 : (jkY + 1).toInt = (jkY.toInt + 1) := by rw [qap] <;> (try simp only [t_0, t_1, qgg, t_2, t_3, t_4, t_6, t_8, qam]) <;> omega
          try have h37 : y34.toInt = (jkY.toInt + 1) := by rw [e35]; exact h36
          intro y38 e39
          try have h40 : (l3 + 1).toInt = (l3.toInt + 1) := by rw [qap] <;> (try simp only [t_0, t_1, qgg, t_2, t_3, t_4, t_6, t_8, qam]) <;> omega
          try have h41 : y38.toInt = (l3.toInt + 1) := by rw [e39]; exact h40
          exact ih _ _ _ _ _ (by first | with_reducible assumption | omega | (simp only [qgg, tZ]; first | done | omega)) (by first | with_reducible assumption | omega | (simp only [qgg, tZ]; first | done | omega)) (by first | with_reducible assumption | omega | (simp only [qgg, tZ]; first | done | omega)) (by first | with_reducible assumption | omega | (simp only [qgg, tZ]; first | done | omega)) (by first | with_reducible assumption | omega | (simp only [qgg, tZ]; first | done | omega))
theorem qaFs {jaN : Int32} {jiL : Nat → Int32} {jjH : Nat → Int32} {jkE : Nat → Int32} {jl7 : Int32} {jkY : Int32} {p1 : Int32} {Q : Int32 → Int32 → Int32 → Prop} (a0 : jaN.toInt ≤ 8) (a1 : 0 ≤ p1.toInt) (a2 : p1.toInt < 6) (hq : ∀ (r first many : Int32), Q r first many) : qTn jaN jiL jjH jkE jl7 jkY p1 Q := by
  refine ⟨9, qaph (by first | with_reducible assumption | omega | (simp only [qgg, tZ]; first | done | omega)) hq 9 _ _ _ _ _ (by first | with_reducible assumption | omega | (simp only [qgg, tZ]; first | done | omega)) (by first | with_reducible assumption | omega | (simp only [qgg, tZ]; first | done | omega)) (by first | with_reducible assumption | omega | (simp only [qgg, tZ]; first | done | omega)) (by first | with_reducible assumption | omega | (simp only [qgg, tZ]; first | done | omega)) (by first | with_reducible assumption | omega | (simp only [qgg, tZ]; first | done | omega))⟩
theorem qaxc {jjm : Int32} {jh5 : Int32} {jkO : Nat → Int32} {jnQ : Nat → Int32} {Q : Int32 → Int32 → Int32 → Int32 → NI → NI → NI → Prop} (a0 : jjm.toInt ≤ 8) (a1 : jh5.toInt ≤ 6) (hq : ∀ (hares forms many first : Int32) (seated : NI) (sits : NI) (fittingForms : NI), (hares.toInt = jh5.toInt) → (forms.toInt = jjm.toInt) → Q hares forms many first seated sits fittingForms) : ∀ (k : Nat) (jaC jaN jkY jl7 : Int32) (jiL : NI) (jjH : NI) (jim : NI) (l3 : Int32), (jaC.toInt = jh5.toInt) → (jaN.toInt = jjm.toInt) → (0 ≤ l3.toInt) → (l3.toInt ≤ 6) → 6 - l3.toInt < (k : Int) → qv9 jjm jh5 jkO jnQ Q k jaC jaN jkY jl7 jiL jjH jim l3 := by
  intro k
  induction k with
  | zero => intro jaC jaN jkY jl7 jiL jjH jim l3 i0 i1 i2 i3 i4; omega
  | succ k ih =>
    intro jaC jaN jkY jl7 jiL jjH jim l3 i0 i1 i2 i3 i4
    refine ⟨?_, ?_⟩
    · intro c1
      try simp only [qao, qak, qan, tY] at c1
      exact hq _ _ _ _ _ _ _ (by first | with_reducible assumption | omega | (simp only [tZ]; first | done | omega)) (by first | with_reducible assumption | omega | (simp only [tZ]; first | done | omega))
    · intro c2
      try simp only [qao, qak, qan, tY] at c2
      refine qaLW (by first | with_reducible assumption | omega | (simp only [tZ]; first | done | omega)) (by first | with_reducible assumption | omega | (simp only [tZ]; first | done | omega)) (fun y3 => ?_)
      refine ⟨qa6 (by first | with_reducible assumption | omega | (simp only [tZ]; first | done | omega)) (by first | with_reducible assumption | omega | (simp only [tZ]; first | done | omega)), ?_⟩
      intro y4 e5
      refine q7h (fun y6 po7 => ?_)
      try simp only [tY] at po7
      refine ⟨?_, ?_⟩
      · intro c8
        try simp only [qao, qak, qan, tY] at c8
        refine qaFs (by first | with_reducible assumption | omega | (simp only [tZ]; first | done | omega)) (by first | with_reducible assumption | omega | (simp only [tZ]; first | done | omega)) (by first | with_reducible assumption | omega | (simp only [tZ]; first | done | omega)) (fun y9 y10 y11 => ?_)
        refine ⟨qa6 (by first | with_reducible assumption | omega | (simp only [tZ]; first | done | omega)) (by first | with_reducible assumption | omega | (simp only [tZ]; first | done | omega)), ?_⟩
        intro y12 e13
        intro y14 e15
        try have h16 : (l3 + 1).toInt = (l3.toInt + 1) := by rw [qap] <;> (try simp only [tY]) <;> omega
        try have h17 : y14.toInt = (l3.toInt + 1) := by rw [e15]; exact h16
        exact ih _ _ _ _ _ _ _ _ (by first | with_reducible assumption | omega | (simp only [tZ]; first | done | omega)) (by first | with_reducible assumption | omega | (simp only [tZ]; first | done | omega)) (by first | with_reducible assumption | omega | (simp only [tZ]; first | done | omega)) (by first | with_reducible assumption | omega | (simp only [tZ]; first | done | omega)) (by first | with_reducible assumption | omega | (simp only [tZ]; first | done | omega))
      · intro c18
        try simp only [qao, qak, qan, tY] at c18
        refine ⟨qa6 (by first | with_reducible assumption | omega | (simp only [tZ]; first | done | omega)) (by first | with_reducible assumption | omega | (simp only [tZ]; first | done | omega)), ?_⟩
        intro y19 e20
        intro y21 e22
        try have h23 : (l3 + 1).toInt = (l3.toInt + 1) := by rw [qap] <;> (try simp only [tY]) <;> omega
        try have h24 : y21.toInt = (l3.toInt + 1) := by rw [e22]; exact h23
        exact ih _ _ _ _ _ _ _ _ (by first | with_reducible assumption | omega | (simp only [tZ]; first | done | omega)) (by first | with_reducible assumption | omega | (simp only [tZ]; first | done | omega)) (by first | with_reducible assumption | omega | (simp only [tZ]; first | done | omega)) (by first | with_reducible assumption | omega | (simp only [tZ]; first | done | omega)) (by first | with_reducible assumption | omega | (simp only [tZ]; first | done | omega))
theorem qaC9 {jjm : Int32} {jh5 : Int32} {jkO : Nat → Int32} {jnQ : Nat → Int32} {Q : Int32 → Int32 → Int32 → Int32 → NI → NI → NI → Prop} (a0 : jjm.toInt ≤ 8) (a1 : jh5.toInt ≤ 6) (hq : ∀ (hares forms many first : Int32) (seated : NI) (sits : NI) (fittingForms : NI), (hares.toInt = jh5.toInt) → (forms.toInt = jjm.toInt) → Q hares forms many first seated sits fittingForms) : ∀ (k : Nat) (jaC jaN jkY jl7 : Int32) (jiL : NI) (jjH : NI) (jim : NI) (l3 : Int32), (jaC.toInt = jh5.toInt) → (jaN.toInt = jjm.toInt) → (0 ≤ l3.toInt) → (l3.toInt ≤ 8) → 8 - l3.toInt < (k : Int) → qIB jjm jh5 jkO jnQ Q k jaC jaN jkY jl7 jiL jjH jim l3 := by
  intro k
  induction k with
  | zero => intro jaC jaN jkY jl7 jiL jjH jim l3 i0 i1 i2 i3 i4; omega
  | succ k ih =>
    intro jaC jaN jkY jl7 jiL jjH jim l3 i0 i1 i2 i3 i4
    refine ⟨?_, ?_⟩
    · intro c25
      try simp only [qao, qak, qan, tY] at c25
      refine ⟨7, qaxc (by first | with_reducible assumption | omega | (simp only [tZ]; first | done | omega)) (by first | with_reducible assumption | omega | (simp only [tZ]; first | done | omega)) hq 7 _ _ _ _ _ _ _ _ (by first | with_reducible assumption | omega | (simp only [tZ]; first | done | omega)) (by first | with_reducible assumption | omega | (simp only [tZ]; first | done | omega)) (by first | with_reducible assumption | omega | (simp only [tZ]; first | done | omega)) (by first | with_reducible assumption | omega | (simp only [tZ]; first | done | omega)) (by first | with_reducible assumption | omega | (simp only [tZ]; first | done | omega))⟩
    · intro c26
      try simp only [qao, qak, qan, tY] at c26
      refine qTN (by first | with_reducible assumption | omega | (simp only [tZ]; first | done | omega)) (fun y27 => ?_)
      refine qXT (fun y28 => ?_)
      refine ⟨qa6 (by first | with_reducible assumption | omega | (simp only [tZ]; first | done | omega)) (by first | with_reducible assumption | omega | (simp only [tZ]; first | done | omega)), ?_⟩
      intro y29 e30
      intro y31 e32
      try have h33 : (l3 + 1).toInt = (l3.toInt + 1) := by rw [qap] <;> (try simp only [tY]) <;> omega
      try have h34 : y31.toInt = (l3.toInt + 1) := by rw [e32]; exact h33
      exact ih _ _ _ _ _ _ _ _ (by first | with_reducible assumption | omega | (simp only [tZ]; first | done | omega)) (by first | with_reducible assumption | omega | (simp only [tZ]; first | done | omega)) (by first | with_reducible assumption | omega | (simp only [tZ]; first | done | omega)) (by first | with_reducible assumption | omega | (simp only [tZ]; first | done | omega)) (by first | with_reducible assumption | omega | (simp only [tZ]; first | done | omega))
theorem qaoA {jjm : Int32} {jh5 : Int32} {jkO : Nat → Int32} {jnQ : Nat → Int32} {jaC : Int32} {jaN : Int32} {jkY : Int32} {jl7 : Int32} {jiL : Nat → Int32} {jjH : Nat → Int32} {jim : Nat → Int32} {Q : Int32 → Int32 → Int32 → Int32 → NI → NI → NI → Prop} (a0 : jjm.toInt ≤ 8) (a1 : jh5.toInt ≤ 6) (hq : ∀ (hares forms many first : Int32) (seated : NI) (sits : NI) (fittingForms : NI), (hares.toInt = jh5.toInt) → (forms.toInt = jjm.toInt) → Q hares forms many first seated sits fittingForms) : qRR jjm jh5 jkO jnQ jaC jaN jkY jl7 jiL jjH jim Q := by
  refine ⟨9, qaC9 (by first | with_reducible assumption | omega | (simp only [tZ]; first | done | omega)) (by first | with_reducible assumption | omega | (simp only [tZ]; first | done | omega)) hq 9 _ _ _ _ _ _ _ _ (by first | with_reducible assumption | omega | (simp only [tZ]; first | done | omega)) (by first | with_reducible assumption | omega | (simp only [tZ]; first | done | omega)) (by first | with_reducible assumption | omega | (simp only [tZ]; first | done | omega)) (by first | with_reducible assumption | omega | (simp only [tZ]; first | done | omega)) (by first | with_reducible assumption | omega | (simp only [tZ]; first | done | omega))⟩
theorem qaNO {jly : Nat → Int32} {p1 : Int32} {Q : Int32 → NI → Prop} (hq : ∀ (r : Int32) (tally : NI), Q r tally) : qWX jly p1 Q := by
  refine qaRU (fun y1 po2 => ?_)
  try simp only [tY] at po2
  refine ⟨?_, ?_⟩
  · intro c3
    try simp only [qao, qak, qan, tY] at c3
    refine ⟨qa6 (by first | with_reducible assumption | omega | (simp only [tZ]; first | done | omega)) (by first | with_reducible assumption | omega | (simp only [tZ]; first | done | omega)), ?_⟩
    intro y4 e5
    have h6 : y4.toInt = (jly p1.toNatClampNeg).toInt := by rw [e5]
    intro y7 e8
    try have h9 : (y4 + 1).toInt = (y4.toInt + 1) := by rw [qap] <;> (try simp only [tY]) <;> omega
    try have h10 : y7.toInt = (y4.toInt + 1) := by rw [e8]; exact h9
    refine ⟨qa6 (by first | with_reducible assumption | omega | (simp only [tZ]; first | done | omega)) (by first | with_reducible assumption | omega | (simp only [tZ]; first | done | omega)), ?_⟩
    intro y11 e12
    refine ⟨qa6 (by first | with_reducible assumption | omega | (simp only [tZ]; first | done | omega)) (by first | with_reducible assumption | omega | (simp only [tZ]; first | done | omega)), ?_⟩
    intro y13 e14
    have h15 : y13.toInt = (y11 p1.toNatClampNeg).toInt := by rw [e14]
    exact hq _ _
  · intro c16
    try simp only [qao, qak, qan, tY] at c16
    exact hq _ _
theorem qaua {jaC : Int32} {jaN : Int32} {jim : Nat → Int32} {jiL : Nat → Int32} {jjH : Nat → Int32} {Q : Int32 → NI → Prop} {K25 : NI → Int32 → Int32 → Int32 → Prop} {g1 : Int32} {g3 : Int32} (a0 : jaC.toInt ≤ 6) (a1 : jaN.toInt ≤ 8) (hq : ∀ (r : Int32) (tally : NI), Q r tally) (hK25 : ∀ (jly : NI) (l1 l2 l3 : Int32), (l1.toInt = g1.toInt) → (l3.toInt = g3.toInt + 1) → K25 jly l1 l2 l3) : ∀ (k : Nat) (jly : NI) (l1 l2 l3 l4 : Int32), (0 ≤ l1.toInt) → (l1.toInt < 8) → (l1.toInt = g1.toInt) → (0 ≤ l3.toInt) → (l3.toInt < 6) → (l3.toInt = g3.toInt) → (0 ≤ l4.toInt) → (l4.toInt ≤ 8) → 8 - l4.toInt < (k : Int) → quA jaC jaN jim jiL jjH Q K25 k jly l1 l2 l3 l4 := by
  intro k
  induction k with
  | zero => intro jly l1 l2 l3 l4 i0 i1 i2 i3 i4 i5 i6 i7 i8; omega
  | succ k ih =>
    intro jly l1 l2 l3 l4 i0 i1 i2 i3 i4 i5 i6 i7 i8
    refine ⟨?_, ?_⟩
    · intro c1
      try simp only [qao, qak, qan, tY] at c1
      intro y2 e3
      try have h4 : (l3 + 1).toInt = (l3.toInt + 1) := by rw [qap] <;> (try simp only [tY]) <;> omega
      try have h5 : y2.toInt = (l3.toInt + 1) := by rw [e3]; exact h4
      exact hK25 _ _ _ _ (by first | with_reducible assumption | omega | (simp only [tZ]; first | done | omega)) (by first | with_reducible assumption | omega | (simp only [tZ]; first | done | omega))
    · intro c6
      try simp only [qao, qak, qan, tY] at c6
      refine ⟨qa6 (by first | with_reducible assumption | omega | (simp only [tZ]; first | done | omega)) (by first | with_reducible assumption | omega | (simp only [tZ]; first | done | omega)), ?_⟩
      intro y7 e8
      have h9 : y7.toInt = (jim l3.toNatClampNeg).toInt := by rw [e8]
      refine qGf (fun y10 po11 => ?_)
      try simp only [tY] at po11
      refine ⟨?_, ?_⟩
      · intro c12
        try simp only [qao, qak, qan, tY] at c12
        intro y13 e14
        try have h15 : (l4 + 1).toInt = (l4.toInt + 1) := by rw [qap] <;> (try simp only [tY]) <;> omega
        try have h16 : y13.toInt = (l4.toInt + 1) := by rw [e14]; exact h15
        exact ih _ _ _ _ _ (by first | with_reducible assumption | omega | (simp only [tZ]; first | done | omega)) (by first | with_reducible assumption | omega | (simp only [tZ]; first | done | omega)) (by first | with_reducible assumption | omega | (simp only [tZ]; first | done | omega)) (by first | with_reducible assumption | omega | (simp only [tZ]; first | done | omega)) (by first | with_reducible assumption | omega | (simp only [tZ]; first | done | omega)) (by first | with_reducible assumption | omega | (simp only [tZ]; first | done | omega)) (by first | with_reducible assumption | omega | (simp only [tZ]; first | done | omega)) (by first | with_reducible assumption | omega | (simp only [tZ]; first | done | omega)) (by first | with_reducible assumption | omega | (simp only [tZ]; first | done | omega))
      · intro c17
        try simp only [qao, qak, qan, tY] at c17
        refine qZN (by first | with_reducible assumption | omega | (simp only [tZ]; first | done | omega)) (by first | with_reducible assumption | omega | (simp only [tZ]; first | done | omega)) (by first | with_reducible assumption | omega | (simp only [tZ]; first | done | omega)) (by first | with_reducible assumption | omega | (simp only [tZ]; first | done | omega)) (fun y18 => ?_)
        refine qaNO (fun y19 y20 => ?_)
        intro y21 e22
        try have h23 : (l2.toInt < y19.toInt ∧ y21.toInt = y19.toInt) ∨ (y19.toInt ≤ l2.toInt ∧ y21.toInt = l2.toInt) := by rw [e22]; split <;> rename_i hc <;> simp only [qao, tY] at hc ⊢ <;> omega
        intro y24 e25
        try have h26 : (l4 + 1).toInt = (l4.toInt + 1) := by rw [qap] <;> (try simp only [tY]) <;> omega
        try have h27 : y24.toInt = (l4.toInt + 1) := by rw [e25]; exact h26
        exact ih _ _ _ _ _ (by first | with_reducible assumption | omega | (simp only [tZ]; first | done | omega)) (by first | with_reducible assumption | omega | (simp only [tZ]; first | done | omega)) (by first | with_reducible assumption | omega | (simp only [tZ]; first | done | omega)) (by first | with_reducible assumption | omega | (simp only [tZ]; first | done | omega)) (by first | with_reducible assumption | omega | (simp only [tZ]; first | done | omega)) (by first | with_reducible assumption | omega | (simp only [tZ]; first | done | omega)) (by first | with_reducible assumption | omega | (simp only [tZ]; first | done | omega)) (by first | with_reducible assumption | omega | (simp only [tZ]; first | done | omega)) (by first | with_reducible assumption | omega | (simp only [tZ]; first | done | omega))
theorem qauN {jaC : Int32} {jaN : Int32} {jim : Nat → Int32} {jiL : Nat → Int32} {jjH : Nat → Int32} {Q : Int32 → NI → Prop} (a0 : jaC.toInt ≤ 6) (a1 : jaN.toInt ≤ 8) (hq : ∀ (r : Int32) (tally : NI), Q r tally) : ∀ (k : Nat) (jly : NI) (l1 l2 l3 : Int32), (0 ≤ l1.toInt) → (l1.toInt < 8) → (0 ≤ l3.toInt) → (l3.toInt ≤ 6) → 6 - l3.toInt < (k : Int) → qAf jaC jaN jim jiL jjH Q k jly l1 l2 l3 := by
  intro k
  induction k with
  | zero => intro jly l1 l2 l3 i0 i1 i2 i3 i4; omega
  | succ k ih =>
    intro jly l1 l2 l3 i0 i1 i2 i3 i4
    refine ⟨?_, ?_⟩
    · intro c28
      try simp only [qao, qak, qan, tY] at c28
      exact hq _ _
    · intro c29
      try simp only [qao, qak, qan, tY] at c29
      refine ⟨9, qaua (g1 := l1) (g3 := l3) (by first | with_reducible assumption | omega | (simp only [tZ]; first | done | omega)) (by first | with_reducible assumption | omega | (simp only [tZ]; first | done | omega)) hq (fun y30 y31 y32 y33 po34 po35 => ?_) 9 _ _ _ _ _ (by first | with_reducible assumption | omega | (simp only [tZ]; first | done | omega)) (by first | with_reducible assumption | omega | (simp only [tZ]; first | done | omega)) (by first | with_reducible assumption | omega | (simp only [tZ]; first | done | omega)) (by first | with_reducible assumption | omega | (simp only [tZ]; first | done | omega)) (by first | with_reducible assumption | omega | (simp only [tZ]; first | done | omega)) (by first | with_reducible assumption | omega | (simp only [tZ]; first | done | omega)) (by first | with_reducible assumption | omega | (simp only [tZ]; first | done | omega)) (by first | with_reducible assumption | omega | (simp only [tZ]; first | done | omega)) (by first | with_reducible assumption | omega | (simp only [tZ]; first | done | omega))⟩
      exact ih _ _ _ _ (by first | with_reducible assumption | omega | (simp only [tZ]; first | done | omega)) (by first | with_reducible assumption | omega | (simp only [tZ]; first | done | omega)) (by first | with_reducible assumption | omega | (simp only [tZ]; first | done | omega)) (by first | with_reducible assumption | omega | (simp only [tZ]; first | done | omega)) (by first | with_reducible assumption | omega | (simp only [tZ]; first | done | omega))
theorem qaEh {jaC : Int32} {jaN : Int32} {jim : Nat → Int32} {jiL : Nat → Int32} {jjH : Nat → Int32} {Q : Int32 → NI → Prop} (a0 : jaC.toInt ≤ 6) (a1 : jaN.toInt ≤ 8) (hq : ∀ (r : Int32) (tally : NI), Q r tally) : ∀ (k : Nat) (jly : NI) (l1 l2 : Int32), (0 ≤ l1.toInt) → (l1.toInt < 8) → (0 ≤ l2.toInt) → (l2.toInt ≤ 7) → 7 - l2.toInt < (k : Int) → qIN jaC jaN jim jiL jjH Q k jly l1 l2 := by
  intro k
  induction k with
  | zero => intro jly l1 l2 i0 i1 i2 i3 i4; omega
  | succ k ih =>
    intro jly l1 l2 i0 i1 i2 i3 i4
    refine ⟨?_, ?_⟩
    · intro c36
      try simp only [qao, qak, qan, tY] at c36
      refine ⟨7, qauN (by first | with_reducible assumption | omega | (simp only [tZ]; first | done | omega)) (by first | with_reducible assumption | omega | (simp only [tZ]; first | done | omega)) hq 7 _ _ _ _ (by first | with_reducible assumption | omega | (simp only [tZ]; first | done | omega)) (by first | with_reducible assumption | omega | (simp only [tZ]; first | done | omega)) (by first | with_reducible assumption | omega | (simp only [tZ]; first | done | omega)) (by first | with_reducible assumption | omega | (simp only [tZ]; first | done | omega)) (by first | with_reducible assumption | omega | (simp only [tZ]; first | done | omega))⟩
    · intro c37
      try simp only [qao, qak, qan, tY] at c37
      refine ⟨qa6 (by first | with_reducible assumption | omega | (simp only [tZ]; first | done | omega)) (by first | with_reducible assumption | omega | (simp only [tZ]; first | done | omega)), ?_⟩
      intro y38 e39
      intro y40 e41
      try have h42 : (l2 + 1).toInt = (l2.toInt + 1) := by rw [qap] <;> (try simp only [tY]) <;> omega
      try have h43 : y40.toInt = (l2.toInt + 1) := by rw [e41]; exact h42
      exact ih _ _ _ (by first | with_reducible assumption | omega | (simp only [tZ]; first | done | omega)) (by first | with_reducible assumption | omega | (simp only [tZ]; first | done | omega)) (by first | with_reducible assumption | omega | (simp only [tZ]; first | done | omega)) (by first | with_reducible assumption | omega | (simp only [tZ]; first | done | omega)) (by first | with_reducible assumption | omega | (simp only [tZ]; first | done | omega))
theorem qaPO {jaC : Int32} {jaN : Int32} {jim : Nat → Int32} {jiL : Nat → Int32} {jjH : Nat → Int32} {jly : Nat → Int32} {p1 : Int32} {Q : Int32 → NI → Prop} (a0 : jaC.toInt ≤ 6) (a1 : jaN.toInt ≤ 8) (a2 : 0 ≤ p1.toInt) (a3 : p1.toInt < 8) (hq : ∀ (r : Int32) (tally : NI), Q r tally) : qXB jaC jaN jim jiL jjH jly p1 Q := by
  refine ⟨8, qaEh (by first | with_reducible assumption | omega | (simp only [tZ]; first | done | omega)) (by first | with_reducible assumption | omega | (simp only [tZ]; first | done | omega)) hq 8 _ _ _ (by first | with_reducible assumption | omega | (simp only [tZ]; first | done | omega)) (by first | with_reducible assumption | omega | (simp only [tZ]; first | done | omega)) (by first | with_reducible assumption | omega | (simp only [tZ]; first | done | omega)) (by first | with_reducible assumption | omega | (simp only [tZ]; first | done | omega)) (by first | with_reducible assumption | omega | (simp only [tZ]; first | done | omega))⟩
theorem qahY {jaC : Int32} {jaN : Int32} {jkE : Nat → Int32} {jim : Nat → Int32} {jiL : Nat → Int32} {jjH : Nat → Int32} {Q : Int32 → Int32 → NI → Prop} (a0 : jaC.toInt ≤ 6) (a1 : jaN.toInt ≤ 8) (hq : ∀ (lookForm lookWorst : Int32) (tally : NI), Q lookForm lookWorst tally) : ∀ (k : Nat) (jmP jmD : Int32) (jly : NI) (l1 : Int32), (0 ≤ l1.toInt) → (l1.toInt ≤ 8) → 8 - l1.toInt < (k : Int) → qkY jaC jaN jkE jim jiL jjH Q k jmP jmD jly l1 := by
  intro k
  induction k with
  | zero => intro jmP jmD jly l1 i0 i1 i2; omega
  | succ k ih =>
    intro jmP jmD jly l1 i0 i1 i2
    refine ⟨?_, ?_⟩
    · intro c1
      try simp only [qao, qak, qan, tY] at c1
      exact hq _ _ _
    · intro c2
      try simp only [qao, qak, qan, tY] at c2
      refine qaZd (by first | with_reducible assumption | omega | (simp only [tZ]; first | done | omega)) (by first | with_reducible assumption | omega | (simp only [tZ]; first | done | omega)) (fun y3 po4 => ?_)
      try simp only [tY] at po4
      refine ⟨?_, ?_⟩
      · intro c5
        try simp only [qao, qak, qan, tY] at c5
        intro y6 e7
        try have h8 : (l1 + 1).toInt = (l1.toInt + 1) := by rw [qap] <;> (try simp only [tY]) <;> omega
        try have h9 : y6.toInt = (l1.toInt + 1) := by rw [e7]; exact h8
        exact ih _ _ _ _ (by first | with_reducible assumption | omega | (simp only [tZ]; first | done | omega)) (by first | with_reducible assumption | omega | (simp only [tZ]; first | done | omega)) (by first | with_reducible assumption | omega | (simp only [tZ]; first | done | omega))
      · intro c10
        try simp only [qao, qak, qan, tY] at c10
        refine qaPO (by first | with_reducible assumption | omega | (simp only [tZ]; first | done | omega)) (by first | with_reducible assumption | omega | (simp only [tZ]; first | done | omega)) (by first | with_reducible assumption | omega | (simp only [tZ]; first | done | omega)) (by first | with_reducible assumption | omega | (simp only [tZ]; first | done | omega)) (fun y11 y12 => ?_)
        refine ⟨?_, ?_⟩
        · intro c13
          try simp only [qao, qak, qan, tY] at c13
          intro y14 e15
          try have h16 : (l1 + 1).toInt = (l1.toInt + 1) := by rw [qap] <;> (try simp only [tY]) <;> omega
          try have h17 : y14.toInt = (l1.toInt + 1) := by rw [e15]; exact h16
          exact ih _ _ _ _ (by first | with_reducible assumption | omega | (simp only [tZ]; first | done | omega)) (by first | with_reducible assumption | omega | (simp only [tZ]; first | done | omega)) (by first | with_reducible assumption | omega | (simp only [tZ]; first | done | omega))
        · intro c18
          try simp only [qao, qak, qan, tY] at c18
          refine ⟨?_, ?_⟩
          · intro c19
            try simp only [qao, qak, qan, tY] at c19
            intro y20 e21
            try have h22 : (l1 + 1).toInt = (l1.toInt + 1) := by rw [qap] <;> (try simp only [tY]) <;> omega
            try have h23 : y20.toInt = (l1.toInt + 1) := by rw [e21]; exact h22
            exact ih _ _ _ _ (by first | with_reducible assumption | omega | (simp only [tZ]; first | done | omega)) (by first | with_reducible assumption | omega | (simp only [tZ]; first | done | omega)) (by first | with_reducible assumption | omega | (simp only [tZ]; first | done | omega))
          · intro c24
            try simp only [qao, qak, qan, tY] at c24
            intro y25 e26
            try have h27 : (l1 + 1).toInt = (l1.toInt + 1) := by rw [qap] <;> (try simp only [tY]) <;> omega
            try have h28 : y25.toInt = (l1.toInt + 1) := by rw [e26]; exact h27
            exact ih _ _ _ _ (by first | with_reducible assumption | omega | (simp only [tZ]; first | done | omega)) (by first | with_reducible assumption | omega | (simp only [tZ]; first | done | omega)) (by first | with_reducible assumption | omega | (simp only [tZ]; first | done | omega))
theorem qaDC {jaC : Int32} {jaN : Int32} {jkE : Nat → Int32} {jim : Nat → Int32} {jiL : Nat → Int32} {jjH : Nat → Int32} {jmP : Int32} {jmD : Int32} {jly : Nat → Int32} {Q : Int32 → Int32 → NI → Prop} (a0 : jaC.toInt ≤ 6) (a1 : jaN.toInt ≤ 8) (hq : ∀ (lookForm lookWorst : Int32) (tally : NI), Q lookForm lookWorst tally) : qQy jaC jaN jkE jim jiL jjH jmP jmD jly Q := by
  refine ⟨9, qahY (by first | with_reducible assumption | omega | (simp only [tZ]; first | done | omega)) (by first | with_reducible assumption | omega | (simp only [tZ]; first | done | omega)) hq 9 _ _ _ _ (by first | with_reducible assumption | omega | (simp only [tZ]; first | done | omega)) (by first | with_reducible assumption | omega | (simp only [tZ]; first | done | omega)) (by first | with_reducible assumption | omega | (simp only [tZ]; first | done | omega))⟩
theorem qacL {jkM : Nat → Int32} {jkN : Nat → Int32} {jkR : Nat → Int32} {p2 : Int32} {p3 : Int32} {p4 : Int32} {Q : Int32 → Prop} (a0 : 0 ≤ p2.toInt) (a1 : p2.toInt < 128) (a2 : 0 ≤ p3.toInt) (a3 : p3.toInt < 8) (a4 : 0 ≤ p4.toInt) (a5 : p4.toInt < 8) (hq : ∀ (r : Int32), Q r) : qNR jkM jkN jkR p2 p3 p4 Q := by
  intro y1 e2
  have h3 : y1.toInt = (p2 &&& ((1 <<< ((p4 - 1) &&& 31)) ^^^ (-1))).toInt := by rw [e2]
  have hk := qaN3 (a := p2) (b := (1 <<< ((p4 - 1) &&& 31)) ^^^ (-1)) (by assumption)
  rw [← e2] at hk
  refine qBX (by first | with_reducible assumption | omega | (simp only [qal, tZ]; first | done | omega)) (by first | with_reducible assumption | omega | (simp only [qal, tZ]; first | done | omega)) (by first | with_reducible assumption | omega | (simp only [qal, tZ]; first | done | omega)) (by first | with_reducible assumption | omega | (simp only [qal, tZ]; first | done | omega)) (fun y4 => ?_)
  intro y5 e6
  try have h7 : (y1 * 8).toInt = (y1.toInt * 8) := by rw [qu8] <;> (try simp only [t_0, t_1, t_2, t_3, qal, t_4, t_6, t_8, qam]) <;> omega
  try have h8 : y5.toInt = (y1.toInt * 8) := by rw [e6]; exact h7
  intro y9 e10
  try have h11 : (y5 + p4).toInt = (y5.toInt + p4.toInt) := by rw [qap] <;> (try simp only [t_0, t_1, t_2, t_3, qal, t_4, t_6, t_8, qam]) <;> omega
  try have h12 : y9.toInt = (y5.toInt + p4.toInt) := by rw [e10]; exact h11
  refine ⟨qa6 (by first | with_reducible assumption | omega | (simp only [qal, tZ]; first | done | omega)) (by first | with_reducible assumption | omega | (simp only [qal, tZ]; first | done | omega)), ?_⟩
  intro y13 e14
  have h15 : y13.toInt = (jkR y9.toNatClampNeg).toInt := by rw [e14]
  try have h16 : (y4 + y13).toInt = (y4.toInt + y13.toInt) := by rw [qap] <;> (try simp only [t_0, t_1, t_2, t_3, qal, t_4, t_6, t_8, qam]) <;> omega
  exact hq _
theorem qamg {jks : Int32} {jkM : Nat → Int32} {jkN : Nat → Int32} {jkR : Nat → Int32} {Q : Int32 → Prop} (a0 : jks.toInt ≤ 8) (hq : ∀ (r : Int32), Q r) : ∀ (k : Nat) (l2 l3 l4 l5 : Int32), (0 ≤ l2.toInt) → (l2.toInt < 128) → (0 ≤ l3.toInt) → (l3.toInt < 8) → (1 ≤ l5.toInt) → (l5.toInt ≤ 8) → 8 - l5.toInt < (k : Int) → qs1 jks jkM jkN jkR Q k l2 l3 l4 l5 := by
  intro k
  induction k with
  | zero => intro l2 l3 l4 l5 i0 i1 i2 i3 i4 i5 i6; omega
  | succ k ih =>
    intro l2 l3 l4 l5 i0 i1 i2 i3 i4 i5 i6
    refine ⟨?_, ?_⟩
    · intro c1
      try simp only [qao, qak, qan, t_0, t_1, t_2, qbF, t_3, t_4, t_6, t_8, qam] at c1
      exact hq _
    · intro c2
      try simp only [qao, qak, qan, t_0, t_1, t_2, qbF, t_3, t_4, t_6, t_8, qam] at c2
      try have h3 : (l5 - 1).toInt = (l5.toInt - 1) := by rw [qpT] <;> (try simp only [t_0, t_1, t_2, qbF, t_3, t_4, t_6, t_8, qam]) <;> omega
      refine qGf (fun y4 po5 => ?_)
      try simp only [t_0, t_1, t_2, qbF, t_3, t_4, t_6, t_8, qam] at po5
      refine ⟨?_, ?_⟩
      · intro c6
        try simp only [qao, qak, qan, t_0, t_1, t_2, qbF, t_3, t_4, t_6, t_8, qam] at c6
        intro y7 e8
        try have h9 : (l5 + 1).toInt = (l5.toInt + 1) := by rw [qap] <;> (try simp only [t_0, t_1, t_2, qbF, t_3, t_4, t_6, t_8, qam]) <;> omega
        try have h10 : y7.toInt = (l5.toInt + 1) := by rw [e8]; exact h9
        exact ih _ _ _ _ (by first | with_reducible assumption | omega | (simp only [qbF, tZ]; first | done | omega)) (by first | with_reducible assumption | omega | (simp only [qbF, tZ]; first | done | omega)) (by first | with_reducible assumption | omega | (simp only [qbF, tZ]; first | done | omega)) (by first | with_reducible assumption | omega | (simp only [qbF, tZ]; first | done | omega)) (by first | with_reducible assumption | omega | (simp only [qbF, tZ]; first | done | omega)) (by first | with_reducible assumption | omega | (simp only [qbF, tZ]; first | done | omega)) (by first | with_reducible assumption | omega | (simp only [qbF, tZ]; first | done | omega))
      · intro c11
        try simp only [qao, qak, qan, t_0, t_1, t_2, qbF, t_3, t_4, t_6, t_8, qam] at c11
        refine qacL (by first | with_reducible assumption | omega | (simp only [qbF, tZ]; first | done | omega)) (by first | with_reducible assumption | omega | (simp only [qbF, tZ]; first | done | omega)) (by first | with_reducible assumption | omega | (simp only [qbF, tZ]; first | done | omega)) (by first | with_reducible assumption | omega | (simp only [qbF, tZ]; first | done | omega)) (by first | with_reducible assumption | omega | (simp only [qbF, tZ]; first | done | omega)) (by first | with_reducible assumption | omega | (simp only [qbF, tZ]; first | done | omega)) (fun y12 => ?_)
        intro y13 e14
        try have h15 : (y12.toInt < l4.toInt ∧ y13.toInt = y12.toInt) ∨ (l4.toInt ≤ y12.toInt ∧ y13.toInt = l4.toInt) := by rw [e14]; split <;> rename_i hc <;> simp only [qao, t_0, t_1, t_2, qbF, t_3, t_4, t_6, t_8, qam] at hc ⊢ <;> omega
        intro y16 e17
        try have h18 : (l5 + 1).toInt = (l5.toInt + 1) := by rw [qap] <;> (try simp only [t_0, t_1, t_2, qbF, t_3, t_4, t_6, t_8, qam]) <;> omega
        try have h19 : y16.toInt = (l5.toInt + 1) := by rw [e17]; exact h18
        exact ih _ _ _ _ (by first | with_reducible assumption | omega | (simp only [qbF, tZ]; first | done | omega)) (by first | with_reducible assumption | omega | (simp only [qbF, tZ]; first | done | omega)) (by first | with_reducible assumption | omega | (simp only [qbF, tZ]; first | done | omega)) (by first | with_reducible assumption | omega | (simp only [qbF, tZ]; first | done | omega)) (by first | with_reducible assumption | omega | (simp only [qbF, tZ]; first | done | omega)) (by first | with_reducible assumption | omega | (simp only [qbF, tZ]; first | done | omega)) (by first | with_reducible assumption | omega | (simp only [qbF, tZ]; first | done | omega))
theorem q7R {jks : Int32} {jkM : Nat → Int32} {jkN : Nat → Int32} {jkR : Nat → Int32} {p2 : Int32} {p3 : Int32} {Q : Int32 → Prop} (a0 : jks.toInt ≤ 8) (a1 : 0 ≤ p2.toInt) (a2 : p2.toInt < 128) (a3 : 0 ≤ p3.toInt) (a4 : p3.toInt < 8) (hq : ∀ (r : Int32), Q r) : qK3 jks jkM jkN jkR p2 p3 Q := by
  refine ⟨?_, ?_⟩
  · intro c20
    try simp only [qao, qak, qan, t_0, t_1, t_2, qbF, t_3, t_4, t_6, t_8, qam] at c20
    refine ⟨9, qamg (by first | with_reducible assumption | omega | (simp only [qbF, tZ]; first | done | omega)) hq 9 _ _ _ _ (by first | with_reducible assumption | omega | (simp only [qbF, tZ]; first | done | omega)) (by first | with_reducible assumption | omega | (simp only [qbF, tZ]; first | done | omega)) (by first | with_reducible assumption | omega | (simp only [qbF, tZ]; first | done | omega)) (by first | with_reducible assumption | omega | (simp only [qbF, tZ]; first | done | omega)) (by first | with_reducible assumption | omega | (simp only [qbF, tZ]; first | done | omega)) (by first | with_reducible assumption | omega | (simp only [qbF, tZ]; first | done | omega)) (by first | with_reducible assumption | omega | (simp only [qbF, tZ]; first | done | omega))⟩
  · intro c21
    try simp only [qao, qak, qan, t_0, t_1, t_2, qbF, t_3, t_4, t_6, t_8, qam] at c21
    refine qBX (by first | with_reducible assumption | omega | (simp only [qbF, tZ]; first | done | omega)) (by first | with_reducible assumption | omega | (simp only [qbF, tZ]; first | done | omega)) (by first | with_reducible assumption | omega | (simp only [qbF, tZ]; first | done | omega)) (by first | with_reducible assumption | omega | (simp only [qbF, tZ]; first | done | omega)) (fun y22 => ?_)
    exact hq _
theorem qakC {jks : Int32} {jkM : Nat → Int32} {jkN : Nat → Int32} {Q : NI → Prop} (a0 : jks.toInt ≤ 8) (hq : ∀ (least : NI), Q least) : ∀ (k : Nat) (jkR : NI) (l2 l3 : Int32), (0 ≤ l2.toInt) → (l2.toInt < 128) → (1 ≤ l3.toInt) → (l3.toInt ≤ 8) → 8 - l3.toInt < (k : Int) → qtx jks jkM jkN Q k jkR l2 l3 := by
  intro k
  induction k with
  | zero => intro jkR l2 l3 i0 i1 i2 i3 i4; omega
  | succ k ih =>
    intro jkR l2 l3 i0 i1 i2 i3 i4
    refine ⟨?_, ?_⟩
    · intro c1
      try simp only [qao, qak, qan, tY] at c1
      exact hq _
    · intro c2
      try simp only [qao, qak, qan, tY] at c2
      try have h3 : (l3 - 1).toInt = (l3.toInt - 1) := by rw [qpT] <;> (try simp only [tY]) <;> omega
      refine qGf (fun y4 po5 => ?_)
      try simp only [tY] at po5
      refine ⟨?_, ?_⟩
      · intro c6
        try simp only [qao, qak, qan, tY] at c6
        intro y7 e8
        try have h9 : (l3 + 1).toInt = (l3.toInt + 1) := by rw [qap] <;> (try simp only [tY]) <;> omega
        try have h10 : y7.toInt = (l3.toInt + 1) := by rw [e8]; exact h9
        exact ih _ _ _ (by first | with_reducible assumption | omega | (simp only [tZ]; first | done | omega)) (by first | with_reducible assumption | omega | (simp only [tZ]; first | done | omega)) (by first | with_reducible assumption | omega | (simp only [tZ]; first | done | omega)) (by first | with_reducible assumption | omega | (simp only [tZ]; first | done | omega)) (by first | with_reducible assumption | omega | (simp only [tZ]; first | done | omega))
      · intro c11
        try simp only [qao, qak, qan, tY] at c11
        intro y12 e13
        try have h14 : (l2 * 8).toInt = (l2.toInt * 8) := by rw [qu8] <;> (try simp only [tY]) <;> omega
        try have h15 : y12.toInt = (l2.toInt * 8) := by rw [e13]; exact h14
        intro y16 e17
        try have h18 : (y12 + l3).toInt = (y12.toInt + l3.toInt) := by rw [qap] <;> (try simp only [tY]) <;> omega
        try have h19 : y16.toInt = (y12.toInt + l3.toInt) := by rw [e17]; exact h18
        refine q7R (by first | with_reducible assumption | omega | (simp only [tZ]; first | done | omega)) (by first | with_reducible assumption | omega | (simp only [tZ]; first | done | omega)) (by first | with_reducible assumption | omega | (simp only [tZ]; first | done | omega)) (by first | with_reducible assumption | omega | (simp only [tZ]; first | done | omega)) (by first | with_reducible assumption | omega | (simp only [tZ]; first | done | omega)) (fun y20 => ?_)
        refine ⟨qa6 (by first | with_reducible assumption | omega | (simp only [tZ]; first | done | omega)) (by first | with_reducible assumption | omega | (simp only [tZ]; first | done | omega)), ?_⟩
        intro y21 e22
        intro y23 e24
        try have h25 : (l3 + 1).toInt = (l3.toInt + 1) := by rw [qap] <;> (try simp only [tY]) <;> omega
        try have h26 : y23.toInt = (l3.toInt + 1) := by rw [e24]; exact h25
        exact ih _ _ _ (by first | with_reducible assumption | omega | (simp only [tZ]; first | done | omega)) (by first | with_reducible assumption | omega | (simp only [tZ]; first | done | omega)) (by first | with_reducible assumption | omega | (simp only [tZ]; first | done | omega)) (by first | with_reducible assumption | omega | (simp only [tZ]; first | done | omega)) (by first | with_reducible assumption | omega | (simp only [tZ]; first | done | omega))
theorem qavG {jks : Int32} {jkM : Nat → Int32} {jkN : Nat → Int32} {jkR : Nat → Int32} {p2 : Int32} {Q : NI → Prop} (a0 : jks.toInt ≤ 8) (a1 : 0 ≤ p2.toInt) (a2 : p2.toInt < 128) (hq : ∀ (least : NI), Q least) : qPf jks jkM jkN jkR p2 Q := by
  refine ⟨9, qakC (by first | with_reducible assumption | omega | (simp only [tZ]; first | done | omega)) hq 9 _ _ _ (by first | with_reducible assumption | omega | (simp only [tZ]; first | done | omega)) (by first | with_reducible assumption | omega | (simp only [tZ]; first | done | omega)) (by first | with_reducible assumption | omega | (simp only [tZ]; first | done | omega)) (by first | with_reducible assumption | omega | (simp only [tZ]; first | done | omega)) (by first | with_reducible assumption | omega | (simp only [tZ]; first | done | omega))⟩
theorem qahh {jkR : Nat → Int32} {jks : Int32} {jkM : Nat → Int32} {jkN : Nat → Int32} {Q : Int32 → Prop} (a0 : jks.toInt ≤ 8) (hq : ∀ (r : Int32), (0 ≤ r.toInt) → (r.toInt < 8) → Q r) : ∀ (k : Nat) (l2 l3 l4 l5 : Int32), (0 ≤ l2.toInt) → (l2.toInt < 128) → (0 ≤ l3.toInt) → (l3.toInt < 8) → (1 ≤ l5.toInt) → (l5.toInt ≤ 8) → 8 - l5.toInt < (k : Int) → qrV jkR jks jkM jkN Q k l2 l3 l4 l5 := by
  intro k
  induction k with
  | zero => intro l2 l3 l4 l5 i0 i1 i2 i3 i4 i5 i6; omega
  | succ k ih =>
    intro l2 l3 l4 l5 i0 i1 i2 i3 i4 i5 i6
    refine ⟨?_, ?_⟩
    · intro c1
      try simp only [qao, qak, qan, tY] at c1
      exact hq _ (by first | with_reducible assumption | omega | (simp only [tZ]; first | done | omega)) (by first | with_reducible assumption | omega | (simp only [tZ]; first | done | omega))
    · intro c2
      try simp only [qao, qak, qan, tY] at c2
      try have h3 : (l5 - 1).toInt = (l5.toInt - 1) := by rw [qpT] <;> (try simp only [tY]) <;> omega
      refine qGf (fun y4 po5 => ?_)
      try simp only [tY] at po5
      refine ⟨?_, ?_⟩
      · intro c6
        try simp only [qao, qak, qan, tY] at c6
        intro y7 e8
        try have h9 : (l5 + 1).toInt = (l5.toInt + 1) := by rw [qap] <;> (try simp only [tY]) <;> omega
        try have h10 : y7.toInt = (l5.toInt + 1) := by rw [e8]; exact h9
        exact ih _ _ _ _ (by first | with_reducible assumption | omega | (simp only [tZ]; first | done | omega)) (by first | with_reducible assumption | omega | (simp only [tZ]; first | done | omega)) (by first | with_reducible assumption | omega | (simp only [tZ]; first | done | omega)) (by first | with_reducible assumption | omega | (simp only [tZ]; first | done | omega)) (by first | with_reducible assumption | omega | (simp only [tZ]; first | done | omega)) (by first | with_reducible assumption | omega | (simp only [tZ]; first | done | omega)) (by first | with_reducible assumption | omega | (simp only [tZ]; first | done | omega))
      · intro c11
        try simp only [qao, qak, qan, tY] at c11
        refine qacL (by first | with_reducible assumption | omega | (simp only [tZ]; first | done | omega)) (by first | with_reducible assumption | omega | (simp only [tZ]; first | done | omega)) (by first | with_reducible assumption | omega | (simp only [tZ]; first | done | omega)) (by first | with_reducible assumption | omega | (simp only [tZ]; first | done | omega)) (by first | with_reducible assumption | omega | (simp only [tZ]; first | done | omega)) (by first | with_reducible assumption | omega | (simp only [tZ]; first | done | omega)) (fun y12 => ?_)
        refine ⟨?_, ?_⟩
        · intro c13
          try simp only [qao, qak, qan, tY] at c13
          intro y14 e15
          try have h16 : (l5 + 1).toInt = (l5.toInt + 1) := by rw [qap] <;> (try simp only [tY]) <;> omega
          try have h17 : y14.toInt = (l5.toInt + 1) := by rw [e15]; exact h16
          exact ih _ _ _ _ (by first | with_reducible assumption | omega | (simp only [tZ]; first | done | omega)) (by first | with_reducible assumption | omega | (simp only [tZ]; first | done | omega)) (by first | with_reducible assumption | omega | (simp only [tZ]; first | done | omega)) (by first | with_reducible assumption | omega | (simp only [tZ]; first | done | omega)) (by first | with_reducible assumption | omega | (simp only [tZ]; first | done | omega)) (by first | with_reducible assumption | omega | (simp only [tZ]; first | done | omega)) (by first | with_reducible assumption | omega | (simp only [tZ]; first | done | omega))
        · intro c18
          try simp only [qao, qak, qan, tY] at c18
          exact hq _ (by first | with_reducible assumption | omega | (simp only [tZ]; first | done | omega)) (by first | with_reducible assumption | omega | (simp only [tZ]; first | done | omega))
theorem qaDT {jkR : Nat → Int32} {jks : Int32} {jkM : Nat → Int32} {jkN : Nat → Int32} {p2 : Int32} {p3 : Int32} {Q : Int32 → Prop} (a0 : jks.toInt ≤ 8) (a1 : 0 ≤ p2.toInt) (a2 : p2.toInt < 128) (a3 : 0 ≤ p3.toInt) (a4 : p3.toInt < 8) (hq : ∀ (r : Int32), (0 ≤ r.toInt) → (r.toInt < 8) → Q r) : qQ9 jkR jks jkM jkN p2 p3 Q := by
  intro y19 e20
  try have h21 : (p2 * 8).toInt = (p2.toInt * 8) := by rw [qu8] <;> (try simp only [tY]) <;> omega
  try have h22 : y19.toInt = (p2.toInt * 8) := by rw [e20]; exact h21
  intro y23 e24
  try have h25 : (y19 + p3).toInt = (y19.toInt + p3.toInt) := by rw [qap] <;> (try simp only [tY]) <;> omega
  try have h26 : y23.toInt = (y19.toInt + p3.toInt) := by rw [e24]; exact h25
  refine ⟨qa6 (by first | with_reducible assumption | omega | (simp only [tZ]; first | done | omega)) (by first | with_reducible assumption | omega | (simp only [tZ]; first | done | omega)), ?_⟩
  intro y27 e28
  have h29 : y27.toInt = (jkR y23.toNatClampNeg).toInt := by rw [e28]
  refine ⟨9, qahh (by first | with_reducible assumption | omega | (simp only [tZ]; first | done | omega)) hq 9 _ _ _ _ (by first | with_reducible assumption | omega | (simp only [tZ]; first | done | omega)) (by first | with_reducible assumption | omega | (simp only [tZ]; first | done | omega)) (by first | with_reducible assumption | omega | (simp only [tZ]; first | done | omega)) (by first | with_reducible assumption | omega | (simp only [tZ]; first | done | omega)) (by first | with_reducible assumption | omega | (simp only [tZ]; first | done | omega)) (by first | with_reducible assumption | omega | (simp only [tZ]; first | done | omega)) (by first | with_reducible assumption | omega | (simp only [tZ]; first | done | omega))⟩
theorem qaN9 {jks : Int32} {jkR : Nat → Int32} {jkM : Nat → Int32} {jkN : Nat → Int32} {Q : NI → Prop} (a0 : jks.toInt ≤ 8) (hq : ∀ (row : NI), Q row) : ∀ (k : Nat) (jdE : NI) (l3 l4 l5 : Int32), (0 ≤ l3.toInt) → (l3.toInt < 128) → (0 ≤ l4.toInt) → (l4.toInt < 8) → (1 ≤ l5.toInt) → (l5.toInt ≤ 8) → 8 - l5.toInt < (k : Int) → qNQ jks jkR jkM jkN Q k jdE l3 l4 l5 := by
  intro k
  induction k with
  | zero => intro jdE l3 l4 l5 i0 i1 i2 i3 i4 i5 i6; omega
  | succ k ih =>
    intro jdE l3 l4 l5 i0 i1 i2 i3 i4 i5 i6
    refine ⟨?_, ?_⟩
    · intro c1
      try simp only [qao, qak, qan, t_0, t_1, t_2, t_3, qal, t_4, t_6, t_8, qam] at c1
      exact hq _
    · intro c2
      try simp only [qao, qak, qan, t_0, t_1, t_2, t_3, qal, t_4, t_6, t_8, qam] at c2
      refine qaDT (by first | with_reducible assumption | omega | (simp only [qal, tZ]; first | done | omega)) (by first | with_reducible assumption | omega | (simp only [qal, tZ]; first | done | omega)) (by first | with_reducible assumption | omega | (simp only [qal, tZ]; first | done | omega)) (by first | with_reducible assumption | omega | (simp only [qal, tZ]; first | done | omega)) (by first | with_reducible assumption | omega | (simp only [qal, tZ]; first | done | omega)) (fun y3 po4 po5 => ?_)
      try simp only [t_0, t_1, t_2, t_3, qal, t_4, t_6, t_8, qam] at po4
      try simp only [t_0, t_1, t_2, t_3, qal, t_4, t_6, t_8, qam] at po5
      intro y6 e7
      have h8 : y6.toInt = (l3 &&& ((1 <<< ((y3 - 1) &&& 31)) ^^^ (-1))).toInt := by rw [e7]
      have hk := qaN3 (a := l3) (b := (1 <<< ((y3 - 1) &&& 31)) ^^^ (-1)) (by assumption)
      rw [← e7] at hk
      refine ⟨qa6 (by first | with_reducible assumption | omega | (simp only [qal, tZ]; first | done | omega)) (by first | with_reducible assumption | omega | (simp only [qal, tZ]; first | done | omega)), ?_⟩
      intro y9 e10
      intro y11 e12
      try have h13 : (l5 + 1).toInt = (l5.toInt + 1) := by rw [qap] <;> (try simp only [t_0, t_1, t_2, t_3, qal, t_4, t_6, t_8, qam]) <;> omega
      try have h14 : y11.toInt = (l5.toInt + 1) := by rw [e12]; exact h13
      exact ih _ _ _ _ (by first | with_reducible assumption | omega | (simp only [qal, tZ]; first | done | omega)) (by first | with_reducible assumption | omega | (simp only [qal, tZ]; first | done | omega)) (by first | with_reducible assumption | omega | (simp only [qal, tZ]; first | done | omega)) (by first | with_reducible assumption | omega | (simp only [qal, tZ]; first | done | omega)) (by first | with_reducible assumption | omega | (simp only [qal, tZ]; first | done | omega)) (by first | with_reducible assumption | omega | (simp only [qal, tZ]; first | done | omega)) (by first | with_reducible assumption | omega | (simp only [qal, tZ]; first | done | omega))
theorem qa1z {jks : Int32} {jkR : Nat → Int32} {jkM : Nat → Int32} {jkN : Nat → Int32} {jdE : Nat → Int32} {p2 : Int32} {Q : NI → Prop} (a0 : jks.toInt ≤ 8) (a1 : 0 ≤ p2.toInt) (a2 : p2.toInt < 128) (hq : ∀ (row : NI), Q row) : qakX jks jkR jkM jkN jdE p2 Q := by
  intro y15 e16
  refine ⟨9, qaN9 (by first | with_reducible assumption | omega | (simp only [qal, tZ]; first | done | omega)) hq 9 _ _ _ _ (by first | with_reducible assumption | omega | (simp only [qal, tZ]; first | done | omega)) (by first | with_reducible assumption | omega | (simp only [qal, tZ]; first | done | omega)) (by first | with_reducible assumption | omega | (simp only [qal, tZ]; first | done | omega)) (by first | with_reducible assumption | omega | (simp only [qal, tZ]; first | done | omega)) (by first | with_reducible assumption | omega | (simp only [qal, tZ]; first | done | omega)) (by first | with_reducible assumption | omega | (simp only [qal, tZ]; first | done | omega)) (by first | with_reducible assumption | omega | (simp only [qal, tZ]; first | done | omega))⟩
theorem qawv {jks : Int32} {jkM : Nat → Int32} {jkN : Nat → Int32} {Q : Int32 → NI → NI → Prop} (a0 : jks.toInt ≤ 8) (hq : ∀ (length : Int32) (least : NI) (row : NI), Q length least row) : ∀ (k : Nat) (jb7 : Int32) (jkR : NI) (jdE : NI) (l2 l3 : Int32), (0 ≤ l2.toInt) → (l2.toInt < 128) → (0 ≤ l3.toInt) → (l3.toInt ≤ l2.toInt + 1) → l2.toInt + 1 - l3.toInt < (k : Int) → qHv jks jkM jkN Q k jb7 jkR jdE l2 l3 := by
  intro k
  induction k with
  | zero => intro jb7 jkR jdE l2 l3 i0 i1 i2 i3 i4; omega
  | succ k ih =>
    intro jb7 jkR jdE l2 l3 i0 i1 i2 i3 i4
    refine ⟨?_, ?_⟩
    · intro c1
      try simp only [qao, qak, qan, t_0, t_1, t_2, t_3, qal, t_4, t_6, t_8, qam] at c1
      intro y2 e3
      try have h4 : (l2 * 8).toInt = (l2.toInt * 8) := by rw [qu8] <;> (try simp only [t_0, t_1, t_2, t_3, qal, t_4, t_6, t_8, qam]) <;> omega
      try have h5 : y2.toInt = (l2.toInt * 8) := by rw [e3]; exact h4
      refine q7R (by first | with_reducible assumption | omega | (simp only [qal, tZ]; first | done | omega)) (by first | with_reducible assumption | omega | (simp only [qal, tZ]; first | done | omega)) (by first | with_reducible assumption | omega | (simp only [qal, tZ]; first | done | omega)) (by first | with_reducible assumption | omega | (simp only [qal, tZ]; first | done | omega)) (by first | with_reducible assumption | omega | (simp only [qal, tZ]; first | done | omega)) (fun y6 => ?_)
      refine ⟨qa6 (by first | with_reducible assumption | omega | (simp only [qal, tZ]; first | done | omega)) (by first | with_reducible assumption | omega | (simp only [qal, tZ]; first | done | omega)), ?_⟩
      intro y7 e8
      intro y9 e10
      try have h11 : (l2 * 8).toInt = (l2.toInt * 8) := by rw [qu8] <;> (try simp only [t_0, t_1, t_2, t_3, qal, t_4, t_6, t_8, qam]) <;> omega
      try have h12 : y9.toInt = (l2.toInt * 8) := by rw [e10]; exact h11
      refine ⟨qa6 (by first | with_reducible assumption | omega | (simp only [qal, tZ]; first | done | omega)) (by first | with_reducible assumption | omega | (simp only [qal, tZ]; first | done | omega)), ?_⟩
      intro y13 e14
      have h15 : y13.toInt = (y7 y9.toNatClampNeg).toInt := by rw [e14]
      refine qa1z (by first | with_reducible assumption | omega | (simp only [qal, tZ]; first | done | omega)) (by first | with_reducible assumption | omega | (simp only [qal, tZ]; first | done | omega)) (by first | with_reducible assumption | omega | (simp only [qal, tZ]; first | done | omega)) (fun y16 => ?_)
      exact hq _ _ _
    · intro c17
      try simp only [qao, qak, qan, t_0, t_1, t_2, t_3, qal, t_4, t_6, t_8, qam] at c17
      refine qavG (by first | with_reducible assumption | omega | (simp only [qal, tZ]; first | done | omega)) (by first | with_reducible assumption | omega | (simp only [qal, tZ]; first | done | omega)) (by first | with_reducible assumption | omega | (simp only [qal, tZ]; first | done | omega)) (fun y18 => ?_)
      intro y19 e20
      try have h21 : (l3 + 1).toInt = (l3.toInt + 1) := by rw [qap] <;> (try simp only [t_0, t_1, t_2, t_3, qal, t_4, t_6, t_8, qam]) <;> omega
      try have h22 : y19.toInt = (l3.toInt + 1) := by rw [e20]; exact h21
      exact ih _ _ _ _ _ (by first | with_reducible assumption | omega | (simp only [qal, tZ]; first | done | omega)) (by first | with_reducible assumption | omega | (simp only [qal, tZ]; first | done | omega)) (by first | with_reducible assumption | omega | (simp only [qal, tZ]; first | done | omega)) (by first | with_reducible assumption | omega | (simp only [qal, tZ]; first | done | omega)) (by first | with_reducible assumption | omega | (simp only [qal, tZ]; first | done | omega))
theorem qaoB {jks : Int32} {jkM : Nat → Int32} {jkN : Nat → Int32} {jb7 : Int32} {jkR : Nat → Int32} {jdE : Nat → Int32} {Q : Int32 → NI → NI → Prop} (a0 : 0 ≤ jks.toInt) (a1 : jks.toInt ≤ 8) (hq : ∀ (length : Int32) (least : NI) (row : NI), Q length least row) : qRG jks jkM jkN jb7 jkR jdE Q := by
  refine ⟨?_, ?_⟩
  · intro c23
    try simp only [qao, qak, qan, t_0, t_1, t_2, t_3, qal, t_4, t_6, t_8, qam] at c23
    intro y24 e25
    try have h26 : ((1 <<< ((jks - 1) &&& 31)) - 1).toInt = ((1 <<< ((jks - 1) &&& 31)).toInt - 1) := by rw [qpT] <;> (try simp only [t_0, t_1, t_2, t_3, qal, t_4, t_6, t_8, qam]) <;> omega
    try have h27 : y24.toInt = ((1 <<< ((jks - 1) &&& 31)).toInt - 1) := by rw [e25]; exact h26
    have hs0 := qbjd (x := jks) (by omega) (by omega)
    have hs1 : ((1 <<< ((jks - 1) &&& 31)) - 1 : Int32).toInt = (1 <<< ((jks - 1) &&& 31) : Int32).toInt - 1 := qqj (by omega)
    have hs2 : y24.toInt = (1 <<< ((jks - 1) &&& 31) : Int32).toInt - 1 := by rw [e25]; exact hs1
    refine ⟨129, qawv (by first | with_reducible assumption | omega | (simp only [qal, tZ]; first | done | omega)) hq 129 _ _ _ _ _ (by first | with_reducible assumption | omega | (simp only [qal, tZ]; first | done | omega)) (by first | with_reducible assumption | omega | (simp only [qal, tZ]; first | done | omega)) (by first | with_reducible assumption | omega | (simp only [qal, tZ]; first | done | omega)) (by first | with_reducible assumption | omega | (simp only [qal, tZ]; first | done | omega)) (by first | with_reducible assumption | omega | (simp only [qal, tZ]; first | done | omega))⟩
  · intro c28
    try simp only [qao, qak, qan, t_0, t_1, t_2, t_3, qal, t_4, t_6, t_8, qam] at c28
    exact hq _ _ _
