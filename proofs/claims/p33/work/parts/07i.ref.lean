theorem q1g {x : Int32} (x0 : 0 ≤ x.toInt) (x1 : x.toInt ≤ 7) : 1 ≤ (1 <<< (x &&& 31) : Int32).toInt ∧ (1 <<< (x &&& 31) : Int32).toInt ≤ 128 := by
  have h := qN0 x0 (by omega)
  rcases qaeh x0 (by omega) with rfl | rfl | rfl | rfl | rfl | rfl | rfl | rfl | rfl <;> first | decide | (exfalso; revert x1; decide)
theorem qadN {x : Int32} (x0 : 0 ≤ x.toInt) (x1 : x.toInt ≤ 8) : 1 ≤ (1 <<< (x &&& 31) : Int32).toInt ∧ (1 <<< (x &&& 31) : Int32).toInt ≤ 256 := ⟨(qN0 x0 x1).1, (qN0 x0 x1).2.1⟩
theorem q5y {jaN : Int32} {jaC : Int32} {jbw : Int32} {jbD : Int32} {jb2 : Nat → Int32} {jbv : Nat → Int32} {jcu : Nat → Int32} {jbT : Nat → Int32} {jcy : Nat → Int32} {Q : NI → NI → NI → NI → NI → NI → Prop} {K99 : NI → NI → NI → NI → NI → NI → Int32 → Prop} {K105 : NI → NI → NI → NI → NI → NI → Int32 → Int32 → Prop} {g1 : Int32} {g2 : Int32} (a0 : rC jbD jcu jbT) (a1 : 0 ≤ jaC.toInt) (a2 : jaC.toInt ≤ 6) (a3 : 0 ≤ jaN.toInt) (a4 : jaN.toInt ≤ 8) (a5 : jbw.toInt ≤ 4) (hq : ∀ (s : NI) (facts : NI) (stack : NI) (mostOn : NI) (maySit : NI) (seatOf : NI), Q s facts stack mostOn maySit seatOf) (hK99 : ∀ (f0_s : NI) (jb1 : NI) (jcb : NI) (jjl : NI) (jjp : NI) (jjq : NI) (l1 : Int32), (l1.toInt = g1.toInt - 1) → K99 f0_s jb1 jcb jjl jjp jjq l1) (hK105 : ∀ (f0_s : NI) (jb1 : NI) (jcb : NI) (jjl : NI) (jjp : NI) (jjq : NI) (l1 l2 : Int32), (l1.toInt = g1.toInt) → (l2.toInt = g2.toInt + 1) → K105 f0_s jb1 jcb jjl jjp jjq l1 l2) : ∀ (k : Nat) (f0_s : NI) (jb1 : NI) (jcb : NI) (jjl : NI) (jjp : NI) (jjq : NI) (l1 l2 l3 l4 : Int32), (0 ≤ l1.toInt) → (l1.toInt ≤ 5) → (l1.toInt = g1.toInt) → (0 ≤ l2.toInt) → (l2.toInt < 256) → (l2.toInt = g2.toInt) → (0 ≤ l4.toInt) → (l4.toInt ≤ 8) → 8 - l4.toInt < (k : Int) → qlR jaN jaC jbw jbD jb2 jbv jcu jbT jcy Q K99 K105 k f0_s jb1 jcb jjl jjp jjq l1 l2 l3 l4 := by
  intro k
  induction k with
  | zero => intro f0_s jb1 jcb jjl jjp jjq l1 l2 l3 l4 i0 i1 i2 i3 i4 i5 i6 i7 i8; omega
  | succ k ih =>
    intro f0_s jb1 jcb jjl jjp jjq l1 l2 l3 l4 i0 i1 i2 i3 i4 i5 i6 i7 i8
    refine ⟨?_, ?_⟩
    · intro c1
      try simp only [qao, qak, qan, t_0, t_1, t_2, t_3, qal, t_4, t_6, t_8, qam] at c1
      intro y2 e3
      try have h4 := qVZ (x := l1) (by omega) (by omega)
      try rw [← e3] at h4
      intro y5 e6
      try have h7 := qMY (a := y2) (b := l2) (by omega) (by omega) (by omega)
      try rw [← e6] at h7
      refine ⟨qa6 (by first | with_reducible assumption | omega | (simp only [qal, tZ]; first | done | omega)) (by first | with_reducible assumption | omega | (simp only [qal, tZ]; first | done | omega)), ?_⟩
      intro y8 e9
      intro y10 e11
      try have h12 : (l2 + 1).toInt = (l2.toInt + 1) := by rw [qap] <;> (try simp only [t_0, t_1, t_2, t_3, qal, t_4, t_6, t_8, qam]) <;> omega
      try have h13 : y10.toInt = (l2.toInt + 1) := by rw [e11]; exact h12
      exact hK105 _ _ _ _ _ _ _ _ (by first | with_reducible assumption | omega | (simp only [qal, tZ]; first | done | omega)) (by first | with_reducible assumption | omega | (simp only [qal, tZ]; first | done | omega))
    · intro c14
      try simp only [qao, qak, qan, t_0, t_1, t_2, t_3, qal, t_4, t_6, t_8, qam] at c14
      refine ⟨qa6 (by first | with_reducible assumption | omega | (simp only [qal, tZ]; first | done | omega)) (by first | with_reducible assumption | omega | (simp only [qal, tZ]; first | done | omega)), ?_⟩
      intro y15 e16
      have h17 : y15.toInt = (jjp l1.toNatClampNeg).toInt := by rw [e16]
      intro y18 e19
      have h20 := q55 (x := ((y15 &&& (l2 ^^^ (-1))) >>> (l4 &&& 31)))
      try rw [← e19] at h20
      refine ⟨?_, ?_⟩
      · intro c21
        try simp only [qao, qak, qan, t_0, t_1, t_2, t_3, qal, t_4, t_6, t_8, qam] at c21
        intro y22 e23
        try have h24 : (l4 + 1).toInt = (l4.toInt + 1) := by rw [qap] <;> (try simp only [t_0, t_1, t_2, t_3, qal, t_4, t_6, t_8, qam]) <;> omega
        try have h25 : y22.toInt = (l4.toInt + 1) := by rw [e23]; exact h24
        exact ih _ _ _ _ _ _ _ _ _ _ (by first | with_reducible assumption | omega | (simp only [qal, tZ]; first | done | omega)) (by first | with_reducible assumption | omega | (simp only [qal, tZ]; first | done | omega)) (by first | with_reducible assumption | omega | (simp only [qal, tZ]; first | done | omega)) (by first | with_reducible assumption | omega | (simp only [qal, tZ]; first | done | omega)) (by first | with_reducible assumption | omega | (simp only [qal, tZ]; first | done | omega)) (by first | with_reducible assumption | omega | (simp only [qal, tZ]; first | done | omega)) (by first | with_reducible assumption | omega | (simp only [qal, tZ]; first | done | omega)) (by first | with_reducible assumption | omega | (simp only [qal, tZ]; first | done | omega)) (by first | with_reducible assumption | omega | (simp only [qal, tZ]; first | done | omega))
      · intro c26
        try simp only [qao, qak, qan, t_0, t_1, t_2, t_3, qal, t_4, t_6, t_8, qam] at c26
        intro y27 e28
        try have h29 : (l1 + 1).toInt = (l1.toInt + 1) := by rw [qap] <;> (try simp only [t_0, t_1, t_2, t_3, qal, t_4, t_6, t_8, qam]) <;> omega
        try have h30 : y27.toInt = (l1.toInt + 1) := by rw [e28]; exact h29
        intro y31 e32
        try have h33 := qVZ (x := y27) (by omega) (by omega)
        try rw [← e32] at h33
        intro y34 e35
        try have h36 := qMY (a := y31) (b := l2) (by omega) (by omega) (by omega)
        try rw [← e35] at h36
        intro y37 e38
        first | have h39 := q1g (x := l4) (by omega) (by omega) | have h39 := qadN (x := l4) (by omega) (by omega) | skip
        try have h40 := qMY (a := y34) (b := (1 <<< (l4 &&& 31))) (by omega) (by omega) (by omega)
        try rw [← e38] at h40
        try clear h39
        refine ⟨qa6 (by first | with_reducible assumption | omega | (simp only [qal, tZ]; first | done | omega)) (by first | with_reducible assumption | omega | (simp only [qal, tZ]; first | done | omega)), ?_⟩
        intro y41 e42
        have h43 : y41.toInt = (jjl y37.toNatClampNeg).toInt := by rw [e42]
        refine ⟨?_, ?_⟩
        · intro c44
          try have h45 : (1 + y41).toInt = (1 + y41.toInt) := by rw [qap] <;> (try simp only [t_0, t_1, t_2, t_3, qal, t_4, t_6, t_8, qam]) <;> omega
          try simp only [qao, qak, qan, t_0, t_1, t_2, t_3, qal, t_4, t_6, t_8, qam] at c44
          intro y46 e47
          try have h48 : (l4 + 1).toInt = (l4.toInt + 1) := by rw [qap] <;> (try simp only [t_0, t_1, t_2, t_3, qal, t_4, t_6, t_8, qam]) <;> omega
          try have h49 : y46.toInt = (l4.toInt + 1) := by rw [e47]; exact h48
          exact ih _ _ _ _ _ _ _ _ _ _ (by first | with_reducible assumption | omega | (simp only [qal, tZ]; first | done | omega)) (by first | with_reducible assumption | omega | (simp only [qal, tZ]; first | done | omega)) (by first | with_reducible assumption | omega | (simp only [qal, tZ]; first | done | omega)) (by first | with_reducible assumption | omega | (simp only [qal, tZ]; first | done | omega)) (by first | with_reducible assumption | omega | (simp only [qal, tZ]; first | done | omega)) (by first | with_reducible assumption | omega | (simp only [qal, tZ]; first | done | omega)) (by first | with_reducible assumption | omega | (simp only [qal, tZ]; first | done | omega)) (by first | with_reducible assumption | omega | (simp only [qal, tZ]; first | done | omega)) (by first | with_reducible assumption | omega | (simp only [qal, tZ]; first | done | omega))
        · intro c50
          try have h51 : (1 + y41).toInt = (1 + y41.toInt) := by rw [qap] <;> (try simp only [t_0, t_1, t_2, t_3, qal, t_4, t_6, t_8, qam]) <;> omega
          try simp only [qao, qak, qan, t_0, t_1, t_2, t_3, qal, t_4, t_6, t_8, qam] at c50
          intro y52 e53
          try have h54 : (l1 + 1).toInt = (l1.toInt + 1) := by rw [qap] <;> (try simp only [t_0, t_1, t_2, t_3, qal, t_4, t_6, t_8, qam]) <;> omega
          try have h55 : y52.toInt = (l1.toInt + 1) := by rw [e53]; exact h54
          intro y56 e57
          try have h58 := qVZ (x := y52) (by omega) (by omega)
          try rw [← e57] at h58
          intro y59 e60
          try have h61 := qMY (a := y56) (b := l2) (by omega) (by omega) (by omega)
          try rw [← e60] at h61
          intro y62 e63
          first | have h64 := q1g (x := l4) (by omega) (by omega) | have h64 := qadN (x := l4) (by omega) (by omega) | skip
          try have h65 := qMY (a := y59) (b := (1 <<< (l4 &&& 31))) (by omega) (by omega) (by omega)
          try rw [← e63] at h65
          try clear h64
          refine ⟨qa6 (by first | with_reducible assumption | omega | (simp only [qal, tZ]; first | done | omega)) (by first | with_reducible assumption | omega | (simp only [qal, tZ]; first | done | omega)), ?_⟩
          intro y66 e67
          have h68 : y66.toInt = (jjl y62.toNatClampNeg).toInt := by rw [e67]
          intro y69 e70
          try have h71 : (1 + y66).toInt = (1 + y66.toInt) := by rw [qap] <;> (try simp only [t_0, t_1, t_2, t_3, qal, t_4, t_6, t_8, qam]) <;> omega
          try have h72 : y69.toInt = (1 + y66.toInt) := by rw [e70]; exact h71
          intro y73 e74
          try have h75 : (l4 + 1).toInt = (l4.toInt + 1) := by rw [qap] <;> (try simp only [t_0, t_1, t_2, t_3, qal, t_4, t_6, t_8, qam]) <;> omega
          try have h76 : y73.toInt = (l4.toInt + 1) := by rw [e74]; exact h75
          exact ih _ _ _ _ _ _ _ _ _ _ (by first | with_reducible assumption | omega | (simp only [qal, tZ]; first | done | omega)) (by first | with_reducible assumption | omega | (simp only [qal, tZ]; first | done | omega)) (by first | with_reducible assumption | omega | (simp only [qal, tZ]; first | done | omega)) (by first | with_reducible assumption | omega | (simp only [qal, tZ]; first | done | omega)) (by first | with_reducible assumption | omega | (simp only [qal, tZ]; first | done | omega)) (by first | with_reducible assumption | omega | (simp only [qal, tZ]; first | done | omega)) (by first | with_reducible assumption | omega | (simp only [qal, tZ]; first | done | omega)) (by first | with_reducible assumption | omega | (simp only [qal, tZ]; first | done | omega)) (by first | with_reducible assumption | omega | (simp only [qal, tZ]; first | done | omega))
theorem q5Y {jaN : Int32} {jaC : Int32} {jbw : Int32} {jbD : Int32} {jb2 : Nat → Int32} {jbv : Nat → Int32} {jcu : Nat → Int32} {jbT : Nat → Int32} {jcy : Nat → Int32} {Q : NI → NI → NI → NI → NI → NI → Prop} {K99 : NI → NI → NI → NI → NI → NI → Int32 → Prop} {g1 : Int32} (a0 : rC jbD jcu jbT) (a1 : 0 ≤ jaC.toInt) (a2 : jaC.toInt ≤ 6) (a3 : 0 ≤ jaN.toInt) (a4 : jaN.toInt ≤ 8) (a5 : jbw.toInt ≤ 4) (hq : ∀ (s : NI) (facts : NI) (stack : NI) (mostOn : NI) (maySit : NI) (seatOf : NI), Q s facts stack mostOn maySit seatOf) (hK99 : ∀ (f0_s : NI) (jb1 : NI) (jcb : NI) (jjl : NI) (jjp : NI) (jjq : NI) (l1 : Int32), (l1.toInt = g1.toInt - 1) → K99 f0_s jb1 jcb jjl jjp jjq l1) : ∀ (k : Nat) (f0_s : NI) (jb1 : NI) (jcb : NI) (jjl : NI) (jjp : NI) (jjq : NI) (l1 l2 : Int32), (0 ≤ l1.toInt) → (l1.toInt ≤ 5) → (l1.toInt = g1.toInt) → (0 ≤ l2.toInt) → (l2.toInt ≤ 256) → 256 - l2.toInt < (k : Int) → quS jaN jaC jbw jbD jb2 jbv jcu jbT jcy Q K99 k f0_s jb1 jcb jjl jjp jjq l1 l2 := by
  intro k
  induction k with
  | zero => intro f0_s jb1 jcb jjl jjp jjq l1 l2 i0 i1 i2 i3 i4 i5; omega
  | succ k ih =>
    intro f0_s jb1 jcb jjl jjp jjq l1 l2 i0 i1 i2 i3 i4 i5
    refine ⟨?_, ?_⟩
    · intro c77
      first | have h78 := q1g (x := jaN) (by omega) (by omega) | have h78 := qadN (x := jaN) (by omega) (by omega) | skip
      try simp only [qao, qak, qan, t_0, t_1, t_2, t_3, qal, t_4, t_6, t_8, qam] at c77
      intro y79 e80
      try have h81 : (l1 + (-1)).toInt = (l1.toInt + (-1)) := by rw [qap] <;> (try simp only [t_0, t_1, t_2, t_3, qal, t_4, t_6, t_8, qam]) <;> omega
      try have h82 : y79.toInt = (l1.toInt + (-1)) := by rw [e80]; exact h81
      exact hK99 _ _ _ _ _ _ _ (by first | with_reducible assumption | omega | (simp only [qal, tZ]; first | done | omega))
    · intro c83
      first | have h84 := q1g (x := jaN) (by omega) (by omega) | have h84 := qadN (x := jaN) (by omega) (by omega) | skip
      try simp only [qao, qak, qan, t_0, t_1, t_2, t_3, qal, t_4, t_6, t_8, qam] at c83
      intro y85 e86
      try have h87 : (l1 + 1).toInt = (l1.toInt + 1) := by rw [qap] <;> (try simp only [t_0, t_1, t_2, t_3, qal, t_4, t_6, t_8, qam]) <;> omega
      try have h88 : y85.toInt = (l1.toInt + 1) := by rw [e86]; exact h87
      intro y89 e90
      try have h91 := qVZ (x := y85) (by omega) (by omega)
      try rw [← e90] at h91
      intro y92 e93
      try have h94 := qMY (a := y89) (b := l2) (by omega) (by omega) (by omega)
      try rw [← e93] at h94
      refine ⟨qa6 (by first | with_reducible assumption | omega | (simp only [qal, tZ]; first | done | omega)) (by first | with_reducible assumption | omega | (simp only [qal, tZ]; first | done | omega)), ?_⟩
      intro y95 e96
      have h97 : y95.toInt = (jjl y92.toNatClampNeg).toInt := by rw [e96]
      refine ⟨9, q5y (g1 := g1) (g2 := l2) (by first | with_reducible assumption | omega | (simp only [qal, tZ]; first | done | omega)) (by first | with_reducible assumption | omega | (simp only [qal, tZ]; first | done | omega)) (by first | with_reducible assumption | omega | (simp only [qal, tZ]; first | done | omega)) (by first | with_reducible assumption | omega | (simp only [qal, tZ]; first | done | omega)) (by first | with_reducible assumption | omega | (simp only [qal, tZ]; first | done | omega)) (by first | with_reducible assumption | omega | (simp only [qal, tZ]; first | done | omega)) hq hK99 (fun y98 y99 y100 y101 y102 y103 y104 y105 po106 po107 => ?_) 9 _ _ _ _ _ _ _ _ _ _ (by first | with_reducible assumption | omega | (simp only [qal, tZ]; first | done | omega)) (by first | with_reducible assumption | omega | (simp only [qal, tZ]; first | done | omega)) (by first | with_reducible assumption | omega | (simp only [qal, tZ]; first | done | omega)) (by first | with_reducible assumption | omega | (simp only [qal, tZ]; first | done | omega)) (by first | with_reducible assumption | omega | (simp only [qal, tZ]; first | done | omega)) (by first | with_reducible assumption | omega | (simp only [qal, tZ]; first | done | omega)) (by first | with_reducible assumption | omega | (simp only [qal, tZ]; first | done | omega)) (by first | with_reducible assumption | omega | (simp only [qal, tZ]; first | done | omega)) (by first | with_reducible assumption | omega | (simp only [qal, tZ]; first | done | omega))⟩
      exact ih _ _ _ _ _ _ _ _ (by first | with_reducible assumption | omega | (simp only [qal, tZ]; first | done | omega)) (by first | with_reducible assumption | omega | (simp only [qal, tZ]; first | done | omega)) (by first | with_reducible assumption | omega | (simp only [qal, tZ]; first | done | omega)) (by first | with_reducible assumption | omega | (simp only [qal, tZ]; first | done | omega)) (by first | with_reducible assumption | omega | (simp only [qal, tZ]; first | done | omega)) (by first | with_reducible assumption | omega | (simp only [qal, tZ]; first | done | omega))
theorem q5Z {jaN : Int32} {jaC : Int32} {jbw : Int32} {jbD : Int32} {jb2 : Nat → Int32} {jbv : Nat → Int32} {jcu : Nat → Int32} {jbT : Nat → Int32} {jcy : Nat → Int32} {Q : NI → NI → NI → NI → NI → NI → Prop} {K243 : NI → NI → NI → NI → NI → NI → Int32 → Int32 → Prop} {g2 : Int32} (hq : ∀ (s : NI) (facts : NI) (stack : NI) (mostOn : NI) (maySit : NI) (seatOf : NI), Q s facts stack mostOn maySit seatOf) (hK243 : ∀ (f0_s : NI) (jb1 : NI) (jcb : NI) (jjl : NI) (jjp : NI) (jjq : NI) (l1 l2 : Int32), (0 ≤ l1.toInt) → (l1.toInt < 256) → (l2.toInt = g2.toInt + 1) → K243 f0_s jb1 jcb jjl jjp jjq l1 l2) : ∀ (k : Nat) (f0_s : NI) (jb1 : NI) (jcb : NI) (jjl : NI) (jjp : NI) (jjq : NI) (l1 l2 l3 : Int32), (0 ≤ l1.toInt) → (l1.toInt < 256) → (0 ≤ l2.toInt) → (l2.toInt < 6) → (l2.toInt = g2.toInt) → (-1 ≤ l3.toInt) → (l3.toInt ≤ 7) → (-1 ≤ (jjq l2.toNatClampNeg).toInt) → ((jjq l2.toNatClampNeg).toInt < 8) → l3.toInt + 1 < (k : Int) → qi9 jaN jaC jbw jbD jb2 jbv jcu jbT jcy Q K243 k f0_s jb1 jcb jjl jjp jjq l1 l2 l3 := by
  intro k
  induction k with
  | zero => intro f0_s jb1 jcb jjl jjp jjq l1 l2 l3 i0 i1 i2 i3 i4 i5 i6 i7 i8 i9; omega
  | succ k ih =>
    intro f0_s jb1 jcb jjl jjp jjq l1 l2 l3 i0 i1 i2 i3 i4 i5 i6 i7 i8 i9
    have go : ∀ (so : NI) (x68 : Int32), -1 ≤ (so l2.toNatClampNeg).toInt → (so l2.toNatClampNeg).toInt < 8 → ¬ l3.toInt < 0 → x68 = l3 + (-1) → qi9 jaN jaC jbw jbD jb2 jbv jcu jbT jcy Q K243 k f0_s jb1 jcb jjl jjp so l1 l2 x68 := fun so x68 h1 h2 h3 e68 => by
      have q : x68.toInt = l3.toInt - 1 := by rw [e68, qap (by rw [qam]; omega) (by rw [qam]; omega), qam]; omega
      exact ih _ _ _ _ _ so l1 l2 x68 i0 i1 i2 i3 i4 (by omega) (by omega) h1 h2 (by omega)
    have hk : ∀ s x67 : Int32, 0 ≤ s.toInt → s.toInt < 256 → x67 = l2 + 1 → K243 f0_s jb1 jcb jjl jjp jjq s x67 := fun s x67 h1 h2 e67 =>
      hK243 _ _ _ _ _ _ _ _ h1 h2 (by rw [e67, qca (by omega)]; omega)
    refine ⟨fun c => ⟨qa6 i2 (by omega), fun x30 e30 => ⟨fun _ x67 e67 => hk l1 x67 i0 i1 e67, fun c2 => ⟨qa6 i2 (by omega), fun x32 e32 x33 e33 x67 e67 => ?_⟩⟩⟩, fun c => ⟨qa6 i2 (by omega), fun x34 _ x35 _ => ⟨fun _ x68 e68 => go _ x68 i7 i8 (by rw [qao, t_0] at c; exact c) e68, fun _ x37 e37 x38 e38 x39 e39 x40 e40 => ?_⟩⟩⟩
    · rw [qan, qam, e30] at c2
      have q32 : x32.toInt = (jjq l2.toNatClampNeg).toInt := by rw [e32]
      have h1 := q1g (x := x32) (by omega) (by omega)
      have h2 := qa61 (a := l1) (b := 1 <<< (x32 &&& 31)) i0 i1 (by omega) (by omega)
      rw [← e33] at h2
      exact hk x33 x67 h2.1 h2.2 e67
    · rw [qao, t_0] at c
      have q37 : x37.toInt = l2.toInt + 1 := by rw [e37]; exact qca (by omega)
      have h38 := qVZ (x := x37) (by omega) (by omega)
      rw [← e38] at h38
      have h39 := qMY (a := x38) (b := l1) (by omega) i0 i1
      rw [← e39] at h39
      have h3 := q1g (x := l3) (by omega) (by omega)
      have h40 := qMY (a := x39) (b := 1 <<< (l3 &&& 31)) h39.1 (by omega) (by omega)
      rw [← e40] at h40
      refine ⟨qa6 h40.1 (by omega), fun x41 _ x42 e42 x43 e43 => ?_⟩
      have h42 := qVZ (x := l2) i2 (by omega)
      rw [← e42] at h42
      have h43 := qMY (a := x42) (b := l1) (by omega) i0 i1
      rw [← e43] at h43
      refine ⟨qa6 h43.1 (by omega), fun x44 _ => ⟨fun _ x68 e68 => go _ x68 i7 i8 c e68, fun _ => ⟨qa6 i2 (by omega), fun f46 e46 x68 e68 => go f46 x68 (by rw [e46, pk_us]; omega) (by rw [e46, pk_us]; omega) c e68⟩⟩⟩
theorem q6N {jaN : Int32} {jaC : Int32} {jbw : Int32} {jbD : Int32} {jb2 : Nat → Int32} {jbv : Nat → Int32} {jcu : Nat → Int32} {jbT : Nat → Int32} {jcy : Nat → Int32} {Q : NI → NI → NI → NI → NI → NI → Prop} (a0 : rC jbD jcu jbT) (a1 : 0 ≤ jaC.toInt) (a2 : jaC.toInt ≤ 6) (a3 : 0 ≤ jaN.toInt) (a4 : jaN.toInt ≤ 8) (a5 : jbw.toInt ≤ 4) (hq : ∀ (s : NI) (facts : NI) (stack : NI) (mostOn : NI) (maySit : NI) (seatOf : NI), Q s facts stack mostOn maySit seatOf) : ∀ (k : Nat) (f0_s : NI) (jb1 : NI) (jcb : NI) (jjl : NI) (jjp : NI) (jjq : NI) (l1 l2 : Int32), (0 ≤ l1.toInt) → (l1.toInt < 256) → (0 ≤ l2.toInt) → (l2.toInt ≤ 6) → 6 - l2.toInt < (k : Int) → quR jaN jaC jbw jbD jb2 jbv jcu jbT jcy Q k f0_s jb1 jcb jjl jjp jjq l1 l2 := by
  intro k
  induction k with
  | zero => intro f0_s jb1 jcb jjl jjp jjq l1 l2 i0 i1 i2 i3 i4; omega
  | succ k ih =>
    intro f0_s jb1 jcb jjl jjp jjq l1 l2 i0 i1 i2 i3 i4
    refine ⟨?_, ?_⟩
    · intro c108
      try simp only [qao, qak, qan, t_0, t_1, t_2, t_3, qal, t_4, t_6, t_8, qam] at c108
      exact hq _ _ _ _ _ _
    · intro c109
      try simp only [qao, qak, qan, t_0, t_1, t_2, t_3, qal, t_4, t_6, t_8, qam] at c109
      refine ⟨qa6 (by first | with_reducible assumption | omega | (simp only [qal, tZ]; first | done | omega)) (by first | with_reducible assumption | omega | (simp only [qal, tZ]; first | done | omega)), ?_⟩
      intro y110 e111
      have hu : (y110 l2.toNatClampNeg).toInt = -1 := by rw [e111, pk_us]; decide
      intro y112 e113
      try have h114 : (jaN - 1).toInt = (jaN.toInt - 1) := by rw [qpT] <;> (try simp only [t_0, t_1, t_2, t_3, qal, t_4, t_6, t_8, qam]) <;> omega
      try have h115 : y112.toInt = (jaN.toInt - 1) := by rw [e113]; exact h114
      refine ⟨9, q5Z (g2 := l2) hq (fun y116 y117 y118 y119 y120 y121 y122 y123 po124 po125 po126 => ?_) 9 _ _ _ _ _ _ _ _ _ (by first | with_reducible assumption | omega | (simp only [qal, tZ]; first | done | omega)) (by first | with_reducible assumption | omega | (simp only [qal, tZ]; first | done | omega)) (by first | with_reducible assumption | omega | (simp only [qal, tZ]; first | done | omega)) (by first | with_reducible assumption | omega | (simp only [qal, tZ]; first | done | omega)) (by first | with_reducible assumption | omega | (simp only [qal, tZ]; first | done | omega)) (by first | with_reducible assumption | omega | (simp only [qal, tZ]; first | done | omega)) (by first | with_reducible assumption | omega | (simp only [qal, tZ]; first | done | omega)) (by first | with_reducible assumption | omega | (simp only [qal, tZ]; first | done | omega)) (by first | with_reducible assumption | omega | (simp only [qal, tZ]; first | done | omega)) (by first | with_reducible assumption | omega | (simp only [qal, tZ]; first | done | omega))⟩
      exact ih _ _ _ _ _ _ _ _ (by first | with_reducible assumption | omega | (simp only [qal, tZ]; first | done | omega)) (by first | with_reducible assumption | omega | (simp only [qal, tZ]; first | done | omega)) (by first | with_reducible assumption | omega | (simp only [qal, tZ]; first | done | omega)) (by first | with_reducible assumption | omega | (simp only [qal, tZ]; first | done | omega)) (by first | with_reducible assumption | omega | (simp only [qal, tZ]; first | done | omega))
theorem q9o {jaN : Int32} {jaC : Int32} {jbw : Int32} {jbD : Int32} {jb2 : Nat → Int32} {jbv : Nat → Int32} {jcu : Nat → Int32} {jbT : Nat → Int32} {jcy : Nat → Int32} {Q : NI → NI → NI → NI → NI → NI → Prop} (a0 : rC jbD jcu jbT) (a1 : 0 ≤ jaC.toInt) (a2 : jaC.toInt ≤ 6) (a3 : 0 ≤ jaN.toInt) (a4 : jaN.toInt ≤ 8) (a5 : jbw.toInt ≤ 4) (hq : ∀ (s : NI) (facts : NI) (stack : NI) (mostOn : NI) (maySit : NI) (seatOf : NI), Q s facts stack mostOn maySit seatOf) : ∀ (k : Nat) (f0_s : NI) (jb1 : NI) (jcb : NI) (jjl : NI) (jjp : NI) (jjq : NI) (l1 : Int32), (-1 ≤ l1.toInt) → (l1.toInt ≤ 5) → l1.toInt + 1 < (k : Int) → qvT jaN jaC jbw jbD jb2 jbv jcu jbT jcy Q k f0_s jb1 jcb jjl jjp jjq l1 := by
  intro k
  induction k with
  | zero => intro f0_s jb1 jcb jjl jjp jjq l1 i0 i1 i2; omega
  | succ k ih =>
    intro f0_s jb1 jcb jjl jjp jjq l1 i0 i1 i2
    refine ⟨?_, ?_⟩
    · intro c127
      try simp only [qao, qak, qan, t_0, t_1, t_2, t_3, qal, t_4, t_6, t_8, qam] at c127
      refine ⟨7, q6N (by first | with_reducible assumption | omega | (simp only [qal, tZ]; first | done | omega)) (by first | with_reducible assumption | omega | (simp only [qal, tZ]; first | done | omega)) (by first | with_reducible assumption | omega | (simp only [qal, tZ]; first | done | omega)) (by first | with_reducible assumption | omega | (simp only [qal, tZ]; first | done | omega)) (by first | with_reducible assumption | omega | (simp only [qal, tZ]; first | done | omega)) (by first | with_reducible assumption | omega | (simp only [qal, tZ]; first | done | omega)) hq 7 _ _ _ _ _ _ _ _ (by first | with_reducible assumption | omega | (simp only [qal, tZ]; first | done | omega)) (by first | with_reducible assumption | omega | (simp only [qal, tZ]; first | done | omega)) (by first | with_reducible assumption | omega | (simp only [qal, tZ]; first | done | omega)) (by first | with_reducible assumption | omega | (simp only [qal, tZ]; first | done | omega)) (by first | with_reducible assumption | omega | (simp only [qal, tZ]; first | done | omega))⟩
    · intro c128
      try simp only [qao, qak, qan, t_0, t_1, t_2, t_3, qal, t_4, t_6, t_8, qam] at c128
      refine ⟨257, q5Y (g1 := l1) (by first | with_reducible assumption | omega | (simp only [qal, tZ]; first | done | omega)) (by first | with_reducible assumption | omega | (simp only [qal, tZ]; first | done | omega)) (by first | with_reducible assumption | omega | (simp only [qal, tZ]; first | done | omega)) (by first | with_reducible assumption | omega | (simp only [qal, tZ]; first | done | omega)) (by first | with_reducible assumption | omega | (simp only [qal, tZ]; first | done | omega)) (by first | with_reducible assumption | omega | (simp only [qal, tZ]; first | done | omega)) hq (fun y129 y130 y131 y132 y133 y134 y135 po136 => ?_) 257 _ _ _ _ _ _ _ _ (by first | with_reducible assumption | omega | (simp only [qal, tZ]; first | done | omega)) (by first | with_reducible assumption | omega | (simp only [qal, tZ]; first | done | omega)) (by first | with_reducible assumption | omega | (simp only [qal, tZ]; first | done | omega)) (by first | with_reducible assumption | omega | (simp only [qal, tZ]; first | done | omega)) (by first | with_reducible assumption | omega | (simp only [qal, tZ]; first | done | omega)) (by first | with_reducible assumption | omega | (simp only [qal, tZ]; first | done | omega))⟩
      exact ih _ _ _ _ _ _ _ (by first | with_reducible assumption | omega | (simp only [qal, tZ]; first | done | omega)) (by first | with_reducible assumption | omega | (simp only [qal, tZ]; first | done | omega)) (by first | with_reducible assumption | omega | (simp only [qal, tZ]; first | done | omega))
theorem q88 {jaN : Int32} {jaC : Int32} {jbw : Int32} {jbD : Int32} {jb2 : Nat → Int32} {jbv : Nat → Int32} {jcu : Nat → Int32} {jbT : Nat → Int32} {jcy : Nat → Int32} {Q : NI → NI → NI → NI → NI → NI → Prop} (a0 : rC jbD jcu jbT) (a1 : 0 ≤ jaC.toInt) (a2 : jaC.toInt ≤ 6) (a3 : 0 ≤ jaN.toInt) (a4 : jaN.toInt ≤ 8) (a5 : jbw.toInt ≤ 4) (hq : ∀ (s : NI) (facts : NI) (stack : NI) (mostOn : NI) (maySit : NI) (seatOf : NI), Q s facts stack mostOn maySit seatOf) : ∀ (k : Nat) (f0_s : NI) (jb1 : NI) (jcb : NI) (jjl : NI) (jjp : NI) (jjq : NI) (l1 : Int32), (0 ≤ l1.toInt) → (l1.toInt ≤ 256) → 256 - l1.toInt < (k : Int) → qzj jaN jaC jbw jbD jb2 jbv jcu jbT jcy Q k f0_s jb1 jcb jjl jjp jjq l1 := by
  intro k
  induction k with
  | zero => intro f0_s jb1 jcb jjl jjp jjq l1 i0 i1 i2; omega
  | succ k ih =>
    intro f0_s jb1 jcb jjl jjp jjq l1 i0 i1 i2
    refine ⟨?_, ?_⟩
    · intro c137
      first | have h138 := q1g (x := jaN) (by omega) (by omega) | have h138 := qadN (x := jaN) (by omega) (by omega) | skip
      try simp only [qao, qak, qan, t_0, t_1, t_2, t_3, qal, t_4, t_6, t_8, qam] at c137
      intro y139 e140
      try have h141 : (jaC - 1).toInt = (jaC.toInt - 1) := by rw [qpT] <;> (try simp only [t_0, t_1, t_2, t_3, qal, t_4, t_6, t_8, qam]) <;> omega
      try have h142 : y139.toInt = (jaC.toInt - 1) := by rw [e140]; exact h141
      refine ⟨7, q9o (by first | with_reducible assumption | omega | (simp only [qal, tZ]; first | done | omega)) (by first | with_reducible assumption | omega | (simp only [qal, tZ]; first | done | omega)) (by first | with_reducible assumption | omega | (simp only [qal, tZ]; first | done | omega)) (by first | with_reducible assumption | omega | (simp only [qal, tZ]; first | done | omega)) (by first | with_reducible assumption | omega | (simp only [qal, tZ]; first | done | omega)) (by first | with_reducible assumption | omega | (simp only [qal, tZ]; first | done | omega)) hq 7 _ _ _ _ _ _ _ (by first | with_reducible assumption | omega | (simp only [qal, tZ]; first | done | omega)) (by first | with_reducible assumption | omega | (simp only [qal, tZ]; first | done | omega)) (by first | with_reducible assumption | omega | (simp only [qal, tZ]; first | done | omega))⟩
    · intro c143
      first | have h144 := q1g (x := jaN) (by omega) (by omega) | have h144 := qadN (x := jaN) (by omega) (by omega) | skip
      try simp only [qao, qak, qan, t_0, t_1, t_2, t_3, qal, t_4, t_6, t_8, qam] at c143
      intro y145 e146
      try have h147 := qVZ (x := jaC) (by omega) (by omega)
      try rw [← e146] at h147
      intro y148 e149
      try have h150 := qMY (a := y145) (b := l1) (by omega) (by omega) (by omega)
      try rw [← e149] at h150
      refine ⟨qa6 (by first | with_reducible assumption | omega | (simp only [qal, tZ]; first | done | omega)) (by first | with_reducible assumption | omega | (simp only [qal, tZ]; first | done | omega)), ?_⟩
      intro y151 e152
      intro y153 e154
      try have h155 : (l1 + 1).toInt = (l1.toInt + 1) := by rw [qap] <;> (try simp only [t_0, t_1, t_2, t_3, qal, t_4, t_6, t_8, qam]) <;> omega
      try have h156 : y153.toInt = (l1.toInt + 1) := by rw [e154]; exact h155
      exact ih _ _ _ _ _ _ _ (by first | with_reducible assumption | omega | (simp only [qal, tZ]; first | done | omega)) (by first | with_reducible assumption | omega | (simp only [qal, tZ]; first | done | omega)) (by first | with_reducible assumption | omega | (simp only [qal, tZ]; first | done | omega))
theorem qah7 {jaN : Int32} {jaC : Int32} {jbw : Int32} {jbD : Int32} {jb2 : Nat → Int32} {jbv : Nat → Int32} {jcu : Nat → Int32} {jbT : Nat → Int32} {jcy : Nat → Int32} {Q : NI → NI → NI → NI → NI → NI → Prop} (a0 : rC jbD jcu jbT) (a1 : 0 ≤ jaC.toInt) (a2 : jaC.toInt ≤ 6) (a3 : 0 ≤ jaN.toInt) (a4 : jaN.toInt ≤ 8) (a5 : jbw.toInt ≤ 4) (hq : ∀ (s : NI) (facts : NI) (stack : NI) (mostOn : NI) (maySit : NI) (seatOf : NI), Q s facts stack mostOn maySit seatOf) : ∀ (k : Nat) (f0_s : NI) (jb1 : NI) (jcb : NI) (jjl : NI) (jjp : NI) (jjq : NI) (l1 : Int32), (rS jaC jaN f0_s) → (0 ≤ l1.toInt) → (l1.toInt ≤ 6) → 6 - l1.toInt < (k : Int) → qsd jaN jaC jbw jbD jb2 jbv jcu jbT jcy Q k f0_s jb1 jcb jjl jjp jjq l1 := by
  intro k
  induction k with
  | zero => intro f0_s jb1 jcb jjl jjp jjq l1 i0 i1 i2 i3; omega
  | succ k ih =>
    intro f0_s jb1 jcb jjl jjp jjq l1 i0 i1 i2 i3
    refine ⟨?_, ?_⟩
    · intro c157
      try simp only [qao, qak, qan, t_0, t_1, t_2, t_3, qal, t_4, t_6, t_8, qam] at c157
      refine ⟨257, q88 (by first | with_reducible assumption | omega | (simp only [qal, tZ]; first | done | omega)) (by first | with_reducible assumption | omega | (simp only [qal, tZ]; first | done | omega)) (by first | with_reducible assumption | omega | (simp only [qal, tZ]; first | done | omega)) (by first | with_reducible assumption | omega | (simp only [qal, tZ]; first | done | omega)) (by first | with_reducible assumption | omega | (simp only [qal, tZ]; first | done | omega)) (by first | with_reducible assumption | omega | (simp only [qal, tZ]; first | done | omega)) hq 257 _ _ _ _ _ _ _ (by first | with_reducible assumption | omega | (simp only [qal, tZ]; first | done | omega)) (by first | with_reducible assumption | omega | (simp only [qal, tZ]; first | done | omega)) (by first | with_reducible assumption | omega | (simp only [qal, tZ]; first | done | omega))⟩
    · intro c158
      try simp only [qao, qak, qan, t_0, t_1, t_2, t_3, qal, t_4, t_6, t_8, qam] at c158
      refine qeY (by first | with_reducible assumption | omega | (simp only [qal, tZ]; first | done | omega)) (by first | with_reducible assumption | omega | (simp only [qal, tZ]; first | done | omega)) (fun y159 po160 => ?_)
      try simp only [t_0, t_1, t_2, t_3, qal, t_4, t_6, t_8, qam] at po160
      refine ⟨?_, ?_⟩
      · intro c161
        try simp only [qao, qak, qan, t_0, t_1, t_2, t_3, qal, t_4, t_6, t_8, qam] at c161
        refine qaKe (by first | with_reducible assumption | omega | (simp only [qal, tZ]; first | done | omega)) (by first | with_reducible assumption | omega | (simp only [qal, tZ]; first | done | omega)) (by first | with_reducible assumption | omega | (simp only [qal, tZ]; first | done | omega)) (by first | with_reducible assumption | omega | (simp only [qal, tZ]; first | done | omega)) (by first | with_reducible assumption | omega | (simp only [qal, tZ]; first | done | omega)) (by first | with_reducible assumption | omega | (simp only [qal, tZ]; first | done | omega)) (fun y162 y163 y164 => ?_)
        intro y165 e166
        have h167 : y165 = l1 := by rw [e166]; exact Int32.zero_add _
        have h168 : y165.toInt = l1.toInt := by rw [h167]
        refine ⟨qa6 (by first | with_reducible assumption | omega | (simp only [qal, tZ]; first | done | omega)) (by first | with_reducible assumption | omega | (simp only [qal, tZ]; first | done | omega)), ?_⟩
        intro y169 e170
        have h171 : y169.toInt = (f0_s l1.toNatClampNeg).toInt := by rw [e170, h167]
        refine q0d (by first | with_reducible assumption | omega | (simp only [qal, tZ]; first | done | omega)) (by first | with_reducible assumption | omega | (simp only [qal, tZ]; first | done | omega)) (fun y172 => ?_)
        refine ⟨qa6 (by first | with_reducible assumption | omega | (simp only [qal, tZ]; first | done | omega)) (by first | with_reducible assumption | omega | (simp only [qal, tZ]; first | done | omega)), ?_⟩
        intro y173 e174
        intro y175 e176
        try have h177 : (l1 + 1).toInt = (l1.toInt + 1) := by rw [qap] <;> (try simp only [t_0, t_1, t_2, t_3, qal, t_4, t_6, t_8, qam]) <;> omega
        try have h178 : y175.toInt = (l1.toInt + 1) := by rw [e176]; exact h177
        exact ih _ _ _ _ _ _ _ (by first | with_reducible assumption | omega | (simp only [qal, tZ]; first | done | omega)) (by first | with_reducible assumption | omega | (simp only [qal, tZ]; first | done | omega)) (by first | with_reducible assumption | omega | (simp only [qal, tZ]; first | done | omega)) (by first | with_reducible assumption | omega | (simp only [qal, tZ]; first | done | omega))
      · intro c179
        try simp only [qao, qak, qan, t_0, t_1, t_2, t_3, qal, t_4, t_6, t_8, qam] at c179
        refine ⟨qa6 (by first | with_reducible assumption | omega | (simp only [qal, tZ]; first | done | omega)) (by first | with_reducible assumption | omega | (simp only [qal, tZ]; first | done | omega)), ?_⟩
        intro y180 e181
        intro y182 e183
        try have h184 : (l1 + 1).toInt = (l1.toInt + 1) := by rw [qap] <;> (try simp only [t_0, t_1, t_2, t_3, qal, t_4, t_6, t_8, qam]) <;> omega
        try have h185 : y182.toInt = (l1.toInt + 1) := by rw [e183]; exact h184
        exact ih _ _ _ _ _ _ _ (by first | with_reducible assumption | omega | (simp only [qal, tZ]; first | done | omega)) (by first | with_reducible assumption | omega | (simp only [qal, tZ]; first | done | omega)) (by first | with_reducible assumption | omega | (simp only [qal, tZ]; first | done | omega)) (by first | with_reducible assumption | omega | (simp only [qal, tZ]; first | done | omega))
theorem q0a {jaN : Int32} {jaC : Int32} {jbw : Int32} {jbD : Int32} {jb2 : Nat → Int32} {jbv : Nat → Int32} {jcu : Nat → Int32} {jbT : Nat → Int32} {jcy : Nat → Int32} {f0_s : Nat → Int32} {jb1 : Nat → Int32} {jcb : Nat → Int32} {jjl : Nat → Int32} {jjp : Nat → Int32} {jjq : Nat → Int32} {Q : NI → NI → NI → NI → NI → NI → Prop} (a0 : rS jaC jaN jb2) (a1 : rC jbD jcu jbT) (a2 : 0 ≤ jaC.toInt) (a3 : jaC.toInt ≤ 6) (a4 : 0 ≤ jaN.toInt) (a5 : jaN.toInt ≤ 8) (a6 : jbw.toInt ≤ 4) (hq : ∀ (s : NI) (facts : NI) (stack : NI) (mostOn : NI) (maySit : NI) (seatOf : NI), Q s facts stack mostOn maySit seatOf) : qE8 jaN jaC jbw jbD jb2 jbv jcu jbT jcy f0_s jb1 jcb jjl jjp jjq Q := by
  refine qoL (by first | with_reducible assumption | omega | (simp only [qal, tZ]; first | done | omega)) (fun y186 po187 => ?_)
  refine ⟨7, qah7 (by first | with_reducible assumption | omega | (simp only [qal, tZ]; first | done | omega)) (by first | with_reducible assumption | omega | (simp only [qal, tZ]; first | done | omega)) (by first | with_reducible assumption | omega | (simp only [qal, tZ]; first | done | omega)) (by first | with_reducible assumption | omega | (simp only [qal, tZ]; first | done | omega)) (by first | with_reducible assumption | omega | (simp only [qal, tZ]; first | done | omega)) (by first | with_reducible assumption | omega | (simp only [qal, tZ]; first | done | omega)) hq 7 _ _ _ _ _ _ _ (by first | with_reducible assumption | omega | (simp only [qal, tZ]; first | done | omega)) (by first | with_reducible assumption | omega | (simp only [qal, tZ]; first | done | omega)) (by first | with_reducible assumption | omega | (simp only [qal, tZ]; first | done | omega)) (by first | with_reducible assumption | omega | (simp only [qal, tZ]; first | done | omega))⟩
theorem qaym {jaN : Int32} {jaC : Int32} {jbw : Int32} {jbD : Int32} {jb2 : Nat → Int32} {jbv : Nat → Int32} {jcu : Nat → Int32} {jbT : Nat → Int32} {jcy : Nat → Int32} {jbd : Int32} {ja9 : Nat → Int32} {f0_s : Nat → Int32} {jb1 : Nat → Int32} {jcb : Nat → Int32} {jjl : Nat → Int32} {jjp : Nat → Int32} {jjq : Nat → Int32} {p1 : Int32} {Q : Int32 → Int32 → NI → NI → NI → NI → NI → NI → NI → Prop} (a0 : rS jaC jaN jb2) (a1 : rC jbD jcu jbT) (a2 : 0 ≤ jaC.toInt) (a3 : jaC.toInt ≤ 6) (a4 : 0 ≤ jaN.toInt) (a5 : jaN.toInt ≤ 8) (a6 : jbw.toInt ≤ 4) (hq : ∀ (r thrown : Int32) (refused : NI) (s : NI) (facts : NI) (stack : NI) (mostOn : NI) (maySit : NI) (seatOf : NI), Q r thrown refused s facts stack mostOn maySit seatOf) : qacB jaN jaC jbw jbD jb2 jbv jcu jbT jcy jbd ja9 f0_s jb1 jcb jjl jjp jjq p1 Q := by
  refine qu6 (by first | with_reducible assumption | omega | (simp only [tZ]; first | done | omega)) (by first | with_reducible assumption | omega | (simp only [tZ]; first | done | omega)) (by first | with_reducible assumption | omega | (simp only [tZ]; first | done | omega)) (fun y1 y2 y3 po4 => ?_)
  try simp only [tY] at po4
  refine ⟨?_, ?_⟩
  · intro c5
    try simp only [qao, qak, qan, tY] at c5
    refine q0a (by first | with_reducible assumption | omega | (simp only [tZ]; first | done | omega)) (by first | with_reducible assumption | omega | (simp only [tZ]; first | done | omega)) (by first | with_reducible assumption | omega | (simp only [tZ]; first | done | omega)) (by first | with_reducible assumption | omega | (simp only [tZ]; first | done | omega)) (by first | with_reducible assumption | omega | (simp only [tZ]; first | done | omega)) (by first | with_reducible assumption | omega | (simp only [tZ]; first | done | omega)) (by first | with_reducible assumption | omega | (simp only [tZ]; first | done | omega)) (fun y6 y7 y8 y9 y10 y11 => ?_)
    refine ⟨qa6 (by first | with_reducible assumption | omega | (simp only [tZ]; first | done | omega)) (by first | with_reducible assumption | omega | (simp only [tZ]; first | done | omega)), ?_⟩
    intro y12 e13
    have h14 : y12.toInt = (y11 p1.toNatClampNeg).toInt := by rw [e13]
    exact hq _ _ _ _ _ _ _ _ _
  · intro c15
    try simp only [qao, qak, qan, tY] at c15
    exact hq _ _ _ _ _ _ _ _ _
theorem qaVA {jaN : Int32} {jaC : Int32} {jbw : Int32} {jbD : Int32} {jb2 : Nat → Int32} {jbv : Nat → Int32} {jcu : Nat → Int32} {jbT : Nat → Int32} {jcy : Nat → Int32} {jbd : Int32} {f0_s : Nat → Int32} {jb1 : Nat → Int32} {jcb : Nat → Int32} {jjl : Nat → Int32} {jjp : Nat → Int32} {jjq : Nat → Int32} {Q : Int32 → Int32 → NI → NI → NI → NI → NI → NI → Prop} (a0 : rS jaC jaN jb2) (a1 : rC jbD jcu jbT) (a2 : 0 ≤ jaC.toInt) (a3 : jaC.toInt ≤ 6) (a4 : 0 ≤ jaN.toInt) (a5 : jaN.toInt ≤ 8) (a6 : jbw.toInt ≤ 4) (hq : ∀ (r thrown : Int32) (s : NI) (facts : NI) (stack : NI) (mostOn : NI) (maySit : NI) (seatOf : NI), Q r thrown s facts stack mostOn maySit seatOf) : q0Z jaN jaC jbw jbD jb2 jbv jcu jbT jcy jbd f0_s jb1 jcb jjl jjp jjq Q := by
  refine q0a (by first | with_reducible assumption | omega | (simp only [tZ]; first | done | omega)) (by first | with_reducible assumption | omega | (simp only [tZ]; first | done | omega)) (by first | with_reducible assumption | omega | (simp only [tZ]; first | done | omega)) (by first | with_reducible assumption | omega | (simp only [tZ]; first | done | omega)) (by first | with_reducible assumption | omega | (simp only [tZ]; first | done | omega)) (by first | with_reducible assumption | omega | (simp only [tZ]; first | done | omega)) (by first | with_reducible assumption | omega | (simp only [tZ]; first | done | omega)) (fun y1 y2 y3 y4 y5 y6 => ?_)
  intro y7 e8
  have h9 : y7.toInt = (y4 (0 : Int32).toNatClampNeg).toInt := by rw [e8]
  exact hq _ _ _ _ _ _ _ _
