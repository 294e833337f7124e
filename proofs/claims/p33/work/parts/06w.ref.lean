theorem qaoe {f0_s : Nat → Int32} {p1 : Int32} {p2 : Int32} {Q : Int32 → NI → Prop} {hh n : Int32} (a0 : rS hh n f0_s) (a1 : 0 ≤ p1.toInt) (a2 : p1.toInt < 6) (a3 : 0 ≤ p2.toInt) (a4 : p2.toInt < 6) (hq : ∀ (r : Int32) (s : NI), (r.toInt = 0 ∨ r.toInt = 1) → (rS hh n s) → Q r s) : qLE f0_s p1 p2 Q := by
  refine ⟨?_, ?_⟩
  · intro c1
    try simp only [qao, qak, qan, t_0, t_1, qaz, t_2, qbz, t_3, t_4, t_6, t_8, qam] at c1
    exact hq _ _ (by first | with_reducible assumption | omega | (simp only [qaz, qbz, tZ]; first | done | omega)) (by first | with_reducible assumption | omega | (simp only [qaz, qbz, tZ]; first | done | omega))
  · intro c2
    try simp only [qao, qak, qan, t_0, t_1, qaz, t_2, qbz, t_3, t_4, t_6, t_8, qam] at c2
    refine qeY (by first | with_reducible assumption | omega | (simp only [qaz, qbz, tZ]; first | done | omega)) (by first | with_reducible assumption | omega | (simp only [qaz, qbz, tZ]; first | done | omega)) (fun y3 po4 => ?_)
    try simp only [t_0, t_1, qaz, t_2, qbz, t_3, t_4, t_6, t_8, qam] at po4
    refine ⟨?_, ?_⟩
    · intro c5
      try simp only [qao, qak, qan, t_0, t_1, qaz, t_2, qbz, t_3, t_4, t_6, t_8, qam] at c5
      exact hq _ _ (by first | with_reducible assumption | omega | (simp only [qaz, qbz, tZ]; first | done | omega)) (by first | with_reducible assumption | omega | (simp only [qaz, qbz, tZ]; first | done | omega))
    · intro c6
      try simp only [qao, qak, qan, t_0, t_1, qaz, t_2, qbz, t_3, t_4, t_6, t_8, qam] at c6
      intro y7 e8
      have h9 : y7 = p1 := by rw [e8]; exact Int32.zero_add _
      have h10 : y7.toInt = p1.toInt := by rw [h9]
      refine ⟨qa6 (by first | with_reducible assumption | omega | (simp only [qaz, qbz, tZ]; first | done | omega)) (by first | with_reducible assumption | omega | (simp only [qaz, qbz, tZ]; first | done | omega)), ?_⟩
      intro y11 e12
      have h13 : y11.toInt = (f0_s p1.toNatClampNeg).toInt := by rw [e12, h9]
      try have h14 := qn0 (s := f0_s) (x := p1) (by with_reducible assumption) (by first | with_reducible assumption | omega | (simp only [qaz, qbz, tZ]; first | done | omega)) (by first | with_reducible assumption | omega | (simp only [qaz, qbz, tZ]; first | done | omega))
      try have h15 := qgw (s := f0_s) (x := p1) (by with_reducible assumption) (by first | with_reducible assumption | omega | (simp only [qaz, qbz, tZ]; first | done | omega)) (by first | with_reducible assumption | omega | (simp only [qaz, qbz, tZ]; first | done | omega))
      intro y16 e17
      have h18 : y16 = p2 := by rw [e17]; exact Int32.zero_add _
      have h19 : y16.toInt = p2.toInt := by rw [h18]
      refine ⟨qa6 (by first | with_reducible assumption | omega | (simp only [qaz, qbz, tZ]; first | done | omega)) (by first | with_reducible assumption | omega | (simp only [qaz, qbz, tZ]; first | done | omega)), ?_⟩
      intro y20 e21
      have h22 : y20.toInt = (f0_s p2.toNatClampNeg).toInt := by rw [e21, h18]
      try have h23 := qn0 (s := f0_s) (x := p2) (by with_reducible assumption) (by first | with_reducible assumption | omega | (simp only [qaz, qbz, tZ]; first | done | omega)) (by first | with_reducible assumption | omega | (simp only [qaz, qbz, tZ]; first | done | omega))
      try have h24 := qgw (s := f0_s) (x := p2) (by with_reducible assumption) (by first | with_reducible assumption | omega | (simp only [qaz, qbz, tZ]; first | done | omega)) (by first | with_reducible assumption | omega | (simp only [qaz, qbz, tZ]; first | done | omega))
      refine ⟨?_, ?_⟩
      · intro c25
        try simp only [qao, qak, qan, t_0, t_1, qaz, t_2, qbz, t_3, t_4, t_6, t_8, qam] at c25
        intro y26 e27
        try have h28 : (6 + p2).toInt = (6 + p2.toInt) := by rw [qap] <;> (try simp only [t_0, t_1, qaz, t_2, qbz, t_3, t_4, t_6, t_8, qam]) <;> omega
        try have h29 : y26.toInt = (6 + p2.toInt) := by rw [e27]; exact h28
        refine ⟨qa6 (by first | with_reducible assumption | omega | (simp only [qaz, qbz, tZ]; first | done | omega)) (by first | with_reducible assumption | omega | (simp only [qaz, qbz, tZ]; first | done | omega)), ?_⟩
        intro y30 e31
        have h32 : y30.toInt = (f0_s y26.toNatClampNeg).toInt := by rw [e31]
        try have h33 := qn0 (s := f0_s) (x := y26) (by with_reducible assumption) (by first | with_reducible assumption | omega | (simp only [qaz, qbz, tZ]; first | done | omega)) (by first | with_reducible assumption | omega | (simp only [qaz, qbz, tZ]; first | done | omega))
        try have h34 := qgw (s := f0_s) (x := y26) (by with_reducible assumption) (by first | with_reducible assumption | omega | (simp only [qaz, qbz, tZ]; first | done | omega)) (by first | with_reducible assumption | omega | (simp only [qaz, qbz, tZ]; first | done | omega))
        intro y35 e36
        try have h37 : (6 + p1).toInt = (6 + p1.toInt) := by rw [qap] <;> (try simp only [t_0, t_1, qaz, t_2, qbz, t_3, t_4, t_6, t_8, qam]) <;> omega
        try have h38 : y35.toInt = (6 + p1.toInt) := by rw [e36]; exact h37
        refine ⟨qa6 (by first | with_reducible assumption | omega | (simp only [qaz, qbz, tZ]; first | done | omega)) (by first | with_reducible assumption | omega | (simp only [qaz, qbz, tZ]; first | done | omega)), ?_⟩
        intro y39 e40
        have h41 : y39.toInt = (f0_s y35.toNatClampNeg).toInt := by rw [e40]
        try have h42 := qn0 (s := f0_s) (x := y35) (by with_reducible assumption) (by first | with_reducible assumption | omega | (simp only [qaz, qbz, tZ]; first | done | omega)) (by first | with_reducible assumption | omega | (simp only [qaz, qbz, tZ]; first | done | omega))
        try have h43 := qgw (s := f0_s) (x := y35) (by with_reducible assumption) (by first | with_reducible assumption | omega | (simp only [qaz, qbz, tZ]; first | done | omega)) (by first | with_reducible assumption | omega | (simp only [qaz, qbz, tZ]; first | done | omega))
        refine ⟨?_, ?_⟩
        · intro c44
          try simp only [qao, qak, qan, t_0, t_1, qaz, t_2, qbz, t_3, t_4, t_6, t_8, qam] at c44
          intro y45 e46
          try have h47 : (6 + p2).toInt = (6 + p2.toInt) := by rw [qap] <;> (try simp only [t_0, t_1, qaz, t_2, qbz, t_3, t_4, t_6, t_8, qam]) <;> omega
          try have h48 : y45.toInt = (6 + p2.toInt) := by rw [e46]; exact h47
          refine ⟨qa6 (by first | with_reducible assumption | omega | (simp only [qaz, qbz, tZ]; first | done | omega)) (by first | with_reducible assumption | omega | (simp only [qaz, qbz, tZ]; first | done | omega)), ?_⟩
          intro y49 e50
          have h51 : y49.toInt = (f0_s y45.toNatClampNeg).toInt := by rw [e50]
          try have h52 := qn0 (s := f0_s) (x := y45) (by with_reducible assumption) (by first | with_reducible assumption | omega | (simp only [qaz, qbz, tZ]; first | done | omega)) (by first | with_reducible assumption | omega | (simp only [qaz, qbz, tZ]; first | done | omega))
          try have h53 := qgw (s := f0_s) (x := y45) (by with_reducible assumption) (by first | with_reducible assumption | omega | (simp only [qaz, qbz, tZ]; first | done | omega)) (by first | with_reducible assumption | omega | (simp only [qaz, qbz, tZ]; first | done | omega))
          intro y54 e55
          try have h56 : (6 + p2).toInt = (6 + p2.toInt) := by rw [qap] <;> (try simp only [t_0, t_1, qaz, t_2, qbz, t_3, t_4, t_6, t_8, qam]) <;> omega
          try have h57 : y54.toInt = (6 + p2.toInt) := by rw [e55]; exact h56
          refine ⟨qa6 (by first | with_reducible assumption | omega | (simp only [qaz, qbz, tZ]; first | done | omega)) (by first | with_reducible assumption | omega | (simp only [qaz, qbz, tZ]; first | done | omega)), ?_⟩
          intro y58 e59
          have h60 : y58.toInt = (f0_s y54.toNatClampNeg).toInt := by rw [e59]
          try have h61 := qn0 (s := f0_s) (x := y54) (by with_reducible assumption) (by first | with_reducible assumption | omega | (simp only [qaz, qbz, tZ]; first | done | omega)) (by first | with_reducible assumption | omega | (simp only [qaz, qbz, tZ]; first | done | omega))
          try have h62 := qgw (s := f0_s) (x := y54) (by with_reducible assumption) (by first | with_reducible assumption | omega | (simp only [qaz, qbz, tZ]; first | done | omega)) (by first | with_reducible assumption | omega | (simp only [qaz, qbz, tZ]; first | done | omega))
          refine ⟨?_, ?_⟩
          · intro c63
            try simp only [qao, qak, qan, t_0, t_1, qaz, t_2, qbz, t_3, t_4, t_6, t_8, qam] at c63
            intro y64 e65
            try have h66 : (y49 - 0).toInt = (y49.toInt - 0) := by rw [qpT] <;> (try simp only [t_0, t_1, qaz, t_2, qbz, t_3, t_4, t_6, t_8, qam]) <;> omega
            try have h67 : y64.toInt = (y49.toInt - 0) := by rw [e65]; exact h66
            refine ⟨qa6 (by first | with_reducible assumption | omega | (simp only [qaz, qbz, tZ]; first | done | omega)) (by first | with_reducible assumption | omega | (simp only [qaz, qbz, tZ]; first | done | omega)), ?_⟩
            intro y68 e69
            try have h70 := qul (s := f0_s) (x := y45) (v := y64) (by with_reducible assumption) (by first | with_reducible assumption | omega | (simp only [qaz, qbz, tZ]; first | done | omega)) (by first | with_reducible assumption | omega | (simp only [qaz, qbz, tZ]; first | done | omega)) (by first | with_reducible assumption | omega | (simp only [qaz, qbz, tZ]; first | done | omega))
            try rw [← e69] at h70
            intro y71 e72
            try have h73 : (12 + p1).toInt = (12 + p1.toInt) := by rw [qap] <;> (try simp only [t_0, t_1, qaz, t_2, qbz, t_3, t_4, t_6, t_8, qam]) <;> omega
            try have h74 : y71.toInt = (12 + p1.toInt) := by rw [e72]; exact h73
            refine ⟨qa6 (by first | with_reducible assumption | omega | (simp only [qaz, qbz, tZ]; first | done | omega)) (by first | with_reducible assumption | omega | (simp only [qaz, qbz, tZ]; first | done | omega)), ?_⟩
            intro y75 e76
            try have h77 := qul (s := y68) (x := y71) (v := 0) (by with_reducible assumption) (by first | with_reducible assumption | omega | (simp only [qaz, qbz, tZ]; first | done | omega)) (by first | with_reducible assumption | omega | (simp only [qaz, qbz, tZ]; first | done | omega)) (by first | with_reducible assumption | omega | (simp only [qaz, qbz, tZ]; first | done | omega))
            try rw [← e76] at h77
            intro y78 e79
            try have h80 : (12 + p2).toInt = (12 + p2.toInt) := by rw [qap] <;> (try simp only [t_0, t_1, qaz, t_2, qbz, t_3, t_4, t_6, t_8, qam]) <;> omega
            try have h81 : y78.toInt = (12 + p2.toInt) := by rw [e79]; exact h80
            refine ⟨qa6 (by first | with_reducible assumption | omega | (simp only [qaz, qbz, tZ]; first | done | omega)) (by first | with_reducible assumption | omega | (simp only [qaz, qbz, tZ]; first | done | omega)), ?_⟩
            intro y82 e83
            try have h84 := qul (s := y75) (x := y78) (v := 0) (by with_reducible assumption) (by first | with_reducible assumption | omega | (simp only [qaz, qbz, tZ]; first | done | omega)) (by first | with_reducible assumption | omega | (simp only [qaz, qbz, tZ]; first | done | omega)) (by first | with_reducible assumption | omega | (simp only [qaz, qbz, tZ]; first | done | omega))
            try rw [← e83] at h84
            intro y85 e86
            try have h87 : (24 + p1).toInt = (24 + p1.toInt) := by rw [qap] <;> (try simp only [t_0, t_1, qaz, t_2, qbz, t_3, t_4, t_6, t_8, qam]) <;> omega
            try have h88 : y85.toInt = (24 + p1.toInt) := by rw [e86]; exact h87
            refine ⟨qa6 (by first | with_reducible assumption | omega | (simp only [qaz, qbz, tZ]; first | done | omega)) (by first | with_reducible assumption | omega | (simp only [qaz, qbz, tZ]; first | done | omega)), ?_⟩
            intro y89 e90
            try have h91 := qul (s := y82) (x := y85) (v := 1) (by with_reducible assumption) (by first | with_reducible assumption | omega | (simp only [qaz, qbz, tZ]; first | done | omega)) (by first | with_reducible assumption | omega | (simp only [qaz, qbz, tZ]; first | done | omega)) (by first | with_reducible assumption | omega | (simp only [qaz, qbz, tZ]; first | done | omega))
            try rw [← e90] at h91
            intro y92 e93
            try have h94 : (24 + p2).toInt = (24 + p2.toInt) := by rw [qap] <;> (try simp only [t_0, t_1, qaz, t_2, qbz, t_3, t_4, t_6, t_8, qam]) <;> omega
            try have h95 : y92.toInt = (24 + p2.toInt) := by rw [e93]; exact h94
            refine ⟨qa6 (by first | with_reducible assumption | omega | (simp only [qaz, qbz, tZ]; first | done | omega)) (by first | with_reducible assumption | omega | (simp only [qaz, qbz, tZ]; first | done | omega)), ?_⟩
            intro y96 e97
            try have h98 := qul (s := y89) (x := y92) (v := 1) (by with_reducible assumption) (by first | with_reducible assumption | omega | (simp only [qaz, qbz, tZ]; first | done | omega)) (by first | with_reducible assumption | omega | (simp only [qaz, qbz, tZ]; first | done | omega)) (by first | with_reducible assumption | omega | (simp only [qaz, qbz, tZ]; first | done | omega))
            try rw [← e97] at h98
            exact hq _ _ (by first | with_reducible assumption | omega | (simp only [qaz, qbz, tZ]; first | done | omega)) (by first | with_reducible assumption | omega | (simp only [qaz, qbz, tZ]; first | done | omega))
          · intro c99
            try simp only [qao, qak, qan, t_0, t_1, qaz, t_2, qbz, t_3, t_4, t_6, t_8, qam] at c99
            intro y100 e101
            try have h102 : (y49 - 1).toInt = (y49.toInt - 1) := by rw [qpT] <;> (try simp only [t_0, t_1, qaz, t_2, qbz, t_3, t_4, t_6, t_8, qam]) <;> omega
            try have h103 : y100.toInt = (y49.toInt - 1) := by rw [e101]; exact h102
            refine ⟨qa6 (by first | with_reducible assumption | omega | (simp only [qaz, qbz, tZ]; first | done | omega)) (by first | with_reducible assumption | omega | (simp only [qaz, qbz, tZ]; first | done | omega)), ?_⟩
            intro y104 e105
            try have h106 := qul (s := f0_s) (x := y45) (v := y100) (by with_reducible assumption) (by first | with_reducible assumption | omega | (simp only [qaz, qbz, tZ]; first | done | omega)) (by first | with_reducible assumption | omega | (simp only [qaz, qbz, tZ]; first | done | omega)) (by first | with_reducible assumption | omega | (simp only [qaz, qbz, tZ]; first | done | omega))
            try rw [← e105] at h106
            intro y107 e108
            try have h109 : (12 + p1).toInt = (12 + p1.toInt) := by rw [qap] <;> (try simp only [t_0, t_1, qaz, t_2, qbz, t_3, t_4, t_6, t_8, qam]) <;> omega
            try have h110 : y107.toInt = (12 + p1.toInt) := by rw [e108]; exact h109
            refine ⟨qa6 (by first | with_reducible assumption | omega | (simp only [qaz, qbz, tZ]; first | done | omega)) (by first | with_reducible assumption | omega | (simp only [qaz, qbz, tZ]; first | done | omega)), ?_⟩
            intro y111 e112
            try have h113 := qul (s := y104) (x := y107) (v := 0) (by with_reducible assumption) (by first | with_reducible assumption | omega | (simp only [qaz, qbz, tZ]; first | done | omega)) (by first | with_reducible assumption | omega | (simp only [qaz, qbz, tZ]; first | done | omega)) (by first | with_reducible assumption | omega | (simp only [qaz, qbz, tZ]; first | done | omega))
            try rw [← e112] at h113
            intro y114 e115
            try have h116 : (12 + p2).toInt = (12 + p2.toInt) := by rw [qap] <;> (try simp only [t_0, t_1, qaz, t_2, qbz, t_3, t_4, t_6, t_8, qam]) <;> omega
            try have h117 : y114.toInt = (12 + p2.toInt) := by rw [e115]; exact h116
            refine ⟨qa6 (by first | with_reducible assumption | omega | (simp only [qaz, qbz, tZ]; first | done | omega)) (by first | with_reducible assumption | omega | (simp only [qaz, qbz, tZ]; first | done | omega)), ?_⟩
            intro y118 e119
            try have h120 := qul (s := y111) (x := y114) (v := 0) (by with_reducible assumption) (by first | with_reducible assumption | omega | (simp only [qaz, qbz, tZ]; first | done | omega)) (by first | with_reducible assumption | omega | (simp only [qaz, qbz, tZ]; first | done | omega)) (by first | with_reducible assumption | omega | (simp only [qaz, qbz, tZ]; first | done | omega))
            try rw [← e119] at h120
            intro y121 e122
            try have h123 : (24 + p1).toInt = (24 + p1.toInt) := by rw [qap] <;> (try simp only [t_0, t_1, qaz, t_2, qbz, t_3, t_4, t_6, t_8, qam]) <;> omega
            try have h124 : y121.toInt = (24 + p1.toInt) := by rw [e122]; exact h123
            refine ⟨qa6 (by first | with_reducible assumption | omega | (simp only [qaz, qbz, tZ]; first | done | omega)) (by first | with_reducible assumption | omega | (simp only [qaz, qbz, tZ]; first | done | omega)), ?_⟩
            intro y125 e126
            try have h127 := qul (s := y118) (x := y121) (v := 1) (by with_reducible assumption) (by first | with_reducible assumption | omega | (simp only [qaz, qbz, tZ]; first | done | omega)) (by first | with_reducible assumption | omega | (simp only [qaz, qbz, tZ]; first | done | omega)) (by first | with_reducible assumption | omega | (simp only [qaz, qbz, tZ]; first | done | omega))
            try rw [← e126] at h127
            intro y128 e129
            try have h130 : (24 + p2).toInt = (24 + p2.toInt) := by rw [qap] <;> (try simp only [t_0, t_1, qaz, t_2, qbz, t_3, t_4, t_6, t_8, qam]) <;> omega
            try have h131 : y128.toInt = (24 + p2.toInt) := by rw [e129]; exact h130
            refine ⟨qa6 (by first | with_reducible assumption | omega | (simp only [qaz, qbz, tZ]; first | done | omega)) (by first | with_reducible assumption | omega | (simp only [qaz, qbz, tZ]; first | done | omega)), ?_⟩
            intro y132 e133
            try have h134 := qul (s := y125) (x := y128) (v := 1) (by with_reducible assumption) (by first | with_reducible assumption | omega | (simp only [qaz, qbz, tZ]; first | done | omega)) (by first | with_reducible assumption | omega | (simp only [qaz, qbz, tZ]; first | done | omega)) (by first | with_reducible assumption | omega | (simp only [qaz, qbz, tZ]; first | done | omega))
            try rw [← e133] at h134
            exact hq _ _ (by first | with_reducible assumption | omega | (simp only [qaz, qbz, tZ]; first | done | omega)) (by first | with_reducible assumption | omega | (simp only [qaz, qbz, tZ]; first | done | omega))
        · intro c135
          try simp only [qao, qak, qan, t_0, t_1, qaz, t_2, qbz, t_3, t_4, t_6, t_8, qam] at c135
          intro y136 e137
          try have h138 : (6 + p1).toInt = (6 + p1.toInt) := by rw [qap] <;> (try simp only [t_0, t_1, qaz, t_2, qbz, t_3, t_4, t_6, t_8, qam]) <;> omega
          try have h139 : y136.toInt = (6 + p1.toInt) := by rw [e137]; exact h138
          refine ⟨qa6 (by first | with_reducible assumption | omega | (simp only [qaz, qbz, tZ]; first | done | omega)) (by first | with_reducible assumption | omega | (simp only [qaz, qbz, tZ]; first | done | omega)), ?_⟩
          intro y140 e141
          have h142 : y140.toInt = (f0_s y136.toNatClampNeg).toInt := by rw [e141]
          try have h143 := qn0 (s := f0_s) (x := y136) (by with_reducible assumption) (by first | with_reducible assumption | omega | (simp only [qaz, qbz, tZ]; first | done | omega)) (by first | with_reducible assumption | omega | (simp only [qaz, qbz, tZ]; first | done | omega))
          try have h144 := qgw (s := f0_s) (x := y136) (by with_reducible assumption) (by first | with_reducible assumption | omega | (simp only [qaz, qbz, tZ]; first | done | omega)) (by first | with_reducible assumption | omega | (simp only [qaz, qbz, tZ]; first | done | omega))
          intro y145 e146
          try have h147 : (6 + p1).toInt = (6 + p1.toInt) := by rw [qap] <;> (try simp only [t_0, t_1, qaz, t_2, qbz, t_3, t_4, t_6, t_8, qam]) <;> omega
          try have h148 : y145.toInt = (6 + p1.toInt) := by rw [e146]; exact h147
          refine ⟨qa6 (by first | with_reducible assumption | omega | (simp only [qaz, qbz, tZ]; first | done | omega)) (by first | with_reducible assumption | omega | (simp only [qaz, qbz, tZ]; first | done | omega)), ?_⟩
          intro y149 e150
          have h151 : y149.toInt = (f0_s y145.toNatClampNeg).toInt := by rw [e150]
          try have h152 := qn0 (s := f0_s) (x := y145) (by with_reducible assumption) (by first | with_reducible assumption | omega | (simp only [qaz, qbz, tZ]; first | done | omega)) (by first | with_reducible assumption | omega | (simp only [qaz, qbz, tZ]; first | done | omega))
          try have h153 := qgw (s := f0_s) (x := y145) (by with_reducible assumption) (by first | with_reducible assumption | omega | (simp only [qaz, qbz, tZ]; first | done | omega)) (by first | with_reducible assumption | omega | (simp only [qaz, qbz, tZ]; first | done | omega))
          refine ⟨?_, ?_⟩
          · intro c154
            try simp only [qao, qak, qan, t_0, t_1, qaz, t_2, qbz, t_3, t_4, t_6, t_8, qam] at c154
            intro y155 e156
            try have h157 : (y140 - 0).toInt = (y140.toInt - 0) := by rw [qpT] <;> (try simp only [t_0, t_1, qaz, t_2, qbz, t_3, t_4, t_6, t_8, qam]) <;> omega
            try have h158 : y155.toInt = (y140.toInt - 0) := by rw [e156]; exact h157
            refine ⟨qa6 (by first | with_reducible assumption | omega | (simp only [qaz, qbz, tZ]; first | done | omega)) (by first | with_reducible assumption | omega | (simp only [qaz, qbz, tZ]; first | done | omega)), ?_⟩
            intro y159 e160
            try have h161 := qul (s := f0_s) (x := y136) (v := y155) (by with_reducible assumption) (by first | with_reducible assumption | omega | (simp only [qaz, qbz, tZ]; first | done | omega)) (by first | with_reducible assumption | omega | (simp only [qaz, qbz, tZ]; first | done | omega)) (by first | with_reducible assumption | omega | (simp only [qaz, qbz, tZ]; first | done | omega))
            try rw [← e160] at h161
            intro y162 e163
            try have h164 : (12 + p1).toInt = (12 + p1.toInt) := by rw [qap] <;> (try simp only [t_0, t_1, qaz, t_2, qbz, t_3, t_4, t_6, t_8, qam]) <;> omega
            try have h165 : y162.toInt = (12 + p1.toInt) := by rw [e163]; exact h164
            refine ⟨qa6 (by first | with_reducible assumption | omega | (simp only [qaz, qbz, tZ]; first | done | omega)) (by first | with_reducible assumption | omega | (simp only [qaz, qbz, tZ]; first | done | omega)), ?_⟩
            intro y166 e167
            try have h168 := qul (s := y159) (x := y162) (v := 0) (by with_reducible assumption) (by first | with_reducible assumption | omega | (simp only [qaz, qbz, tZ]; first | done | omega)) (by first | with_reducible assumption | omega | (simp only [qaz, qbz, tZ]; first | done | omega)) (by first | with_reducible assumption | omega | (simp only [qaz, qbz, tZ]; first | done | omega))
            try rw [← e167] at h168
            intro y169 e170
            try have h171 : (12 + p2).toInt = (12 + p2.toInt) := by rw [qap] <;> (try simp only [t_0, t_1, qaz, t_2, qbz, t_3, t_4, t_6, t_8, qam]) <;> omega
            try have h172 : y169.toInt = (12 + p2.toInt) := by rw [e170]; exact h171
            refine ⟨qa6 (by first | with_reducible assumption | omega | (simp only [qaz, qbz, tZ]; first | done | omega)) (by first | with_reducible assumption | omega | (simp only [qaz, qbz, tZ]; first | done | omega)), ?_⟩
            intro y173 e174
            try have h175 := qul (s := y166) (x := y169) (v := 0) (by with_reducible assumption) (by first | with_reducible assumption | omega | (simp only [qaz, qbz, tZ]; first | done | omega)) (by first | with_reducible assumption | omega | (simp only [qaz, qbz, tZ]; first | done | omega)) (by first | with_reducible assumption | omega | (simp only [qaz, qbz, tZ]; first | done | omega))
            try rw [← e174] at h175
            intro y176 e177
            try have h178 : (24 + p1).toInt = (24 + p1.toInt) := by rw [qap] <;> (try simp only [t_0, t_1, qaz, t_2, qbz, t_3, t_4, t_6, t_8, qam]) <;> omega
            try have h179 : y176.toInt = (24 + p1.toInt) := by rw [e177]; exact h178
            refine ⟨qa6 (by first | with_reducible assumption | omega | (simp only [qaz, qbz, tZ]; first | done | omega)) (by first | with_reducible assumption | omega | (simp only [qaz, qbz, tZ]; first | done | omega)), ?_⟩
            intro y180 e181
            try have h182 := qul (s := y173) (x := y176) (v := 1) (by with_reducible assumption) (by first | with_reducible assumption | omega | (simp only [qaz, qbz, tZ]; first | done | omega)) (by first | with_reducible assumption | omega | (simp only [qaz, qbz, tZ]; first | done | omega)) (by first | with_reducible assumption | omega | (simp only [qaz, qbz, tZ]; first | done | omega))
            try rw [← e181] at h182
            intro y183 e184
            try have h185 : (24 + p2).toInt = (24 + p2.toInt) := by rw [qap] <;> (try simp only [t_0, t_1, qaz, t_2, qbz, t_3, t_4, t_6, t_8, qam]) <;> omega
            try have h186 : y183.toInt = (24 + p2.toInt) := by rw [e184]; exact h185
            refine ⟨qa6 (by first | with_reducible assumption | omega | (simp only [qaz, qbz, tZ]; first | done | omega)) (by first | with_reducible assumption | omega | (simp only [qaz, qbz, tZ]; first | done | omega)), ?_⟩
            intro y187 e188
            try have h189 := qul (s := y180) (x := y183) (v := 1) (by with_reducible assumption) (by first | with_reducible assumption | omega | (simp only [qaz, qbz, tZ]; first | done | omega)) (by first | with_reducible assumption | omega | (simp only [qaz, qbz, tZ]; first | done | omega)) (by first | with_reducible assumption | omega | (simp only [qaz, qbz, tZ]; first | done | omega))
            try rw [← e188] at h189
            exact hq _ _ (by first | with_reducible assumption | omega | (simp only [qaz, qbz, tZ]; first | done | omega)) (by first | with_reducible assumption | omega | (simp only [qaz, qbz, tZ]; first | done | omega))
          · intro c190
            try simp only [qao, qak, qan, t_0, t_1, qaz, t_2, qbz, t_3, t_4, t_6, t_8, qam] at c190
            intro y191 e192
            try have h193 : (y140 - 1).toInt = (y140.toInt - 1) := by rw [qpT] <;> (try simp only [t_0, t_1, qaz, t_2, qbz, t_3, t_4, t_6, t_8, qam]) <;> omega
            try have h194 : y191.toInt = (y140.toInt - 1) := by rw [e192]; exact h193
            refine ⟨qa6 (by first | with_reducible assumption | omega | (simp only [qaz, qbz, tZ]; first | done | omega)) (by first | with_reducible assumption | omega | (simp only [qaz, qbz, tZ]; first | done | omega)), ?_⟩
            intro y195 e196
            try have h197 := qul (s := f0_s) (x := y136) (v := y191) (by with_reducible assumption) (by first | with_reducible assumption | omega | (simp only [qaz, qbz, tZ]; first | done | omega)) (by first | with_reducible assumption | omega | (simp only [qaz, qbz, tZ]; first | done | omega)) (by first | with_reducible assumption | omega | (simp only [qaz, qbz, tZ]; first | done | omega))
            try rw [← e196] at h197
            intro y198 e199
            try have h200 : (12 + p1).toInt = (12 + p1.toInt) := by rw [qap] <;> (try simp only [t_0, t_1, qaz, t_2, qbz, t_3, t_4, t_6, t_8, qam]) <;> omega
            try have h201 : y198.toInt = (12 + p1.toInt) := by rw [e199]; exact h200
            refine ⟨qa6 (by first | with_reducible assumption | omega | (simp only [qaz, qbz, tZ]; first | done | omega)) (by first | with_reducible assumption | omega | (simp only [qaz, qbz, tZ]; first | done | omega)), ?_⟩
            intro y202 e203
            try have h204 := qul (s := y195) (x := y198) (v := 0) (by with_reducible assumption) (by first | with_reducible assumption | omega | (simp only [qaz, qbz, tZ]; first | done | omega)) (by first | with_reducible assumption | omega | (simp only [qaz, qbz, tZ]; first | done | omega)) (by first | with_reducible assumption | omega | (simp only [qaz, qbz, tZ]; first | done | omega))
            try rw [← e203] at h204
            intro y205 e206
            try have h207 : (12 + p2).toInt = (12 + p2.toInt) := by rw [qap] <;> (try simp only [t_0, t_1, qaz, t_2, qbz, t_3, t_4, t_6, t_8, qam]) <;> omega
            try have h208 : y205.toInt = (12 + p2.toInt) := by rw [e206]; exact h207
            refine ⟨qa6 (by first | with_reducible assumption | omega | (simp only [qaz, qbz, tZ]; first | done | omega)) (by first | with_reducible assumption | omega | (simp only [qaz, qbz, tZ]; first | done | omega)), ?_⟩
            intro y209 e210
            try have h211 := qul (s := y202) (x := y205) (v := 0) (by with_reducible assumption) (by first | with_reducible assumption | omega | (simp only [qaz, qbz, tZ]; first | done | omega)) (by first | with_reducible assumption | omega | (simp only [qaz, qbz, tZ]; first | done | omega)) (by first | with_reducible assumption | omega | (simp only [qaz, qbz, tZ]; first | done | omega))
            try rw [← e210] at h211
            intro y212 e213
            try have h214 : (24 + p1).toInt = (24 + p1.toInt) := by rw [qap] <;> (try simp only [t_0, t_1, qaz, t_2, qbz, t_3, t_4, t_6, t_8, qam]) <;> omega
            try have h215 : y212.toInt = (24 + p1.toInt) := by rw [e213]; exact h214
            refine ⟨qa6 (by first | with_reducible assumption | omega | (simp only [qaz, qbz, tZ]; first | done | omega)) (by first | with_reducible assumption | omega | (simp only [qaz, qbz, tZ]; first | done | omega)), ?_⟩
            intro y216 e217
            try have h218 := qul (s := y209) (x := y212) (v := 1) (by with_reducible assumption) (by first | with_reducible assumption | omega | (simp only [qaz, qbz, tZ]; first | done | omega)) (by first | with_reducible assumption | omega | (simp only [qaz, qbz, tZ]; first | done | omega)) (by first | with_reducible assumption | omega | (simp only [qaz, qbz, tZ]; first | done | omega))
            try rw [← e217] at h218
            intro y219 e220
            try have h221 : (24 + p2).toInt = (24 + p2.toInt) := by rw [qap] <;> (try simp only [t_0, t_1, qaz, t_2, qbz, t_3, t_4, t_6, t_8, qam]) <;> omega
            try have h222 : y219.toInt = (24 + p2.toInt) := by rw [e220]; exact h221
            refine ⟨qa6 (by first | with_reducible assumption | omega | (simp only [qaz, qbz, tZ]; first | done | omega)) (by first | with_reducible assumption | omega | (simp only [qaz, qbz, tZ]; first | done | omega)), ?_⟩
            intro y223 e224
            try have h225 := qul (s := y216) (x := y219) (v := 1) (by with_reducible assumption) (by first | with_reducible assumption | omega | (simp only [qaz, qbz, tZ]; first | done | omega)) (by first | with_reducible assumption | omega | (simp only [qaz, qbz, tZ]; first | done | omega)) (by first | with_reducible assumption | omega | (simp only [qaz, qbz, tZ]; first | done | omega))
            try rw [← e224] at h225
            exact hq _ _ (by first | with_reducible assumption | omega | (simp only [qaz, qbz, tZ]; first | done | omega)) (by first | with_reducible assumption | omega | (simp only [qaz, qbz, tZ]; first | done | omega))
      · intro c226
        try simp only [qao, qak, qan, t_0, t_1, qaz, t_2, qbz, t_3, t_4, t_6, t_8, qam] at c226
        exact hq _ _ (by first | with_reducible assumption | omega | (simp only [qaz, qbz, tZ]; first | done | omega)) (by first | with_reducible assumption | omega | (simp only [qaz, qbz, tZ]; first | done | omega))
theorem qaFY {jaC : Int32} {jbD : Int32} {jbv : Nat → Int32} {jcu : Nat → Int32} {jbT : Nat → Int32} {jb1 : Nat → Int32} {jcb : Nat → Int32} {f0_s : Nat → Int32} {p1 : Int32} {p2 : Int32} {Q : Int32 → NI → NI → NI → Prop} {n : Int32} (a0 : rS jaC n f0_s) (a1 : rC jbD jcu jbT) (a2 : 0 ≤ p1.toInt) (a3 : p1.toInt < jaC.toInt) (a4 : jaC.toInt ≤ 6) (a5 : 0 ≤ p2.toInt) (a6 : p2.toInt < n.toInt) (a7 : p2.toInt < 8) (hq : ∀ (r : Int32) (facts : NI) (stack : NI) (s : NI), (r.toInt = 0 ∨ r.toInt = 1) → (rS jaC n s) → Q r facts stack s) : qEr jaC jbD jbv jcu jbT jb1 jcb f0_s p1 p2 Q := by
  refine qTR (by first | with_reducible assumption | omega | (simp only [qaz, qlg, qbz, tZ]; first | done | omega)) (by first | with_reducible assumption | omega | (simp only [qaz, qlg, qbz, tZ]; first | done | omega)) (by first | with_reducible assumption | omega | (simp only [qaz, qlg, qbz, tZ]; first | done | omega)) (by first | with_reducible assumption | omega | (simp only [qaz, qlg, qbz, tZ]; first | done | omega)) (by first | with_reducible assumption | omega | (simp only [qaz, qlg, qbz, tZ]; first | done | omega)) (by first | with_reducible assumption | omega | (simp only [qaz, qlg, qbz, tZ]; first | done | omega)) (by first | with_reducible assumption | omega | (simp only [qaz, qlg, qbz, tZ]; first | done | omega)) (fun y1 y2 y3 po4 => ?_)
  try simp only [t_0, t_1, qaz, qlg, t_2, qbz, t_3, t_4, t_6, t_8, qam] at po4
  refine ⟨?_, ?_⟩
  · intro c5
    try simp only [qao, qak, qan, t_0, t_1, qaz, qlg, t_2, qbz, t_3, t_4, t_6, t_8, qam] at c5
    intro y6 e7
    have h8 : y6 = p1 := by rw [e7]; exact Int32.zero_add _
    have h9 : y6.toInt = p1.toInt := by rw [h8]
    refine ⟨qa6 (by first | with_reducible assumption | omega | (simp only [qaz, qlg, qbz, tZ]; first | done | omega)) (by first | with_reducible assumption | omega | (simp only [qaz, qlg, qbz, tZ]; first | done | omega)), ?_⟩
    intro y10 e11
    try have h12 := qul (s := f0_s) (x := p1) (v := p2) (by with_reducible assumption) (by first | with_reducible assumption | omega | (simp only [qaz, qlg, qbz, tZ]; first | done | omega)) (by first | with_reducible assumption | omega | (simp only [qaz, qlg, qbz, tZ]; first | done | omega)) (by first | with_reducible assumption | omega | (simp only [qaz, qlg, qbz, tZ]; first | done | omega))
    try rw [← h8, ← e11] at h12
    intro y13 e14
    try have h15 : (12 + p1).toInt = (12 + p1.toInt) := by rw [qap] <;> (try simp only [t_0, t_1, qaz, qlg, t_2, qbz, t_3, t_4, t_6, t_8, qam]) <;> omega
    try have h16 : y13.toInt = (12 + p1.toInt) := by rw [e14]; exact h15
    refine ⟨qa6 (by first | with_reducible assumption | omega | (simp only [qaz, qlg, qbz, tZ]; first | done | omega)) (by first | with_reducible assumption | omega | (simp only [qaz, qlg, qbz, tZ]; first | done | omega)), ?_⟩
    intro y17 e18
    try have h19 := qul (s := y10) (x := y13) (v := 0) (by with_reducible assumption) (by first | with_reducible assumption | omega | (simp only [qaz, qlg, qbz, tZ]; first | done | omega)) (by first | with_reducible assumption | omega | (simp only [qaz, qlg, qbz, tZ]; first | done | omega)) (by first | with_reducible assumption | omega | (simp only [qaz, qlg, qbz, tZ]; first | done | omega))
    try rw [← e18] at h19
    intro y20 e21
    try have h22 : (18 + p1).toInt = (18 + p1.toInt) := by rw [qap] <;> (try simp only [t_0, t_1, qaz, qlg, t_2, qbz, t_3, t_4, t_6, t_8, qam]) <;> omega
    try have h23 : y20.toInt = (18 + p1.toInt) := by rw [e21]; exact h22
    refine ⟨qa6 (by first | with_reducible assumption | omega | (simp only [qaz, qlg, qbz, tZ]; first | done | omega)) (by first | with_reducible assumption | omega | (simp only [qaz, qlg, qbz, tZ]; first | done | omega)), ?_⟩
    intro y24 e25
    have h26 : y24.toInt = (y17 y20.toNatClampNeg).toInt := by rw [e25]
    try have h27 := qn0 (s := y17) (x := y20) (by with_reducible assumption) (by first | with_reducible assumption | omega | (simp only [qaz, qlg, qbz, tZ]; first | done | omega)) (by first | with_reducible assumption | omega | (simp only [qaz, qlg, qbz, tZ]; first | done | omega))
    try have h28 := qgw (s := y17) (x := y20) (by with_reducible assumption) (by first | with_reducible assumption | omega | (simp only [qaz, qlg, qbz, tZ]; first | done | omega)) (by first | with_reducible assumption | omega | (simp only [qaz, qlg, qbz, tZ]; first | done | omega))
    intro y29 e30
    try have h31 : (y24 + 1).toInt = (y24.toInt + 1) := by rw [qap] <;> (try simp only [t_0, t_1, qaz, qlg, t_2, qbz, t_3, t_4, t_6, t_8, qam]) <;> omega
    try have h32 : y29.toInt = (y24.toInt + 1) := by rw [e30]; exact h31
    refine ⟨qa6 (by first | with_reducible assumption | omega | (simp only [qaz, qlg, qbz, tZ]; first | done | omega)) (by first | with_reducible assumption | omega | (simp only [qaz, qlg, qbz, tZ]; first | done | omega)), ?_⟩
    intro y33 e34
    try have h35 := qul (s := y17) (x := y20) (v := y29) (by with_reducible assumption) (by first | with_reducible assumption | omega | (simp only [qaz, qlg, qbz, tZ]; first | done | omega)) (by first | with_reducible assumption | omega | (simp only [qaz, qlg, qbz, tZ]; first | done | omega)) (by first | with_reducible assumption | omega | (simp only [qaz, qlg, qbz, tZ]; first | done | omega))
    try rw [← e34] at h35
    intro y36 e37
    try have h38 : (24 + p1).toInt = (24 + p1.toInt) := by rw [qap] <;> (try simp only [t_0, t_1, qaz, qlg, t_2, qbz, t_3, t_4, t_6, t_8, qam]) <;> omega
    try have h39 : y36.toInt = (24 + p1.toInt) := by rw [e37]; exact h38
    refine ⟨qa6 (by first | with_reducible assumption | omega | (simp only [qaz, qlg, qbz, tZ]; first | done | omega)) (by first | with_reducible assumption | omega | (simp only [qaz, qlg, qbz, tZ]; first | done | omega)), ?_⟩
    intro y40 e41
    try have h42 := qul (s := y33) (x := y36) (v := 1) (by with_reducible assumption) (by first | with_reducible assumption | omega | (simp only [qaz, qlg, qbz, tZ]; first | done | omega)) (by first | with_reducible assumption | omega | (simp only [qaz, qlg, qbz, tZ]; first | done | omega)) (by first | with_reducible assumption | omega | (simp only [qaz, qlg, qbz, tZ]; first | done | omega))
    try rw [← e41] at h42
    exact hq _ _ _ _ (by first | with_reducible assumption | omega | (simp only [qaz, qlg, qbz, tZ]; first | done | omega)) (by first | with_reducible assumption | omega | (simp only [qaz, qlg, qbz, tZ]; first | done | omega))
  · intro c43
    try simp only [qao, qak, qan, t_0, t_1, qaz, qlg, t_2, qbz, t_3, t_4, t_6, t_8, qam] at c43
    exact hq _ _ _ _ (by first | with_reducible assumption | omega | (simp only [qaz, qlg, qbz, tZ]; first | done | omega)) (by first | with_reducible assumption | omega | (simp only [qaz, qlg, qbz, tZ]; first | done | omega))
theorem qatl {Q : Int32 → Int32 → Int32 → NI → Prop} (hq : ∀ (newForms newHares newFoxes : Int32) (newDebt : NI), (newForms.toInt = 0) → (newHares.toInt = 0) → (newFoxes.toInt = 0) → (∀ j : Nat, j < 36 → (newDebt j).toInt = 0) → Q newForms newHares newFoxes newDebt) : ∀ (k : Nat) (jg7 jgg jg8 : Int32) (jil : NI) (l1 : Int32), (jg7.toInt = 0) → (jgg.toInt = 0) → (jg8.toInt = 0) → (∀ j : Nat, (j : Int) < l1.toInt → (jil j).toInt = 0) → (0 ≤ l1.toInt) → (l1.toInt ≤ 36) → 36 - l1.toInt < (k : Int) → qEW Q k jg7 jgg jg8 jil l1 := by
  intro k
  induction k with
  | zero => intro jg7 jgg jg8 jil l1 i0 i1 i2 i3 i4 i5 i6; omega
  | succ k ih =>
    intro jg7 jgg jg8 jil l1 i0 i1 i2 i3 i4 i5 i6
    refine ⟨?_, ?_⟩
    · intro c1
      try simp only [qao, qak, qan, t_0, t_1, t_2, t_3, qSF, t_4, t_6, t_8, qam] at c1
      exact hq _ _ _ _ (by first | with_reducible assumption | omega | (simp only [qSF, tZ]; first | done | omega) | exact qyL (by assumption) (by omega) | exact qyG (by assumption) (by assumption) (by omega) | exact quk) (by first | with_reducible assumption | omega | (simp only [qSF, tZ]; first | done | omega) | exact qyL (by assumption) (by omega) | exact qyG (by assumption) (by assumption) (by omega) | exact quk) (by first | with_reducible assumption | omega | (simp only [qSF, tZ]; first | done | omega) | exact qyL (by assumption) (by omega) | exact qyG (by assumption) (by assumption) (by omega) | exact quk) (by first | with_reducible assumption | omega | (simp only [qSF, tZ]; first | done | omega) | exact qyL (by assumption) (by omega) | exact qyG (by assumption) (by assumption) (by omega) | exact quk)
    · intro c2
      try simp only [qao, qak, qan, t_0, t_1, t_2, t_3, qSF, t_4, t_6, t_8, qam] at c2
      refine ⟨qa6 (by first | with_reducible assumption | omega | (simp only [qSF, tZ]; first | done | omega) | exact qyL (by assumption) (by omega) | exact qyG (by assumption) (by assumption) (by omega) | exact quk) (by first | with_reducible assumption | omega | (simp only [qSF, tZ]; first | done | omega) | exact qyL (by assumption) (by omega) | exact qyG (by assumption) (by assumption) (by omega) | exact quk), ?_⟩
      intro y3 e4
      intro y5 e6
      try have h7 : (l1 + 1).toInt = (l1.toInt + 1) := by rw [qap] <;> (try simp only [t_0, t_1, t_2, t_3, qSF, t_4, t_6, t_8, qam]) <;> omega
      try have h8 : y5.toInt = (l1.toInt + 1) := by rw [e6]; exact h7
      exact ih _ _ _ _ _ (by first | with_reducible assumption | omega | (simp only [qSF, tZ]; first | done | omega) | exact qyL (by assumption) (by omega) | exact qyG (by assumption) (by assumption) (by omega) | exact quk) (by first | with_reducible assumption | omega | (simp only [qSF, tZ]; first | done | omega) | exact qyL (by assumption) (by omega) | exact qyG (by assumption) (by assumption) (by omega) | exact quk) (by first | with_reducible assumption | omega | (simp only [qSF, tZ]; first | done | omega) | exact qyL (by assumption) (by omega) | exact qyG (by assumption) (by assumption) (by omega) | exact quk) (by first | with_reducible assumption | omega | (simp only [qSF, tZ]; first | done | omega) | exact qyL (by assumption) (by omega) | exact qyG (by assumption) (by assumption) (by omega) | exact quk) (by first | with_reducible assumption | omega | (simp only [qSF, tZ]; first | done | omega) | exact qyL (by assumption) (by omega) | exact qyG (by assumption) (by assumption) (by omega) | exact quk) (by first | with_reducible assumption | omega | (simp only [qSF, tZ]; first | done | omega) | exact qyL (by assumption) (by omega) | exact qyG (by assumption) (by assumption) (by omega) | exact quk) (by first | with_reducible assumption | omega | (simp only [qSF, tZ]; first | done | omega) | exact qyL (by assumption) (by omega) | exact qyG (by assumption) (by assumption) (by omega) | exact quk)
theorem qaeT {jg7 : Int32} {jgg : Int32} {jg8 : Int32} {jil : Nat → Int32} {Q : Int32 → Int32 → Int32 → NI → Prop} (hq : ∀ (newForms newHares newFoxes : Int32) (newDebt : NI), (newForms.toInt = 0) → (newHares.toInt = 0) → (newFoxes.toInt = 0) → (∀ j : Nat, j < 36 → (newDebt j).toInt = 0) → Q newForms newHares newFoxes newDebt) : qHg jg7 jgg jg8 jil Q := by
  refine ⟨37, qatl hq 37 _ _ _ _ _ (by first | with_reducible assumption | omega | (simp only [qSF, tZ]; first | done | omega) | exact qyL (by assumption) (by omega) | exact qyG (by assumption) (by assumption) (by omega) | exact quk) (by first | with_reducible assumption | omega | (simp only [qSF, tZ]; first | done | omega) | exact qyL (by assumption) (by omega) | exact qyG (by assumption) (by assumption) (by omega) | exact quk) (by first | with_reducible assumption | omega | (simp only [qSF, tZ]; first | done | omega) | exact qyL (by assumption) (by omega) | exact qyG (by assumption) (by assumption) (by omega) | exact quk) (by first | with_reducible assumption | omega | (simp only [qSF, tZ]; first | done | omega) | exact qyL (by assumption) (by omega) | exact qyG (by assumption) (by assumption) (by omega) | exact quk) (by first | with_reducible assumption | omega | (simp only [qSF, tZ]; first | done | omega) | exact qyL (by assumption) (by omega) | exact qyG (by assumption) (by assumption) (by omega) | exact quk) (by first | with_reducible assumption | omega | (simp only [qSF, tZ]; first | done | omega) | exact qyL (by assumption) (by omega) | exact qyG (by assumption) (by assumption) (by omega) | exact quk) (by first | with_reducible assumption | omega | (simp only [qSF, tZ]; first | done | omega) | exact qyL (by assumption) (by omega) | exact qyG (by assumption) (by assumption) (by omega) | exact quk)⟩
theorem qaS1 {jgt : Int32} {jhQ : Int32} {ji3 : Int32} {jbd : Int32} {p1 : Int32} {Q : Int32 → Int32 → Prop} (hq : ∀ (r thrown : Int32), Q r thrown) : q0E jgt jhQ ji3 jbd p1 Q := by
  refine ⟨?_, ?_⟩
  · intro c1
    try simp only [qao, qak, qan, tY] at c1
    refine ⟨?_, ?_⟩
    · intro c2
      try simp only [qao, qak, qan, tY] at c2
      refine ⟨?_, ?_⟩
      · intro c3
        try simp only [qao, qak, qan, tY] at c3
        exact hq _ _
      · intro c4
        try simp only [qao, qak, qan, tY] at c4
        exact hq _ _
    · intro c5
      try simp only [qao, qak, qan, tY] at c5
      exact hq _ _
  · intro c6
    try simp only [qao, qak, qan, tY] at c6
    exact hq _ _
theorem qazG {jaC : Int32} {jb2 : Nat → Int32} {jbd : Int32} {ja9 : Nat → Int32} {p1 : Int32} {p2 : Int32} {Q : Int32 → Int32 → NI → Prop} (a0 : 0 ≤ jaC.toInt) (a1 : jaC.toInt ≤ 6) (hq : ∀ (r thrown : Int32) (refused : NI), Q r thrown refused) : q94 jaC jb2 jbd ja9 p1 p2 Q := by
  refine qu6 (by first | with_reducible assumption | omega | (simp only [qcc, tZ]; first | done | omega)) (by first | with_reducible assumption | omega | (simp only [qcc, tZ]; first | done | omega)) (by first | with_reducible assumption | omega | (simp only [qcc, tZ]; first | done | omega)) (fun y1 y2 y3 po4 => ?_)
  try simp only [t_0, t_1, t_2, t_3, qcc, t_4, t_6, t_8, qam] at po4
  refine ⟨?_, ?_⟩
  · intro c5
    try simp only [qao, qak, qan, t_0, t_1, t_2, t_3, qcc, t_4, t_6, t_8, qam] at c5
    exact hq _ _ _
  · intro c6
    try simp only [qao, qak, qan, t_0, t_1, t_2, t_3, qcc, t_4, t_6, t_8, qam] at c6
    refine qu6 (by first | with_reducible assumption | omega | (simp only [qcc, tZ]; first | done | omega)) (by first | with_reducible assumption | omega | (simp only [qcc, tZ]; first | done | omega)) (by first | with_reducible assumption | omega | (simp only [qcc, tZ]; first | done | omega)) (fun y7 y8 y9 po10 => ?_)
    try simp only [t_0, t_1, t_2, t_3, qcc, t_4, t_6, t_8, qam] at po10
    refine ⟨?_, ?_⟩
    · intro c11
      try simp only [qao, qak, qan, t_0, t_1, t_2, t_3, qcc, t_4, t_6, t_8, qam] at c11
      exact hq _ _ _
    · intro c12
      try simp only [qao, qak, qan, t_0, t_1, t_2, t_3, qcc, t_4, t_6, t_8, qam] at c12
      intro y13 e14
      try have h15 : (6 * p1).toInt = (6 * p1.toInt) := by rw [qu8] <;> (try simp only [t_0, t_1, t_2, t_3, qcc, t_4, t_6, t_8, qam]) <;> omega
      try have h16 : (30 + (6 * p1)).toInt = (30 + (6 * p1).toInt) := by rw [qap] <;> (try simp only [t_0, t_1, t_2, t_3, qcc, t_4, t_6, t_8, qam]) <;> omega
      try have h17 : y13.toInt = (30 + (6 * p1).toInt) := by rw [e14]; exact h16
      intro y18 e19
      try have h20 : (y13 + p2).toInt = (y13.toInt + p2.toInt) := by rw [qap] <;> (try simp only [t_0, t_1, t_2, t_3, qcc, t_4, t_6, t_8, qam]) <;> omega
      try have h21 : y18.toInt = (y13.toInt + p2.toInt) := by rw [e19]; exact h20
      refine ⟨qa6 (by first | with_reducible assumption | omega | (simp only [qcc, tZ]; first | done | omega)) (by first | with_reducible assumption | omega | (simp only [qcc, tZ]; first | done | omega)), ?_⟩
      intro y22 e23
      have h24 : y22.toInt = (jb2 y18.toNatClampNeg).toInt := by rw [e23]
      try have h25 := qn0 (s := jb2) (x := y18) (by with_reducible assumption) (by first | with_reducible assumption | omega | (simp only [qcc, tZ]; first | done | omega)) (by first | with_reducible assumption | omega | (simp only [qcc, tZ]; first | done | omega))
      try have h26 := qgw (s := jb2) (x := y18) (by with_reducible assumption) (by first | with_reducible assumption | omega | (simp only [qcc, tZ]; first | done | omega)) (by first | with_reducible assumption | omega | (simp only [qcc, tZ]; first | done | omega))
      exact hq _ _ _
theorem qaL8 {jaN : Int32} {jbv : Nat → Int32} {jbd : Int32} {ja9 : Nat → Int32} {p1 : Int32} {p2 : Int32} {Q : Int32 → Int32 → NI → Prop} (a0 : 0 ≤ jaN.toInt) (a1 : jaN.toInt ≤ 8) (hq : ∀ (r thrown : Int32) (refused : NI), Q r thrown refused) : qane jaN jbv jbd ja9 p1 p2 Q := by
  refine qCN (by first | with_reducible assumption | omega | (simp only [tZ]; first | done | omega)) (by first | with_reducible assumption | omega | (simp only [tZ]; first | done | omega)) (by first | with_reducible assumption | omega | (simp only [tZ]; first | done | omega)) (fun y1 y2 y3 po4 => ?_)
  try simp only [tY] at po4
  refine ⟨?_, ?_⟩
  · intro c5
    try simp only [qao, qak, qan, tY] at c5
    exact hq _ _ _
  · intro c6
    try simp only [qao, qak, qan, tY] at c6
    refine qCN (by first | with_reducible assumption | omega | (simp only [tZ]; first | done | omega)) (by first | with_reducible assumption | omega | (simp only [tZ]; first | done | omega)) (by first | with_reducible assumption | omega | (simp only [tZ]; first | done | omega)) (fun y7 y8 y9 po10 => ?_)
    try simp only [tY] at po10
    refine ⟨?_, ?_⟩
    · intro c11
      try simp only [qao, qak, qan, tY] at c11
      exact hq _ _ _
    · intro c12
      try simp only [qao, qak, qan, tY] at c12
      refine qBt (by first | with_reducible assumption | omega | (simp only [tZ]; first | done | omega)) (by first | with_reducible assumption | omega | (simp only [tZ]; first | done | omega)) (by first | with_reducible assumption | omega | (simp only [tZ]; first | done | omega)) (by first | with_reducible assumption | omega | (simp only [tZ]; first | done | omega)) (fun y13 => ?_)
      exact hq _ _ _
theorem qaVg {jgo : Int32} {jbd : Int32} {Q : Int32 → Int32 → Prop} (hq : ∀ (r thrown : Int32), Q r thrown) : q4Q jgo jbd Q := by
  exact hq _ _
theorem qapE {jaN : Int32} {jaC : Int32} {jbD : Int32} {f0_s : Nat → Int32} {jbv : Nat → Int32} {jcu : Nat → Int32} {jbT : Nat → Int32} {Q : Int32 → NI → NI → Prop} (a0 : rS jaC jaN f0_s) (a1 : rC jbD jcu jbT) (a2 : jaC.toInt ≤ 6) (a3 : jaN.toInt ≤ 8) (hq : ∀ (r : Int32) (facts : NI) (stack : NI), Q r facts stack) : ∀ (k : Nat) (jb1 : NI) (jcb : NI) (l1 l2 l3 : Int32), (0 ≤ l1.toInt) → (l1.toInt < jaC.toInt) → (0 ≤ l3.toInt) → (l3.toInt ≤ 8) → 8 - l3.toInt < (k : Int) → qsC jaN jaC jbD f0_s jbv jcu jbT Q k jb1 jcb l1 l2 l3 := by
  intro k
  induction k with
  | zero => intro jb1 jcb l1 l2 l3 i0 i1 i2 i3 i4; omega
  | succ k ih =>
    intro jb1 jcb l1 l2 l3 i0 i1 i2 i3 i4
    refine ⟨?_, ?_⟩
    · intro c1
      try simp only [qao, qak, qan, tY] at c1
      exact hq _ _ _
    · intro c2
      try simp only [qao, qak, qan, tY] at c2
      refine qTR (by first | with_reducible assumption | omega | (simp only [tZ]; first | done | omega)) (by first | with_reducible assumption | omega | (simp only [tZ]; first | done | omega)) (by first | with_reducible assumption | omega | (simp only [tZ]; first | done | omega)) (by first | with_reducible assumption | omega | (simp only [tZ]; first | done | omega)) (by first | with_reducible assumption | omega | (simp only [tZ]; first | done | omega)) (by first | with_reducible assumption | omega | (simp only [tZ]; first | done | omega)) (by first | with_reducible assumption | omega | (simp only [tZ]; first | done | omega)) (fun y3 y4 y5 po6 => ?_)
      try simp only [tY] at po6
      refine ⟨?_, ?_⟩
      · intro c7
        try simp only [qao, qak, qan, tY] at c7
        intro y8 e9
        try have h10 := qMY (a := l2) (b := 0) (by first | with_reducible assumption | omega | (simp only [tZ]; first | done | omega)) (by first | with_reducible assumption | omega | (simp only [tZ]; first | done | omega)) (by first | with_reducible assumption | omega | (simp only [tZ]; first | done | omega))
        have h11 : y8.toInt = (l2 ||| 0).toInt := by rw [e9]
        intro y12 e13
        try have h14 : (l3 + 1).toInt = (l3.toInt + 1) := by rw [qap] <;> (try simp only [tY]) <;> omega
        try have h15 : y12.toInt = (l3.toInt + 1) := by rw [e13]; exact h14
        exact ih _ _ _ _ _ (by first | with_reducible assumption | omega | (simp only [tZ]; first | done | omega)) (by first | with_reducible assumption | omega | (simp only [tZ]; first | done | omega)) (by first | with_reducible assumption | omega | (simp only [tZ]; first | done | omega)) (by first | with_reducible assumption | omega | (simp only [tZ]; first | done | omega)) (by first | with_reducible assumption | omega | (simp only [tZ]; first | done | omega))
      · intro c16
        try simp only [qao, qak, qan, tY] at c16
        intro y17 e18
        try have h19 := qN0 (x := l3) (by first | with_reducible assumption | omega | (simp only [tZ]; first | done | omega)) (by first | with_reducible assumption | omega | (simp only [tZ]; first | done | omega))
        try have h20 := qMY (a := l2) (b := (1 <<< (l3 &&& 31))) (by first | with_reducible assumption | omega | (simp only [tZ]; first | done | omega)) (by first | with_reducible assumption | omega | (simp only [tZ]; first | done | omega)) (by first | with_reducible assumption | omega | (simp only [tZ]; first | done | omega))
        have h21 : y17.toInt = (l2 ||| (1 <<< (l3 &&& 31))).toInt := by rw [e18]
        intro y22 e23
        try have h24 : (l3 + 1).toInt = (l3.toInt + 1) := by rw [qap] <;> (try simp only [tY]) <;> omega
        try have h25 : y22.toInt = (l3.toInt + 1) := by rw [e23]; exact h24
        exact ih _ _ _ _ _ (by first | with_reducible assumption | omega | (simp only [tZ]; first | done | omega)) (by first | with_reducible assumption | omega | (simp only [tZ]; first | done | omega)) (by first | with_reducible assumption | omega | (simp only [tZ]; first | done | omega)) (by first | with_reducible assumption | omega | (simp only [tZ]; first | done | omega)) (by first | with_reducible assumption | omega | (simp only [tZ]; first | done | omega))
theorem qaKe {jaN : Int32} {jaC : Int32} {jbD : Int32} {f0_s : Nat → Int32} {jbv : Nat → Int32} {jcu : Nat → Int32} {jbT : Nat → Int32} {jb1 : Nat → Int32} {jcb : Nat → Int32} {p1 : Int32} {Q : Int32 → NI → NI → Prop} (a0 : rS jaC jaN f0_s) (a1 : rC jbD jcu jbT) (a2 : 0 ≤ p1.toInt) (a3 : p1.toInt < jaC.toInt) (a4 : jaC.toInt ≤ 6) (a5 : jaN.toInt ≤ 8) (hq : ∀ (r : Int32) (facts : NI) (stack : NI), Q r facts stack) : qD3 jaN jaC jbD f0_s jbv jcu jbT jb1 jcb p1 Q := by
  refine ⟨9, qapE (by first | with_reducible assumption | omega | (simp only [tZ]; first | done | omega)) (by first | with_reducible assumption | omega | (simp only [tZ]; first | done | omega)) (by first | with_reducible assumption | omega | (simp only [tZ]; first | done | omega)) (by first | with_reducible assumption | omega | (simp only [tZ]; first | done | omega)) hq 9 _ _ _ _ _ (by first | with_reducible assumption | omega | (simp only [tZ]; first | done | omega)) (by first | with_reducible assumption | omega | (simp only [tZ]; first | done | omega)) (by first | with_reducible assumption | omega | (simp only [tZ]; first | done | omega)) (by first | with_reducible assumption | omega | (simp only [tZ]; first | done | omega)) (by first | with_reducible assumption | omega | (simp only [tZ]; first | done | omega))⟩
theorem qahM {jaN : Int32} {jbw : Int32} {jbv : Nat → Int32} {jcy : Nat → Int32} {Q : Int32 → Prop} (a0 : jaN.toInt ≤ 8) (a1 : jbw.toInt ≤ 4) (hq : ∀ (r : Int32), Q r) : ∀ (k : Nat) (l1 l2 : Int32), (0 ≤ l2.toInt) → (l2.toInt ≤ 8) → 8 - l2.toInt < (k : Int) → qse jaN jbw jbv jcy Q k l1 l2 := by
  intro k
  induction k with
  | zero => intro l1 l2 i0 i1 i2; omega
  | succ k ih =>
    intro l1 l2 i0 i1 i2
    refine ⟨?_, ?_⟩
    · intro c1
      try simp only [qao, qak, qan, tY] at c1
      exact hq _
    · intro c2
      try simp only [qao, qak, qan, tY] at c2
      refine qN5 (by first | with_reducible assumption | omega | (simp only [tZ]; first | done | omega)) (by first | with_reducible assumption | omega | (simp only [tZ]; first | done | omega)) (by first | with_reducible assumption | omega | (simp only [tZ]; first | done | omega)) (fun y3 po4 => ?_)
      try simp only [tY] at po4
      refine ⟨?_, ?_⟩
      · intro c5
        try simp only [qao, qak, qan, tY] at c5
        intro y6 e7
        try have h8 := qMY (a := l1) (b := 0) (by first | with_reducible assumption | omega | (simp only [tZ]; first | done | omega)) (by first | with_reducible assumption | omega | (simp only [tZ]; first | done | omega)) (by first | with_reducible assumption | omega | (simp only [tZ]; first | done | omega))
        have h9 : y6.toInt = (l1 ||| 0).toInt := by rw [e7]
        intro y10 e11
        try have h12 : (l2 + 1).toInt = (l2.toInt + 1) := by rw [qap] <;> (try simp only [tY]) <;> omega
        try have h13 : y10.toInt = (l2.toInt + 1) := by rw [e11]; exact h12
        exact ih _ _ (by first | with_reducible assumption | omega | (simp only [tZ]; first | done | omega)) (by first | with_reducible assumption | omega | (simp only [tZ]; first | done | omega)) (by first | with_reducible assumption | omega | (simp only [tZ]; first | done | omega))
      · intro c14
        try simp only [qao, qak, qan, tY] at c14
        intro y15 e16
        try have h17 := qN0 (x := l2) (by first | with_reducible assumption | omega | (simp only [tZ]; first | done | omega)) (by first | with_reducible assumption | omega | (simp only [tZ]; first | done | omega))
        try have h18 := qMY (a := l1) (b := (1 <<< (l2 &&& 31))) (by first | with_reducible assumption | omega | (simp only [tZ]; first | done | omega)) (by first | with_reducible assumption | omega | (simp only [tZ]; first | done | omega)) (by first | with_reducible assumption | omega | (simp only [tZ]; first | done | omega))
        have h19 : y15.toInt = (l1 ||| (1 <<< (l2 &&& 31))).toInt := by rw [e16]
        intro y20 e21
        try have h22 : (l2 + 1).toInt = (l2.toInt + 1) := by rw [qap] <;> (try simp only [tY]) <;> omega
        try have h23 : y20.toInt = (l2.toInt + 1) := by rw [e21]; exact h22
        exact ih _ _ (by first | with_reducible assumption | omega | (simp only [tZ]; first | done | omega)) (by first | with_reducible assumption | omega | (simp only [tZ]; first | done | omega)) (by first | with_reducible assumption | omega | (simp only [tZ]; first | done | omega))
theorem q0d {jaN : Int32} {jbw : Int32} {jbv : Nat → Int32} {jcy : Nat → Int32} {Q : Int32 → Prop} (a0 : jaN.toInt ≤ 8) (a1 : jbw.toInt ≤ 4) (hq : ∀ (r : Int32), Q r) : qEw jaN jbw jbv jcy Q := by
  refine ⟨9, qahM (by first | with_reducible assumption | omega | (simp only [tZ]; first | done | omega)) (by first | with_reducible assumption | omega | (simp only [tZ]; first | done | omega)) hq 9 _ _ (by first | with_reducible assumption | omega | (simp only [tZ]; first | done | omega)) (by first | with_reducible assumption | omega | (simp only [tZ]; first | done | omega)) (by first | with_reducible assumption | omega | (simp only [tZ]; first | done | omega))⟩
theorem q9L {jaN : Int32} {jaC : Int32} {jbw : Int32} {jb2 : Nat → Int32} {jbv : Nat → Int32} {jcy : Nat → Int32} {jbd : Int32} {ja9 : Nat → Int32} {f0_s : Nat → Int32} {p1 : Int32} {p2 : Int32} {Q : Int32 → Int32 → NI → NI → Prop} (a0 : rS jaC jaN jb2) (a1 : jaC.toInt ≤ 6) (a2 : 0 ≤ jaN.toInt) (a3 : jaN.toInt ≤ 8) (a4 : jbw.toInt ≤ 4) (hq : ∀ (r thrown : Int32) (refused : NI) (s : NI), Q r thrown refused s) : qaay jaN jaC jbw jb2 jbv jcy jbd ja9 f0_s p1 p2 Q := by
  refine qCN (by first | with_reducible assumption | omega | (simp only [tZ]; first | done | omega)) (by first | with_reducible assumption | omega | (simp only [tZ]; first | done | omega)) (by first | with_reducible assumption | omega | (simp only [tZ]; first | done | omega)) (fun y1 y2 y3 po4 => ?_)
  try simp only [tY] at po4
  refine ⟨?_, ?_⟩
  · intro c5
    try simp only [qao, qak, qan, tY] at c5
    exact hq _ _ _ _
  · intro c6
    try simp only [qao, qak, qan, tY] at c6
    refine qbO (fun y7 po8 => ?_)
    try simp only [tY] at po8
    refine qcb (by first | with_reducible assumption | omega | (simp only [tZ]; first | done | omega)) (by first | with_reducible assumption | omega | (simp only [tZ]; first | done | omega)) (by first | with_reducible assumption | omega | (simp only [tZ]; first | done | omega)) (fun y9 y10 y11 po12 => ?_)
    try simp only [tY] at po12
    refine ⟨?_, ?_⟩
    · intro c13
      try simp only [qao, qak, qan, tY] at c13
      refine qoL (by first | with_reducible assumption | omega | (simp only [tZ]; first | done | omega)) (fun y14 po15 => ?_)
      refine ⟨?_, ?_⟩
      · intro c16
        try simp only [qao, qak, qan, tY] at c16
        refine ⟨?_, ?_⟩
        · intro c17
          try simp only [qao, qak, qan, tY] at c17
          refine q4J (by first | with_reducible assumption | omega | (simp only [tZ]; first | done | omega)) (fun y18 po19 po20 => ?_)
          try simp only [tY] at po19
          try simp only [tY] at po20
          exact hq _ _ _ _
        · intro c21
          try simp only [qao, qak, qan, tY] at c21
          refine qN5 (by first | with_reducible assumption | omega | (simp only [tZ]; first | done | omega)) (by first | with_reducible assumption | omega | (simp only [tZ]; first | done | omega)) (by first | with_reducible assumption | omega | (simp only [tZ]; first | done | omega)) (fun y22 po23 => ?_)
          try simp only [tY] at po23
          refine ⟨?_, ?_⟩
          · intro c24
            try simp only [qao, qak, qan, tY] at c24
            exact hq _ _ _ _
          · intro c25
            try simp only [qao, qak, qan, tY] at c25
            exact hq _ _ _ _
      · intro c26
        try simp only [qao, qak, qan, tY] at c26
        intro y27 e28
        try have h29 : (2 * p1).toInt = (2 * p1.toInt) := by rw [qu8] <;> (try simp only [tY]) <;> omega
        try have h30 : y27.toInt = (2 * p1.toInt) := by rw [e28]; exact h29
        intro y31 e32
        try have h33 : (y27 + p2).toInt = (y27.toInt + p2.toInt) := by rw [qap] <;> (try simp only [tY]) <;> omega
        try have h34 : y31.toInt = (y27.toInt + p2.toInt) := by rw [e32]; exact h33
        refine ⟨qa6 (by first | with_reducible assumption | omega | (simp only [tZ]; first | done | omega)) (by first | with_reducible assumption | omega | (simp only [tZ]; first | done | omega)), ?_⟩
        intro y35 e36
        have h37 : y35.toInt = (jbv y31.toNatClampNeg).toInt := by rw [e36]
        exact hq _ _ _ _
    · intro c38
      try simp only [qao, qak, qan, tY] at c38
      exact hq _ _ _ _
theorem qaki {jbw : Int32} {jcy : Nat → Int32} {jbd : Int32} {ja9 : Nat → Int32} {p1 : Int32} {p2 : Int32} {Q : Int32 → Int32 → NI → Prop} (a0 : 0 ≤ jbw.toInt) (a1 : jbw.toInt ≤ 4) (hq : ∀ (r thrown : Int32) (refused : NI), Q r thrown refused) : qamc jbw jcy jbd ja9 p1 p2 Q := by
  try have h1 : (jbw - 1).toInt = (jbw.toInt - 1) := by rw [qpT] <;> (try simp only [tY]) <;> omega
  refine qbO (fun y2 po3 => ?_)
  try simp only [tY] at po3
  refine qcb (by first | with_reducible assumption | omega | (simp only [tZ]; first | done | omega)) (by first | with_reducible assumption | omega | (simp only [tZ]; first | done | omega)) (by first | with_reducible assumption | omega | (simp only [tZ]; first | done | omega)) (fun y4 y5 y6 po7 => ?_)
  try simp only [tY] at po7
  refine ⟨?_, ?_⟩
  · intro c8
    try simp only [qao, qak, qan, tY] at c8
    exact hq _ _ _
  · intro c9
    try simp only [qao, qak, qan, tY] at c9
    refine qbO (fun y10 po11 => ?_)
    try simp only [tY] at po11
    refine qcb (by first | with_reducible assumption | omega | (simp only [tZ]; first | done | omega)) (by first | with_reducible assumption | omega | (simp only [tZ]; first | done | omega)) (by first | with_reducible assumption | omega | (simp only [tZ]; first | done | omega)) (fun y12 y13 y14 po15 => ?_)
    try simp only [tY] at po15
    refine ⟨?_, ?_⟩
    · intro c16
      try simp only [qao, qak, qan, tY] at c16
      intro y17 e18
      try have h19 : (2 * p1).toInt = (2 * p1.toInt) := by rw [qu8] <;> (try simp only [tY]) <;> omega
      try have h20 : y17.toInt = (2 * p1.toInt) := by rw [e18]; exact h19
      intro y21 e22
      try have h23 : (y17 + p2).toInt = (y17.toInt + p2.toInt) := by rw [qap] <;> (try simp only [tY]) <;> omega
      try have h24 : y21.toInt = (y17.toInt + p2.toInt) := by rw [e22]; exact h23
      refine ⟨qa6 (by first | with_reducible assumption | omega | (simp only [tZ]; first | done | omega)) (by first | with_reducible assumption | omega | (simp only [tZ]; first | done | omega)), ?_⟩
      intro y25 e26
      have h27 : y25.toInt = (jcy y21.toNatClampNeg).toInt := by rw [e26]
      exact hq _ _ _
    · intro c28
      try simp only [qao, qak, qan, tY] at c28
      exact hq _ _ _
theorem qaap {jaC : Int32} {jbD : Int32} {jb2 : Nat → Int32} {jcu : Nat → Int32} {jbT : Nat → Int32} {jdH : Nat → Int32} {jbd : Int32} {ja9 : Nat → Int32} {f0_s : Nat → Int32} {jb1 : Nat → Int32} {jcb : Nat → Int32} {p1 : Int32} {p2 : Int32} {Q : Int32 → Int32 → NI → NI → NI → NI → Prop} {n : Int32} (a0 : rS jaC n jb2) (a1 : rC jbD jcu jbT) (a2 : 0 ≤ jaC.toInt) (a3 : jaC.toInt ≤ 6) (hq : ∀ (r thrown : Int32) (refused : NI) (s : NI) (facts : NI) (stack : NI), Q r thrown refused s facts stack) : qach jaC jbD jb2 jcu jbT jdH jbd ja9 f0_s jb1 jcb p1 p2 Q := by
  refine qu6 (by first | with_reducible assumption | omega | (simp only [qaz, qlg, t_5, t_7, tZ]; first | done | omega)) (by first | with_reducible assumption | omega | (simp only [qaz, qlg, t_5, t_7, tZ]; first | done | omega)) (by first | with_reducible assumption | omega | (simp only [qaz, qlg, t_5, t_7, tZ]; first | done | omega)) (fun y1 y2 y3 po4 => ?_)
  try simp only [t_0, t_1, qaz, qlg, t_2, t_3, t_4, t_5, t_6, t_7, t_8, qam] at po4
  refine ⟨?_, ?_⟩
  · intro c5
    try simp only [qao, qak, qan, t_0, t_1, qaz, qlg, t_2, t_3, t_4, t_5, t_6, t_7, t_8, qam] at c5
    exact hq _ _ _ _ _ _
  · intro c6
    try simp only [qao, qak, qan, t_0, t_1, qaz, qlg, t_2, t_3, t_4, t_5, t_6, t_7, t_8, qam] at c6
    refine qbO (fun y7 po8 => ?_)
    try simp only [t_0, t_1, qaz, qlg, t_2, t_3, t_4, t_5, t_6, t_7, t_8, qam] at po8
    refine qcb (by first | with_reducible assumption | omega | (simp only [qaz, qlg, t_5, t_7, tZ]; first | done | omega)) (by first | with_reducible assumption | omega | (simp only [qaz, qlg, t_5, t_7, tZ]; first | done | omega)) (by first | with_reducible assumption | omega | (simp only [qaz, qlg, t_5, t_7, tZ]; first | done | omega)) (fun y9 y10 y11 po12 => ?_)
    try simp only [t_0, t_1, qaz, qlg, t_2, t_3, t_4, t_5, t_6, t_7, t_8, qam] at po12
    refine ⟨?_, ?_⟩
    · intro c13
      try simp only [qao, qak, qan, t_0, t_1, qaz, qlg, t_2, t_3, t_4, t_5, t_6, t_7, t_8, qam] at c13
      refine qoL (by first | with_reducible assumption | omega | (simp only [qaz, qlg, t_5, t_7, tZ]; first | done | omega)) (fun y14 po15 => ?_)
      refine ⟨?_, ?_⟩
      · intro c16
        try simp only [qao, qak, qan, t_0, t_1, qaz, qlg, t_2, t_3, t_4, t_5, t_6, t_7, t_8, qam] at c16
        refine ⟨?_, ?_⟩
        · intro c17
          try simp only [qao, qak, qan, t_0, t_1, qaz, qlg, t_2, t_3, t_4, t_5, t_6, t_7, t_8, qam] at c17
          refine ⟨?_, ?_⟩
          · intro c18
            try simp only [qao, qak, qan, t_0, t_1, qaz, qlg, t_2, t_3, t_4, t_5, t_6, t_7, t_8, qam] at c18
            refine qXW (by first | with_reducible assumption | omega | (simp only [qaz, qlg, t_5, t_7, tZ]; first | done | omega)) (by first | with_reducible assumption | omega | (simp only [qaz, qlg, t_5, t_7, tZ]; first | done | omega)) (by first | with_reducible assumption | omega | (simp only [qaz, qlg, t_5, t_7, tZ]; first | done | omega)) (by first | with_reducible assumption | omega | (simp only [qaz, qlg, t_5, t_7, tZ]; first | done | omega)) (by first | with_reducible assumption | omega | (simp only [qaz, qlg, t_5, t_7, tZ]; first | done | omega)) (fun y19 y20 y21 => ?_)
            exact hq _ _ _ _ _ _
          · intro c22
            try simp only [qao, qak, qan, t_0, t_1, qaz, qlg, t_2, t_3, t_4, t_5, t_6, t_7, t_8, qam] at c22
            refine qCI (by first | with_reducible assumption | omega | (simp only [qaz, qlg, t_5, t_7, tZ]; first | done | omega)) (by first | with_reducible assumption | omega | (simp only [qaz, qlg, t_5, t_7, tZ]; first | done | omega)) (by first | with_reducible assumption | omega | (simp only [qaz, qlg, t_5, t_7, tZ]; first | done | omega)) (fun y23 po24 => ?_)
            try simp only [t_0, t_1, qaz, qlg, t_2, t_3, t_4, t_5, t_6, t_7, t_8, qam] at po24
            exact hq _ _ _ _ _ _
        · intro c25
          try simp only [qao, qak, qan, t_0, t_1, qaz, qlg, t_2, t_3, t_4, t_5, t_6, t_7, t_8, qam] at c25
          refine qaDw (by first | with_reducible assumption | omega | (simp only [qaz, qlg, t_5, t_7, tZ]; first | done | omega)) (by first | with_reducible assumption | omega | (simp only [qaz, qlg, t_5, t_7, tZ]; first | done | omega)) (by first | with_reducible assumption | omega | (simp only [qaz, qlg, t_5, t_7, tZ]; first | done | omega)) (fun y26 po27 => ?_)
          try simp only [t_0, t_1, qaz, qlg, t_2, t_3, t_4, t_5, t_6, t_7, t_8, qam] at po27
          exact hq _ _ _ _ _ _
      · intro c28
        try simp only [qao, qak, qan, t_0, t_1, qaz, qlg, t_2, t_3, t_4, t_5, t_6, t_7, t_8, qam] at c28
        refine ⟨?_, ?_⟩
        · intro c29
          try simp only [qao, qak, qan, t_0, t_1, qaz, qlg, t_2, t_3, t_4, t_5, t_6, t_7, t_8, qam] at c29
          refine ⟨?_, ?_⟩
          · intro c30
            try simp only [qao, qak, qan, t_0, t_1, qaz, qlg, t_2, t_3, t_4, t_5, t_6, t_7, t_8, qam] at c30
            refine ⟨?_, ?_⟩
            · intro c31
              try simp only [qao, qak, qan, t_0, t_1, qaz, qlg, t_2, t_3, t_4, t_5, t_6, t_7, t_8, qam] at c31
              refine ⟨?_, ?_⟩
              · intro c32
                try simp only [qao, qak, qan, t_0, t_1, qaz, qlg, t_2, t_3, t_4, t_5, t_6, t_7, t_8, qam] at c32
                intro y33 e34
                try have h35 : (18 + p1).toInt = (18 + p1.toInt) := by rw [qap] <;> (try simp only [t_0, t_1, qaz, qlg, t_2, t_3, t_4, t_5, t_6, t_7, t_8, qam]) <;> omega
                try have h36 : y33.toInt = (18 + p1.toInt) := by rw [e34]; exact h35
                refine ⟨qa6 (by first | with_reducible assumption | omega | (simp only [qaz, qlg, t_5, t_7, tZ]; first | done | omega)) (by first | with_reducible assumption | omega | (simp only [qaz, qlg, t_5, t_7, tZ]; first | done | omega)), ?_⟩
                intro y37 e38
                have h39 : y37.toInt = (y14 y33.toNatClampNeg).toInt := by rw [e38]
                try have h40 := qn0 (s := y14) (x := y33) (by with_reducible assumption) (by first | with_reducible assumption | omega | (simp only [qaz, qlg, t_5, t_7, tZ]; first | done | omega)) (by first | with_reducible assumption | omega | (simp only [qaz, qlg, t_5, t_7, tZ]; first | done | omega))
                try have h41 := qgw (s := y14) (x := y33) (by with_reducible assumption) (by first | with_reducible assumption | omega | (simp only [qaz, qlg, t_5, t_7, tZ]; first | done | omega)) (by first | with_reducible assumption | omega | (simp only [qaz, qlg, t_5, t_7, tZ]; first | done | omega))
                exact hq _ _ _ _ _ _
              · intro c42
                try simp only [qao, qak, qan, t_0, t_1, qaz, qlg, t_2, t_3, t_4, t_5, t_6, t_7, t_8, qam] at c42
                intro y43 e44
                try have h45 : (12 + p1).toInt = (12 + p1.toInt) := by rw [qap] <;> (try simp only [t_0, t_1, qaz, qlg, t_2, t_3, t_4, t_5, t_6, t_7, t_8, qam]) <;> omega
                try have h46 : y43.toInt = (12 + p1.toInt) := by rw [e44]; exact h45
                refine ⟨qa6 (by first | with_reducible assumption | omega | (simp only [qaz, qlg, t_5, t_7, tZ]; first | done | omega)) (by first | with_reducible assumption | omega | (simp only [qaz, qlg, t_5, t_7, tZ]; first | done | omega)), ?_⟩
                intro y47 e48
                have h49 : y47.toInt = (y14 y43.toNatClampNeg).toInt := by rw [e48]
                try have h50 := qn0 (s := y14) (x := y43) (by with_reducible assumption) (by first | with_reducible assumption | omega | (simp only [qaz, qlg, t_5, t_7, tZ]; first | done | omega)) (by first | with_reducible assumption | omega | (simp only [qaz, qlg, t_5, t_7, tZ]; first | done | omega))
                try have h51 := qgw (s := y14) (x := y43) (by with_reducible assumption) (by first | with_reducible assumption | omega | (simp only [qaz, qlg, t_5, t_7, tZ]; first | done | omega)) (by first | with_reducible assumption | omega | (simp only [qaz, qlg, t_5, t_7, tZ]; first | done | omega))
                exact hq _ _ _ _ _ _
            · intro c52
              try simp only [qao, qak, qan, t_0, t_1, qaz, qlg, t_2, t_3, t_4, t_5, t_6, t_7, t_8, qam] at c52
              intro y53 e54
              try have h55 : (6 + p1).toInt = (6 + p1.toInt) := by rw [qap] <;> (try simp only [t_0, t_1, qaz, qlg, t_2, t_3, t_4, t_5, t_6, t_7, t_8, qam]) <;> omega
              try have h56 : y53.toInt = (6 + p1.toInt) := by rw [e54]; exact h55
              refine ⟨qa6 (by first | with_reducible assumption | omega | (simp only [qaz, qlg, t_5, t_7, tZ]; first | done | omega)) (by first | with_reducible assumption | omega | (simp only [qaz, qlg, t_5, t_7, tZ]; first | done | omega)), ?_⟩
              intro y57 e58
              have h59 : y57.toInt = (y14 y53.toNatClampNeg).toInt := by rw [e58]
              try have h60 := qn0 (s := y14) (x := y53) (by with_reducible assumption) (by first | with_reducible assumption | omega | (simp only [qaz, qlg, t_5, t_7, tZ]; first | done | omega)) (by first | with_reducible assumption | omega | (simp only [qaz, qlg, t_5, t_7, tZ]; first | done | omega))
              try have h61 := qgw (s := y14) (x := y53) (by with_reducible assumption) (by first | with_reducible assumption | omega | (simp only [qaz, qlg, t_5, t_7, tZ]; first | done | omega)) (by first | with_reducible assumption | omega | (simp only [qaz, qlg, t_5, t_7, tZ]; first | done | omega))
              exact hq _ _ _ _ _ _
          · intro c62
            try simp only [qao, qak, qan, t_0, t_1, qaz, qlg, t_2, t_3, t_4, t_5, t_6, t_7, t_8, qam] at c62
            intro y63 e64
            have h65 : y63 = p1 := by rw [e64]; exact Int32.zero_add _
            have h66 : y63.toInt = p1.toInt := by rw [h65]
            refine ⟨qa6 (by first | with_reducible assumption | omega | (simp only [qaz, qlg, t_5, t_7, tZ]; first | done | omega)) (by first | with_reducible assumption | omega | (simp only [qaz, qlg, t_5, t_7, tZ]; first | done | omega)), ?_⟩
            intro y67 e68
            have h69 : y67.toInt = (y14 p1.toNatClampNeg).toInt := by rw [e68, h65]
            try have h70 := qn0 (s := y14) (x := p1) (by with_reducible assumption) (by first | with_reducible assumption | omega | (simp only [qaz, qlg, t_5, t_7, tZ]; first | done | omega)) (by first | with_reducible assumption | omega | (simp only [qaz, qlg, t_5, t_7, tZ]; first | done | omega))
            try have h71 := qgw (s := y14) (x := p1) (by with_reducible assumption) (by first | with_reducible assumption | omega | (simp only [qaz, qlg, t_5, t_7, tZ]; first | done | omega)) (by first | with_reducible assumption | omega | (simp only [qaz, qlg, t_5, t_7, tZ]; first | done | omega))
            exact hq _ _ _ _ _ _
        · intro c72
          try simp only [qao, qak, qan, t_0, t_1, qaz, qlg, t_2, t_3, t_4, t_5, t_6, t_7, t_8, qam] at c72
          intro y73 e74
          try have h75 : (2 * p1).toInt = (2 * p1.toInt) := by rw [qu8] <;> (try simp only [t_0, t_1, qaz, qlg, t_2, t_3, t_4, t_5, t_6, t_7, t_8, qam]) <;> omega
          try have h76 : y73.toInt = (2 * p1.toInt) := by rw [e74]; exact h75
          intro y77 e78
          try have h79 : (y73 + 1).toInt = (y73.toInt + 1) := by rw [qap] <;> (try simp only [t_0, t_1, qaz, qlg, t_2, t_3, t_4, t_5, t_6, t_7, t_8, qam]) <;> omega
          try have h80 : y77.toInt = (y73.toInt + 1) := by rw [e78]; exact h79
          refine ⟨qa6 (by first | with_reducible assumption | omega | (simp only [qaz, qlg, t_5, t_7, tZ]; first | done | omega)) (by first | with_reducible assumption | omega | (simp only [qaz, qlg, t_5, t_7, tZ]; first | done | omega)), ?_⟩
          intro y81 e82
          have h83 : y81.toInt = (jdH y77.toNatClampNeg).toInt := by rw [e82]
          exact hq _ _ _ _ _ _
    · intro c84
      try simp only [qao, qak, qan, t_0, t_1, qaz, qlg, t_2, t_3, t_4, t_5, t_6, t_7, t_8, qam] at c84
      exact hq _ _ _ _ _ _
theorem qF8 {p0 : Int32} {p1 : Int32} {p2 : Int32} {p3 : Int32} {Q : Int32 → Prop} (hq : ∀ (r : Int32), Q r) : qy8 p0 p1 p2 p3 Q := by
  refine ⟨?_, ?_⟩
  · intro c1
    try simp only [qao, qak, qan, tY] at c1
    refine ⟨?_, ?_⟩
    · intro c2
      try simp only [qao, qak, qan, tY] at c2
      exact hq _
    · intro c3
      try simp only [qao, qak, qan, tY] at c3
      try have h4 : (p2 + p3).toInt = (p2.toInt + p3.toInt) := by rw [qap] <;> (try simp only [tY]) <;> omega
      exact hq _
  · intro c5
    try simp only [qao, qak, qan, tY] at c5
    refine ⟨?_, ?_⟩
    · intro c6
      try simp only [qao, qak, qan, tY] at c6
      exact hq _
    · intro c7
      try simp only [qao, qak, qan, tY] at c7
      exact hq _
theorem qKW {Q : Int32 → Int32 → NI → Prop} (hq : ∀ (r thrown : Int32) (refused : NI), Q r thrown refused) : ∀ (k : Nat) (jbd : Int32) (ja9 : NI) (l1 l2 l3 l4 l5 l6 : Int32), (0 ≤ l6.toInt) → (l6.toInt ≤ 4) → 4 - l6.toInt < (k : Int) → qqt Q k jbd ja9 l1 l2 l3 l4 l5 l6 := by
  intro k
  induction k with
  | zero => intro jbd ja9 l1 l2 l3 l4 l5 l6 i0 i1 i2; omega
  | succ k ih =>
    intro jbd ja9 l1 l2 l3 l4 l5 l6 i0 i1 i2
    refine ⟨?_, ?_⟩
    · intro c1
      try simp only [qao, qak, qan, t_0, t_1, qgg, t_2, t_3, t_4, t_6, t_8, qnP, qam] at c1
      refine ⟨?_, ?_⟩
      · intro c2
        try simp only [qao, qak, qan, t_0, t_1, qgg, t_2, t_3, t_4, t_6, t_8, qnP, qam] at c2
        refine ⟨?_, ?_⟩
        · intro c3
          try simp only [qao, qak, qan, t_0, t_1, qgg, t_2, t_3, t_4, t_6, t_8, qnP, qam] at c3
          refine ⟨?_, ?_⟩
          · intro c4
            try simp only [qao, qak, qan, t_0, t_1, qgg, t_2, t_3, t_4, t_6, t_8, qnP, qam] at c4
            intro y5 e6
            have h7 : y5.toInt = (l5 / 10).toInt := by rw [e6]
            intro y8 e9
            have h10 : y8.toInt = (l5 - l5 / 10 * 10).toInt := by rw [e9]
            refine qF8 (fun y11 => ?_)
            intro y12 e13
            have h14 : y12.toInt = (l5 - l5 / 10 * 10).toInt := by rw [e13]
            intro y15 e16
            have h17 : y15.toInt = (l5 / 10).toInt := by rw [e16]
            refine qF8 (fun y18 => ?_)
            try have h19 : (y11 + y18).toInt = (y11.toInt + y18.toInt) := by rw [qap] <;> (try simp only [t_0, t_1, qgg, t_2, t_3, t_4, t_6, t_8, qnP, qam]) <;> omega
            exact hq _ _ _
          · intro c20
            try simp only [qao, qak, qan, t_0, t_1, qgg, t_2, t_3, t_4, t_6, t_8, qnP, qam] at c20
            exact hq _ _ _
        · intro c21
          try simp only [qao, qak, qan, t_0, t_1, qgg, t_2, t_3, t_4, t_6, t_8, qnP, qam] at c21
          exact hq _ _ _
      · intro c22
        try simp only [qao, qak, qan, t_0, t_1, qgg, t_2, t_3, t_4, t_6, t_8, qnP, qam] at c22
        exact hq _ _ _
    · intro c23
      try simp only [qao, qak, qan, t_0, t_1, qgg, t_2, t_3, t_4, t_6, t_8, qnP, qam] at c23
      intro y24 e25
      have h26 : y24.toInt = (l6 / 2).toInt := by rw [e25]
      intro y27 e28
      have h29 : y27.toInt = (l6 - l6 / 2 * 2).toInt := by rw [e28]
      try have h30 : (1 - y24).toInt = (1 - y24.toInt) := by rw [qpT] <;> (try simp only [t_0, t_1, qgg, t_2, t_3, t_4, t_6, t_8, qnP, qam]) <;> omega
      refine qF8 (fun y31 => ?_)
      refine qF8 (fun y32 => ?_)
      refine ⟨?_, ?_⟩
      · intro c33
        try simp only [qao, qak, qan, t_0, t_1, qgg, t_2, t_3, t_4, t_6, t_8, qnP, qam] at c33
        intro y34 e35
        try have h36 : (l6 + 1).toInt = (l6.toInt + 1) := by rw [qap] <;> (try simp only [t_0, t_1, qgg, t_2, t_3, t_4, t_6, t_8, qnP, qam]) <;> omega
        try have h37 : y34.toInt = (l6.toInt + 1) := by rw [e35]; exact h36
        exact ih _ _ _ _ _ _ _ _ (by first | with_reducible assumption | omega | (simp only [qgg, qnP, tZ]; first | done | omega)) (by first | with_reducible assumption | omega | (simp only [qgg, qnP, tZ]; first | done | omega)) (by first | with_reducible assumption | omega | (simp only [qgg, qnP, tZ]; first | done | omega))
      · intro c38
        try simp only [qao, qak, qan, t_0, t_1, qgg, t_2, t_3, t_4, t_6, t_8, qnP, qam] at c38
        try have h39 : (1 - y27).toInt = (1 - y27.toInt) := by rw [qpT] <;> (try simp only [t_0, t_1, qgg, t_2, t_3, t_4, t_6, t_8, qnP, qam]) <;> omega
        refine qF8 (fun y40 => ?_)
        refine qF8 (fun y41 => ?_)
        refine ⟨?_, ?_⟩
        · intro c42
          try simp only [qao, qak, qan, t_0, t_1, qgg, t_2, t_3, t_4, t_6, t_8, qnP, qam] at c42
          intro y43 e44
          try have h45 : (l4 + 1).toInt = (l4.toInt + 1) := by rw [qap] <;> (try simp only [t_0, t_1, qgg, t_2, t_3, t_4, t_6, t_8, qnP, qam]) <;> omega
          try have h46 : y43.toInt = (l4.toInt + 1) := by rw [e44]; exact h45
          refine ⟨?_, ?_⟩
          · intro c47
            try simp only [qao, qak, qan, t_0, t_1, qgg, t_2, t_3, t_4, t_6, t_8, qnP, qam] at c47
            intro y48 e49
            try have h50 : (l6 + 1).toInt = (l6.toInt + 1) := by rw [qap] <;> (try simp only [t_0, t_1, qgg, t_2, t_3, t_4, t_6, t_8, qnP, qam]) <;> omega
            try have h51 : y48.toInt = (l6.toInt + 1) := by rw [e49]; exact h50
            exact ih _ _ _ _ _ _ _ _ (by first | with_reducible assumption | omega | (simp only [qgg, qnP, tZ]; first | done | omega)) (by first | with_reducible assumption | omega | (simp only [qgg, qnP, tZ]; first | done | omega)) (by first | with_reducible assumption | omega | (simp only [qgg, qnP, tZ]; first | done | omega))
          · intro c52
            try simp only [qao, qak, qan, t_0, t_1, qgg, t_2, t_3, t_4, t_6, t_8, qnP, qam] at c52
            intro y53 e54
            try have h55 : (l6 + 1).toInt = (l6.toInt + 1) := by rw [qap] <;> (try simp only [t_0, t_1, qgg, t_2, t_3, t_4, t_6, t_8, qnP, qam]) <;> omega
            try have h56 : y53.toInt = (l6.toInt + 1) := by rw [e54]; exact h55
            try have h57 : (10 * y24).toInt = (10 * y24.toInt) := by rw [qu8] <;> (try simp only [t_0, t_1, qgg, t_2, t_3, t_4, t_6, t_8, qnP, qam]) <;> omega
            try have h58 : ((10 * y24) + y27).toInt = ((10 * y24).toInt + y27.toInt) := by rw [qap] <;> (try simp only [t_0, t_1, qgg, t_2, t_3, t_4, t_6, t_8, qnP, qam]) <;> omega
            exact ih _ _ _ _ _ _ _ _ (by first | with_reducible assumption | omega | (simp only [qgg, qnP, tZ]; first | done | omega)) (by first | with_reducible assumption | omega | (simp only [qgg, qnP, tZ]; first | done | omega)) (by first | with_reducible assumption | omega | (simp only [qgg, qnP, tZ]; first | done | omega))
        · intro c59
          try simp only [qao, qak, qan, t_0, t_1, qgg, t_2, t_3, t_4, t_6, t_8, qnP, qam] at c59
          intro y60 e61
          try have h62 : (l6 + 1).toInt = (l6.toInt + 1) := by rw [qap] <;> (try simp only [t_0, t_1, qgg, t_2, t_3, t_4, t_6, t_8, qnP, qam]) <;> omega
          try have h63 : y60.toInt = (l6.toInt + 1) := by rw [e61]; exact h62
          exact ih _ _ _ _ _ _ _ _ (by first | with_reducible assumption | omega | (simp only [qgg, qnP, tZ]; first | done | omega)) (by first | with_reducible assumption | omega | (simp only [qgg, qnP, tZ]; first | done | omega)) (by first | with_reducible assumption | omega | (simp only [qgg, qnP, tZ]; first | done | omega))
theorem qaxi {jbd : Int32} {ja9 : Nat → Int32} {p1 : Int32} {p2 : Int32} {p3 : Int32} {Q : Int32 → Int32 → NI → Prop} (hq : ∀ (r thrown : Int32) (refused : NI), Q r thrown refused) : qaaO jbd ja9 p1 p2 p3 Q := by
  refine qbO (fun y64 po65 => ?_)
  try simp only [t_0, t_1, qgg, t_2, t_3, t_4, t_6, t_8, qnP, qam] at po65
  refine ⟨?_, ?_⟩
  · intro c66
    try simp only [qao, qak, qan, t_0, t_1, qgg, t_2, t_3, t_4, t_6, t_8, qnP, qam] at c66
    refine qcb (by first | with_reducible assumption | omega | (simp only [qgg, qnP, tZ]; first | done | omega)) (by first | with_reducible assumption | omega | (simp only [qgg, qnP, tZ]; first | done | omega)) (by first | with_reducible assumption | omega | (simp only [qgg, qnP, tZ]; first | done | omega)) (fun y67 y68 y69 po70 => ?_)
    try simp only [t_0, t_1, qgg, t_2, t_3, t_4, t_6, t_8, qnP, qam] at po70
    refine ⟨?_, ?_⟩
    · intro c71
      try simp only [qao, qak, qan, t_0, t_1, qgg, t_2, t_3, t_4, t_6, t_8, qnP, qam] at c71
      refine ⟨5, qKW hq 5 _ _ _ _ _ _ _ _ (by first | with_reducible assumption | omega | (simp only [qgg, qnP, tZ]; first | done | omega)) (by first | with_reducible assumption | omega | (simp only [qgg, qnP, tZ]; first | done | omega)) (by first | with_reducible assumption | omega | (simp only [qgg, qnP, tZ]; first | done | omega))⟩
    · intro c72
      try simp only [qao, qak, qan, t_0, t_1, qgg, t_2, t_3, t_4, t_6, t_8, qnP, qam] at c72
      exact hq _ _ _
  · intro c73
    try simp only [qao, qak, qan, t_0, t_1, qgg, t_2, t_3, t_4, t_6, t_8, qnP, qam] at c73
    refine qbO (fun y74 po75 => ?_)
    try simp only [t_0, t_1, qgg, t_2, t_3, t_4, t_6, t_8, qnP, qam] at po75
    refine ⟨?_, ?_⟩
    · intro c76
      try simp only [qao, qak, qan, t_0, t_1, qgg, t_2, t_3, t_4, t_6, t_8, qnP, qam] at c76
      refine qcb (by first | with_reducible assumption | omega | (simp only [qgg, qnP, tZ]; first | done | omega)) (by first | with_reducible assumption | omega | (simp only [qgg, qnP, tZ]; first | done | omega)) (by first | with_reducible assumption | omega | (simp only [qgg, qnP, tZ]; first | done | omega)) (fun y77 y78 y79 po80 => ?_)
      try simp only [t_0, t_1, qgg, t_2, t_3, t_4, t_6, t_8, qnP, qam] at po80
      refine ⟨?_, ?_⟩
      · intro c81
        try simp only [qao, qak, qan, t_0, t_1, qgg, t_2, t_3, t_4, t_6, t_8, qnP, qam] at c81
        refine ⟨5, qKW hq 5 _ _ _ _ _ _ _ _ (by first | with_reducible assumption | omega | (simp only [qgg, qnP, tZ]; first | done | omega)) (by first | with_reducible assumption | omega | (simp only [qgg, qnP, tZ]; first | done | omega)) (by first | with_reducible assumption | omega | (simp only [qgg, qnP, tZ]; first | done | omega))⟩
      · intro c82
        try simp only [qao, qak, qan, t_0, t_1, qgg, t_2, t_3, t_4, t_6, t_8, qnP, qam] at c82
        exact hq _ _ _
    · intro c83
      try simp only [qao, qak, qan, t_0, t_1, qgg, t_2, t_3, t_4, t_6, t_8, qnP, qam] at c83
      refine qbO (fun y84 po85 => ?_)
      try simp only [t_0, t_1, qgg, t_2, t_3, t_4, t_6, t_8, qnP, qam] at po85
      refine ⟨?_, ?_⟩
      · intro c86
        try simp only [qao, qak, qan, t_0, t_1, qgg, t_2, t_3, t_4, t_6, t_8, qnP, qam] at c86
        refine qcb (by first | with_reducible assumption | omega | (simp only [qgg, qnP, tZ]; first | done | omega)) (by first | with_reducible assumption | omega | (simp only [qgg, qnP, tZ]; first | done | omega)) (by first | with_reducible assumption | omega | (simp only [qgg, qnP, tZ]; first | done | omega)) (fun y87 y88 y89 po90 => ?_)
        try simp only [t_0, t_1, qgg, t_2, t_3, t_4, t_6, t_8, qnP, qam] at po90
        refine ⟨?_, ?_⟩
        · intro c91
          try simp only [qao, qak, qan, t_0, t_1, qgg, t_2, t_3, t_4, t_6, t_8, qnP, qam] at c91
          refine ⟨5, qKW hq 5 _ _ _ _ _ _ _ _ (by first | with_reducible assumption | omega | (simp only [qgg, qnP, tZ]; first | done | omega)) (by first | with_reducible assumption | omega | (simp only [qgg, qnP, tZ]; first | done | omega)) (by first | with_reducible assumption | omega | (simp only [qgg, qnP, tZ]; first | done | omega))⟩
        · intro c92
          try simp only [qao, qak, qan, t_0, t_1, qgg, t_2, t_3, t_4, t_6, t_8, qnP, qam] at c92
          exact hq _ _ _
      · intro c93
        try simp only [qao, qak, qan, t_0, t_1, qgg, t_2, t_3, t_4, t_6, t_8, qnP, qam] at c93
        refine qcb (by first | with_reducible assumption | omega | (simp only [qgg, qnP, tZ]; first | done | omega)) (by first | with_reducible assumption | omega | (simp only [qgg, qnP, tZ]; first | done | omega)) (by first | with_reducible assumption | omega | (simp only [qgg, qnP, tZ]; first | done | omega)) (fun y94 y95 y96 po97 => ?_)
        try simp only [t_0, t_1, qgg, t_2, t_3, t_4, t_6, t_8, qnP, qam] at po97
        refine ⟨?_, ?_⟩
        · intro c98
          try simp only [qao, qak, qan, t_0, t_1, qgg, t_2, t_3, t_4, t_6, t_8, qnP, qam] at c98
          refine ⟨5, qKW hq 5 _ _ _ _ _ _ _ _ (by first | with_reducible assumption | omega | (simp only [qgg, qnP, tZ]; first | done | omega)) (by first | with_reducible assumption | omega | (simp only [qgg, qnP, tZ]; first | done | omega)) (by first | with_reducible assumption | omega | (simp only [qgg, qnP, tZ]; first | done | omega))⟩
        · intro c99
          try simp only [qao, qak, qan, t_0, t_1, qgg, t_2, t_3, t_4, t_6, t_8, qnP, qam] at c99
          exact hq _ _ _
theorem q6Q {jaC : Int32} {f0_s : Nat → Int32} {Q : Int32 → Prop} (a0 : jaC.toInt ≤ 6) (hq : ∀ (r : Int32), Q r) : ∀ (k : Nat) (l1 l2 : Int32), (0 ≤ l2.toInt) → (l2.toInt ≤ 6) → 6 - l2.toInt < (k : Int) → qpY jaC f0_s Q k l1 l2 := by
  intro k
  induction k with
  | zero => intro l1 l2 i0 i1 i2; omega
  | succ k ih =>
    intro l1 l2 i0 i1 i2
    refine ⟨?_, ?_⟩
    · intro c1
      try simp only [qao, qak, qan, tY] at c1
      exact hq _
    · intro c2
      try simp only [qao, qak, qan, tY] at c2
      refine qeY (by first | with_reducible assumption | omega | (simp only [tZ]; first | done | omega)) (by first | with_reducible assumption | omega | (simp only [tZ]; first | done | omega)) (fun y3 po4 => ?_)
      try simp only [tY] at po4
      refine ⟨?_, ?_⟩
      · intro c5
        try simp only [qao, qak, qan, tY] at c5
        intro y6 e7
        try have h8 : (6 + l2).toInt = (6 + l2.toInt) := by rw [qap] <;> (try simp only [tY]) <;> omega
        try have h9 : y6.toInt = (6 + l2.toInt) := by rw [e7]; exact h8
        refine ⟨qa6 (by first | with_reducible assumption | omega | (simp only [tZ]; first | done | omega)) (by first | with_reducible assumption | omega | (simp only [tZ]; first | done | omega)), ?_⟩
        intro y10 e11
        have h12 : y10.toInt = (f0_s y6.toNatClampNeg).toInt := by rw [e11]
        try have h13 := qn0 (s := f0_s) (x := y6) (by with_reducible assumption) (by first | with_reducible assumption | omega | (simp only [tZ]; first | done | omega)) (by first | with_reducible assumption | omega | (simp only [tZ]; first | done | omega))
        try have h14 := qgw (s := f0_s) (x := y6) (by with_reducible assumption) (by first | with_reducible assumption | omega | (simp only [tZ]; first | done | omega)) (by first | with_reducible assumption | omega | (simp only [tZ]; first | done | omega))
        intro y15 e16
        try have h17 : (l1 + y10).toInt = (l1.toInt + y10.toInt) := by rw [qap] <;> (try simp only [tY]) <;> omega
        try have h18 : y15.toInt = (l1.toInt + y10.toInt) := by rw [e16]; exact h17
        intro y19 e20
        try have h21 : (l2 + 1).toInt = (l2.toInt + 1) := by rw [qap] <;> (try simp only [tY]) <;> omega
        try have h22 : y19.toInt = (l2.toInt + 1) := by rw [e20]; exact h21
        exact ih _ _ (by first | with_reducible assumption | omega | (simp only [tZ]; first | done | omega)) (by first | with_reducible assumption | omega | (simp only [tZ]; first | done | omega)) (by first | with_reducible assumption | omega | (simp only [tZ]; first | done | omega))
      · intro c23
        try simp only [qao, qak, qan, tY] at c23
        intro y24 e25
        try have h26 : (l1 + 0).toInt = (l1.toInt + 0) := by rw [qap] <;> (try simp only [tY]) <;> omega
        try have h27 : y24.toInt = (l1.toInt + 0) := by rw [e25]; exact h26
        intro y28 e29
        try have h30 : (l2 + 1).toInt = (l2.toInt + 1) := by rw [qap] <;> (try simp only [tY]) <;> omega
        try have h31 : y28.toInt = (l2.toInt + 1) := by rw [e29]; exact h30
        exact ih _ _ (by first | with_reducible assumption | omega | (simp only [tZ]; first | done | omega)) (by first | with_reducible assumption | omega | (simp only [tZ]; first | done | omega)) (by first | with_reducible assumption | omega | (simp only [tZ]; first | done | omega))
theorem qHm {jaC : Int32} {f0_s : Nat → Int32} {Q : Int32 → Prop} (a0 : jaC.toInt ≤ 6) (hq : ∀ (r : Int32), Q r) : qH3 jaC f0_s Q := by
  refine ⟨7, q6Q (by first | with_reducible assumption | omega | (simp only [tZ]; first | done | omega)) hq 7 _ _ (by first | with_reducible assumption | omega | (simp only [tZ]; first | done | omega)) (by first | with_reducible assumption | omega | (simp only [tZ]; first | done | omega)) (by first | with_reducible assumption | omega | (simp only [tZ]; first | done | omega))⟩
theorem qSr {jjo p1 : Int32} {Q : Int32 → Int32 → Prop} (a0 : 0 < p1.toInt) (hq : ∀ r sn : Int32, 0 ≤ r.toInt → r.toInt < p1.toInt → Q r sn) : qLj jjo p1 Q := fun x1 _ x2 _ x3 e3 => by
  refine ⟨fun z => by rw [qan, t_0] at z; omega, fun x4 e4 => ?_⟩
  have g := qbbd (a := x3) (b := p1) (by rw [e3]; exact qbhh.1) a0
  rw [← e4] at g
  exact hq _ _ g.1 g.2
theorem qabF {jaN : Int32} {jaC : Int32} {jbw : Int32} {jbD : Int32} {jb2 : Nat → Int32} {jbv : Nat → Int32} {jcu : Nat → Int32} {jbT : Nat → Int32} {jcy : Nat → Int32} {jdH : Nat → Int32} {Q : NI → Int32 → Int32 → NI → NI → Prop} (a0 : rS jaC jaN jb2) (a1 : rC jbD jcu jbT) (a2 : jaC.toInt ≤ 6) (a3 : jbw.toInt ≤ 4) (hq : ∀ (s : NI) (seedNow leaptMany : Int32) (facts : NI) (stack : NI), (rS jaC jaN s) → Q s seedNow leaptMany facts stack) : ∀ (k : Nat) (f0_s : NI) (jjo jiz : Int32) (jb1 : NI) (jcb : NI) (l2 l3 : Int32), (rS jaC jaN f0_s) → (l2.toInt ≤ 96) → (0 ≤ l3.toInt) → (l3.toInt ≤ 96) → 96 - l3.toInt < (k : Int) → qnL jaN jaC jbw jbD jb2 jbv jcu jbT jcy jdH Q k f0_s jjo jiz jb1 jcb l2 l3 := by
  intro k
  induction k with
  | zero => intro f0_s jjo jiz jb1 jcb l2 l3 i0 i1 i2 i3 i4; omega
  | succ k ih =>
    intro f0_s jjo jiz jb1 jcb l2 l3 i0 i1 i2 i3 i4
    have hz := rS_h i0
    refine ⟨?_, ?_⟩
    · intro c1
      try simp only [qao, qak, qan, tY] at c1
      exact hq _ _ _ _ _ (by first | with_reducible assumption | omega | (simp only [tZ]; first | done | omega))
    · intro c2
      try simp only [qao, qak, qan, tY] at c2
      refine ⟨?_, ?_⟩
      · intro c3
        try simp only [qao, qak, qan, tY] at c3
        refine qNU (by first | with_reducible assumption | omega | (simp only [tZ]; first | done | omega)) (by first | with_reducible assumption | omega | (simp only [tZ]; first | done | omega)) (by first | with_reducible assumption | omega | (simp only [tZ]; first | done | omega)) (fun y4 po5 => ?_)
        intro y6 e7
        try have h8 : (l3 + 1).toInt = (l3.toInt + 1) := by rw [qap] <;> (try simp only [tY]) <;> omega
        try have h9 : y6.toInt = (l3.toInt + 1) := by rw [e7]; exact h8
        exact ih _ _ _ _ _ _ _ (by first | with_reducible assumption | omega | (simp only [tZ]; first | done | omega)) (by first | with_reducible assumption | omega | (simp only [tZ]; first | done | omega)) (by first | with_reducible assumption | omega | (simp only [tZ]; first | done | omega)) (by first | with_reducible assumption | omega | (simp only [tZ]; first | done | omega)) (by first | with_reducible assumption | omega | (simp only [tZ]; first | done | omega))
      · intro c10
        try simp only [qao, qak, qan, tY] at c10
        refine qSr (by first | with_reducible assumption | omega | (simp only [tZ]; first | done | omega)) (fun y11 y12 po13 po14 => ?_)
        try simp only [tY] at po13
        try simp only [tY] at po14
        refine qSr (by first | with_reducible assumption | omega | (simp only [tZ]; first | done | omega)) (fun y15 y16 po17 po18 => ?_)
        try simp only [tY] at po17
        try simp only [tY] at po18
        refine qaFY (by first | with_reducible assumption | omega | (simp only [tZ]; first | done | omega)) (by first | with_reducible assumption | omega | (simp only [tZ]; first | done | omega)) (by first | with_reducible assumption | omega | (simp only [tZ]; first | done | omega)) (by first | with_reducible assumption | omega | (simp only [tZ]; first | done | omega)) (by first | with_reducible assumption | omega | (simp only [tZ]; first | done | omega)) (by first | with_reducible assumption | omega | (simp only [tZ]; first | done | omega)) (by first | with_reducible assumption | omega | (simp only [tZ]; first | done | omega)) (by first | with_reducible assumption | omega | (simp only [tZ]; first | done | omega)) (fun y19 y20 y21 y22 po23 po24 => ?_)
        try simp only [tY] at po23
        refine ⟨?_, ?_⟩
        · intro c25
          try simp only [qao, qak, qan, tY] at c25
          intro y26 e27
          try have h28 : (jiz + 0).toInt = (jiz.toInt + 0) := by rw [qap] <;> (try simp only [tY]) <;> omega
          try have h29 : y26.toInt = (jiz.toInt + 0) := by rw [e27]; exact h28
          refine qSr (by first | with_reducible assumption | omega | (simp only [tZ]; first | done | omega)) (fun y30 y31 po32 po33 => ?_)
          try simp only [tY] at po32
          try simp only [tY] at po33
          refine qaoe (by first | with_reducible assumption | omega | (simp only [tZ]; first | done | omega)) (by first | with_reducible assumption | omega | (simp only [tZ]; first | done | omega)) (by first | with_reducible assumption | omega | (simp only [tZ]; first | done | omega)) (by first | with_reducible assumption | omega | (simp only [tZ]; first | done | omega)) (by first | with_reducible assumption | omega | (simp only [tZ]; first | done | omega)) (fun y34 y35 po36 po37 => ?_)
          try simp only [tY] at po36
          refine qNU (by first | with_reducible assumption | omega | (simp only [tZ]; first | done | omega)) (by first | with_reducible assumption | omega | (simp only [tZ]; first | done | omega)) (by first | with_reducible assumption | omega | (simp only [tZ]; first | done | omega)) (fun y38 po39 => ?_)
          intro y40 e41
          try have h42 : (l3 + 1).toInt = (l3.toInt + 1) := by rw [qap] <;> (try simp only [tY]) <;> omega
          try have h43 : y40.toInt = (l3.toInt + 1) := by rw [e41]; exact h42
          exact ih _ _ _ _ _ _ _ (by first | with_reducible assumption | omega | (simp only [tZ]; first | done | omega)) (by first | with_reducible assumption | omega | (simp only [tZ]; first | done | omega)) (by first | with_reducible assumption | omega | (simp only [tZ]; first | done | omega)) (by first | with_reducible assumption | omega | (simp only [tZ]; first | done | omega)) (by first | with_reducible assumption | omega | (simp only [tZ]; first | done | omega))
        · intro c44
          try simp only [qao, qak, qan, tY] at c44
          intro y45 e46
          try have h47 : (jiz + 1).toInt = (jiz.toInt + 1) := by rw [qap] <;> (try simp only [tY]) <;> omega
          try have h48 : y45.toInt = (jiz.toInt + 1) := by rw [e46]; exact h47
          refine qSr (by first | with_reducible assumption | omega | (simp only [tZ]; first | done | omega)) (fun y49 y50 po51 po52 => ?_)
          try simp only [tY] at po51
          try simp only [tY] at po52
          refine qaoe (by first | with_reducible assumption | omega | (simp only [tZ]; first | done | omega)) (by first | with_reducible assumption | omega | (simp only [tZ]; first | done | omega)) (by first | with_reducible assumption | omega | (simp only [tZ]; first | done | omega)) (by first | with_reducible assumption | omega | (simp only [tZ]; first | done | omega)) (by first | with_reducible assumption | omega | (simp only [tZ]; first | done | omega)) (fun y53 y54 po55 po56 => ?_)
          try simp only [tY] at po55
          refine qNU (by first | with_reducible assumption | omega | (simp only [tZ]; first | done | omega)) (by first | with_reducible assumption | omega | (simp only [tZ]; first | done | omega)) (by first | with_reducible assumption | omega | (simp only [tZ]; first | done | omega)) (fun y57 po58 => ?_)
          intro y59 e60
          try have h61 : (l3 + 1).toInt = (l3.toInt + 1) := by rw [qap] <;> (try simp only [tY]) <;> omega
          try have h62 : y59.toInt = (l3.toInt + 1) := by rw [e60]; exact h61
          exact ih _ _ _ _ _ _ _ (by first | with_reducible assumption | omega | (simp only [tZ]; first | done | omega)) (by first | with_reducible assumption | omega | (simp only [tZ]; first | done | omega)) (by first | with_reducible assumption | omega | (simp only [tZ]; first | done | omega)) (by first | with_reducible assumption | omega | (simp only [tZ]; first | done | omega)) (by first | with_reducible assumption | omega | (simp only [tZ]; first | done | omega))
theorem qEY {jaN : Int32} {jaC : Int32} {jbw : Int32} {jbD : Int32} {jb2 : Nat → Int32} {jbv : Nat → Int32} {jcu : Nat → Int32} {jbT : Nat → Int32} {jcy : Nat → Int32} {jdH : Nat → Int32} {f0_s : Nat → Int32} {jjo : Int32} {jiz : Int32} {jb1 : Nat → Int32} {jcb : Nat → Int32} {p1 : Int32} {p2 : Int32} {Q : NI → Int32 → Int32 → NI → NI → Prop} (a0 : rS jaC jaN jb2) (a1 : rC jbD jcu jbT) (a2 : jaC.toInt ≤ 6) (a3 : jbw.toInt ≤ 4) (a4 : p2.toInt ≤ 96) (hq : ∀ (s : NI) (seedNow leaptMany : Int32) (facts : NI) (stack : NI), (rS jaC jaN s) → Q s seedNow leaptMany facts stack) : qEv jaN jaC jbw jbD jb2 jbv jcu jbT jcy jdH f0_s jjo jiz jb1 jcb p1 p2 Q := by
  have hz := rS_h a0
  refine qoL (by first | with_reducible assumption | omega | (simp only [tZ]; first | done | omega)) (fun y63 po64 => ?_)
  refine ⟨97, qabF (by first | with_reducible assumption | omega | (simp only [tZ]; first | done | omega)) (by first | with_reducible assumption | omega | (simp only [tZ]; first | done | omega)) (by first | with_reducible assumption | omega | (simp only [tZ]; first | done | omega)) (by first | with_reducible assumption | omega | (simp only [tZ]; first | done | omega)) hq 97 _ _ _ _ _ _ _ (by first | with_reducible assumption | omega | (simp only [tZ]; first | done | omega)) (by first | with_reducible assumption | omega | (simp only [tZ]; first | done | omega)) (by first | with_reducible assumption | omega | (simp only [tZ]; first | done | omega)) (by first | with_reducible assumption | omega | (simp only [tZ]; first | done | omega)) (by first | with_reducible assumption | omega | (simp only [tZ]; first | done | omega))⟩
theorem qaoa {jaN : Int32} {jaC : Int32} {jbw : Int32} {jbD : Int32} {jb2 : Nat → Int32} {jbv : Nat → Int32} {jcu : Nat → Int32} {jbT : Nat → Int32} {jcy : Nat → Int32} {jdH : Nat → Int32} {jbd : Int32} {ja9 : Nat → Int32} {f0_s : Nat → Int32} {jjo : Int32} {jiz : Int32} {jb1 : Nat → Int32} {jcb : Nat → Int32} {p1 : Int32} {p2 : Int32} {p3 : Int32} {Q : Int32 → Int32 → NI → NI → Int32 → Int32 → NI → NI → Prop} (a0 : rS jaC jaN jb2) (a1 : rC jbD jcu jbT) (a2 : jaC.toInt ≤ 6) (a3 : jbw.toInt ≤ 4) (hq : ∀ (r thrown : Int32) (refused : NI) (s : NI) (seedNow leaptMany : Int32) (facts : NI) (stack : NI), Q r thrown refused s seedNow leaptMany facts stack) : q3d jaN jaC jbw jbD jb2 jbv jcu jbT jcy jdH jbd ja9 f0_s jjo jiz jb1 jcb p1 p2 p3 Q := by
  refine qbO (fun y1 po2 => ?_)
  try simp only [t_0, t_1, t_2, t_3, t_4, t_6, t_8, qbP, qam] at po2
  refine ⟨?_, ?_⟩
  · intro c3
    try simp only [qao, qak, qan, t_0, t_1, t_2, t_3, t_4, t_6, t_8, qbP, qam] at c3
    refine qcb (by first | with_reducible assumption | omega | (simp only [qbP, tZ]; first | done | omega)) (by first | with_reducible assumption | omega | (simp only [qbP, tZ]; first | done | omega)) (by first | with_reducible assumption | omega | (simp only [qbP, tZ]; first | done | omega)) (fun y4 y5 y6 po7 => ?_)
    try simp only [t_0, t_1, t_2, t_3, t_4, t_6, t_8, qbP, qam] at po7
    refine ⟨?_, ?_⟩
    · intro c8
      try simp only [qao, qak, qan, t_0, t_1, t_2, t_3, t_4, t_6, t_8, qbP, qam] at c8
      refine qEY (by first | with_reducible assumption | omega | (simp only [qbP, tZ]; first | done | omega)) (by first | with_reducible assumption | omega | (simp only [qbP, tZ]; first | done | omega)) (by first | with_reducible assumption | omega | (simp only [qbP, tZ]; first | done | omega)) (by first | with_reducible assumption | omega | (simp only [qbP, tZ]; first | done | omega)) (by first | with_reducible assumption | omega | (simp only [qbP, tZ]; first | done | omega)) (fun y9 y10 y11 y12 y13 po14 => ?_)
      refine ⟨?_, ?_⟩
      · intro c15
        try simp only [qao, qak, qan, t_0, t_1, t_2, t_3, t_4, t_6, t_8, qbP, qam] at c15
        refine ⟨?_, ?_⟩
        · intro c16
          try simp only [qao, qak, qan, t_0, t_1, t_2, t_3, t_4, t_6, t_8, qbP, qam] at c16
          refine ⟨?_, ?_⟩
          · intro c17
            try simp only [qao, qak, qan, t_0, t_1, t_2, t_3, t_4, t_6, t_8, qbP, qam] at c17
            intro y18 e19
            have h20 : y18.toInt = (y9 (66 : Int32).toNatClampNeg).toInt := by rw [e19]
            try have h21 := qn0 (s := y9) (x := (66 : Int32)) (by with_reducible assumption) (by first | with_reducible assumption | omega | (simp only [qbP, tZ]; first | done | omega)) (by first | with_reducible assumption | omega | (simp only [qbP, tZ]; first | done | omega))
            try have h22 := qgw (s := y9) (x := (66 : Int32)) (by with_reducible assumption) (by first | with_reducible assumption | omega | (simp only [qbP, tZ]; first | done | omega)) (by first | with_reducible assumption | omega | (simp only [qbP, tZ]; first | done | omega))
            exact hq _ _ _ _ _ _ _ _
          · intro c23
            try simp only [qao, qak, qan, t_0, t_1, t_2, t_3, t_4, t_6, t_8, qbP, qam] at c23
            refine qHm (by first | with_reducible assumption | omega | (simp only [qbP, tZ]; first | done | omega)) (fun y24 => ?_)
            exact hq _ _ _ _ _ _ _ _
        · intro c25
          try simp only [qao, qak, qan, t_0, t_1, t_2, t_3, t_4, t_6, t_8, qbP, qam] at c25
          refine qwr (by first | with_reducible assumption | omega | (simp only [qbP, tZ]; first | done | omega)) (fun y26 => ?_)
          exact hq _ _ _ _ _ _ _ _
      · intro c27
        try simp only [qao, qak, qan, t_0, t_1, t_2, t_3, t_4, t_6, t_8, qbP, qam] at c27
        exact hq _ _ _ _ _ _ _ _
    · intro c28
      try simp only [qao, qak, qan, t_0, t_1, t_2, t_3, t_4, t_6, t_8, qbP, qam] at c28
      exact hq _ _ _ _ _ _ _ _
  · intro c29
    try simp only [qao, qak, qan, t_0, t_1, t_2, t_3, t_4, t_6, t_8, qbP, qam] at c29
    refine qbO (fun y30 po31 => ?_)
    try simp only [t_0, t_1, t_2, t_3, t_4, t_6, t_8, qbP, qam] at po31
    refine ⟨?_, ?_⟩
    · intro c32
      try simp only [qao, qak, qan, t_0, t_1, t_2, t_3, t_4, t_6, t_8, qbP, qam] at c32
      refine qcb (by first | with_reducible assumption | omega | (simp only [qbP, tZ]; first | done | omega)) (by first | with_reducible assumption | omega | (simp only [qbP, tZ]; first | done | omega)) (by first | with_reducible assumption | omega | (simp only [qbP, tZ]; first | done | omega)) (fun y33 y34 y35 po36 => ?_)
      try simp only [t_0, t_1, t_2, t_3, t_4, t_6, t_8, qbP, qam] at po36
      refine ⟨?_, ?_⟩
      · intro c37
        try simp only [qao, qak, qan, t_0, t_1, t_2, t_3, t_4, t_6, t_8, qbP, qam] at c37
        refine qEY (by first | with_reducible assumption | omega | (simp only [qbP, tZ]; first | done | omega)) (by first | with_reducible assumption | omega | (simp only [qbP, tZ]; first | done | omega)) (by first | with_reducible assumption | omega | (simp only [qbP, tZ]; first | done | omega)) (by first | with_reducible assumption | omega | (simp only [qbP, tZ]; first | done | omega)) (by first | with_reducible assumption | omega | (simp only [qbP, tZ]; first | done | omega)) (fun y38 y39 y40 y41 y42 po43 => ?_)
        refine ⟨?_, ?_⟩
        · intro c44
          try simp only [qao, qak, qan, t_0, t_1, t_2, t_3, t_4, t_6, t_8, qbP, qam] at c44
          refine ⟨?_, ?_⟩
          · intro c45
            try simp only [qao, qak, qan, t_0, t_1, t_2, t_3, t_4, t_6, t_8, qbP, qam] at c45
            refine ⟨?_, ?_⟩
            · intro c46
              try simp only [qao, qak, qan, t_0, t_1, t_2, t_3, t_4, t_6, t_8, qbP, qam] at c46
              intro y47 e48
              have h49 : y47.toInt = (y38 (66 : Int32).toNatClampNeg).toInt := by rw [e48]
              try have h50 := qn0 (s := y38) (x := (66 : Int32)) (by with_reducible assumption) (by first | with_reducible assumption | omega | (simp only [qbP, tZ]; first | done | omega)) (by first | with_reducible assumption | omega | (simp only [qbP, tZ]; first | done | omega))
              try have h51 := qgw (s := y38) (x := (66 : Int32)) (by with_reducible assumption) (by first | with_reducible assumption | omega | (simp only [qbP, tZ]; first | done | omega)) (by first | with_reducible assumption | omega | (simp only [qbP, tZ]; first | done | omega))
              exact hq _ _ _ _ _ _ _ _
            · intro c52
              try simp only [qao, qak, qan, t_0, t_1, t_2, t_3, t_4, t_6, t_8, qbP, qam] at c52
              refine qHm (by first | with_reducible assumption | omega | (simp only [qbP, tZ]; first | done | omega)) (fun y53 => ?_)
              exact hq _ _ _ _ _ _ _ _
          · intro c54
            try simp only [qao, qak, qan, t_0, t_1, t_2, t_3, t_4, t_6, t_8, qbP, qam] at c54
            refine qwr (by first | with_reducible assumption | omega | (simp only [qbP, tZ]; first | done | omega)) (fun y55 => ?_)
            exact hq _ _ _ _ _ _ _ _
        · intro c56
          try simp only [qao, qak, qan, t_0, t_1, t_2, t_3, t_4, t_6, t_8, qbP, qam] at c56
          exact hq _ _ _ _ _ _ _ _
      · intro c57
        try simp only [qao, qak, qan, t_0, t_1, t_2, t_3, t_4, t_6, t_8, qbP, qam] at c57
        exact hq _ _ _ _ _ _ _ _
    · intro c58
      try simp only [qao, qak, qan, t_0, t_1, t_2, t_3, t_4, t_6, t_8, qbP, qam] at c58
      refine qcb (by first | with_reducible assumption | omega | (simp only [qbP, tZ]; first | done | omega)) (by first | with_reducible assumption | omega | (simp only [qbP, tZ]; first | done | omega)) (by first | with_reducible assumption | omega | (simp only [qbP, tZ]; first | done | omega)) (fun y59 y60 y61 po62 => ?_)
      try simp only [t_0, t_1, t_2, t_3, t_4, t_6, t_8, qbP, qam] at po62
      refine ⟨?_, ?_⟩
      · intro c63
        try simp only [qao, qak, qan, t_0, t_1, t_2, t_3, t_4, t_6, t_8, qbP, qam] at c63
        refine qEY (by first | with_reducible assumption | omega | (simp only [qbP, tZ]; first | done | omega)) (by first | with_reducible assumption | omega | (simp only [qbP, tZ]; first | done | omega)) (by first | with_reducible assumption | omega | (simp only [qbP, tZ]; first | done | omega)) (by first | with_reducible assumption | omega | (simp only [qbP, tZ]; first | done | omega)) (by first | with_reducible assumption | omega | (simp only [qbP, tZ]; first | done | omega)) (fun y64 y65 y66 y67 y68 po69 => ?_)
        refine ⟨?_, ?_⟩
        · intro c70
          try simp only [qao, qak, qan, t_0, t_1, t_2, t_3, t_4, t_6, t_8, qbP, qam] at c70
          refine ⟨?_, ?_⟩
          · intro c71
            try simp only [qao, qak, qan, t_0, t_1, t_2, t_3, t_4, t_6, t_8, qbP, qam] at c71
            refine ⟨?_, ?_⟩
            · intro c72
              try simp only [qao, qak, qan, t_0, t_1, t_2, t_3, t_4, t_6, t_8, qbP, qam] at c72
              intro y73 e74
              have h75 : y73.toInt = (y64 (66 : Int32).toNatClampNeg).toInt := by rw [e74]
              try have h76 := qn0 (s := y64) (x := (66 : Int32)) (by with_reducible assumption) (by first | with_reducible assumption | omega | (simp only [qbP, tZ]; first | done | omega)) (by first | with_reducible assumption | omega | (simp only [qbP, tZ]; first | done | omega))
              try have h77 := qgw (s := y64) (x := (66 : Int32)) (by with_reducible assumption) (by first | with_reducible assumption | omega | (simp only [qbP, tZ]; first | done | omega)) (by first | with_reducible assumption | omega | (simp only [qbP, tZ]; first | done | omega))
              exact hq _ _ _ _ _ _ _ _
            · intro c78
              try simp only [qao, qak, qan, t_0, t_1, t_2, t_3, t_4, t_6, t_8, qbP, qam] at c78
              refine qHm (by first | with_reducible assumption | omega | (simp only [qbP, tZ]; first | done | omega)) (fun y79 => ?_)
              exact hq _ _ _ _ _ _ _ _
          · intro c80
            try simp only [qao, qak, qan, t_0, t_1, t_2, t_3, t_4, t_6, t_8, qbP, qam] at c80
            refine qwr (by first | with_reducible assumption | omega | (simp only [qbP, tZ]; first | done | omega)) (fun y81 => ?_)
            exact hq _ _ _ _ _ _ _ _
        · intro c82
          try simp only [qao, qak, qan, t_0, t_1, t_2, t_3, t_4, t_6, t_8, qbP, qam] at c82
          exact hq _ _ _ _ _ _ _ _
      · intro c83
        try simp only [qao, qak, qan, t_0, t_1, t_2, t_3, t_4, t_6, t_8, qbP, qam] at c83
        exact hq _ _ _ _ _ _ _ _
theorem qD5 {jaN : Int32} {jaC : Int32} {jbw : Int32} {jbD : Int32} {jb2 : Nat → Int32} {jbv : Nat → Int32} {jcu : Nat → Int32} {jbT : Nat → Int32} {jcy : Nat → Int32} {jdH : Nat → Int32} {Q : Int32 → Int32 → NI → NI → Int32 → Int32 → NI → NI → Prop} (a0 : rS jaC jaN jb2) (a1 : rC jbD jcu jbT) (a2 : jaC.toInt ≤ 6) (a3 : jbw.toInt ≤ 4) (a4 : 0 ≤ jaC.toInt) (hq : ∀ (r thrown : Int32) (refused : NI) (s : NI) (seedNow leaptMany : Int32) (facts : NI) (stack : NI), Q r thrown refused s seedNow leaptMany facts stack) : ∀ (k : Nat) (jbd : Int32) (ja9 : NI) (f0_s : NI) (jjo jiz : Int32) (jb1 : NI) (jcb : NI) (l1 l2 l3 l4 l5 l6 l7 l8 l9 : Int32), (l2.toInt ≤ 20) → (l3.toInt ≤ 96) → (0 ≤ l5.toInt) → (l5.toInt < jaC.toInt) → (0 ≤ l9.toInt) → (l9.toInt ≤ 20) → 20 - l9.toInt < (k : Int) → qtC jaN jaC jbw jbD jb2 jbv jcu jbT jcy jdH Q k jbd ja9 f0_s jjo jiz jb1 jcb l1 l2 l3 l4 l5 l6 l7 l8 l9 := by
  intro k
  induction k with
  | zero => intro jbd ja9 f0_s jjo jiz jb1 jcb l1 l2 l3 l4 l5 l6 l7 l8 l9 i0 i1 i2 i3 i4 i5 i6; omega
  | succ k ih =>
    intro jbd ja9 f0_s jjo jiz jb1 jcb l1 l2 l3 l4 l5 l6 l7 l8 l9 i0 i1 i2 i3 i4 i5 i6
    refine ⟨?_, ?_⟩
    · intro c1
      try simp only [qao, qak, qan, t_0, t_1, t_2, qcE, t_3, t_4, t_6, t_8, qbP, qam] at c1
      refine ⟨?_, ?_⟩
      · intro c2
        try simp only [qao, qak, qan, t_0, t_1, t_2, qcE, t_3, t_4, t_6, t_8, qbP, qam] at c2
        refine ⟨?_, ?_⟩
        · intro c3
          try simp only [qao, qak, qan, t_0, t_1, t_2, qcE, t_3, t_4, t_6, t_8, qbP, qam] at c3
          exact hq _ _ _ _ _ _ _ _
        · intro c4
          try simp only [qao, qak, qan, t_0, t_1, t_2, qcE, t_3, t_4, t_6, t_8, qbP, qam] at c4
          exact hq _ _ _ _ _ _ _ _
      · intro c5
        try simp only [qao, qak, qan, t_0, t_1, t_2, qcE, t_3, t_4, t_6, t_8, qbP, qam] at c5
        exact hq _ _ _ _ _ _ _ _
    · intro c6
      try simp only [qao, qak, qan, t_0, t_1, t_2, qcE, t_3, t_4, t_6, t_8, qbP, qam] at c6
      intro y7 e8
      try have h9 : (l1 + l9).toInt = (l1.toInt + l9.toInt) := by rw [qap] <;> (try simp only [t_0, t_1, t_2, qcE, t_3, t_4, t_6, t_8, qbP, qam]) <;> omega
      try have h10 : y7.toInt = (l1.toInt + l9.toInt) := by rw [e8]; exact h9
      refine qEY (by first | with_reducible assumption | omega | (simp only [qcE, qbP, tZ]; first | done | omega)) (by first | with_reducible assumption | omega | (simp only [qcE, qbP, tZ]; first | done | omega)) (by first | with_reducible assumption | omega | (simp only [qcE, qbP, tZ]; first | done | omega)) (by first | with_reducible assumption | omega | (simp only [qcE, qbP, tZ]; first | done | omega)) (by first | with_reducible assumption | omega | (simp only [qcE, qbP, tZ]; first | done | omega)) (fun y11 y12 y13 y14 y15 po16 => ?_)
      refine ⟨?_, ?_⟩
      · intro c17
        try simp only [qao, qak, qan, t_0, t_1, t_2, qcE, t_3, t_4, t_6, t_8, qbP, qam] at c17
        refine ⟨?_, ?_⟩
        · intro c18
          try simp only [qao, qak, qan, t_0, t_1, t_2, qcE, t_3, t_4, t_6, t_8, qbP, qam] at c18
          refine qeY (by first | with_reducible assumption | omega | (simp only [qcE, qbP, tZ]; first | done | omega)) (by first | with_reducible assumption | omega | (simp only [qcE, qbP, tZ]; first | done | omega)) (fun y19 po20 => ?_)
          try simp only [t_0, t_1, t_2, qcE, t_3, t_4, t_6, t_8, qbP, qam] at po20
          refine ⟨?_, ?_⟩
          · intro c21
            try simp only [qao, qak, qan, t_0, t_1, t_2, qcE, t_3, t_4, t_6, t_8, qbP, qam] at c21
            intro y22 e23
            try have h24 : (l8 + 1).toInt = (l8.toInt + 1) := by rw [qap] <;> (try simp only [t_0, t_1, t_2, qcE, t_3, t_4, t_6, t_8, qbP, qam]) <;> omega
            try have h25 : y22.toInt = (l8.toInt + 1) := by rw [e23]; exact h24
            intro y26 e27
            try have h28 : (l9 + 1).toInt = (l9.toInt + 1) := by rw [qap] <;> (try simp only [t_0, t_1, t_2, qcE, t_3, t_4, t_6, t_8, qbP, qam]) <;> omega
            try have h29 : y26.toInt = (l9.toInt + 1) := by rw [e27]; exact h28
            exact ih _ _ _ _ _ _ _ _ _ _ _ _ _ _ _ _ (by first | with_reducible assumption | omega | (simp only [qcE, qbP, tZ]; first | done | omega)) (by first | with_reducible assumption | omega | (simp only [qcE, qbP, tZ]; first | done | omega)) (by first | with_reducible assumption | omega | (simp only [qcE, qbP, tZ]; first | done | omega)) (by first | with_reducible assumption | omega | (simp only [qcE, qbP, tZ]; first | done | omega)) (by first | with_reducible assumption | omega | (simp only [qcE, qbP, tZ]; first | done | omega)) (by first | with_reducible assumption | omega | (simp only [qcE, qbP, tZ]; first | done | omega)) (by first | with_reducible assumption | omega | (simp only [qcE, qbP, tZ]; first | done | omega))
          · intro c30
            try simp only [qao, qak, qan, t_0, t_1, t_2, qcE, t_3, t_4, t_6, t_8, qbP, qam] at c30
            intro y31 e32
            try have h33 : (l8 + 0).toInt = (l8.toInt + 0) := by rw [qap] <;> (try simp only [t_0, t_1, t_2, qcE, t_3, t_4, t_6, t_8, qbP, qam]) <;> omega
            try have h34 : y31.toInt = (l8.toInt + 0) := by rw [e32]; exact h33
            intro y35 e36
            try have h37 : (l9 + 1).toInt = (l9.toInt + 1) := by rw [qap] <;> (try simp only [t_0, t_1, t_2, qcE, t_3, t_4, t_6, t_8, qbP, qam]) <;> omega
            try have h38 : y35.toInt = (l9.toInt + 1) := by rw [e36]; exact h37
            exact ih _ _ _ _ _ _ _ _ _ _ _ _ _ _ _ _ (by first | with_reducible assumption | omega | (simp only [qcE, qbP, tZ]; first | done | omega)) (by first | with_reducible assumption | omega | (simp only [qcE, qbP, tZ]; first | done | omega)) (by first | with_reducible assumption | omega | (simp only [qcE, qbP, tZ]; first | done | omega)) (by first | with_reducible assumption | omega | (simp only [qcE, qbP, tZ]; first | done | omega)) (by first | with_reducible assumption | omega | (simp only [qcE, qbP, tZ]; first | done | omega)) (by first | with_reducible assumption | omega | (simp only [qcE, qbP, tZ]; first | done | omega)) (by first | with_reducible assumption | omega | (simp only [qcE, qbP, tZ]; first | done | omega))
        · intro c39
          try simp only [qao, qak, qan, t_0, t_1, t_2, qcE, t_3, t_4, t_6, t_8, qbP, qam] at c39
          refine qeY (by first | with_reducible assumption | omega | (simp only [qcE, qbP, tZ]; first | done | omega)) (by first | with_reducible assumption | omega | (simp only [qcE, qbP, tZ]; first | done | omega)) (fun y40 po41 => ?_)
          try simp only [t_0, t_1, t_2, qcE, t_3, t_4, t_6, t_8, qbP, qam] at po41
          refine ⟨?_, ?_⟩
          · intro c42
            try simp only [qao, qak, qan, t_0, t_1, t_2, qcE, t_3, t_4, t_6, t_8, qbP, qam] at c42
            intro y43 e44
            try have h45 : (l8 + 1).toInt = (l8.toInt + 1) := by rw [qap] <;> (try simp only [t_0, t_1, t_2, qcE, t_3, t_4, t_6, t_8, qbP, qam]) <;> omega
            try have h46 : y43.toInt = (l8.toInt + 1) := by rw [e44]; exact h45
            intro y47 e48
            try have h49 : (l9 + 1).toInt = (l9.toInt + 1) := by rw [qap] <;> (try simp only [t_0, t_1, t_2, qcE, t_3, t_4, t_6, t_8, qbP, qam]) <;> omega
            try have h50 : y47.toInt = (l9.toInt + 1) := by rw [e48]; exact h49
            exact ih _ _ _ _ _ _ _ _ _ _ _ _ _ _ _ _ (by first | with_reducible assumption | omega | (simp only [qcE, qbP, tZ]; first | done | omega)) (by first | with_reducible assumption | omega | (simp only [qcE, qbP, tZ]; first | done | omega)) (by first | with_reducible assumption | omega | (simp only [qcE, qbP, tZ]; first | done | omega)) (by first | with_reducible assumption | omega | (simp only [qcE, qbP, tZ]; first | done | omega)) (by first | with_reducible assumption | omega | (simp only [qcE, qbP, tZ]; first | done | omega)) (by first | with_reducible assumption | omega | (simp only [qcE, qbP, tZ]; first | done | omega)) (by first | with_reducible assumption | omega | (simp only [qcE, qbP, tZ]; first | done | omega))
          · intro c51
            try simp only [qao, qak, qan, t_0, t_1, t_2, qcE, t_3, t_4, t_6, t_8, qbP, qam] at c51
            intro y52 e53
            try have h54 : (l8 + 0).toInt = (l8.toInt + 0) := by rw [qap] <;> (try simp only [t_0, t_1, t_2, qcE, t_3, t_4, t_6, t_8, qbP, qam]) <;> omega
            try have h55 : y52.toInt = (l8.toInt + 0) := by rw [e53]; exact h54
            intro y56 e57
            try have h58 : (l9 + 1).toInt = (l9.toInt + 1) := by rw [qap] <;> (try simp only [t_0, t_1, t_2, qcE, t_3, t_4, t_6, t_8, qbP, qam]) <;> omega
            try have h59 : y56.toInt = (l9.toInt + 1) := by rw [e57]; exact h58
            exact ih _ _ _ _ _ _ _ _ _ _ _ _ _ _ _ _ (by first | with_reducible assumption | omega | (simp only [qcE, qbP, tZ]; first | done | omega)) (by first | with_reducible assumption | omega | (simp only [qcE, qbP, tZ]; first | done | omega)) (by first | with_reducible assumption | omega | (simp only [qcE, qbP, tZ]; first | done | omega)) (by first | with_reducible assumption | omega | (simp only [qcE, qbP, tZ]; first | done | omega)) (by first | with_reducible assumption | omega | (simp only [qcE, qbP, tZ]; first | done | omega)) (by first | with_reducible assumption | omega | (simp only [qcE, qbP, tZ]; first | done | omega)) (by first | with_reducible assumption | omega | (simp only [qcE, qbP, tZ]; first | done | omega))
      · intro c60
        try simp only [qao, qak, qan, t_0, t_1, t_2, qcE, t_3, t_4, t_6, t_8, qbP, qam] at c60
        refine ⟨?_, ?_⟩
        · intro c61
          try simp only [qao, qak, qan, t_0, t_1, t_2, qcE, t_3, t_4, t_6, t_8, qbP, qam] at c61
          refine ⟨?_, ?_⟩
          · intro c62
            try simp only [qao, qak, qan, t_0, t_1, t_2, qcE, t_3, t_4, t_6, t_8, qbP, qam] at c62
            refine qeY (by first | with_reducible assumption | omega | (simp only [qcE, qbP, tZ]; first | done | omega)) (by first | with_reducible assumption | omega | (simp only [qcE, qbP, tZ]; first | done | omega)) (fun y63 po64 => ?_)
            try simp only [t_0, t_1, t_2, qcE, t_3, t_4, t_6, t_8, qbP, qam] at po64
            refine ⟨?_, ?_⟩
            · intro c65
              try simp only [qao, qak, qan, t_0, t_1, t_2, qcE, t_3, t_4, t_6, t_8, qbP, qam] at c65
              intro y66 e67
              try have h68 : (l8 + 1).toInt = (l8.toInt + 1) := by rw [qap] <;> (try simp only [t_0, t_1, t_2, qcE, t_3, t_4, t_6, t_8, qbP, qam]) <;> omega
              try have h69 : y66.toInt = (l8.toInt + 1) := by rw [e67]; exact h68
              intro y70 e71
              try have h72 : (l9 + 1).toInt = (l9.toInt + 1) := by rw [qap] <;> (try simp only [t_0, t_1, t_2, qcE, t_3, t_4, t_6, t_8, qbP, qam]) <;> omega
              try have h73 : y70.toInt = (l9.toInt + 1) := by rw [e71]; exact h72
              exact ih _ _ _ _ _ _ _ _ _ _ _ _ _ _ _ _ (by first | with_reducible assumption | omega | (simp only [qcE, qbP, tZ]; first | done | omega)) (by first | with_reducible assumption | omega | (simp only [qcE, qbP, tZ]; first | done | omega)) (by first | with_reducible assumption | omega | (simp only [qcE, qbP, tZ]; first | done | omega)) (by first | with_reducible assumption | omega | (simp only [qcE, qbP, tZ]; first | done | omega)) (by first | with_reducible assumption | omega | (simp only [qcE, qbP, tZ]; first | done | omega)) (by first | with_reducible assumption | omega | (simp only [qcE, qbP, tZ]; first | done | omega)) (by first | with_reducible assumption | omega | (simp only [qcE, qbP, tZ]; first | done | omega))
            · intro c74
              try simp only [qao, qak, qan, t_0, t_1, t_2, qcE, t_3, t_4, t_6, t_8, qbP, qam] at c74
              intro y75 e76
              try have h77 : (l8 + 0).toInt = (l8.toInt + 0) := by rw [qap] <;> (try simp only [t_0, t_1, t_2, qcE, t_3, t_4, t_6, t_8, qbP, qam]) <;> omega
              try have h78 : y75.toInt = (l8.toInt + 0) := by rw [e76]; exact h77
              intro y79 e80
              try have h81 : (l9 + 1).toInt = (l9.toInt + 1) := by rw [qap] <;> (try simp only [t_0, t_1, t_2, qcE, t_3, t_4, t_6, t_8, qbP, qam]) <;> omega
              try have h82 : y79.toInt = (l9.toInt + 1) := by rw [e80]; exact h81
              exact ih _ _ _ _ _ _ _ _ _ _ _ _ _ _ _ _ (by first | with_reducible assumption | omega | (simp only [qcE, qbP, tZ]; first | done | omega)) (by first | with_reducible assumption | omega | (simp only [qcE, qbP, tZ]; first | done | omega)) (by first | with_reducible assumption | omega | (simp only [qcE, qbP, tZ]; first | done | omega)) (by first | with_reducible assumption | omega | (simp only [qcE, qbP, tZ]; first | done | omega)) (by first | with_reducible assumption | omega | (simp only [qcE, qbP, tZ]; first | done | omega)) (by first | with_reducible assumption | omega | (simp only [qcE, qbP, tZ]; first | done | omega)) (by first | with_reducible assumption | omega | (simp only [qcE, qbP, tZ]; first | done | omega))
          · intro c83
            try simp only [qao, qak, qan, t_0, t_1, t_2, qcE, t_3, t_4, t_6, t_8, qbP, qam] at c83
            refine qeY (by first | with_reducible assumption | omega | (simp only [qcE, qbP, tZ]; first | done | omega)) (by first | with_reducible assumption | omega | (simp only [qcE, qbP, tZ]; first | done | omega)) (fun y84 po85 => ?_)
            try simp only [t_0, t_1, t_2, qcE, t_3, t_4, t_6, t_8, qbP, qam] at po85
            refine ⟨?_, ?_⟩
            · intro c86
              try simp only [qao, qak, qan, t_0, t_1, t_2, qcE, t_3, t_4, t_6, t_8, qbP, qam] at c86
              intro y87 e88
              try have h89 : (l8 + 1).toInt = (l8.toInt + 1) := by rw [qap] <;> (try simp only [t_0, t_1, t_2, qcE, t_3, t_4, t_6, t_8, qbP, qam]) <;> omega
              try have h90 : y87.toInt = (l8.toInt + 1) := by rw [e88]; exact h89
              intro y91 e92
              try have h93 : (l9 + 1).toInt = (l9.toInt + 1) := by rw [qap] <;> (try simp only [t_0, t_1, t_2, qcE, t_3, t_4, t_6, t_8, qbP, qam]) <;> omega
              try have h94 : y91.toInt = (l9.toInt + 1) := by rw [e92]; exact h93
              exact ih _ _ _ _ _ _ _ _ _ _ _ _ _ _ _ _ (by first | with_reducible assumption | omega | (simp only [qcE, qbP, tZ]; first | done | omega)) (by first | with_reducible assumption | omega | (simp only [qcE, qbP, tZ]; first | done | omega)) (by first | with_reducible assumption | omega | (simp only [qcE, qbP, tZ]; first | done | omega)) (by first | with_reducible assumption | omega | (simp only [qcE, qbP, tZ]; first | done | omega)) (by first | with_reducible assumption | omega | (simp only [qcE, qbP, tZ]; first | done | omega)) (by first | with_reducible assumption | omega | (simp only [qcE, qbP, tZ]; first | done | omega)) (by first | with_reducible assumption | omega | (simp only [qcE, qbP, tZ]; first | done | omega))
            · intro c95
              try simp only [qao, qak, qan, t_0, t_1, t_2, qcE, t_3, t_4, t_6, t_8, qbP, qam] at c95
              intro y96 e97
              try have h98 : (l8 + 0).toInt = (l8.toInt + 0) := by rw [qap] <;> (try simp only [t_0, t_1, t_2, qcE, t_3, t_4, t_6, t_8, qbP, qam]) <;> omega
              try have h99 : y96.toInt = (l8.toInt + 0) := by rw [e97]; exact h98
              intro y100 e101
              try have h102 : (l9 + 1).toInt = (l9.toInt + 1) := by rw [qap] <;> (try simp only [t_0, t_1, t_2, qcE, t_3, t_4, t_6, t_8, qbP, qam]) <;> omega
              try have h103 : y100.toInt = (l9.toInt + 1) := by rw [e101]; exact h102
              exact ih _ _ _ _ _ _ _ _ _ _ _ _ _ _ _ _ (by first | with_reducible assumption | omega | (simp only [qcE, qbP, tZ]; first | done | omega)) (by first | with_reducible assumption | omega | (simp only [qcE, qbP, tZ]; first | done | omega)) (by first | with_reducible assumption | omega | (simp only [qcE, qbP, tZ]; first | done | omega)) (by first | with_reducible assumption | omega | (simp only [qcE, qbP, tZ]; first | done | omega)) (by first | with_reducible assumption | omega | (simp only [qcE, qbP, tZ]; first | done | omega)) (by first | with_reducible assumption | omega | (simp only [qcE, qbP, tZ]; first | done | omega)) (by first | with_reducible assumption | omega | (simp only [qcE, qbP, tZ]; first | done | omega))
        · intro c104
          try simp only [qao, qak, qan, t_0, t_1, t_2, qcE, t_3, t_4, t_6, t_8, qbP, qam] at c104
          refine ⟨?_, ?_⟩
          · intro c105
            try simp only [qao, qak, qan, t_0, t_1, t_2, qcE, t_3, t_4, t_6, t_8, qbP, qam] at c105
            refine qeY (by first | with_reducible assumption | omega | (simp only [qcE, qbP, tZ]; first | done | omega)) (by first | with_reducible assumption | omega | (simp only [qcE, qbP, tZ]; first | done | omega)) (fun y106 po107 => ?_)
            try simp only [t_0, t_1, t_2, qcE, t_3, t_4, t_6, t_8, qbP, qam] at po107
            refine ⟨?_, ?_⟩
            · intro c108
              try simp only [qao, qak, qan, t_0, t_1, t_2, qcE, t_3, t_4, t_6, t_8, qbP, qam] at c108
              intro y109 e110
              try have h111 : (l8 + 1).toInt = (l8.toInt + 1) := by rw [qap] <;> (try simp only [t_0, t_1, t_2, qcE, t_3, t_4, t_6, t_8, qbP, qam]) <;> omega
              try have h112 : y109.toInt = (l8.toInt + 1) := by rw [e110]; exact h111
              intro y113 e114
              try have h115 : (l9 + 1).toInt = (l9.toInt + 1) := by rw [qap] <;> (try simp only [t_0, t_1, t_2, qcE, t_3, t_4, t_6, t_8, qbP, qam]) <;> omega
              try have h116 : y113.toInt = (l9.toInt + 1) := by rw [e114]; exact h115
              exact ih _ _ _ _ _ _ _ _ _ _ _ _ _ _ _ _ (by first | with_reducible assumption | omega | (simp only [qcE, qbP, tZ]; first | done | omega)) (by first | with_reducible assumption | omega | (simp only [qcE, qbP, tZ]; first | done | omega)) (by first | with_reducible assumption | omega | (simp only [qcE, qbP, tZ]; first | done | omega)) (by first | with_reducible assumption | omega | (simp only [qcE, qbP, tZ]; first | done | omega)) (by first | with_reducible assumption | omega | (simp only [qcE, qbP, tZ]; first | done | omega)) (by first | with_reducible assumption | omega | (simp only [qcE, qbP, tZ]; first | done | omega)) (by first | with_reducible assumption | omega | (simp only [qcE, qbP, tZ]; first | done | omega))
            · intro c117
              try simp only [qao, qak, qan, t_0, t_1, t_2, qcE, t_3, t_4, t_6, t_8, qbP, qam] at c117
              intro y118 e119
              try have h120 : (l8 + 0).toInt = (l8.toInt + 0) := by rw [qap] <;> (try simp only [t_0, t_1, t_2, qcE, t_3, t_4, t_6, t_8, qbP, qam]) <;> omega
              try have h121 : y118.toInt = (l8.toInt + 0) := by rw [e119]; exact h120
              intro y122 e123
              try have h124 : (l9 + 1).toInt = (l9.toInt + 1) := by rw [qap] <;> (try simp only [t_0, t_1, t_2, qcE, t_3, t_4, t_6, t_8, qbP, qam]) <;> omega
              try have h125 : y122.toInt = (l9.toInt + 1) := by rw [e123]; exact h124
              exact ih _ _ _ _ _ _ _ _ _ _ _ _ _ _ _ _ (by first | with_reducible assumption | omega | (simp only [qcE, qbP, tZ]; first | done | omega)) (by first | with_reducible assumption | omega | (simp only [qcE, qbP, tZ]; first | done | omega)) (by first | with_reducible assumption | omega | (simp only [qcE, qbP, tZ]; first | done | omega)) (by first | with_reducible assumption | omega | (simp only [qcE, qbP, tZ]; first | done | omega)) (by first | with_reducible assumption | omega | (simp only [qcE, qbP, tZ]; first | done | omega)) (by first | with_reducible assumption | omega | (simp only [qcE, qbP, tZ]; first | done | omega)) (by first | with_reducible assumption | omega | (simp only [qcE, qbP, tZ]; first | done | omega))
          · intro c126
            try simp only [qao, qak, qan, t_0, t_1, t_2, qcE, t_3, t_4, t_6, t_8, qbP, qam] at c126
            refine qeY (by first | with_reducible assumption | omega | (simp only [qcE, qbP, tZ]; first | done | omega)) (by first | with_reducible assumption | omega | (simp only [qcE, qbP, tZ]; first | done | omega)) (fun y127 po128 => ?_)
            try simp only [t_0, t_1, t_2, qcE, t_3, t_4, t_6, t_8, qbP, qam] at po128
            refine ⟨?_, ?_⟩
            · intro c129
              try simp only [qao, qak, qan, t_0, t_1, t_2, qcE, t_3, t_4, t_6, t_8, qbP, qam] at c129
              intro y130 e131
              try have h132 : (l8 + 1).toInt = (l8.toInt + 1) := by rw [qap] <;> (try simp only [t_0, t_1, t_2, qcE, t_3, t_4, t_6, t_8, qbP, qam]) <;> omega
              try have h133 : y130.toInt = (l8.toInt + 1) := by rw [e131]; exact h132
              intro y134 e135
              try have h136 : (l9 + 1).toInt = (l9.toInt + 1) := by rw [qap] <;> (try simp only [t_0, t_1, t_2, qcE, t_3, t_4, t_6, t_8, qbP, qam]) <;> omega
              try have h137 : y134.toInt = (l9.toInt + 1) := by rw [e135]; exact h136
              exact ih _ _ _ _ _ _ _ _ _ _ _ _ _ _ _ _ (by first | with_reducible assumption | omega | (simp only [qcE, qbP, tZ]; first | done | omega)) (by first | with_reducible assumption | omega | (simp only [qcE, qbP, tZ]; first | done | omega)) (by first | with_reducible assumption | omega | (simp only [qcE, qbP, tZ]; first | done | omega)) (by first | with_reducible assumption | omega | (simp only [qcE, qbP, tZ]; first | done | omega)) (by first | with_reducible assumption | omega | (simp only [qcE, qbP, tZ]; first | done | omega)) (by first | with_reducible assumption | omega | (simp only [qcE, qbP, tZ]; first | done | omega)) (by first | with_reducible assumption | omega | (simp only [qcE, qbP, tZ]; first | done | omega))
            · intro c138
              try simp only [qao, qak, qan, t_0, t_1, t_2, qcE, t_3, t_4, t_6, t_8, qbP, qam] at c138
              intro y139 e140
              try have h141 : (l8 + 0).toInt = (l8.toInt + 0) := by rw [qap] <;> (try simp only [t_0, t_1, t_2, qcE, t_3, t_4, t_6, t_8, qbP, qam]) <;> omega
              try have h142 : y139.toInt = (l8.toInt + 0) := by rw [e140]; exact h141
              intro y143 e144
              try have h145 : (l9 + 1).toInt = (l9.toInt + 1) := by rw [qap] <;> (try simp only [t_0, t_1, t_2, qcE, t_3, t_4, t_6, t_8, qbP, qam]) <;> omega
              try have h146 : y143.toInt = (l9.toInt + 1) := by rw [e144]; exact h145
              exact ih _ _ _ _ _ _ _ _ _ _ _ _ _ _ _ _ (by first | with_reducible assumption | omega | (simp only [qcE, qbP, tZ]; first | done | omega)) (by first | with_reducible assumption | omega | (simp only [qcE, qbP, tZ]; first | done | omega)) (by first | with_reducible assumption | omega | (simp only [qcE, qbP, tZ]; first | done | omega)) (by first | with_reducible assumption | omega | (simp only [qcE, qbP, tZ]; first | done | omega)) (by first | with_reducible assumption | omega | (simp only [qcE, qbP, tZ]; first | done | omega)) (by first | with_reducible assumption | omega | (simp only [qcE, qbP, tZ]; first | done | omega)) (by first | with_reducible assumption | omega | (simp only [qcE, qbP, tZ]; first | done | omega))
theorem qaCu {jaN : Int32} {jaC : Int32} {jbw : Int32} {jbD : Int32} {jb2 : Nat → Int32} {jbv : Nat → Int32} {jcu : Nat → Int32} {jbT : Nat → Int32} {jcy : Nat → Int32} {jdH : Nat → Int32} {jbd : Int32} {ja9 : Nat → Int32} {f0_s : Nat → Int32} {jjo : Int32} {jiz : Int32} {jb1 : Nat → Int32} {jcb : Nat → Int32} {p1 : Int32} {p2 : Int32} {p3 : Int32} {p4 : Int32} {p5 : Int32} {Q : Int32 → Int32 → NI → NI → Int32 → Int32 → NI → NI → Prop} (a0 : rS jaC jaN jb2) (a1 : rC jbD jcu jbT) (a2 : jaC.toInt ≤ 6) (a3 : jbw.toInt ≤ 4) (a4 : 0 ≤ jaC.toInt) (hq : ∀ (r thrown : Int32) (refused : NI) (s : NI) (seedNow leaptMany : Int32) (facts : NI) (stack : NI), Q r thrown refused s seedNow leaptMany facts stack) : qabE jaN jaC jbw jbD jb2 jbv jcu jbT jcy jdH jbd ja9 f0_s jjo jiz jb1 jcb p1 p2 p3 p4 p5 Q := by
  refine qbO (fun y147 po148 => ?_)
  try simp only [t_0, t_1, t_2, qcE, t_3, t_4, t_6, t_8, qbP, qam] at po148
  refine ⟨?_, ?_⟩
  · intro c149
    try simp only [qao, qak, qan, t_0, t_1, t_2, qcE, t_3, t_4, t_6, t_8, qbP, qam] at c149
    refine qcb (by first | with_reducible assumption | omega | (simp only [qcE, qbP, tZ]; first | done | omega)) (by first | with_reducible assumption | omega | (simp only [qcE, qbP, tZ]; first | done | omega)) (by first | with_reducible assumption | omega | (simp only [qcE, qbP, tZ]; first | done | omega)) (fun y150 y151 y152 po153 => ?_)
    try simp only [t_0, t_1, t_2, qcE, t_3, t_4, t_6, t_8, qbP, qam] at po153
    refine ⟨?_, ?_⟩
    · intro c154
      try simp only [qao, qak, qan, t_0, t_1, t_2, qcE, t_3, t_4, t_6, t_8, qbP, qam] at c154
      refine ⟨21, qD5 (by first | with_reducible assumption | omega | (simp only [qcE, qbP, tZ]; first | done | omega)) (by first | with_reducible assumption | omega | (simp only [qcE, qbP, tZ]; first | done | omega)) (by first | with_reducible assumption | omega | (simp only [qcE, qbP, tZ]; first | done | omega)) (by first | with_reducible assumption | omega | (simp only [qcE, qbP, tZ]; first | done | omega)) (by first | with_reducible assumption | omega | (simp only [qcE, qbP, tZ]; first | done | omega)) hq 21 _ _ _ _ _ _ _ _ _ _ _ _ _ _ _ _ (by first | with_reducible assumption | omega | (simp only [qcE, qbP, tZ]; first | done | omega)) (by first | with_reducible assumption | omega | (simp only [qcE, qbP, tZ]; first | done | omega)) (by first | with_reducible assumption | omega | (simp only [qcE, qbP, tZ]; first | done | omega)) (by first | with_reducible assumption | omega | (simp only [qcE, qbP, tZ]; first | done | omega)) (by first | with_reducible assumption | omega | (simp only [qcE, qbP, tZ]; first | done | omega)) (by first | with_reducible assumption | omega | (simp only [qcE, qbP, tZ]; first | done | omega)) (by first | with_reducible assumption | omega | (simp only [qcE, qbP, tZ]; first | done | omega))⟩
    · intro c155
      try simp only [qao, qak, qan, t_0, t_1, t_2, qcE, t_3, t_4, t_6, t_8, qbP, qam] at c155
      exact hq _ _ _ _ _ _ _ _
  · intro c156
    try simp only [qao, qak, qan, t_0, t_1, t_2, qcE, t_3, t_4, t_6, t_8, qbP, qam] at c156
    refine qbO (fun y157 po158 => ?_)
    try simp only [t_0, t_1, t_2, qcE, t_3, t_4, t_6, t_8, qbP, qam] at po158
    refine ⟨?_, ?_⟩
    · intro c159
      try simp only [qao, qak, qan, t_0, t_1, t_2, qcE, t_3, t_4, t_6, t_8, qbP, qam] at c159
      refine qcb (by first | with_reducible assumption | omega | (simp only [qcE, qbP, tZ]; first | done | omega)) (by first | with_reducible assumption | omega | (simp only [qcE, qbP, tZ]; first | done | omega)) (by first | with_reducible assumption | omega | (simp only [qcE, qbP, tZ]; first | done | omega)) (fun y160 y161 y162 po163 => ?_)
      try simp only [t_0, t_1, t_2, qcE, t_3, t_4, t_6, t_8, qbP, qam] at po163
      refine ⟨?_, ?_⟩
      · intro c164
        try simp only [qao, qak, qan, t_0, t_1, t_2, qcE, t_3, t_4, t_6, t_8, qbP, qam] at c164
        refine ⟨21, qD5 (by first | with_reducible assumption | omega | (simp only [qcE, qbP, tZ]; first | done | omega)) (by first | with_reducible assumption | omega | (simp only [qcE, qbP, tZ]; first | done | omega)) (by first | with_reducible assumption | omega | (simp only [qcE, qbP, tZ]; first | done | omega)) (by first | with_reducible assumption | omega | (simp only [qcE, qbP, tZ]; first | done | omega)) (by first | with_reducible assumption | omega | (simp only [qcE, qbP, tZ]; first | done | omega)) hq 21 _ _ _ _ _ _ _ _ _ _ _ _ _ _ _ _ (by first | with_reducible assumption | omega | (simp only [qcE, qbP, tZ]; first | done | omega)) (by first | with_reducible assumption | omega | (simp only [qcE, qbP, tZ]; first | done | omega)) (by first | with_reducible assumption | omega | (simp only [qcE, qbP, tZ]; first | done | omega)) (by first | with_reducible assumption | omega | (simp only [qcE, qbP, tZ]; first | done | omega)) (by first | with_reducible assumption | omega | (simp only [qcE, qbP, tZ]; first | done | omega)) (by first | with_reducible assumption | omega | (simp only [qcE, qbP, tZ]; first | done | omega)) (by first | with_reducible assumption | omega | (simp only [qcE, qbP, tZ]; first | done | omega))⟩
      · intro c165
        try simp only [qao, qak, qan, t_0, t_1, t_2, qcE, t_3, t_4, t_6, t_8, qbP, qam] at c165
        exact hq _ _ _ _ _ _ _ _
    · intro c166
      try simp only [qao, qak, qan, t_0, t_1, t_2, qcE, t_3, t_4, t_6, t_8, qbP, qam] at c166
      refine qbO (fun y167 po168 => ?_)
      try simp only [t_0, t_1, t_2, qcE, t_3, t_4, t_6, t_8, qbP, qam] at po168
      refine ⟨?_, ?_⟩
      · intro c169
        try simp only [qao, qak, qan, t_0, t_1, t_2, qcE, t_3, t_4, t_6, t_8, qbP, qam] at c169
        refine qcb (by first | with_reducible assumption | omega | (simp only [qcE, qbP, tZ]; first | done | omega)) (by first | with_reducible assumption | omega | (simp only [qcE, qbP, tZ]; first | done | omega)) (by first | with_reducible assumption | omega | (simp only [qcE, qbP, tZ]; first | done | omega)) (fun y170 y171 y172 po173 => ?_)
        try simp only [t_0, t_1, t_2, qcE, t_3, t_4, t_6, t_8, qbP, qam] at po173
        refine ⟨?_, ?_⟩
        · intro c174
          try simp only [qao, qak, qan, t_0, t_1, t_2, qcE, t_3, t_4, t_6, t_8, qbP, qam] at c174
          refine ⟨21, qD5 (by first | with_reducible assumption | omega | (simp only [qcE, qbP, tZ]; first | done | omega)) (by first | with_reducible assumption | omega | (simp only [qcE, qbP, tZ]; first | done | omega)) (by first | with_reducible assumption | omega | (simp only [qcE, qbP, tZ]; first | done | omega)) (by first | with_reducible assumption | omega | (simp only [qcE, qbP, tZ]; first | done | omega)) (by first | with_reducible assumption | omega | (simp only [qcE, qbP, tZ]; first | done | omega)) hq 21 _ _ _ _ _ _ _ _ _ _ _ _ _ _ _ _ (by first | with_reducible assumption | omega | (simp only [qcE, qbP, tZ]; first | done | omega)) (by first | with_reducible assumption | omega | (simp only [qcE, qbP, tZ]; first | done | omega)) (by first | with_reducible assumption | omega | (simp only [qcE, qbP, tZ]; first | done | omega)) (by first | with_reducible assumption | omega | (simp only [qcE, qbP, tZ]; first | done | omega)) (by first | with_reducible assumption | omega | (simp only [qcE, qbP, tZ]; first | done | omega)) (by first | with_reducible assumption | omega | (simp only [qcE, qbP, tZ]; first | done | omega)) (by first | with_reducible assumption | omega | (simp only [qcE, qbP, tZ]; first | done | omega))⟩
        · intro c175
          try simp only [qao, qak, qan, t_0, t_1, t_2, qcE, t_3, t_4, t_6, t_8, qbP, qam] at c175
          exact hq _ _ _ _ _ _ _ _
      · intro c176
        try simp only [qao, qak, qan, t_0, t_1, t_2, qcE, t_3, t_4, t_6, t_8, qbP, qam] at c176
        try have h177 : (jaC - 1).toInt = (jaC.toInt - 1) := by rw [qpT] <;> (try simp only [t_0, t_1, t_2, qcE, t_3, t_4, t_6, t_8, qbP, qam]) <;> omega
        refine qbO (fun y178 po179 => ?_)
        try simp only [t_0, t_1, t_2, qcE, t_3, t_4, t_6, t_8, qbP, qam] at po179
        refine ⟨?_, ?_⟩
        · intro c180
          try simp only [qao, qak, qan, t_0, t_1, t_2, qcE, t_3, t_4, t_6, t_8, qbP, qam] at c180
          refine qcb (by first | with_reducible assumption | omega | (simp only [qcE, qbP, tZ]; first | done | omega)) (by first | with_reducible assumption | omega | (simp only [qcE, qbP, tZ]; first | done | omega)) (by first | with_reducible assumption | omega | (simp only [qcE, qbP, tZ]; first | done | omega)) (fun y181 y182 y183 po184 => ?_)
          try simp only [t_0, t_1, t_2, qcE, t_3, t_4, t_6, t_8, qbP, qam] at po184
          refine ⟨?_, ?_⟩
          · intro c185
            try simp only [qao, qak, qan, t_0, t_1, t_2, qcE, t_3, t_4, t_6, t_8, qbP, qam] at c185
            refine ⟨21, qD5 (by first | with_reducible assumption | omega | (simp only [qcE, qbP, tZ]; first | done | omega)) (by first | with_reducible assumption | omega | (simp only [qcE, qbP, tZ]; first | done | omega)) (by first | with_reducible assumption | omega | (simp only [qcE, qbP, tZ]; first | done | omega)) (by first | with_reducible assumption | omega | (simp only [qcE, qbP, tZ]; first | done | omega)) (by first | with_reducible assumption | omega | (simp only [qcE, qbP, tZ]; first | done | omega)) hq 21 _ _ _ _ _ _ _ _ _ _ _ _ _ _ _ _ (by first | with_reducible assumption | omega | (simp only [qcE, qbP, tZ]; first | done | omega)) (by first | with_reducible assumption | omega | (simp only [qcE, qbP, tZ]; first | done | omega)) (by first | with_reducible assumption | omega | (simp only [qcE, qbP, tZ]; first | done | omega)) (by first | with_reducible assumption | omega | (simp only [qcE, qbP, tZ]; first | done | omega)) (by first | with_reducible assumption | omega | (simp only [qcE, qbP, tZ]; first | done | omega)) (by first | with_reducible assumption | omega | (simp only [qcE, qbP, tZ]; first | done | omega)) (by first | with_reducible assumption | omega | (simp only [qcE, qbP, tZ]; first | done | omega))⟩
          · intro c186
            try simp only [qao, qak, qan, t_0, t_1, t_2, qcE, t_3, t_4, t_6, t_8, qbP, qam] at c186
            exact hq _ _ _ _ _ _ _ _
        · intro c187
          try simp only [qao, qak, qan, t_0, t_1, t_2, qcE, t_3, t_4, t_6, t_8, qbP, qam] at c187
          refine qcb (by first | with_reducible assumption | omega | (simp only [qcE, qbP, tZ]; first | done | omega)) (by first | with_reducible assumption | omega | (simp only [qcE, qbP, tZ]; first | done | omega)) (by first | with_reducible assumption | omega | (simp only [qcE, qbP, tZ]; first | done | omega)) (fun y188 y189 y190 po191 => ?_)
          try simp only [t_0, t_1, t_2, qcE, t_3, t_4, t_6, t_8, qbP, qam] at po191
          refine ⟨?_, ?_⟩
          · intro c192
            try simp only [qao, qak, qan, t_0, t_1, t_2, qcE, t_3, t_4, t_6, t_8, qbP, qam] at c192
            refine ⟨21, qD5 (by first | with_reducible assumption | omega | (simp only [qcE, qbP, tZ]; first | done | omega)) (by first | with_reducible assumption | omega | (simp only [qcE, qbP, tZ]; first | done | omega)) (by first | with_reducible assumption | omega | (simp only [qcE, qbP, tZ]; first | done | omega)) (by first | with_reducible assumption | omega | (simp only [qcE, qbP, tZ]; first | done | omega)) (by first | with_reducible assumption | omega | (simp only [qcE, qbP, tZ]; first | done | omega)) hq 21 _ _ _ _ _ _ _ _ _ _ _ _ _ _ _ _ (by first | with_reducible assumption | omega | (simp only [qcE, qbP, tZ]; first | done | omega)) (by first | with_reducible assumption | omega | (simp only [qcE, qbP, tZ]; first | done | omega)) (by first | with_reducible assumption | omega | (simp only [qcE, qbP, tZ]; first | done | omega)) (by first | with_reducible assumption | omega | (simp only [qcE, qbP, tZ]; first | done | omega)) (by first | with_reducible assumption | omega | (simp only [qcE, qbP, tZ]; first | done | omega)) (by first | with_reducible assumption | omega | (simp only [qcE, qbP, tZ]; first | done | omega)) (by first | with_reducible assumption | omega | (simp only [qcE, qbP, tZ]; first | done | omega))⟩
          · intro c193
            try simp only [qao, qak, qan, t_0, t_1, t_2, qcE, t_3, t_4, t_6, t_8, qbP, qam] at c193
            exact hq _ _ _ _ _ _ _ _
theorem qap4 {jaN : Int32} {jbw : Int32} {jbv : Nat → Int32} {jcy : Nat → Int32} {Q : Int32 → Int32 → NI → Prop} (a0 : 0 ≤ jaN.toInt) (a1 : jaN.toInt ≤ 8) (a2 : jbw.toInt ≤ 4) (hq : ∀ (r thrown : Int32) (refused : NI), Q r thrown refused) : ∀ (k : Nat) (jbd : Int32) (ja9 : NI) (l1 l2 l3 l4 : Int32), (0 ≤ l1.toInt) → (l1.toInt < 8) → (-1 ≤ l3.toInt) → (l3.toInt < 8) → (0 ≤ l4.toInt) → (l4.toInt ≤ 8) → 8 - l4.toInt < (k : Int) → qnY jaN jbw jbv jcy Q k jbd ja9 l1 l2 l3 l4 := by
  intro k
  induction k with
  | zero => intro jbd ja9 l1 l2 l3 l4 i0 i1 i2 i3 i4 i5 i6; omega
  | succ k ih =>
    intro jbd ja9 l1 l2 l3 l4 i0 i1 i2 i3 i4 i5 i6
    refine ⟨?_, ?_⟩
    · intro c1
      try simp only [qao, qak, qan, tY] at c1
      refine ⟨?_, ?_⟩
      · intro c2
        try simp only [qao, qak, qan, tY] at c2
        exact hq _ _ _
      · intro c3
        try simp only [qao, qak, qan, tY] at c3
        refine ⟨?_, ?_⟩
        · intro c4
          try simp only [qao, qak, qan, tY] at c4
          refine qBt (by first | with_reducible assumption | omega | (simp only [tZ]; first | done | omega)) (by first | with_reducible assumption | omega | (simp only [tZ]; first | done | omega)) (by first | with_reducible assumption | omega | (simp only [tZ]; first | done | omega)) (by first | with_reducible assumption | omega | (simp only [tZ]; first | done | omega)) (fun y5 => ?_)
          exact hq _ _ _
        · intro c6
          try simp only [qao, qak, qan, tY] at c6
          exact hq _ _ _
    · intro c7
      try simp only [qao, qak, qan, tY] at c7
      refine qN5 (by first | with_reducible assumption | omega | (simp only [tZ]; first | done | omega)) (by first | with_reducible assumption | omega | (simp only [tZ]; first | done | omega)) (by first | with_reducible assumption | omega | (simp only [tZ]; first | done | omega)) (fun y8 po9 => ?_)
      try simp only [tY] at po9
      refine ⟨?_, ?_⟩
      · intro c10
        try simp only [qao, qak, qan, tY] at c10
        intro y11 e12
        try have h13 : (l4 + 1).toInt = (l4.toInt + 1) := by rw [qap] <;> (try simp only [tY]) <;> omega
        try have h14 : y11.toInt = (l4.toInt + 1) := by rw [e12]; exact h13
        exact ih _ _ _ _ _ _ (by first | with_reducible assumption | omega | (simp only [tZ]; first | done | omega)) (by first | with_reducible assumption | omega | (simp only [tZ]; first | done | omega)) (by first | with_reducible assumption | omega | (simp only [tZ]; first | done | omega)) (by first | with_reducible assumption | omega | (simp only [tZ]; first | done | omega)) (by first | with_reducible assumption | omega | (simp only [tZ]; first | done | omega)) (by first | with_reducible assumption | omega | (simp only [tZ]; first | done | omega)) (by first | with_reducible assumption | omega | (simp only [tZ]; first | done | omega))
      · intro c15
        try simp only [qao, qak, qan, tY] at c15
        refine ⟨?_, ?_⟩
        · intro c16
          try simp only [qao, qak, qan, tY] at c16
          intro y17 e18
          try have h19 : (l4 + 1).toInt = (l4.toInt + 1) := by rw [qap] <;> (try simp only [tY]) <;> omega
          try have h20 : y17.toInt = (l4.toInt + 1) := by rw [e18]; exact h19
          exact ih _ _ _ _ _ _ (by first | with_reducible assumption | omega | (simp only [tZ]; first | done | omega)) (by first | with_reducible assumption | omega | (simp only [tZ]; first | done | omega)) (by first | with_reducible assumption | omega | (simp only [tZ]; first | done | omega)) (by first | with_reducible assumption | omega | (simp only [tZ]; first | done | omega)) (by first | with_reducible assumption | omega | (simp only [tZ]; first | done | omega)) (by first | with_reducible assumption | omega | (simp only [tZ]; first | done | omega)) (by first | with_reducible assumption | omega | (simp only [tZ]; first | done | omega))
        · intro c21
          try simp only [qao, qak, qan, tY] at c21
          refine qBt (by first | with_reducible assumption | omega | (simp only [tZ]; first | done | omega)) (by first | with_reducible assumption | omega | (simp only [tZ]; first | done | omega)) (by first | with_reducible assumption | omega | (simp only [tZ]; first | done | omega)) (by first | with_reducible assumption | omega | (simp only [tZ]; first | done | omega)) (fun y22 => ?_)
          refine qBt (by first | with_reducible assumption | omega | (simp only [tZ]; first | done | omega)) (by first | with_reducible assumption | omega | (simp only [tZ]; first | done | omega)) (by first | with_reducible assumption | omega | (simp only [tZ]; first | done | omega)) (by first | with_reducible assumption | omega | (simp only [tZ]; first | done | omega)) (fun y23 => ?_)
          refine ⟨?_, ?_⟩
          · intro c24
            try simp only [qao, qak, qan, tY] at c24
            intro y25 e26
            try have h27 : (l4 + 1).toInt = (l4.toInt + 1) := by rw [qap] <;> (try simp only [tY]) <;> omega
            try have h28 : y25.toInt = (l4.toInt + 1) := by rw [e26]; exact h27
            exact ih _ _ _ _ _ _ (by first | with_reducible assumption | omega | (simp only [tZ]; first | done | omega)) (by first | with_reducible assumption | omega | (simp only [tZ]; first | done | omega)) (by first | with_reducible assumption | omega | (simp only [tZ]; first | done | omega)) (by first | with_reducible assumption | omega | (simp only [tZ]; first | done | omega)) (by first | with_reducible assumption | omega | (simp only [tZ]; first | done | omega)) (by first | with_reducible assumption | omega | (simp only [tZ]; first | done | omega)) (by first | with_reducible assumption | omega | (simp only [tZ]; first | done | omega))
          · intro c29
            try simp only [qao, qak, qan, tY] at c29
            intro y30 e31
            try have h32 : (l4 + 1).toInt = (l4.toInt + 1) := by rw [qap] <;> (try simp only [tY]) <;> omega
            try have h33 : y30.toInt = (l4.toInt + 1) := by rw [e31]; exact h32
            exact ih _ _ _ _ _ _ (by first | with_reducible assumption | omega | (simp only [tZ]; first | done | omega)) (by first | with_reducible assumption | omega | (simp only [tZ]; first | done | omega)) (by first | with_reducible assumption | omega | (simp only [tZ]; first | done | omega)) (by first | with_reducible assumption | omega | (simp only [tZ]; first | done | omega)) (by first | with_reducible assumption | omega | (simp only [tZ]; first | done | omega)) (by first | with_reducible assumption | omega | (simp only [tZ]; first | done | omega)) (by first | with_reducible assumption | omega | (simp only [tZ]; first | done | omega))
theorem qYt {jaN : Int32} {jbw : Int32} {jbv : Nat → Int32} {jcy : Nat → Int32} {jbd : Int32} {ja9 : Nat → Int32} {p1 : Int32} {p2 : Int32} {Q : Int32 → Int32 → NI → Prop} (a0 : 0 ≤ jaN.toInt) (a1 : jaN.toInt ≤ 8) (a2 : jbw.toInt ≤ 4) (hq : ∀ (r thrown : Int32) (refused : NI), Q r thrown refused) : qXZ jaN jbw jbv jcy jbd ja9 p1 p2 Q := by
  refine qCN (by first | with_reducible assumption | omega | (simp only [tZ]; first | done | omega)) (by first | with_reducible assumption | omega | (simp only [tZ]; first | done | omega)) (by first | with_reducible assumption | omega | (simp only [tZ]; first | done | omega)) (fun y34 y35 y36 po37 => ?_)
  try simp only [tY] at po37
  refine ⟨?_, ?_⟩
  · intro c38
    try simp only [qao, qak, qan, tY] at c38
    exact hq _ _ _
  · intro c39
    try simp only [qao, qak, qan, tY] at c39
    refine qbO (fun y40 po41 => ?_)
    try simp only [tY] at po41
    refine qcb (by first | with_reducible assumption | omega | (simp only [tZ]; first | done | omega)) (by first | with_reducible assumption | omega | (simp only [tZ]; first | done | omega)) (by first | with_reducible assumption | omega | (simp only [tZ]; first | done | omega)) (fun y42 y43 y44 po45 => ?_)
    try simp only [tY] at po45
    refine ⟨?_, ?_⟩
    · intro c46
      try simp only [qao, qak, qan, tY] at c46
      refine ⟨9, qap4 (by first | with_reducible assumption | omega | (simp only [tZ]; first | done | omega)) (by first | with_reducible assumption | omega | (simp only [tZ]; first | done | omega)) (by first | with_reducible assumption | omega | (simp only [tZ]; first | done | omega)) hq 9 _ _ _ _ _ _ (by first | with_reducible assumption | omega | (simp only [tZ]; first | done | omega)) (by first | with_reducible assumption | omega | (simp only [tZ]; first | done | omega)) (by first | with_reducible assumption | omega | (simp only [tZ]; first | done | omega)) (by first | with_reducible assumption | omega | (simp only [tZ]; first | done | omega)) (by first | with_reducible assumption | omega | (simp only [tZ]; first | done | omega)) (by first | with_reducible assumption | omega | (simp only [tZ]; first | done | omega)) (by first | with_reducible assumption | omega | (simp only [tZ]; first | done | omega))⟩
    · intro c47
      try simp only [qao, qak, qan, tY] at c47
      exact hq _ _ _
theorem qaRY {ja9 : Nat → Int32} {jbd : Int32} {p1 : Int32} {Q : Int32 → Int32 → Prop} (hq : ∀ (r thrown : Int32), Q r thrown) : qX7 ja9 jbd p1 Q := by
  refine qbO (fun y1 po2 => ?_)
  try simp only [tY] at po2
  refine ⟨?_, ?_⟩
  · intro c3
    try simp only [qao, qak, qan, tY] at c3
    exact hq _ _
  · intro c4
    try simp only [qao, qak, qan, tY] at c4
    refine ⟨qa6 (by first | with_reducible assumption | omega | (simp only [tZ]; first | done | omega)) (by first | with_reducible assumption | omega | (simp only [tZ]; first | done | omega)), ?_⟩
    intro y5 e6
    have h7 : y5.toInt = (ja9 p1.toNatClampNeg).toInt := by rw [e6]
    exact hq _ _
theorem q9N {jaC : Int32} {jb2 : Nat → Int32} {Q : Int32 → Int32 → NI → NI → Prop} {n : Int32} (a0 : rS jaC n jb2) (a1 : jaC.toInt ≤ 6) (hq : ∀ (r thrown : Int32) (refused : NI) (s : NI), Q r thrown refused s) : ∀ (k : Nat) (jbd : Int32) (ja9 : NI) (f0_s : NI) (l1 l2 l3 : Int32), (rS jaC n f0_s) → (-1 ≤ l2.toInt) → (l2.toInt < 6) → (0 ≤ l3.toInt) → (l3.toInt ≤ 6) → 6 - l3.toInt < (k : Int) → qip jaC jb2 Q k jbd ja9 f0_s l1 l2 l3 := by
  intro k
  induction k with
  | zero => intro jbd ja9 f0_s l1 l2 l3 i0 i1 i2 i3 i4 i5; omega
  | succ k ih =>
    intro jbd ja9 f0_s l1 l2 l3 i0 i1 i2 i3 i4 i5
    refine ⟨?_, ?_⟩
    · intro c1
      try simp only [qao, qak, qan, tY] at c1
      refine ⟨?_, ?_⟩
      · intro c2
        try simp only [qao, qak, qan, tY] at c2
        exact hq _ _ _ _
      · intro c3
        try simp only [qao, qak, qan, tY] at c3
        refine ⟨?_, ?_⟩
        · intro c4
          try simp only [qao, qak, qan, tY] at c4
          intro y5 e6
          try have h7 : (6 + l2).toInt = (6 + l2.toInt) := by rw [qap] <;> (try simp only [tY]) <;> omega
          try have h8 : y5.toInt = (6 + l2.toInt) := by rw [e6]; exact h7
          refine ⟨qa6 (by first | with_reducible assumption | omega | (simp only [tZ]; first | done | omega)) (by first | with_reducible assumption | omega | (simp only [tZ]; first | done | omega)), ?_⟩
          intro y9 e10
          have h11 : y9.toInt = (f0_s y5.toNatClampNeg).toInt := by rw [e10]
          try have h12 := qn0 (s := f0_s) (x := y5) (by with_reducible assumption) (by first | with_reducible assumption | omega | (simp only [tZ]; first | done | omega)) (by first | with_reducible assumption | omega | (simp only [tZ]; first | done | omega))
          try have h13 := qgw (s := f0_s) (x := y5) (by with_reducible assumption) (by first | with_reducible assumption | omega | (simp only [tZ]; first | done | omega)) (by first | with_reducible assumption | omega | (simp only [tZ]; first | done | omega))
          exact hq _ _ _ _
        · intro c14
          try simp only [qao, qak, qan, tY] at c14
          exact hq _ _ _ _
    · intro c15
      try simp only [qao, qak, qan, tY] at c15
      refine qeY (by first | with_reducible assumption | omega | (simp only [tZ]; first | done | omega)) (by first | with_reducible assumption | omega | (simp only [tZ]; first | done | omega)) (fun y16 po17 => ?_)
      try simp only [tY] at po17
      refine ⟨?_, ?_⟩
      · intro c18
        try simp only [qao, qak, qan, tY] at c18
        intro y19 e20
        try have h21 : (l3 + 1).toInt = (l3.toInt + 1) := by rw [qap] <;> (try simp only [tY]) <;> omega
        try have h22 : y19.toInt = (l3.toInt + 1) := by rw [e20]; exact h21
        exact ih _ _ _ _ _ _ (by first | with_reducible assumption | omega | (simp only [tZ]; first | done | omega)) (by first | with_reducible assumption | omega | (simp only [tZ]; first | done | omega)) (by first | with_reducible assumption | omega | (simp only [tZ]; first | done | omega)) (by first | with_reducible assumption | omega | (simp only [tZ]; first | done | omega)) (by first | with_reducible assumption | omega | (simp only [tZ]; first | done | omega)) (by first | with_reducible assumption | omega | (simp only [tZ]; first | done | omega))
      · intro c23
        try simp only [qao, qak, qan, tY] at c23
        refine ⟨?_, ?_⟩
        · intro c24
          try simp only [qao, qak, qan, tY] at c24
          intro y25 e26
          try have h27 : (l3 + 1).toInt = (l3.toInt + 1) := by rw [qap] <;> (try simp only [tY]) <;> omega
          try have h28 : y25.toInt = (l3.toInt + 1) := by rw [e26]; exact h27
          exact ih _ _ _ _ _ _ (by first | with_reducible assumption | omega | (simp only [tZ]; first | done | omega)) (by first | with_reducible assumption | omega | (simp only [tZ]; first | done | omega)) (by first | with_reducible assumption | omega | (simp only [tZ]; first | done | omega)) (by first | with_reducible assumption | omega | (simp only [tZ]; first | done | omega)) (by first | with_reducible assumption | omega | (simp only [tZ]; first | done | omega)) (by first | with_reducible assumption | omega | (simp only [tZ]; first | done | omega))
        · intro c29
          try simp only [qao, qak, qan, tY] at c29
          intro y30 e31
          try have h32 : (6 + l3).toInt = (6 + l3.toInt) := by rw [qap] <;> (try simp only [tY]) <;> omega
          try have h33 : y30.toInt = (6 + l3.toInt) := by rw [e31]; exact h32
          refine ⟨qa6 (by first | with_reducible assumption | omega | (simp only [tZ]; first | done | omega)) (by first | with_reducible assumption | omega | (simp only [tZ]; first | done | omega)), ?_⟩
          intro y34 e35
          have h36 : y34.toInt = (f0_s y30.toNatClampNeg).toInt := by rw [e35]
          try have h37 := qn0 (s := f0_s) (x := y30) (by with_reducible assumption) (by first | with_reducible assumption | omega | (simp only [tZ]; first | done | omega)) (by first | with_reducible assumption | omega | (simp only [tZ]; first | done | omega))
          try have h38 := qgw (s := f0_s) (x := y30) (by with_reducible assumption) (by first | with_reducible assumption | omega | (simp only [tZ]; first | done | omega)) (by first | with_reducible assumption | omega | (simp only [tZ]; first | done | omega))
          intro y39 e40
          try have h41 : (6 + l2).toInt = (6 + l2.toInt) := by rw [qap] <;> (try simp only [tY]) <;> omega
          try have h42 : y39.toInt = (6 + l2.toInt) := by rw [e40]; exact h41
          refine ⟨qa6 (by first | with_reducible assumption | omega | (simp only [tZ]; first | done | omega)) (by first | with_reducible assumption | omega | (simp only [tZ]; first | done | omega)), ?_⟩
          intro y43 e44
          have h45 : y43.toInt = (f0_s y39.toNatClampNeg).toInt := by rw [e44]
          try have h46 := qn0 (s := f0_s) (x := y39) (by with_reducible assumption) (by first | with_reducible assumption | omega | (simp only [tZ]; first | done | omega)) (by first | with_reducible assumption | omega | (simp only [tZ]; first | done | omega))
          try have h47 := qgw (s := f0_s) (x := y39) (by with_reducible assumption) (by first | with_reducible assumption | omega | (simp only [tZ]; first | done | omega)) (by first | with_reducible assumption | omega | (simp only [tZ]; first | done | omega))
          refine ⟨?_, ?_⟩
          · intro c48
            try simp only [qao, qak, qan, tY] at c48
            intro y49 e50
            try have h51 : (l3 + 1).toInt = (l3.toInt + 1) := by rw [qap] <;> (try simp only [tY]) <;> omega
            try have h52 : y49.toInt = (l3.toInt + 1) := by rw [e50]; exact h51
            exact ih _ _ _ _ _ _ (by first | with_reducible assumption | omega | (simp only [tZ]; first | done | omega)) (by first | with_reducible assumption | omega | (simp only [tZ]; first | done | omega)) (by first | with_reducible assumption | omega | (simp only [tZ]; first | done | omega)) (by first | with_reducible assumption | omega | (simp only [tZ]; first | done | omega)) (by first | with_reducible assumption | omega | (simp only [tZ]; first | done | omega)) (by first | with_reducible assumption | omega | (simp only [tZ]; first | done | omega))
          · intro c53
            try simp only [qao, qak, qan, tY] at c53
            intro y54 e55
            try have h56 : (l3 + 1).toInt = (l3.toInt + 1) := by rw [qap] <;> (try simp only [tY]) <;> omega
            try have h57 : y54.toInt = (l3.toInt + 1) := by rw [e55]; exact h56
            exact ih _ _ _ _ _ _ (by first | with_reducible assumption | omega | (simp only [tZ]; first | done | omega)) (by first | with_reducible assumption | omega | (simp only [tZ]; first | done | omega)) (by first | with_reducible assumption | omega | (simp only [tZ]; first | done | omega)) (by first | with_reducible assumption | omega | (simp only [tZ]; first | done | omega)) (by first | with_reducible assumption | omega | (simp only [tZ]; first | done | omega)) (by first | with_reducible assumption | omega | (simp only [tZ]; first | done | omega))
theorem qY1 {jaC : Int32} {jb2 : Nat → Int32} {jbd : Int32} {ja9 : Nat → Int32} {f0_s : Nat → Int32} {p1 : Int32} {Q : Int32 → Int32 → NI → NI → Prop} {n : Int32} (a0 : rS jaC n jb2) (a1 : jaC.toInt ≤ 6) (hq : ∀ (r thrown : Int32) (refused : NI) (s : NI), Q r thrown refused s) : qMZ jaC jb2 jbd ja9 f0_s p1 Q := by
  refine qbO (fun y58 po59 => ?_)
  try simp only [tY] at po59
  refine qcb (by first | with_reducible assumption | omega | (simp only [tZ]; first | done | omega)) (by first | with_reducible assumption | omega | (simp only [tZ]; first | done | omega)) (by first | with_reducible assumption | omega | (simp only [tZ]; first | done | omega)) (fun y60 y61 y62 po63 => ?_)
  try simp only [tY] at po63
  refine ⟨?_, ?_⟩
  · intro c64
    try simp only [qao, qak, qan, tY] at c64
    refine qoL (by first | with_reducible assumption | omega | (simp only [tZ]; first | done | omega)) (fun y65 po66 => ?_)
    refine ⟨7, q9N (by first | with_reducible assumption | omega | (simp only [tZ]; first | done | omega)) (by first | with_reducible assumption | omega | (simp only [tZ]; first | done | omega)) hq 7 _ _ _ _ _ _ (by first | with_reducible assumption | omega | (simp only [tZ]; first | done | omega)) (by first | with_reducible assumption | omega | (simp only [tZ]; first | done | omega)) (by first | with_reducible assumption | omega | (simp only [tZ]; first | done | omega)) (by first | with_reducible assumption | omega | (simp only [tZ]; first | done | omega)) (by first | with_reducible assumption | omega | (simp only [tZ]; first | done | omega)) (by first | with_reducible assumption | omega | (simp only [tZ]; first | done | omega))⟩
  · intro c67
    try simp only [qao, qak, qan, tY] at c67
    exact hq _ _ _ _
theorem qaHY {jaC : Int32} {jb2 : Nat → Int32} {Q : Int32 → Int32 → NI → Prop} (a0 : 0 ≤ jaC.toInt) (a1 : jaC.toInt ≤ 6) (hq : ∀ (r thrown : Int32) (refused : NI), Q r thrown refused) : ∀ (k : Nat) (jbd : Int32) (ja9 : NI) (l1 l2 l3 l4 : Int32), (0 ≤ l1.toInt) → (l1.toInt < 6) → (0 ≤ l4.toInt) → (l4.toInt ≤ 6) → 6 - l4.toInt < (k : Int) → qxK jaC jb2 Q k jbd ja9 l1 l2 l3 l4 := by
  intro k
  induction k with
  | zero => intro jbd ja9 l1 l2 l3 l4 i0 i1 i2 i3 i4; omega
  | succ k ih =>
    intro jbd ja9 l1 l2 l3 l4 i0 i1 i2 i3 i4
    refine ⟨?_, ?_⟩
    · intro c1
      try simp only [qao, qak, qan, t_0, t_1, t_2, t_3, qcc, t_4, t_6, t_8, qam] at c1
      exact hq _ _ _
    · intro c2
      try simp only [qao, qak, qan, t_0, t_1, t_2, t_3, qcc, t_4, t_6, t_8, qam] at c2
      refine ⟨?_, ?_⟩
      · intro c3
        try simp only [qao, qak, qan, t_0, t_1, t_2, t_3, qcc, t_4, t_6, t_8, qam] at c3
        intro y4 e5
        try have h6 : (6 * l4).toInt = (6 * l4.toInt) := by rw [qu8] <;> (try simp only [t_0, t_1, t_2, t_3, qcc, t_4, t_6, t_8, qam]) <;> omega
        try have h7 : ((6 * l4) + l1).toInt = ((6 * l4).toInt + l1.toInt) := by rw [qap] <;> (try simp only [t_0, t_1, t_2, t_3, qcc, t_4, t_6, t_8, qam]) <;> omega
        try have h8 : (30 + ((6 * l4) + l1)).toInt = (30 + ((6 * l4) + l1).toInt) := by rw [qap] <;> (try simp only [t_0, t_1, t_2, t_3, qcc, t_4, t_6, t_8, qam]) <;> omega
        try have h9 : y4.toInt = (30 + ((6 * l4) + l1).toInt) := by rw [e5]; exact h8
        refine ⟨qa6 (by first | with_reducible assumption | omega | (simp only [qcc, tZ]; first | done | omega)) (by first | with_reducible assumption | omega | (simp only [qcc, tZ]; first | done | omega)), ?_⟩
        intro y10 e11
        have h12 : y10.toInt = (jb2 y4.toNatClampNeg).toInt := by rw [e11]
        try have h13 := qn0 (s := jb2) (x := y4) (by with_reducible assumption) (by first | with_reducible assumption | omega | (simp only [qcc, tZ]; first | done | omega)) (by first | with_reducible assumption | omega | (simp only [qcc, tZ]; first | done | omega))
        try have h14 := qgw (s := jb2) (x := y4) (by with_reducible assumption) (by first | with_reducible assumption | omega | (simp only [qcc, tZ]; first | done | omega)) (by first | with_reducible assumption | omega | (simp only [qcc, tZ]; first | done | omega))
        refine ⟨?_, ?_⟩
        · intro c15
          try simp only [qao, qak, qan, t_0, t_1, t_2, t_3, qcc, t_4, t_6, t_8, qam] at c15
          intro y16 e17
          try have h18 := qMY (a := l3) (b := 0) (by first | with_reducible assumption | omega | (simp only [qcc, tZ]; first | done | omega)) (by first | with_reducible assumption | omega | (simp only [qcc, tZ]; first | done | omega)) (by first | with_reducible assumption | omega | (simp only [qcc, tZ]; first | done | omega))
          have h19 : y16.toInt = (l3 ||| 0).toInt := by rw [e17]
          intro y20 e21
          try have h22 : (l4 + 1).toInt = (l4.toInt + 1) := by rw [qap] <;> (try simp only [t_0, t_1, t_2, t_3, qcc, t_4, t_6, t_8, qam]) <;> omega
          try have h23 : y20.toInt = (l4.toInt + 1) := by rw [e21]; exact h22
          exact ih _ _ _ _ _ _ (by first | with_reducible assumption | omega | (simp only [qcc, tZ]; first | done | omega)) (by first | with_reducible assumption | omega | (simp only [qcc, tZ]; first | done | omega)) (by first | with_reducible assumption | omega | (simp only [qcc, tZ]; first | done | omega)) (by first | with_reducible assumption | omega | (simp only [qcc, tZ]; first | done | omega)) (by first | with_reducible assumption | omega | (simp only [qcc, tZ]; first | done | omega))
        · intro c24
          try simp only [qao, qak, qan, t_0, t_1, t_2, t_3, qcc, t_4, t_6, t_8, qam] at c24
          intro y25 e26
          try have h27 := qN0 (x := l4) (by first | with_reducible assumption | omega | (simp only [qcc, tZ]; first | done | omega)) (by first | with_reducible assumption | omega | (simp only [qcc, tZ]; first | done | omega))
          try have h28 := qMY (a := l3) (b := (1 <<< (l4 &&& 31))) (by first | with_reducible assumption | omega | (simp only [qcc, tZ]; first | done | omega)) (by first | with_reducible assumption | omega | (simp only [qcc, tZ]; first | done | omega)) (by first | with_reducible assumption | omega | (simp only [qcc, tZ]; first | done | omega))
          have h29 : y25.toInt = (l3 ||| (1 <<< (l4 &&& 31))).toInt := by rw [e26]
          intro y30 e31
          try have h32 : (l4 + 1).toInt = (l4.toInt + 1) := by rw [qap] <;> (try simp only [t_0, t_1, t_2, t_3, qcc, t_4, t_6, t_8, qam]) <;> omega
          try have h33 : y30.toInt = (l4.toInt + 1) := by rw [e31]; exact h32
          exact ih _ _ _ _ _ _ (by first | with_reducible assumption | omega | (simp only [qcc, tZ]; first | done | omega)) (by first | with_reducible assumption | omega | (simp only [qcc, tZ]; first | done | omega)) (by first | with_reducible assumption | omega | (simp only [qcc, tZ]; first | done | omega)) (by first | with_reducible assumption | omega | (simp only [qcc, tZ]; first | done | omega)) (by first | with_reducible assumption | omega | (simp only [qcc, tZ]; first | done | omega))
      · intro c34
        try simp only [qao, qak, qan, t_0, t_1, t_2, t_3, qcc, t_4, t_6, t_8, qam] at c34
        intro y35 e36
        try have h37 : (6 * l1).toInt = (6 * l1.toInt) := by rw [qu8] <;> (try simp only [t_0, t_1, t_2, t_3, qcc, t_4, t_6, t_8, qam]) <;> omega
        try have h38 : ((6 * l1) + l4).toInt = ((6 * l1).toInt + l4.toInt) := by rw [qap] <;> (try simp only [t_0, t_1, t_2, t_3, qcc, t_4, t_6, t_8, qam]) <;> omega
        try have h39 : (30 + ((6 * l1) + l4)).toInt = (30 + ((6 * l1) + l4).toInt) := by rw [qap] <;> (try simp only [t_0, t_1, t_2, t_3, qcc, t_4, t_6, t_8, qam]) <;> omega
        try have h40 : y35.toInt = (30 + ((6 * l1) + l4).toInt) := by rw [e36]; exact h39
        refine ⟨qa6 (by first | with_reducible assumption | omega | (simp only [qcc, tZ]; first | done | omega)) (by first | with_reducible assumption | omega | (simp only [qcc, tZ]; first | done | omega)), ?_⟩
        intro y41 e42
        have h43 : y41.toInt = (jb2 y35.toNatClampNeg).toInt := by rw [e42]
        try have h44 := qn0 (s := jb2) (x := y35) (by with_reducible assumption) (by first | with_reducible assumption | omega | (simp only [qcc, tZ]; first | done | omega)) (by first | with_reducible assumption | omega | (simp only [qcc, tZ]; first | done | omega))
        try have h45 := qgw (s := jb2) (x := y35) (by with_reducible assumption) (by first | with_reducible assumption | omega | (simp only [qcc, tZ]; first | done | omega)) (by first | with_reducible assumption | omega | (simp only [qcc, tZ]; first | done | omega))
        refine ⟨?_, ?_⟩
        · intro c46
          try simp only [qao, qak, qan, t_0, t_1, t_2, t_3, qcc, t_4, t_6, t_8, qam] at c46
          intro y47 e48
          try have h49 := qMY (a := l3) (b := 0) (by first | with_reducible assumption | omega | (simp only [qcc, tZ]; first | done | omega)) (by first | with_reducible assumption | omega | (simp only [qcc, tZ]; first | done | omega)) (by first | with_reducible assumption | omega | (simp only [qcc, tZ]; first | done | omega))
          have h50 : y47.toInt = (l3 ||| 0).toInt := by rw [e48]
          intro y51 e52
          try have h53 : (l4 + 1).toInt = (l4.toInt + 1) := by rw [qap] <;> (try simp only [t_0, t_1, t_2, t_3, qcc, t_4, t_6, t_8, qam]) <;> omega
          try have h54 : y51.toInt = (l4.toInt + 1) := by rw [e52]; exact h53
          exact ih _ _ _ _ _ _ (by first | with_reducible assumption | omega | (simp only [qcc, tZ]; first | done | omega)) (by first | with_reducible assumption | omega | (simp only [qcc, tZ]; first | done | omega)) (by first | with_reducible assumption | omega | (simp only [qcc, tZ]; first | done | omega)) (by first | with_reducible assumption | omega | (simp only [qcc, tZ]; first | done | omega)) (by first | with_reducible assumption | omega | (simp only [qcc, tZ]; first | done | omega))
        · intro c55
          try simp only [qao, qak, qan, t_0, t_1, t_2, t_3, qcc, t_4, t_6, t_8, qam] at c55
          intro y56 e57
          try have h58 := qN0 (x := l4) (by first | with_reducible assumption | omega | (simp only [qcc, tZ]; first | done | omega)) (by first | with_reducible assumption | omega | (simp only [qcc, tZ]; first | done | omega))
          try have h59 := qMY (a := l3) (b := (1 <<< (l4 &&& 31))) (by first | with_reducible assumption | omega | (simp only [qcc, tZ]; first | done | omega)) (by first | with_reducible assumption | omega | (simp only [qcc, tZ]; first | done | omega)) (by first | with_reducible assumption | omega | (simp only [qcc, tZ]; first | done | omega))
          have h60 : y56.toInt = (l3 ||| (1 <<< (l4 &&& 31))).toInt := by rw [e57]
          intro y61 e62
          try have h63 : (l4 + 1).toInt = (l4.toInt + 1) := by rw [qap] <;> (try simp only [t_0, t_1, t_2, t_3, qcc, t_4, t_6, t_8, qam]) <;> omega
          try have h64 : y61.toInt = (l4.toInt + 1) := by rw [e62]; exact h63
          exact ih _ _ _ _ _ _ (by first | with_reducible assumption | omega | (simp only [qcc, tZ]; first | done | omega)) (by first | with_reducible assumption | omega | (simp only [qcc, tZ]; first | done | omega)) (by first | with_reducible assumption | omega | (simp only [qcc, tZ]; first | done | omega)) (by first | with_reducible assumption | omega | (simp only [qcc, tZ]; first | done | omega)) (by first | with_reducible assumption | omega | (simp only [qcc, tZ]; first | done | omega))
theorem qacd {jaC : Int32} {jb2 : Nat → Int32} {jbd : Int32} {ja9 : Nat → Int32} {p1 : Int32} {p2 : Int32} {Q : Int32 → Int32 → NI → Prop} (a0 : 0 ≤ jaC.toInt) (a1 : jaC.toInt ≤ 6) (hq : ∀ (r thrown : Int32) (refused : NI), Q r thrown refused) : qabW jaC jb2 jbd ja9 p1 p2 Q := by
  refine qu6 (by first | with_reducible assumption | omega | (simp only [qcc, tZ]; first | done | omega)) (by first | with_reducible assumption | omega | (simp only [qcc, tZ]; first | done | omega)) (by first | with_reducible assumption | omega | (simp only [qcc, tZ]; first | done | omega)) (fun y65 y66 y67 po68 => ?_)
  try simp only [t_0, t_1, t_2, t_3, qcc, t_4, t_6, t_8, qam] at po68
  refine ⟨?_, ?_⟩
  · intro c69
    try simp only [qao, qak, qan, t_0, t_1, t_2, t_3, qcc, t_4, t_6, t_8, qam] at c69
    exact hq _ _ _
  · intro c70
    try simp only [qao, qak, qan, t_0, t_1, t_2, t_3, qcc, t_4, t_6, t_8, qam] at c70
    refine qbO (fun y71 po72 => ?_)
    try simp only [t_0, t_1, t_2, t_3, qcc, t_4, t_6, t_8, qam] at po72
    refine qcb (by first | with_reducible assumption | omega | (simp only [qcc, tZ]; first | done | omega)) (by first | with_reducible assumption | omega | (simp only [qcc, tZ]; first | done | omega)) (by first | with_reducible assumption | omega | (simp only [qcc, tZ]; first | done | omega)) (fun y73 y74 y75 po76 => ?_)
    try simp only [t_0, t_1, t_2, t_3, qcc, t_4, t_6, t_8, qam] at po76
    refine ⟨?_, ?_⟩
    · intro c77
      try simp only [qao, qak, qan, t_0, t_1, t_2, t_3, qcc, t_4, t_6, t_8, qam] at c77
      refine ⟨7, qaHY (by first | with_reducible assumption | omega | (simp only [qcc, tZ]; first | done | omega)) (by first | with_reducible assumption | omega | (simp only [qcc, tZ]; first | done | omega)) hq 7 _ _ _ _ _ _ (by first | with_reducible assumption | omega | (simp only [qcc, tZ]; first | done | omega)) (by first | with_reducible assumption | omega | (simp only [qcc, tZ]; first | done | omega)) (by first | with_reducible assumption | omega | (simp only [qcc, tZ]; first | done | omega)) (by first | with_reducible assumption | omega | (simp only [qcc, tZ]; first | done | omega)) (by first | with_reducible assumption | omega | (simp only [qcc, tZ]; first | done | omega))⟩
    · intro c78
      try simp only [qao, qak, qan, t_0, t_1, t_2, t_3, qcc, t_4, t_6, t_8, qam] at c78
      exact hq _ _ _
theorem qawD {jaN : Int32} {jaC : Int32} {jbw : Int32} {jcn : Int32} {jh9 : Int32} {jb2 : Nat → Int32} {jbv : Nat → Int32} {jcy : Nat → Int32} {jbd : Int32} {ja9 : Nat → Int32} {f0_s : Nat → Int32} {p1 : Int32} {Q : Int32 → Int32 → NI → NI → Prop} (a0 : rS jaC jaN jb2) (a1 : jaC.toInt ≤ 6) (a2 : jaN.toInt ≤ 8) (a3 : jbw.toInt ≤ 4) (hq : ∀ (r thrown : Int32) (refused : NI) (s : NI), Q r thrown refused s) : qabp jaN jaC jbw jcn jh9 jb2 jbv jcy jbd ja9 f0_s p1 Q := by
  refine qbO (fun y1 po2 => ?_)
  try simp only [t_0, t_1, qRr, t_2, t_3, t_4, t_5, t_6, t_7, t_8, t_9, qam] at po2
  refine qcb (by first | with_reducible assumption | omega | (simp only [qRr, t_5, t_7, t_9, tZ]; first | done | omega)) (by first | with_reducible assumption | omega | (simp only [qRr, t_5, t_7, t_9, tZ]; first | done | omega)) (by first | with_reducible assumption | omega | (simp only [qRr, t_5, t_7, t_9, tZ]; first | done | omega)) (fun y3 y4 y5 po6 => ?_)
  try simp only [t_0, t_1, qRr, t_2, t_3, t_4, t_5, t_6, t_7, t_8, t_9, qam] at po6
  refine ⟨?_, ?_⟩
  · intro c7
    try simp only [qao, qak, qan, t_0, t_1, qRr, t_2, t_3, t_4, t_5, t_6, t_7, t_8, t_9, qam] at c7
    refine qoL (by first | with_reducible assumption | omega | (simp only [qRr, t_5, t_7, t_9, tZ]; first | done | omega)) (fun y8 po9 => ?_)
    refine ⟨?_, ?_⟩
    · intro c10
      try simp only [qao, qak, qan, t_0, t_1, qRr, t_2, t_3, t_4, t_5, t_6, t_7, t_8, t_9, qam] at c10
      refine ⟨?_, ?_⟩
      · intro c11
        try simp only [qao, qak, qan, t_0, t_1, qRr, t_2, t_3, t_4, t_5, t_6, t_7, t_8, t_9, qam] at c11
        refine q1j (by first | with_reducible assumption | omega | (simp only [qRr, t_5, t_7, t_9, tZ]; first | done | omega)) (by first | with_reducible assumption | omega | (simp only [qRr, t_5, t_7, t_9, tZ]; first | done | omega)) (by first | with_reducible assumption | omega | (simp only [qRr, t_5, t_7, t_9, tZ]; first | done | omega)) (fun y12 => ?_)
        exact hq _ _ _ _
      · intro c13
        try simp only [qao, qak, qan, t_0, t_1, qRr, t_2, t_3, t_4, t_5, t_6, t_7, t_8, t_9, qam] at c13
        refine ⟨?_, ?_⟩
        · intro c14
          try simp only [qao, qak, qan, t_0, t_1, qRr, t_2, t_3, t_4, t_5, t_6, t_7, t_8, t_9, qam] at c14
          refine ⟨?_, ?_⟩
          · intro c15
            try simp only [qao, qak, qan, t_0, t_1, qRr, t_2, t_3, t_4, t_5, t_6, t_7, t_8, t_9, qam] at c15
            refine ⟨?_, ?_⟩
            · intro c16
              try simp only [qao, qak, qan, t_0, t_1, qRr, t_2, t_3, t_4, t_5, t_6, t_7, t_8, t_9, qam] at c16
              refine ⟨?_, ?_⟩
              · intro c17
                try simp only [qao, qak, qan, t_0, t_1, qRr, t_2, t_3, t_4, t_5, t_6, t_7, t_8, t_9, qam] at c17
                refine ⟨?_, ?_⟩
                · intro c18
                  try simp only [qao, qak, qan, t_0, t_1, qRr, t_2, t_3, t_4, t_5, t_6, t_7, t_8, t_9, qam] at c18
                  exact hq _ _ _ _
                · intro c19
                  try simp only [qao, qak, qan, t_0, t_1, qRr, t_2, t_3, t_4, t_5, t_6, t_7, t_8, t_9, qam] at c19
                  exact hq _ _ _ _
              · intro c20
                try simp only [qao, qak, qan, t_0, t_1, qRr, t_2, t_3, t_4, t_5, t_6, t_7, t_8, t_9, qam] at c20
                refine q4b (fun y21 => ?_)
                exact hq _ _ _ _
            · intro c22
              try simp only [qao, qak, qan, t_0, t_1, qRr, t_2, t_3, t_4, t_5, t_6, t_7, t_8, t_9, qam] at c22
              refine q0d (by first | with_reducible assumption | omega | (simp only [qRr, t_5, t_7, t_9, tZ]; first | done | omega)) (by first | with_reducible assumption | omega | (simp only [qRr, t_5, t_7, t_9, tZ]; first | done | omega)) (fun y23 => ?_)
              exact hq _ _ _ _
          · intro c24
            try simp only [qao, qak, qan, t_0, t_1, qRr, t_2, t_3, t_4, t_5, t_6, t_7, t_8, t_9, qam] at c24
            refine qwr (by first | with_reducible assumption | omega | (simp only [qRr, t_5, t_7, t_9, tZ]; first | done | omega)) (fun y25 => ?_)
            exact hq _ _ _ _
        · intro c26
          try simp only [qao, qak, qan, t_0, t_1, qRr, t_2, t_3, t_4, t_5, t_6, t_7, t_8, t_9, qam] at c26
          refine q1j (by first | with_reducible assumption | omega | (simp only [qRr, t_5, t_7, t_9, tZ]; first | done | omega)) (by first | with_reducible assumption | omega | (simp only [qRr, t_5, t_7, t_9, tZ]; first | done | omega)) (by first | with_reducible assumption | omega | (simp only [qRr, t_5, t_7, t_9, tZ]; first | done | omega)) (fun y27 => ?_)
          exact hq _ _ _ _
    · intro c28
      try simp only [qao, qak, qan, t_0, t_1, qRr, t_2, t_3, t_4, t_5, t_6, t_7, t_8, t_9, qam] at c28
      refine ⟨?_, ?_⟩
      · intro c29
        try simp only [qao, qak, qan, t_0, t_1, qRr, t_2, t_3, t_4, t_5, t_6, t_7, t_8, t_9, qam] at c29
        refine ⟨?_, ?_⟩
        · intro c30
          try simp only [qao, qak, qan, t_0, t_1, qRr, t_2, t_3, t_4, t_5, t_6, t_7, t_8, t_9, qam] at c30
          refine ⟨?_, ?_⟩
          · intro c31
            try simp only [qao, qak, qan, t_0, t_1, qRr, t_2, t_3, t_4, t_5, t_6, t_7, t_8, t_9, qam] at c31
            refine ⟨?_, ?_⟩
            · intro c32
              try simp only [qao, qak, qan, t_0, t_1, qRr, t_2, t_3, t_4, t_5, t_6, t_7, t_8, t_9, qam] at c32
              intro y33 e34
              have h35 : y33.toInt = (y8 (67 : Int32).toNatClampNeg).toInt := by rw [e34]
              try have h36 := qn0 (s := y8) (x := (67 : Int32)) (by with_reducible assumption) (by first | with_reducible assumption | omega | (simp only [qRr, t_5, t_7, t_9, tZ]; first | done | omega)) (by first | with_reducible assumption | omega | (simp only [qRr, t_5, t_7, t_9, tZ]; first | done | omega))
              try have h37 := qgw (s := y8) (x := (67 : Int32)) (by with_reducible assumption) (by first | with_reducible assumption | omega | (simp only [qRr, t_5, t_7, t_9, tZ]; first | done | omega)) (by first | with_reducible assumption | omega | (simp only [qRr, t_5, t_7, t_9, tZ]; first | done | omega))
              exact hq _ _ _ _
            · intro c38
              try simp only [qao, qak, qan, t_0, t_1, qRr, t_2, t_3, t_4, t_5, t_6, t_7, t_8, t_9, qam] at c38
              intro y39 e40
              have h41 : y39.toInt = (y8 (66 : Int32).toNatClampNeg).toInt := by rw [e40]
              try have h42 := qn0 (s := y8) (x := (66 : Int32)) (by with_reducible assumption) (by first | with_reducible assumption | omega | (simp only [qRr, t_5, t_7, t_9, tZ]; first | done | omega)) (by first | with_reducible assumption | omega | (simp only [qRr, t_5, t_7, t_9, tZ]; first | done | omega))
              try have h43 := qgw (s := y8) (x := (66 : Int32)) (by with_reducible assumption) (by first | with_reducible assumption | omega | (simp only [qRr, t_5, t_7, t_9, tZ]; first | done | omega)) (by first | with_reducible assumption | omega | (simp only [qRr, t_5, t_7, t_9, tZ]; first | done | omega))
              exact hq _ _ _ _
          · intro c44
            try simp only [qao, qak, qan, t_0, t_1, qRr, t_2, t_3, t_4, t_5, t_6, t_7, t_8, t_9, qam] at c44
            exact hq _ _ _ _
        · intro c45
          try simp only [qao, qak, qan, t_0, t_1, qRr, t_2, t_3, t_4, t_5, t_6, t_7, t_8, t_9, qam] at c45
          exact hq _ _ _ _
      · intro c46
        try simp only [qao, qak, qan, t_0, t_1, qRr, t_2, t_3, t_4, t_5, t_6, t_7, t_8, t_9, qam] at c46
        exact hq _ _ _ _
  · intro c47
    try simp only [qao, qak, qan, t_0, t_1, qRr, t_2, t_3, t_4, t_5, t_6, t_7, t_8, t_9, qam] at c47
    exact hq _ _ _ _
theorem qaok {jbD : Int32} {jcu : Nat → Int32} {jbT : Nat → Int32} {jbd : Int32} {ja9 : Nat → Int32} {jb1 : Nat → Int32} {jcb : Nat → Int32} {p1 : Int32} {p2 : Int32} {p3 : Int32} {p4 : Int32} {p5 : Int32} {p6 : Int32} {p7 : Int32} {p8 : Int32} {Q : Int32 → Int32 → NI → NI → NI → Prop} (a0 : rC jbD jcu jbT) (hq : ∀ (r thrown : Int32) (refused : NI) (facts : NI) (stack : NI), Q r thrown refused facts stack) : q3q jbD jcu jbT jbd ja9 jb1 jcb p1 p2 p3 p4 p5 p6 p7 p8 Q := by
  refine qbO (fun y1 po2 => ?_)
  try simp only [t_0, t_1, t_2, t_3, qal, t_4, t_5, t_6, t_8, t_9, qbI, qam] at po2
  refine ⟨?_, ?_⟩
  · intro c3
    try simp only [qao, qak, qan, t_0, t_1, t_2, t_3, qal, t_4, t_5, t_6, t_8, t_9, qbI, qam] at c3
    refine qcb (by first | with_reducible assumption | omega | (simp only [qal, t_5, t_9, qbI, tZ]; first | done | omega)) (by first | with_reducible assumption | omega | (simp only [qal, t_5, t_9, qbI, tZ]; first | done | omega)) (by first | with_reducible assumption | omega | (simp only [qal, t_5, t_9, qbI, tZ]; first | done | omega)) (fun y4 y5 y6 po7 => ?_)
    try simp only [t_0, t_1, t_2, t_3, qal, t_4, t_5, t_6, t_8, t_9, qbI, qam] at po7
    refine ⟨?_, ?_⟩
    · intro c8
      try simp only [qao, qak, qan, t_0, t_1, t_2, t_3, qal, t_4, t_5, t_6, t_8, t_9, qbI, qam] at c8
      refine qtH (by first | with_reducible assumption | omega | (simp only [qal, t_5, t_9, qbI, tZ]; first | done | omega)) (fun y9 y10 y11 => ?_)
      exact hq _ _ _ _ _
    · intro c12
      try simp only [qao, qak, qan, t_0, t_1, t_2, t_3, qal, t_4, t_5, t_6, t_8, t_9, qbI, qam] at c12
      exact hq _ _ _ _ _
  · intro c13
    try simp only [qao, qak, qan, t_0, t_1, t_2, t_3, qal, t_4, t_5, t_6, t_8, t_9, qbI, qam] at c13
    refine qbO (fun y14 po15 => ?_)
    try simp only [t_0, t_1, t_2, t_3, qal, t_4, t_5, t_6, t_8, t_9, qbI, qam] at po15
    refine ⟨?_, ?_⟩
    · intro c16
      try simp only [qao, qak, qan, t_0, t_1, t_2, t_3, qal, t_4, t_5, t_6, t_8, t_9, qbI, qam] at c16
      refine qcb (by first | with_reducible assumption | omega | (simp only [qal, t_5, t_9, qbI, tZ]; first | done | omega)) (by first | with_reducible assumption | omega | (simp only [qal, t_5, t_9, qbI, tZ]; first | done | omega)) (by first | with_reducible assumption | omega | (simp only [qal, t_5, t_9, qbI, tZ]; first | done | omega)) (fun y17 y18 y19 po20 => ?_)
      try simp only [t_0, t_1, t_2, t_3, qal, t_4, t_5, t_6, t_8, t_9, qbI, qam] at po20
      refine ⟨?_, ?_⟩
      · intro c21
        try simp only [qao, qak, qan, t_0, t_1, t_2, t_3, qal, t_4, t_5, t_6, t_8, t_9, qbI, qam] at c21
        refine qtH (by first | with_reducible assumption | omega | (simp only [qal, t_5, t_9, qbI, tZ]; first | done | omega)) (fun y22 y23 y24 => ?_)
        exact hq _ _ _ _ _
      · intro c25
        try simp only [qao, qak, qan, t_0, t_1, t_2, t_3, qal, t_4, t_5, t_6, t_8, t_9, qbI, qam] at c25
        exact hq _ _ _ _ _
    · intro c26
      try simp only [qao, qak, qan, t_0, t_1, t_2, t_3, qal, t_4, t_5, t_6, t_8, t_9, qbI, qam] at c26
      refine qbO (fun y27 po28 => ?_)
      try simp only [t_0, t_1, t_2, t_3, qal, t_4, t_5, t_6, t_8, t_9, qbI, qam] at po28
      refine ⟨?_, ?_⟩
      · intro c29
        try simp only [qao, qak, qan, t_0, t_1, t_2, t_3, qal, t_4, t_5, t_6, t_8, t_9, qbI, qam] at c29
        refine qcb (by first | with_reducible assumption | omega | (simp only [qal, t_5, t_9, qbI, tZ]; first | done | omega)) (by first | with_reducible assumption | omega | (simp only [qal, t_5, t_9, qbI, tZ]; first | done | omega)) (by first | with_reducible assumption | omega | (simp only [qal, t_5, t_9, qbI, tZ]; first | done | omega)) (fun y30 y31 y32 po33 => ?_)
        try simp only [t_0, t_1, t_2, t_3, qal, t_4, t_5, t_6, t_8, t_9, qbI, qam] at po33
        refine ⟨?_, ?_⟩
        · intro c34
          try simp only [qao, qak, qan, t_0, t_1, t_2, t_3, qal, t_4, t_5, t_6, t_8, t_9, qbI, qam] at c34
          refine qtH (by first | with_reducible assumption | omega | (simp only [qal, t_5, t_9, qbI, tZ]; first | done | omega)) (fun y35 y36 y37 => ?_)
          exact hq _ _ _ _ _
        · intro c38
          try simp only [qao, qak, qan, t_0, t_1, t_2, t_3, qal, t_4, t_5, t_6, t_8, t_9, qbI, qam] at c38
          exact hq _ _ _ _ _
      · intro c39
        try simp only [qao, qak, qan, t_0, t_1, t_2, t_3, qal, t_4, t_5, t_6, t_8, t_9, qbI, qam] at c39
        refine qbO (fun y40 po41 => ?_)
        try simp only [t_0, t_1, t_2, t_3, qal, t_4, t_5, t_6, t_8, t_9, qbI, qam] at po41
        refine ⟨?_, ?_⟩
        · intro c42
          try simp only [qao, qak, qan, t_0, t_1, t_2, t_3, qal, t_4, t_5, t_6, t_8, t_9, qbI, qam] at c42
          refine qcb (by first | with_reducible assumption | omega | (simp only [qal, t_5, t_9, qbI, tZ]; first | done | omega)) (by first | with_reducible assumption | omega | (simp only [qal, t_5, t_9, qbI, tZ]; first | done | omega)) (by first | with_reducible assumption | omega | (simp only [qal, t_5, t_9, qbI, tZ]; first | done | omega)) (fun y43 y44 y45 po46 => ?_)
          try simp only [t_0, t_1, t_2, t_3, qal, t_4, t_5, t_6, t_8, t_9, qbI, qam] at po46
          refine ⟨?_, ?_⟩
          · intro c47
            try simp only [qao, qak, qan, t_0, t_1, t_2, t_3, qal, t_4, t_5, t_6, t_8, t_9, qbI, qam] at c47
            refine qtH (by first | with_reducible assumption | omega | (simp only [qal, t_5, t_9, qbI, tZ]; first | done | omega)) (fun y48 y49 y50 => ?_)
            exact hq _ _ _ _ _
          · intro c51
            try simp only [qao, qak, qan, t_0, t_1, t_2, t_3, qal, t_4, t_5, t_6, t_8, t_9, qbI, qam] at c51
            exact hq _ _ _ _ _
        · intro c52
          try simp only [qao, qak, qan, t_0, t_1, t_2, t_3, qal, t_4, t_5, t_6, t_8, t_9, qbI, qam] at c52
          refine qbO (fun y53 po54 => ?_)
          try simp only [t_0, t_1, t_2, t_3, qal, t_4, t_5, t_6, t_8, t_9, qbI, qam] at po54
          refine ⟨?_, ?_⟩
          · intro c55
            try simp only [qao, qak, qan, t_0, t_1, t_2, t_3, qal, t_4, t_5, t_6, t_8, t_9, qbI, qam] at c55
            refine qcb (by first | with_reducible assumption | omega | (simp only [qal, t_5, t_9, qbI, tZ]; first | done | omega)) (by first | with_reducible assumption | omega | (simp only [qal, t_5, t_9, qbI, tZ]; first | done | omega)) (by first | with_reducible assumption | omega | (simp only [qal, t_5, t_9, qbI, tZ]; first | done | omega)) (fun y56 y57 y58 po59 => ?_)
            try simp only [t_0, t_1, t_2, t_3, qal, t_4, t_5, t_6, t_8, t_9, qbI, qam] at po59
            refine ⟨?_, ?_⟩
            · intro c60
              try simp only [qao, qak, qan, t_0, t_1, t_2, t_3, qal, t_4, t_5, t_6, t_8, t_9, qbI, qam] at c60
              refine qtH (by first | with_reducible assumption | omega | (simp only [qal, t_5, t_9, qbI, tZ]; first | done | omega)) (fun y61 y62 y63 => ?_)
              exact hq _ _ _ _ _
            · intro c64
              try simp only [qao, qak, qan, t_0, t_1, t_2, t_3, qal, t_4, t_5, t_6, t_8, t_9, qbI, qam] at c64
              exact hq _ _ _ _ _
          · intro c65
            try simp only [qao, qak, qan, t_0, t_1, t_2, t_3, qal, t_4, t_5, t_6, t_8, t_9, qbI, qam] at c65
            refine qbO (fun y66 po67 => ?_)
            try simp only [t_0, t_1, t_2, t_3, qal, t_4, t_5, t_6, t_8, t_9, qbI, qam] at po67
            refine ⟨?_, ?_⟩
            · intro c68
              try simp only [qao, qak, qan, t_0, t_1, t_2, t_3, qal, t_4, t_5, t_6, t_8, t_9, qbI, qam] at c68
              refine qcb (by first | with_reducible assumption | omega | (simp only [qal, t_5, t_9, qbI, tZ]; first | done | omega)) (by first | with_reducible assumption | omega | (simp only [qal, t_5, t_9, qbI, tZ]; first | done | omega)) (by first | with_reducible assumption | omega | (simp only [qal, t_5, t_9, qbI, tZ]; first | done | omega)) (fun y69 y70 y71 po72 => ?_)
              try simp only [t_0, t_1, t_2, t_3, qal, t_4, t_5, t_6, t_8, t_9, qbI, qam] at po72
              refine ⟨?_, ?_⟩
              · intro c73
                try simp only [qao, qak, qan, t_0, t_1, t_2, t_3, qal, t_4, t_5, t_6, t_8, t_9, qbI, qam] at c73
                refine qtH (by first | with_reducible assumption | omega | (simp only [qal, t_5, t_9, qbI, tZ]; first | done | omega)) (fun y74 y75 y76 => ?_)
                exact hq _ _ _ _ _
              · intro c77
                try simp only [qao, qak, qan, t_0, t_1, t_2, t_3, qal, t_4, t_5, t_6, t_8, t_9, qbI, qam] at c77
                exact hq _ _ _ _ _
            · intro c78
              try simp only [qao, qak, qan, t_0, t_1, t_2, t_3, qal, t_4, t_5, t_6, t_8, t_9, qbI, qam] at c78
              refine qbO (fun y79 po80 => ?_)
              try simp only [t_0, t_1, t_2, t_3, qal, t_4, t_5, t_6, t_8, t_9, qbI, qam] at po80
              refine ⟨?_, ?_⟩
              · intro c81
                try simp only [qao, qak, qan, t_0, t_1, t_2, t_3, qal, t_4, t_5, t_6, t_8, t_9, qbI, qam] at c81
                refine qcb (by first | with_reducible assumption | omega | (simp only [qal, t_5, t_9, qbI, tZ]; first | done | omega)) (by first | with_reducible assumption | omega | (simp only [qal, t_5, t_9, qbI, tZ]; first | done | omega)) (by first | with_reducible assumption | omega | (simp only [qal, t_5, t_9, qbI, tZ]; first | done | omega)) (fun y82 y83 y84 po85 => ?_)
                try simp only [t_0, t_1, t_2, t_3, qal, t_4, t_5, t_6, t_8, t_9, qbI, qam] at po85
                refine ⟨?_, ?_⟩
                · intro c86
                  try simp only [qao, qak, qan, t_0, t_1, t_2, t_3, qal, t_4, t_5, t_6, t_8, t_9, qbI, qam] at c86
                  refine qtH (by first | with_reducible assumption | omega | (simp only [qal, t_5, t_9, qbI, tZ]; first | done | omega)) (fun y87 y88 y89 => ?_)
                  exact hq _ _ _ _ _
                · intro c90
                  try simp only [qao, qak, qan, t_0, t_1, t_2, t_3, qal, t_4, t_5, t_6, t_8, t_9, qbI, qam] at c90
                  exact hq _ _ _ _ _
              · intro c91
                try simp only [qao, qak, qan, t_0, t_1, t_2, t_3, qal, t_4, t_5, t_6, t_8, t_9, qbI, qam] at c91
                refine qbO (fun y92 po93 => ?_)
                try simp only [t_0, t_1, t_2, t_3, qal, t_4, t_5, t_6, t_8, t_9, qbI, qam] at po93
                refine ⟨?_, ?_⟩
                · intro c94
                  try simp only [qao, qak, qan, t_0, t_1, t_2, t_3, qal, t_4, t_5, t_6, t_8, t_9, qbI, qam] at c94
                  refine qcb (by first | with_reducible assumption | omega | (simp only [qal, t_5, t_9, qbI, tZ]; first | done | omega)) (by first | with_reducible assumption | omega | (simp only [qal, t_5, t_9, qbI, tZ]; first | done | omega)) (by first | with_reducible assumption | omega | (simp only [qal, t_5, t_9, qbI, tZ]; first | done | omega)) (fun y95 y96 y97 po98 => ?_)
                  try simp only [t_0, t_1, t_2, t_3, qal, t_4, t_5, t_6, t_8, t_9, qbI, qam] at po98
                  refine ⟨?_, ?_⟩
                  · intro c99
                    try simp only [qao, qak, qan, t_0, t_1, t_2, t_3, qal, t_4, t_5, t_6, t_8, t_9, qbI, qam] at c99
                    refine qtH (by first | with_reducible assumption | omega | (simp only [qal, t_5, t_9, qbI, tZ]; first | done | omega)) (fun y100 y101 y102 => ?_)
                    exact hq _ _ _ _ _
                  · intro c103
                    try simp only [qao, qak, qan, t_0, t_1, t_2, t_3, qal, t_4, t_5, t_6, t_8, t_9, qbI, qam] at c103
                    exact hq _ _ _ _ _
                · intro c104
                  try simp only [qao, qak, qan, t_0, t_1, t_2, t_3, qal, t_4, t_5, t_6, t_8, t_9, qbI, qam] at c104
                  refine qcb (by first | with_reducible assumption | omega | (simp only [qal, t_5, t_9, qbI, tZ]; first | done | omega)) (by first | with_reducible assumption | omega | (simp only [qal, t_5, t_9, qbI, tZ]; first | done | omega)) (by first | with_reducible assumption | omega | (simp only [qal, t_5, t_9, qbI, tZ]; first | done | omega)) (fun y105 y106 y107 po108 => ?_)
                  try simp only [t_0, t_1, t_2, t_3, qal, t_4, t_5, t_6, t_8, t_9, qbI, qam] at po108
                  refine ⟨?_, ?_⟩
                  · intro c109
                    try simp only [qao, qak, qan, t_0, t_1, t_2, t_3, qal, t_4, t_5, t_6, t_8, t_9, qbI, qam] at c109
                    refine qtH (by first | with_reducible assumption | omega | (simp only [qal, t_5, t_9, qbI, tZ]; first | done | omega)) (fun y110 y111 y112 => ?_)
                    exact hq _ _ _ _ _
                  · intro c113
                    try simp only [qao, qak, qan, t_0, t_1, t_2, t_3, qal, t_4, t_5, t_6, t_8, t_9, qbI, qam] at c113
                    exact hq _ _ _ _ _
theorem qaHJ {jaN : Int32} {jaC : Int32} {jbD : Int32} {jb2 : Nat → Int32} {jcu : Nat → Int32} {jbT : Nat → Int32} {jbv : Nat → Int32} {Q : Int32 → Int32 → NI → NI → NI → NI → Prop} {K60 : Int32 → NI → NI → NI → NI → Int32 → Int32 → Int32 → Int32 → Prop} {K87 : Int32 → NI → NI → NI → NI → Int32 → Int32 → Int32 → Int32 → Int32 → Int32 → Prop} {g2 : Int32} {g5 : Int32} {g7 : Int32} (a0 : jaN.toInt ≤ 8) (hq : ∀ (r thrown : Int32) (refused : NI) (s : NI) (facts : NI) (stack : NI), Q r thrown refused s facts stack) (hK60 : ∀ (jbd : Int32) (ja9 : NI) (f0_s : NI) (jb1 : NI) (jcb : NI) (l2 l3 l4 l5 : Int32), (rS jaC jaN f0_s) → (l5.toInt = g5.toInt + 1) → K60 jbd ja9 f0_s jb1 jcb l2 l3 l4 l5) (hK87 : ∀ (jbd : Int32) (ja9 : NI) (f0_s : NI) (jb1 : NI) (jcb : NI) (l2 l3 l4 l5 l6 l7 : Int32), (rS jaC jaN f0_s) → (l5.toInt = g5.toInt) → (l7.toInt = g7.toInt + 1) → K87 jbd ja9 f0_s jb1 jcb l2 l3 l4 l5 l6 l7) : ∀ (k : Nat) (jbd : Int32) (ja9 : NI) (f0_s : NI) (jb1 : NI) (jcb : NI) (l2 l3 l4 l5 l6 l7 l8 : Int32), (rS jaC jaN f0_s) → (l2.toInt = g2.toInt) → (l5.toInt = g5.toInt) → (0 ≤ l7.toInt) → (l7.toInt < 8) → (l7.toInt = g7.toInt) → (0 ≤ l8.toInt) → (l8.toInt ≤ 8) → 8 - l8.toInt < (k : Int) → qtQ jaN jaC jbD jb2 jcu jbT jbv Q K60 K87 k jbd ja9 f0_s jb1 jcb l2 l3 l4 l5 l6 l7 l8 := by
  intro k
  induction k with
  | zero => intro jbd ja9 f0_s jb1 jcb l2 l3 l4 l5 l6 l7 l8 i0 i1 i2 i3 i4 i5 i6 i7 i8; omega
  | succ k ih =>
    intro jbd ja9 f0_s jb1 jcb l2 l3 l4 l5 l6 l7 l8 i0 i1 i2 i3 i4 i5 i6 i7 i8
    refine ⟨?_, ?_⟩
    · intro c1
      try simp only [qao, qak, qan, tY] at c1
      intro y2 e3
      try have h4 : (l7 + 1).toInt = (l7.toInt + 1) := by rw [qap] <;> (try simp only [tY]) <;> omega
      try have h5 : y2.toInt = (l7.toInt + 1) := by rw [e3]; exact h4
      exact hK87 _ _ _ _ _ _ _ _ _ _ _ (by first | with_reducible assumption | omega | (simp only [tZ]; first | done | omega)) (by first | with_reducible assumption | omega | (simp only [tZ]; first | done | omega)) (by first | with_reducible assumption | omega | (simp only [tZ]; first | done | omega))
    · intro c6
      try simp only [qao, qak, qan, tY] at c6
      refine ⟨?_, ?_⟩
      · intro c7
        have h8 := q55 (x := (l4 >>> (l7 &&& 31)))
        try simp only [qao, qak, qan, tY] at c7
        intro y9 e10
        try have h11 : (l8 + 1).toInt = (l8.toInt + 1) := by rw [qap] <;> (try simp only [tY]) <;> omega
        try have h12 : y9.toInt = (l8.toInt + 1) := by rw [e10]; exact h11
        exact ih _ _ _ _ _ _ _ _ _ _ _ _ (by first | with_reducible assumption | omega | (simp only [tZ]; first | done | omega)) (by first | with_reducible assumption | omega | (simp only [tZ]; first | done | omega)) (by first | with_reducible assumption | omega | (simp only [tZ]; first | done | omega)) (by first | with_reducible assumption | omega | (simp only [tZ]; first | done | omega)) (by first | with_reducible assumption | omega | (simp only [tZ]; first | done | omega)) (by first | with_reducible assumption | omega | (simp only [tZ]; first | done | omega)) (by first | with_reducible assumption | omega | (simp only [tZ]; first | done | omega)) (by first | with_reducible assumption | omega | (simp only [tZ]; first | done | omega)) (by first | with_reducible assumption | omega | (simp only [tZ]; first | done | omega))
      · intro c13
        have h14 := q55 (x := (l4 >>> (l7 &&& 31)))
        try simp only [qao, qak, qan, tY] at c13
        refine qBt (by first | with_reducible assumption | omega | (simp only [tZ]; first | done | omega)) (by first | with_reducible assumption | omega | (simp only [tZ]; first | done | omega)) (by first | with_reducible assumption | omega | (simp only [tZ]; first | done | omega)) (by first | with_reducible assumption | omega | (simp only [tZ]; first | done | omega)) (fun y15 => ?_)
        refine ⟨?_, ?_⟩
        · intro c16
          try simp only [qao, qak, qan, tY] at c16
          intro y17 e18
          try have h19 : (l8 + 1).toInt = (l8.toInt + 1) := by rw [qap] <;> (try simp only [tY]) <;> omega
          try have h20 : y17.toInt = (l8.toInt + 1) := by rw [e18]; exact h19
          exact ih _ _ _ _ _ _ _ _ _ _ _ _ (by first | with_reducible assumption | omega | (simp only [tZ]; first | done | omega)) (by first | with_reducible assumption | omega | (simp only [tZ]; first | done | omega)) (by first | with_reducible assumption | omega | (simp only [tZ]; first | done | omega)) (by first | with_reducible assumption | omega | (simp only [tZ]; first | done | omega)) (by first | with_reducible assumption | omega | (simp only [tZ]; first | done | omega)) (by first | with_reducible assumption | omega | (simp only [tZ]; first | done | omega)) (by first | with_reducible assumption | omega | (simp only [tZ]; first | done | omega)) (by first | with_reducible assumption | omega | (simp only [tZ]; first | done | omega)) (by first | with_reducible assumption | omega | (simp only [tZ]; first | done | omega))
        · intro c21
          try simp only [qao, qak, qan, tY] at c21
          intro y22 e23
          try have h24 := qN0 (x := l8) (by first | with_reducible assumption | omega | (simp only [tZ]; first | done | omega)) (by first | with_reducible assumption | omega | (simp only [tZ]; first | done | omega))
          try have h25 := qMY (a := l6) (b := (1 <<< (l8 &&& 31))) (by first | with_reducible assumption | omega | (simp only [tZ]; first | done | omega)) (by first | with_reducible assumption | omega | (simp only [tZ]; first | done | omega)) (by first | with_reducible assumption | omega | (simp only [tZ]; first | done | omega))
          have h26 : y22.toInt = (l6 ||| (1 <<< (l8 &&& 31))).toInt := by rw [e23]
          intro y27 e28
          try have h29 : (l8 + 1).toInt = (l8.toInt + 1) := by rw [qap] <;> (try simp only [tY]) <;> omega
          try have h30 : y27.toInt = (l8.toInt + 1) := by rw [e28]; exact h29
          exact ih _ _ _ _ _ _ _ _ _ _ _ _ (by first | with_reducible assumption | omega | (simp only [tZ]; first | done | omega)) (by first | with_reducible assumption | omega | (simp only [tZ]; first | done | omega)) (by first | with_reducible assumption | omega | (simp only [tZ]; first | done | omega)) (by first | with_reducible assumption | omega | (simp only [tZ]; first | done | omega)) (by first | with_reducible assumption | omega | (simp only [tZ]; first | done | omega)) (by first | with_reducible assumption | omega | (simp only [tZ]; first | done | omega)) (by first | with_reducible assumption | omega | (simp only [tZ]; first | done | omega)) (by first | with_reducible assumption | omega | (simp only [tZ]; first | done | omega)) (by first | with_reducible assumption | omega | (simp only [tZ]; first | done | omega))
theorem qaFC {jaN : Int32} {jaC : Int32} {jbD : Int32} {jb2 : Nat → Int32} {jcu : Nat → Int32} {jbT : Nat → Int32} {jbv : Nat → Int32} {Q : Int32 → Int32 → NI → NI → NI → NI → Prop} {K60 : Int32 → NI → NI → NI → NI → Int32 → Int32 → Int32 → Int32 → Prop} {g5 : Int32} (a0 : jaN.toInt ≤ 8) (hq : ∀ (r thrown : Int32) (refused : NI) (s : NI) (facts : NI) (stack : NI), Q r thrown refused s facts stack) (hK60 : ∀ (jbd : Int32) (ja9 : NI) (f0_s : NI) (jb1 : NI) (jcb : NI) (l2 l3 l4 l5 : Int32), (rS jaC jaN f0_s) → (l5.toInt = g5.toInt + 1) → K60 jbd ja9 f0_s jb1 jcb l2 l3 l4 l5) : ∀ (k : Nat) (jbd : Int32) (ja9 : NI) (f0_s : NI) (jb1 : NI) (jcb : NI) (l2 l3 l4 l5 l6 l7 : Int32), (rS jaC jaN f0_s) → (l5.toInt = g5.toInt) → (0 ≤ l5.toInt) → (l5.toInt < 8) → (0 ≤ l7.toInt) → (l7.toInt ≤ 8) → 8 - l7.toInt < (k : Int) → qD1 jaN jaC jbD jb2 jcu jbT jbv Q K60 k jbd ja9 f0_s jb1 jcb l2 l3 l4 l5 l6 l7 := by
  intro k
  induction k with
  | zero => intro jbd ja9 f0_s jb1 jcb l2 l3 l4 l5 l6 l7 i0 i1 i2 i3 i4 i5 i6; omega
  | succ k ih =>
    intro jbd ja9 f0_s jb1 jcb l2 l3 l4 l5 l6 l7 i0 i1 i2 i3 i4 i5 i6
    refine ⟨?_, ?_⟩
    · intro c31
      try simp only [qao, qak, qan, tY] at c31
      intro y32 e33
      try have h34 : (l5 + 1).toInt = (l5.toInt + 1) := by rw [qap] <;> (try simp only [tY]) <;> omega
      try have h35 : y32.toInt = (l5.toInt + 1) := by rw [e33]; exact h34
      exact hK60 _ _ _ _ _ _ _ _ _ (by first | with_reducible assumption | omega | (simp only [tZ]; first | done | omega)) (by first | with_reducible assumption | omega | (simp only [tZ]; first | done | omega))
    · intro c36
      try simp only [qao, qak, qan, tY] at c36
      refine ⟨9, qaHJ (g2 := l2) (g5 := g5) (g7 := l7) (by first | with_reducible assumption | omega | (simp only [tZ]; first | done | omega)) hq hK60 (fun y37 y38 y39 y40 y41 y42 y43 y44 y45 y46 y47 po48 po49 po50 => ?_) 9 _ _ _ _ _ _ _ _ _ _ _ _ (by first | with_reducible assumption | omega | (simp only [tZ]; first | done | omega)) (by first | with_reducible assumption | omega | (simp only [tZ]; first | done | omega)) (by first | with_reducible assumption | omega | (simp only [tZ]; first | done | omega)) (by first | with_reducible assumption | omega | (simp only [tZ]; first | done | omega)) (by first | with_reducible assumption | omega | (simp only [tZ]; first | done | omega)) (by first | with_reducible assumption | omega | (simp only [tZ]; first | done | omega)) (by first | with_reducible assumption | omega | (simp only [tZ]; first | done | omega)) (by first | with_reducible assumption | omega | (simp only [tZ]; first | done | omega)) (by first | with_reducible assumption | omega | (simp only [tZ]; first | done | omega))⟩
      exact ih _ _ _ _ _ _ _ _ _ _ _ (by first | with_reducible assumption | omega | (simp only [tZ]; first | done | omega)) (by first | with_reducible assumption | omega | (simp only [tZ]; first | done | omega)) (by first | with_reducible assumption | omega | (simp only [tZ]; first | done | omega)) (by first | with_reducible assumption | omega | (simp only [tZ]; first | done | omega)) (by first | with_reducible assumption | omega | (simp only [tZ]; first | done | omega)) (by first | with_reducible assumption | omega | (simp only [tZ]; first | done | omega)) (by first | with_reducible assumption | omega | (simp only [tZ]; first | done | omega))
theorem qaHD {jaN : Int32} {jaC : Int32} {jbD : Int32} {jb2 : Nat → Int32} {jcu : Nat → Int32} {jbT : Nat → Int32} {jbv : Nat → Int32} {Q : Int32 → Int32 → NI → NI → NI → NI → Prop} (a0 : jaN.toInt ≤ 8) (hq : ∀ (r thrown : Int32) (refused : NI) (s : NI) (facts : NI) (stack : NI), Q r thrown refused s facts stack) : ∀ (k : Nat) (jbd : Int32) (ja9 : NI) (f0_s : NI) (jb1 : NI) (jcb : NI) (l2 l3 l4 l5 : Int32), (rS jaC jaN f0_s) → (0 ≤ l5.toInt) → (l5.toInt ≤ 8) → 8 - l5.toInt < (k : Int) → qEe jaN jaC jbD jb2 jcu jbT jbv Q k jbd ja9 f0_s jb1 jcb l2 l3 l4 l5 := by
  intro k
  induction k with
  | zero => intro jbd ja9 f0_s jb1 jcb l2 l3 l4 l5 i0 i1 i2 i3; omega
  | succ k ih =>
    intro jbd ja9 f0_s jb1 jcb l2 l3 l4 l5 i0 i1 i2 i3
    refine ⟨?_, ?_⟩
    · intro c51
      try simp only [qao, qak, qan, tY] at c51
      exact hq _ _ _ _ _ _
    · intro c52
      try simp only [qao, qak, qan, tY] at c52
      refine ⟨?_, ?_⟩
      · intro c53
        have h54 := q55 (x := (l4 >>> (l2 &&& 31)))
        try simp only [qao, qak, qan, tY] at c53
        refine ⟨9, qaFC (g5 := l5) (by first | with_reducible assumption | omega | (simp only [tZ]; first | done | omega)) hq (fun y55 y56 y57 y58 y59 y60 y61 y62 y63 po64 po65 => ?_) 9 _ _ _ _ _ _ _ _ _ _ _ (by first | with_reducible assumption | omega | (simp only [tZ]; first | done | omega)) (by first | with_reducible assumption | omega | (simp only [tZ]; first | done | omega)) (by first | with_reducible assumption | omega | (simp only [tZ]; first | done | omega)) (by first | with_reducible assumption | omega | (simp only [tZ]; first | done | omega)) (by first | with_reducible assumption | omega | (simp only [tZ]; first | done | omega)) (by first | with_reducible assumption | omega | (simp only [tZ]; first | done | omega)) (by first | with_reducible assumption | omega | (simp only [tZ]; first | done | omega))⟩
        exact ih _ _ _ _ _ _ _ _ _ (by first | with_reducible assumption | omega | (simp only [tZ]; first | done | omega)) (by first | with_reducible assumption | omega | (simp only [tZ]; first | done | omega)) (by first | with_reducible assumption | omega | (simp only [tZ]; first | done | omega)) (by first | with_reducible assumption | omega | (simp only [tZ]; first | done | omega))
      · intro c66
        have h67 := q55 (x := (l4 >>> (l2 &&& 31)))
        try simp only [qao, qak, qan, tY] at c66
        exact hq _ _ _ _ _ _
theorem qawX {jaN : Int32} {jaC : Int32} {jbD : Int32} {jb2 : Nat → Int32} {jcu : Nat → Int32} {jbT : Nat → Int32} {jbv : Nat → Int32} {jbd : Int32} {ja9 : Nat → Int32} {f0_s : Nat → Int32} {jb1 : Nat → Int32} {jcb : Nat → Int32} {p1 : Int32} {p2 : Int32} {Q : Int32 → Int32 → NI → NI → NI → NI → Prop} (a0 : rS jaC jaN jb2) (a1 : rC jbD jcu jbT) (a2 : 0 ≤ jaC.toInt) (a3 : jaC.toInt ≤ 6) (a4 : 0 ≤ jaN.toInt) (a5 : jaN.toInt ≤ 8) (hq : ∀ (r thrown : Int32) (refused : NI) (s : NI) (facts : NI) (stack : NI), Q r thrown refused s facts stack) : q9e jaN jaC jbD jb2 jcu jbT jbv jbd ja9 f0_s jb1 jcb p1 p2 Q := by
  refine qu6 (by first | with_reducible assumption | omega | (simp only [tZ]; first | done | omega)) (by first | with_reducible assumption | omega | (simp only [tZ]; first | done | omega)) (by first | with_reducible assumption | omega | (simp only [tZ]; first | done | omega)) (fun y68 y69 y70 po71 => ?_)
  try simp only [tY] at po71
  refine ⟨?_, ?_⟩
  · intro c72
    try simp only [qao, qak, qan, tY] at c72
    exact hq _ _ _ _ _ _
  · intro c73
    try simp only [qao, qak, qan, tY] at c73
    refine qCN (by first | with_reducible assumption | omega | (simp only [tZ]; first | done | omega)) (by first | with_reducible assumption | omega | (simp only [tZ]; first | done | omega)) (by first | with_reducible assumption | omega | (simp only [tZ]; first | done | omega)) (fun y74 y75 y76 po77 => ?_)
    try simp only [tY] at po77
    refine ⟨?_, ?_⟩
    · intro c78
      try simp only [qao, qak, qan, tY] at c78
      refine qoL (by first | with_reducible assumption | omega | (simp only [tZ]; first | done | omega)) (fun y79 po80 => ?_)
      refine qeY (by first | with_reducible assumption | omega | (simp only [tZ]; first | done | omega)) (by first | with_reducible assumption | omega | (simp only [tZ]; first | done | omega)) (fun y81 po82 => ?_)
      try simp only [tY] at po82
      refine ⟨?_, ?_⟩
      · intro c83
        try simp only [qao, qak, qan, tY] at c83
        refine qXW (by first | with_reducible assumption | omega | (simp only [tZ]; first | done | omega)) (by first | with_reducible assumption | omega | (simp only [tZ]; first | done | omega)) (by first | with_reducible assumption | omega | (simp only [tZ]; first | done | omega)) (by first | with_reducible assumption | omega | (simp only [tZ]; first | done | omega)) (by first | with_reducible assumption | omega | (simp only [tZ]; first | done | omega)) (fun y84 y85 y86 => ?_)
        intro y87 e88
        have h89 : y87 = p1 := by rw [e88]; exact Int32.zero_add _
        have h90 : y87.toInt = p1.toInt := by rw [h89]
        refine ⟨qa6 (by first | with_reducible assumption | omega | (simp only [tZ]; first | done | omega)) (by first | with_reducible assumption | omega | (simp only [tZ]; first | done | omega)), ?_⟩
        intro y91 e92
        have h93 : y91.toInt = (y79 p1.toNatClampNeg).toInt := by rw [e92, h89]
        try have h94 := qn0 (s := y79) (x := p1) (by with_reducible assumption) (by first | with_reducible assumption | omega | (simp only [tZ]; first | done | omega)) (by first | with_reducible assumption | omega | (simp only [tZ]; first | done | omega))
        try have h95 := qgw (s := y79) (x := p1) (by with_reducible assumption) (by first | with_reducible assumption | omega | (simp only [tZ]; first | done | omega)) (by first | with_reducible assumption | omega | (simp only [tZ]; first | done | omega))
        intro y96 e97
        try have h98 := qN0 (x := y91) (by first | with_reducible assumption | omega | (simp only [tZ]; first | done | omega)) (by first | with_reducible assumption | omega | (simp only [tZ]; first | done | omega))
        have h99 : y96.toInt = (1 <<< (y91 &&& 31)).toInt := by rw [e97]
        refine ⟨9, qaHD (by first | with_reducible assumption | omega | (simp only [tZ]; first | done | omega)) hq 9 _ _ _ _ _ _ _ _ _ (by first | with_reducible assumption | omega | (simp only [tZ]; first | done | omega)) (by first | with_reducible assumption | omega | (simp only [tZ]; first | done | omega)) (by first | with_reducible assumption | omega | (simp only [tZ]; first | done | omega)) (by first | with_reducible assumption | omega | (simp only [tZ]; first | done | omega))⟩
      · intro c100
        try simp only [qao, qak, qan, tY] at c100
        exact hq _ _ _ _ _ _
    · intro c101
      try simp only [qao, qak, qan, tY] at c101
      exact hq _ _ _ _ _ _
