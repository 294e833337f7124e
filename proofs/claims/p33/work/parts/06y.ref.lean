/-- a word of the tape as a number -/
def oW (b : NI) : Nat → Int32
  | 0 => 0
  | k + 1 => (oW b k <<< (5 &&& 31)) ||| ((((b k) &&& 255).toUInt32 % 65536).toInt32 - 96)
/-- debts told -/
def dB (f : NI) : Prop := ∀ j : Nat, j < 36 → 0 ≤ (f j).toInt ∧ (f j).toInt ≤ 99
/-- seats told, while no fault is -/
def hG (b h n : Int32) (a : NI) : Prop := b.toInt = -1 → ∀ j : Nat, (j : Int) < h.toInt → 0 ≤ (a (2 * j)).toInt ∧ (a (2 * j)).toInt < n.toInt
/-- the works kept -/
def qbbQ (w h n : Int32) (past : NI) : Prop := (0 ≤ w.toInt ∧ w.toInt ≤ 16) ∧ ∀ r : Nat, (r : Int) < w.toInt → rS h n (fun j => past (68 * r + j))
/-- the images kept -/
def rImg (m h n : Int32) (img : NI) : Prop := (0 ≤ m.toInt ∧ m.toInt ≤ 3) ∧ ∀ i : Nat, (i : Int) < m.toInt → rS h n (fun j => img (1157 * i + j)) ∧ qbbQ (img (1157 * i + 1156)) h n (fun j => img (1157 * i + 68 + j))
/-- the reference between its calls -/
def rG (n h x c w m : Int32) (now code ofc past img : NI) : Prop := ((0 ≤ n.toInt ∧ n.toInt ≤ 8) ∧ (0 ≤ h.toInt ∧ h.toInt ≤ 6) ∧ (0 ≤ x.toInt ∧ x.toInt ≤ 4)) ∧ rS h n now ∧ rC c code ofc ∧ qbbQ w h n past ∧ rImg m h n img
theorem qaWz {n0 : Nat} {b0 : Nat → Int32} {Q : Int32 → Prop} (e1 : (Int32.ofNat n0 >>> ((0 : Int32) &&& 31)).toInt = n0) (e2 : (Int32.ofNat n0).toInt = n0) (hq : ∀ r, r = oW b0 n0 → Q r) :
    ∀ (k : Nat) (l1 l2 : Int32), l1 = oW b0 l2.toNatClampNeg → 0 ≤ l2.toInt → l2.toInt ≤ n0 → n0 - l2.toInt < k → qHX n0 b0 Q k l1 l2 := by
  intro k
  induction k with
  | zero => intro l1 l2 h i0 i1 i2; omega
  | succ k ih =>
    intro l1 l2 h i0 i1 i2
    have hn := qkX i0
    refine ⟨fun c => hq _ ?_, fun c => ⟨fun c2 => ?_, ?_, qa6 i0 ?_, fun x ex => ⟨by rw [ex]; exact qbed _, fun x4 e4 x5 e5 => ?_⟩⟩⟩
    · rw [qak, e1] at c
      rw [h]
      congr 1
      omega
    · rw [qao, t_0] at c2; omega
    · rw [qak, e1] at c
      rw [qao, e2]; omega
    · rw [qak, e1] at c; omega
    · rw [qak, e1] at c
      have r := qaoP l2
      have r2 := qaoP (Int32.ofNat n0)
      have e : x5.toInt = l2.toInt + 1 := by rw [e5]; exact qca (by omega)
      refine ih x4 x5 ?_ (by omega) (by omega) (by omega)
      have h5 := qkX (x := x5) (by omega)
      have h6 : x5.toNatClampNeg = l2.toNatClampNeg + 1 := by omega
      rw [h6, e4, h, ex]; rfl
theorem qaZ8 {n0 : Nat} {b0 : Nat → Int32} {Q : Int32 → Prop} (e1 : (Int32.ofNat n0 >>> ((0 : Int32) &&& 31)).toInt = n0) (e2 : (Int32.ofNat n0).toInt = n0) (hq : ∀ r, r = oW b0 n0 → Q r) : qbh n0 b0 Q :=
  ⟨n0 + 1, qaWz e1 e2 hq (n0 + 1) 0 0 rfl (by decide) (by rw [t_0]; omega) (by rw [t_0]; omega)⟩
theorem qaln {jaC : Int32} {f0_s : Nat → Int32} {Q : Int32 → Prop} {g_p2 : Int32} {n : Int32} (a0 : rS jaC n f0_s) (a1 : jaC.toInt ≤ 6) (hq : ∀ (r : Int32), (g_p2.toInt ≠ 0 ∨ r.toInt = 0) → Q r) : ∀ (k : Nat) (l1 l2 l3 l4 : Int32), (l2 = g_p2) → (l2.toInt ≠ 0 ∨ l3.toInt = 0) → (0 ≤ l4.toInt) → (l4.toInt ≤ 6) → 6 - l4.toInt < (k : Int) → qs6 jaC f0_s Q k l1 l2 l3 l4 := by
  intro k
  induction k with
  | zero => intro l1 l2 l3 l4 i0 i1 i2 i3 i4; omega
  | succ k ih =>
    intro l1 l2 l3 l4 i0 i1 i2 i3 i4
    subst i0
    refine ⟨?_, ?_⟩
    · intro c1
      try simp only [qao, qak, qan, tY] at c1
      exact hq _ (by first | with_reducible assumption | omega | (simp only [tZ]; first | done | omega))
    · intro c2
      try simp only [qao, qak, qan, tY] at c2
      refine qCI (by first | with_reducible assumption | omega | (simp only [tZ]; first | done | omega)) (by first | with_reducible assumption | omega | (simp only [tZ]; first | done | omega)) (by first | with_reducible assumption | omega | (simp only [tZ]; first | done | omega)) (fun y3 po4 => ?_)
      try simp only [tY] at po4
      refine ⟨?_, ?_⟩
      · intro c5
        try simp only [qao, qak, qan, tY] at c5
        intro y6 e7
        have h8 := q55 (x := (l1 >>> (l4 &&& 31)))
        try have h9 : (((l1 >>> (l4 &&& 31)) &&& 1) * l2).toInt = (((l1 >>> (l4 &&& 31)) &&& 1).toInt * l2.toInt) := by rw [qu8] <;> (try simp only [tY]) <;> omega
        try have h10 : (l3 + (((l1 >>> (l4 &&& 31)) &&& 1) * l2)).toInt = (l3.toInt + (((l1 >>> (l4 &&& 31)) &&& 1) * l2).toInt) := by rw [qap] <;> (try simp only [tY]) <;> omega
        try have h11 : y6.toInt = (l3.toInt + (((l1 >>> (l4 &&& 31)) &&& 1) * l2).toInt) := by rw [e7]; exact h10
        have hw : l2.toInt ≠ 0 ∨ y6.toInt = 0 := by
          by_cases z : l2.toInt = 0
          · right
            first
              | (exfalso; omega)
              | (have z3 : l3.toInt = 0 := by omega
                 rw [e7, qap (by rw [qaLV z]; omega) (by rw [qaLV z]; omega), qaLV z]; omega)
          · exact Or.inl z
        intro y12 e13
        try have h14 : (l4 + 1).toInt = (l4.toInt + 1) := by rw [qap] <;> (try simp only [tY]) <;> omega
        try have h15 : y12.toInt = (l4.toInt + 1) := by rw [e13]; exact h14
        exact ih _ _ _ _ (by first | with_reducible assumption | omega | (simp only [tZ]; first | done | omega)) (by first | with_reducible assumption | omega | (simp only [tZ]; first | done | omega)) (by first | with_reducible assumption | omega | (simp only [tZ]; first | done | omega)) (by first | with_reducible assumption | omega | (simp only [tZ]; first | done | omega)) (by first | with_reducible assumption | omega | (simp only [tZ]; first | done | omega))
      · intro c16
        try simp only [qao, qak, qan, tY] at c16
        refine qCI (by first | with_reducible assumption | omega | (simp only [tZ]; first | done | omega)) (by first | with_reducible assumption | omega | (simp only [tZ]; first | done | omega)) (by first | with_reducible assumption | omega | (simp only [tZ]; first | done | omega)) (fun y17 po18 => ?_)
        try simp only [tY] at po18
        intro y19 e20
        have h21 := q55 (x := (l1 >>> (l4 &&& 31)))
        try have h22 : (((l1 >>> (l4 &&& 31)) &&& 1) * y17).toInt = (((l1 >>> (l4 &&& 31)) &&& 1).toInt * y17.toInt) := by rw [qu8] <;> (try simp only [tY]) <;> omega
        try have h23 : (l3 + (((l1 >>> (l4 &&& 31)) &&& 1) * y17)).toInt = (l3.toInt + (((l1 >>> (l4 &&& 31)) &&& 1) * y17).toInt) := by rw [qap] <;> (try simp only [tY]) <;> omega
        try have h24 : y19.toInt = (l3.toInt + (((l1 >>> (l4 &&& 31)) &&& 1) * y17).toInt) := by rw [e20]; exact h23
        have hw : l2.toInt ≠ 0 ∨ y19.toInt = 0 := by
          by_cases z : l2.toInt = 0
          · right
            first
              | (exfalso; omega)
              | (have z3 : l3.toInt = 0 := by omega
                 rw [e20, qap (by rw [qaLV z]; omega) (by rw [qaLV z]; omega), qaLV z]; omega)
          · exact Or.inl z
        intro y25 e26
        try have h27 : (l4 + 1).toInt = (l4.toInt + 1) := by rw [qap] <;> (try simp only [tY]) <;> omega
        try have h28 : y25.toInt = (l4.toInt + 1) := by rw [e26]; exact h27
        exact ih _ _ _ _ (by first | with_reducible assumption | omega | (simp only [tZ]; first | done | omega)) (by first | with_reducible assumption | omega | (simp only [tZ]; first | done | omega)) (by first | with_reducible assumption | omega | (simp only [tZ]; first | done | omega)) (by first | with_reducible assumption | omega | (simp only [tZ]; first | done | omega)) (by first | with_reducible assumption | omega | (simp only [tZ]; first | done | omega))
theorem qavV {jaC : Int32} {f0_s : Nat → Int32} {p1 : Int32} {p2 : Int32} {Q : Int32 → Prop} {n : Int32} (a0 : rS jaC n f0_s) (a1 : jaC.toInt ≤ 6) (hq : ∀ (r : Int32), (p2.toInt ≠ 0 ∨ r.toInt = 0) → Q r) : qIV jaC f0_s p1 p2 Q := by
  refine ⟨7, qaln (g_p2 := p2) (by first | with_reducible assumption | omega | (simp only [tZ]; first | done | omega)) (by first | with_reducible assumption | omega | (simp only [tZ]; first | done | omega)) hq 7 _ _ _ _ (by first | with_reducible assumption | omega | (simp only [tZ]; first | done | omega)) (by first | with_reducible assumption | omega | (simp only [tZ]; first | done | omega)) (by first | with_reducible assumption | omega | (simp only [tZ]; first | done | omega)) (by first | with_reducible assumption | omega | (simp only [tZ]; first | done | omega)) (by first | with_reducible assumption | omega | (simp only [tZ]; first | done | omega))⟩
theorem qE1 {jaC : Int32} {jb2 : Nat → Int32} {Q : Int32 → Int32 → NI → NI → Prop} {n : Int32} (a0 : jaC.toInt ≤ 6) (hq : ∀ (r thrown : Int32) (refused : NI) (s : NI), Q r thrown refused s) : ∀ (k : Nat) (jbd : Int32) (ja9 : NI) (f0_s : NI) (l1 l2 l3 l4 : Int32), (rS jaC n f0_s) → (0 ≤ l1.toInt) → (l1.toInt < 6) → (0 ≤ l3.toInt) → (0 ≤ l4.toInt) → (l4.toInt ≤ 495) → l4.toInt < (k : Int) → qz4 jaC jb2 Q k jbd ja9 f0_s l1 l2 l3 l4 := by
  intro k
  induction k with
  | zero => intro jbd ja9 f0_s l1 l2 l3 l4 i0 i1 i2 i3 i4 i5 i6; omega
  | succ k ih =>
    intro jbd ja9 f0_s l1 l2 l3 l4 i0 i1 i2 i3 i4 i5 i6
    refine qavV (by first | with_reducible assumption | omega | (simp only [qgA, qbI, tZ]; first | done | omega)) (by first | with_reducible assumption | omega | (simp only [qgA, qbI, tZ]; first | done | omega)) (fun y1 po2 => ?_)
    try simp only [t_0, t_1, t_2, t_3, t_4, qgA, t_6, t_8, qbI, qam] at po2
    refine ⟨?_, ?_⟩
    · intro c3
      try simp only [qao, qak, qan, t_0, t_1, t_2, t_3, t_4, qgA, t_6, t_8, qbI, qam] at c3
      refine ⟨?_, ?_⟩
      · intro c4
        have h5 := q55 (x := (l2 >>> (l1 &&& 31)))
        try simp only [qao, qak, qan, t_0, t_1, t_2, t_3, t_4, qgA, t_6, t_8, qbI, qam] at c4
        refine qCI (by first | with_reducible assumption | omega | (simp only [qgA, qbI, tZ]; first | done | omega)) (by first | with_reducible assumption | omega | (simp only [qgA, qbI, tZ]; first | done | omega)) (by first | with_reducible assumption | omega | (simp only [qgA, qbI, tZ]; first | done | omega)) (fun y6 po7 => ?_)
        try simp only [t_0, t_1, t_2, t_3, t_4, qgA, t_6, t_8, qbI, qam] at po7
        refine ⟨?_, ?_⟩
        · intro c8
          try simp only [qao, qak, qan, t_0, t_1, t_2, t_3, t_4, qgA, t_6, t_8, qbI, qam] at c8
          exact hq _ _ _ _
        · intro c9
          try simp only [qao, qak, qan, t_0, t_1, t_2, t_3, t_4, qgA, t_6, t_8, qbI, qam] at c9
          refine qCI (by first | with_reducible assumption | omega | (simp only [qgA, qbI, tZ]; first | done | omega)) (by first | with_reducible assumption | omega | (simp only [qgA, qbI, tZ]; first | done | omega)) (by first | with_reducible assumption | omega | (simp only [qgA, qbI, tZ]; first | done | omega)) (fun y10 po11 => ?_)
          try simp only [t_0, t_1, t_2, t_3, t_4, qgA, t_6, t_8, qbI, qam] at po11
          exact hq _ _ _ _
      · intro c12
        have h13 := q55 (x := (l2 >>> (l1 &&& 31)))
        try simp only [qao, qak, qan, t_0, t_1, t_2, t_3, t_4, qgA, t_6, t_8, qbI, qam] at c12
        exact hq _ _ _ _
    · intro c14
      try simp only [qao, qak, qan, t_0, t_1, t_2, t_3, t_4, qgA, t_6, t_8, qbI, qam] at c14
      intro y15 e16
      try have h17 : (l4 + (-1)).toInt = (l4.toInt + (-1)) := by rw [qap] <;> (try simp only [t_0, t_1, t_2, t_3, t_4, qgA, t_6, t_8, qbI, qam]) <;> omega
      try have h18 : y15.toInt = (l4.toInt + (-1)) := by rw [e16]; exact h17
      exact ih _ _ _ _ _ _ _ (by first | with_reducible assumption | omega | (simp only [qgA, qbI, tZ]; first | done | omega)) (by first | with_reducible assumption | omega | (simp only [qgA, qbI, tZ]; first | done | omega)) (by first | with_reducible assumption | omega | (simp only [qgA, qbI, tZ]; first | done | omega)) (by first | with_reducible assumption | omega | (simp only [qgA, qbI, tZ]; first | done | omega)) (by first | with_reducible assumption | omega | (simp only [qgA, qbI, tZ]; first | done | omega)) (by first | with_reducible assumption | omega | (simp only [qgA, qbI, tZ]; first | done | omega)) (by first | with_reducible assumption | omega | (simp only [qgA, qbI, tZ]; first | done | omega))
theorem qYJ {jaC : Int32} {jb2 : Nat → Int32} {jbd : Int32} {ja9 : Nat → Int32} {f0_s : Nat → Int32} {p1 : Int32} {p2 : Int32} {p3 : Int32} {Q : Int32 → Int32 → NI → NI → Prop} {n : Int32} (a0 : rS jaC n jb2) (a1 : 0 ≤ jaC.toInt) (a2 : jaC.toInt ≤ 6) (hq : ∀ (r thrown : Int32) (refused : NI) (s : NI), Q r thrown refused s) : qWG jaC jb2 jbd ja9 f0_s p1 p2 p3 Q := by
  refine qu6 (by first | with_reducible assumption | omega | (simp only [qgA, qbI, tZ]; first | done | omega)) (by first | with_reducible assumption | omega | (simp only [qgA, qbI, tZ]; first | done | omega)) (by first | with_reducible assumption | omega | (simp only [qgA, qbI, tZ]; first | done | omega)) (fun y19 y20 y21 po22 => ?_)
  try simp only [t_0, t_1, t_2, t_3, t_4, qgA, t_6, t_8, qbI, qam] at po22
  refine ⟨?_, ?_⟩
  · intro c23
    try simp only [qao, qak, qan, t_0, t_1, t_2, t_3, t_4, qgA, t_6, t_8, qbI, qam] at c23
    exact hq _ _ _ _
  · intro c24
    try simp only [qao, qak, qan, t_0, t_1, t_2, t_3, t_4, qgA, t_6, t_8, qbI, qam] at c24
    refine ⟨?_, ?_⟩
    · intro c25
      try simp only [qao, qak, qan, t_0, t_1, t_2, t_3, t_4, qgA, t_6, t_8, qbI, qam] at c25
      refine qcb (by first | with_reducible assumption | omega | (simp only [qgA, qbI, tZ]; first | done | omega)) (by first | with_reducible assumption | omega | (simp only [qgA, qbI, tZ]; first | done | omega)) (by first | with_reducible assumption | omega | (simp only [qgA, qbI, tZ]; first | done | omega)) (fun y26 y27 y28 po29 => ?_)
      try simp only [t_0, t_1, t_2, t_3, t_4, qgA, t_6, t_8, qbI, qam] at po29
      refine ⟨?_, ?_⟩
      · intro c30
        try simp only [qao, qak, qan, t_0, t_1, t_2, t_3, t_4, qgA, t_6, t_8, qbI, qam] at c30
        refine qoL (by first | with_reducible assumption | omega | (simp only [qgA, qbI, tZ]; first | done | omega)) (fun y31 po32 => ?_)
        refine ⟨496, qE1 (by first | with_reducible assumption | omega | (simp only [qgA, qbI, tZ]; first | done | omega)) hq 496 _ _ _ _ _ _ _ (by first | with_reducible assumption | omega | (simp only [qgA, qbI, tZ]; first | done | omega)) (by first | with_reducible assumption | omega | (simp only [qgA, qbI, tZ]; first | done | omega)) (by first | with_reducible assumption | omega | (simp only [qgA, qbI, tZ]; first | done | omega)) (by first | with_reducible assumption | omega | (simp only [qgA, qbI, tZ]; first | done | omega)) (by first | with_reducible assumption | omega | (simp only [qgA, qbI, tZ]; first | done | omega)) (by first | with_reducible assumption | omega | (simp only [qgA, qbI, tZ]; first | done | omega)) (by first | with_reducible assumption | omega | (simp only [qgA, qbI, tZ]; first | done | omega))⟩
      · intro c33
        try simp only [qao, qak, qan, t_0, t_1, t_2, t_3, t_4, qgA, t_6, t_8, qbI, qam] at c33
        exact hq _ _ _ _
    · intro c34
      try simp only [qao, qak, qan, t_0, t_1, t_2, t_3, t_4, qgA, t_6, t_8, qbI, qam] at c34
      refine ⟨?_, ?_⟩
      · intro c35
        try have h36 := qN0 (x := jaC) (by first | with_reducible assumption | omega | (simp only [qgA, qbI, tZ]; first | done | omega)) (by first | with_reducible assumption | omega | (simp only [qgA, qbI, tZ]; first | done | omega))
        try simp only [qao, qak, qan, t_0, t_1, t_2, t_3, t_4, qgA, t_6, t_8, qbI, qam] at c35
        refine qcb (by first | with_reducible assumption | omega | (simp only [qgA, qbI, tZ]; first | done | omega)) (by first | with_reducible assumption | omega | (simp only [qgA, qbI, tZ]; first | done | omega)) (by first | with_reducible assumption | omega | (simp only [qgA, qbI, tZ]; first | done | omega)) (fun y37 y38 y39 po40 => ?_)
        try simp only [t_0, t_1, t_2, t_3, t_4, qgA, t_6, t_8, qbI, qam] at po40
        refine ⟨?_, ?_⟩
        · intro c41
          try simp only [qao, qak, qan, t_0, t_1, t_2, t_3, t_4, qgA, t_6, t_8, qbI, qam] at c41
          refine qoL (by first | with_reducible assumption | omega | (simp only [qgA, qbI, tZ]; first | done | omega)) (fun y42 po43 => ?_)
          refine ⟨496, qE1 (by first | with_reducible assumption | omega | (simp only [qgA, qbI, tZ]; first | done | omega)) hq 496 _ _ _ _ _ _ _ (by first | with_reducible assumption | omega | (simp only [qgA, qbI, tZ]; first | done | omega)) (by first | with_reducible assumption | omega | (simp only [qgA, qbI, tZ]; first | done | omega)) (by first | with_reducible assumption | omega | (simp only [qgA, qbI, tZ]; first | done | omega)) (by first | with_reducible assumption | omega | (simp only [qgA, qbI, tZ]; first | done | omega)) (by first | with_reducible assumption | omega | (simp only [qgA, qbI, tZ]; first | done | omega)) (by first | with_reducible assumption | omega | (simp only [qgA, qbI, tZ]; first | done | omega)) (by first | with_reducible assumption | omega | (simp only [qgA, qbI, tZ]; first | done | omega))⟩
        · intro c44
          try simp only [qao, qak, qan, t_0, t_1, t_2, t_3, t_4, qgA, t_6, t_8, qbI, qam] at c44
          exact hq _ _ _ _
      · intro c45
        try have h46 := qN0 (x := jaC) (by first | with_reducible assumption | omega | (simp only [qgA, qbI, tZ]; first | done | omega)) (by first | with_reducible assumption | omega | (simp only [qgA, qbI, tZ]; first | done | omega))
        try simp only [qao, qak, qan, t_0, t_1, t_2, t_3, t_4, qgA, t_6, t_8, qbI, qam] at c45
        refine qbO (fun y47 po48 => ?_)
        try simp only [t_0, t_1, t_2, t_3, t_4, qgA, t_6, t_8, qbI, qam] at po48
        refine ⟨?_, ?_⟩
        · intro c49
          try simp only [qao, qak, qan, t_0, t_1, t_2, t_3, t_4, qgA, t_6, t_8, qbI, qam] at c49
          refine qcb (by first | with_reducible assumption | omega | (simp only [qgA, qbI, tZ]; first | done | omega)) (by first | with_reducible assumption | omega | (simp only [qgA, qbI, tZ]; first | done | omega)) (by first | with_reducible assumption | omega | (simp only [qgA, qbI, tZ]; first | done | omega)) (fun y50 y51 y52 po53 => ?_)
          try simp only [t_0, t_1, t_2, t_3, t_4, qgA, t_6, t_8, qbI, qam] at po53
          refine ⟨?_, ?_⟩
          · intro c54
            try simp only [qao, qak, qan, t_0, t_1, t_2, t_3, t_4, qgA, t_6, t_8, qbI, qam] at c54
            refine qoL (by first | with_reducible assumption | omega | (simp only [qgA, qbI, tZ]; first | done | omega)) (fun y55 po56 => ?_)
            refine ⟨496, qE1 (by first | with_reducible assumption | omega | (simp only [qgA, qbI, tZ]; first | done | omega)) hq 496 _ _ _ _ _ _ _ (by first | with_reducible assumption | omega | (simp only [qgA, qbI, tZ]; first | done | omega)) (by first | with_reducible assumption | omega | (simp only [qgA, qbI, tZ]; first | done | omega)) (by first | with_reducible assumption | omega | (simp only [qgA, qbI, tZ]; first | done | omega)) (by first | with_reducible assumption | omega | (simp only [qgA, qbI, tZ]; first | done | omega)) (by first | with_reducible assumption | omega | (simp only [qgA, qbI, tZ]; first | done | omega)) (by first | with_reducible assumption | omega | (simp only [qgA, qbI, tZ]; first | done | omega)) (by first | with_reducible assumption | omega | (simp only [qgA, qbI, tZ]; first | done | omega))⟩
          · intro c57
            try simp only [qao, qak, qan, t_0, t_1, t_2, t_3, t_4, qgA, t_6, t_8, qbI, qam] at c57
            exact hq _ _ _ _
        · intro c58
          try simp only [qao, qak, qan, t_0, t_1, t_2, t_3, t_4, qgA, t_6, t_8, qbI, qam] at c58
          refine qcb (by first | with_reducible assumption | omega | (simp only [qgA, qbI, tZ]; first | done | omega)) (by first | with_reducible assumption | omega | (simp only [qgA, qbI, tZ]; first | done | omega)) (by first | with_reducible assumption | omega | (simp only [qgA, qbI, tZ]; first | done | omega)) (fun y59 y60 y61 po62 => ?_)
          try simp only [t_0, t_1, t_2, t_3, t_4, qgA, t_6, t_8, qbI, qam] at po62
          refine ⟨?_, ?_⟩
          · intro c63
            try simp only [qao, qak, qan, t_0, t_1, t_2, t_3, t_4, qgA, t_6, t_8, qbI, qam] at c63
            refine qoL (by first | with_reducible assumption | omega | (simp only [qgA, qbI, tZ]; first | done | omega)) (fun y64 po65 => ?_)
            refine ⟨496, qE1 (by first | with_reducible assumption | omega | (simp only [qgA, qbI, tZ]; first | done | omega)) hq 496 _ _ _ _ _ _ _ (by first | with_reducible assumption | omega | (simp only [qgA, qbI, tZ]; first | done | omega)) (by first | with_reducible assumption | omega | (simp only [qgA, qbI, tZ]; first | done | omega)) (by first | with_reducible assumption | omega | (simp only [qgA, qbI, tZ]; first | done | omega)) (by first | with_reducible assumption | omega | (simp only [qgA, qbI, tZ]; first | done | omega)) (by first | with_reducible assumption | omega | (simp only [qgA, qbI, tZ]; first | done | omega)) (by first | with_reducible assumption | omega | (simp only [qgA, qbI, tZ]; first | done | omega)) (by first | with_reducible assumption | omega | (simp only [qgA, qbI, tZ]; first | done | omega))⟩
          · intro c66
            try simp only [qao, qak, qan, t_0, t_1, t_2, t_3, t_4, qgA, t_6, t_8, qbI, qam] at c66
            exact hq _ _ _ _
