/-! the first day of a down, by both -/
theorem eS_00 {k v : Int} {l : List (Int × Int)} : eS k v ((0, 0, 0), l) = ((0, 0, 0), l ++ [(k, v)]) := if_neg (fun h => h rfl)
theorem c_setPlain {kd vl : Nat → Int32} {n : Int32} {Q : Int32 → (Nat → Int32) → (Nat → Int32) → Prop} (hq : ∀ (kd vl : Nat → Int32) (n : Int32), cL ((0, 0, 0), plL) kd vl n → Q n kd vl) : wq_X4_setPlain n kd vl Q := by
  have h0 : ∀ kd vl : Nat → Int32, cL ((0, 0, 0), []) kd vl 0 := fun kd vl => ⟨⟨by decide, by decide⟩, fun _ => ⟨t_0, fun i hi => absurd hi (Nat.not_lt_zero i)⟩⟩
  refine c_add (k := 0) (v := 4) (h0 _ _) (fun _ => ⟨by decide, by decide, by decide⟩) (fun kd vl n h1 => ?_)
  rw [eS_00] at h1
  refine c_add (k := 1) (v := 0) h1 (fun _ => ⟨by decide, by decide, by decide⟩) (fun kd vl n h2 => ?_)
  rw [eS_00] at h2
  refine c_add (k := 2) (v := 0) h2 (fun _ => ⟨by decide, by decide, by decide⟩) (fun kd vl n h3 => ?_)
  rw [eS_00] at h3
  refine c_add (k := 1) (v := 1) h3 (fun _ => ⟨by decide, by decide, by decide⟩) (fun kd vl n h4 => ?_)
  rw [eS_00] at h4
  refine c_add (k := 3) (v := 0) h4 (fun _ => ⟨by decide, by decide, by decide⟩) (fun kd vl n h5 => ?_)
  rw [eS_00] at h5
  exact hq kd vl n h5
theorem rl_pl {kd vl cd oc : Nat → Int32} {n : Int32} (h : cL ((0, 0, 0), plL) kd vl n) : relLc plL n kd vl 0 cd oc := ⟨rn_pl, h, Or.inr ⟨rfl, rfl⟩⟩
theorem orN_z {P : Nat → Bool} {k : Nat} (h : ∀ j : Nat, j < k → P j = false) : orN P k = 0 := by
  refine Nat.eq_of_testBit_eq (fun i => ?_)
  rw [orN_bit, Nat.zero_testBit]
  by_cases c : i < k
  · rw [h i c, Bool.and_false]
  · rw [decide_eq_false c, Bool.false_and]
section NW
variable {d : dT} {nf nh nx mf mh mx gf gh gx : Int32} {db FX FY se sr X Y db2 fx ha fo g1 g2 g3 row nw : Nat → Int32}
theorem ni_a {h : Nat} {ha db : Nat → Int32} {j : Nat} (hj : j < h) (h6 : h ≤ 6) : ni h ha db j = ha (2 * j) := by
  unfold ni
  rw [if_neg (by omega), if_neg (by omega), if_pos (by omega), if_pos hj]
theorem ni_b {h : Nat} {ha db : Nat → Int32} {j : Nat} (hj : j < h) (h6 : h ≤ 6) : ni h ha db (6 + j) = ha (2 * j + 1) := by
  unfold ni
  rw [if_neg (by omega), if_neg (by omega), if_neg (by omega), if_pos (by omega), show 6 + j - 6 = j by omega, if_pos hj]
theorem ni_c {h : Nat} {ha db : Nat → Int32} {j : Nat} (h1 : 12 ≤ j) (h2 : j < 30) : ni h ha db j = 0 := by
  unfold ni
  rw [if_neg (by omega), if_neg (by omega), if_neg (by omega), if_neg (by omega)]
theorem ni_d {h : Nat} {ha db : Nat → Int32} {j : Nat} (h1 : j < 36) : ni h ha db (30 + j) = db j := by
  unfold ni
  rw [if_neg (by omega), if_pos (by omega), if_pos (by omega), show 30 + j - 30 = j by omega]
theorem ni_66 {h : Nat} {ha db : Nat → Int32} : ni h ha db 66 = 1 := if_pos rfl
theorem ni_67 {h : Nat} {ha db : Nat → Int32} : ni h ha db 67 = 0 := by
  unfold ni
  rw [if_neg (by omega), if_pos (by omega), if_neg (by omega)]
theorem rb_d {k : Nat} {se sr db : Nat → Int32} {j : Nat} (h : j < 36) : rbG k se sr db (28 + j) = db j := by
  unfold rbG
  rw [if_pos (by omega), show 28 + j - 28 = j by omega]
theorem rb_f {k : Nat} {se sr db : Nat → Int32} {j : Nat} (h : j < 28) : rbG k se sr db j = rbF k se sr j := if_neg (by omega)
theorem rb_a {k : Nat} {se sr db : Nat → Int32} {j : Nat} (hj : j < k) (h6 : k ≤ 6) : rbG k se sr db (4 + j) = se j := by
  rw [rb_f (by omega)]
  unfold rbF
  rw [if_neg (by omega), if_pos (by omega), show 4 + j - 4 = j by omega]
theorem rb_b {k : Nat} {se sr db : Nat → Int32} {j : Nat} (hj : j < k) (h6 : k ≤ 6) : rbG k se sr db (10 + j) = sr j := by
  rw [rb_f (by omega)]
  unfold rbF
  rw [if_neg (by omega), if_neg (by omega), if_pos (by omega), show 10 + j - 10 = j by omega]
theorem rb_0 {k : Nat} {se sr db : Nat → Int32} {j : Nat} (h6 : k ≤ 6) (hj : (1 ≤ j ∧ j < 4) ∨ (16 ≤ j ∧ j < 28)) : rbG k se sr db j = 0 := by
  rw [rb_f (by omega)]
  unfold rbF
  rw [if_neg (by omega), if_neg (by omega), if_neg (by omega)]
theorem rb_1 {k : Nat} {se sr db : Nat → Int32} : rbG k se sr db 0 = 1 := by
  rw [rb_f (by omega)]
  exact if_pos rfl
theorem rN_new (h0 : d.1.1 = 0) (ok : dOk d) (hc : cD d nf nh nx db FX FY se sr X Y) (hm : mD d mf mh mx db2 fx ha fo) (hg : mG d gf gh gx g1 g2 g3) (hr : ∀ j : Nat, j < 64 → row j = rbG d.2.2.1 se sr db j) (hn : ∀ j : Nat, j < 68 → nw j = ni d.2.2.1 g2 db2 j) : relN d.2.2.1 d.2.1 row nw ∧ yrOk nw := by
  obtain ⟨-, ⟨-, H6⟩, -, c9⟩ := hc
  obtain ⟨-, c2, -, c4⟩ := c9 h0
  obtain ⟨-, -, -, m9⟩ := hm
  obtain ⟨-, -, -, m4⟩ := m9 h0
  obtain ⟨-, -, p2, -⟩ := hg
  obtain ⟨-, o2, o3, o4, o5⟩ := ok
  have hs : ∀ h : Nat, h < d.2.2.1 → nw h = row (4 + h) ∧ nw (6 + h) = row (10 + h) ∧ (nw h).toInt = d.2.2.2.2.2.1 (2 * h) ∧ (nw (6 + h)).toInt = d.2.2.2.2.2.1 (2 * h + 1) := fun h hh => by
    have e1 : nw h = g2 (2 * h) := by rw [hn h (by omega), ni_a hh H6]
    have e2 : nw (6 + h) = g2 (2 * h + 1) := by rw [hn (6 + h) (by omega), ni_b hh H6]
    have e3 : row (4 + h) = se h := by rw [hr (4 + h) (by omega), rb_a hh H6]
    have e4 : row (10 + h) = sr h := by rw [hr (10 + h) (by omega), rb_b hh H6]
    have q1 := p2 (2 * h) (by omega)
    have q2 := p2 (2 * h + 1) (by omega)
    have q3 := c2 h hh
    refine ⟨t_eq.mpr (by rw [e1, e3, q1, q3.1]), t_eq.mpr (by rw [e2, e4, q2, q3.2]), by rw [e1, q1], by rw [e2, q2]⟩
  have hne : ∀ h : Nat, h < d.2.2.1 → ¬ nw h = -1 := fun h hh e => by
    have q := (hs h hh).2.2.1
    have g := o3 h hh
    rw [e, t_m1] at q
    omega
  have h24 : ∀ h : Nat, h < d.2.2.1 → nw (24 + h) = 0 := fun h hh => by rw [hn _ (by omega), ni_c (by omega) (by omega)]
  refine ⟨⟨⟨?_, fun h hh => Or.inr ?_, fun h hh => ?_, fun h hh => ?_, fun j hj => ?_, ⟨?_, ?_⟩, fun i k hi hk w => ?_⟩, ?_, fun h hh => Or.inl (h24 h hh)⟩, ?_⟩
  · rw [hr 2 (by omega), rb_0 H6 (by omega)]
    unfold caN
    rw [orN_z (fun j hj => decide_eq_false (hne j hj))]
    rfl
  · have q := hs h hh
    have g := o3 h hh
    refine ⟨q.1, q.2.1.symm, ?_, by omega, by omega⟩
    rw [hr (16 + h) (by omega), rb_0 H6 (by omega), hn (12 + h) (by omega), ni_c (by omega) (by omega)]
  · have q := hs h hh
    have g := o3 h hh
    rw [← q.1, q.2.2.1]
    exact ⟨g.1, g.2.1⟩
  · rw [hr (22 + h) (by omega), rb_0 H6 (by omega), hn (18 + h) (by omega), ni_c (by omega) (by omega)]
  · have g := o5 (j / 6) (j % 6) (by omega) (by omega)
    rw [show 6 * (j / 6) + j % 6 = j by omega] at g
    have q1 := c4 j hj
    have q2 := m4 j hj
    rw [hr (28 + j) (by omega), rb_d hj, hn (30 + j) (by omega), ni_d hj]
    exact ⟨t_eq.mpr (by rw [q1, q2]), by omega, by omega⟩
  · rw [hr 0 (by omega), rb_1, hn 66 (by omega), ni_66]
  · rw [hr 1 (by omega), rb_0 H6 (by omega), hn 67 (by omega), ni_67]
  · have g := o5 i k hi hk
    have q2 := m4 (6 * i + k) (by omega)
    rw [hn (30 + (6 * i + k)) (by omega), ni_d (by omega)]
    refine t_eq.mpr ?_
    rw [q2, t_0]
    by_cases z : d.2.2.2.2.2.2.2 (6 * i + k) = 0
    · exact z
    · exact absurd ⟨(g.2.2 z).1, (g.2.2 z).2.1⟩ w
  · rw [hr 3 (by omega), rb_0 H6 (by omega)]
    unfold buN
    rw [orN_z (fun j hj => decide_eq_false (by rw [h24 j hj]; decide))]
    rfl
  · unfold yrOk
    rw [hn 67 (by omega), ni_67, t_0]
    omega
theorem rW_new {NH NF : Nat} {pr pm : Nat → Int32} : relW NH NF 0 0 pr pm := ⟨rfl, by decide, by decide, fun r hr => by rw [t_0] at hr; omega⟩
theorem rI_new {NH NF : Nat} {k0 k1 k2 : Int32} {r0 r1 r2 im : Nat → Int32} : relI NH NF 0 0 k0 k1 k2 r0 r1 r2 im := ⟨rfl, ⟨by decide, by decide⟩, fun h => absurd h (by decide), fun h => absurd h (by decide), fun h => absurd h (by decide)⟩
end NW
