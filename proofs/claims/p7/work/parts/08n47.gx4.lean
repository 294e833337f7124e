/-! what is safe follows from what is alike -/
section GS
variable {nh nf : Nat} {h n : Int32}
theorem rN_sits {row s : Nat → Int32} (hR : relN nh nf row s) (eh : h.toInt = (nh : Int)) (en : n.toInt = (nf : Int)) : sSits h n row := fun j hj => by
  have g := hR.1.2.2.1 j (by omega)
  omega
theorem rN_rS {row s : Nat → Int32} (hR : relN nh nf row s) (eh : h.toInt = (nh : Int)) (en : n.toInt = (nf : Int)) (H6 : nh ≤ 6) (h8 : nf ≤ 8) : rS h n s := by
  refine ⟨⟨by omega, by omega, by omega, ?_⟩, fun j hj => ?_, fun j h1 h2 => ?_⟩
  · by_cases z : nh = 0
    · exact Or.inl (by omega)
    · have g := hR.1.2.2.1 0 (by omega)
      exact Or.inr (by omega)
  · have g := hR.1.2.2.1 j (by omega)
    rcases hR.1.2.1 j (by omega) with e | ⟨e, -⟩
    · rw [e, t_m1]; omega
    · rw [e]; omega
  · have g := (hR.1.2.2.2.2.1 (j - 30) (by omega)).2
    rw [show 30 + (j - 30) = j by omega] at g
    exact g
theorem rW_safe {kp wo : Int32} {pr pm : Nat → Int32} (hW : relW nh nf kp wo pr pm) (eh : h.toInt = (nh : Int)) (en : n.toInt = (nf : Int)) (H6 : nh ≤ 6) (h8 : nf ≤ 8) : sPast kp h n pr ∧ rPast wo h n pm := by
  obtain ⟨q1, q2, q3, q4⟩ := hW
  exact ⟨fun r hr => rN_sits (q4 r hr).1 eh en, ⟨by omega, by omega⟩, fun r hr => rN_rS (q4 r (by omega)).1 eh en H6 h8⟩
theorem imG_safe {kp : Int32} {rows im : Nat → Int32} {i : Nat} (hi : imG nh nf kp rows im i) (eh : h.toInt = (nh : Int)) (en : n.toInt = (nf : Int)) (H6 : nh ≤ 6) (h8 : nf ≤ 8) : cI kp h n rows ∧ rS h n (fun j => im (1157 * i + j)) ∧ rPast (im (1157 * i + 1156)) h n (fun j => im (1157 * i + 68 + j)) := by
  obtain ⟨W, a1, a2, a3, a4, a5, a6⟩ := hi
  refine ⟨⟨by omega, by omega, fun r hr => ?_⟩, rN_rS a4 eh en H6 h8, ⟨by omega, by omega⟩, fun r hr => rN_rS (a6 r (by omega)).1 eh en H6 h8⟩
  by_cases z : r = W
  · rw [z]; exact rN_sits a4 eh en
  · exact rN_sits (a6 r (by omega)).1 eh en
theorem rI_safe {m mi k0 k1 k2 : Int32} {r0 r1 r2 im : Nat → Int32} (hI : relI nh nf m mi k0 k1 k2 r0 r1 r2 im) (eh : h.toInt = (nh : Int)) (en : n.toInt = (nf : Int)) (H6 : nh ≤ 6) (h8 : nf ≤ 8) : cImg m h n k0 k1 k2 r0 r1 r2 ∧ rImg mi h n im := by
  obtain ⟨e, ⟨m0, m3⟩, i0, i1, i2⟩ := hI
  refine ⟨⟨⟨m0, m3⟩, fun z => (imG_safe (i0 (by omega)) eh en H6 h8).1, fun z => (imG_safe (i1 (by omega)) eh en H6 h8).1, fun z => (imG_safe (i2 (by omega)) eh en H6 h8).1⟩, ⟨by omega, by omega⟩, fun i hi => ?_⟩
  by_cases z0 : i = 0
  · rw [z0]; exact (imG_safe (i0 (by omega)) eh en H6 h8).2
  · by_cases z1 : i = 1
    · rw [z1]; exact (imG_safe (i1 (by omega)) eh en H6 h8).2
    · rw [show i = 2 by omega]; exact (imG_safe (i2 (by omega)) eh en H6 h8).2
end GS
