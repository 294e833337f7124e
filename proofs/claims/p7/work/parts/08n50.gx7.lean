/-! all that both keep, held against each other -/
def dR (d : dT) (nf nh nx sf : Int32) (db FX FY se sr X Y : Nat → Int32) (mf mh mx : Int32) (fo ha fx : Nat → Int32) : Prop := d.1.1 = 0 ∧ dOk d ∧ cD d nf nh nx db FX FY se sr X Y ∧ sf = sfD d ∧ mG d mf mh mx fo ha fx
def sfO (d : dT) : Nat → Bool := fun i => !(nrB d.2.2.2.2.1 d.2.2.2.2.2.2.1 i d.2.2.2.1)
def relF (nf nh nx sf : Int32) (db FX FY se sr X Y : Nat → Int32) (mf mh mx : Int32) (fo ha fx : Nat → Int32) (ln : Int32) (kd vl : Nat → Int32) (ct : Int32) (cd oc : Nat → Int32) (many : Int32) (seen : Nat → Int32) (bs : Int32) (bo : Nat → Int32) (row now : Nat → Int32) (kp wo : Int32) (pr9 pm9 : Nat → Int32) (m mi k0 k1 k2 : Int32) (r0 r1 r2 im : Nat → Int32) : Prop :=
  ∃ (d : dT) (cs : List (Int × Int)), dR d nf nh nx sf db FX FY se sr X Y mf mh mx fo ha fx ∧ relLc cs ln kd vl ct cd oc ∧ (many.toInt = bs.toInt ∧ ∀ j : Nat, j < 8 → seen j = bo j) ∧ relN d.2.2.1 d.2.1 row now ∧ yrOk now ∧ relW d.2.2.1 d.2.1 kp wo pr9 pm9 ∧ relI d.2.2.1 d.2.1 m mi k0 k1 k2 r0 r1 r2 im
section RF
variable {nf nh nx sf : Int32} {db FX FY se sr X Y : Nat → Int32} {mf mh mx : Int32} {fo ha fx : Nat → Int32} {ln : Int32} {kd vl : Nat → Int32} {ct : Int32} {cd oc : Nat → Int32} {many : Int32} {seen : Nat → Int32} {bs : Int32} {bo : Nat → Int32} {row now : Nat → Int32} {kp wo : Int32} {pr9 pm9 : Nat → Int32} {m mi k0 k1 k2 : Int32} {r0 r1 r2 im : Nat → Int32} {d : dT} {cs : List (Int × Int)}
theorem rl_sLaw (h : relLc cs ln kd vl ct cd oc) : sLaw ln kd vl := cL_sLaw h.2.1 h.1
theorem rl_rC (h : relLc cs ln kd vl ct cd oc) : rC ct cd oc := by
  obtain ⟨h1, -, h3⟩ := h
  rcases h3 with ⟨-, h4, h5⟩ | ⟨e, -⟩
  · exact mL_rC h4 h5 h1
  · rw [e]
    exact ⟨⟨by decide, by decide⟩, fun k h => by rw [t_0] at h; omega⟩
theorem relF_safe {fl tp : Int32} {by_ ta : Nat → Int32} (hA : relA fl tp by_ ta) (h : relF nf nh nx sf db FX FY se sr X Y mf mh mx fo ha fx ln kd vl ct cd oc many seen bs bo row now kp wo pr9 pm9 m mi k0 k1 k2 r0 r1 r2 im) :
    ((((0 ≤ nf.toInt ∧ nf.toInt ≤ 8) ∧ (0 ≤ nh.toInt ∧ nh.toInt ≤ 6) ∧ (0 ≤ nx.toInt ∧ nx.toInt ≤ 4)) ∧ (0 ≤ fl.toInt ∧ fl.toInt ≤ 600) ∧ sLaw ln kd vl ∧ sSits nh nf row ∧ (0 ≤ kp.toInt ∧ kp.toInt ≤ 16) ∧ sPast kp nh nf pr9 ∧ cImg m nh nf k0 k1 k2 r0 r1 r2) ∧ (0 ≤ tp.toInt ∧ tp.toInt ≤ 600) ∧ rG mf mh mx ct wo mi now cd oc pm9 im) := by
  obtain ⟨P, t, a1, a2, a3, -⟩ := hA
  obtain ⟨d, cs, ⟨-, -, ⟨⟨n1, n2⟩, ⟨j1, j2⟩, ⟨i1, i2⟩, -⟩, -, ⟨⟨c1, c2, c3⟩, -⟩⟩, hL, -, hN, -, hW, hI⟩ := h
  have w := rW_safe hW j1 n1 j2 n2
  have w2 := rW_safe hW c2 c1 j2 n2
  have i := rI_safe hI j1 n1 j2 n2
  have i2 := rI_safe hI c2 c1 j2 n2
  obtain ⟨q1, q2, q3, -⟩ := hW
  exact ⟨⟨⟨⟨by omega, by omega⟩, ⟨by omega, by omega⟩, by omega, by omega⟩, ⟨by omega, by omega⟩, rl_sLaw hL, rN_sits hN j1 n1, ⟨q2, q3⟩, w.1, i.1⟩, ⟨by omega, by omega⟩, ⟨⟨by omega, by omega⟩, ⟨by omega, by omega⟩, by omega, by omega⟩, rN_rS hN c2 c1 j2 n2, rl_rC hL, w2.2, i2.2⟩
theorem dR_ev (h : dR d nf nh nx sf db FX FY se sr X Y mf mh mx fo ha fx) (hL : relLc cs ln kd vl ct cd oc) : evC d.2.2.1 d.2.1 d.2.2.2.2.1 cs (sfO d) ha nh sf ln X Y kd vl sr := by
  obtain ⟨d0, ⟨-, o2, o3, o4, o5⟩, ⟨⟨n1, n2⟩, ⟨j1, j2⟩, ⟨i1, i2⟩, hr⟩, hsf, ⟨-, g1, g2, g3⟩⟩ := h
  obtain ⟨r1, r2, r3, r4⟩ := hr d0
  refine ⟨j2, n2, o2, r1, j1, ⟨ct, cd, oc, hL⟩, hsf, fun h hh => ?_⟩
  have q1 := (r2 h hh).2
  have q2 := g2 (2 * h + 1) (by omega)
  have q3 := o3 h hh
  exact ⟨t_eq.mpr (by rw [q1, q2]), by omega, by omega⟩
theorem dR_evM (h : dR d nf nh nx sf db FX FY se sr X Y mf mh mx fo ha fx) (hL : relLc cs ln kd vl ct cd oc) : evM d.2.2.1 d.2.1 d.2.2.2.2.1 cs (sfO d) ha mh mx ct fo fx cd oc := by
  obtain ⟨d0, ⟨-, o2, o3, o4, o5⟩, ⟨⟨n1, n2⟩, ⟨j1, j2⟩, ⟨i1, i2⟩, hr⟩, hsf, ⟨⟨c1, c2, c3⟩, g1, g2, g3⟩⟩ := h
  refine ⟨j2, n2, o2, g1, c2, ⟨ln, kd, vl, hL⟩, fun p i Q ep hi q1 q0 => ?_, fun h hh => ?_⟩
  · refine z_isSafeM o2 o4 n2 i2 g1 g3 c3 ep hi (fun w => q0 ?_) (fun w => q1 ?_)
    · unfold sfO
      rw [w]
      rfl
    · unfold sfO
      rw [w]
      rfl
  · have q2 := g2 (2 * h + 1) (by omega)
    have q3 := o3 h hh
    rw [q2]
    omega
end RF
