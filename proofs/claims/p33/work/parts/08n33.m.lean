section
/-! a day goes by: the class does likewise -/
theorem qblp {x y : Int32} {X Y : Nat} (hx : x = Int32.ofNat X) (hy : y = Int32.ofNat Y) (hX : X < 256) (hY : Y < 256) : x ||| y = Int32.ofNat (X ||| Y) := by
  have h2 : X ||| Y < 2 ^ 8 := Nat.or_lt_two_pow (by omega) (by omega)
  rw [hx, hy, qan]
  have ea : (Int32.ofNat X).toBitVec.toNat = X := by show X % 2 ^ 32 = X; exact Nat.mod_eq_of_lt (by omega)
  have eb : (Int32.ofNat Y).toBitVec.toNat = Y := by show Y % 2 ^ 32 = Y; exact Nat.mod_eq_of_lt (by omega)
  have e := qaVo (x := Int32.ofNat X ||| Int32.ofNat Y) (by rw [qaOz, ea, eb]; omega)
  rw [e, qaOz, ea, eb, Int32.toInt_ofNat_of_lt (by omega)]
section RM
variable {NH NF : Nat} {r t : Nat → Int32} {h j : Nat}
theorem qaPf {r' t' : Nat → Int32} (hR : qOH NH NF r t) (H6 : NH ≤ 6) (hc : ∀ j : Nat, j ≠ 3 → r' j = r j) (hm : ∀ j : Nat, (j < 24 ∨ 30 ≤ j) → t' j = t j) : qOH NH NF r' t' := by
  obtain ⟨r1, r2, r3, r4, r5, ⟨r6, r7⟩, r8⟩ := hR
  refine ⟨?_, fun j hj => ?_, fun j hj => ?_, fun j hj => ?_, fun j hj => ?_, ⟨?_, ?_⟩, fun i k hi hk hn => ?_⟩
  · rw [hc 2 (by omega), r1]
    unfold caN
    rw [qHW (R := fun j => decide (t' j = -1)) NH (fun j hj => by rw [hm j (by omega)])]
  · rw [hm j (by omega), hc (4 + j) (by omega), hc (10 + j) (by omega), hc (16 + j) (by omega), hm (6 + j) (by omega), hm (12 + j) (by omega)]
    exact r2 j hj
  · rw [hc (4 + j) (by omega)]; exact r3 j hj
  · rw [hc (22 + j) (by omega), hm (18 + j) (by omega)]; exact r4 j hj
  · rw [hc (28 + j) (by omega), hm (30 + j) (by omega)]; exact r5 j hj
  · rw [hc 0 (by omega), hm 66 (by omega)]; exact r6
  · rw [hc 1 (by omega), hm 67 (by omega)]; exact r7
  · rw [hm (30 + (6 * i + k)) (by omega)]; exact r8 i k hi hk hn
/-- days and years -/
theorem qaPR {x y : Int32} (hR : qOH NH NF r t) (H6 : NH ≤ 6) : qOH NH NF (upd (upd r 0 x) 1 y) (upd (upd t 66 x) 67 y) := by
  obtain ⟨r1, r2, r3, r4, r5, ⟨r6, r7⟩, r8⟩ := hR
  have hc : ∀ j : Nat, 2 ≤ j → upd (upd r 0 x) 1 y j = r j := fun j hj => by rw [pk_un (by omega), pk_un (by omega)]
  have hm : ∀ j : Nat, j < 66 → upd (upd t 66 x) 67 y j = t j := fun j hj => by rw [pk_un (by omega), pk_un (by omega)]
  refine ⟨?_, fun j hj => ?_, fun j hj => ?_, fun j hj => ?_, fun j hj => ?_, ⟨?_, ?_⟩, fun i k hi hk hn => ?_⟩
  · rw [hc 2 (by omega), r1]
    unfold caN
    rw [qHW (R := fun j => decide (upd (upd t 66 x) 67 y j = -1)) NH (fun j hj => by rw [hm j (by omega)])]
  · rw [hm j (by omega), hc (4 + j) (by omega), hc (10 + j) (by omega), hc (16 + j) (by omega), hm (6 + j) (by omega), hm (12 + j) (by omega)]
    exact r2 j hj
  · rw [hc (4 + j) (by omega)]; exact r3 j hj
  · rw [hc (22 + j) (by omega), hm (18 + j) (by omega)]; exact r4 j hj
  · rw [hc (28 + j) (by omega), hm (30 + j) (by omega)]; exact r5 j hj
  · rw [pk_un (by omega), pk_us, pk_un (by omega), pk_us]
  · rw [pk_us, pk_us]
  · rw [hm (30 + (6 * i + k)) (by omega)]; exact r8 i k hi hk hn
theorem qavg {x : Int32} (hR : qOH NH NF r t) (H6 : NH ≤ 6) (hh : h < NH) : qOH NH NF (upd r (16 + h) x) (upd t (12 + h) x) := by
  obtain ⟨r1, r2, r3, r4, r5, ⟨r6, r7⟩, r8⟩ := hR
  have hc : ∀ j : Nat, j ≠ 16 + h → upd r (16 + h) x j = r j := fun j hj => by rw [pk_un hj]
  have hm : ∀ j : Nat, j ≠ 12 + h → upd t (12 + h) x j = t j := fun j hj => by rw [pk_un hj]
  refine ⟨?_, fun j hj => ?_, fun j hj => ?_, fun j hj => ?_, fun j hj => ?_, ⟨?_, ?_⟩, fun i k hi hk hn => ?_⟩
  · rw [hc 2 (by omega), r1]
    unfold caN
    rw [qHW (R := fun j => decide (upd t (12 + h) x j = -1)) NH (fun j hj => by rw [hm j (by omega)])]
  · rw [hm j (by omega), hc (4 + j) (by omega), hc (10 + j) (by omega), hm (6 + j) (by omega)]
    refine (r2 j hj).imp id (fun ⟨g1, g2, g3, g4, g5⟩ => ⟨g1, g2, ?_, g4, g5⟩)
    by_cases z : j = h
    · rw [z, pk_us, pk_us]
    · rw [hc (16 + j) (by omega), hm (12 + j) (by omega)]; exact g3
  · rw [hc (4 + j) (by omega)]; exact r3 j hj
  · rw [hc (22 + j) (by omega), hm (18 + j) (by omega)]; exact r4 j hj
  · rw [hc (28 + j) (by omega), hm (30 + j) (by omega)]; exact r5 j hj
  · rw [hc 0 (by omega), hm 66 (by omega)]; exact r6
  · rw [hc 1 (by omega), hm 67 (by omega)]; exact r7
  · rw [hm (30 + (6 * i + k)) (by omega)]; exact r8 i k hi hk hn
theorem qaS2 {x : Int32} (hR : qOH NH NF r t) (H6 : NH ≤ 6) (hh : h < NH) (hx : 0 ≤ x.toInt ∧ x.toInt ≤ 9) : qOH NH NF (upd r (10 + h) x) (upd t (6 + h) x) := by
  obtain ⟨r1, r2, r3, r4, r5, ⟨r6, r7⟩, r8⟩ := hR
  have hc : ∀ j : Nat, j ≠ 10 + h → upd r (10 + h) x j = r j := fun j hj => by rw [pk_un hj]
  have hm : ∀ j : Nat, j ≠ 6 + h → upd t (6 + h) x j = t j := fun j hj => by rw [pk_un hj]
  refine ⟨?_, fun j hj => ?_, fun j hj => ?_, fun j hj => ?_, fun j hj => ?_, ⟨?_, ?_⟩, fun i k hi hk hn => ?_⟩
  · rw [hc 2 (by omega), r1]
    unfold caN
    rw [qHW (R := fun j => decide (upd t (6 + h) x j = -1)) NH (fun j hj => by rw [hm j (by omega)])]
  · rw [hm j (by omega), hc (4 + j) (by omega), hc (16 + j) (by omega), hm (12 + j) (by omega)]
    refine (r2 j hj).imp id (fun ⟨g1, g2, g3, g4, g5⟩ => ?_)
    by_cases z : j = h
    · rw [z, pk_us, pk_us]
      rw [z] at g1 g3
      exact ⟨g1, rfl, g3, hx.1, hx.2⟩
    · rw [hc (10 + j) (by omega), hm (6 + j) (by omega)]
      exact ⟨g1, g2, g3, g4, g5⟩
  · rw [hc (4 + j) (by omega)]; exact r3 j hj
  · rw [hc (22 + j) (by omega), hm (18 + j) (by omega)]; exact r4 j hj
  · rw [hc (28 + j) (by omega), hm (30 + j) (by omega)]; exact r5 j hj
  · rw [hc 0 (by omega), hm 66 (by omega)]; exact r6
  · rw [hc 1 (by omega), hm 67 (by omega)]; exact r7
  · rw [hm (30 + (6 * i + k)) (by omega)]; exact r8 i k hi hk hn
/-- of a caught one the class may write what it likes -/
theorem qa6a {x y : Int32} (hR : qOH NH NF r t) (H6 : NH ≤ 6) (hh : h < NH) (hc9 : t h = -1) : qOH NH NF (upd (upd r (10 + h) x) (16 + h) y) t := by
  obtain ⟨r1, r2, r3, r4, r5, ⟨r6, r7⟩, r8⟩ := hR
  have hc : ∀ j : Nat, j ≠ 10 + h → j ≠ 16 + h → upd (upd r (10 + h) x) (16 + h) y j = r j := fun j h1 h2 => by rw [pk_un h2, pk_un h1]
  refine ⟨?_, fun j hj => ?_, fun j hj => ?_, fun j hj => ?_, fun j hj => ?_, ⟨?_, ?_⟩, r8⟩
  · rw [hc 2 (by omega) (by omega)]; exact r1
  · by_cases z : j = h
    · rw [z]; exact Or.inl hc9
    · rw [hc (4 + j) (by omega) (by omega), hc (10 + j) (by omega) (by omega), hc (16 + j) (by omega) (by omega)]
      exact r2 j hj
  · rw [hc (4 + j) (by omega) (by omega)]; exact r3 j hj
  · rw [hc (22 + j) (by omega) (by omega)]; exact r4 j hj
  · rw [hc (28 + j) (by omega) (by omega)]; exact r5 j hj
  · rw [hc 0 (by omega) (by omega)]; exact r6
  · rw [hc 1 (by omega) (by omega)]; exact r7
theorem qaNi (hR : qOH NH NF r t) (H6 : NH ≤ 6) (hj9 : j < 36) : qOH NH NF (upd r (28 + j) 0) (upd t (30 + j) 0) := by
  obtain ⟨r1, r2, r3, r4, r5, ⟨r6, r7⟩, r8⟩ := hR
  have hc : ∀ i : Nat, i ≠ 28 + j → upd r (28 + j) 0 i = r i := fun i hi => by rw [pk_un hi]
  have hm : ∀ i : Nat, i ≠ 30 + j → upd t (30 + j) 0 i = t i := fun i hi => by rw [pk_un hi]
  refine ⟨?_, fun i hi => ?_, fun i hi => ?_, fun i hi => ?_, fun i hi => ?_, ⟨?_, ?_⟩, fun i k hi hk hn => ?_⟩
  · rw [hc 2 (by omega), r1]
    unfold caN
    rw [qHW (R := fun i => decide (upd t (30 + j) 0 i = -1)) NH (fun i hi => by rw [hm i (by omega)])]
  · rw [hm i (by omega), hc (4 + i) (by omega), hc (10 + i) (by omega), hc (16 + i) (by omega), hm (6 + i) (by omega), hm (12 + i) (by omega)]
    exact r2 i hi
  · rw [hc (4 + i) (by omega)]; exact r3 i hi
  · rw [hc (22 + i) (by omega), hm (18 + i) (by omega)]; exact r4 i hi
  · by_cases z : i = j
    · rw [z, pk_us, pk_us, t_0]; exact ⟨rfl, by omega, by omega⟩
    · rw [hc (28 + i) (by omega), hm (30 + i) (by omega)]; exact r5 i hi
  · rw [hc 0 (by omega), hm 66 (by omega)]; exact r6
  · rw [hc 1 (by omega), hm 67 (by omega)]; exact r7
  · by_cases z : 6 * i + k = j
    · rw [z, pk_us]
    · rw [hm (30 + (6 * i + k)) (by omega)]; exact r8 i k hi hk hn
theorem qa0K {x : Int32} (hR : qOH NH NF r t) (H6 : NH ≤ 6) (hh : h < NH) (hx : x = r 2 ||| (1 <<< (Int32.ofNat h &&& 31))) : qOH NH NF (upd r 2 x) (upd t h (-1)) := by
  obtain ⟨r1, r2, r3, r4, r5, ⟨r6, r7⟩, r8⟩ := hR
  have hc : ∀ i : Nat, i ≠ 2 → upd r 2 x i = r i := fun i hi => by rw [pk_un hi]
  have hm : ∀ i : Nat, i ≠ h → upd t h (-1) i = t i := fun i hi => by rw [pk_un hi]
  refine ⟨?_, fun i hi => ?_, fun i hi => ?_, fun i hi => ?_, fun i hi => ?_, ⟨?_, ?_⟩, fun i k hi hk hn => ?_⟩
  · rw [pk_us, hx, qaXO r1 (qbcf H6) (Int32.toInt_ofNat_of_lt (by omega)) (by omega)]
    unfold caN
    rw [qbjU (R := fun i => decide (upd t h (-1) i = -1)) hh (by rw [pk_us]; rfl) (fun i hi hn => by rw [hm i hn])]
  · by_cases z : i = h
    · rw [z, pk_us]; exact Or.inl rfl
    · rw [hm i z, hc (4 + i) (by omega), hc (10 + i) (by omega), hc (16 + i) (by omega), hm (6 + i) (by omega), hm (12 + i) (by omega)]
      exact r2 i hi
  · rw [hc (4 + i) (by omega)]; exact r3 i hi
  · rw [hc (22 + i) (by omega), hm (18 + i) (by omega)]; exact r4 i hi
  · rw [hc (28 + i) (by omega), hm (30 + i) (by omega)]; exact r5 i hi
  · rw [hc 0 (by omega), hm 66 (by omega)]; exact r6
  · rw [hc 1 (by omega), hm 67 (by omega)]; exact r7
  · rw [hm (30 + (6 * i + k)) (by omega)]; exact r8 i k hi hk hn
end RM
section CD
variable {NH NF : Nat} {row s : Nat → Int32} {nh sf p : Int32} {h : Nat} {sr hr : Nat → Int32} {sfB : Nat → Bool}
theorem qbcn {Q : Int32 → Prop} {i : Nat} (h8 : NF ≤ 8) (hs : sf = Int32.ofNat (orN sfB NF)) (ep : p.toInt = (i : Int)) (hi : i < NF) (q1 : sfB i = true → Q 1) (q0 : sfB i = false → Q 0) : qGa sf p Q := by
  have hb := qa06 (X := orN sfB NF) (j := i) hs (q1t h8) ep (by omega)
  rw [qMw] at hb
  refine ⟨fun c => ⟨by decide, q0 ?_⟩, fun c => ⟨by decide, q1 ?_⟩⟩
  · cases e : sfB i with
    | false => rfl
    | true => exact absurd (hb.mpr (by simp [hi, e])) c
  · have := hb.mp c
    simp [hi] at this; exact this
def wbN (sfB : Nat → Bool) (s : NI) (nh : Nat) : Nat := orN (fun h => wbB sfB s h) nh
theorem qbmv {sfB : Nat → Bool} {s : Nat → Int32} {k : Nat} (w : wbB sfB s k = false) : wbN sfB s (k + 1) = wbN sfB s k := by
  show (if wbB sfB s k = true then wbN sfB s k ||| (1 <<< k) else wbN sfB s k) = _
  rw [if_neg (by rw [w]; decide)]
theorem qbjq {sfB : Nat → Bool} {s : Nat → Int32} {k : Nat} {l q : Int32} (e : l = Int32.ofNat (wbN sfB s k)) (hk : k < 8) (ej : q.toInt = (k : Int)) (w : wbB sfB s k = true) : l ||| (1 <<< (q &&& 31)) = Int32.ofNat (wbN sfB s (k + 1)) := by
  rw [qaXO e (q1t (by omega)) ej hk]
  show _ = Int32.ofNat (if wbB sfB s k = true then wbN sfB s k ||| (1 <<< k) else wbN sfB s k)
  rw [if_pos w]
theorem qaVF {Q : Int32 → Prop} (hR : qOH NH NF row s) (H6 : NH ≤ 6) (h8 : NF ≤ 8) (eh : nh.toInt = (NH : Int)) (hs : sf = Int32.ofNat (orN sfB NF)) (hq : Q (Int32.ofNat (wbN sfB s NH))) : qAk nh sf row Q := by
  have go : ∀ (m : Nat) (l1 l2 : Int32) (k : Nat), l2.toInt = (k : Int) → k ≤ NH → l1 = Int32.ofNat (wbN sfB s k) → NH - k < m → qe4 nh sf row Q m l1 l2 := by
    intro m
    induction m with
    | zero => intro l1 l2 k h1 h2 h3 h4; omega
    | succ m ih =>
      intro l1 l2 k h1 h2 h3 h4
      refine ⟨fun c => ?_, fun c => ?_⟩
      · rw [qak] at c
        rw [h3, show k = NH by omega]; exact hq
      · rw [qak] at c
        have hk : k < NH := by omega
        have nx : ∀ x : Int32, x = l2 + 1 → x.toInt = ((k + 1 : Nat) : Int) := fun x e => by rw [e, qca (by omega), h1]; omega
        have stay : wbB sfB s k = false → qs9 nh sf row Q (fun l1 l2 => qe4 nh sf row Q m l1 l2) l1 l2 := fun w x e => ih l1 x (k + 1) (nx x e) (by omega) (by rw [qbmv w]; exact h3) (by omega)
        refine qSQ hR.1 H6 h1 hk (fun w => ⟨fun _ => stay (by unfold wbB; simp [w]), fun z => absurd z (by decide)⟩) (fun w => ⟨fun z => absurd rfl z, fun _ => qahE h1 (by omega) ?_⟩)
        obtain ⟨f, ef, hf⟩ := m_in hR hk w
        have et : (s k).toInt.toNat = f := by omega
        rw [← qawz hR hk w]
        refine qbcn h8 hs ef hf (fun y => ⟨fun _ => stay (by unfold wbB; rw [et, y]; simp), fun z => absurd z (by decide)⟩) (fun y => ⟨fun z => absurd rfl z, fun _ => qa5x h1 (by omega) ?_⟩)
        rw [((hR.2.1 k hk).resolve_left w).2.2.1]
        refine ⟨fun d => stay ?_, fun d x9 e9 x10 e10 => ih x9 x10 (k + 1) (nx x10 e10) (by omega) ?_ (by omega)⟩
        · rw [qak, t_3] at d
          unfold wbB; rw [decide_eq_false (show ¬ (s (12 + k)).toInt < 3 by omega)]; simp
        · rw [qak, t_3] at d
          rw [e9]
          refine qbjq h3 (by omega) h1 ?_
          unfold wbB; rw [et, y, decide_eq_true (show (s (12 + k)).toInt < 3 by omega), decide_eq_true w]; rfl
  exact ⟨7, go 7 0 0 0 t_0 (by omega) rfl (by omega)⟩
/-- the debts of a hare, and those to it, are gone -/
theorem qaW8 {t : Nat → Int32} {Q : NI → Prop} (hR : qOH NH NF row t) (H6 : NH ≤ 6) (eh : nh.toInt = (NH : Int)) (ep : p.toInt = (h : Int)) (hh : h < NH) (hq : ∀ r : NI, qOH NH NF r (dpF t h NH) → r 3 = row 3 → Q r) : qHG nh row p Q := by
  have go : ∀ (m : Nat) (r : NI) (l2 : Int32) (o : Nat), l2.toInt = (o : Int) → o ≤ NH → qOH NH NF r (dpF t h o) → r 3 = row 3 → NH - o < m → qyE nh Q m r p l2 := by
    intro m
    induction m with
    | zero => intro r l2 o h1 h2 h3 h5 h4; omega
    | succ m ih =>
      intro r l2 o h1 h2 h3 h5 h4
      refine ⟨fun c => ?_, fun c x2 e2 x3 e3 => ?_⟩
      · rw [qak] at c
        rw [show o = NH by omega] at h3
        exact hq r h3 h5
      · rw [qak] at c
        have k3 := ixc e2 ep (by omega) e3 h1 (by omega)
        refine ⟨qa6 (by omega) (by omega), fun f4 e4 x5 e5 x6 e6 => ?_⟩
        have k6 := ixc e5 h1 (by omega) e6 ep (by omega)
        refine ⟨qa6 (by omega) (by omega), fun f7 e7 x8 e8 => ih f7 x8 (o + 1) (by rw [e8, qca (by omega), h1]; omega) (by omega) ?_ ?_ (by omega)⟩
        · rw [qas k3] at e4
          rw [qas k6] at e7
          rw [e7, e4]
          exact qaNi (qaNi h3 H6 (by omega)) H6 (by omega)
        · rw [qas k3] at e4
          rw [qas k6] at e7
          rw [e7, e4, pk_un (by omega), pk_un (by omega)]; exact h5
  exact ⟨7, go 7 row 0 0 t_0 (by omega) hR rfl (by omega)⟩
/-- how strong the hares are told -/
def relH (NH : Nat) (sr hr : NI) : Prop := ∀ h : Nat, h < NH → sr h = hr (2 * h + 1) ∧ 0 ≤ (sr h).toInt ∧ (sr h).toInt ≤ 9
theorem qbb5 {Q : NI → Prop} (hR : qOH NH NF row s) (H6 : NH ≤ 6) (h8 : NF ≤ 8) (eh : nh.toInt = (NH : Int)) (hs : sf = Int32.ofNat (orN sfB NF)) (hh : relH NH sr hr) (hq : ∀ r : NI, qOH NH NF r (stF sfB hr NH s NH) → r 3 = row 3 → Q r) : qSg nh sf sr row Q := by
  refine qaVF hR H6 h8 eh hs ?_
  have go : ∀ (m : Nat) (r : NI) (l2 : Int32) (k : Nat), l2.toInt = (k : Int) → k ≤ NH → qOH NH NF r (stF sfB hr NH s k) → r 3 = row 3 → NH - k < m → qrI nh sf sr Q m r (Int32.ofNat (wbN sfB s NH)) l2 := by
    intro m
    induction m with
    | zero => intro r l2 k h1 h2 h3 h5 h4; omega
    | succ m ih =>
      intro r l2 k h1 h2 h3 h5 h4
      refine ⟨fun c => ?_, fun c => ?_⟩
      · rw [qak] at c
        rw [show k = NH by omega] at h3
        exact hq r h3 h5
      · rw [qak] at c
        have hk : k < NH := by omega
        obtain ⟨g1, g2, g3⟩ := hh k hk
        have hb := qa06 (X := wbN sfB s NH) (x := Int32.ofNat (wbN sfB s NH)) (j := k) rfl (q1t (by omega)) h1 (by omega)
        rw [show (wbN sfB s NH).testBit k = wbB sfB s k by rw [show wbN sfB s NH = orN (fun h => wbB sfB s h) NH from rfl, qMw]; simp [hk]] at hb
        have next : ∀ r2 : NI, qOH NH NF r2 (stF sfB hr NH s (k + 1)) → r2 3 = row 3 → qH9 nh sf sr Q (fun jdE l1 l2 => qrI nh sf sr Q m jdE l1 l2) r2 (Int32.ofNat (wbN sfB s NH)) l2 := fun r2 e1 e2 x14 e14 =>
          ih r2 x14 (k + 1) (by rw [e14, qca (by omega), h1]; omega) (by omega) e1 e2 (by omega)
        have wk := qbfZ (sfB := sfB) (hr := hr) (s := s) (nh := NH) (k := k) H6 (by omega)
        refine ⟨fun d => ⟨fun _ x5 e5 => ?_, fun z => absurd rfl z⟩, fun d => ⟨fun z => absurd z (by decide), fun _ x10 e10 x11 e11 f12 e12 => ?_⟩⟩
        · have w : wbB sfB s k = false := by
            cases e : wbB sfB s k with
            | false => rfl
            | true => exact absurd (hb.mpr e) d
          have k5 := i10 e5 h1 (by omega)
          refine ⟨qa6 (by omega) (by omega), fun x6 e6 => ⟨qa6 (by omega) (by omega), fun f7 e7 x8 e8 => ?_⟩⟩
          have k8 := i16 e8 h1 (by omega)
          refine ⟨qa6 (by omega) (by omega), fun f9 e9 => next f9 ?_ ?_⟩
          · rw [qas h1] at e6
            rw [qas k5] at e7
            rw [qas k8] at e9
            show qOH NH NF f9 (stS sfB hr NH (stF sfB hr NH s k) k)
            unfold stS
            rw [if_neg (by rw [wk, w]; decide), e9, e7, e6]
            by_cases y : stF sfB hr NH s k k = -1
            · rw [if_pos y]; exact qa6a h3 H6 hk y
            · rw [if_neg y, ← g1]
              exact qavg (qaS2 h3 H6 hk ⟨g2, g3⟩) H6 hk
          · rw [qas k5] at e7
            rw [qas k8] at e9
            rw [e9, e7, pk_un (by omega), pk_un (by omega)]; exact h5
        · have w : wbB sfB s k = true := hb.mp d
          rw [k_c2] at e10 e12
          have eo := q7z h1 (by omega)
          refine qaW8 (NF := NF) (t := upd (stF sfB hr NH s k) k (-1)) ?_ H6 eh h1 hk (fun r2 q1 q2 => next r2 ?_ ?_)
          · rw [e12]
            exact qa0K h3 H6 hk (by rw [e11, e10, eo])
          · show qOH NH NF r2 (stS sfB hr NH (stF sfB hr NH s k) k)
            unfold stS
            rw [if_pos (by rw [wk]; exact w)]; exact q1
          · rw [q2, e12, pk_un (by omega)]; exact h5
  exact ⟨7, go 7 row 0 0 t_0 (by omega) hR rfl (by omega)⟩
theorem qa6V {Q : NI → Prop} (hR : qWf NH NF row s) (H6 : NH ≤ 6) (h8 : NF ≤ 8) (eh : nh.toInt = (NH : Int)) (hs : sf = Int32.ofNat (orN sfB NF)) (hh : relH NH sr hr) (hq : ∀ r : NI, qWf NH NF r (paS sfB hr NH s) → Q r) : qCv nh sf sr row Q := by
  have go : ∀ (m : Nat) (r : NI) (l1 : Int32) (k : Nat), l1.toInt = (k : Int) → k ≤ NH → qWf NH NF r (psF s k) → NH - k < m → qqG nh sf sr Q m r l1 := by
    intro m
    induction m with
    | zero => intro r l1 k h1 h2 h3 h4; omega
    | succ m ih =>
      intro r l1 k h1 h2 h3 h4
      obtain ⟨hM, b1, b2⟩ := id h3
      refine ⟨fun c f2 e2 x3 e3 x4 e4 f5 e5 x6 e6 => ?_, fun c x13 e13 x14 e14 => ?_⟩
      · rw [qak] at c
        have ek : k = NH := by omega
        rw [k_c3] at e2
        rw [t_c0] at e3 e5 e6
        have fin : ∀ (r2 u : NI), qOH NH NF r2 u → r2 3 = 0 → u = (if ndS (psF s NH) 66 ≤ 31 then ndS (psF s NH) else yrS (stF sfB hr NH (ndS (psF s NH)) NH)) → Q r2 := fun r2 u hr2 h0 eu => by
          refine hq r2 ⟨?_, ?_, fun j hj => ?_⟩
          · unfold paS
            rw [← eu]
            exact qaPf hr2 H6 (fun j _ => rfl) (fun j hj => bz_o 6 (by omega))
          · rw [h0]
            unfold buN paS
            rw [qHW (R := fun _ => false) NH (fun j hj => by rw [bz_z 6 (by omega)]; rfl)]
            have z : ∀ k : Nat, orN (fun _ => false) k = 0 := fun k => by
              induction k with
              | zero => rfl
              | succ k ih => exact ih
            rw [z NH]; rfl
          · unfold paS
            rw [bz_z 6 (by omega)]; exact Or.inl rfl
        have hnd : qOH NH NF f5 (ndS (psF s NH)) := by
          have g := qaPR (x := r 0 + 1) (y := r 1) hM H6
          rw [ek] at g
          have d0 : psF s NH 66 = r 0 := by rw [← ek]; exact hM.2.2.2.2.2.1.1.symm
          have d1 : psF s NH 67 = r 1 := by rw [← ek]; exact hM.2.2.2.2.2.1.2.symm
          refine qaPf g H6 (fun j hj => ?_) (fun j hj => ?_)
          · rw [e5, e4, e3, e2]
            by_cases z0 : j = 0
            · rw [z0, pk_us, pk_un (by omega), pk_un (by omega), pk_us]
            · rw [pk_un z0, pk_un hj]
              by_cases z1 : j = 1
              · rw [z1, pk_us]
              · rw [pk_un z1, pk_un z0]
          · unfold ndS
            by_cases z0 : j = 66
            · rw [z0, pk_us, pk_un (by omega), pk_us, d0]
            · rw [pk_un z0]
              by_cases z1 : j = 67
              · rw [z1, pk_us, d1]
              · rw [pk_un z1, pk_un z0]
        have h53 : f5 3 = 0 := by rw [e5, pk_un (by omega), e2, pk_us]
        have e66 : ndS (psF s NH) 66 = x6 := by rw [e6]; exact hnd.2.2.2.2.2.1.1.symm
        refine ⟨fun d => fin f5 _ hnd h53 ?_, fun d => qbb5 hnd H6 h8 eh hs hh (fun r2 g1 g2 f9 e9 x10 e10 x11 e11 f12 e12 => fin f12 (yrS (stF sfB hr NH (ndS (psF s NH)) NH)) ?_ ?_ ?_)⟩
        · rw [e66, if_pos d]
        · rw [t_c0] at e9
          rw [k_c1] at e10 e12
          have g := qaPR (x := 1) (y := r2 1 + 1) g1 H6
          have d1 : stF sfB hr NH (ndS (psF s NH)) NH 67 = r2 1 := g1.2.2.2.2.2.1.2.symm
          rw [e12, e11, e10, e9, pk_un (show (1 : Nat) ≠ 0 by omega)]
          unfold yrS
          rw [pk_un (show (67 : Nat) ≠ 66 by omega), d1]; exact g
        · rw [t_c0] at e9
          rw [k_c1] at e12
          rw [e12, pk_un (by omega), e9, pk_un (by omega), g2]; exact h53
        · rw [e66, if_neg d]
      · rw [qak] at c
        have hk : k < NH := by omega
        rw [k_c2, hM.1] at e13
        rw [k_c3, b1] at e14
        have hb := qa06 (j := k) (qblp e13 e14 (qbcf H6) (qbg4 H6)) (by have := Nat.or_lt_two_pow (n := 8) (show caN (psF s k) NH < 2 ^ 8 from qbcf H6) (show buN (psF s k) NH < 2 ^ 8 from qbg4 H6); exact this) h1 (by omega)
        rw [Nat.testBit_or, Bool.or_eq_true, qbcz hk, qbk5 hk] at hb
        have next : ∀ r2 : NI, qWf NH NF r2 (psF s (k + 1)) → qEx nh sf sr Q (fun jdE l1 => qqG nh sf sr Q m jdE l1) r2 l1 := fun r2 e1 x21 e21 =>
          ih r2 x21 (k + 1) (by rw [e21, qca (by omega), h1]; omega) (by omega) e1 (by omega)
        refine ⟨fun d => ⟨fun z => absurd rfl z, fun _ x17 e17 => ?_⟩, fun d => ⟨fun _ => next r ?_, fun z => absurd z (by decide)⟩⟩
        · have hn : ¬ (psF s k k = -1 ∨ psF s k (24 + k) = 1) := fun w => d (hb.mpr w)
          have k17 := i16 e17 h1 (by omega)
          refine ⟨qa6 (by omega) (by omega), fun x18 e18 x19 e19 => ⟨qa6 (by omega) (by omega), fun f20 e20 => next f20 ?_⟩⟩
          rw [qas k17] at e18 e20
          have h0 : psF s k (24 + k) = 0 := (b2 k hk).resolve_right (fun w => hn (Or.inr w))
          have hc : psF s k k ≠ -1 := fun w => hn (Or.inl w)
          have e : psF s (k + 1) = upd (psF s k) (12 + k) (psF s k (12 + k) + 1) := by
            show psS (psF s k) k = _
            unfold psS; rw [if_pos ⟨hc, h0⟩]
          have ev : r (16 + k) = psF s k (12 + k) := ((hM.2.1 k hk).resolve_left hc).2.2.1
          rw [e, e20, e19, e18, ev]
          refine ⟨qavg hM H6 hk, ?_, fun j hj => ?_⟩
          · rw [pk_un (by omega), b1]
            unfold buN
            rw [qHW (R := fun j => decide (upd (psF s k) (12 + k) (psF s k (12 + k) + 1) (24 + j) = 1)) NH (fun j hj => by rw [pk_un (by omega)])]
          · rw [pk_un (by omega)]; exact b2 j hj
        · have hy := hb.mp d
          have e : psF s (k + 1) = psF s k := by
            show psS (psF s k) k = _
            unfold psS
            rw [if_neg (fun g => hy.elim g.1 (fun w => by rw [g.2] at w; exact absurd w (by decide)))]
          rw [e]; exact h3
  exact ⟨7, go 7 row 0 0 t_0 (by omega) hR (by omega)⟩
end CD
end
section
/-! a work's text: what it says -/
abbrev wLf := Int × Int × Int × Int
abbrev TG (β : Type) := List (wLf ⊕ (Int × β))
def TT : Nat → Type
  | 0 => TG Empty
  | m + 1 => TG (TT m)
section WT
variable (n : Nat) (b : Nat → Int) (H F : Int)
def agGw {β : Type} (B : Option (sT → sT × β)) (st : sT) : sT × TG β := match B with
  | none => ((3, sk n b st.2.2, 0), [])
  | some f => (gS n b 59 (gS n b 93 (f (gS n b 91 (nS n b 0 40 (wE n b st)))).1), [Sum.inr (nV n b (wE n b st), (f (gS n b 91 (nS n b 0 40 (wE n b st)))).2)])
def tnS (st : sT) : sT := nS n b 0 (H - 1) (nS n b 0 (H - 1) (wE n b st))
def tfS (st : sT) : sT := nS n b 0 (F - 1) (nS n b 0 (H - 1) (wE n b st))
/-- a step that is no loop: kind and numbers, where it ends ahead of its sign -/
def lfV (w : Int) (st : sT) : wLf := if w = 398384 then (0, nV n b (wE n b st), nV n b (nS n b 0 (H - 1) (wE n b st)), 0) else if w = 2552 then (1, nV n b (wE n b st), nV n b (nS n b 0 (H - 1) (wE n b st)), 0) else if w = 16441 then (2, nV n b (wE n b st), nV n b (nS n b 0 (H - 1) (wE n b st)), nV n b (tnS n b H st)) else (3, 0, 0, 0)
def lfS (w : Int) (st : sT) : sT := if w = 398384 then tfS n b H F st else if w = 2552 then tnS n b H st else if w = 16441 then nS n b 1 99 (tnS n b H st) else wE n b st
def isLf (w : Int) : Prop := w = 398384 ∨ w = 2552 ∨ w = 16441 ∨ w = 4153
def quq {β : Type} (B : Option (sT → sT × β)) (st : sT) : sT × TG β :=
  if pw n b (sk n b st.2.2) = 1279278 then agGw n b B st
  else if pw n b (sk n b st.2.2) = 398384 ∨ pw n b (sk n b st.2.2) = 2552 ∨ pw n b (sk n b st.2.2) = 16441 ∨ pw n b (sk n b st.2.2) = 4153 then (gS n b 59 (lfS n b H F (pw n b (sk n b st.2.2)) st), [Sum.inl (lfV n b H (pw n b (sk n b st.2.2)) st)])
  else ((1, sk n b st.2.2, 0), [])
def blG {β : Type} (B : Option (sT → sT × β)) : Nat → sT × TG β → sT × TG β
  | 0, x => x
  | k + 1, x => if x.1.1 ≠ 0 ∨ at0 n b (sk n b x.1.2.2) = 93 then x else blG B k ((quq n b H F B x.1).1, x.2 ++ (quq n b H F B x.1).2)
def tpG {β : Type} (B : Option (sT → sT × β)) : Nat → sT × TG β → sT × TG β
  | 0, x => x
  | k + 1, x => if x.1.1 ≠ 0 ∨ ¬ sk n b x.1.2.2 < n then x else tpG B k ((quq n b H F B x.1).1, x.2 ++ (quq n b H F B x.1).2)
def blN : (m : Nat) → sT → sT × TT m
  | 0, st => blG n b H F (β := Empty) none 150 (st, [])
  | m + 1, st => blG n b H F (β := TT m) (some (blN m)) 150 (st, [])
def qxz : sT × TG (TT 5) := tpG n b H F (some (blN n b H F 5)) 150 ((0, 0, 0), [])
end WT
/-- how many rows of the class a text wants -/
def enL {β : Type} (eB : β → Nat) : TG β → Nat
  | [] => 0
  | Sum.inl _ :: L => 1 + enL eB L
  | Sum.inr x :: L => 2 + eB x.2 + enL eB L
theorem qbkc {β : Type} {eB : β → Nat} {L2 : TG β} : ∀ L1 : TG β, enL eB (L1 ++ L2) = enL eB L1 + enL eB L2 := by
  intro L1
  induction L1 with
  | nil => show enL eB L2 = 0 + enL eB L2; omega
  | cons x L ih =>
    cases x with
    | inl v => show 1 + enL eB (L ++ L2) = 1 + enL eB L + enL eB L2; omega
    | inr v => show 2 + eB v.2 + enL eB (L ++ L2) = 2 + eB v.2 + enL eB L + enL eB L2; omega
section WP
variable {n : Nat} {b : Nat → Int} {H F : Int} {st : sT}
/-- a word of three letters or more -/
theorem wE_3 (hw : 1024 ≤ pw n b (sk n b st.2.2)) : st.2.2 + 3 ≤ (wE n b st).2.2 ∧ (wE n b st).2.2 ≤ n := by
  have h1 := qash (n := n) (b := b) (st := st) (by omega)
  have h2 := qW2 (n := n) (b := b) (s := sk n b st.2.2) _ (sk n b st.2.2) rfl
  have h3 := (quu (n := n) (b := b) _ st.2.2 rfl).1
  refine ⟨?_, h1.2⟩
  show st.2.2 + 3 ≤ lE n b (sk n b st.2.2)
  by_cases c : sk n b st.2.2 + 3 ≤ lE n b (sk n b st.2.2)
  · omega
  · have g := qbdk (b := b) (s := sk n b st.2.2) (lE n b (sk n b st.2.2) - sk n b st.2.2) (fun j hj => h2.2.2.1 (sk n b st.2.2 + j) (by omega) (by omega))
    unfold pw at hw
    rw [if_pos (by omega)] at hw
    have e : lE n b (sk n b st.2.2) - sk n b st.2.2 = 0 ∨ lE n b (sk n b st.2.2) - sk n b st.2.2 = 1 ∨ lE n b (sk n b st.2.2) - sk n b st.2.2 = 2 := by omega
    rcases e with e | e | e <;> rw [e] at g hw <;> simp at g <;> omega
/-- a number that is read well goes on -/
theorem qana {lo hi : Int} (h : (nS n b lo hi st).1 = 0) : st.2.2 < (nS n b lo hi st).2.2 ∧ (nS n b lo hi st).2.2 ≤ n := qa1C (qdE h).1 h
theorem qayO {c : Int} (hc : c ≠ 0) (h : (gS n b c st).1 = 0) : st.2.2 < (gS n b c st).2.2 ∧ (gS n b c st).2.2 ≤ n := qaUd hc (qlb h) h
theorem qa0P {w : Int} (hw : pw n b (sk n b st.2.2) = w) (hl : isLf w) (h : (lfS n b H F w st).1 = 0) : st.2.2 + 3 ≤ (lfS n b H F w st).2.2 ∧ (lfS n b H F w st).2.2 ≤ n := by
  unfold isLf at hl
  have g := wE_3 (n := n) (b := b) (st := st) (by omega)
  unfold lfS at h ⊢
  by_cases c1 : w = 398384
  · rw [if_pos c1] at h ⊢
    have a2 := qana h
    have a1 := qana (qdE h).1
    unfold tfS
    omega
  by_cases c2 : w = 2552
  · rw [if_neg c1, if_pos c2] at h ⊢
    have a2 := qana h
    have a1 := qana (qdE h).1
    unfold tnS
    omega
  by_cases c3 : w = 16441
  · rw [if_neg c1, if_neg c2, if_pos c3] at h ⊢
    have a3 := qana h
    have a2 := qana (qdE h).1
    have a1 := qana (qdE (qdE h).1).1
    have e : (tnS n b H st).2.2 = (nS n b 0 (H - 1) (nS n b 0 (H - 1) (wE n b st))).2.2 := rfl
    omega
  · rw [if_neg c1, if_neg c2, if_neg c3]; exact g
/-- a reader of a block: behind a fault nothing; else it goes on, and tells a third as much as it reads -/
def gdB (n : Nat) {β : Type} (eB : β → Nat) (f : sT → sT × β) : Prop := ∀ st : sT, (st.1 ≠ 0 → (f st).1 = st) ∧ (st.1 = 0 → st.2.2 ≤ n → (f st).1.1 = 0 → st.2.2 ≤ (f st).1.2.2 ∧ (f st).1.2.2 ≤ n ∧ 3 * eB (f st).2 + st.2.2 ≤ (f st).1.2.2)
theorem qaTy {β : Type} {eB : β → Nat} {B : Option (sT → sT × β)} (hB : ∀ f : sT → sT × β, B = some f → gdB n eB f) (h0 : st.1 = 0) (hp : st.2.2 ≤ n) (h : (quq n b H F B st).1.1 = 0) : st.2.2 + 4 ≤ (quq n b H F B st).1.2.2 ∧ (quq n b H F B st).1.2.2 ≤ n ∧ 3 * enL eB (quq n b H F B st).2 + st.2.2 ≤ (quq n b H F B st).1.2.2 := by
  unfold quq at h ⊢
  by_cases c1 : pw n b (sk n b st.2.2) = 1279278
  · rw [if_pos c1] at h ⊢
    have g := wE_3 (n := n) (b := b) (st := st) (by omega)
    cases B with
    | none => exact absurd h (by show ¬ (3 : Int) = 0; decide)
    | some f =>
      have h : (gS n b 59 (gS n b 93 (f (gS n b 91 (nS n b 0 40 (wE n b st)))).1)).1 = 0 := h
      have a4 := qayO (by decide) h
      have h3 := qlb h
      have a3 := qayO (by decide) h3
      have h2 := qlb h3
      have hf := hB f rfl (gS n b 91 (nS n b 0 40 (wE n b st)))
      have h1 : (gS n b 91 (nS n b 0 40 (wE n b st))).1 = 0 := by
        by_cases z : (gS n b 91 (nS n b 0 40 (wE n b st))).1 = 0
        · exact z
        · rw [hf.1 z] at h2; exact h2
      have a1 := qayO (by decide) h1
      have a0 := qana (qlb h1)
      have a2 := hf.2 h1 a1.2 h2
      show st.2.2 + 4 ≤ (gS n b 59 (gS n b 93 (f (gS n b 91 (nS n b 0 40 (wE n b st)))).1)).2.2 ∧ (gS n b 59 (gS n b 93 (f (gS n b 91 (nS n b 0 40 (wE n b st)))).1)).2.2 ≤ n ∧ 3 * (2 + eB (f (gS n b 91 (nS n b 0 40 (wE n b st)))).2 + 0) + st.2.2 ≤ (gS n b 59 (gS n b 93 (f (gS n b 91 (nS n b 0 40 (wE n b st)))).1)).2.2
      omega
  · rw [if_neg c1] at h ⊢
    by_cases c2 : pw n b (sk n b st.2.2) = 398384 ∨ pw n b (sk n b st.2.2) = 2552 ∨ pw n b (sk n b st.2.2) = 16441 ∨ pw n b (sk n b st.2.2) = 4153
    · rw [if_pos c2] at h ⊢
      have h : (gS n b 59 (lfS n b H F (pw n b (sk n b st.2.2)) st)).1 = 0 := h
      have a2 := qayO (by decide) h
      have a1 := qa0P rfl c2 (qlb h)
      show st.2.2 + 4 ≤ (gS n b 59 (lfS n b H F (pw n b (sk n b st.2.2)) st)).2.2 ∧ (gS n b 59 (lfS n b H F (pw n b (sk n b st.2.2)) st)).2.2 ≤ n ∧ 3 * (1 + 0) + st.2.2 ≤ (gS n b 59 (lfS n b H F (pw n b (sk n b st.2.2)) st)).2.2
      omega
    · rw [if_neg c2] at h
      exact absurd h (by show ¬ (1 : Int) = 0; decide)
/-- a block's loop: it goes on; it ends at its end -/
theorem qa5t {β : Type} {eB : β → Nat} {B : Option (sT → sT × β)} (hB : ∀ f : sT → sT × β, B = some f → gdB n eB f) : ∀ (k : Nat) (x : sT × TG β), (x.1.1 ≠ 0 → blG n b H F B k x = x) ∧ (x.1.1 = 0 → x.1.2.2 ≤ n → (blG n b H F B k x).1.1 = 0 → x.1.2.2 ≤ (blG n b H F B k x).1.2.2 ∧ (blG n b H F B k x).1.2.2 ≤ n ∧ 3 * enL eB (blG n b H F B k x).2 + x.1.2.2 ≤ 3 * enL eB x.2 + (blG n b H F B k x).1.2.2 ∧ (at0 n b (sk n b (blG n b H F B k x).1.2.2) = 93 ∨ x.1.2.2 + 4 * k ≤ (blG n b H F B k x).1.2.2)) := by
  intro k
  induction k with
  | zero => intro x; exact ⟨fun _ => rfl, fun h0 hp _ => ⟨Nat.le_refl _, hp, Nat.le_refl _, Or.inr (by show x.1.2.2 + 4 * 0 ≤ x.1.2.2; omega)⟩⟩
  | succ k ih =>
    intro x
    refine ⟨fun h => ?_, fun h0 hp h => ?_⟩
    · show (if x.1.1 ≠ 0 ∨ at0 n b (sk n b x.1.2.2) = 93 then x else _) = x
      rw [if_pos (Or.inl h)]
    · by_cases c : at0 n b (sk n b x.1.2.2) = 93
      · have e : blG n b H F B (k + 1) x = x := by
          show (if x.1.1 ≠ 0 ∨ at0 n b (sk n b x.1.2.2) = 93 then x else _) = x
          rw [if_pos (Or.inr c)]
        rw [e]
        exact ⟨Nat.le_refl _, hp, Nat.le_refl _, Or.inl c⟩
      · have e : blG n b H F B (k + 1) x = blG n b H F B k ((quq n b H F B x.1).1, x.2 ++ (quq n b H F B x.1).2) := by
          show (if x.1.1 ≠ 0 ∨ at0 n b (sk n b x.1.2.2) = 93 then x else _) = _
          rw [if_neg (fun d => d.elim (fun w => w h0) c)]
        rw [e] at h ⊢
        obtain ⟨i1, i2⟩ := ih ((quq n b H F B x.1).1, x.2 ++ (quq n b H F B x.1).2)
        have hs : (quq n b H F B x.1).1.1 = 0 := by
          by_cases z : (quq n b H F B x.1).1.1 = 0
          · exact z
          · rw [i1 z] at h; exact h
        have g := qaTy hB h0 hp hs
        have i3 := i2 hs g.2.1 h
        rw [qbkc] at i3
        obtain ⟨j1, j2, j3, j4⟩ := i3
        have j1 : (quq n b H F B x.1).1.2.2 ≤ _ := j1
        have j3 : _ + (quq n b H F B x.1).1.2.2 ≤ _ := j3
        have j4 : _ ∨ (quq n b H F B x.1).1.2.2 + 4 * k ≤ _ := j4
        refine ⟨by omega, j2, by omega, j4.imp id (fun d => by omega)⟩
def enN : (m : Nat) → TT m → Nat
  | 0 => enL (β := Empty) (fun _ => 0)
  | m + 1 => enL (β := TT m) (enN m)
theorem qNz : ∀ m : Nat, gdB n (enN m) (blN n b H F m) := by
  intro m
  induction m with
  | zero =>
    intro st
    have g := qa5t (n := n) (b := b) (H := H) (F := F) (β := Empty) (eB := fun _ => 0) (B := none) (fun f hf => by cases hf) 150 (st, [])
    refine ⟨fun h => congrArg Prod.fst (g.1 h), fun h0 hp h => ?_⟩
    have g2 := g.2 h0 hp h
    exact ⟨g2.1, g2.2.1, by have h7 : 3 * enL (fun _ => 0) (blG n b H F (β := Empty) none 150 (st, [])).2 + st.2.2 ≤ 3 * enL (fun _ => 0) ([] : TG Empty) + (blG n b H F (β := Empty) none 150 (st, [])).1.2.2 := g2.2.2.1; show 3 * enL (fun _ => 0) (blG n b H F (β := Empty) none 150 (st, [])).2 + st.2.2 ≤ (blG n b H F (β := Empty) none 150 (st, [])).1.2.2; have e : enL (fun _ => 0) ([] : TG Empty) = 0 := rfl; omega⟩
  | succ m ih =>
    intro st
    have g := qa5t (n := n) (b := b) (H := H) (F := F) (β := TT m) (eB := enN m) (B := some (blN n b H F m)) (fun f hf => by rw [← Option.some.inj hf]; exact ih) 150 (st, [])
    refine ⟨fun h => congrArg Prod.fst (g.1 h), fun h0 hp h => ?_⟩
    have g2 := g.2 h0 hp h
    exact ⟨g2.1, g2.2.1, by have h7 : 3 * enL (enN m) (blG n b H F (β := TT m) (some (blN n b H F m)) 150 (st, [])).2 + st.2.2 ≤ 3 * enL (enN m) ([] : TG (TT m)) + (blG n b H F (β := TT m) (some (blN n b H F m)) 150 (st, [])).1.2.2 := g2.2.2.1; show 3 * enL (enN m) (blG n b H F (β := TT m) (some (blN n b H F m)) 150 (st, [])).2 + st.2.2 ≤ (blG n b H F (β := TT m) (some (blN n b H F m)) 150 (st, [])).1.2.2; have e : enL (enN m) ([] : TG (TT m)) = 0 := rfl; omega⟩
end WP
end
section
/-! the class's rows of a work -/
abbrev wA := NI × NI × NI × NI
def agA (A A' : wA) (i j : Nat) : Prop := ∀ q : Nat, i ≤ q → q < j → A.1 q = A'.1 q ∧ A.2.1 q = A'.2.1 q ∧ A.2.2.1 q = A'.2.2.1 q ∧ A.2.2.2 q = A'.2.2.2 q
theorem qbi7 {A : wA} {i j : Nat} : agA A A i j := fun _ _ _ => ⟨rfl, rfl, rfl, rfl⟩
theorem qbfK {A B C : wA} {i j : Nat} (h : agA A B i j) (g : agA B C i j) : agA A C i j := fun q h1 h2 => by
  obtain ⟨a1, a2, a3, a4⟩ := h q h1 h2
  obtain ⟨b1, b2, b3, b4⟩ := g q h1 h2
  exact ⟨a1.trans b1, a2.trans b2, a3.trans b3, a4.trans b4⟩
theorem qa1T {A B : wA} {i j i' j' : Nat} (h : agA A B i j) (h1 : i ≤ i') (h2 : j' ≤ j) : agA A B i' j' := fun q q1 q2 => h q (by omega) (by omega)
/-- a text's steps in the class's rows, from i to j -/
def sgC {β : Type} (CB : wA → β → Nat → Nat → Prop) (A : wA) : TG β → Nat → Nat → Prop
  | [], i, j => i = j
  | Sum.inl v :: L, i, j => ((A.1 i).toInt = v.1 ∧ (A.2.1 i).toInt = v.2.1 ∧ (A.2.2.1 i).toInt = v.2.2.1 ∧ (A.2.2.2 i).toInt = v.2.2.2) ∧ sgC CB A L (i + 1) j
  | Sum.inr v :: L, i, j => ∃ e : Nat, ((A.1 i).toInt = 4 ∧ (A.2.1 i).toInt = v.1 ∧ (A.2.2.1 i).toInt = (e : Int) ∧ (A.1 e).toInt = 5 ∧ (A.2.1 e).toInt = (i : Int)) ∧ CB A v.2 (i + 1) e ∧ sgC CB A L (e + 1) j
def okC {β : Type} (eB : β → Nat) (CB : wA → β → Nat → Nat → Prop) : Prop := ∀ (A A' : wA) (B : β) (i j : Nat), CB A B i j → j = i + eB B ∧ (agA A A' i j → CB A' B i j)
theorem qaML {β : Type} {eB : β → Nat} {CB : wA → β → Nat → Nat → Prop} (hC : okC eB CB) : okC (enL eB) (sgC CB) := by
  intro A A' L
  induction L with
  | nil => intro i j h; have h : i = j := h; exact ⟨by rw [← h]; rfl, fun _ => h⟩
  | cons x L ih =>
    intro i j h
    cases x with
    | inl v =>
      obtain ⟨h1, h2⟩ := h
      obtain ⟨g1, g2⟩ := ih (i + 1) j h2
      have e0 : enL eB (Sum.inl v :: L) = 1 + enL eB L := rfl
      refine ⟨by omega, fun a => ⟨?_, g2 (qa1T a (by omega) (Nat.le_refl _))⟩⟩
      obtain ⟨e1, e2, e3, e4⟩ := a i (Nat.le_refl _) (by omega)
      rw [← e1, ← e2, ← e3, ← e4]; exact h1
    | inr v =>
      obtain ⟨e, h1, h2, h3⟩ := h
      obtain ⟨g1, g2⟩ := ih (e + 1) j h3
      obtain ⟨k1, k2⟩ := hC A A' v.2 (i + 1) e h2
      have e0 : enL eB (Sum.inr v :: L) = 2 + eB v.2 + enL eB L := rfl
      refine ⟨by omega, fun a => ⟨e, ?_, k2 (qa1T a (by omega) (by omega)), g2 (qa1T a (by omega) (Nat.le_refl _))⟩⟩
      obtain ⟨e1, e2, e3, e4⟩ := a i (Nat.le_refl _) (by omega)
      obtain ⟨f1, f2, f3, f4⟩ := a e (by omega) (by omega)
      rw [← e1, ← e2, ← e3, ← f1, ← f2]; exact h1
theorem qbd6 {β : Type} {CB : wA → β → Nat → Nat → Prop} {A : wA} {L2 : TG β} {m j : Nat} (g : sgC CB A L2 m j) : ∀ (L1 : TG β) (i : Nat), sgC CB A L1 i m → sgC CB A (L1 ++ L2) i j := by
  intro L1
  induction L1 with
  | nil => intro i h; have h : i = m := h; rw [h]; exact g
  | cons x L ih =>
    intro i h
    cases x with
    | inl v => exact ⟨h.1, ih (i + 1) h.2⟩
    | inr v =>
      obtain ⟨e, h1, h2, h3⟩ := h
      exact ⟨e, h1, h2, ih (e + 1) h3⟩
def cN : (m : Nat) → wA → TT m → Nat → Nat → Prop
  | 0 => sgC (β := Empty) (fun _ _ _ _ => False)
  | m + 1 => sgC (β := TT m) (cN m)
theorem qa2F : ∀ m : Nat, okC (enN m) (cN m) := by
  intro m
  induction m with
  | zero => exact qaML (β := Empty) (eB := fun _ => 0) (fun A A' B i j h => h.elim)
  | succ m ih => exact qaML (β := TT m) ih
/-- a row more -/
def adA (A : wA) (i : Nat) (p1 p2 p3 p4 : Int32) : wA := (upd A.1 i p1, upd A.2.1 i p2, upd A.2.2.1 i p3, upd A.2.2.2 i p4)
theorem qbkw {A : wA} {i : Nat} {p1 p2 p3 p4 : Int32} : agA A (adA A i p1 p2 p3 p4) 0 i := fun q _ h => ⟨(pk_un (by omega)).symm, (pk_un (by omega)).symm, (pk_un (by omega)).symm, (pk_un (by omega)).symm⟩
theorem qbfQ {Q : NI → NI → NI → NI → Int32 → Prop} {A : wA} {L p1 p2 p3 p4 : Int32} (h0 : 0 ≤ L.toInt) (h1 : L.toInt ≤ 50)
    (hq : ∀ (A' : wA) (L' : Int32), 0 ≤ L'.toInt → L'.toInt ≤ 50 → (∀ i : Nat, L.toInt = (i : Int) → i < 50 → A' = adA A i p1 p2 p3 p4 ∧ L'.toInt = ((i + 1 : Nat) : Int)) → Q A'.1 A'.2.1 A'.2.2.1 A'.2.2.2 L') : qIF A.1 A.2.1 A.2.2.1 A.2.2.2 L p1 p2 p3 p4 Q := by
  have t50 : (50 : Int32).toInt = 50 := by decide
  refine ⟨fun c => ?_, fun c => ?_⟩
  · rw [qak, t50] at c
    exact hq A L h0 h1 (fun i e hi => by omega)
  · rw [qak, t50] at c
    refine ⟨qa6 h0 (by omega), fun f2 e2 => ⟨qa6 h0 (by omega), fun f3 e3 => ⟨qa6 h0 (by omega), fun f4 e4 => ⟨qa6 h0 (by omega), fun f5 e5 x6 e6 => ?_⟩⟩⟩⟩
    have q6 : x6.toInt = L.toInt + 1 := by rw [e6]; exact qca (by omega)
    refine hq (f2, f3, f4, f5) x6 (by omega) (by omega) (fun i e hi => ⟨?_, by omega⟩)
    rw [e2, e3, e4, e5, qas e]; rfl
/-! the class's reading of a work -/
section WC
variable {n : Nat} {b : Nat → Int} {len : Int32} {f : Nat → Int32} {H F : Int}
theorem qbbt : wSt 5 q46 (fun j => (q46 j).toInt) := ⟨by decide, by decide, by decide, by decide⟩
theorem qbfo : wSt 4 q43 (fun j => (q43 j).toInt) := ⟨by decide, by decide, by decide, by decide⟩
theorem qbkz : wSt 3 q5g (fun j => (q5g j).toInt) := ⟨by decide, by decide, by decide, by decide⟩
theorem qbkl : wSt 3 q5i (fun j => (q5i j).toInt) := ⟨by decide, by decide, by decide, by decide⟩
theorem qbi2 : wSt 3 q5p (fun j => (q5p j).toInt) := ⟨by decide, by decide, by decide, by decide⟩
theorem qa0Q : wK n b 5 q46 1279278 := wK_5 qbbt (by decide)
theorem qbf6 : wK n b 4 q43 398384 := wK_4 qbfo (by decide)
theorem qbi1 : wK n b 3 q5g 2552 := wK_3 qbkz (by decide)
theorem qbh8 : wK n b 3 q5i 16441 := wK_3 qbkl (by decide)
theorem qbkk : wK n b 3 q5p 4153 := wK_3 qbi2 (by decide)
abbrev wQ := Int32 → Int32 → Int32 → Int32 → NI → NI → NI → NI → Int32 → NI → Int32 → Prop
/-- one step of the class: a leaf is told, or a loop begins -/
theorem qbkX {β : Type} {B : Option (sT → sT × β)} {Q : wQ} {vh vf a tk fa fp L op : Int32} {hd : Nat → Int32} {A : wA} {st : sT} {i o : Nat} (hl : len.toInt = n) (hn : n ≤ 150) (hb : tB n f b) (eH : vh.toInt = H) (hH0 : 0 ≤ H) (h6 : H ≤ 6) (eF : vf.toInt = F) (hF0 : 0 ≤ F) (h8 : F ≤ 8) (hc : cS n b st a fa fp) (h0 : st.1 = 0) (hp : st.2.2 ≤ n) (eL : L.toInt = (i : Int)) (hi : 3 * i ≤ st.2.2) (eo : op.toInt = (o : Int)) (ho : o ≤ 6) (hB : o = 6 → B = none)
    (q1 : pw n b (sk n b st.2.2) ≠ 1279278 → ∀ (a t fa fp : Int32) (A' : wA) (L' : Int32), cS n b (quq n b H F B st).1 a fa fp → 0 ≤ L'.toInt → L'.toInt ≤ 50 → ((quq n b H F B st).1.1 = 0 → ∃ v : wLf, (quq n b H F B st).2 = [Sum.inl v] ∧ L'.toInt = ((i + 1 : Nat) : Int) ∧ agA A A' 0 i ∧ (A'.1 i).toInt = v.1 ∧ (A'.2.1 i).toInt = v.2.1 ∧ (A'.2.2.1 i).toInt = v.2.2.1 ∧ (A'.2.2.2 i).toInt = v.2.2.2) → Q a t fa fp A'.1 A'.2.1 A'.2.2.1 A'.2.2.2 L' hd op)
    (q2 : pw n b (sk n b st.2.2) = 1279278 → o < 6 → ∀ (a t fa fp : Int32) (A' : wA) (L' op' : Int32), cS n b (gS n b 91 (nS n b 0 40 (wE n b st))) a fa fp → 0 ≤ L'.toInt → L'.toInt ≤ 50 → op'.toInt = ((o + 1 : Nat) : Int) → ((gS n b 91 (nS n b 0 40 (wE n b st))).1 = 0 → L'.toInt = ((i + 1 : Nat) : Int) ∧ agA A A' 0 i ∧ (A'.1 i).toInt = 4 ∧ (A'.2.1 i).toInt = nV n b (wE n b st)) → Q a t fa fp A'.1 A'.2.1 A'.2.2.1 A'.2.2.2 L' (upd hd o L) op')
    (q3 : pw n b (sk n b st.2.2) = 1279278 → o = 6 → ∀ (a t fa fp : Int32), cS n b (3, sk n b st.2.2, 0) a fa fp → Q a t fa fp A.1 A.2.1 A.2.2.1 A.2.2.2 L hd op) :
    qMk vh vf len f a tk fa fp A.1 A.2.1 A.2.2.1 A.2.2.2 L hd op Q := by
  have hn6 : n ≤ 600 := by omega
  have eHm : (vh - 1).toInt = H - 1 := by rw [qqj (by omega), eH]
  have eFm : (vf - 1).toInt = F - 1 := by rw [qqj (by omega), eF]
  have fin : ∀ (w : Int) (p1 p2 p3 p4 a t fa fp : Int32), pw n b (sk n b st.2.2) = w → isLf w → cS n b (lfS n b H F w st) a fa fp → ((lfS n b H F w st).1 = 0 → p1.toInt = (lfV n b H w st).1 ∧ p2.toInt = (lfV n b H w st).2.1 ∧ p3.toInt = (lfV n b H w st).2.2.1 ∧ p4.toInt = (lfV n b H w st).2.2.2) → qIF A.1 A.2.1 A.2.2.1 A.2.2.2 L p1 p2 p3 p4 (fun f29 f30 f31 f32 x33 => qp6 vh vf len f Q a t fa fp f29 f30 f31 f32 x33 hd op) := fun w p1 p2 p3 p4 a t fa fp hw hlw c2 hv => by
    refine qbfQ (by omega) (by omega) (fun A' L' l0 l1 hA => qCS hl hn6 hb c2 (by decide) (fun x t2 fa2 fp2 c3 => ?_))
    rw [t_59] at c3
    have hw' := hw
    unfold isLf at hlw
    have es : quq n b H F B st = (gS n b 59 (lfS n b H F w st), [Sum.inl (lfV n b H w st)]) := by
      unfold quq
      rw [hw, if_neg (by omega), if_pos hlw]
    have g := q1 (by omega) x t2 fa2 fp2 A' L'
    rw [es] at g
    refine g c3 l0 l1 (fun z => ?_)
    have hz := qlb z
    have hon := qa0P (n := n) (b := b) (H := H) (F := F) (st := st) hw hlw hz
    obtain ⟨e1, e2⟩ := hA i eL (by omega)
    obtain ⟨v1, v2, v3, v4⟩ := hv hz
    refine ⟨_, rfl, e2, by rw [e1]; exact qbkw, ?_, ?_, ?_, ?_⟩ <;> rw [e1] <;> unfold adA
    · show (upd A.1 i p1 i).toInt = _
      rw [pk_us]; exact v1
    · show (upd A.2.1 i p2 i).toInt = _
      rw [pk_us]; exact v2
    · show (upd A.2.2.1 i p3 i).toInt = _
      rw [pk_us]; exact v3
    · show (upd A.2.2.2 i p4 i).toInt = _
      rw [pk_us]; exact v4
  refine qw1 hl hn6 hb qa0Q hc (fun w1 y1 c1 => ⟨fun _ => ?_, fun d => absurd rfl d⟩) (fun _ e y1 t1 c1 et => ⟨fun d => absurd d (by first | decide | simp), fun _ => ?_⟩)
  · refine qw1 hl hn6 hb qbf6 c1 (fun w2 y2 c2 => ⟨fun _ => ?_, fun d => absurd rfl d⟩) (fun _ e y2 t2 c2 et => ⟨fun d => absurd d (by first | decide | simp), fun _ => ?_⟩)
    · refine qw1 hl hn6 hb qbi1 c2 (fun w3 y3 c3 => ⟨fun _ => ?_, fun d => absurd rfl d⟩) (fun _ e y3 t3 c3 et => ⟨fun d => absurd d (by first | decide | simp), fun _ => ?_⟩)
      · refine qw1 hl hn6 hb qbh8 c3 (fun w4 y4 c4 => ⟨fun _ => ?_, fun d => absurd rfl d⟩) (fun _ e y4 t4 c4 et => ⟨fun d => absurd d (by first | decide | simp), fun _ => ?_⟩)
        · refine qw1 hl hn6 hb qbkk c4 (fun w5 y5 c5 => ⟨fun _ => ?_, fun d => absurd rfl d⟩) (fun _ e y5 t5 c5 et => ⟨fun d => absurd d (by first | decide | simp), fun _ => ?_⟩)
          · have es : quq n b H F B st = ((1, sk n b st.2.2, 0), []) := by
              unfold quq
              rw [if_neg (w1 h0), if_neg (fun d => by have := w2 h0; have := w3 h0; have := w4 h0; have := w5 h0; omega)]
            refine q2b hl hn6 hb c5 (fun x fa2 fp2 c6 => qCS hl hn6 hb c6 (by decide) (fun x2 t2 fa3 fp3 c7 => ?_))
            rw [q8e h0, qGz (by show ¬ (1 : Int) = 0; decide)] at c7
            have g := q1 (w1 h0) x2 t2 fa3 fp3 A L
            rw [es] at g
            exact g c7 (by omega) (by omega) (fun z => absurd z (by show ¬ (1 : Int) = 0; decide))
          · refine fin 4153 3 0 0 0 y5 t5 fa fp e (Or.inr (Or.inr (Or.inr rfl))) ?_ (fun _ => ?_)
            · exact c5
            · unfold lfV
              rw [if_neg (by decide), if_neg (by decide), if_neg (by decide)]
              exact ⟨t_3, t_0, t_0, t_0⟩
        · refine qqK hl hn6 hb c4 (by decide) (by rw [eHm]; omega) (fun r1 x1 fa1 fp1 t1 d1 v1 => qqK hl hn6 hb d1 (by decide) (by rw [eHm]; omega) (fun r2 x2 fa2 fp2 t2 d2 v2 => qqK hl hn6 hb d2 (by decide) (by decide) (fun r3 x3 fa3 fp3 t3 d3 v3 => ?_)))
          rw [t_0, eHm] at d1 v1 d2 v2 d3 v3
          rw [t_1, qnP] at d3 v3
          refine fin 16441 2 r1 r2 r3 x3 t3 fa3 fp3 e (Or.inr (Or.inr (Or.inl rfl))) ?_ (fun z => ?_)
          · exact d3
          · have z : (nS n b 1 99 (tnS n b H st)).1 = 0 := z
            have z2 := (qdE z).1
            unfold lfV
            rw [if_neg (by decide), if_neg (by decide), if_pos rfl]
            exact ⟨t_2, (v1 (qdE z2).1).1, (v2 z2).1, (v3 z).1⟩
      · refine qqK hl hn6 hb c3 (by decide) (by rw [eHm]; omega) (fun r1 x1 fa1 fp1 t1 d1 v1 => qqK hl hn6 hb d1 (by decide) (by rw [eHm]; omega) (fun r2 x2 fa2 fp2 t2 d2 v2 => ?_))
        rw [t_0, eHm] at d1 v1 d2 v2
        refine fin 2552 1 r1 r2 0 x2 t2 fa2 fp2 e (Or.inr (Or.inl rfl)) ?_ (fun z => ?_)
        · exact d2
        · have z : (tnS n b H st).1 = 0 := z
          unfold lfV
          rw [if_neg (by decide), if_pos rfl]
          exact ⟨t_1, (v1 (qdE z).1).1, (v2 z).1, t_0⟩
    · refine qqK hl hn6 hb c2 (by decide) (by rw [eHm]; omega) (fun r1 x1 fa1 fp1 t1 d1 v1 => qqK hl hn6 hb d1 (by decide) (by rw [eFm]; omega) (fun r2 x2 fa2 fp2 t2 d2 v2 => ?_))
      rw [t_0, eHm] at d1 v1
      rw [t_0, eHm, eFm] at d2 v2
      refine fin 398384 0 r1 r2 0 x2 t2 fa2 fp2 e (Or.inl rfl) ?_ (fun z => ?_)
      · exact d2
      · have z : (tfS n b H F st).1 = 0 := z
        unfold lfV
        rw [if_pos rfl]
        exact ⟨t_0, (v1 (qdE z).1).1, (v2 z).1, t_0⟩
  · refine ⟨fun c => ?_, fun c => ?_⟩
    · rw [qao, t_6] at c
      refine qqK hl hn6 hb c1 (by decide) (by decide) (fun r1 x1 fa1 fp1 t1 d1 v1 => qCS hl hn6 hb d1 (by decide) (fun x2 t2 fa2 fp2 d2 => ⟨qa6 (by omega) (by omega), fun f11 e11 x12 e12 => ?_⟩))
      rw [t_0, t_40] at d1 v1 d2
      rw [t_91] at d2
      refine qbfQ (by omega) (by omega) (fun A' L' l0 l1 hA => ?_)
      rw [e11, qas eo]
      refine q2 e (by omega) _ _ _ _ A' L' x12 d2 l0 l1 (by rw [e12, qca (by omega), eo]; omega) (fun z => ?_)
      have a2 := qayO (by decide) z
      have a1 := qana (qlb z)
      have a0 := wE_3 (n := n) (b := b) (st := st) (by omega)
      obtain ⟨e1, e2⟩ := hA i eL (by omega)
      refine ⟨e2, by rw [e1]; exact qbkw, ?_, ?_⟩ <;> rw [e1] <;> unfold adA
      · show (upd A.1 i 4 i).toInt = 4
        rw [pk_us]; exact t_4
      · show (upd A.2.1 i r1 i).toInt = _
        rw [pk_us]; exact (v1 (qlb z)).1
    · rw [qao, t_6] at c
      refine qCj (s := sk n b st.2.2) c1 (by decide) (fun _ => et) (fun fa2 fp2 c4 => ?_)
      rw [q8e (by rfl), t_3] at c4
      exact q3 e (by omega) _ _ _ _ c4
end WC
end
section
/-! a day leaves both rows held against each other -/
theorem qbb9 {NH NF : Nat} {row s hr : Nat → Int32} {sfB : Nat → Bool} (hR : qWf NH NF row s) (H6 : NH ≤ 6) (hh : ∀ h : Nat, h < NH → 0 ≤ (hr (2 * h + 1)).toInt ∧ (hr (2 * h + 1)).toInt ≤ 9) : ∃ r : NI, qWf NH NF r (paS sfB hr NH s) := by
  have h1 : ∀ k : Nat, k ≤ NH → ∃ r : NI, qOH NH NF r (psF s k) := by
    intro k
    induction k with
    | zero => intro _; exact ⟨row, hR.1⟩
    | succ k ih =>
      intro hk
      obtain ⟨r, hr⟩ := ih (by omega)
      show ∃ r : NI, qOH NH NF r (psS (psF s k) k)
      unfold psS
      by_cases c : psF s k k ≠ -1 ∧ psF s k (24 + k) = 0
      · rw [if_pos c]; exact ⟨_, qavg hr H6 (by omega)⟩
      · rw [if_neg c]; exact ⟨r, hr⟩
  obtain ⟨r1, q1⟩ := h1 NH (Nat.le_refl _)
  have h2 : ∃ r : NI, qOH NH NF r (ndS (psF s NH)) := by
    refine ⟨_, qaPf (qaPR (x := psF s NH 66 + 1) (y := psF s NH 67) q1 H6) H6 (fun j _ => rfl) (fun j hj => ?_)⟩
    unfold ndS
    by_cases z1 : j = 67
    · rw [z1, pk_us, pk_un (by omega)]
    · rw [pk_un z1]
  obtain ⟨r2, q2⟩ := h2
  have h3 : ∀ (t : NI) (h : Nat), h < NH → (∃ r : NI, qOH NH NF r t) → ∀ o : Nat, o ≤ NH → ∃ r : NI, qOH NH NF r (dpF t h o) := by
    intro t h hh2 ht o
    induction o with
    | zero => intro _; exact ht
    | succ o ih =>
      intro ho
      obtain ⟨r, hr⟩ := ih (by omega)
      exact ⟨_, qaNi (qaNi hr H6 (by omega)) H6 (by omega)⟩
  have h4 : ∀ (t : NI), (∃ r : NI, qOH NH NF r t) → ∀ k : Nat, k ≤ NH → ∃ r : NI, qOH NH NF r (stF sfB hr NH t k) := by
    intro t ht k
    induction k with
    | zero => intro _; exact ht
    | succ k ih =>
      intro hk
      obtain ⟨r, hr9⟩ := ih (by omega)
      show ∃ r : NI, qOH NH NF r (stS sfB hr NH (stF sfB hr NH t k) k)
      unfold stS
      by_cases c : wbB sfB (stF sfB hr NH t k) k = true
      · rw [if_pos c]
        exact h3 _ k (by omega) ⟨_, qa0K hr9 H6 (by omega) rfl⟩ NH (Nat.le_refl _)
      · rw [if_neg c]
        by_cases d : stF sfB hr NH t k k = -1
        · rw [if_pos d]; exact ⟨r, hr9⟩
        · rw [if_neg d]
          exact ⟨_, qavg (qaS2 hr9 H6 (by omega) (hh k (by omega))) H6 (by omega)⟩
  have h5 : ∃ r : NI, qOH NH NF r (if ndS (psF s NH) 66 ≤ 31 then ndS (psF s NH) else yrS (stF sfB hr NH (ndS (psF s NH)) NH)) := by
    by_cases c : ndS (psF s NH) 66 ≤ 31
    · rw [if_pos c]; exact ⟨r2, q2⟩
    · rw [if_neg c]
      obtain ⟨r, q⟩ := h4 _ ⟨r2, q2⟩ NH (Nat.le_refl _)
      unfold yrS
      exact ⟨_, qaPR q H6⟩
  obtain ⟨r, q⟩ := h5
  refine ⟨upd r 3 0, ?_, ?_, fun j hj => ?_⟩
  · unfold paS
    exact qaPf q H6 (fun j hj => pk_un hj) (fun j hj => bz_o 6 (by omega))
  · rw [pk_us]
    unfold buN paS
    rw [qHW (R := fun _ => false) NH (fun j hj => by rw [bz_z 6 (by omega)]; rfl)]
    have z : ∀ k : Nat, orN (fun _ => false) k = 0 := fun k => by
      induction k with
      | zero => rfl
      | succ k ih => exact ih
    rw [z NH]; rfl
  · unfold paS
    rw [bz_z 6 (by omega)]; exact Or.inl rfl
theorem qbmi {NH : Nat} {s hr : Nat → Int32} {sfB : Nat → Bool} (H6 : NH ≤ 6) : paS sfB hr NH s 67 = s 67 ∨ paS sfB hr NH s 67 = s 67 + 1 := by
  have e : ndS (psF s NH) 67 = s 67 := by
    unfold ndS
    rw [pk_un (by omega)]; exact ps_o NH (by omega)
  unfold paS
  rw [bz_o 6 (by omega)]
  by_cases c : ndS (psF s NH) 66 ≤ 31
  · rw [if_pos c]; exact Or.inl e
  · rw [if_neg c]
    unfold yrS
    rw [pk_us, pk_un (by omega), qaQJ H6 NH H6 (by omega), e]; exact Or.inr rfl
/-! steps that are no loops, by both -/
def alB (F : Nat → Int) (cs : List (Int × Int)) (nh : Nat) (v : wLf) (s : NI) : Bool :=
  if v.1 = 0 then decide (cnS F cs s nh v.2.1.toNat v.2.2.1.toNat) else if v.1 = 1 then decide (bxS s v.2.1.toNat v.2.2.1.toNat) else if v.1 = 2 then decide (pyS s v.2.1.toNat v.2.2.1.toNat (Int32.ofInt v.2.2.2)) else decide (s 67 ≠ 40)
def doF (sfB : Nat → Bool) (hr : NI) (nh : Nat) (v : wLf) (s : NI) : NI :=
  if v.1 = 0 then lyS s v.2.1.toNat (Int32.ofInt v.2.2.1) else if v.1 = 1 then bxF s v.2.1.toNat v.2.2.1.toNat (loS s v.2.1.toNat v.2.2.1.toNat) else if v.1 = 2 then pyF s v.2.1.toNat v.2.2.1.toNat (Int32.ofInt v.2.2.2) else paS sfB hr nh s
/-- a step whose numbers are good -/
def wfL (NH NF : Nat) (v : wLf) : Prop := (v.1 = 0 ∧ 0 ≤ v.2.1 ∧ v.2.1 < NH ∧ 0 ≤ v.2.2.1 ∧ v.2.2.1 < NF) ∨ (v.1 = 1 ∧ 0 ≤ v.2.1 ∧ v.2.1 < NH ∧ 0 ≤ v.2.2.1 ∧ v.2.2.1 < NH) ∨ (v.1 = 2 ∧ 0 ≤ v.2.1 ∧ v.2.1 < NH ∧ 0 ≤ v.2.2.1 ∧ v.2.2.1 < NH ∧ 1 ≤ v.2.2.2 ∧ v.2.2.2 ≤ 99) ∨ v.1 = 3
def yrOk (s : NI) : Prop := 0 ≤ (s 67).toInt ∧ (s 67).toInt ≤ 40
section DS
variable {NH NF : Nat} {row s : Nat → Int32} {nh nx p sf : Int32} {cs : List (Int × Int)} {ln ct : Int32} {kd vl cd oc X Y fo fx hr sr : Nat → Int32} {F : Nat → Int} {sfB : Nat → Bool} {v : wLf}
theorem qba3 {x : Int} (h0 : -2147483648 ≤ x) (h1 : x < 2147483648) : (Int32.ofInt x).toInt = x := Int32.toInt_ofInt_of_le h0 h1
theorem qbgD (H6 : NH ≤ 6) (h8 : NF ≤ 8) (hh : ∀ h : Nat, h < NH → 0 ≤ (hr (2 * h + 1)).toInt ∧ (hr (2 * h + 1)).toInt ≤ 9) (hR : qWf NH NF row s) (hy : yrOk s) (hv : wfL NH NF v) (ha : alB F cs NH v s = true) : (∃ r : NI, qWf NH NF r (doF sfB hr NH v s)) ∧ yrOk (doF sfB hr NH v s) := by
  unfold alB at ha
  unfold doF yrOk
  rcases hv with ⟨e, a1, a2, a3, a4⟩ | ⟨e, a1, a2, a3, a4⟩ | ⟨e, a1, a2, a3, a4, a5, a6⟩ | e
  · rw [if_pos e] at ha ⊢
    have ha := of_decide_eq_true ha
    refine ⟨⟨_, qa07 (f := v.2.2.1.toNat) hR H6 (by omega) ha.1 (by rw [qba3 (by omega) (by omega)]; omega) (by omega)⟩, ?_⟩
    rw [ly_o (by omega) (by omega) (by omega) (by omega)]; exact hy
  · rw [if_neg (by omega), if_pos e] at ha ⊢
    have ha := of_decide_eq_true ha
    have hl := qbkf (s := s) (a := v.2.1.toNat) (b := v.2.2.1.toNat)
    refine ⟨⟨_, qaUr hR H6 (by omega) (by omega) ha hl⟩, ?_⟩
    rw [bf_o (by omega) (by omega) (by omega) (by omega) (by omega)]; exact hy
  · rw [if_neg (by omega), if_neg (by omega), if_pos e] at ha ⊢
    have ha := of_decide_eq_true ha
    refine ⟨⟨_, qa7e hR H6 (by omega) (by omega) (by rw [qba3 (by omega) (by omega)]; omega) ha⟩, ?_⟩
    unfold pyF
    rw [pk_un (by omega)]; exact hy
  · rw [if_neg (by omega), if_neg (by omega), if_neg (by omega)] at ha ⊢
    have ha := of_decide_eq_true ha
    refine ⟨qbb9 hR H6 hh, ?_⟩
    unfold yrOk at hy
    have h40 : (s 67).toInt ≠ 40 := fun d => ha (qan.mpr (by rw [d, t_40]))
    rcases qbmi (sfB := sfB) (hr := hr) (s := s) H6 with w | w
    · rw [w]; exact hy
    · rw [w, qca (by omega)]; omega
/-- the class's step at a place of its rows -/
theorem qa5i {A : wA} {fc pl : Nat → Int32} {Q : Int32 → NI → NI → Prop} {i : Nat} (hF : ∀ j : Nat, j < 2 * NF → 0 ≤ F j ∧ F j ≤ 30) (H6 : NH ≤ 6) (h8 : NF ≤ 8) (hpr : pr NF X Y F) (eh : nh.toInt = (NH : Int)) (hL : qXL cs ln kd vl ct cd oc) (hR : qWf NH NF row s) (hy : yrOk s) (hv : wfL NH NF v) (ep : p.toInt = (i : Int)) (hi : i < 50) (g1 : (A.1 i).toInt = v.1) (g2 : (A.2.1 i).toInt = v.2.1) (g3 : (A.2.2.1 i).toInt = v.2.2.1) (g4 : (A.2.2.2 i).toInt = v.2.2.2)
    (q1 : alB F cs NH v s = true → ∀ fc pl : NI, Q 1 fc pl) (q0 : alB F cs NH v s = false → ∀ fc pl : NI, Q 0 fc pl) : qQn A.1 row A.2.1 A.2.2.1 nh X Y ln kd vl A.2.2.2 fc pl p Q := by
  refine ⟨qa6 (by omega) (by omega), fun x1 e1 => ?_⟩
  rw [qas ep] at e1
  rw [← e1] at g1
  have rd : ∀ (B : NI) (x : Int32), x = B p.toNatClampNeg → x = B i := fun B x e => by rw [e, qas ep]
  unfold alB at q1 q0
  rcases hv with ⟨e, a1, a2, a3, a4⟩ | ⟨e, a1, a2, a3, a4⟩ | ⟨e, a1, a2, a3, a4, a5, a6⟩ | e
  · rw [if_pos e] at q1 q0
    refine ⟨fun c => by omega, fun _ => ⟨qa6 (by omega) (by omega), fun x5 e5 => ⟨qa6 (by omega) (by omega), fun x6 e6 => ?_⟩⟩, fun c => by rw [c, t_1] at g1; omega, fun c => by rw [c, t_2] at g1; omega⟩
    rw [rd _ _ e5, rd _ _ e6]
    exact qaZT (h := v.2.1.toNat) (f := v.2.2.1.toNat) hF h8 hpr hR.1 H6 eh hL (by omega) (by omega) (by omega) (by omega) (fun w fc pl => ⟨by decide, q1 (decide_eq_true w) fc pl⟩) (fun w fc pl => ⟨by decide, q0 (decide_eq_false w) fc pl⟩)
  · rw [if_neg (by omega), if_pos e] at q1 q0
    refine ⟨fun c => by omega, fun c => by rw [c, t_0] at g1; omega, fun _ => ⟨qa6 (by omega) (by omega), fun x5 e5 => ⟨qa6 (by omega) (by omega), fun x6 e6 => ?_⟩⟩, fun c => by rw [c, t_2] at g1; omega⟩
    rw [rd _ _ e5, rd _ _ e6]
    exact qaVK (a := v.2.1.toNat) (b := v.2.2.1.toNat) hR.1 H6 (by omega) (by omega) (by omega) (by omega) (fun w => ⟨by decide, q1 (decide_eq_true w) _ _⟩) (fun w => ⟨by decide, q0 (decide_eq_false w) _ _⟩)
  · rw [if_neg (by omega), if_neg (by omega), if_pos e] at q1 q0
    refine ⟨fun c => by omega, fun c => by rw [c, t_0] at g1; omega, fun c => by rw [c, t_1] at g1; omega, fun _ => ⟨qa6 (by omega) (by omega), fun x5 e5 => ⟨qa6 (by omega) (by omega), fun x6 e6 => ⟨qa6 (by omega) (by omega), fun x7 e7 => ?_⟩⟩⟩⟩
    have en : x7 = Int32.ofInt v.2.2.2 := by rw [rd _ _ e7]; exact ofI g4
    rw [rd _ _ e5, rd _ _ e6, en]
    exact qa2q (a := v.2.1.toNat) (b := v.2.2.1.toNat) hR.1 H6 (by omega) (by omega) (by omega) (by omega) (fun w => ⟨by decide, q1 (decide_eq_true w) _ _⟩) (fun w => ⟨by decide, q0 (decide_eq_false w) _ _⟩)
  · rw [if_neg (by omega), if_neg (by omega), if_neg (by omega)] at q1 q0
    refine ⟨fun _ x3 e3 => ?_, fun c => by rw [c, t_0] at g1; omega, fun c => by rw [c, t_1] at g1; omega, fun c => by rw [c, t_2] at g1; omega⟩
    rw [k_c1, hR.1.2.2.2.2.2.1.2] at e3
    unfold yrOk at hy
    refine ⟨fun c => q0 (decide_eq_false (fun d => d (qan.mpr ?_))) _ _, fun c => q1 (decide_eq_true (fun d => c ?_)) _ _⟩
    · rw [qak, t_40, e3] at c
      rw [t_40]; omega
    · rw [qak, t_40, e3, d, t_40]; omega
theorem c_do {A : wA} {Q : NI → Prop} {i : Nat} (H6 : NH ≤ 6) (h8 : NF ≤ 8) (eh : nh.toInt = (NH : Int)) (hs : sf = Int32.ofNat (orN sfB NF)) (hh : relH NH sr hr) (hR : qWf NH NF row s) (hv : wfL NH NF v) (ha : alB F cs NH v s = true) (ep : p.toInt = (i : Int)) (hi : i < 50) (g1 : (A.1 i).toInt = v.1) (g2 : (A.2.1 i).toInt = v.2.1) (g3 : (A.2.2.1 i).toInt = v.2.2.1) (g4 : (A.2.2.2 i).toInt = v.2.2.2)
    (hq : ∀ r : NI, qWf NH NF r (doF sfB hr NH v s) → Q r) : q3B A.1 nh sf sr A.2.1 A.2.2.1 A.2.2.2 row p Q := by
  refine ⟨qa6 (by omega) (by omega), fun x1 e1 => ?_⟩
  rw [qas ep] at e1
  rw [← e1] at g1
  have rd : ∀ (B : NI) (x : Int32), x = B p.toNatClampNeg → x = B i := fun B x e => by rw [e, qas ep]
  unfold alB at ha
  unfold doF at hq
  rcases hv with ⟨e, a1, a2, a3, a4⟩ | ⟨e, a1, a2, a3, a4⟩ | ⟨e, a1, a2, a3, a4, a5, a6⟩ | e
  · rw [if_pos e] at ha hq
    have ha := of_decide_eq_true ha
    refine ⟨fun c => by omega, fun _ => ⟨qa6 (by omega) (by omega), fun x5 e5 => ⟨qa6 (by omega) (by omega), fun x6 e6 => ?_⟩⟩, fun c => by rw [c, t_1] at g1; omega, fun c => by rw [c, t_2] at g1; omega⟩
    have e6' : x6 = Int32.ofInt v.2.2.1 := by rw [rd _ _ e6]; exact ofI g3
    rw [rd _ _ e5, e6']
    exact qba6 (h := v.2.1.toNat) (by omega) (by omega) (hq _ (qa07 (f := v.2.2.1.toNat) hR H6 (by omega) ha.1 (by rw [qba3 (by omega) (by omega)]; omega) (by omega)))
  · rw [if_neg (by omega), if_pos e] at ha hq
    have ha := of_decide_eq_true ha
    refine ⟨fun c => by omega, fun c => by rw [c, t_0] at g1; omega, fun _ => ⟨qa6 (by omega) (by omega), fun x5 e5 => ⟨qa6 (by omega) (by omega), fun x6 e6 => ?_⟩⟩, fun c => by rw [c, t_2] at g1; omega⟩
    rw [rd _ _ e5, rd _ _ e6]
    exact qbff (a := v.2.1.toNat) (b := v.2.2.1.toNat) hR.1 H6 (by omega) (by omega) (by omega) (by omega) ha (hq _ (qaUr hR H6 (by omega) (by omega) ha qbkf))
  · rw [if_neg (by omega), if_neg (by omega), if_pos e] at ha hq
    have ha := of_decide_eq_true ha
    refine ⟨fun c => by omega, fun c => by rw [c, t_0] at g1; omega, fun c => by rw [c, t_1] at g1; omega, fun _ => ⟨qa6 (by omega) (by omega), fun x5 e5 => ⟨qa6 (by omega) (by omega), fun x6 e6 => ⟨qa6 (by omega) (by omega), fun x7 e7 => ?_⟩⟩⟩⟩
    have en : x7 = Int32.ofInt v.2.2.2 := by rw [rd _ _ e7]; exact ofI g4
    rw [rd _ _ e5, rd _ _ e6, en]
    exact qa7b (a := v.2.1.toNat) (b := v.2.2.1.toNat) (by omega) (by omega) (by omega) (by omega) (hq _ (qa7e hR H6 (by omega) (by omega) (by rw [qba3 (by omega) (by omega)]; omega) ha))
  · rw [if_neg (by omega), if_neg (by omega), if_neg (by omega)] at ha hq
    exact ⟨fun _ => qa6V hR H6 h8 eh hs hh hq, fun c => by rw [c, t_0] at g1; omega, fun c => by rw [c, t_1] at g1; omega, fun c => by rw [c, t_2] at g1; omega⟩
/-- the reference's step -/
theorem qa00 {fc st : Nat → Int32} {p1 p2 p3 p4 : Int32} {Q : Int32 → NI → NI → NI → Prop} (hF : ∀ j : Nat, j < 2 * NF → 0 ≤ F j ∧ F j ≤ 30) (H6 : NH ≤ 6) (h8 : NF ≤ 8) (hpm : pm (2 * NF) fo F) (eh : nh.toInt = (NH : Int)) (hL : qXL cs ln kd vl ct cd oc) (hs : sfM NF sfB nx fo fx) (hg : rgS NH NF s) (hv : wfL NH NF v) (g1 : p1.toInt = v.1) (g2 : p2.toInt = v.2.1) (g3 : p3.toInt = v.2.2.1) (g4 : p4.toInt = v.2.2.2)
    (q1 : alB F cs NH v s = true → ∀ fc st : NI, Q 1 (doF sfB hr NH v s) fc st) (q0 : alB F cs NH v s = false → ∀ fc st : NI, Q 0 s fc st) : qOc nh nx ct fo fx hr cd oc s fc st p1 p2 p3 p4 Q := by
  unfold alB at q1 q0
  unfold doF at q1
  have no : ∀ (k : Int32) (j : Int), k.toInt = j → v.1 ≠ j → ¬ p1 = k := fun k j e d w => d (by rw [← g1, w, e])
  rcases hv with ⟨e, a1, a2, a3, a4⟩ | ⟨e, a1, a2, a3, a4⟩ | ⟨e, a1, a2, a3, a4, a5, a6⟩ | e
  · rw [if_pos e] at q1 q0
    refine ⟨fun c => absurd (qan.mpr (by rw [g1, e, t_0])) c, fun _ => ?_⟩
    have e3 : p3 = Int32.ofInt v.2.2.1 := ofI g3
    rw [if_pos e, ← e3] at q1
    exact qa97 (h := v.2.1.toNat) (f := v.2.2.1.toNat) hF h8 hpm hg H6 eh hL (by omega) (by omega) (by omega) (by omega) (fun w fc st => ⟨by decide, q1 (decide_eq_true w) fc st⟩) (fun w fc st => ⟨by decide, q0 (decide_eq_false w) fc st⟩)
  · rw [if_neg (by omega), if_pos e] at q1 q0
    rw [if_neg (by omega), if_pos e] at q1
    refine ⟨fun _ => ⟨fun c => absurd (qan.mpr (by rw [g1, e, t_1])) c, fun _ => ?_⟩, fun c => absurd c (no 0 0 t_0 (by omega))⟩
    exact qbgg (a := v.2.1.toNat) (b := v.2.2.1.toNat) H6 (by omega) (by omega) (by omega) (by omega) (fun w => ⟨by decide, q1 (decide_eq_true w) _ _⟩) (fun w => ⟨by decide, q0 (decide_eq_false w) _ _⟩)
  · rw [if_neg (by omega), if_neg (by omega), if_pos e] at q1 q0
    have e4 : p4 = Int32.ofInt v.2.2.2 := ofI g4
    rw [if_neg (by omega), if_neg (by omega), if_pos e, ← e4] at q1
    rw [← e4] at q0
    refine ⟨fun _ => ⟨fun _ => ⟨fun c => absurd (qan.mpr (by rw [g1, e, t_2])) c, fun _ => ?_⟩, fun c => absurd c (no 1 1 t_1 (by omega))⟩, fun c => absurd c (no 0 0 t_0 (by omega))⟩
    exact qbjE (a := v.2.1.toNat) (b := v.2.2.1.toNat) H6 (by omega) (by omega) (by omega) (by omega) (fun w => ⟨by decide, q1 (decide_eq_true w) _ _⟩) (fun w => ⟨by decide, q0 (decide_eq_false w) _ _⟩)
  · rw [if_neg (by omega), if_neg (by omega), if_neg (by omega)] at q1 q0
    rw [if_neg (by omega), if_neg (by omega), if_neg (by omega)] at q1
    refine ⟨fun _ => ⟨fun _ => ⟨fun _ x4 e4 => ?_, fun c => absurd c (no 2 2 t_2 (by omega))⟩, fun c => absurd c (no 1 1 t_1 (by omega))⟩, fun c => absurd c (no 0 0 t_0 (by omega))⟩
    rw [qblk] at e4
    refine ⟨fun c => qbbM hs H6 eh hg (q1 (decide_eq_true (fun d => c (by rw [e4]; exact d))) _ _), fun c => q0 (decide_eq_false (fun d => d (by rw [← e4]; exact c))) _ _⟩
end DS
end
section
/-! what is asked of both rows -/
theorem qbk7 : ∀ X : Fin 256, ∀ j : Fin 8, Int32.ofNat X.val &&& ((1 <<< (Int32.ofNat j.val &&& 31)) ^^^ (-1)) = Int32.ofNat (orN (fun i => X.val.testBit i && decide (i ≠ j.val)) 8) := by decide +kernel
section DQ
variable {NH NF : Nat} {row s : Nat → Int32} {nh nf p q : Int32} {h f : Nat} {cs : List (Int × Int)} {ln ct : Int32} {kd vl cd oc X Y fo : Nat → Int32} {F : Nat → Int}
/-- forms no farther than so much -/
def wiN (F : Nat → Int) (g : Nat) (r : Int) (nf : Nat) : Nat := orN (fun f => decide (fr F g f ≤ r)) nf
theorem qaOX {Q : Int32 → Prop} {g : Nat} (hF : ∀ j : Nat, j < 2 * NF → 0 ≤ F j ∧ F j ≤ 30) (h8 : NF ≤ 8) (hpr : pr NF X Y F) (ef : nf.toInt = (NF : Int)) (ep : p.toInt = (g : Int)) (hg : g < NF) (hq : Q (Int32.ofNat (wiN F g q.toInt NF))) : qvA nf X Y p q Q := by
  have go : ∀ (m : Nat) (l3 l4 : Int32) (k : Nat), l4.toInt = (k : Int) → k ≤ NF → l3 = Int32.ofNat (wiN F g q.toInt k) → NF - k < m → qnG nf X Y Q m p q l3 l4 := by
    intro m
    induction m with
    | zero => intro l3 l4 k h1 h2 h3 h4; omega
    | succ m ih =>
      intro l3 l4 k h1 h2 h3 h4
      have nx : ∀ x : Int32, x = l4 + 1 → k < NF → x.toInt = ((k + 1 : Nat) : Int) := fun x e hk => by rw [e, qca (by omega), h1]; omega
      have st : wiN F g q.toInt (k + 1) = if decide (fr F g k ≤ q.toInt) = true then wiN F g q.toInt k ||| (1 <<< k) else wiN F g q.toInt k := rfl
      refine ⟨fun c => ?_, fun c => ?_⟩
      · rw [qak] at c
        rw [h3, show k = NF by omega]; exact hq
      · rw [qak] at c
        have hk : k < NF := by omega
        refine qa9W hF h8 hpr ep hg h1 hk (fun r er => ⟨fun d x5 e5 => ih l3 x5 (k + 1) (nx x5 e5 hk) (by omega) ?_ (by omega), fun d x4 e4 x5 e5 => ih x4 x5 (k + 1) (nx x5 e5 hk) (by omega) ?_ (by omega)⟩)
        · rw [qao] at d
          rw [st, if_neg (by rw [decide_eq_true_eq]; omega)]; exact h3
        · rw [qao] at d
          rw [st, if_pos (decide_eq_true (by omega)), e4]
          exact qaXO h3 (q1t (by omega)) h1 (by omega)
  exact ⟨9, go 9 0 0 0 t_0 (by omega) rfl (by omega)⟩
/-- forms a hare could leap to -/
def raN (F : Nat → Int) (cs : List (Int × Int)) (s : NI) (nh h nf : Nat) : Nat := orN (fun f => decide (cnS F cs s nh h f)) nf
theorem qa2w {fc pl : Nat → Int32} {Q : Int32 → NI → NI → Prop} (hF : ∀ j : Nat, j < 2 * NF → 0 ≤ F j ∧ F j ≤ 30) (h8 : NF ≤ 8) (hpr : pr NF X Y F) (ef : nf.toInt = (NF : Int)) (hR : qOH NH NF row s) (H6 : NH ≤ 6) (eh : nh.toInt = (NH : Int)) (hL : qXL cs ln kd vl ct cd oc) (ep : p.toInt = (h : Int)) (hh : h < NH) (hq : ∀ fc pl : NI, Q (Int32.ofNat (raN F cs s NH h NF)) fc pl) : qAv row nf nh ln kd vl X Y fc pl p Q := by
  refine qSQ hR.1 H6 ep hh (fun w => ⟨fun d => absurd d (by decide), fun _ => ?_⟩) (fun w => ⟨fun _ => qahE ep (by omega) ?_, fun d => absurd rfl d⟩)
  · have e : raN F cs s NH h NF = 0 := by
      apply Nat.eq_of_testBit_eq
      intro i
      rw [show raN F cs s NH h NF = orN (fun f => decide (cnS F cs s NH h f)) NF from rfl, qMw, Nat.zero_testBit, decide_eq_false (fun d : cnS F cs s NH h i => d.1 w), Bool.and_false]
    have g := hq fc pl
    rw [e] at g; exact g
  · rw [← qawz hR hh w]
    obtain ⟨g, eg, hg⟩ := m_in hR hh w
    refine qbaf hR H6 eh hL ep hh w (fun fc pl => qaOX hF h8 hpr ef eg hg (qahE ep (by omega) ?_))
    rw [← qawz hR hh w, q7z eg (by omega)]
    have e := qbk7 ⟨wiN F g (lpS cs s NH h).toInt NF, q1t h8⟩ ⟨g, by omega⟩
    have e2 : orN (fun i => (wiN F g (lpS cs s NH h).toInt NF).testBit i && decide (i ≠ g)) 8 = raN F cs s NH h NF := by
      apply Nat.eq_of_testBit_eq
      intro i
      rw [show raN F cs s NH h NF = orN (fun f => decide (cnS F cs s NH h f)) NF from rfl, qMw, qMw, show wiN F g (lpS cs s NH h).toInt NF = orN (fun f => decide (fr F g f ≤ (lpS cs s NH h).toInt)) NF from rfl, qMw]
      by_cases hi : i < NF
      · have c : decide (cnS F cs s NH h i) = (decide (fr F g i ≤ (lpS cs s NH h).toInt) && decide (i ≠ g)) := by
          by_cases c1 : fr F g i ≤ (lpS cs s NH h).toInt
          · by_cases c2 : i = g
            · rw [decide_eq_false (fun d : cnS F cs s NH h i => d.2.1 (by rw [eg, c2])), c2]; simp
            · rw [decide_eq_true (show cnS F cs s NH h i from ⟨w, by rw [eg]; omega, by rw [eg, Int.toNat_natCast]; exact c1⟩)]; simp [c1, c2]
          · rw [decide_eq_false (fun d : cnS F cs s NH h i => c1 (by have := d.2.2; rw [eg, Int.toNat_natCast] at this; exact this))]; simp [c1]
        rw [c]; simp [hi, show i < 8 by omega]
      · simp [hi]
    have g9 := hq fc pl
    rw [← e2] at g9
    rw [← q7z eg (by omega)] at e ⊢
    rw [q7z eg (by omega)] at e ⊢
    rw [e]; exact g9
theorem qbaF {fc st : Nat → Int32} {Q : Int32 → NI → NI → Prop} (hF : ∀ j : Nat, j < 2 * NF → 0 ≤ F j ∧ F j ≤ 30) (h8 : NF ≤ 8) (hpm : pm (2 * NF) fo F) (ef : nf.toInt = (NF : Int)) (hg : rgS NH NF s) (H6 : NH ≤ 6) (eh : nh.toInt = (NH : Int)) (hL : qXL cs ln kd vl ct cd oc) (ep : p.toInt = (h : Int)) (hh : h < NH) (hq : ∀ fc st : NI, Q (Int32.ofNat (raN F cs s NH h NF)) fc st) : qD3 nf nh ct s fo cd oc fc st p Q := by
  have go : ∀ (m : Nat) (fc st : NI) (l2 l3 : Int32) (k : Nat), l3.toInt = (k : Int) → k ≤ NF → l2 = Int32.ofNat (raN F cs s NH h k) → NF - k < m → qsC nf nh ct s fo cd oc Q m fc st p l2 l3 := by
    intro m
    induction m with
    | zero => intro fc st l2 l3 k h1 h2 h3 h4; omega
    | succ m ih =>
      intro fc st l2 l3 k h1 h2 h3 h4
      have nx : ∀ x : Int32, x = l3 + 1 → k < NF → x.toInt = ((k + 1 : Nat) : Int) := fun x e hk => by rw [e, qca (by omega), h1]; omega
      have st9 : raN F cs s NH h (k + 1) = if decide (cnS F cs s NH h k) = true then raN F cs s NH h k ||| (1 <<< k) else raN F cs s NH h k := rfl
      refine ⟨fun c => ?_, fun c => ?_⟩
      · rw [qak] at c
        rw [h3, show k = NF by omega]; exact hq fc st
      · rw [qak] at c
        have hk : k < NF := by omega
        refine qaVn hF h8 hpm hg H6 eh hL ep hh h1 hk (fun w fc st => ⟨fun d => absurd d (by decide), fun _ x6 e6 x7 e7 => ih fc st x6 x7 (k + 1) (nx x7 e7 hk) (by omega) ?_ (by omega)⟩) (fun w fc st => ⟨fun _ x6 e6 x7 e7 => ih fc st x6 x7 (k + 1) (nx x7 e7 hk) (by omega) ?_ (by omega), fun d => absurd rfl d⟩)
        · rw [st9, if_pos (decide_eq_true w), e6]
          exact qaXO h3 (q1t (by omega)) h1 (by omega)
        · rw [st9, if_neg (by rw [decide_eq_true_eq]; exact w), e6, Int32.or_zero]; exact h3
  exact ⟨9, go 9 fc st 0 0 0 t_0 (by omega) rfl (by omega)⟩
end DQ
end
section
/-! the class's loop over a work's text -/
abbrev wF := Int32 → Int32 → Int32 → Int32 → Int32 → Int32 → NI → NI → NI → NI → Int32 → Int32 → NI → Prop
/-- a place in the class's loop from which Q is reached -/
def wlA (len : Int32) (f : NI) (Q : wF) (k : Nat) (vh vf L op a tk : Int32) (A : wA) (fa fp : Int32) (hd : NI) (l4 : Int32) : Prop := qo8 len f Q k vh vf L op a tk A.2.2.1 A.1 A.2.1 A.2.2.2 fa fp hd l4
/-- the rest of the loop, reached by a reader of steps at a depth -/
def CBk (n : Nat) (b : Nat → Int) (len : Int32) (f : NI) (vh vf : Int32) {β : Type} (CB : wA → β → Nat → Nat → Prop) (o : Nat) (g : sT → sT × β) : Prop :=
  ∀ (Q : wF) (k : Nat) (st : sT) (L op a tk : Int32) (A : wA) (fa fp : Int32) (hd : NI) (l4 : Int32) (i : Nat), cS n b st a fa fp → st.1 = 0 → st.2.2 ≤ n → op.toInt = (o : Int) → L.toInt = (i : Int) → 3 * i ≤ st.2.2 → (k : Int) + l4.toInt = 152 → 0 ≤ l4.toInt → l4.toInt ≤ (st.2.2 : Nat) →
  ((g st).1.1 ≠ 0 → ∀ (L op a tk : Int32) (A : wA) (fa fp : Int32) (hd : NI), cS n b (g st).1 a fa fp → Q vh vf L op a tk A.2.2.1 A.1 A.2.1 A.2.2.2 fa fp hd) →
  ((g st).1.1 = 0 → ∀ (k : Nat) (L op a tk : Int32) (A' : wA) (fa fp : Int32) (hd' : NI) (l4 : Int32) (j : Nat), cS n b (g st).1 a fa fp → op.toInt = (o : Int) → L.toInt = (j : Int) → CB A' (g st).2 i j → agA A A' 0 i → (∀ q : Nat, q < o → hd' q = hd q) → (k : Int) + l4.toInt = 152 → 0 ≤ l4.toInt → l4.toInt ≤ ((g st).1.2.2 : Nat) → wlA len f Q k vh vf L op a tk A' fa fp hd' l4) →
  wlA len f Q k vh vf L op a tk A fa fp hd l4
section WL
variable {n : Nat} {b : Nat → Int} {len : Int32} {f : Nat → Int32} {H F : Int} {vh vf : Int32}
theorem qbbA {Q : wF} {k : Nat} {L op a tk fa fp l4 : Int32} {A : wA} {hd : Nat → Int32} {st : sT} (hc : cS n b st a fa fp) (h0 : st.1 ≠ 0) (hk : 1 ≤ k) (hq : Q vh vf L op a tk A.2.2.1 A.1 A.2.1 A.2.2.2 fa fp hd) : wlA len f Q k vh vf L op a tk A fa fp hd l4 := by
  obtain ⟨k, rfl⟩ : ∃ j : Nat, k = j + 1 := ⟨k - 1, by omega⟩
  exact ⟨fun _ => hq, fun _ => qKR (fun z => absurd z (qbkP hc h0)) (fun _ => ⟨fun _ => hq, fun d => absurd d (by decide)⟩)⟩
theorem qbhS {β : Type} {eB : β → Nat} {CB : wA → β → Nat → Nat → Prop} {B : Option (sT → sT × β)} {o : Nat} (hl : len.toInt = n) (hn : n ≤ 150) (hb : tB n f b) (eH : vh.toInt = H) (hH0 : 0 ≤ H) (h6 : H ≤ 6) (eF : vf.toInt = F) (hF0 : 0 ≤ F) (h8 : F ≤ 8) (ho : o ≤ 6) (hC : okC eB CB)
    (hB0 : o = 6 → B = none) (hB1 : o < 6 → ∃ g : sT → sT × β, B = some g) (hBs : ∀ g : sT → sT × β, B = some g → CBk n b len f vh vf CB (o + 1) g ∧ gdB n eB g ∧ ∀ st : sT, st.1 = 0 → st.2.2 ≤ n → (g st).1.1 = 0 → at0 n b (sk n b (g st).1.2.2) = 93)
    {Q : wF} {k : Nat} {st : sT} {L op a tk fa fp l4 : Int32} {A : wA} {hd : Nat → Int32} {i : Nat} (hc : cS n b st a fa fp) (h0 : st.1 = 0) (hp : st.2.2 ≤ n) (eo : op.toInt = (o : Int)) (eL : L.toInt = (i : Int)) (hi : 3 * i ≤ st.2.2) (hk : (k : Int) + l4.toInt = 152) (hl0 : 0 ≤ l4.toInt) (hl4 : l4.toInt ≤ (st.2.2 : Nat)) (hw : (o = 0 ∧ sk n b st.2.2 < n) ∨ (0 < o ∧ at0 n b (sk n b st.2.2) ≠ 93))
    (bad : (quq n b H F B st).1.1 ≠ 0 → ∀ (L op a tk : Int32) (A : wA) (fa fp : Int32) (hd : NI), cS n b (quq n b H F B st).1 a fa fp → Q vh vf L op a tk A.2.2.1 A.1 A.2.1 A.2.2.2 fa fp hd)
    (ok : (quq n b H F B st).1.1 = 0 → ∀ (k : Nat) (L op a tk : Int32) (A' : wA) (fa fp : Int32) (hd' : NI) (l4 : Int32) (j : Nat), cS n b (quq n b H F B st).1 a fa fp → op.toInt = (o : Int) → L.toInt = (j : Int) → sgC CB A' (quq n b H F B st).2 i j → agA A A' 0 i → (∀ q : Nat, q < o → hd' q = hd q) → (k : Int) + l4.toInt = 152 → 0 ≤ l4.toInt → l4.toInt ≤ ((quq n b H F B st).1.2.2 : Nat) → wlA len f Q k vh vf L op a tk A' fa fp hd' l4) :
    wlA len f Q k vh vf L op a tk A fa fp hd l4 := by
  have hn6 : n ≤ 600 := by omega
  have t150 := qV9
  obtain ⟨k, rfl⟩ : ∃ j : Nat, k = j + 1 := ⟨k - 1, by omega⟩
  -- where the step's own reading ends
  have fine : ∀ (k : Nat) (L op a tk : Int32) (A' : wA) (fa fp : Int32) (hd' : NI) (l4 : Int32), (quq n b H F B st).1.1 ≠ 0 → cS n b (quq n b H F B st).1 a fa fp → 1 ≤ k → wlA len f Q k vh vf L op a tk A' fa fp hd' l4 := fun k L op a tk A' fa fp hd' l4 z c hk => qbbA c z hk (bad z _ _ _ _ _ _ _ _ c)
  have go82 : ∀ a tk : Int32, cS n b st a fa fp → qzD len f Q (fun jaC jaN jb7 jjF jhS jeF jiF jdC jiX jjg jcU jbM jlb l4 => qo8 len f Q k jaC jaN jb7 jjF jhS jeF jiF jdC jiX jjg jcU jbM jlb l4) vh vf L op a tk A.2.2.1 A.1 A.2.1 A.2.2.2 fa fp hd l4 := fun a tk hc => by
    refine qbkX (B := B) (A := A) (i := i) (o := o) hl hn hb eH hH0 h6 eF hF0 h8 hc h0 hp eL hi eo ho hB0 (fun hw1 a t fa fp A' L' c1 l0 l1 hA x34 e34 => ?_) (fun hw1 ho6 a t fa fp A' L' op' c1 l0 l1 eo' hA x34 e34 => ?_) (fun hw1 ho6 a t fa fp c1 x34 e34 => ?_)
    · have q34 : x34.toInt = l4.toInt + 1 := by rw [e34]; exact qca (by omega)
      by_cases z : (quq n b H F B st).1.1 = 0
      · obtain ⟨v, ev, eL', ag, v1, v2, v3, v4⟩ := hA z
        have on := qaTy (eB := eB) (B := B) (fun g hg => (hBs g hg).2.1) h0 hp z
        exact ok z k L' op a t A' fa fp hd x34 (i + 1) c1 eo eL' (by rw [ev]; exact ⟨⟨v1, v2, v3, v4⟩, rfl⟩) ag (fun _ _ => rfl) (by omega) (by omega) (by omega)
      · exact fine k L' op a t A' fa fp hd x34 z c1 (by omega)
    · have q34 : x34.toInt = l4.toInt + 1 := by rw [e34]; exact qca (by omega)
      obtain ⟨g, eg⟩ := hB1 ho6
      obtain ⟨hg1, hg2, hg3⟩ := hBs g eg
      have es : quq n b H F B st = (gS n b 59 (gS n b 93 (g (gS n b 91 (nS n b 0 40 (wE n b st)))).1), [Sum.inr (nV n b (wE n b st), (g (gS n b 91 (nS n b 0 40 (wE n b st)))).2)]) := by
        unfold quq; rw [if_pos hw1, eg]; rfl
      rw [es] at bad ok fine
      obtain ⟨s2, e2⟩ : ∃ s : sT, s = gS n b 91 (nS n b 0 40 (wE n b st)) := ⟨_, rfl⟩
      rw [← e2] at bad ok fine c1 hA
      have ends : (g s2).1.1 ≠ 0 → gS n b 59 (gS n b 93 (g s2).1) = (g s2).1 := fun z => by rw [qGz z, qGz z]
      by_cases z2 : s2.1 = 0
      · obtain ⟨eL', ag, v1, v2⟩ := hA z2
        have z2' := z2
        rw [e2] at z2'
        have a2 := qayO (by decide) z2'
        have a1 := qana (qlb z2')
        have a0 := wE_3 (n := n) (b := b) (st := st) (by omega)
        rw [← e2] at a2
        refine hg1 Q k s2 L' op' a t A' fa fp (upd hd o L) x34 (i + 1) c1 z2 a2.2 eo' eL' (by omega) (by omega) (by omega) (by omega) (fun z => ?_) (fun z k3 L3 op3 a3 t3 A3 fa3 fp3 hd3 l3 j c3 eo3 eL3 hCB ag3 hh3 hk3 hl03 hl3 => ?_)
        · have g9 := bad (by rw [ends z]; exact z)
          rw [ends z] at g9; exact g9
        · have hend := hg3 s2 z2 a2.2 z
          have on := (hg2 s2).2 z2 a2.2 z
          have e93 : gS n b 93 (g s2).1 = (0, 0, sk n b (g s2).1.2.2 + 1) := gS_0 z hend
          rw [e93] at bad ok fine
          obtain ⟨q1, q2⟩ := hC A3 A3 (g s2).2 (i + 1) j hCB
          have hlt : sk n b (g s2).1.2.2 < n := qaVl hend (by decide)
          have hsk := (quu (n := n) (b := b) _ (g s2).1.2.2 rfl).1
          obtain ⟨k3, rfl⟩ : ∃ j : Nat, k3 = j + 1 := ⟨k3 - 1, by omega⟩
          have hh : hd3 o = L := by rw [hh3 o (by omega), pk_us]
          refine ⟨fun c => ?_, fun _ => qKR (fun _ => ⟨fun d => absurd rfl d, fun _ => ⟨fun _ => ⟨fun c => ?_, fun _ => ?_⟩, fun c => ?_⟩⟩) (fun d => absurd (qWF c3 z) d)⟩
          · rw [qao, qV9] at c; omega
          · rw [qak, t_0] at c; omega
          · refine qA2 hl hn6 hb c3 (by decide) (fun w x c5 => ?_) (fun _ _ x t5 c5 et5 => ⟨fun d => absurd d (by first | decide | simp), fun _ x1 e1 => ?_⟩)
            · rw [t_93] at w
              exact absurd hend (w.resolve_left (fun d => d z))
            · have k1 : x1.toInt = (o : Int) := by rw [e1, qqj (by omega), eo3]; omega
              refine ⟨qa6 (by omega) (by omega), fun x2 e2x => ?_⟩
              rw [qas k1, hh] at e2x
              have t50 : (50 : Int32).toInt = 50 := by decide
              refine ⟨fun c => ?_, fun _ => ⟨qa6 (by rw [e2x]; omega) (by rw [e2x]; omega), fun f4 e4 => ?_⟩⟩
              · rw [qak, t50, e2x] at c; omega
              rw [e2x, qas eL] at e4
              refine qbfQ (A := (A3.1, A3.2.1, f4, A3.2.2.2)) (by omega) (by omega) (fun A5 L5 l05 l15 hA5 => qCS hl hn6 hb c5 (by decide) (fun x19 x20 x21 x22 c6 x35 e35 => ?_))
              rw [t_59] at c6
              have q35 : x35.toInt = l3.toInt + 1 := by rw [e35]; exact qca (by omega)
              by_cases z6 : (gS n b 59 (0, 0, sk n b (g s2).1.2.2 + 1)).1 = 0
              · obtain ⟨eA5, eL5⟩ := hA5 j eL3 (by omega)
                have on6 := qayO (by decide) z6
                have on6 : sk n b (g s2).1.2.2 + 1 < (gS n b 59 (0, 0, sk n b (g s2).1.2.2 + 1)).2.2 ∧ _ := on6
                have agj : agA A3 A5 (i + 1) j := fun q h1 h2 => by
                  rw [eA5, e4]
                  unfold adA
                  refine ⟨?_, ?_, ?_, ?_⟩
                  · show A3.1 q = upd A3.1 j 5 q
                    rw [pk_un (by omega)]
                  · show A3.2.1 q = upd A3.2.1 j x2 q
                    rw [pk_un (by omega)]
                  · show A3.2.2.1 q = upd (upd A3.2.2.1 i L3) j 0 q
                    rw [pk_un (by omega), pk_un (by omega)]
                  · show A3.2.2.2 q = upd A3.2.2.2 j 0 q
                    rw [pk_un (by omega)]
                have ag0 : agA A3 A5 0 i := fun q h1 h2 => by
                  rw [eA5, e4]
                  unfold adA
                  refine ⟨?_, ?_, ?_, ?_⟩
                  · show A3.1 q = upd A3.1 j 5 q
                    rw [pk_un (by omega)]
                  · show A3.2.1 q = upd A3.2.1 j x2 q
                    rw [pk_un (by omega)]
                  · show A3.2.2.1 q = upd (upd A3.2.2.1 i L3) j 0 q
                    rw [pk_un (by omega), pk_un (by omega)]
                  · show A3.2.2.2 q = upd A3.2.2.2 j 0 q
                    rw [pk_un (by omega)]
                obtain ⟨m1, m2, -, -⟩ := ag3 i (Nat.zero_le _) (by omega)
                refine ok z6 k3 L5 x1 x19 x20 A5 x21 x22 hd3 x35 (j + 1) c6 k1 eL5 ⟨j, ⟨?_, ?_, ?_, ?_, ?_⟩, (hC A3 A5 (g s2).2 (i + 1) j hCB).2 agj, rfl⟩ (qbfK ag (qbfK (qa1T ag3 (Nat.le_refl _) (by omega)) ag0)) (fun q hq => by rw [hh3 q (by omega), pk_un (by omega)]) (by omega) (by omega) (by show x35.toInt ≤ ((gS n b 59 (0, 0, sk n b (g s2).1.2.2 + 1)).2.2 : Nat); omega)
                · rw [eA5]
                  show (upd A3.1 j 5 i).toInt = 4
                  rw [pk_un (by omega), ← m1]; exact v1
                · rw [eA5]
                  show (upd A3.2.1 j x2 i).toInt = _
                  rw [pk_un (by omega), ← m2]; exact v2
                · rw [eA5, e4]
                  show (upd (upd A3.2.2.1 i L3) j 0 i).toInt = _
                  rw [pk_un (by omega), pk_us]; exact eL3
                · rw [eA5]
                  show (upd A3.1 j 5 j).toInt = 5
                  rw [pk_us]; decide
                · rw [eA5]
                  show (upd A3.2.1 j x2 j).toInt = _
                  rw [pk_us, e2x]; exact eL
              · exact fine k3 L5 x1 x19 x20 A5 x21 x22 hd3 x35 z6 c6 (by omega)
          · rw [qan, t_0] at c; omega
      · have ez : gS n b 59 (gS n b 93 (g s2).1) = s2 := by rw [(hg2 s2).1 z2, qGz z2, qGz z2]
        have g9 := fine k L' op' a t A' fa fp (upd hd o L) x34
        rw [ez] at g9
        exact g9 z2 c1 (by omega)
    · have eN := hB0 ho6
      have es : quq n b H F B st = ((3, sk n b st.2.2, 0), []) := by
        unfold quq; rw [if_pos hw1, eN]; rfl
      have q34 : x34.toInt = l4.toInt + 1 := by rw [e34]; exact qca (by omega)
      have g9 := fine k L op a t A fa fp hd x34
      rw [es] at g9
      exact g9 (by show ¬ (3 : Int) = 0; decide) c1 (by omega)
  refine ⟨fun c => ?_, fun _ => qKR (fun _ => ⟨fun d => absurd rfl d, fun _ => ⟨fun d => ?_, fun d => ?_⟩⟩) (fun d => absurd (qWF hc h0) d)⟩
  · rw [qao, qV9] at c; omega
  · rw [qan, t_0] at d
    obtain ⟨ho0, hw⟩ := hw.resolve_left (fun w => d (by omega))
    refine ⟨fun c => ?_, fun _ => qA2 hl hn6 hb hc (by decide) (fun _ x c5 => ⟨fun _ => go82 x _ c5, fun d => absurd rfl d⟩) (fun _ w x t5 c5 et5 => ?_)⟩
    · rw [qak, t_0] at c; omega
    · rw [t_93] at w; exact absurd w hw
  · rw [qan, t_0] at d
    have hw := (hw.resolve_right (fun w => by omega)).2
    refine qV7 hl hn6 hb hc h0 (fun _ x c5 => ⟨fun _ => ⟨fun _ => go82 x _ c5, fun c => ?_⟩, fun d => absurd rfl d⟩) (fun w => absurd hw w)
    rw [qak, t_0] at c; omega
/-- a block -/
theorem w_bl {β : Type} {eB : β → Nat} {CB : wA → β → Nat → Nat → Prop} {B : Option (sT → sT × β)} {o : Nat} (hl : len.toInt = n) (hn : n ≤ 150) (hb : tB n f b) (eH : vh.toInt = H) (hH0 : 0 ≤ H) (h6 : H ≤ 6) (eF : vf.toInt = F) (hF0 : 0 ≤ F) (h8 : F ≤ 8) (ho0 : 0 < o) (ho : o ≤ 6) (hC : okC eB CB)
    (hB0 : o = 6 → B = none) (hB1 : o < 6 → ∃ g : sT → sT × β, B = some g) (hBs : ∀ g : sT → sT × β, B = some g → CBk n b len f vh vf CB (o + 1) g ∧ gdB n eB g ∧ ∀ st : sT, st.1 = 0 → st.2.2 ≤ n → (g st).1.1 = 0 → at0 n b (sk n b (g st).1.2.2) = 93)
    {Q : wF} {i0 : Nat} {A0 : wA} {hd0 : Nat → Int32} {R : sT × TG β}
    (bad : R.1.1 ≠ 0 → ∀ (L op a tk : Int32) (A : wA) (fa fp : Int32) (hd : NI), cS n b R.1 a fa fp → Q vh vf L op a tk A.2.2.1 A.1 A.2.1 A.2.2.2 fa fp hd)
    (ok : R.1.1 = 0 → ∀ (k : Nat) (L op a tk : Int32) (A' : wA) (fa fp : Int32) (hd' : NI) (l4 : Int32) (j : Nat), cS n b R.1 a fa fp → op.toInt = (o : Int) → L.toInt = (j : Int) → sgC CB A' R.2 i0 j → agA A0 A' 0 i0 → (∀ q : Nat, q < o → hd' q = hd0 q) → (k : Int) + l4.toInt = 152 → 0 ≤ l4.toInt → l4.toInt ≤ (R.1.2.2 : Nat) → wlA len f Q k vh vf L op a tk A' fa fp hd' l4) :
    ∀ (kk : Nat) (x : sT × TG β) (k : Nat) (L op a tk : Int32) (A : wA) (fa fp : Int32) (hd : NI) (l4 : Int32) (i : Nat), blG n b H F B kk x = R → cS n b x.1 a fa fp → (x.1.1 = 0 → x.1.2.2 ≤ n ∧ op.toInt = (o : Int) ∧ L.toInt = (i : Int) ∧ sgC CB A x.2 i0 i ∧ agA A0 A 0 i0 ∧ (∀ q : Nat, q < o → hd q = hd0 q) ∧ 3 * i ≤ x.1.2.2 ∧ 0 ≤ l4.toInt ∧ l4.toInt ≤ (x.1.2.2 : Nat) ∧ (k : Int) + l4.toInt = 152) → 1 ≤ k → wlA len f Q k vh vf L op a tk A fa fp hd l4 := by
  intro kk
  induction kk with
  | zero =>
    intro x k L op a tk A fa fp hd l4 i hR hc hx hk
    have hR : x = R := hR
    by_cases z : x.1.1 = 0
    · obtain ⟨p1, p2, p3, p4, p5, p6, p7, p8, p9, p10⟩ := hx z
      rw [hR] at z hc p4 p9
      exact ok z k L op a tk A fa fp hd l4 i hc p2 p3 p4 p5 p6 p10 p8 p9
    · rw [hR] at z hc
      exact qbbA hc z hk (bad z _ _ _ _ _ _ _ _ hc)
  | succ kk ih =>
    intro x k L op a tk A fa fp hd l4 i hR hc hx hk
    have hR : (if x.1.1 ≠ 0 ∨ at0 n b (sk n b x.1.2.2) = 93 then x else blG n b H F B kk ((quq n b H F B x.1).1, x.2 ++ (quq n b H F B x.1).2)) = R := hR
    by_cases z : x.1.1 = 0
    · obtain ⟨p1, p2, p3, p4, p5, p6, p7, p8, p9, p10⟩ := hx z
      by_cases w : at0 n b (sk n b x.1.2.2) = 93
      · rw [if_pos (Or.inr w)] at hR
        rw [hR] at z hc p4 p9
        exact ok z k L op a tk A fa fp hd l4 i hc p2 p3 p4 p5 p6 p10 p8 p9
      · rw [if_neg (fun d => d.elim (fun y => y z) w)] at hR
        refine qbhS hl hn hb eH hH0 h6 eF hF0 h8 ho hC hB0 hB1 hBs hc z p1 p2 p3 p7 p10 p8 p9 (Or.inr ⟨ho0, w⟩) (fun zs L op a tk A fa fp hd c => ?_) (fun zs k L op a tk A' fa fp hd' l4 j c q2 q3 q4 q5 q6 q10 q8 q9 => ?_)
        · have e : R.1 = (quq n b H F B x.1).1 := by
            rw [← hR]
            rw [(qa5t (n := n) (b := b) (H := H) (F := F) (eB := eB) (B := B) (fun g hg => (hBs g hg).2.1) kk ((quq n b H F B x.1).1, x.2 ++ (quq n b H F B x.1).2)).1 zs]
          rw [← e] at zs c
          exact bad zs L op a tk A fa fp hd c
        · have on := qaTy (eB := eB) (B := B) (fun g hg => (hBs g hg).2.1) z p1 zs
          obtain ⟨en, -⟩ := qaML hC A' A' _ i j q4
          obtain ⟨en0, en1⟩ := qaML hC A A' _ i0 i p4
          refine ih _ k L op a tk A' fa fp hd' l4 j hR c (fun _ => ⟨on.2.1, q2, q3, qbd6 q4 _ _ (en1 (qa1T q5 (Nat.zero_le _) (Nat.le_refl _))), qbfK p5 (qa1T q5 (Nat.le_refl _) (by omega)), fun q hq => (q6 q hq).trans (p6 q hq), ?_, q8, q9, q10⟩) ?_
          · show 3 * j ≤ (quq n b H F B x.1).1.2.2
            omega
          · omega
    · rw [if_pos (Or.inl z)] at hR
      rw [hR] at z hc
      exact qbbA hc z hk (bad z _ _ _ _ _ _ _ _ hc)
theorem qa6v {β : Type} {eB : β → Nat} {B : Option (sT → sT × β)} (hn : n ≤ 150) (hB : ∀ f : sT → sT × β, B = some f → gdB n eB f) {st : sT} (h0 : st.1 = 0) (hp : st.2.2 ≤ n) (h : (blG n b H F B 150 (st, [])).1.1 = 0) : at0 n b (sk n b (blG n b H F B 150 (st, [])).1.2.2) = 93 := by
  have g := ((qa5t hB 150 (st, [])).2 h0 hp h)
  rcases g.2.2.2 with w | w
  · exact w
  · have w : st.2.2 + 4 * 150 ≤ _ := w
    have := g.2.1
    omega
/-- blocks of all depths -/
theorem qblZ (hl : len.toInt = n) (hn : n ≤ 150) (hb : tB n f b) (eH : vh.toInt = H) (hH0 : 0 ≤ H) (h6 : H ≤ 6) (eF : vf.toInt = F) (hF0 : 0 ≤ F) (h8 : F ≤ 8) : ∀ m : Nat, m ≤ 5 → CBk n b len f vh vf (cN m) (6 - m) (blN n b H F m) ∧ gdB n (enN m) (blN n b H F m) ∧ ∀ st : sT, st.1 = 0 → st.2.2 ≤ n → (blN n b H F m st).1.1 = 0 → at0 n b (sk n b (blN n b H F m st).1.2.2) = 93 := by
  intro m
  induction m with
  | zero =>
    intro _
    refine ⟨?_, qNz 0, fun st h0 hp h => qa6v (β := Empty) (eB := fun _ => 0) (B := none) hn (fun g hg => by cases hg) h0 hp h⟩
    intro Q k st L op a tk A fa fp hd l4 i hc h0 hp eo eL hi hk hl0 hl4 bad ok
    exact w_bl (β := Empty) (eB := fun _ => 0) (CB := fun _ _ _ _ => False) (B := none) (o := 6) hl hn hb eH hH0 h6 eF hF0 h8 (by omega) (by omega) (fun A A' B i j h => h.elim) (fun _ => rfl) (fun d => absurd d (by omega)) (fun g hg => by cases hg) (R := blN n b H F 0 st) (i0 := i) (A0 := A) (hd0 := hd) bad ok 150 (st, []) k L op a tk A fa fp hd l4 i rfl hc (fun _ => ⟨hp, eo, eL, rfl, qbi7, fun _ _ => rfl, hi, hl0, hl4, hk⟩) (by omega)
  | succ m ih =>
    intro hm
    have im := ih (by omega)
    refine ⟨?_, qNz (m + 1), fun st h0 hp h => qa6v (β := TT m) (eB := enN m) (B := some (blN n b H F m)) hn (fun g hg => by rw [← Option.some.inj hg]; exact im.2.1) h0 hp h⟩
    intro Q k st L op a tk A fa fp hd l4 i hc h0 hp eo eL hi hk hl0 hl4 bad ok
    exact w_bl (β := TT m) (eB := enN m) (CB := cN m) (B := some (blN n b H F m)) (o := 6 - (m + 1)) hl hn hb eH hH0 h6 eF hF0 h8 (by omega) (by omega) (qa2F m) (fun d => absurd d (by omega)) (fun _ => ⟨_, rfl⟩) (fun g hg => by rw [← Option.some.inj hg, show 6 - (m + 1) + 1 = 6 - m by omega]; exact im) (R := blN n b H F (m + 1) st) (i0 := i) (A0 := A) (hd0 := hd) bad ok 150 (st, []) k L op a tk A fa fp hd l4 i rfl hc (fun _ => ⟨hp, eo, eL, rfl, qbi7, fun _ _ => rfl, hi, hl0, hl4, hk⟩) (by omega)
/-- the whole text -/
theorem w_tp {Q : wF} {R : sT × TG (TT 5)} (hl : len.toInt = n) (hn : n ≤ 150) (hb : tB n f b) (eH : vh.toInt = H) (hH0 : 0 ≤ H) (h6 : H ≤ 6) (eF : vf.toInt = F) (hF0 : 0 ≤ F) (h8 : F ≤ 8)
    (hq : ∀ (L op a tk : Int32) (A : wA) (fa fp : Int32) (hd : NI), cS n b R.1 a fa fp → (R.1.1 = 0 → L.toInt = ((enL (enN 5) R.2 : Nat) : Int) ∧ L.toInt ≤ 50 ∧ sgC (cN 5) A R.2 0 (enL (enN 5) R.2)) → Q vh vf L op a tk A.2.2.1 A.1 A.2.1 A.2.2.2 fa fp hd) :
    ∀ (kk : Nat) (x : sT × TG (TT 5)) (k : Nat) (L op a tk : Int32) (A : wA) (fa fp : Int32) (hd : NI) (l4 : Int32) (i : Nat), tpG n b H F (some (blN n b H F 5)) kk x = R → n < x.1.2.2 + 4 * kk + 1 → cS n b x.1 a fa fp → (x.1.1 = 0 → x.1.2.2 ≤ n ∧ op.toInt = 0 ∧ L.toInt = (i : Int) ∧ sgC (cN 5) A x.2 0 i ∧ 3 * i ≤ x.1.2.2 ∧ 0 ≤ l4.toInt ∧ l4.toInt ≤ (x.1.2.2 : Nat) ∧ (k : Int) + l4.toInt = 152) → 1 ≤ k → wlA len f Q k vh vf L op a tk A fa fp hd l4 := by
  have h5 := qblZ (n := n) (b := b) (len := len) (f := f) (H := H) (F := F) (vh := vh) (vf := vf) hl hn hb eH hH0 h6 eF hF0 h8 5 (by omega)
  have bad9 : ∀ (x : sT × TG (TT 5)), x = R → x.1.1 ≠ 0 → ∀ (k : Nat) (L op a tk : Int32) (A : wA) (fa fp : Int32) (hd : NI) (l4 : Int32), cS n b x.1 a fa fp → 1 ≤ k → wlA len f Q k vh vf L op a tk A fa fp hd l4 := fun x e z k L op a tk A fa fp hd l4 hc hk => qbbA hc z hk (hq _ _ _ _ _ _ _ _ (by rw [← e]; exact hc) (fun d => absurd (by rw [e]; exact d) z))
  have end9 : ∀ (x : sT × TG (TT 5)), x = R → x.1.1 = 0 → ¬ sk n b x.1.2.2 < n → ∀ (k : Nat) (L op a tk : Int32) (A : wA) (fa fp : Int32) (hd : NI) (l4 : Int32) (i : Nat), cS n b x.1 a fa fp → op.toInt = 0 → L.toInt = (i : Int) → sgC (cN 5) A x.2 0 i → 3 * i ≤ x.1.2.2 → x.1.2.2 ≤ n → 1 ≤ k → wlA len f Q k vh vf L op a tk A fa fp hd l4 := fun x e z w k L op a tk A fa fp hd l4 i hc eo eL hs hi hp hk => by
    obtain ⟨en, -⟩ := qaML (qa2F 5) A A _ 0 i hs
    have en : i = enL (enN 5) x.2 := by omega
    have fin : ∀ a : Int32, cS n b x.1 a fa fp → Q vh vf L op a tk A.2.2.1 A.1 A.2.1 A.2.2.2 fa fp hd := fun a hc => hq _ _ _ _ _ _ _ _ (by rw [← e]; exact hc) (fun _ => by rw [← e]; exact ⟨by rw [← en]; exact eL, by omega, by rw [← en]; exact hs⟩)
    obtain ⟨k, rfl⟩ : ∃ j : Nat, k = j + 1 := ⟨k - 1, by omega⟩
    refine ⟨fun _ => fin a hc, fun _ => qKR (fun _ => ⟨fun _ => fin a hc, fun _ => ⟨fun d => absurd (qan.mpr (by rw [t_0]; exact eo)) d, fun _ => qV7 hl (by omega) hb hc z (fun d => absurd d w) (fun _ y c5 => ⟨fun d => absurd d (by first | decide | simp), fun _ => fin y c5⟩)⟩⟩) (fun d => absurd (qWF hc z) d)⟩
  intro kk
  induction kk with
  | zero =>
    intro x k L op a tk A fa fp hd l4 i hR hkk hc hx hk
    have hR : x = R := hR
    by_cases z : x.1.1 = 0
    · obtain ⟨p1, p2, p3, p4, p7, p8, p9, p10⟩ := hx z
      exact end9 x hR z (by have := (quu (n := n) (b := b) _ x.1.2.2 rfl).1; omega) k L op a tk A fa fp hd l4 i hc p2 p3 p4 p7 p1 hk
    · exact bad9 x hR z k L op a tk A fa fp hd l4 hc hk
  | succ kk ih =>
    intro x k L op a tk A fa fp hd l4 i hR hkk hc hx hk
    have hR : (if x.1.1 ≠ 0 ∨ ¬ sk n b x.1.2.2 < n then x else tpG n b H F (some (blN n b H F 5)) kk ((quq n b H F (some (blN n b H F 5)) x.1).1, x.2 ++ (quq n b H F (some (blN n b H F 5)) x.1).2)) = R := hR
    by_cases z : x.1.1 = 0
    · obtain ⟨p1, p2, p3, p4, p7, p8, p9, p10⟩ := hx z
      by_cases w : sk n b x.1.2.2 < n
      · rw [if_neg (fun d => d.elim (fun y => y z) (fun y => y w))] at hR
        have hBs : ∀ g : sT → sT × TT 5, some (blN n b H F 5) = some g → CBk n b len f vh vf (cN 5) (0 + 1) g ∧ gdB n (enN 5) g ∧ ∀ st : sT, st.1 = 0 → st.2.2 ≤ n → (g st).1.1 = 0 → at0 n b (sk n b (g st).1.2.2) = 93 := fun g hg => by rw [← Option.some.inj hg]; exact h5
        refine qbhS (o := 0) hl hn hb eH hH0 h6 eF hF0 h8 (by omega) (qa2F 5) (fun d => absurd d (by omega)) (fun _ => ⟨_, rfl⟩) hBs hc z p1 p2 p3 p7 p10 p8 p9 (Or.inl ⟨rfl, w⟩) (fun zs L op a tk A fa fp hd c => ?_) (fun zs k L op a tk A' fa fp hd' l4 j c q2 q3 q4 q5 q6 q10 q8 q9 => ?_)
        · have e : R.1 = (quq n b H F (some (blN n b H F 5)) x.1).1 := by
            rw [← hR]
            cases kk with
            | zero => rfl
            | succ kk =>
              show (if (quq n b H F (some (blN n b H F 5)) x.1).1.1 ≠ 0 ∨ _ then ((quq n b H F (some (blN n b H F 5)) x.1).1, x.2 ++ (quq n b H F (some (blN n b H F 5)) x.1).2) else _ : sT × TG (TT 5)).1 = _
              rw [if_pos (Or.inl zs)]
          rw [← e] at zs c
          exact hq _ _ _ _ _ _ _ _ c (fun d => absurd d zs)
        · have on := qaTy (eB := enN 5) (B := some (blN n b H F 5)) (fun g hg => (hBs g hg).2.1) z p1 zs
          obtain ⟨en, -⟩ := qaML (qa2F 5) A' A' _ i j q4
          obtain ⟨en0, en1⟩ := qaML (qa2F 5) A A' _ 0 i p4
          refine ih _ k L op a tk A' fa fp hd' l4 j hR ?_ c (fun _ => ⟨on.2.1, q2, q3, qbd6 q4 _ _ (en1 q5), ?_, q8, q9, q10⟩) (by omega)
          · show n < (quq n b H F (some (blN n b H F 5)) x.1).1.2.2 + 4 * kk + 1
            omega
          · show 3 * j ≤ (quq n b H F (some (blN n b H F 5)) x.1).1.2.2
            omega
      · rw [if_pos (Or.inr w)] at hR
        exact end9 x hR z w k L op a tk A fa fp hd l4 i hc p2 p3 p4 p7 p1 hk
    · rw [if_pos (Or.inl z)] at hR
      exact bad9 x hR z k L op a tk A fa fp hd l4 hc hk
/-- the class reads a work's text -/
theorem qa1U {Q : wF} {L op a tk fa fp : Int32} {A : wA} {hd : Nat → Int32} {vl vo : Int32} (hl : len.toInt = n) (hn : n ≤ 150) (hb : tB n f b) (eH : vh.toInt = H) (hH0 : 0 ≤ H) (h6 : H ≤ 6) (eF : vf.toInt = F) (hF0 : 0 ≤ F) (h8 : F ≤ 8) (hc : cS n b (0, 0, 0) a fa fp)
    (hq : ∀ (L op a tk : Int32) (A : wA) (fa fp : Int32) (hd : NI), cS n b (qxz n b H F).1 a fa fp → ((qxz n b H F).1.1 = 0 → L.toInt = ((enL (enN 5) (qxz n b H F).2 : Nat) : Int) ∧ L.toInt ≤ 50 ∧ sgC (cN 5) A (qxz n b H F).2 0 (enL (enN 5) (qxz n b H F).2)) → Q vh vf L op a tk A.2.2.1 A.1 A.2.1 A.2.2.2 fa fp hd) :
    qMv len f vl vo L op a tk A.2.2.1 A.1 A.2.1 A.2.2.2 fa fp hd vh vf Q :=
  ⟨152, w_tp (R := qxz n b H F) hl hn hb eH hH0 h6 eF hF0 h8 hq 150 ((0, 0, 0), []) 152 0 0 a tk A fa fp hd 0 0 rfl (by show n < 0 + 4 * 150 + 1; omega) hc (fun _ => ⟨Nat.zero_le _, t_0, t_0, rfl, Nat.le_refl _, by rw [t_0]; decide, by rw [t_0]; decide, by rw [t_0]; decide⟩) (by omega)⟩
end WL
end
section
/-! the reference's rows of a work, and its reading -/
def sgR {β : Type} (RB : NI → β → Nat → Nat → Prop) (s : NI) : TG β → Nat → Nat → Prop
  | [], i, j => i = j
  | Sum.inl v :: L, i, j => ((s (4 * i)).toInt = v.1 ∧ (s (4 * i + 1)).toInt = v.2.1 ∧ (s (4 * i + 2)).toInt = v.2.2.1 ∧ (s (4 * i + 3)).toInt = v.2.2.2) ∧ sgR RB s L (i + 1) j
  | Sum.inr v :: L, i, j => ∃ e : Nat, ((s (4 * i)).toInt = 4 ∧ (s (4 * i + 1)).toInt = v.1 ∧ (s (4 * i + 2)).toInt = ((4 * e : Nat) : Int)) ∧ RB s v.2 (i + 1) e ∧ sgR RB s L e j
/-- how many rows of the reference a text wants -/
def erL {β : Type} (eB : β → Nat) : TG β → Nat
  | [] => 0
  | Sum.inl _ :: L => 1 + erL eB L
  | Sum.inr x :: L => 1 + eB x.2 + erL eB L
def okR {β : Type} (eB : β → Nat) (RB : NI → β → Nat → Nat → Prop) : Prop := ∀ (s t : NI) (B : β) (i j : Nat), RB s B i j → j = i + eB B ∧ ((∀ q : Nat, 4 * i ≤ q → q < 4 * j → s q = t q) → RB t B i j)
theorem qaxg {β : Type} {eB : β → Nat} {RB : NI → β → Nat → Nat → Prop} (hC : okR eB RB) : okR (erL eB) (sgR RB) := by
  intro s t L
  induction L with
  | nil => intro i j h; have h : i = j := h; exact ⟨by rw [← h]; rfl, fun _ => h⟩
  | cons x L ih =>
    intro i j h
    cases x with
    | inl v =>
      obtain ⟨h1, h2⟩ := h
      obtain ⟨g1, g2⟩ := ih (i + 1) j h2
      have e0 : erL eB (Sum.inl v :: L) = 1 + erL eB L := rfl
      refine ⟨by omega, fun a => ⟨?_, g2 (fun q q1 q2 => a q (by omega) q2)⟩⟩
      rw [← a (4 * i) (by omega) (by omega), ← a (4 * i + 1) (by omega) (by omega), ← a (4 * i + 2) (by omega) (by omega), ← a (4 * i + 3) (by omega) (by omega)]; exact h1
    | inr v =>
      obtain ⟨e, h1, h2, h3⟩ := h
      obtain ⟨g1, g2⟩ := ih e j h3
      obtain ⟨k1, k2⟩ := hC s t v.2 (i + 1) e h2
      have e0 : erL eB (Sum.inr v :: L) = 1 + eB v.2 + erL eB L := rfl
      refine ⟨by omega, fun a => ⟨e, ?_, k2 (fun q q1 q2 => a q (by omega) (by omega)), g2 (fun q q1 q2 => a q (by omega) q2)⟩⟩
      rw [← a (4 * i) (by omega) (by omega), ← a (4 * i + 1) (by omega) (by omega), ← a (4 * i + 2) (by omega) (by omega)]; exact h1
theorem qbcZ {β : Type} {RB : NI → β → Nat → Nat → Prop} {s : Nat → Int32} {L2 : TG β} {m j : Nat} (g : sgR RB s L2 m j) : ∀ (L1 : TG β) (i : Nat), sgR RB s L1 i m → sgR RB s (L1 ++ L2) i j := by
  intro L1
  induction L1 with
  | nil => intro i h; have h : i = m := h; rw [h]; exact g
  | cons x L ih =>
    intro i h
    cases x with
    | inl v => exact ⟨h.1, ih (i + 1) h.2⟩
    | inr v =>
      obtain ⟨e, h1, h2, h3⟩ := h
      exact ⟨e, h1, h2, ih e h3⟩
theorem qbcs {β : Type} {eR eB : β → Nat} (h : ∀ B : β, eR B ≤ eB B) : ∀ L : TG β, erL eR L ≤ enL eB L := by
  intro L
  induction L with
  | nil => exact Nat.le_refl 0
  | cons x L ih =>
    cases x with
    | inl v => show 1 + erL eR L ≤ 1 + enL eB L; omega
    | inr v => have := h v.2; show 1 + eR v.2 + erL eR L ≤ 2 + eB v.2 + enL eB L; omega
def rN : (m : Nat) → NI → TT m → Nat → Nat → Prop
  | 0 => sgR (β := Empty) (fun _ _ _ _ => False)
  | m + 1 => sgR (β := TT m) (rN m)
def erN : (m : Nat) → TT m → Nat
  | 0 => erL (β := Empty) (fun _ => 0)
  | m + 1 => erL (β := TT m) (erN m)
theorem qT2 : ∀ m : Nat, okR (erN m) (rN m) := by
  intro m
  induction m with
  | zero => exact qaxg (β := Empty) (eB := fun _ => 0) (fun A A' B i j h => h.elim)
  | succ m ih => exact qaxg (β := TT m) ih
theorem qaLJ : ∀ (m : Nat) (B : TT m), erN m B ≤ enN m B := by
  intro m
  induction m with
  | zero => exact fun B => qbcs (β := Empty) (eR := fun _ => 0) (eB := fun _ => 0) (fun B => Nat.le_refl _) B
  | succ m ih => exact fun B => qbcs (β := TT m) ih B
section WM
variable {n : Nat} {b : Nat → Int} {len : Int32} {f : Nat → Int32} {H F : Int} {vh vf : Int32}
theorem qa7f {Q : Int32 → Prop} (hq : ∀ r : Int32, r.toInt = 398384 → Q r) : qbh 4 qOz Q := y_of (by decide) (by decide) (by decide) hq
theorem qa0v {Q : Int32 → Prop} (hq : ∀ r : Int32, r.toInt = 2552 → Q r) : qbh 3 qAx Q := y_of (by decide) (by decide) (by decide) hq
theorem qaLM {Q : Int32 → Prop} (hq : ∀ r : Int32, r.toInt = 16441 → Q r) : qbh 3 qAC Q := y_of (by decide) (by decide) (by decide) hq
theorem qa0N {Q : Int32 → Prop} (hq : ∀ r : Int32, r.toInt = 1279278 → Q r) : qbh 5 qOB Q := y_of (by decide) (by decide) (by decide) hq
/-- four numbers of a step -/
def four (s : NI) (i : Nat) (p1 p2 p3 p4 : Int32) : NI := upd (upd (upd (upd s (4 * i) p1) (4 * i + 1) p2) (4 * i + 2) p3) (4 * i + 3) p4
theorem fo_0 {s : Nat → Int32} {i : Nat} {p1 p2 p3 p4 : Int32} : four s i p1 p2 p3 p4 (4 * i) = p1 := by unfold four; rw [pk_un (by omega), pk_un (by omega), pk_un (by omega), pk_us]
theorem fo_1 {s : Nat → Int32} {i : Nat} {p1 p2 p3 p4 : Int32} : four s i p1 p2 p3 p4 (4 * i + 1) = p2 := by unfold four; rw [pk_un (by omega), pk_un (by omega), pk_us]
theorem fo_2 {s : Nat → Int32} {i : Nat} {p1 p2 p3 p4 : Int32} : four s i p1 p2 p3 p4 (4 * i + 2) = p3 := by unfold four; rw [pk_un (by omega), pk_us]
theorem fo_3 {s : Nat → Int32} {i : Nat} {p1 p2 p3 p4 : Int32} : four s i p1 p2 p3 p4 (4 * i + 3) = p4 := by unfold four; rw [pk_us]
theorem fo_o {s : Nat → Int32} {i q : Nat} {p1 p2 p3 p4 : Int32} (h : q < 4 * i) : four s i p1 p2 p3 p4 q = s q := by unfold four; rw [pk_un (by omega), pk_un (by omega), pk_un (by omega), pk_un (by omega)]
theorem qaSB {Q : NI → Int32 → Prop} {a bd bk nn p1 p2 p3 p4 : Int32} {ns : Nat → Int32} {st : sT} {i : Nat} (hm : mS n b st a bd bk) (en : nn.toInt = ((4 * i : Nat) : Int)) (hi : st.1 = 0 → i < 50) (q0 : st.1 ≠ 0 → Q ns nn) (q1 : st.1 = 0 → ∀ nn : Int32, nn.toInt = ((4 * (i + 1) : Nat) : Int) → Q (four ns i p1 p2 p3 p4) nn) : qm1 bd ns nn p1 p2 p3 p4 Q := by
  refine qnB hm (fun h0 => ⟨fun _ => ?_, fun d => absurd d (by first | decide | simp)⟩) (fun h0 => ⟨fun d => absurd rfl d, fun _ => q0 h0⟩)
  have h50 := hi h0
  refine ⟨qa6 (by omega) (by omega), fun f3 e3 x4 e4 => ?_⟩
  have k4 : x4.toInt = ((4 * i + 1 : Nat) : Int) := by rw [e4, qap (by rw [t_1]; omega) (by rw [t_1]; omega), t_1, en]; omega
  refine ⟨qa6 (by omega) (by omega), fun f5 e5 x6 e6 => ?_⟩
  have k6 : x6.toInt = ((4 * i + 2 : Nat) : Int) := by rw [e6, qap (by rw [t_2]; omega) (by rw [t_2]; omega), t_2, en]; omega
  refine ⟨qa6 (by omega) (by omega), fun f7 e7 x8 e8 => ?_⟩
  have k8 : x8.toInt = ((4 * i + 3 : Nat) : Int) := by rw [e8, qap (by rw [t_3]; omega) (by rw [t_3]; omega), t_3, en]; omega
  refine ⟨qa6 (by omega) (by omega), fun f9 e9 x10 e10 => ?_⟩
  have k10 : x10.toInt = ((4 * (i + 1) : Nat) : Int) := by rw [e10, qap (by rw [t_4]; omega) (by rw [t_4]; omega), t_4, en]; omega
  have g := q1 h0 x10 k10
  rw [qas en] at e3
  rw [qas k4] at e5
  rw [qas k6] at e7
  rw [qas k8] at e9
  unfold four at g
  rw [e9, e7, e5, e3]; exact g
abbrev sQw := Int32 → Int32 → Int32 → Int32 → NI → Int32 → Prop
abbrev mW := Int32 → Int32 → Int32 → NI → Int32 → Int32 → Int32 → Int32 → NI → Int32 → sQw → Prop
/-- a reader of a step of the reference does what g says -/
def MSt (n : Nat) (b : Nat → Int) (len : Int32) (f : NI) (vh vf : Int32) {β : Type} (RB : NI → β → Nat → Nat → Prop) (o : Nat) (g : sT → sT × TG β) (R : mW) : Prop := ∀ (Q : sQw) (st : sT) (a bd bk op : Int32) (ns : NI) (nn : Int32) (i : Nat), mS n b st a bd bk → st.1 = 0 → st.2.2 ≤ n → op.toInt = (o : Int) → nn.toInt = ((4 * i : Nat) : Int) → 3 * i ≤ st.2.2 →
  (∀ (a bd bk op : Int32) (ns' : NI) (nn : Int32), mS n b (g st).1 a bd bk → ((g st).1.1 = 0 → op.toInt = (o : Int) ∧ (∀ q : Nat, q < 4 * i → ns' q = ns q) ∧ ∃ j : Nat, nn.toInt = ((4 * j : Nat) : Int) ∧ sgR RB ns' (g st).2 i j) → Q a bd bk op ns' nn) → R len vf vh f a bd bk op ns nn Q
theorem qbg7 (hl : len.toInt = n) (hn : n ≤ 150) (hb : tB n f b) (eH : vh.toInt = H) (hH0 : 0 ≤ H) (h6 : H ≤ 6) (eF : vf.toInt = F) (hF0 : 0 ≤ F) (h8 : F ≤ 8) : MSt n b len f vh vf (β := Empty) (fun _ _ _ _ => False) 6 (quq n b H F (β := Empty) none) qx7 := by
  intro Q st a bd bk op ns nn i hm h0 hp eo en hi hq
  have hn6 : n ≤ 600 := by omega
  have eHm : (vh - 1).toInt = H - 1 := by rw [qqj (by omega), eH]
  have eFm : (vf - 1).toInt = F - 1 := by rw [qqj (by omega), eF]
  -- a leaf: four numbers, and the sign
  have fin : ∀ (w : Int) (p1 p2 p3 p4 a bd bk : Int32), pw n b (sk n b st.2.2) = w → isLf w → mS n b (lfS n b H F w st) a bd bk → ((lfS n b H F w st).1 = 0 → p1.toInt = (lfV n b H w st).1 ∧ p2.toInt = (lfV n b H w st).2.1 ∧ p3.toInt = (lfV n b H w st).2.2.1 ∧ p4.toInt = (lfV n b H w st).2.2.2) → qm1 bd ns nn p1 p2 p3 p4 (fun f88 x89 => qng len vf vh f Q a bd bk op f88 x89) := fun w p1 p2 p3 p4 a bd bk hw hlw c2 hv => by
    have hw' := hw
    unfold isLf at hlw
    have es : quq n b H F (β := Empty) none st = (gS n b 59 (lfS n b H F w st), [Sum.inl (lfV n b H w st)]) := by
      unfold quq
      rw [hw, if_neg (by omega), if_pos hlw]
    rw [es] at hq
    refine qaSB (i := i) c2 en (fun z => ?_) (fun z => qt9 hl hn6 hb c2 (by decide) (fun x bd2 bk2 c3 => ?_)) (fun z nn2 e2 => qt9 hl hn6 hb c2 (by decide) (fun x bd2 bk2 c3 => ?_))
    · have hon := qa0P (n := n) (b := b) (H := H) (F := F) (st := st) hw hlw z
      omega
    · rw [t_59] at c3
      exact hq _ _ _ _ _ _ c3 (fun d => absurd (qlb d) z)
    · rw [t_59] at c3
      obtain ⟨v1, v2, v3, v4⟩ := hv z
      exact hq _ _ _ _ _ _ c3 (fun _ => ⟨eo, fun q hq => fo_o hq, i + 1, e2, ⟨by rw [fo_0]; exact v1, by rw [fo_1]; exact v2, by rw [fo_2]; exact v3, by rw [fo_3]; exact v4⟩, rfl⟩)
  refine q1S hl hn6 hb hm h0 (fun r x c1 ex er => qbhs (fun rd ed => ⟨fun n1 => ?_, fun e1 => ?_⟩))
  · refine qa7f (fun rl el => ⟨fun n2 => ?_, fun e2 => ?_⟩)
    · have two : (pw n b (sk n b st.2.2) = 2552 ∨ pw n b (sk n b st.2.2) = 16441) → qu1 len vf vh f Q x bd bk op ns nn r := fun hw => by
        refine qWt hl hn6 hb c1 h0 ex (fun x1 d0 => qnZ hl hn6 hb d0 (by decide) (by rw [eHm]; omega) (fun r1 x2 bd1 bk1 d1 v1 => qnZ hl hn6 hb d1 (by decide) (by rw [eHm]; omega) (fun r2 x3 bd2 bk2 d2 v2 => qa0v (fun rb eb => ?_))))
        rw [t_0, eHm] at d1 v1 d2 v2
        refine ⟨fun nb => qaLM (fun rp ep => ⟨fun np => ?_, fun _ => ?_⟩), fun yb => qaLM (fun rp ep => ⟨fun _ => ?_, fun yp => ?_⟩)⟩
        · rw [qan, er, eb] at nb
          rw [qan, er, ep] at np
          exact absurd hw (by omega)
        · refine qnZ hl hn6 hb d2 (by decide) (by decide) (fun r3 x4 bd3 bk3 d3 v3 => ?_)
          rw [t_1, qnP] at d3 v3
          rw [qan, er, eb] at nb
          refine fin 16441 2 r1 r2 r3 x4 bd3 bk3 (by omega) (Or.inr (Or.inr (Or.inl rfl))) d3 (fun z => ?_)
          have z : (nS n b 1 99 (tnS n b H st)).1 = 0 := z
          have z2 := (qdE z).1
          unfold lfV
          rw [if_neg (by decide), if_neg (by decide), if_pos rfl]
          exact ⟨t_2, v1 (qdE z2).1, v2 z2, v3 z⟩
        · rw [qan, er, eb] at yb
          refine fin 2552 1 r1 r2 0 x3 bd2 bk2 yb (Or.inr (Or.inl rfl)) d2 (fun z => ?_)
          have z : (tnS n b H st).1 = 0 := z
          unfold lfV
          rw [if_neg (by decide), if_pos rfl]
          exact ⟨t_1, v1 (qdE z).1, v2 z, t_0⟩
        · rw [qan, er, eb] at yb
          rw [qan, er, ep] at yp
          omega
      refine qa0v (fun rb eb => ⟨fun yb => two (Or.inl (by rw [qan, er, eb] at yb; exact yb)), fun nb => qaLM (fun rp ep => ⟨fun np => ?_, fun yp => two (Or.inr (by rw [qan, er, ep] at yp; exact yp))⟩)⟩)
      refine qa0N (fun ra ea => ⟨fun na => ?_, fun ya => ?_⟩)
      · rw [qan, er, ed] at n1
        rw [qan, er, el] at n2
        rw [qan, er, eb] at nb
        rw [qan, er, ep] at np
        rw [qan, er, ea] at na
        have es : quq n b H F (β := Empty) none st = ((1, sk n b st.2.2, 0), []) := by
          unfold quq
          rw [if_neg na, if_neg (by omega)]
        rw [es] at hq
        refine qKu (s := sk n b st.2.2) c1 (fun _ => ex) (by decide) (fun bd2 bk2 c2 => qt9 hl hn6 hb c2 (by decide) (fun x3 bd3 bk3 c3 => ?_))
        rw [t_1, q8e h0, qGz (by show ¬ (1 : Int) = 0; decide)] at c3
        exact hq _ _ _ _ _ _ c3 (fun d => absurd d (by show ¬ (1 : Int) = 0; decide))
      · rw [qan, er, ea] at ya
        have es : quq n b H F (β := Empty) none st = ((3, sk n b st.2.2, 0), []) := by
          unfold quq; rw [if_pos ya]; rfl
        rw [es] at hq
        have n3 : ¬ ((3, sk n b st.2.2, 0) : sT).1 = 0 := by show ¬ (3 : Int) = 0; decide
        refine qaZ5 (s := sk n b st.2.2) c1 h0 ex (by rw [eo]; rfl) (fun bd2 bk2 op2 c2 => qnZ hl hn6 hb c2 (by decide) (by decide) (fun r27 x24 x25 x26 c3 _ => qt9 hl hn6 hb c3 (by decide) (fun x28 x29 x30 c4 => ?_)))
        rw [qaBJ n3] at c3 c4
        rw [qGz n3] at c4
        refine qaSB (i := i) c4 en (fun z => absurd z n3) (fun _ => ⟨1, ?_⟩) (fun z => absurd z n3)
        refine ⟨fun _ => ⟨fun _ => ?_, fun d => absurd rfl d⟩, fun zb => absurd (qbe5 c4 zb) n3⟩
        unfold qo1
        refine qt9 hl hn6 hb c4 (by decide) (fun x80 x81 x82 c5 x83 e83 => ?_)
        rw [qGz n3] at c5
        refine qnB c5 (fun z => absurd z n3) (fun _ => ⟨fun _ => qt9 hl hn6 hb c5 (by decide) (fun x59 x60 x61 c6 => ?_), fun d => absurd rfl d⟩)
        rw [qGz n3] at c6
        exact hq _ _ _ _ _ _ c6 (fun d => absurd d n3)
    · rw [qan, er, el] at e2
      refine qWt hl hn6 hb c1 h0 ex (fun x1 d0 => qnZ hl hn6 hb d0 (by decide) (by rw [eHm]; omega) (fun r1 x2 bd1 bk1 d1 v1 => qnZ hl hn6 hb d1 (by decide) (by rw [eFm]; omega) (fun r2 x3 bd2 bk2 d2 v2 => ?_)))
      rw [t_0, eHm] at d1 v1
      rw [t_0, eHm, eFm] at d2 v2
      refine fin 398384 0 r1 r2 0 x3 bd2 bk2 e2 (Or.inl rfl) d2 (fun z => ?_)
      have z : (tfS n b H F st).1 = 0 := z
      unfold lfV
      rw [if_pos rfl]
      exact ⟨t_0, v1 (qdE z).1, v2 z, t_0⟩
  · rw [qan, er, ed] at e1
    refine qWt hl hn6 hb c1 h0 ex (fun x1 d0 => fin 4153 3 0 0 0 x1 bd bk e1 (Or.inr (Or.inr (Or.inr rfl))) d0 (fun _ => ?_))
    unfold lfV
    rw [if_neg (by decide), if_neg (by decide), if_neg (by decide)]
    exact ⟨t_3, t_0, t_0, t_0⟩
/-- the inner loop of the reference, at a depth -/
def MBk (n : Nat) (b : Nat → Int) (len : Int32) (f : NI) (vh vf : Int32) {β : Type} (RB : NI → β → Nat → Nat → Prop) (o : Nat) (g : sT → sT × β) (RS : mW) : Prop := ∀ (Q : sQw) (st : sT) (l3 op a bd bk : Int32) (ns : NI) (nn : Int32) (i : Nat), mS n b st a bd bk → st.1 = 0 → st.2.2 ≤ n → op.toInt = (o : Int) → nn.toInt = ((4 * i : Nat) : Int) → 3 * i ≤ st.2.2 →
  (∀ (a bd bk op : Int32) (ns' : NI) (nn : Int32), mS n b (g st).1 a bd bk → ((g st).1.1 = 0 → op.toInt = (o : Int) ∧ st.1 = 0 ∧ (∀ q : Nat, q < 4 * i → ns' q = ns q) ∧ ∃ j : Nat, nn.toInt = ((4 * j : Nat) : Int) ∧ RB ns' (g st).2 i j) → qkS RS len vf vh f Q a bd bk op ns' nn l3) → qpB RS len vf vh f Q 151 a bd bk op ns nn l3
theorem qaLs {β : Type} {eB : β → Nat} {RB : NI → β → Nat → Nat → Prop} {g : sT → sT × β} {RS : mW} {o : Nat} (hl : len.toInt = n) (hn : n ≤ 150) (hb : tB n f b) (eH : vh.toInt = H) (hH0 : 0 ≤ H) (h6 : H ≤ 6) (eF : vf.toInt = F) (hF0 : 0 ≤ F) (h8 : F ≤ 8) (ho : o < 6) {eR : β → Nat} (hC : okR eR RB) (hG : MBk n b len f vh vf RB (o + 1) g RS ∧ gdB n eB g ∧ True) : MSt n b len f vh vf RB o (quq n b H F (some g)) (qpc RS) := by
  intro Q st a bd bk op ns nn i hm h0 hp eo en hi hq
  have hn6 : n ≤ 600 := by omega
  have eHm : (vh - 1).toInt = H - 1 := by rw [qqj (by omega), eH]
  have eFm : (vf - 1).toInt = F - 1 := by rw [qqj (by omega), eF]
  -- a leaf: four numbers, and the sign
  have fin : ∀ (w : Int) (p1 p2 p3 p4 a bd bk : Int32), pw n b (sk n b st.2.2) = w → isLf w → mS n b (lfS n b H F w st) a bd bk → ((lfS n b H F w st).1 = 0 → p1.toInt = (lfV n b H w st).1 ∧ p2.toInt = (lfV n b H w st).2.1 ∧ p3.toInt = (lfV n b H w st).2.2.1 ∧ p4.toInt = (lfV n b H w st).2.2.2) → qm1 bd ns nn p1 p2 p3 p4 (fun f88 x89 => qnO RS len vf vh f Q a bd bk op f88 x89) := fun w p1 p2 p3 p4 a bd bk hw hlw c2 hv => by
    have hw' := hw
    unfold isLf at hlw
    have es : quq n b H F (some g) st = (gS n b 59 (lfS n b H F w st), [Sum.inl (lfV n b H w st)]) := by
      unfold quq
      rw [hw, if_neg (by omega), if_pos hlw]
    rw [es] at hq
    refine qaSB (i := i) c2 en (fun z => ?_) (fun z => qt9 hl hn6 hb c2 (by decide) (fun x bd2 bk2 c3 => ?_)) (fun z nn2 e2 => qt9 hl hn6 hb c2 (by decide) (fun x bd2 bk2 c3 => ?_))
    · have hon := qa0P (n := n) (b := b) (H := H) (F := F) (st := st) hw hlw z
      omega
    · rw [t_59] at c3
      exact hq _ _ _ _ _ _ c3 (fun d => absurd (qlb d) z)
    · rw [t_59] at c3
      obtain ⟨v1, v2, v3, v4⟩ := hv z
      exact hq _ _ _ _ _ _ c3 (fun _ => ⟨eo, fun q hq => fo_o hq, i + 1, e2, ⟨by rw [fo_0]; exact v1, by rw [fo_1]; exact v2, by rw [fo_2]; exact v3, by rw [fo_3]; exact v4⟩, rfl⟩)
  refine q1S hl hn6 hb hm h0 (fun r x c1 ex er => qbhs (fun rd ed => ⟨fun n1 => ?_, fun e1 => ?_⟩))
  · refine qa7f (fun rl el => ⟨fun n2 => ?_, fun e2 => ?_⟩)
    · have two : (pw n b (sk n b st.2.2) = 2552 ∨ pw n b (sk n b st.2.2) = 16441) → qwg RS len vf vh f Q x bd bk op ns nn r := fun hw => by
        refine qWt hl hn6 hb c1 h0 ex (fun x1 d0 => qnZ hl hn6 hb d0 (by decide) (by rw [eHm]; omega) (fun r1 x2 bd1 bk1 d1 v1 => qnZ hl hn6 hb d1 (by decide) (by rw [eHm]; omega) (fun r2 x3 bd2 bk2 d2 v2 => qa0v (fun rb eb => ?_))))
        rw [t_0, eHm] at d1 v1 d2 v2
        refine ⟨fun nb => qaLM (fun rp ep => ⟨fun np => ?_, fun _ => ?_⟩), fun yb => qaLM (fun rp ep => ⟨fun _ => ?_, fun yp => ?_⟩)⟩
        · rw [qan, er, eb] at nb
          rw [qan, er, ep] at np
          exact absurd hw (by omega)
        · refine qnZ hl hn6 hb d2 (by decide) (by decide) (fun r3 x4 bd3 bk3 d3 v3 => ?_)
          rw [t_1, qnP] at d3 v3
          rw [qan, er, eb] at nb
          refine fin 16441 2 r1 r2 r3 x4 bd3 bk3 (by omega) (Or.inr (Or.inr (Or.inl rfl))) d3 (fun z => ?_)
          have z : (nS n b 1 99 (tnS n b H st)).1 = 0 := z
          have z2 := (qdE z).1
          unfold lfV
          rw [if_neg (by decide), if_neg (by decide), if_pos rfl]
          exact ⟨t_2, v1 (qdE z2).1, v2 z2, v3 z⟩
        · rw [qan, er, eb] at yb
          refine fin 2552 1 r1 r2 0 x3 bd2 bk2 yb (Or.inr (Or.inl rfl)) d2 (fun z => ?_)
          have z : (tnS n b H st).1 = 0 := z
          unfold lfV
          rw [if_neg (by decide), if_pos rfl]
          exact ⟨t_1, v1 (qdE z).1, v2 z, t_0⟩
        · rw [qan, er, eb] at yb
          rw [qan, er, ep] at yp
          omega
      refine qa0v (fun rb eb => ⟨fun yb => two (Or.inl (by rw [qan, er, eb] at yb; exact yb)), fun nb => qaLM (fun rp ep => ⟨fun np => ?_, fun yp => two (Or.inr (by rw [qan, er, ep] at yp; exact yp))⟩)⟩)
      refine qa0N (fun ra ea => ⟨fun na => ?_, fun ya => ?_⟩)
      · rw [qan, er, ed] at n1
        rw [qan, er, el] at n2
        rw [qan, er, eb] at nb
        rw [qan, er, ep] at np
        rw [qan, er, ea] at na
        have es : quq n b H F (some g) st = ((1, sk n b st.2.2, 0), []) := by
          unfold quq
          rw [if_neg na, if_neg (by omega)]
        rw [es] at hq
        refine qKu (s := sk n b st.2.2) c1 (fun _ => ex) (by decide) (fun bd2 bk2 c2 => qt9 hl hn6 hb c2 (by decide) (fun x3 bd3 bk3 c3 => ?_))
        rw [t_1, q8e h0, qGz (by show ¬ (1 : Int) = 0; decide)] at c3
        exact hq _ _ _ _ _ _ c3 (fun d => absurd d (by show ¬ (1 : Int) = 0; decide))
      · rw [qan, er, ea] at ya
        obtain ⟨hg1, hg2, hg3⟩ := hG
        have es : quq n b H F (some g) st = (gS n b 59 (gS n b 93 (g (gS n b 91 (nS n b 0 40 (wE n b st)))).1), [Sum.inr (nV n b (wE n b st), (g (gS n b 91 (nS n b 0 40 (wE n b st)))).2)]) := by
          unfold quq; rw [if_pos ya]; rfl
        rw [es] at hq
        obtain ⟨s2, e2⟩ : ∃ s : sT, s = gS n b 91 (nS n b 0 40 (wE n b st)) := ⟨_, rfl⟩
        rw [← e2] at hq
        have hk := (qa0Q (n := n) (b := b)).2 (sk n b st.2.2) (by have := (quu (n := n) (b := b) _ st.2.2 rfl).2.1; omega)
        have ewE : wE n b st = (0, 0, sk n b st.2.2 + 5) := by
          unfold wE
          rw [hk.2 (hk.1.mp ya)]
        have a0 := wE_3 (n := n) (b := b) (st := st) (by omega)
        have a05 : sk n b st.2.2 + 5 ≤ n := by have := a0.2; rw [ewE] at this; exact this
        refine qaYC (s := sk n b st.2.2) (J := 5) c1 h0 ex t_5 (by omega) eo (by omega) (fun at2 op2 c2 eo2 => ?_)
        rw [← ewE] at c2
        refine qnZ hl hn6 hb c2 (by decide) (by decide) (fun r27 x24 x25 x26 c3 v3 => qt9 hl hn6 hb c3 (by decide) (fun x28 x29 x30 c4 => ?_))
        rw [t_0, t_40] at c3 v3 c4
        rw [t_91, ← e2] at c4
        -- behind the block: its end, the sign
        have tail : ∀ (a bd bk op3 : Int32) (ns3 : NI) (nn3 : Int32), mS n b (g s2).1 a bd bk → ((g s2).1.1 = 0 → op3.toInt = ((o + 1 : Nat) : Int) ∧ s2.1 = 0 ∧ (∀ q : Nat, q < 4 * (i + 1) → ns3 q = four ns i 4 r27 0 0 q) ∧ ∃ j : Nat, nn3.toInt = ((4 * j : Nat) : Int) ∧ RB ns3 (g s2).2 (i + 1) j) → qkS RS len vf vh f Q a bd bk op3 ns3 nn3 nn := fun a bd bk op3 ns3 nn3 c5 h5 => by
          refine qt9 hl hn6 hb c5 (by decide) (fun x80 x81 x82 c6 x83 e83 => ?_)
          rw [t_93] at c6
          refine qnB c6 (fun z => ⟨fun d => absurd d (by first | decide | simp), fun _ x86 e86 => ?_⟩) (fun z => ⟨fun _ => qt9 hl hn6 hb c6 (by decide) (fun x59 x60 x61 c7 => ?_), fun d => absurd rfl d⟩)
          · obtain ⟨eo3, z2, ag3, j, ej, hRB⟩ := h5 (qlb z)
            have z2' := z2
            rw [e2] at z2'
            have a2 := qayO (by decide) z2'
            have a1 := qana (qlb z2')
            rw [← e2] at a2
            have k86 : x86.toInt = ((4 * i + 2 : Nat) : Int) := by rw [e86, qap (by rw [t_2]; omega) (by rw [t_2]; omega), t_2, en]; omega
            refine ⟨qa6 (by omega) (by omega), fun f87 e87 => qt9 hl hn6 hb c6 (by decide) (fun x59 x60 x61 c7 => ?_)⟩
            rw [t_59] at c7
            rw [qas k86] at e87
            have u : ∀ q : Nat, q ≠ 4 * i + 2 → f87 q = ns3 q := fun q hq => by rw [e87, pk_un hq]
            obtain ⟨q1, q2⟩ := hC ns3 f87 (g s2).2 (i + 1) j hRB
            refine hq _ _ _ _ _ _ c7 (fun _ => ⟨by rw [e83, qqj (by omega), eo3]; omega, fun q hq => by rw [u q (by omega), ag3 q (by omega), fo_o hq], j, ej, j, ⟨?_, ?_, ?_⟩, q2 (fun q h1 h2 => (u q (by omega)).symm), rfl⟩)
            · rw [u (4 * i) (by omega), ag3 (4 * i) (by omega), fo_0]; exact t_4
            · rw [u (4 * i + 1) (by omega), ag3 (4 * i + 1) (by omega), fo_1]; exact v3 (qlb z2')
            · rw [e87, pk_us]; exact ej
          · rw [t_59, qGz z] at c7
            exact hq _ _ _ _ _ _ (by rw [qGz z]; exact c7) (fun d => absurd (by rw [qGz z] at d; exact d) z)
        refine qaSB (i := i) c4 en (fun z => ?_) (fun z => ⟨1, ?_⟩) (fun z nn2 en2 => ⟨151, ?_⟩)
        · rw [e2] at z
          have a2 := qayO (by decide) z
          have a1 := qana (qlb z)
          omega
        · refine qnB c4 (fun d => absurd d z) (fun _ => ⟨fun _ => tail _ _ _ _ _ _ (by rw [(hg2 s2).1 z]; exact c4) (fun d => absurd (by rw [(hg2 s2).1 z] at d; exact d) z), fun d => absurd rfl d⟩)
        · have z' := z
          rw [e2] at z'
          have a2 := qayO (by decide) z'
          have a1 := qana (qlb z')
          rw [← e2] at a2
          exact hg1 Q s2 nn op2 x28 x29 x30 (four ns i 4 r27 0 0) nn2 (i + 1) c4 z a2.2 (by rw [eo2]; omega) en2 (by omega) tail
    · rw [qan, er, el] at e2
      refine qWt hl hn6 hb c1 h0 ex (fun x1 d0 => qnZ hl hn6 hb d0 (by decide) (by rw [eHm]; omega) (fun r1 x2 bd1 bk1 d1 v1 => qnZ hl hn6 hb d1 (by decide) (by rw [eFm]; omega) (fun r2 x3 bd2 bk2 d2 v2 => ?_)))
      rw [t_0, eHm] at d1 v1
      rw [t_0, eHm, eFm] at d2 v2
      refine fin 398384 0 r1 r2 0 x3 bd2 bk2 e2 (Or.inl rfl) d2 (fun z => ?_)
      have z : (tfS n b H F st).1 = 0 := z
      unfold lfV
      rw [if_pos rfl]
      exact ⟨t_0, v1 (qdE z).1, v2 z, t_0⟩
  · rw [qan, er, ed] at e1
    refine qWt hl hn6 hb c1 h0 ex (fun x1 d0 => fin 4153 3 0 0 0 x1 bd bk e1 (Or.inr (Or.inr (Or.inr rfl))) d0 (fun _ => ?_))
    unfold lfV
    rw [if_neg (by decide), if_neg (by decide), if_neg (by decide)]
    exact ⟨t_3, t_0, t_0, t_0⟩
theorem m_bl {β : Type} {eB eR : β → Nat} {RB : NI → β → Nat → Nat → Prop} {B : Option (sT → sT × β)} {RS : mW} {o : Nat} (hl : len.toInt = n) (hn : n ≤ 150) (hb : tB n f b) (hC : okR eR RB) (hle : ∀ B : β, eR B ≤ eB B) (hB : ∀ g : sT → sT × β, B = some g → gdB n eB g) (hS : MSt n b len f vh vf RB o (quq n b H F B) RS) : MBk n b len f vh vf (sgR RB) o (fun st => blG n b H F B 150 (st, [])) RS := by
  intro Q st0 l3 op a bd bk ns0 nn i0 hm0 h00 hp0 eo0 en0 hi0 hq
  have hn6 : n ≤ 600 := by omega
  have hq : ∀ (a bd bk op : Int32) (ns' : NI) (nn : Int32), mS n b (blG n b H F B 150 (st0, [])).1 a bd bk → ((blG n b H F B 150 (st0, [])).1.1 = 0 → op.toInt = (o : Int) ∧ st0.1 = 0 ∧ (∀ q : Nat, q < 4 * i0 → ns' q = ns0 q) ∧ ∃ j : Nat, nn.toInt = ((4 * j : Nat) : Int) ∧ sgR RB ns' (blG n b H F B 150 (st0, [])).2 i0 j) → qkS RS len vf vh f Q a bd bk op ns' nn l3 := hq
  have go : ∀ (kk : Nat) (x : sT × TG β) (a bd bk op : Int32) (ns : NI) (nn : Int32) (i : Nat), blG n b H F B kk x = blG n b H F B 150 (st0, []) → mS n b x.1 a bd bk → (x.1.1 = 0 → x.1.2.2 ≤ n ∧ n < x.1.2.2 + 4 * kk ∧ op.toInt = (o : Int) ∧ nn.toInt = ((4 * i : Nat) : Int) ∧ sgR RB ns x.2 i0 i ∧ (∀ q : Nat, q < 4 * i0 → ns q = ns0 q) ∧ 3 * i ≤ x.1.2.2) → qpB RS len vf vh f Q (kk + 1) a bd bk op ns nn l3 := by
    intro kk
    induction kk with
    | zero =>
      intro x a bd bk op ns nn i hR hm hx
      have hR : x = blG n b H F B 150 (st0, []) := hR
      refine qnB hm (fun z => ?_) (fun z => ⟨fun _ => hq _ _ _ _ _ _ (by rw [← hR]; exact hm) (fun d => absurd (by rw [← hR] at d; exact d) z), fun d => absurd rfl d⟩)
      obtain ⟨p1, p2, -⟩ := hx z
      exact absurd p2 (by omega)
    | succ kk ih =>
      intro x a bd bk op ns nn i hR hm hx
      have hR : (if x.1.1 ≠ 0 ∨ at0 n b (sk n b x.1.2.2) = 93 then x else blG n b H F B kk ((quq n b H F B x.1).1, x.2 ++ (quq n b H F B x.1).2)) = blG n b H F B 150 (st0, []) := hR
      refine qnB hm (fun z => ⟨fun d => absurd d (by first | decide | simp), fun _ => qFe hl hn6 hb hm (fun r x2 c2 hr => ?_)⟩) (fun z => ?_)
      · obtain ⟨p1, p2, p3, p4, p5, p6, p7⟩ := hx z
        obtain ⟨ex2, cr⟩ := hr z
        unfold cR at cr
        refine ⟨fun e => ?_, fun e => ?_⟩
        · rw [qan, t_93] at e
          have w : at0 n b (sk n b x.1.2.2) = 93 := by omega
          rw [if_pos (Or.inr w)] at hR
          exact hq _ _ _ _ _ _ (by rw [← hR]; exact c2) (fun _ => ⟨p3, h00, p6, i, p4, by rw [← hR]; exact p5⟩)
        · rw [qan, t_93] at e
          have w : ¬ at0 n b (sk n b x.1.2.2) = 93 := fun d => by omega
          rw [if_neg (fun d => d.elim (fun y => y z) w)] at hR
          refine hS _ x.1 x2 bd bk op ns nn i c2 z p1 p3 p4 p7 (fun a3 bd3 bk3 op3 ns3 nn3 c3 h3 => ?_)
          refine ih _ a3 bd3 bk3 op3 ns3 nn3 (i + erL eR (quq n b H F B x.1).2) hR c3 (fun zs => ?_)
          obtain ⟨q3, q6, j, ej, q5⟩ := h3 zs
          have on := qaTy (eB := eB) (B := B) hB z p1 zs
          obtain ⟨en, -⟩ := qaxg hC ns3 ns3 _ i j q5
          obtain ⟨ex, ey⟩ := qaxg hC ns ns3 _ i0 i p5
          have le := qbcs (eR := eR) (eB := eB) hle (quq n b H F B x.1).2
          refine ⟨on.2.1, ?_, q3, by rw [← en]; exact ej, by rw [← en]; exact qbcZ q5 _ _ (ey (fun q _ h2 => (q6 q h2).symm)), fun q hq => by rw [q6 q (by omega)]; exact p6 q hq, ?_⟩
          · show n < (quq n b H F B x.1).1.2.2 + 4 * kk
            omega
          · show 3 * (i + erL eR (quq n b H F B x.1).2) ≤ (quq n b H F B x.1).1.2.2
            omega
      · rw [if_pos (Or.inl z)] at hR
        exact ⟨fun _ => hq _ _ _ _ _ _ (by rw [← hR]; exact hm) (fun d => absurd (by rw [← hR] at d; exact d) z), fun d => absurd rfl d⟩
  exact go 150 (st0, []) a bd bk op ns0 nn i0 rfl hm0 (fun _ => ⟨hp0, by show n < st0.2.2 + 4 * 150; omega, eo0, en0, rfl, fun _ _ => rfl, hi0⟩)
theorem qbmj (hl : len.toInt = n) (hn : n ≤ 150) (hb : tB n f b) (eH : vh.toInt = H) (hH0 : 0 ≤ H) (h6 : H ≤ 6) (eF : vf.toInt = F) (hF0 : 0 ≤ F) (h8 : F ≤ 8) : MSt n b len f vh vf (rN 0) 5 (quq n b H F (β := TT 0) (some (blN n b H F 0))) qx1 :=
  qaLs (β := TT 0) (eB := enN 0) (eR := erN 0) hl hn hb eH hH0 h6 eF hF0 h8 (by omega) (qT2 0) ⟨m_bl (β := Empty) (eB := fun _ => 0) (eR := fun _ => 0) (B := none) (o := 6) hl hn hb (fun A A' B i j h => h.elim) (fun _ => Nat.le_refl _) (fun g hg => by cases hg) (qbg7 hl hn hb eH hH0 h6 eF hF0 h8), qNz 0, trivial⟩
theorem qbl8 (hl : len.toInt = n) (hn : n ≤ 150) (hb : tB n f b) (eH : vh.toInt = H) (hH0 : 0 ≤ H) (h6 : H ≤ 6) (eF : vf.toInt = F) (hF0 : 0 ≤ F) (h8 : F ≤ 8) : MSt n b len f vh vf (rN 1) 4 (quq n b H F (β := TT 1) (some (blN n b H F 1))) qx0 :=
  qaLs (β := TT 1) (eB := enN 1) (eR := erN 1) hl hn hb eH hH0 h6 eF hF0 h8 (by omega) (qT2 1) ⟨m_bl (β := TT 0) (eB := enN 0) (eR := erN 0) (B := some (blN n b H F 0)) (o := 5) hl hn hb (qT2 0) (qaLJ 0) (fun g hg => by rw [← Option.some.inj hg]; exact qNz 0) (qbmj hl hn hb eH hH0 h6 eF hF0 h8), qNz 1, trivial⟩
theorem qbmQ (hl : len.toInt = n) (hn : n ≤ 150) (hb : tB n f b) (eH : vh.toInt = H) (hH0 : 0 ≤ H) (h6 : H ≤ 6) (eF : vf.toInt = F) (hF0 : 0 ≤ F) (h8 : F ≤ 8) : MSt n b len f vh vf (rN 2) 3 (quq n b H F (β := TT 2) (some (blN n b H F 2))) qx6 :=
  qaLs (β := TT 2) (eB := enN 2) (eR := erN 2) hl hn hb eH hH0 h6 eF hF0 h8 (by omega) (qT2 2) ⟨m_bl (β := TT 1) (eB := enN 1) (eR := erN 1) (B := some (blN n b H F 1)) (o := 4) hl hn hb (qT2 1) (qaLJ 1) (fun g hg => by rw [← Option.some.inj hg]; exact qNz 1) (qbl8 hl hn hb eH hH0 h6 eF hF0 h8), qNz 2, trivial⟩
theorem qbmS (hl : len.toInt = n) (hn : n ≤ 150) (hb : tB n f b) (eH : vh.toInt = H) (hH0 : 0 ≤ H) (h6 : H ≤ 6) (eF : vf.toInt = F) (hF0 : 0 ≤ F) (h8 : F ≤ 8) : MSt n b len f vh vf (rN 3) 2 (quq n b H F (β := TT 3) (some (blN n b H F 3))) qxT :=
  qaLs (β := TT 3) (eB := enN 3) (eR := erN 3) hl hn hb eH hH0 h6 eF hF0 h8 (by omega) (qT2 3) ⟨m_bl (β := TT 2) (eB := enN 2) (eR := erN 2) (B := some (blN n b H F 2)) (o := 3) hl hn hb (qT2 2) (qaLJ 2) (fun g hg => by rw [← Option.some.inj hg]; exact qNz 2) (qbmQ hl hn hb eH hH0 h6 eF hF0 h8), qNz 3, trivial⟩
theorem qblU (hl : len.toInt = n) (hn : n ≤ 150) (hb : tB n f b) (eH : vh.toInt = H) (hH0 : 0 ≤ H) (h6 : H ≤ 6) (eF : vf.toInt = F) (hF0 : 0 ≤ F) (h8 : F ≤ 8) : MSt n b len f vh vf (rN 4) 1 (quq n b H F (β := TT 4) (some (blN n b H F 4))) qxV :=
  qaLs (β := TT 4) (eB := enN 4) (eR := erN 4) hl hn hb eH hH0 h6 eF hF0 h8 (by omega) (qT2 4) ⟨m_bl (β := TT 3) (eB := enN 3) (eR := erN 3) (B := some (blN n b H F 3)) (o := 2) hl hn hb (qT2 3) (qaLJ 3) (fun g hg => by rw [← Option.some.inj hg]; exact qNz 3) (qbmS hl hn hb eH hH0 h6 eF hF0 h8), qNz 4, trivial⟩
theorem qbmV (hl : len.toInt = n) (hn : n ≤ 150) (hb : tB n f b) (eH : vh.toInt = H) (hH0 : 0 ≤ H) (h6 : H ≤ 6) (eF : vf.toInt = F) (hF0 : 0 ≤ F) (h8 : F ≤ 8) : MSt n b len f vh vf (rN 5) 0 (quq n b H F (β := TT 5) (some (blN n b H F 5))) qx4 :=
  qaLs (β := TT 5) (eB := enN 5) (eR := erN 5) hl hn hb eH hH0 h6 eF hF0 h8 (by omega) (qT2 5) ⟨m_bl (β := TT 4) (eB := enN 4) (eR := erN 4) (B := some (blN n b H F 4)) (o := 1) hl hn hb (qT2 4) (qaLJ 4) (fun g hg => by rw [← Option.some.inj hg]; exact qNz 4) (qblU hl hn hb eH hH0 h6 eF hF0 h8), qNz 5, trivial⟩
end WM
end
section
/-! the doing of a work: what it comes to -/
abbrev rSt := Nat × NI × Int32 × Int32
def itN (g : rSt → rSt) : Nat → rSt → rSt
  | 0, σ => σ
  | t + 1, σ => if 200 ≤ σ.1 then σ else itN g t (g σ)
section RN
variable (F : Nat → Int) (cs : List (Int × Int)) (sfB : Nat → Bool) (hr : NI) (nh : Nat)
def lfR (v : wLf) (σ : rSt) : rSt := if alB F cs nh v σ.2.1 = true then (σ.1 + 1, doF sfB hr nh v σ.2.1, σ.2.2.1 + 1, σ.2.2.2) else (σ.1 + 1, σ.2.1, σ.2.2.1, σ.2.2.2 + 1)
def ndR {β : Type} (rB : β → rSt → rSt) (x : wLf ⊕ (Int × β)) (σ : rSt) : rSt := match x with
  | Sum.inl v => lfR F cs sfB hr nh v σ
  | Sum.inr v => itN (rB v.2) v.1.toNat (σ.1 + 1, σ.2)
def rnL {β : Type} (rB : β → rSt → rSt) : TG β → rSt → rSt
  | [], σ => σ
  | x :: L, σ => if 200 ≤ σ.1 then σ else rnL rB L (ndR F cs sfB hr nh rB x σ)
def ruN : (m : Nat) → TT m → rSt → rSt
  | 0 => rnL F cs sfB hr nh (β := Empty) (fun _ σ => σ)
  | m + 1 => rnL F cs sfB hr nh (β := TT m) (ruN m)
end RN
/-- texts whose numbers are good -/
def wfG {β : Type} (NH NF : Nat) (wB : β → Prop) : TG β → Prop
  | [] => True
  | Sum.inl v :: L => wfL NH NF v ∧ wfG NH NF wB L
  | Sum.inr v :: L => (0 ≤ v.1 ∧ v.1 ≤ 40 ∧ wB v.2) ∧ wfG NH NF wB L
def wfN (NH NF : Nat) : (m : Nat) → TT m → Prop
  | 0 => wfG NH NF (β := Empty) (fun _ => False)
  | m + 1 => wfG NH NF (β := TT m) (wfN NH NF m)
section WG
variable {F : Nat → Int} {cs : List (Int × Int)} {sfB : Nat → Bool} {hr : Nat → Int32} {NH NF : Nat}
theorem q8z {β : Type} {rB : β → rSt → rSt} {L : TG β} {σ : rSt} (h : 200 ≤ σ.1) : rnL F cs sfB hr NH rB L σ = σ := by
  cases L with
  | nil => rfl
  | cons x L =>
    show (if 200 ≤ σ.1 then σ else _) = σ
    rw [if_pos h]
theorem qaOe {g : rSt → rSt} {t : Nat} {σ : rSt} (h : 200 ≤ σ.1) : itN g t σ = σ := by
  cases t with
  | zero => rfl
  | succ t =>
    show (if 200 ≤ σ.1 then σ else _) = σ
    rw [if_pos h]
theorem qaZi {β : Type} {rB : β → rSt → rSt} {x : wLf ⊕ (Int × β)} {L : TG β} {σ : rSt} (h : ¬ 200 ≤ σ.1) : rnL F cs sfB hr NH rB (x :: L) σ = rnL F cs sfB hr NH rB L (ndR F cs sfB hr NH rB x σ) := by
  show (if 200 ≤ σ.1 then σ else _) = _
  rw [if_neg h]
theorem it_s {g : rSt → rSt} {t : Nat} {σ : rSt} (h : ¬ 200 ≤ σ.1) : itN g (t + 1) σ = itN g t (g σ) := by
  show (if 200 ≤ σ.1 then σ else _) = _
  rw [if_neg h]
theorem qbdD {β : Type} {wB : β → Prop} {L2 : TG β} (h2 : wfG NH NF wB L2) : ∀ L1 : TG β, wfG NH NF wB L1 → wfG NH NF wB (L1 ++ L2) := by
  intro L1
  induction L1 with
  | nil => intro _; exact h2
  | cons x L ih =>
    intro h
    cases x with
    | inl v => exact ⟨h.1, ih h.2⟩
    | inr v => exact ⟨h.1, ih h.2⟩
end WG
section WW
variable {n : Nat} {b : Nat → Int} {NH NF : Nat} {st : sT}
theorem qa6f {β : Type} {wB : β → Prop} {eB : β → Nat} {B : Option (sT → sT × β)} (hB : ∀ g : sT → sT × β, B = some g → gdB n eB g ∧ ∀ st : sT, st.1 = 0 → st.2.2 ≤ n → (g st).1.1 = 0 → wB (g st).2) (h0 : st.1 = 0) (hp : st.2.2 ≤ n) (h : (quq n b NH NF B st).1.1 = 0) : wfG NH NF wB (quq n b NH NF B st).2 := by
  unfold quq at h ⊢
  by_cases c1 : pw n b (sk n b st.2.2) = 1279278
  · rw [if_pos c1] at h ⊢
    cases B with
    | none => exact absurd h (by show ¬ (3 : Int) = 0; decide)
    | some g =>
      have h : (gS n b 59 (gS n b 93 (g (gS n b 91 (nS n b 0 40 (wE n b st)))).1)).1 = 0 := h
      have h2 := qlb (qlb h)
      obtain ⟨hg1, hg2⟩ := hB g rfl
      have h1 : (gS n b 91 (nS n b 0 40 (wE n b st))).1 = 0 := by
        by_cases z : (gS n b 91 (nS n b 0 40 (wE n b st))).1 = 0
        · exact z
        · rw [(hg1 _).1 z] at h2; exact h2
      have a1 := qayO (by decide) h1
      have v := qdE (qlb h1)
      exact ⟨⟨v.2.1, v.2.2, hg2 _ h1 a1.2 h2⟩, trivial⟩
  · rw [if_neg c1] at h ⊢
    by_cases c2 : pw n b (sk n b st.2.2) = 398384 ∨ pw n b (sk n b st.2.2) = 2552 ∨ pw n b (sk n b st.2.2) = 16441 ∨ pw n b (sk n b st.2.2) = 4153
    · rw [if_pos c2] at h ⊢
      have h : (gS n b 59 (lfS n b NH NF (pw n b (sk n b st.2.2)) st)).1 = 0 := h
      have hz := qlb h
      refine ⟨?_, trivial⟩
      generalize pw n b (sk n b st.2.2) = w at c2 hz
      unfold lfS at hz
      unfold lfV wfL
      by_cases d1 : w = 398384
      · rw [if_pos d1] at hz ⊢
        have v2 := qdE hz
        have v1 := qdE v2.1
        exact Or.inl ⟨rfl, v1.2.1, by have := v1.2.2; show nV n b (wE n b st) < NH; omega, v2.2.1, by have := v2.2.2; show nV n b (nS n b 0 ((NH : Int) - 1) (wE n b st)) < NF; omega⟩
      by_cases d2 : w = 2552
      · rw [if_neg d1, if_pos d2] at hz ⊢
        have v2 := qdE hz
        have v1 := qdE v2.1
        exact Or.inr (Or.inl ⟨rfl, v1.2.1, by have := v1.2.2; show nV n b (wE n b st) < NH; omega, v2.2.1, by have := v2.2.2; show nV n b (nS n b 0 ((NH : Int) - 1) (wE n b st)) < NH; omega⟩)
      by_cases d3 : w = 16441
      · rw [if_neg d1, if_neg d2, if_pos d3] at hz ⊢
        have v3 := qdE hz
        have v2 := qdE v3.1
        have v1 := qdE v2.1
        exact Or.inr (Or.inr (Or.inl ⟨rfl, v1.2.1, by have := v1.2.2; show nV n b (wE n b st) < NH; omega, v2.2.1, by have := v2.2.2; show nV n b (nS n b 0 ((NH : Int) - 1) (wE n b st)) < NH; omega, v3.2.1, v3.2.2⟩))
      · rw [if_neg d1, if_neg d2, if_neg d3]
        exact Or.inr (Or.inr (Or.inr rfl))
    · rw [if_neg c2] at h
      exact absurd h (by show ¬ (1 : Int) = 0; decide)
theorem qbiO {β : Type} {wB : β → Prop} {eB : β → Nat} {B : Option (sT → sT × β)} (hB : ∀ g : sT → sT × β, B = some g → gdB n eB g ∧ ∀ st : sT, st.1 = 0 → st.2.2 ≤ n → (g st).1.1 = 0 → wB (g st).2) : ∀ (k : Nat) (x : sT × TG β), x.1.1 = 0 → x.1.2.2 ≤ n → wfG NH NF wB x.2 → (blG n b NH NF B k x).1.1 = 0 → wfG NH NF wB (blG n b NH NF B k x).2 := by
  intro k
  induction k with
  | zero => intro x _ _ h _; exact h
  | succ k ih =>
    intro x h0 hp hw h
    by_cases c : at0 n b (sk n b x.1.2.2) = 93
    · have e : blG n b NH NF B (k + 1) x = x := by
        show (if x.1.1 ≠ 0 ∨ at0 n b (sk n b x.1.2.2) = 93 then x else _) = x
        rw [if_pos (Or.inr c)]
      rw [e]; exact hw
    · have e : blG n b NH NF B (k + 1) x = blG n b NH NF B k ((quq n b NH NF B x.1).1, x.2 ++ (quq n b NH NF B x.1).2) := by
        show (if x.1.1 ≠ 0 ∨ at0 n b (sk n b x.1.2.2) = 93 then x else _) = _
        rw [if_neg (fun d => d.elim (fun w => w h0) c)]
      rw [e] at h ⊢
      have hs : (quq n b NH NF B x.1).1.1 = 0 := by
        by_cases z : (quq n b NH NF B x.1).1.1 = 0
        · exact z
        · rw [(qa5t (fun g hg => (hB g hg).1) k ((quq n b NH NF B x.1).1, x.2 ++ (quq n b NH NF B x.1).2)).1 z] at h; exact h
      have g := qaTy (fun g hg => (hB g hg).1) h0 hp hs
      exact ih _ hs g.2.1 (qbdD (qa6f hB h0 hp hs) _ hw) h
theorem qbiz : ∀ (m : Nat) (st : sT), st.1 = 0 → st.2.2 ≤ n → (blN n b NH NF m st).1.1 = 0 → wfN NH NF m (blN n b NH NF m st).2 := by
  intro m
  induction m with
  | zero => intro st h0 hp h; exact qbiO (β := Empty) (eB := fun _ => 0) (wB := fun _ => False) (B := none) (fun g hg => by cases hg) 150 (st, []) h0 hp trivial h
  | succ m ih => intro st h0 hp h; exact qbiO (β := TT m) (eB := enN m) (wB := wfN NH NF m) (B := some (blN n b NH NF m)) (fun g hg => by rw [← Option.some.inj hg]; exact ⟨qNz m, ih⟩) 150 (st, []) h0 hp trivial h
theorem qbdU (h : (qxz n b NH NF).1.1 = 0) : wfG NH NF (wfN NH NF 5) (qxz n b NH NF).2 := by
  have go : ∀ (k : Nat) (x : sT × TG (TT 5)), x.1.1 = 0 → x.1.2.2 ≤ n → wfG NH NF (wfN NH NF 5) x.2 → (tpG n b NH NF (some (blN n b NH NF 5)) k x).1.1 = 0 → wfG NH NF (wfN NH NF 5) (tpG n b NH NF (some (blN n b NH NF 5)) k x).2 := by
    intro k
    induction k with
    | zero => intro x _ _ h _; exact h
    | succ k ih =>
      intro x h0 hp hw h
      by_cases c : sk n b x.1.2.2 < n
      · have e : tpG n b NH NF (some (blN n b NH NF 5)) (k + 1) x = tpG n b NH NF (some (blN n b NH NF 5)) k ((quq n b NH NF (some (blN n b NH NF 5)) x.1).1, x.2 ++ (quq n b NH NF (some (blN n b NH NF 5)) x.1).2) := by
          show (if x.1.1 ≠ 0 ∨ ¬ sk n b x.1.2.2 < n then x else _) = _
          rw [if_neg (fun d => d.elim (fun w => w h0) (fun w => w c))]
        rw [e] at h ⊢
        have hs : (quq n b NH NF (some (blN n b NH NF 5)) x.1).1.1 = 0 := by
          by_cases z : (quq n b NH NF (some (blN n b NH NF 5)) x.1).1.1 = 0
          · exact z
          · cases k with
            | zero => exact h
            | succ k =>
              have h : (if (quq n b NH NF (some (blN n b NH NF 5)) x.1).1.1 ≠ 0 ∨ _ then ((quq n b NH NF (some (blN n b NH NF 5)) x.1).1, x.2 ++ (quq n b NH NF (some (blN n b NH NF 5)) x.1).2) else _ : sT × TG (TT 5)).1.1 = 0 := h
              rw [if_pos (Or.inl z)] at h
              exact h
        have hBs : ∀ g : sT → sT × TT 5, some (blN n b NH NF 5) = some g → gdB n (enN 5) g ∧ ∀ st : sT, st.1 = 0 → st.2.2 ≤ n → (g st).1.1 = 0 → wfN NH NF 5 (g st).2 := fun g hg => by rw [← Option.some.inj hg]; exact ⟨qNz 5, qbiz 5⟩
        have g := qaTy (fun g hg => (hBs g hg).1) h0 hp hs
        exact ih _ hs g.2.1 (qbdD (qa6f hBs h0 hp hs) _ hw) h
      · have e : tpG n b NH NF (some (blN n b NH NF 5)) (k + 1) x = x := by
          show (if x.1.1 ≠ 0 ∨ ¬ sk n b x.1.2.2 < n then x else _) = x
          rw [if_pos (Or.inr c)]
        rw [e]; exact hw
  exact go 150 ((0, 0, 0), []) rfl (Nat.zero_le _) trivial h
end WW
end
