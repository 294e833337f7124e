/-! a day goes by: the class does likewise -/
theorem b8_orr {x y : Int32} {X Y : Nat} (hx : x = Int32.ofNat X) (hy : y = Int32.ofNat Y) (hX : X < 256) (hY : Y < 256) : x ||| y = Int32.ofNat (X ||| Y) := by
  have h2 : X ||| Y < 2 ^ 8 := Nat.or_lt_two_pow (by omega) (by omega)
  rw [hx, hy, t_eq]
  have ea : (Int32.ofNat X).toBitVec.toNat = X := by show X % 2 ^ 32 = X; exact Nat.mod_eq_of_lt (by omega)
  have eb : (Int32.ofNat Y).toBitVec.toNat = Y := by show Y % 2 ^ 32 = Y; exact Nat.mod_eq_of_lt (by omega)
  have e := t_ofn (x := Int32.ofNat X ||| Int32.ofNat Y) (by rw [t_orn, ea, eb]; omega)
  rw [e, t_orn, ea, eb, Int32.toInt_ofNat_of_lt (by omega)]
section RM
variable {NH NF : Nat} {r t : Nat → Int32} {h j : Nat}
theorem rM_same {r' t' : Nat → Int32} (hR : relM NH NF r t) (H6 : NH ≤ 6) (hc : ∀ j : Nat, j ≠ 3 → r' j = r j) (hm : ∀ j : Nat, (j < 24 ∨ 30 ≤ j) → t' j = t j) : relM NH NF r' t' := by
  obtain ⟨r1, r2, r3, r4, r5, ⟨r6, r7⟩, r8⟩ := hR
  refine ⟨?_, fun j hj => ?_, fun j hj => ?_, fun j hj => ?_, fun j hj => ?_, ⟨?_, ?_⟩, fun i k hi hk hn => ?_⟩
  · rw [hc 2 (by omega), r1]
    unfold caN
    rw [orN_ext (R := fun j => decide (t' j = -1)) NH (fun j hj => by rw [hm j (by omega)])]
  · rw [hm j (by omega), hc (4 + j) (by omega), hc (10 + j) (by omega), hc (16 + j) (by omega), hm (6 + j) (by omega), hm (12 + j) (by omega)]
    exact r2 j hj
  · rw [hc (4 + j) (by omega)]; exact r3 j hj
  · rw [hc (22 + j) (by omega), hm (18 + j) (by omega)]; exact r4 j hj
  · rw [hc (28 + j) (by omega), hm (30 + j) (by omega)]; exact r5 j hj
  · rw [hc 0 (by omega), hm 66 (by omega)]; exact r6
  · rw [hc 1 (by omega), hm 67 (by omega)]; exact r7
  · rw [hm (30 + (6 * i + k)) (by omega)]; exact r8 i k hi hk hn
/-- days and years -/
theorem rM_time {x y : Int32} (hR : relM NH NF r t) (H6 : NH ≤ 6) : relM NH NF (upd (upd r 0 x) 1 y) (upd (upd t 66 x) 67 y) := by
  obtain ⟨r1, r2, r3, r4, r5, ⟨r6, r7⟩, r8⟩ := hR
  have hc : ∀ j : Nat, 2 ≤ j → upd (upd r 0 x) 1 y j = r j := fun j hj => by rw [pk_un (by omega), pk_un (by omega)]
  have hm : ∀ j : Nat, j < 66 → upd (upd t 66 x) 67 y j = t j := fun j hj => by rw [pk_un (by omega), pk_un (by omega)]
  refine ⟨?_, fun j hj => ?_, fun j hj => ?_, fun j hj => ?_, fun j hj => ?_, ⟨?_, ?_⟩, fun i k hi hk hn => ?_⟩
  · rw [hc 2 (by omega), r1]
    unfold caN
    rw [orN_ext (R := fun j => decide (upd (upd t 66 x) 67 y j = -1)) NH (fun j hj => by rw [hm j (by omega)])]
  · rw [hm j (by omega), hc (4 + j) (by omega), hc (10 + j) (by omega), hc (16 + j) (by omega), hm (6 + j) (by omega), hm (12 + j) (by omega)]
    exact r2 j hj
  · rw [hc (4 + j) (by omega)]; exact r3 j hj
  · rw [hc (22 + j) (by omega), hm (18 + j) (by omega)]; exact r4 j hj
  · rw [hc (28 + j) (by omega), hm (30 + j) (by omega)]; exact r5 j hj
  · rw [pk_un (by omega), pk_us, pk_un (by omega), pk_us]
  · rw [pk_us, pk_us]
  · rw [hm (30 + (6 * i + k)) (by omega)]; exact r8 i k hi hk hn
theorem rM_still {x : Int32} (hR : relM NH NF r t) (H6 : NH ≤ 6) (hh : h < NH) : relM NH NF (upd r (16 + h) x) (upd t (12 + h) x) := by
  obtain ⟨r1, r2, r3, r4, r5, ⟨r6, r7⟩, r8⟩ := hR
  have hc : ∀ j : Nat, j ≠ 16 + h → upd r (16 + h) x j = r j := fun j hj => by rw [pk_un hj]
  have hm : ∀ j : Nat, j ≠ 12 + h → upd t (12 + h) x j = t j := fun j hj => by rw [pk_un hj]
  refine ⟨?_, fun j hj => ?_, fun j hj => ?_, fun j hj => ?_, fun j hj => ?_, ⟨?_, ?_⟩, fun i k hi hk hn => ?_⟩
  · rw [hc 2 (by omega), r1]
    unfold caN
    rw [orN_ext (R := fun j => decide (upd t (12 + h) x j = -1)) NH (fun j hj => by rw [hm j (by omega)])]
  · rw [hm j (by omega), hc (4 + j) (by omega), hc (10 + j) (by omega), hm (6 + j) (by omega)]
    refine (r2 j hj).imp id (fun ⟨g1, g2, g3, g4, g5⟩ => ⟨g1, g2, ?_, g4, g5⟩)
    by_cases z : j = h
    · rw [z, pk_us, pk_us]
    · rw [hc (16 + j) (by omega), hm (12 + j) (by omega)]; exact g3
  · rw [hc (4 + j) (by omega)]; exact r3 j hj
  · rw [hc (22 + j) (by omega), hm (18 + j) (by omega)]; exact r4 j hj
  · rw [hc (28 + j) (by omega), hm (30 + j) (by omega)]; exact r5 j hj
  · rw [hc 0 (by omega), hm 66 (by omega)]; exact r6
  · rw [hc 1 (by omega), hm 67 (by omega)]; exact r7
  · rw [hm (30 + (6 * i + k)) (by omega)]; exact r8 i k hi hk hn
theorem rM_strong {x : Int32} (hR : relM NH NF r t) (H6 : NH ≤ 6) (hh : h < NH) (hx : 0 ≤ x.toInt ∧ x.toInt ≤ 9) : relM NH NF (upd r (10 + h) x) (upd t (6 + h) x) := by
  obtain ⟨r1, r2, r3, r4, r5, ⟨r6, r7⟩, r8⟩ := hR
  have hc : ∀ j : Nat, j ≠ 10 + h → upd r (10 + h) x j = r j := fun j hj => by rw [pk_un hj]
  have hm : ∀ j : Nat, j ≠ 6 + h → upd t (6 + h) x j = t j := fun j hj => by rw [pk_un hj]
  refine ⟨?_, fun j hj => ?_, fun j hj => ?_, fun j hj => ?_, fun j hj => ?_, ⟨?_, ?_⟩, fun i k hi hk hn => ?_⟩
  · rw [hc 2 (by omega), r1]
    unfold caN
    rw [orN_ext (R := fun j => decide (upd t (6 + h) x j = -1)) NH (fun j hj => by rw [hm j (by omega)])]
  · rw [hm j (by omega), hc (4 + j) (by omega), hc (16 + j) (by omega), hm (12 + j) (by omega)]
    refine (r2 j hj).imp id (fun ⟨g1, g2, g3, g4, g5⟩ => ?_)
    by_cases z : j = h
    · rw [z, pk_us, pk_us]
      rw [z] at g1 g3
      exact ⟨g1, rfl, g3, hx.1, hx.2⟩
    · rw [hc (10 + j) (by omega), hm (6 + j) (by omega)]
      exact ⟨g1, g2, g3, g4, g5⟩
  · rw [hc (4 + j) (by omega)]; exact r3 j hj
  · rw [hc (22 + j) (by omega), hm (18 + j) (by omega)]; exact r4 j hj
  · rw [hc (28 + j) (by omega), hm (30 + j) (by omega)]; exact r5 j hj
  · rw [hc 0 (by omega), hm 66 (by omega)]; exact r6
  · rw [hc 1 (by omega), hm 67 (by omega)]; exact r7
  · rw [hm (30 + (6 * i + k)) (by omega)]; exact r8 i k hi hk hn
/-- of a caught one the class may write what it likes -/
theorem rM_caught {x y : Int32} (hR : relM NH NF r t) (H6 : NH ≤ 6) (hh : h < NH) (hc9 : t h = -1) : relM NH NF (upd (upd r (10 + h) x) (16 + h) y) t := by
  obtain ⟨r1, r2, r3, r4, r5, ⟨r6, r7⟩, r8⟩ := hR
  have hc : ∀ j : Nat, j ≠ 10 + h → j ≠ 16 + h → upd (upd r (10 + h) x) (16 + h) y j = r j := fun j h1 h2 => by rw [pk_un h2, pk_un h1]
  refine ⟨?_, fun j hj => ?_, fun j hj => ?_, fun j hj => ?_, fun j hj => ?_, ⟨?_, ?_⟩, r8⟩
  · rw [hc 2 (by omega) (by omega)]; exact r1
  · by_cases z : j = h
    · rw [z]; exact Or.inl hc9
    · rw [hc (4 + j) (by omega) (by omega), hc (10 + j) (by omega) (by omega), hc (16 + j) (by omega) (by omega)]
      exact r2 j hj
  · rw [hc (4 + j) (by omega) (by omega)]; exact r3 j hj
  · rw [hc (22 + j) (by omega) (by omega)]; exact r4 j hj
  · rw [hc (28 + j) (by omega) (by omega)]; exact r5 j hj
  · rw [hc 0 (by omega) (by omega)]; exact r6
  · rw [hc 1 (by omega) (by omega)]; exact r7
theorem rM_zero (hR : relM NH NF r t) (H6 : NH ≤ 6) (hj9 : j < 36) : relM NH NF (upd r (28 + j) 0) (upd t (30 + j) 0) := by
  obtain ⟨r1, r2, r3, r4, r5, ⟨r6, r7⟩, r8⟩ := hR
  have hc : ∀ i : Nat, i ≠ 28 + j → upd r (28 + j) 0 i = r i := fun i hi => by rw [pk_un hi]
  have hm : ∀ i : Nat, i ≠ 30 + j → upd t (30 + j) 0 i = t i := fun i hi => by rw [pk_un hi]
  refine ⟨?_, fun i hi => ?_, fun i hi => ?_, fun i hi => ?_, fun i hi => ?_, ⟨?_, ?_⟩, fun i k hi hk hn => ?_⟩
  · rw [hc 2 (by omega), r1]
    unfold caN
    rw [orN_ext (R := fun i => decide (upd t (30 + j) 0 i = -1)) NH (fun i hi => by rw [hm i (by omega)])]
  · rw [hm i (by omega), hc (4 + i) (by omega), hc (10 + i) (by omega), hc (16 + i) (by omega), hm (6 + i) (by omega), hm (12 + i) (by omega)]
    exact r2 i hi
  · rw [hc (4 + i) (by omega)]; exact r3 i hi
  · rw [hc (22 + i) (by omega), hm (18 + i) (by omega)]; exact r4 i hi
  · by_cases z : i = j
    · rw [z, pk_us, pk_us, t_0]; exact ⟨rfl, by omega, by omega⟩
    · rw [hc (28 + i) (by omega), hm (30 + i) (by omega)]; exact r5 i hi
  · rw [hc 0 (by omega), hm 66 (by omega)]; exact r6
  · rw [hc 1 (by omega), hm 67 (by omega)]; exact r7
  · by_cases z : 6 * i + k = j
    · rw [z, pk_us]
    · rw [hm (30 + (6 * i + k)) (by omega)]; exact r8 i k hi hk hn
theorem rM_catch {x : Int32} (hR : relM NH NF r t) (H6 : NH ≤ 6) (hh : h < NH) (hx : x = r 2 ||| (1 <<< (Int32.ofNat h &&& 31))) : relM NH NF (upd r 2 x) (upd t h (-1)) := by
  obtain ⟨r1, r2, r3, r4, r5, ⟨r6, r7⟩, r8⟩ := hR
  have hc : ∀ i : Nat, i ≠ 2 → upd r 2 x i = r i := fun i hi => by rw [pk_un hi]
  have hm : ∀ i : Nat, i ≠ h → upd t h (-1) i = t i := fun i hi => by rw [pk_un hi]
  refine ⟨?_, fun i hi => ?_, fun i hi => ?_, fun i hi => ?_, fun i hi => ?_, ⟨?_, ?_⟩, fun i k hi hk hn => ?_⟩
  · rw [pk_us, hx, b8_or r1 (ca_lt H6) (Int32.toInt_ofNat_of_lt (by omega)) (by omega)]
    unfold caN
    rw [or_sh (R := fun i => decide (upd t h (-1) i = -1)) hh (by rw [pk_us]; rfl) (fun i hi hn => by rw [hm i hn])]
  · by_cases z : i = h
    · rw [z, pk_us]; exact Or.inl rfl
    · rw [hm i z, hc (4 + i) (by omega), hc (10 + i) (by omega), hc (16 + i) (by omega), hm (6 + i) (by omega), hm (12 + i) (by omega)]
      exact r2 i hi
  · rw [hc (4 + i) (by omega)]; exact r3 i hi
  · rw [hc (22 + i) (by omega), hm (18 + i) (by omega)]; exact r4 i hi
  · rw [hc (28 + i) (by omega), hm (30 + i) (by omega)]; exact r5 i hi
  · rw [hc 0 (by omega), hm 66 (by omega)]; exact r6
  · rw [hc 1 (by omega), hm 67 (by omega)]; exact r7
  · rw [hm (30 + (6 * i + k)) (by omega)]; exact r8 i k hi hk hn
end RM
section CD
variable {NH NF : Nat} {row s : Nat → Int32} {nh sf p : Int32} {h : Nat} {sr hr : Nat → Int32} {sfB : Nat → Bool}
theorem c_isSafe {Q : Int32 → Prop} {i : Nat} (h8 : NF ≤ 8) (hs : sf = Int32.ofNat (orN sfB NF)) (ep : p.toInt = (i : Int)) (hi : i < NF) (q1 : sfB i = true → Q 1) (q0 : sfB i = false → Q 0) : wq_X2_isSafe sf p Q := by
  have hb := b8_bit (X := orN sfB NF) (j := i) hs (orN_le h8) ep (by omega)
  rw [orN_bit] at hb
  refine ⟨fun c => ⟨by decide, q0 ?_⟩, fun c => ⟨by decide, q1 ?_⟩⟩
  · cases e : sfB i with
    | false => rfl
    | true => exact absurd (hb.mpr (by simp [hi, e])) c
  · have := hb.mp c
    simp [hi] at this; exact this
def wbN (sfB : Nat → Bool) (s : Nat → Int32) (nh : Nat) : Nat := orN (fun h => wbB sfB s h) nh
theorem wn_no {sfB : Nat → Bool} {s : Nat → Int32} {k : Nat} (w : wbB sfB s k = false) : wbN sfB s (k + 1) = wbN sfB s k := by
  show (if wbB sfB s k = true then wbN sfB s k ||| (1 <<< k) else wbN sfB s k) = _
  rw [if_neg (by rw [w]; decide)]
theorem wn_yes {sfB : Nat → Bool} {s : Nat → Int32} {k : Nat} {l q : Int32} (e : l = Int32.ofNat (wbN sfB s k)) (hk : k < 8) (ej : q.toInt = (k : Int)) (w : wbB sfB s k = true) : l ||| (1 <<< (q &&& 31)) = Int32.ofNat (wbN sfB s (k + 1)) := by
  rw [b8_or e (orN_le (by omega)) ej hk]
  show _ = Int32.ofNat (if wbB sfB s k = true then wbN sfB s k ||| (1 <<< k) else wbN sfB s k)
  rw [if_pos w]
theorem c_endangered {Q : Int32 → Prop} (hR : relM NH NF row s) (H6 : NH ≤ 6) (h8 : NF ≤ 8) (eh : nh.toInt = (NH : Int)) (hs : sf = Int32.ofNat (orN sfB NF)) (hq : Q (Int32.ofNat (wbN sfB s NH))) : wq_X1_endangered nh sf row Q := by
  have go : ∀ (m : Nat) (l1 l2 : Int32) (k : Nat), l2.toInt = (k : Int) → k ≤ NH → l1 = Int32.ofNat (wbN sfB s k) → NH - k < m → wl_X1_endangered_4 nh sf row Q m l1 l2 := by
    intro m
    induction m with
    | zero => intro l1 l2 k h1 h2 h3 h4; omega
    | succ m ih =>
      intro l1 l2 k h1 h2 h3 h4
      refine ⟨fun c => ?_, fun c => ?_⟩
      · rw [t_le] at c
        rw [h3, show k = NH by omega]; exact hq
      · rw [t_le] at c
        have hk : k < NH := by omega
        have nx : ∀ x : Int32, x = l2 + 1 → x.toInt = ((k + 1 : Nat) : Int) := fun x e => by rw [e, t_inc (by omega), h1]; omega
        have stay : wbB sfB s k = false → wb_X1_endangered_53 nh sf row Q (fun l1 l2 => wl_X1_endangered_4 nh sf row Q m l1 l2) l1 l2 := fun w x e => ih l1 x (k + 1) (nx x e) (by omega) (by rw [wn_no w]; exact h3) (by omega)
        refine c_caught hR.1 H6 h1 hk (fun w => ⟨fun _ => stay (by unfold wbB; simp [w]), fun z => absurd z (by decide)⟩) (fun w => ⟨fun z => absurd rfl z, fun _ => c_sits h1 (by omega) ?_⟩)
        obtain ⟨f, ef, hf⟩ := m_in hR hk w
        have et : (s k).toInt.toNat = f := by omega
        rw [← m_sit hR hk w]
        refine c_isSafe h8 hs ef hf (fun y => ⟨fun _ => stay (by unfold wbB; rw [et, y]; simp), fun z => absurd z (by decide)⟩) (fun y => ⟨fun z => absurd rfl z, fun _ => c_still h1 (by omega) ?_⟩)
        rw [((hR.2.1 k hk).resolve_left w).2.2.1]
        refine ⟨fun d => stay ?_, fun d x9 e9 x10 e10 => ih x9 x10 (k + 1) (nx x10 e10) (by omega) ?_ (by omega)⟩
        · rw [t_le, t_3] at d
          unfold wbB; rw [decide_eq_false (show ¬ (s (12 + k)).toInt < 3 by omega)]; simp
        · rw [t_le, t_3] at d
          rw [e9]
          refine wn_yes h3 (by omega) h1 ?_
          unfold wbB; rw [et, y, decide_eq_true (show (s (12 + k)).toInt < 3 by omega), decide_eq_true w]; rfl
  exact ⟨7, go 7 0 0 0 t_0 (by omega) rfl (by omega)⟩
/-- the debts of a hare, and those to it, are gone -/
theorem c_dropDebts {t : Nat → Int32} {Q : (Nat → Int32) → Prop} (hR : relM NH NF row t) (H6 : NH ≤ 6) (eh : nh.toInt = (NH : Int)) (ep : p.toInt = (h : Int)) (hh : h < NH) (hq : ∀ r : Nat → Int32, relM NH NF r (dpF t h NH) → r 3 = row 3 → Q r) : wq_X1_dropDebts nh row p Q := by
  have go : ∀ (m : Nat) (r : Nat → Int32) (l2 : Int32) (o : Nat), l2.toInt = (o : Int) → o ≤ NH → relM NH NF r (dpF t h o) → r 3 = row 3 → NH - o < m → wl_X1_dropDebts_2 nh Q m r p l2 := by
    intro m
    induction m with
    | zero => intro r l2 o h1 h2 h3 h5 h4; omega
    | succ m ih =>
      intro r l2 o h1 h2 h3 h5 h4
      refine ⟨fun c => ?_, fun c x2 e2 x3 e3 => ?_⟩
      · rw [t_le] at c
        rw [show o = NH by omega] at h3
        exact hq r h3 h5
      · rw [t_le] at c
        have k3 := ixc e2 ep (by omega) e3 h1 (by omega)
        refine ⟨t_in (by omega) (by omega), fun f4 e4 x5 e5 x6 e6 => ?_⟩
        have k6 := ixc e5 h1 (by omega) e6 ep (by omega)
        refine ⟨t_in (by omega) (by omega), fun f7 e7 x8 e8 => ih f7 x8 (o + 1) (by rw [e8, t_inc (by omega), h1]; omega) (by omega) ?_ ?_ (by omega)⟩
        · rw [t_clamp k3] at e4
          rw [t_clamp k6] at e7
          rw [e7, e4]
          exact rM_zero (rM_zero h3 H6 (by omega)) H6 (by omega)
        · rw [t_clamp k3] at e4
          rw [t_clamp k6] at e7
          rw [e7, e4, pk_un (by omega), pk_un (by omega)]; exact h5
  exact ⟨7, go 7 row 0 0 t_0 (by omega) hR rfl (by omega)⟩
/-- how strong the hares are told -/
def relH (NH : Nat) (sr hr : Nat → Int32) : Prop := ∀ h : Nat, h < NH → sr h = hr (2 * h + 1) ∧ 0 ≤ (sr h).toInt ∧ (sr h).toInt ≤ 9
theorem c_strike {Q : (Nat → Int32) → Prop} (hR : relM NH NF row s) (H6 : NH ≤ 6) (h8 : NF ≤ 8) (eh : nh.toInt = (NH : Int)) (hs : sf = Int32.ofNat (orN sfB NF)) (hh : relH NH sr hr) (hq : ∀ r : Nat → Int32, relM NH NF r (stF sfB hr NH s NH) → r 3 = row 3 → Q r) : wq_X1_strike nh sf sr row Q := by
  refine c_endangered hR H6 h8 eh hs ?_
  have go : ∀ (m : Nat) (r : Nat → Int32) (l2 : Int32) (k : Nat), l2.toInt = (k : Int) → k ≤ NH → relM NH NF r (stF sfB hr NH s k) → r 3 = row 3 → NH - k < m → wl_X1_strike_7 nh sf sr Q m r (Int32.ofNat (wbN sfB s NH)) l2 := by
    intro m
    induction m with
    | zero => intro r l2 k h1 h2 h3 h5 h4; omega
    | succ m ih =>
      intro r l2 k h1 h2 h3 h5 h4
      refine ⟨fun c => ?_, fun c => ?_⟩
      · rw [t_le] at c
        rw [show k = NH by omega] at h3
        exact hq r h3 h5
      · rw [t_le] at c
        have hk : k < NH := by omega
        obtain ⟨g1, g2, g3⟩ := hh k hk
        have hb := b8_bit (X := wbN sfB s NH) (x := Int32.ofNat (wbN sfB s NH)) (j := k) rfl (orN_le (by omega)) h1 (by omega)
        rw [show (wbN sfB s NH).testBit k = wbB sfB s k by rw [show wbN sfB s NH = orN (fun h => wbB sfB s h) NH from rfl, orN_bit]; simp [hk]] at hb
        have next : ∀ r2 : Nat → Int32, relM NH NF r2 (stF sfB hr NH s (k + 1)) → r2 3 = row 3 → wb_X1_strike_74 nh sf sr Q (fun f0_row l1 l2 => wl_X1_strike_7 nh sf sr Q m f0_row l1 l2) r2 (Int32.ofNat (wbN sfB s NH)) l2 := fun r2 e1 e2 x14 e14 =>
          ih r2 x14 (k + 1) (by rw [e14, t_inc (by omega), h1]; omega) (by omega) e1 e2 (by omega)
        have wk := wb_keep (sfB := sfB) (hr := hr) (s := s) (nh := NH) (k := k) H6 (by omega)
        refine ⟨fun d => ⟨fun _ x5 e5 => ?_, fun z => absurd rfl z⟩, fun d => ⟨fun z => absurd z (by decide), fun _ x10 e10 x11 e11 f12 e12 => ?_⟩⟩
        · have w : wbB sfB s k = false := by
            cases e : wbB sfB s k with
            | false => rfl
            | true => exact absurd (hb.mpr e) d
          have k5 := i10 e5 h1 (by omega)
          refine ⟨t_in (by omega) (by omega), fun x6 e6 => ⟨t_in (by omega) (by omega), fun f7 e7 x8 e8 => ?_⟩⟩
          have k8 := i16 e8 h1 (by omega)
          refine ⟨t_in (by omega) (by omega), fun f9 e9 => next f9 ?_ ?_⟩
          · rw [t_clamp h1] at e6
            rw [t_clamp k5] at e7
            rw [t_clamp k8] at e9
            show relM NH NF f9 (stS sfB hr NH (stF sfB hr NH s k) k)
            unfold stS
            rw [if_neg (by rw [wk, w]; decide), e9, e7, e6]
            by_cases y : stF sfB hr NH s k k = -1
            · rw [if_pos y]; exact rM_caught h3 H6 hk y
            · rw [if_neg y, ← g1]
              exact rM_still (rM_strong h3 H6 hk ⟨g2, g3⟩) H6 hk
          · rw [t_clamp k5] at e7
            rw [t_clamp k8] at e9
            rw [e9, e7, pk_un (by omega), pk_un (by omega)]; exact h5
        · have w : wbB sfB s k = true := hb.mp d
          rw [k_c2] at e10 e12
          have eo := ofN_eq h1 (by omega)
          refine c_dropDebts (NF := NF) (t := upd (stF sfB hr NH s k) k (-1)) ?_ H6 eh h1 hk (fun r2 q1 q2 => next r2 ?_ ?_)
          · rw [e12]
            exact rM_catch h3 H6 hk (by rw [e11, e10, eo])
          · show relM NH NF r2 (stS sfB hr NH (stF sfB hr NH s k) k)
            unfold stS
            rw [if_pos (by rw [wk]; exact w)]; exact q1
          · rw [q2, e12, pk_un (by omega)]; exact h5
  exact ⟨7, go 7 row 0 0 t_0 (by omega) hR rfl (by omega)⟩
theorem c_passDay {Q : (Nat → Int32) → Prop} (hR : relN NH NF row s) (H6 : NH ≤ 6) (h8 : NF ≤ 8) (eh : nh.toInt = (NH : Int)) (hs : sf = Int32.ofNat (orN sfB NF)) (hh : relH NH sr hr) (hq : ∀ r : Nat → Int32, relN NH NF r (paS sfB hr NH s) → Q r) : wq_X1_passDay nh sf sr row Q := by
  have go : ∀ (m : Nat) (r : Nat → Int32) (l1 : Int32) (k : Nat), l1.toInt = (k : Int) → k ≤ NH → relN NH NF r (psF s k) → NH - k < m → wl_X1_passDay_2 nh sf sr Q m r l1 := by
    intro m
    induction m with
    | zero => intro r l1 k h1 h2 h3 h4; omega
    | succ m ih =>
      intro r l1 k h1 h2 h3 h4
      obtain ⟨hM, b1, b2⟩ := id h3
      refine ⟨fun c f2 e2 x3 e3 x4 e4 f5 e5 x6 e6 => ?_, fun c x13 e13 x14 e14 => ?_⟩
      · rw [t_le] at c
        have ek : k = NH := by omega
        rw [k_c3] at e2
        rw [t_c0] at e3 e5 e6
        have fin : ∀ (r2 u : Nat → Int32), relM NH NF r2 u → r2 3 = 0 → u = (if ndS (psF s NH) 66 ≤ 31 then ndS (psF s NH) else yrS (stF sfB hr NH (ndS (psF s NH)) NH)) → Q r2 := fun r2 u hr2 h0 eu => by
          refine hq r2 ⟨?_, ?_, fun j hj => ?_⟩
          · unfold paS
            rw [← eu]
            exact rM_same hr2 H6 (fun j _ => rfl) (fun j hj => bz_o 6 (by omega))
          · rw [h0]
            unfold buN paS
            rw [orN_ext (R := fun _ => false) NH (fun j hj => by rw [bz_z 6 (by omega)]; rfl)]
            have z : ∀ k : Nat, orN (fun _ => false) k = 0 := fun k => by
              induction k with
              | zero => rfl
              | succ k ih => exact ih
            rw [z NH]; rfl
          · unfold paS
            rw [bz_z 6 (by omega)]; exact Or.inl rfl
        have hnd : relM NH NF f5 (ndS (psF s NH)) := by
          have g := rM_time (x := r 0 + 1) (y := r 1) hM H6
          rw [ek] at g
          have d0 : psF s NH 66 = r 0 := by rw [← ek]; exact hM.2.2.2.2.2.1.1.symm
          have d1 : psF s NH 67 = r 1 := by rw [← ek]; exact hM.2.2.2.2.2.1.2.symm
          refine rM_same g H6 (fun j hj => ?_) (fun j hj => ?_)
          · rw [e5, e4, e3, e2]
            by_cases z0 : j = 0
            · rw [z0, pk_us, pk_un (by omega), pk_un (by omega), pk_us]
            · rw [pk_un z0, pk_un hj]
              by_cases z1 : j = 1
              · rw [z1, pk_us]
              · rw [pk_un z1, pk_un z0]
          · unfold ndS
            by_cases z0 : j = 66
            · rw [z0, pk_us, pk_un (by omega), pk_us, d0]
            · rw [pk_un z0]
              by_cases z1 : j = 67
              · rw [z1, pk_us, d1]
              · rw [pk_un z1, pk_un z0]
        have h53 : f5 3 = 0 := by rw [e5, pk_un (by omega), e2, pk_us]
        have e66 : ndS (psF s NH) 66 = x6 := by rw [e6]; exact hnd.2.2.2.2.2.1.1.symm
        refine ⟨fun d => fin f5 _ hnd h53 ?_, fun d => c_strike hnd H6 h8 eh hs hh (fun r2 g1 g2 f9 e9 x10 e10 x11 e11 f12 e12 => fin f12 (yrS (stF sfB hr NH (ndS (psF s NH)) NH)) ?_ ?_ ?_)⟩
        · rw [e66, if_pos d]
        · rw [t_c0] at e9
          rw [k_c1] at e10 e12
          have g := rM_time (x := 1) (y := r2 1 + 1) g1 H6
          have d1 : stF sfB hr NH (ndS (psF s NH)) NH 67 = r2 1 := g1.2.2.2.2.2.1.2.symm
          rw [e12, e11, e10, e9, pk_un (show (1 : Nat) ≠ 0 by omega)]
          unfold yrS
          rw [pk_un (show (67 : Nat) ≠ 66 by omega), d1]; exact g
        · rw [t_c0] at e9
          rw [k_c1] at e12
          rw [e12, pk_un (by omega), e9, pk_un (by omega), g2]; exact h53
        · rw [e66, if_neg d]
      · rw [t_le] at c
        have hk : k < NH := by omega
        rw [k_c2, hM.1] at e13
        rw [k_c3, b1] at e14
        have hb := b8_bit (j := k) (b8_orr e13 e14 (ca_lt H6) (bu_lt H6)) (by have := Nat.or_lt_two_pow (n := 8) (show caN (psF s k) NH < 2 ^ 8 from ca_lt H6) (show buN (psF s k) NH < 2 ^ 8 from bu_lt H6); exact this) h1 (by omega)
        rw [Nat.testBit_or, Bool.or_eq_true, ca_bit hk, bu_bit hk] at hb
        have next : ∀ r2 : Nat → Int32, relN NH NF r2 (psF s (k + 1)) → wb_X1_passDay_46 nh sf sr Q (fun f0_row l1 => wl_X1_passDay_2 nh sf sr Q m f0_row l1) r2 l1 := fun r2 e1 x21 e21 =>
          ih r2 x21 (k + 1) (by rw [e21, t_inc (by omega), h1]; omega) (by omega) e1 (by omega)
        refine ⟨fun d => ⟨fun z => absurd rfl z, fun _ x17 e17 => ?_⟩, fun d => ⟨fun _ => next r ?_, fun z => absurd z (by decide)⟩⟩
        · have hn : ¬ (psF s k k = -1 ∨ psF s k (24 + k) = 1) := fun w => d (hb.mpr w)
          have k17 := i16 e17 h1 (by omega)
          refine ⟨t_in (by omega) (by omega), fun x18 e18 x19 e19 => ⟨t_in (by omega) (by omega), fun f20 e20 => next f20 ?_⟩⟩
          rw [t_clamp k17] at e18 e20
          have h0 : psF s k (24 + k) = 0 := (b2 k hk).resolve_right (fun w => hn (Or.inr w))
          have hc : psF s k k ≠ -1 := fun w => hn (Or.inl w)
          have e : psF s (k + 1) = upd (psF s k) (12 + k) (psF s k (12 + k) + 1) := by
            show psS (psF s k) k = _
            unfold psS; rw [if_pos ⟨hc, h0⟩]
          have ev : r (16 + k) = psF s k (12 + k) := ((hM.2.1 k hk).resolve_left hc).2.2.1
          rw [e, e20, e19, e18, ev]
          refine ⟨rM_still hM H6 hk, ?_, fun j hj => ?_⟩
          · rw [pk_un (by omega), b1]
            unfold buN
            rw [orN_ext (R := fun j => decide (upd (psF s k) (12 + k) (psF s k (12 + k) + 1) (24 + j) = 1)) NH (fun j hj => by rw [pk_un (by omega)])]
          · rw [pk_un (by omega)]; exact b2 j hj
        · have hy := hb.mp d
          have e : psF s (k + 1) = psF s k := by
            show psS (psF s k) k = _
            unfold psS
            rw [if_neg (fun g => hy.elim g.1 (fun w => by rw [g.2] at w; exact absurd w (by decide)))]
          rw [e]; exact h3
  exact ⟨7, go 7 row 0 0 t_0 (by omega) hR (by omega)⟩
end CD
