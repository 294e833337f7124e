/-! a day goes by: what the reference makes of its row -/
def psS (s : Nat → Int32) (h : Nat) : Nat → Int32 := if s h ≠ -1 ∧ s (24 + h) = 0 then upd s (12 + h) (s (12 + h) + 1) else s
def psF (s : Nat → Int32) : Nat → Nat → Int32
  | 0 => s
  | k + 1 => psS (psF s k) k
def ndS (s : Nat → Int32) : Nat → Int32 := upd s 66 (s 66 + 1)
def dpF (s : Nat → Int32) (h : Nat) : Nat → Nat → Int32
  | 0 => s
  | o + 1 => upd (upd (dpF s h o) (30 + (6 * h + o)) 0) (30 + (6 * o + h)) 0
def wbB (sfB : Nat → Bool) (s : Nat → Int32) (h : Nat) : Bool := decide (s h ≠ -1) && (!(sfB (s h).toInt.toNat) && decide ((s (12 + h)).toInt < 3))
def stS (sfB : Nat → Bool) (hr : Nat → Int32) (nh : Nat) (s : Nat → Int32) (h : Nat) : Nat → Int32 := if wbB sfB s h = true then dpF (upd s h (-1)) h nh else if s h = -1 then s else upd (upd s (6 + h) (hr (2 * h + 1))) (12 + h) 0
def stF (sfB : Nat → Bool) (hr : Nat → Int32) (nh : Nat) (s : Nat → Int32) : Nat → Nat → Int32
  | 0 => s
  | h + 1 => stS sfB hr nh (stF sfB hr nh s h) h
def yrS (s : Nat → Int32) : Nat → Int32 := upd (upd s 66 1) 67 ((upd s 66 1) 67 + 1)
def bzF (s : Nat → Int32) : Nat → Nat → Int32
  | 0 => s
  | k + 1 => upd (bzF s k) (24 + k) 0
def paS (sfB : Nat → Bool) (hr : Nat → Int32) (nh : Nat) (s : Nat → Int32) : Nat → Int32 := bzF (if ndS (psF s nh) 66 ≤ 31 then ndS (psF s nh) else yrS (stF sfB hr nh (ndS (psF s nh)) nh)) 6
theorem dp_o {s : Nat → Int32} {h j : Nat} : ∀ k : Nat, (j < 30 ∨ 66 ≤ j) → h < 6 → k ≤ 6 → dpF s h k j = s j := by
  intro k
  induction k with
  | zero => intro _ _ _; rfl
  | succ k ih =>
    intro h1 h2 h3
    show upd (upd (dpF s h k) (30 + (6 * h + k)) 0) (30 + (6 * k + h)) 0 j = s j
    rw [pk_un (by omega), pk_un (by omega)]; exact ih h1 h2 (by omega)
theorem ps_o {s : Nat → Int32} {j : Nat} : ∀ k : Nat, (j < 12 ∨ 12 + k ≤ j) → psF s k j = s j := by
  intro k
  induction k with
  | zero => intro _; rfl
  | succ k ih =>
    intro h1
    show psS (psF s k) k j = s j
    unfold psS
    by_cases c : psF s k k ≠ -1 ∧ psF s k (24 + k) = 0
    · rw [if_pos c, pk_un (by omega)]; exact ih (by omega)
    · rw [if_neg c]; exact ih (by omega)
theorem sts_o {sfB : Nat → Bool} {hr s : Nat → Int32} {nh h j : Nat} (h6 : h < 6) (hn : nh ≤ 6) (h1 : j < 30 ∨ 66 ≤ j) (h2 : j ≠ h) (h3 : j ≠ 6 + h) (h4 : j ≠ 12 + h) : stS sfB hr nh s h j = s j := by
  unfold stS
  by_cases c : wbB sfB s h = true
  · rw [if_pos c, dp_o nh h1 h6 hn, pk_un h2]
  · rw [if_neg c]
    by_cases d : s h = -1
    · rw [if_pos d]
    · rw [if_neg d, pk_un h4, pk_un h3]
/-- what a stroke leaves as it is behind k hares -/
theorem st_keep {sfB : Nat → Bool} {hr s : Nat → Int32} {nh j : Nat} (hn : nh ≤ 6) : ∀ k : Nat, k ≤ 6 → ((k ≤ j ∧ j < 6) ∨ (6 + k ≤ j ∧ j < 12) ∨ (12 + k ≤ j ∧ j < 30) ∨ 66 ≤ j) → stF sfB hr nh s k j = s j := by
  intro k
  induction k with
  | zero => intro _ _; rfl
  | succ k ih =>
    intro h1 h2
    show stS sfB hr nh (stF sfB hr nh s k) k j = s j
    rw [sts_o (by omega) hn (by omega) (by omega) (by omega) (by omega)]
    exact ih (by omega) (by omega)
theorem wb_keep {sfB : Nat → Bool} {hr s : Nat → Int32} {nh k : Nat} (hn : nh ≤ 6) (hk : k < 6) : wbB sfB (stF sfB hr nh s k) k = wbB sfB s k := by
  unfold wbB
  rw [st_keep (j := k) hn k (by omega) (by omega), st_keep (j := 12 + k) hn k (by omega) (by omega)]
theorem bz_o {s : Nat → Int32} {j : Nat} : ∀ k : Nat, (j < 24 ∨ 24 + k ≤ j) → bzF s k j = s j := by
  intro k
  induction k with
  | zero => intro _; rfl
  | succ k ih =>
    intro h1
    show upd (bzF s k) (24 + k) 0 j = s j
    rw [pk_un (by omega)]; exact ih (by omega)
theorem bz_z {s : Nat → Int32} {h : Nat} : ∀ k : Nat, h < k → bzF s k (24 + h) = 0 := by
  intro k
  induction k with
  | zero => intro h1; omega
  | succ k ih =>
    intro h1
    show upd (bzF s k) (24 + k) 0 (24 + h) = 0
    by_cases z : h = k
    · rw [z, pk_us]
    · rw [pk_un (by omega)]; exact ih (by omega)
/-! the reference makes it -/
section DP
variable {NH NF : Nat} {s : Nat → Int32} {nh nx p : Int32} {h : Nat} {fo fx hr : Nat → Int32} {sfB : Nat → Bool}
/-- the reference's look at what is safe -/
def sfM (NF : Nat) (sfB : Nat → Bool) (nx : Int32) (fo fx : Nat → Int32) : Prop := ∀ (p : Int32) (i : Nat) (Q : Int32 → Prop), p.toInt = (i : Int) → i < NF → (sfB i = true → Q 1) → (sfB i = false → Q 0) → wq_X11_isSafe nx fo fx p Q
theorem y_would {Q : Int32 → Prop} (hs : sfM NF sfB nx fo fx) (hg : s h = -1 ∨ ∃ f : Nat, (s h).toInt = (f : Int) ∧ f < NF) (ep : p.toInt = (h : Int)) (hh : h < 6) (q1 : wbB sfB s h = true → Q 1) (q0 : wbB sfB s h = false → Q 0) : wq_X11_wouldBeCaught nx s fo fx p Q := by
  refine y_caught ep hh (fun w => ⟨fun _ => q0 (by unfold wbB; simp [w]), fun z => absurd z (by decide)⟩) (fun w => ⟨fun z => absurd rfl z, fun _ x3 e3 => ?_⟩)
  have k3 := i0 e3 ep (by omega)
  refine ⟨t_in (by omega) (by omega), fun x4 e4 => ?_⟩
  rw [t_clamp k3] at e4
  obtain ⟨f, ef, hf⟩ := hg.resolve_left w
  have et : (s h).toInt.toNat = f := by omega
  refine hs x4 f _ (by rw [e4]; exact ef) hf (fun y => ⟨fun _ => q0 ?_, fun z => absurd z (by decide)⟩) (fun y => ⟨fun z => absurd rfl z, fun _ x7 e7 => ?_⟩)
  · unfold wbB; rw [et, y]; simp
  have k7 := i12 e7 ep (by omega)
  refine ⟨t_in (by omega) (by omega), fun x8 e8 => ?_⟩
  rw [t_clamp k7] at e8
  refine ⟨fun c => q0 ?_, fun c => q1 ?_⟩
  · rw [t_le, t_3, e8] at c
    unfold wbB; rw [decide_eq_false (show ¬ (s (12 + h)).toInt < 3 by omega)]; simp
  · rw [t_le, t_3, e8] at c
    unfold wbB; rw [et, y, decide_eq_true (show (s (12 + h)).toInt < 3 by omega), decide_eq_true w]; rfl
theorem y_strokes {Q : (Nat → Int32) → Prop} (hs : sfM NF sfB nx fo fx) (H6 : NH ≤ 6) (eh : nh.toInt = (NH : Int)) (hg : rgS NH NF s) (hq : Q (yrS (stF sfB hr NH s NH))) : wq_X11_strokes nh nx fo fx hr s Q := by
  have go : ∀ (m : Nat) (t : Nat → Int32) (l1 : Int32) (k : Nat), l1.toInt = (k : Int) → k ≤ NH → t = stF sfB hr NH s k → NH - k < m → wl_X11_strokes_2 nh nx fo fx hr Q m t l1 := by
    intro m
    induction m with
    | zero => intro t l1 k h1 h2 h3 h4; omega
    | succ m ih =>
      intro t l1 k h1 h2 h3 h4
      refine ⟨fun c f2 e2 x3 e3 x4 e4 f5 e5 => ?_, fun c => ?_⟩
      · rw [t_le] at c
        rw [k_c66] at e2
        rw [k_c67] at e3 e5
        rw [show k = NH by omega] at h3
        rw [e5, e4, e3, e2, h3]; exact hq
      · rw [t_le] at c
        have hk : k < NH := by omega
        have next : ∀ t2 : Nat → Int32, t2 = stF sfB hr NH s (k + 1) → wb_X11_strokes_113 nh nx fo fx hr Q (fun f0_s l1 => wl_X11_strokes_2 nh nx fo fx hr Q m f0_s l1) t2 l1 := fun t2 e x19 e19 =>
          ih t2 x19 (k + 1) (by rw [e19, t_inc (by omega), h1]; omega) (by omega) e (by omega)
        have keep : t k = s k := by rw [h3]; exact st_keep (by omega) k (by omega) (by omega)
        have wk : wbB sfB t k = wbB sfB (stF sfB hr NH s k) k := by rw [h3]
        refine y_would hs (by rw [keep]; exact hg k hk) h1 (by omega) (fun w => ⟨fun z => absurd z (by decide), fun _ x17 e17 => ?_⟩) (fun w => ⟨fun _ => y_caught h1 (by omega) (fun d => ⟨fun _ => next t ?_, fun z => absurd z (by decide)⟩) (fun d => ⟨fun z => absurd rfl z, fun _ x10 e10 x11 e11 x12 e12 => ?_⟩), fun z => absurd rfl z⟩)
        · have k17 := i0 e17 h1 (by omega)
          refine ⟨t_in (by omega) (by omega), fun f18 e18 => ?_⟩
          rw [t_clamp k17] at e18
          have fin : stF sfB hr NH s (k + 1) = dpF (upd t k (-1)) k NH := by
            show stS sfB hr NH (stF sfB hr NH s k) k = _
            rw [← h3]
            unfold stS; rw [if_pos w]
          have go2 : ∀ (m2 : Nat) (u : Nat → Int32) (l2 : Int32) (o : Nat), l2.toInt = (o : Int) → o ≤ NH → u = dpF (upd t k (-1)) k o → NH - o < m2 → wl_X11_strokes_29 nh nx fo fx hr Q (fun f0_s l1 => wl_X11_strokes_2 nh nx fo fx hr Q m f0_s l1) m2 u l1 l2 := by
            intro m2
            induction m2 with
            | zero => intro u l2 o g1 g2 g3 g4; omega
            | succ m2 ih2 =>
              intro u l2 o g1 g2 g3 g4
              refine ⟨fun c2 => next u ?_, fun c2 x21 e21 x22 e22 => ?_⟩
              · rw [t_le] at c2
                rw [fin, g3, show o = NH by omega]
              · rw [t_le] at c2
                have k22 := ixm e21 h1 (by omega) e22 g1 (by omega)
                refine ⟨t_in (by omega) (by omega), fun f23 e23 x24 e24 x25 e25 => ?_⟩
                have k25 := ixm e24 g1 (by omega) e25 h1 (by omega)
                refine ⟨t_in (by omega) (by omega), fun f26 e26 x27 e27 => ih2 f26 x27 (o + 1) (by rw [e27, t_inc (by omega), g1]; omega) (by omega) ?_ (by omega)⟩
                rw [t_clamp k22] at e23
                rw [t_clamp k25] at e26
                rw [e26, e23, g3]; rfl
          exact ⟨7, go2 7 f18 0 0 t_0 (by omega) e18 (by omega)⟩
        · rw [h3]
          show _ = stS sfB hr NH (stF sfB hr NH s k) k
          unfold stS; rw [if_neg (by rw [← wk, w]; decide), if_pos (by rw [← h3]; exact d)]
        · have k10 := i6 e10 h1 (by omega)
          have k12 : x12.toInt = ((2 * k + 1 : Nat) : Int) := by rw [e12]; exact t_dbl1 (by rw [e11]; exact t_dbl h1 (by omega)) (by omega)
          refine ⟨t_in (by omega) (by omega), fun x13 e13 => ⟨t_in (by omega) (by omega), fun f14 e14 x15 e15 => ?_⟩⟩
          have k15 := i12 e15 h1 (by omega)
          refine ⟨t_in (by omega) (by omega), fun f16 e16 => next f16 ?_⟩
          rw [t_clamp k12] at e13
          rw [t_clamp k10] at e14
          rw [t_clamp k15] at e16
          show _ = stS sfB hr NH (stF sfB hr NH s k) k
          unfold stS; rw [if_neg (by rw [← wk, w]; decide), if_neg (by rw [← h3]; exact d), e16, e14, e13, h3]
  exact ⟨7, go 7 s 0 0 t_0 (by omega) rfl (by omega)⟩
theorem y_passes {Q : (Nat → Int32) → Prop} (hs : sfM NF sfB nx fo fx) (H6 : NH ≤ 6) (eh : nh.toInt = (NH : Int)) (hg : rgS NH NF s) (hq : Q (paS sfB hr NH s)) : wq_X11_passes nh nx fo fx hr s Q := by
  have last : ∀ t : Nat → Int32, t = (if ndS (psF s NH) 66 ≤ 31 then ndS (psF s NH) else yrS (stF sfB hr NH (ndS (psF s NH)) NH)) → wb_X11_passes_76 nh nx fo fx hr Q t := fun t et => by
    have go : ∀ (m : Nat) (u : Nat → Int32) (l1 : Int32) (k : Nat), l1.toInt = (k : Int) → k ≤ 6 → u = bzF t k → 6 - k < m → wl_X11_passes_78 nh nx fo fx hr Q m u l1 := by
      intro m
      induction m with
      | zero => intro u l1 k h1 h2 h3 h4; omega
      | succ m ih =>
        intro u l1 k h1 h2 h3 h4
        refine ⟨fun c => ?_, fun c x19 e19 => ?_⟩
        · rw [t_le, t_6] at c
          rw [h3, show k = 6 by omega, et]; exact hq
        · rw [t_le, t_6] at c
          have k19 := i24 e19 h1 (by omega)
          refine ⟨t_in (by omega) (by omega), fun f20 e20 x21 e21 => ih f20 x21 (k + 1) (by rw [e21, t_inc (by omega), h1]; omega) (by omega) ?_ (by omega)⟩
          rw [t_clamp k19] at e20
          rw [e20, h3]; rfl
    exact ⟨7, go 7 t 0 0 t_0 (by omega) rfl (by omega)⟩
  have go : ∀ (m : Nat) (t : Nat → Int32) (l1 : Int32) (k : Nat), l1.toInt = (k : Int) → k ≤ NH → t = psF s k → NH - k < m → wl_X11_passes_2 nh nx fo fx hr Q m t l1 := by
    intro m
    induction m with
    | zero => intro t l1 k h1 h2 h3 h4; omega
    | succ m ih =>
      intro t l1 k h1 h2 h3 h4
      refine ⟨fun c x2 e2 x3 e3 f4 e4 x5 e5 => ?_, fun c => ?_⟩
      · rw [t_le] at c
        rw [k_c66] at e2 e4 e5
        rw [show k = NH by omega] at h3
        have e9 : f4 = ndS (psF s NH) := by rw [e4, e3, e2, h3]; rfl
        rw [e9] at e5
        refine ⟨fun d => last f4 ?_, fun d => y_strokes hs H6 eh ?_ (last _ ?_)⟩
        · rw [if_pos (by rw [← e5]; exact d)]; exact e9
        · intro j hj
          have e : f4 j = s j := by
            rw [e9]
            unfold ndS
            rw [pk_un (by omega)]; exact ps_o NH (by omega)
          rw [e]; exact hg j hj
        · rw [if_neg (by rw [← e5]; exact d), e9]
      · rw [t_le] at c
        have hk : k < NH := by omega
        have next : ∀ t2 : Nat → Int32, t2 = psF s (k + 1) → wb_X11_passes_43 nh nx fo fx hr Q (fun f0_s l1 => wl_X11_passes_2 nh nx fo fx hr Q m f0_s l1) t2 l1 := fun t2 e x17 e17 =>
          ih t2 x17 (k + 1) (by rw [e17, t_inc (by omega), h1]; omega) (by omega) e (by omega)
        refine y_caught h1 (by omega) (fun w => ⟨fun _ => next t ?_, fun z => absurd z (by decide)⟩) (fun w => ⟨fun z => absurd rfl z, fun _ x10 e10 => ?_⟩)
        · show t = psS (psF s k) k
          rw [← h3]
          unfold psS; rw [if_neg (fun d => d.1 w)]
        · have k10 := i24 e10 h1 (by omega)
          refine ⟨t_in (by omega) (by omega), fun x11 e11 => ?_⟩
          rw [t_clamp k10] at e11
          refine ⟨fun d => next t ?_, fun d x13 e13 => ?_⟩
          · show t = psS (psF s k) k
            rw [← h3]
            unfold psS; rw [if_neg (fun g => d (by rw [e11]; exact g.2))]
          · have k13 := i12 e13 h1 (by omega)
            refine ⟨t_in (by omega) (by omega), fun x14 e14 x15 e15 => ⟨t_in (by omega) (by omega), fun f16 e16 => next f16 ?_⟩⟩
            rw [t_clamp k13] at e14 e16
            show f16 = psS (psF s k) k
            rw [← h3]
            unfold psS; rw [if_pos ⟨w, by rw [← e11]; exact d⟩, e16, e15, e14]
  exact ⟨7, go 7 s 0 0 t_0 (by omega) rfl (by omega)⟩
end DP
