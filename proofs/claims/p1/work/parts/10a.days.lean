/-! days over a down without hares -/
def dn : Nat → Nat
  | 0 => 1
  | n + 1 => if dn n + 1 ≤ 31 then dn n + 1 else 1
theorem dn_le (n : Nat) : 1 ≤ dn n ∧ dn n ≤ 31 := by
  induction n with
  | zero => exact ⟨by decide, by decide⟩
  | succ n ih => simp only [dn]; split <;> omega
def cRow (n : Nat) (f : Nat → Int32) : Prop := f 0 = nI (dn n) ∧ f 2 = 0
def mRow (n : Nat) (s : Nat → Int32) : Prop := s 66 = nI (dn n) ∧ ∀ j, 30 ≤ j → j < 66 → s j = 0
theorem q_c0 : (0 : Int32).toNatClampNeg = 0 := by decide
theorem q_c1 : (1 : Int32).toNatClampNeg = 1 := by decide
theorem q_c2 : (2 : Int32).toNatClampNeg = 2 := by decide
theorem q_c3 : (3 : Int32).toNatClampNeg = 3 := by decide
theorem q_c64 : (64 : Int32).toNatClampNeg = 64 := by decide
theorem q_c66 : (66 : Int32).toNatClampNeg = 66 := by decide
theorem q_c67 : (67 : Int32).toNatClampNeg = 67 := by decide
theorem q_passC {n : Nat} {f : Nat → Int32} {Q : (Nat → Int32) → Prop} (hf : cRow n f) (hq : ∀ g, cRow (n + 1) g → Q g) : wq_X1_passDay 0 f Q := by
  obtain ⟨h0, h2⟩ := hf
  have hb := dn_le n
  refine ⟨1, fun _ f2 e2 x3 e3 x4 e4 f5 e5 x6 e6 => ?_, fun c => absurd (by decide) c⟩
  rw [q_c3] at e2
  rw [q_c0] at e3 e5 e6
  have hx3 : x3 = nI (dn n) := by rw [e3, e2, pk_un (by decide)]; exact h0
  have hx4 : x4 = nI (dn n + 1) := by rw [e4, hx3, nI_1]
  have hf0 : f5 0 = nI (dn n + 1) := by rw [e5, pk_us, hx4]
  have hf2 : f5 2 = 0 := by rw [e5, pk_un (by decide), e2, pk_un (by decide), h2]
  have hx6 : x6 = nI (dn n + 1) := by rw [e6, hf0]
  by_cases hle : dn n + 1 ≤ 31
  · have hc : x6 ≤ 31 := by rw [hx6]; exact nI_le (b := 31) hle (by omega)
    exact ⟨fun _ => hq f5 ⟨by rw [hf0]; simp only [dn]; rw [if_pos hle], hf2⟩, fun c => absurd hc c⟩
  · have hc : ¬ x6 ≤ 31 := by rw [hx6]; exact nI_ge (a := 31) (by omega) (by omega)
    refine ⟨fun c => absurd c hc, fun _ => ⟨1, fun _ => ⟨1, fun _ f9 e9 x10 e10 x11 e11 f12 e12 => hq f12 ⟨?_, ?_⟩, fun c => absurd (by decide) c⟩, fun c => absurd (by decide) c⟩⟩
    · rw [q_c0] at e9; rw [q_c1] at e12
      rw [e12, pk_un (by decide), e9, pk_us]; simp only [dn]; rw [if_neg hle]; rfl
    · rw [q_c0] at e9; rw [q_c1] at e12
      rw [e12, pk_un (by decide), e9, pk_un (by decide), hf2]
theorem q_pass6 {n : Nat} {Q : (Nat → Int32) → Prop} (hq : ∀ g, mRow n g → Q g) : ∀ (k i : Nat) (s : Nat → Int32), i + k = 6 → mRow n s → wl_X11_passes_78 0 Q (k + 1) s (nI i) := by
  intro k
  induction k with
  | zero =>
    intro i s hi hs
    obtain rfl : i = 6 := by omega
    exact ⟨fun _ => hq s hs, fun c => absurd (by decide) c⟩
  | succ k ih =>
    intro i s hi hs
    refine ⟨fun c => absurd c (nI_ge (b := 6) (by omega) (by omega)), fun _ x19 e19 => ?_⟩
    have e' : x19 = nI (24 + i) := by rw [e19, ← nI_add]; rfl
    refine ⟨by rw [e']; exact vp_in_nI (by omega) (by omega), fun f20 e20 x21 e21 => ?_⟩
    rw [e21, nI_1]
    refine ih (i + 1) f20 (by omega) ?_
    rw [e', nI_clamp (by omega)] at e20
    refine ⟨by rw [e20, pk_un (by omega)]; exact hs.1, fun j h1 h2 => by rw [e20, pk_un (by omega)]; exact hs.2 j h1 h2⟩
theorem q_passM {n : Nat} {s : Nat → Int32} {Q : (Nat → Int32) → Prop} (hs : mRow n s) (hq : ∀ g, mRow (n + 1) g → Q g) : wq_X11_passes 0 s Q := by
  obtain ⟨h0, h2⟩ := hs
  have hb := dn_le n
  refine ⟨1, fun _ x2 e2 x3 e3 f4 e4 x5 e5 => ?_, fun c => absurd (by decide) c⟩
  rw [q_c66] at e2 e4 e5
  have hx3 : x3 = nI (dn n + 1) := by rw [e3, e2, h0, nI_1]
  have hf6 : f4 66 = nI (dn n + 1) := by rw [e4, pk_us, hx3]
  have hfj : ∀ j, 30 ≤ j → j < 66 → f4 j = 0 := fun j h1 h3 => by rw [e4, pk_un (by omega)]; exact h2 j h1 h3
  have hx5 : x5 = nI (dn n + 1) := by rw [e5, hf6]
  by_cases hle : dn n + 1 ≤ 31
  · have hc : x5 ≤ 31 := by rw [hx5]; exact nI_le (b := 31) hle (by omega)
    exact ⟨fun _ => ⟨7, q_pass6 hq 6 0 f4 (by omega) ⟨by rw [hf6]; simp only [dn]; rw [if_pos hle], hfj⟩⟩, fun c => absurd hc c⟩
  · have hc : ¬ x5 ≤ 31 := by rw [hx5]; exact nI_ge (a := 31) (by omega) (by omega)
    refine ⟨fun c => absurd c hc, fun _ => ⟨1, fun _ f2 e2' x3' e3' x4' e4' f5 e5' => ⟨7, q_pass6 hq 6 0 f5 (by omega) ⟨?_, fun j h1 h3 => ?_⟩⟩, fun c => absurd (by decide) c⟩⟩
    · rw [q_c66] at e2'; rw [q_c67] at e5'
      rw [e5', pk_un (by decide), e2', pk_us]; simp only [dn]; rw [if_neg hle]; rfl
    · rw [q_c66] at e2'; rw [q_c67] at e5'
      rw [e5', pk_un (by omega), e2', pk_un (by omega)]; exact hfj j h1 h3
theorem q_aheadC {ag ar N : Nat} {nw : Nat → Int32} {E : String → Int32 → (Nat → Int32) → Value → Value → Prop} {Q : Int32 → Int32 → (Nat → Int32) → Value → Value → Prop} {v y2 : Int32} (hN : N < 1000) (hq : ∀ g, cRow N g → Q (if y2 = 0 then nI (dn N) else 0) v g (.ref ag) (.ref ar)) :
    ∀ (k i : Nat) (f : Nat → Int32), i + k = N → cRow i f → wl_X10_ahead_28 ag ar nw 0 E Q (k + 1) v f (.ref ag) (.ref ar) (nI N) y2 (nI i) := by
  intro k
  induction k with
  | zero =>
    intro i f hi hf
    obtain rfl : i = N := by omega
    have h := hq f hf
    refine ⟨fun _ => ⟨fun c x1 e1 => ?_, fun c => ⟨fun _ x1 e1 => ?_, fun _ => ⟨1, fun _ => ?_, fun c => absurd (by decide) c⟩⟩⟩, fun c => absurd (nI_le (Nat.le_refl _) (by omega)) c⟩
    · rw [if_pos c] at h; rw [e1, q_c0, hf.1]; exact h
    · rw [if_neg c] at h; rw [e1, q_c2, hf.2]; exact h
    · rw [if_neg c] at h; exact h
  | succ k ih =>
    intro i f hi hf
    refine ⟨fun c => absurd c (nI_ge (by omega) (by omega)), fun _ => q_passC hf (fun g hg x11 e11 => ?_)⟩
    rw [e11, nI_1]
    exact ih (i + 1) g (by omega) hg
theorem q_aheadM {N : Nat} {nw rf : Nat → Int32} {Q : Int32 → Int32 → (Nat → Int32) → (Nat → Int32) → Prop} {v y2 : Int32} (hN : N < 1000) (hq : ∀ g, mRow N g → Q (if y2 = 0 then nI (dn N) else 0) v rf g) :
    ∀ (k i : Nat) (s : Nat → Int32), i + k = N → mRow i s → wl_X11_ahead_46 0 nw Q (k + 1) v rf s (nI N) y2 (nI i) := by
  intro k
  induction k with
  | zero =>
    intro i s hi hs
    obtain rfl : i = N := by omega
    have h := hq s hs
    refine ⟨fun _ => ⟨fun c => ⟨fun _ => q_debtsNow hs.2 ?_, fun _ => ⟨1, fun _ => ?_, fun c => absurd (by decide) c⟩⟩, fun c x1 e1 => ?_⟩, fun c => absurd (nI_le (Nat.le_refl _) (by omega)) c⟩
    · rw [if_neg c] at h; exact h
    · rw [if_neg c] at h; exact h
    · rw [if_pos c] at h; rw [e1, q_c66, hs.1]; exact h
  | succ k ih =>
    intro i s hi hs
    refine ⟨fun c => absurd c (nI_ge (by omega) (by omega)), fun _ => q_passM hs (fun g hg x11 e11 => ?_)⟩
    rw [e11, nI_1]
    exact ih (i + 1) g (by omega) hg
theorem q_nwT {v p a b : Int32} {E : String → Int32 → Prop} {Q : Int32 → Prop} (h : a ≤ p ∧ p ≤ b) (hq : Q v) : wq_X10_needWithin v p a b E Q := q_nw (fun _ => hq) (fun c => absurd h c)
theorem q_wmT {p a b : Int32} {Q : Int32 → Prop} (h : a ≤ p ∧ p ≤ b) (hq : Q 1) : wq_X11_within p a b Q := q_wm (fun _ => hq) (fun c => absurd h c)
theorem q_row0 {f : Nat → Int32} : cRow 0 (va_cpy (o1 0) f (0 : Int32).toNatClampNeg (0 : Int32).toNatClampNeg (64 : Int32).toNatClampNeg) := by
  rw [q_c0, q_c64]
  exact ⟨by rw [pk_cpy_in (by omega) (by omega)]; rfl, by rw [pk_cpy_in (by omega) (by omega)]; rfl⟩
theorem q_mrow0 {f : Nat → Int32} (h : ∀ j, j < 68 → f j = o1 66 j) : mRow 0 f :=
  ⟨by rw [h 66 (by omega)]; rfl, fun j h1 h2 => by rw [h j (by omega)]; exact pk_un (by omega)⟩
theorem q_drawC {p1 : Int32} {N : Nat} {Q : Int32 → (Nat → Int32) → Prop} (hN : N < 1000) (hq : ∀ g, cRow N g → Q 0 g) :
    ∀ (k i : Nat) (f : Nat → Int32), i + k = N → cRow i f → wl_X1_drawDays_8 0 Q (k + 1) f (nI N) p1 0 (nI i) := by
  intro k
  induction k with
  | zero =>
    intro i f hi hf
    obtain rfl : i = N := by omega
    exact ⟨fun _ => hq f hf, fun c => absurd (nI_le (Nat.le_refl _) (by omega)) c⟩
  | succ k ih =>
    intro i f hi hf
    refine ⟨fun c => absurd c (nI_ge (by omega) (by omega)), fun _ => ⟨fun _ => q_passC hf (fun g hg x11 e11 => ?_), fun c => absurd (by decide) c⟩⟩
    rw [e11, nI_1]
    exact ih (i + 1) g (by omega) hg
theorem q_marchM {nw : Nat → Int32} {p1 : Int32} {N : Nat} {Q : (Nat → Int32) → Int32 → Int32 → Prop} (hN : N < 1000) (hq : ∀ g, mRow N g → Q g p1 0) :
    ∀ (k i : Nat) (s : Nat → Int32), i + k = N → mRow i s → wl_X11_marchGoes_16 0 nw Q (k + 1) s p1 0 (nI N) (nI i) := by
  intro k
  induction k with
  | zero =>
    intro i s hi hs
    obtain rfl : i = N := by omega
    exact ⟨fun _ => hq s hs, fun c => absurd (nI_le (Nat.le_refl _) (by omega)) c⟩
  | succ k ih =>
    intro i s hi hs
    refine ⟨fun c => absurd c (nI_ge (by omega) (by omega)), fun _ => ⟨fun _ => q_passM hs (fun g hg x11 e11 => ?_), fun c => absurd (by decide) c⟩⟩
    rw [e11, nI_1]
    exact ih (i + 1) g (by omega) hg
theorem q_finE {fo : Nat → Int64} {rc rm : Int32} (h : rc = rm) : (((0 : Int32) = 0 → ((¬ (0 : Int32) = 0 → True) ∧ ((0 : Int32) = 0 → ∀ x16 : Int64, x16 = vp_updL fo (0 : Int32).toNatClampNeg rc.toInt64 (0 : Int32).toNatClampNeg → (((lg_cmp x16 rm.toInt64) = 0 → True) ∧ (¬ (lg_cmp x16 rm.toInt64) = 0 → False))))) ∧ (¬ (0 : Int32) = 0 → False)) := by
  subst h
  exact q_finO
theorem q_cl {t : Int32} : (if 0 < (if t < 60 then t else 60) then (if t < 60 then t else 60) else 0) = (if 0 ≤ t then (if t ≤ 60 then t else 60) else 0) := by
  have e0 : (0 : Int32).toInt = 0 := by decide
  have e60 : (60 : Int32).toInt = 60 := by decide
  have hlt : t < 60 ↔ t.toInt < 60 := by rw [Int32.lt_iff_toInt_lt, e60]
  have hle : t ≤ 60 ↔ t.toInt ≤ 60 := by rw [Int32.le_iff_toInt_le, e60]
  have hge : 0 ≤ t ↔ 0 ≤ t.toInt := by rw [Int32.le_iff_toInt_le, e0]
  have hgt : 0 < t ↔ 0 < t.toInt := by rw [Int32.lt_iff_toInt_lt, e0]
  by_cases h1 : t.toInt < 60
  · rw [if_pos (hlt.mpr h1)]
    by_cases h2 : 0 < t.toInt
    · rw [if_pos (hgt.mpr h2), if_pos (hge.mpr (by omega)), if_pos (hle.mpr (by omega))]
    · rw [if_neg (fun c => h2 (hgt.mp c))]
      by_cases h3 : 0 ≤ t.toInt
      · rw [if_pos (hge.mpr h3), if_pos (hle.mpr (by omega))]
        exact Int32.toInt_inj.mp (by rw [e0]; omega)
      · rw [if_neg (fun c => h3 (hge.mp c))]
  · rw [if_neg (fun c => h1 (hlt.mp c)), if_pos (by decide), if_pos (hge.mpr (by omega))]
    by_cases h2 : t.toInt ≤ 60
    · rw [if_pos (hle.mpr h2)]
      exact Int32.toInt_inj.mp (by rw [e60]; omega)
    · rw [if_neg (fun c => h2 (hle.mp c))]
theorem q_neg60 : ∀ b : Fin 100, b.val = 0 ∨ ((-(Int32.ofNat b.val) : Int32) < 0 ∧ ¬ (0 : Int32) < -(Int32.ofNat b.val) ∧ (-(Int32.ofNat b.val) : Int32) ≤ 0 ∧ ¬ (0 : Int32) ≤ -(Int32.ofNat b.val)) := by decide +kernel
