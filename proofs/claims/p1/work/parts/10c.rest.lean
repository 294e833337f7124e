theorem q_13 : ∀ a : Fin 10, ∀ b : Fin 1000, (4 + nI a.val) - nI b.val ≤ 60 := by decide +kernel
theorem q_l29 {cd : Int32} {fa : Nat → Int32} {s0 : Int32} {Q : Int32 → Prop} (hs : s0 ≤ 60) (h : Q (if 0 ≤ s0 then (if s0 ≤ 60 then s0 else 60) else 0)) : wb_X11_leapNow_29 cd fa Q s0 := by
  refine ⟨fun c => ⟨fun c2 => ?_, fun c2 => absurd hs c2⟩, fun c => ?_⟩
  · rw [if_pos c, if_pos c2] at h; exact h
  · rw [if_neg c] at h; exact h
theorem q_keeps {n2 N P : Nat} {f2 : Nat → Int32} {Q : Int32 → (Nat → Int32) → Prop} (hN : N ≤ n2) (hn : n2 < 5000) (hb : P + N ≤ 3471) (h : ∀ g, Q (nI P + nI N) g) : ∀ (k i : Nat) (f : Nat → Int32), i + k = N → wl_X11_keepsRow_3 n2 f2 Q (k + 1) f (nI P) (nI N) 1 (nI i) := by
  intro k
  induction k with
  | zero =>
    intro i f hi
    obtain rfl : i = N := by omega
    exact ⟨fun _ => h f, fun c => absurd (nI_le (Nat.le_refl _) (by omega)) c⟩
  | succ k ih =>
    intro i f hi
    refine ⟨fun c => absurd c (nI_ge (by omega) (by omega)), fun _ => ⟨fun c => absurd c (by decide), fun _ x3 e3 => ⟨vp_in_nI (by omega) (by omega), fun x4 e4 => ⟨?_, fun f5 e5 x6 e6 => ?_⟩⟩⟩⟩
    · rw [e3, nI_add]; exact vp_in_nI (by omega) (by omega)
    · rw [e6, nI_1]; exact ih (i + 1) f5 (by omega)
theorem q_keepAll {w : Int32} {f p im : Nat → Int32} {Q : (Nat → Int32) → Prop} (h : ∀ g, Q g) : wq_X11_keepsAll w f p im 0 1 Q := by
  intro x1 e1
  have e2 : x1 = nI 0 := by rw [e1]; decide
  rw [e2]
  refine ⟨69, q_keeps (N := 68) (P := 0) (by omega) (by omega) (by omega) (fun g => ?_) 68 0 im (by omega)⟩
  have e3 : nI 0 + nI 68 = nI 68 := by decide
  rw [e3]
  refine ⟨1089, q_keeps (N := 1088) (P := 68) (by omega) (by omega) (by omega) (fun g2 => ?_) 1088 0 g (by omega)⟩
  exact ⟨fun c => absurd c (by decide), fun _ => ⟨vin (by decide), fun f7 e7 => h f7⟩⟩
set_option maxHeartbeats 4000000 in
set_option maxRecDepth 100000 in
theorem q_reach5 {fa pile : Nat → Int32} {Q : Int32 → (Nat → Int32) → Prop} (h : ∀ p, Q (if 0 < (if (4 + fa 0) - fa 1 < 60 then (4 + fa 0) - fa 1 else 60) then (if (4 + fa 0) - fa 1 < 60 then (4 + fa 0) - fa 1 else 60) else 0) p) : wq_X4_reach 5 K5 V5 fa pile Q := by
  refine ⟨6, ?_⟩
  -- 4
  refine ⟨fun c => absurd c (by decide), fun _ => ⟨vin (by decide), fun x4 e4 => ?_⟩⟩
  have e4 : x4 = 0 := by rw [e4]; decide
  subst e4
  refine ⟨fun _ => ?_, fun c => absurd rfl c⟩
  refine ⟨fun c => absurd rfl c, fun _ => ⟨vin (by decide), fun x20 e20 => ?_⟩⟩
  have e20 : x20 = 4 := by rw [e20]; decide
  subst e20
  refine ⟨vin (by decide), fun f1 d1 x23 e23 x21 e21 => ?_⟩
  rw [e23, e21]
  -- strong
  refine ⟨fun c => absurd c (by decide), fun _ => ⟨vin (by decide), fun x4 e4 => ?_⟩⟩
  have e4 : x4 = 1 := by rw [e4]; decide
  subst e4
  refine ⟨fun c => absurd c (by decide), fun _ => ⟨fun c => absurd rfl c, fun _ => ?_⟩⟩
  refine ⟨fun _ => ⟨vin (by decide), fun x18 e18 => ?_⟩, fun c => absurd c (by decide)⟩
  have e18 : x18 = 0 := by rw [e18]; decide
  subst e18
  refine ⟨vin (by decide), fun x19 e19 => ?_⟩
  refine ⟨vin (by decide), fun f2 d2 x23 e23 x21 e21 => ?_⟩
  rw [e23, e21]
  -- plus
  refine ⟨fun c => absurd c (by decide), fun _ => ⟨vin (by decide), fun x4 e4 => ?_⟩⟩
  have e4 : x4 = 2 := by rw [e4]; decide
  subst e4
  refine ⟨fun c => absurd c (by decide), fun _ => ⟨fun _ => ⟨fun c => absurd c (by decide), fun _ x8 e8 x9 e9 x10 e10 => ?_⟩, fun c => absurd c (by decide)⟩⟩
  have e8 : x8 = 1 := by rw [e8]; decide
  subst e8
  have e9 : x9 = 0 := by rw [e9]; decide
  subst e9
  have e10 : x10 = 0 := by rw [e10]; decide
  subst e10
  refine ⟨vin (by decide), fun x11 e11 => ⟨vin (by decide), fun x12 e12 => ?_⟩⟩
  refine ⟨fun c => absurd c (by decide), fun _ => ?_, fun c => absurd c (by decide), fun c => absurd c (by decide), fun c => absurd c (by decide), fun c => absurd c (by decide), fun c => absurd c (by decide)⟩
  refine ⟨vin (by decide), fun f3 d3 x21 e21 => ?_⟩
  rw [e21]
  -- still
  refine ⟨fun c => absurd c (by decide), fun _ => ⟨vin (by decide), fun x4 e4 => ?_⟩⟩
  have e4 : x4 = 1 := by rw [e4]; decide
  subst e4
  refine ⟨fun c => absurd c (by decide), fun _ => ⟨fun c => absurd rfl c, fun _ => ?_⟩⟩
  refine ⟨fun _ => ⟨vin (by decide), fun x18 e18 => ?_⟩, fun c => absurd c (by decide)⟩
  have e18 : x18 = 1 := by rw [e18]; decide
  subst e18
  refine ⟨vin (by decide), fun y19 g19 => ?_⟩
  refine ⟨vin (by decide), fun f4 d4 x23 e23 x21 e21 => ?_⟩
  rw [e23, e21]
  -- less
  refine ⟨fun c => absurd c (by decide), fun _ => ⟨vin (by decide), fun x4 e4 => ?_⟩⟩
  have e4 : x4 = 3 := by rw [e4]; decide
  subst e4
  refine ⟨fun c => absurd c (by decide), fun _ => ⟨fun _ => ⟨fun c => absurd c (by decide), fun _ x8 e8 x9 e9 x10 e10 => ?_⟩, fun c => absurd c (by decide)⟩⟩
  have e8 : x8 = 1 := by rw [e8]; decide
  subst e8
  have e9 : x9 = 0 := by rw [e9]; decide
  subst e9
  have e10 : x10 = 0 := by rw [e10]; decide
  subst e10
  refine ⟨vin (by decide), fun y11 g11 => ⟨vin (by decide), fun y12 g12 => ?_⟩⟩
  refine ⟨fun c => absurd c (by decide), fun c => absurd c (by decide), fun _ => ?_, fun c => absurd c (by decide), fun c => absurd c (by decide), fun c => absurd c (by decide), fun c => absurd c (by decide)⟩
  refine ⟨vin (by decide), fun f5 d5 x21 e21 => ?_⟩
  rw [e21]
  -- the end
  refine ⟨fun _ => ⟨fun c => absurd c (by decide), fun _ x3 e3 => ?_⟩, fun c => absurd (by decide) c⟩
  have k11 : x11 = 4 := by rw [e11, d2, d1]; rfl
  have k12 : x12 = fa 0 := by rw [e12, d2, e19]; rfl
  have m11 : y11 = 4 + fa 0 := by rw [g11, d4, d3, k11, k12]; rfl
  have m12 : y12 = fa 1 := by rw [g12, d4, g19]; rfl
  have k3 : x3 = (4 + fa 0) - fa 1 := by rw [e3, d5, m11, m12]; rfl
  refine fun x15 e15 x16 e16 => ?_
  rw [e16, e15, k3]
  exact h _
