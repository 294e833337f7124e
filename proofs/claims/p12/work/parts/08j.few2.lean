/-- few of the class, whatever its answer is -/
theorem sf_L_few {cl y1 y2 y3 y4 : Int32} {fo : Nat → Int64} {Q : Int32 → Int32 → (Nat → Int64) → Prop} (hq : ∀ (r x : Int32) (f : Nat → Int64), Q r x f) : wq_L_few 1 cl fo y1 y2 y3 y4 Q := by
  refine q_nw (fun h1 => ?_) (fun c => ⟨rfl, hq _ _ _⟩)
  refine q_nw (fun h2 => ?_) (fun c => ⟨rfl, hq _ _ _⟩)
  refine q_nw (fun h3 => ?_) (fun c => ⟨rfl, hq _ _ _⟩)
  refine q_nw (fun h4 => ?_) (fun c => ⟨rfl, hq _ _ _⟩)
  obtain ⟨N, hN, rfl⟩ := nI_of2 (M := 12) (n := 12) rfl (q_nlt.mpr h1.1) h1.2
  obtain ⟨K, hK, rfl⟩ := nI_of2 (M := 12) (n := 12) rfl (q_nlt.mpr h2.1) h2.2
  obtain ⟨q, hq', rfl⟩ := nI_of2 (M := 16) (n := 16) rfl (q_nlt.mpr h3.1) h3.2
  refine ⟨min K N + 2, q_fewC (by omega) (by omega) (by omega) ?_ (min K N + 1) 0 (by omega)⟩
  exact ⟨fun c => ⟨vin (by decide), fun f5 e5 => hq _ _ _⟩, fun c => ⟨vin (by decide), fun f5 e5 => hq _ _ _⟩⟩
/-- few of the reference, whatever its answer is -/
theorem sf_X11_few {th y1 y2 y3 y4 : Int32} {rf : Nat → Int32} {sn : Nat → Int64} {Q : Int64 → Int32 → (Nat → Int32) → (Nat → Int64) → Prop} (hq : ∀ (r : Int64) (x : Int32) (f : Nat → Int32) (g : Nat → Int64), Q r x f g) : wq_X11_few th rf sn y1 y2 y3 y4 Q := by
  have hf : wb_X11_few_50 Q 0 rf sn y1 y2 y3 y4 := q_mayF (by decide) (vin (by decide)) (fun g => ⟨fun c => absurd rfl c, fun _ => hq _ _ _ _⟩)
  refine q_wm (fun h1 => ⟨fun c => absurd c (by decide), fun _ => ?_⟩) (fun _ => ⟨fun _ => hf, fun c => absurd rfl c⟩)
  refine q_wm (fun h2 => ⟨fun c => absurd c (by decide), fun _ => ?_⟩) (fun _ => ⟨fun _ => hf, fun c => absurd rfl c⟩)
  refine q_wm (fun h3 => ⟨fun c => absurd c (by decide), fun _ => ?_⟩) (fun _ => ⟨fun _ => hf, fun c => absurd rfl c⟩)
  refine q_wm (fun h4 => ⟨fun c => absurd c (by decide), fun _ => ?_⟩) (fun _ => ⟨fun _ => hf, fun c => absurd rfl c⟩)
  clear hf
  obtain ⟨N, hN, rfl⟩ := nI_of2 (M := 12) (n := 12) rfl (q_nlt.mpr h1.1) h1.2
  obtain ⟨K, hK, rfl⟩ := nI_of2 (M := 12) (n := 12) rfl (q_nlt.mpr h2.1) h2.2
  obtain ⟨q, hq', rfl⟩ := nI_of2 (M := 16) (n := 16) rfl (q_nlt.mpr h3.1) h3.2
  have hb := fin_at (n := N) (k := K) (q := q) (by omega) (by omega) (by omega)
  have hp := p16 (n := N) (by omega)
  have hU : ss N q (K + 1) < 2 ^ 62 := Nat.lt_of_lt_of_le hb.2.1 (by decide)
  refine q_mayT ⟨fun _ => ?_, fun c => absurd c (by decide)⟩
  exact ⟨15, q_f64 (by omega) (by omega) (by omega) (fun f hf => q_least hU hp.2 hp.1 (hq _ _ _ _)) 14 0 _ (by omega) (fun j h => absurd h (Nat.not_lt_zero j))⟩
theorem q_neg60 : ∀ b : Fin 100, b.val = 0 ∨ ((-(Int32.ofNat b.val) : Int32) < 0 ∧ ¬ (0 : Int32) < -(Int32.ofNat b.val) ∧ (-(Int32.ofNat b.val) : Int32) ≤ 0 ∧ ¬ (0 : Int32) ≤ -(Int32.ofNat b.val)) := by decide +kernel
