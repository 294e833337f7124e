theorem t_4 : (4 : Int32).toInt = 4 := by decide
theorem t_60 : (60 : Int32).toInt = 60 := by decide
theorem sf_X10_holds {a b : Int32} {Q : Int32 → Prop} (h0 : Q 0) (h1 : Q 1) : wq_X10_holds a b Q := ⟨fun _ => h0, fun _ => h1⟩
theorem sf_X2_isSafe {a b : Int32} {Q : Int32 → Prop} (h0 : Q 0) (h1 : Q 1) : wq_X2_isSafe a b Q := sf_X10_holds ⟨rfl, h0⟩ ⟨rfl, h1⟩
theorem sf_X10_needHare {n v p : Int32} {E : String → Int32 → Prop} {Q : Int32 → Prop} (hn : 0 ≤ n.toInt) (he : E "java/util/NoSuchElementException" (v + 1)) (hq : 0 ≤ p.toInt → p.toInt < n.toInt → Q v) : wq_X10_needHare n v p E Q := by
  have e : (n - 1).toInt = n.toInt - 1 := t_pred (by omega)
  refine sf_X10_within (fun _ => ⟨fun c => absurd rfl c, fun _ x e => by rw [e]; exact he⟩) (fun h1 h2 => ⟨fun _ => hq (by rw [t_0] at h1; exact h1) (by rw [e] at h2; omega), fun c => absurd c (by decide)⟩)
theorem sf_X10_needForm {n v p : Int32} {E : String → Int32 → Prop} {Q : Int32 → Prop} (hn : 0 ≤ n.toInt) (he : E "java/util/NoSuchElementException" (v + 1)) (hq : 0 ≤ p.toInt → p.toInt < n.toInt → Q v) : wq_X10_needForm n v p E Q := by
  have e : (n - 1).toInt = n.toInt - 1 := t_pred (by omega)
  refine sf_X10_within (fun _ => ⟨fun c => absurd rfl c, fun _ x e => by rw [e]; exact he⟩) (fun h1 h2 => ⟨fun _ => hq (by rw [t_0] at h1; exact h1) (by rw [e] at h2; omega), fun c => absurd c (by decide)⟩)
theorem sf_X2_apart {X Y : Nat → Int32} {p q : Int32} {Q : Int32 → Prop} (hp0 : 0 ≤ p.toInt) (hp1 : p.toInt < 8) (hq0 : 0 ≤ q.toInt) (hq1 : q.toInt < 8) (h : ∀ r, Q r) : wq_X2_apart X Y p q Q :=
  ⟨t_in hp0 hp1, fun _ _ => ⟨t_in hq0 hq1, fun _ _ _ _ => ⟨t_in hp0 hp1, fun _ _ => ⟨t_in hq0 hq1, fun _ _ _ _ => h _⟩⟩⟩⟩
theorem sf_X10_far {n v p q : Int32} {X Y : Nat → Int32} {E : String → Int32 → Prop} {Q : Int32 → Int32 → Prop} (h0 : 0 ≤ n.toInt) (h1 : n.toInt ≤ 8) (he : E "java/util/NoSuchElementException" (v + 1)) (hq : ∀ r, Q r v) : wq_X10_far n X Y v p q E Q :=
  sf_X10_needForm h0 he (fun a0 a1 => sf_X10_needForm h0 he (fun b0 b1 => sf_X2_apart a0 (by omega) b0 (by omega) (fun r => hq r)))
theorem sf_X10_fox {n ci cn p q : Int32} {X Y : Nat → Int32} {E : String → Int32 → Int32 → Prop} {Q : Int32 → Int32 → Int32 → Prop} (h0 : 0 ≤ n.toInt) (h1 : n.toInt ≤ 4) (he1 : E "java/util/NoSuchElementException" ci (cn + 1)) (he2 : E "java/lang/IllegalArgumentException" (ci + 1) cn) (hq : ∀ r, Q r ci cn) : wq_X10_fox n Y X ci cn p q E Q := by
  have e : (n - 1).toInt = n.toInt - 1 := t_pred (by omega)
  refine sf_X10_within (fun _ => ⟨fun c => absurd rfl c, fun _ x e => by rw [e]; exact he1⟩) (fun a0 a1 => ⟨fun _ => sf_X10_needWithin he2 (fun _ _ => ?_), fun c => absurd c (by decide)⟩)
  rw [t_0] at a0
  rw [e] at a1
  exact ⟨fun _ => ⟨t_in a0 (by omega), fun _ _ => hq _⟩, fun _ => ⟨t_in a0 (by omega), fun _ _ => hq _⟩⟩
section Dn
variable {n fx : Int32} {X Y FX FY : Nat → Int32}
theorem sl_X2_foxIsNear {Q : Int32 → Prop} {a : Int32} (hf : fx.toInt ≤ 4) (a0 : 0 ≤ a.toInt) (a1 : a.toInt < 8) (q0 : Q 0) (q1 : Q 1) : ∀ (k : Nat) (i : Int32), 0 ≤ i.toInt → i.toInt ≤ 4 → 4 - i.toInt < k → wl_X2_foxIsNear_2 fx X FX Y FY Q k a i := by
  intro k
  induction k with
  | zero => intro i h0 h1 h2; omega
  | succ k ih =>
    intro i h0 h1 h2
    refine ⟨fun _ => q0, fun c => ?_⟩
    rw [t_le] at c
    refine ⟨t_in a0 a1, fun _ _ => ⟨t_in h0 (by omega), fun _ _ _ _ => ⟨t_in a0 a1, fun _ _ => ⟨t_in h0 (by omega), fun _ _ _ _ => ⟨fun _ x9 e9 => ?_, fun _ => q1⟩⟩⟩⟩⟩
    have e : x9.toInt = i.toInt + 1 := by rw [e9]; exact t_inc (by omega)
    exact ih x9 (by omega) (by omega) (by omega)
theorem sf_X2_foxIsNear {Q : Int32 → Prop} {a : Int32} (hf : fx.toInt ≤ 4) (a0 : 0 ≤ a.toInt) (a1 : a.toInt < 8) (q0 : Q 0) (q1 : Q 1) : wq_X2_foxIsNear fx X FX Y FY a Q := ⟨5, sl_X2_foxIsNear hf a0 a1 q0 q1 5 0 (by decide) (by decide) (by decide)⟩
theorem sl_X2_findSafe {Q : Int32 → Prop} (hn : n.toInt ≤ 8) (hf : fx.toInt ≤ 4) (hq : ∀ r, Q r) : ∀ (k : Nat) (v i : Int32), 0 ≤ i.toInt → i.toInt ≤ 8 → 8 - i.toInt < k → wl_X2_findSafe_7 n fx X FX Y FY Q k v i := by
  intro k
  induction k with
  | zero => intro v i h0 h1 h2; omega
  | succ k ih =>
    intro v i h0 h1 h2
    refine ⟨fun _ => hq _, fun c => ?_⟩
    rw [t_le] at c
    have go : ∀ v x5 : Int32, x5 = i + 1 → wl_X2_findSafe_7 n fx X FX Y FY Q k v x5 := fun v x5 e5 => by
      have e : x5.toInt = i.toInt + 1 := by rw [e5]; exact t_inc (by omega)
      exact ih v x5 (by omega) (by omega) (by omega)
    exact sf_X2_foxIsNear hf h0 (by omega) ⟨fun c => absurd rfl c, fun _ x4 _ => go x4⟩ ⟨fun _ => go v, fun c => absurd c (by decide)⟩
theorem sf_X2_findSafe {Q : Int32 → Prop} {v : Int32} (hn : n.toInt ≤ 8) (hf : fx.toInt ≤ 4) (hq : ∀ r, Q r) : wq_X2_findSafe n fx X FX Y FY v Q := ⟨9, sl_X2_findSafe hn hf hq 9 0 0 (by decide) (by decide) (by decide)⟩
theorem sl_X2_formsWithin {Q : Int32 → Prop} {a d : Int32} (hn : n.toInt ≤ 8) (a0 : 0 ≤ a.toInt) (a1 : a.toInt < 8) (hq : ∀ r, Q r) : ∀ (k : Nat) (v i : Int32), 0 ≤ i.toInt → i.toInt ≤ 8 → 8 - i.toInt < k → wl_X2_formsWithin_5 n X Y Q k a d v i := by
  intro k
  induction k with
  | zero => intro v i h0 h1 h2; omega
  | succ k ih =>
    intro v i h0 h1 h2
    refine ⟨fun _ => hq _, fun c => ?_⟩
    rw [t_le] at c
    have go : ∀ v x5 : Int32, x5 = i + 1 → wl_X2_formsWithin_5 n X Y Q k a d v x5 := fun v x5 e5 => by
      have e : x5.toInt = i.toInt + 1 := by rw [e5]; exact t_inc (by omega)
      exact ih v x5 (by omega) (by omega) (by omega)
    exact sf_X2_apart a0 a1 h0 (by omega) (fun r => ⟨fun _ => go v, fun _ x4 _ => go x4⟩)
theorem sf_X2_formsWithin {Q : Int32 → Prop} {a d : Int32} (hn : n.toInt ≤ 8) (a0 : 0 ≤ a.toInt) (a1 : a.toInt < 8) (hq : ∀ r, Q r) : wq_X2_formsWithin n X Y a d Q := ⟨9, sl_X2_formsWithin hn a0 a1 hq 9 0 0 (by decide) (by decide) (by decide)⟩
theorem sl_X2_hops34 {Q : Int32 → Prop} {K8 : Int32 → Int32 → Int32 → Int32 → Prop} {b d r h : Int32} (hn : n.toInt ≤ 8) (hq : ∀ w x6 : Int32, x6 = h + 1 → K8 b d w x6) : ∀ (k : Nat) (w i : Int32), 0 ≤ i.toInt → i.toInt ≤ 8 → 8 - i.toInt < k → wl_X2_hopsBetween_34 n X Y Q K8 k b d r h w i := by
  intro k
  induction k with
  | zero => intro w i h0 h1 h2; omega
  | succ k ih =>
    intro w i h0 h1 h2
    refine ⟨fun _ x6 e6 => hq w x6 e6, fun c => ?_⟩
    rw [t_le] at c
    have go : ∀ w x5 : Int32, x5 = i + 1 → wl_X2_hopsBetween_34 n X Y Q K8 k b d r h w x5 := fun w x5 e5 => by
      have e : x5.toInt = i.toInt + 1 := by rw [e5]; exact t_inc (by omega)
      exact ih w x5 (by omega) (by omega) (by omega)
    exact sf_X10_holds ⟨fun _ => go w, fun c => absurd rfl c⟩ ⟨fun c => absurd c (by decide), fun _ => sf_X2_formsWithin hn h0 (by omega) (fun r9 x10 _ => go x10)⟩
theorem sl_X2_hops8 {Q : Int32 → Prop} {b d : Int32} (hn : n.toInt ≤ 8) (hq : ∀ r, Q r) : ∀ (k : Nat) (r h : Int32), 0 ≤ h.toInt → h.toInt ≤ 8 → 8 - h.toInt < k → wl_X2_hopsBetween_8 n X Y Q k b d r h := by
  intro k
  induction k with
  | zero => intro r h h0 h1 h2; omega
  | succ k ih =>
    intro r h h0 h1 h2
    refine ⟨fun _ => hq _, fun c => ?_⟩
    rw [t_le, t_8] at c
    refine sf_X10_holds ⟨fun _ => ⟨9, sl_X2_hops34 hn (fun w x6 e6 => ?_) 9 r 0 (by decide) (by decide) (by decide)⟩, fun c => absurd rfl c⟩ ⟨fun c => absurd c (by decide), fun _ => hq _⟩
    have e : x6.toInt = h.toInt + 1 := by rw [e6]; exact t_inc (by omega)
    exact ih w x6 (by omega) (by omega) (by omega)
theorem sf_X2_hopsBetween {Q : Int32 → Prop} {a b d : Int32} (hn : n.toInt ≤ 8) (hq : ∀ r, Q r) : wq_X2_hopsBetween n X Y a b d Q := fun x1 _ => ⟨9, sl_X2_hops8 hn hq 9 x1 0 (by decide) (by decide) (by decide)⟩
theorem sl_X2_seenFrom {Q : Int32 → Prop} {ch : Int32} {nr : Nat → Int32} (hn : n.toInt ≤ 8) (hq : ∀ r, Q r) : ∀ (k : Nat) (v i : Int32), 0 ≤ i.toInt → i.toInt ≤ 8 → 8 - i.toInt < k → wl_X2_seenFrom_4 n nr Q k ch v i := by
  intro k
  induction k with
  | zero => intro v i h0 h1 h2; omega
  | succ k ih =>
    intro v i h0 h1 h2
    refine ⟨fun _ => hq _, fun c => ?_⟩
    rw [t_le] at c
    have go : ∀ v x5 : Int32, x5 = i + 1 → wl_X2_seenFrom_4 n nr Q k ch v x5 := fun v x5 e5 => by
      have e : x5.toInt = i.toInt + 1 := by rw [e5]; exact t_inc (by omega)
      exact ih v x5 (by omega) (by omega) (by omega)
    exact sf_X10_holds ⟨fun _ => go v, fun c => absurd rfl c⟩ ⟨fun c => absurd c (by decide), fun _ => ⟨t_in h0 (by omega), fun _ _ x5 _ => go x5⟩⟩
theorem sf_X2_seenFrom {Q : Int32 → Prop} {ch : Int32} {nr : Nat → Int32} (hn : n.toInt ≤ 8) (hq : ∀ r, Q r) : wq_X2_seenFrom n nr ch Q := ⟨9, sl_X2_seenFrom hn hq 9 0 0 (by decide) (by decide) (by decide)⟩
end Dn
