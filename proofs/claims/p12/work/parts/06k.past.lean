theorem t_64 : (64 : Int32).toInt = 64 := by decide
theorem sl_X8_put {Q : (Nat → Int32) → Int32 → Prop} {v : Int32} (hq : ∀ (f : Nat → Int32) (x : Int32), 0 ≤ x.toInt → x.toInt ≤ 600 → Q f x) : ∀ (k : Nat) (f : Nat → Int32) (fi sh : Int32), 0 ≤ fi.toInt → fi.toInt ≤ 600 → sh.toInt ≤ 24 → -8 ≤ sh.toInt → sh.toInt + 8 < 8 * k → wl_X8_put_3 Q k f fi v sh := by
  intro k
  induction k with
  | zero => intro f fi sh h0 h1 h2 h3 h4; omega
  | succ k ih =>
    intro f fi sh h0 h1 h2 h3 h4
    refine ⟨fun _ => hq f fi h0 h1, fun c => ?_⟩
    rw [t_lt, t_0] at c
    have go : ∀ (f : Nat → Int32) (fi x6 : Int32), 0 ≤ fi.toInt → fi.toInt ≤ 600 → x6 = sh + (-8) → wl_X8_put_3 Q k f fi v x6 := fun f fi x6 g0 g1 e6 => by
      have e : x6.toInt = sh.toInt - 8 := by rw [e6, t_add (by rw [t_m8]; omega) (by rw [t_m8]; omega), t_m8]; omega
      exact ih f fi x6 g0 g1 (by omega) (by omega) (by omega)
    refine ⟨fun _ x6 e6 => go f fi x6 h0 h1 e6, fun c2 x3 _ => ?_⟩
    rw [t_le, t_600] at c2
    refine ⟨t_in h0 (by omega), fun f4 _ x5 e5 x6 e6 => ?_⟩
    have e : x5.toInt = fi.toInt + 1 := by rw [e5]; exact t_inc (by omega)
    exact go f4 x5 x6 (by omega) (by omega) e6
theorem sf_X8_put {Q : (Nat → Int32) → Int32 → Prop} {v fi : Int32} {f : Nat → Int32} (h0 : 0 ≤ fi.toInt) (h1 : fi.toInt ≤ 600) (hq : ∀ (f : Nat → Int32) (x : Int32), 0 ≤ x.toInt → x.toInt ≤ 600 → Q f x) : wq_X8_put f fi v Q := ⟨5, sl_X8_put hq 5 f fi 24 h0 h1 (by decide) (by decide) (by decide)⟩
theorem sf_X10_feed {f : Nat → Int32} {fi a b c d e : Int32} {Q : Int32 → (Nat → Int32) → Int32 → Prop} (h0 : 0 ≤ fi.toInt) (h1 : fi.toInt ≤ 600) (hq : ∀ (r : Int32) (f : Nat → Int32) (x : Int32), 0 ≤ x.toInt → x.toInt ≤ 600 → Q r f x) : wq_X10_feed f fi a b c d e Q := by
  refine ⟨fun _ => ⟨fun c => absurd rfl c, fun _ => hq _ _ _ h0 h1⟩, fun _ => ⟨fun _ => ?_, fun c => absurd c (by decide)⟩⟩
  exact sf_X8_put h0 h1 (fun _ _ a0 a1 => sf_X8_put a0 a1 (fun _ _ b0 b1 => sf_X8_put b0 b1 (fun _ _ c0 c1 => sf_X8_put c0 c1 (fun _ _ d0 d1 => sf_X8_put d0 d1 (fun _ _ e0 e1 => hq _ _ _ e0 e1)))))
/-- rows that were kept: where the hares sat in them -/
def sPast (kp h n : Int32) (rows : Nat → Int32) : Prop := ∀ r : Nat, (r : Int) < kp.toInt → sSits h n (fun j => rows (r * 64 + j))
theorem t_mul64 {k : Int32} (h0 : 0 ≤ k.toInt) (h1 : k.toInt ≤ 17) : (k * 64).toInt = k.toInt * 64 := by rw [t_mul (by rw [t_64]; omega) (by rw [t_64]; omega), t_64]
theorem t_c64 : (64 : Int32).toNatClampNeg = 64 := by decide
theorem t_c0 : (0 : Int32).toNatClampNeg = 0 := by decide
theorem sf_X5_push {kp h n : Int32} {row rows : Nat → Int32} {Q : (Nat → Int32) → Int32 → Prop} (k0 : 0 ≤ kp.toInt) (k1 : kp.toInt ≤ 16) (h6 : h.toInt ≤ 6) (hs : sSits h n row) (hp : sPast kp h n rows) (hq : ∀ (rows : Nat → Int32) (k2 : Int32), k2.toInt = kp.toInt + 1 → sPast k2 h n rows → Q rows k2) : wq_X5_push row rows kp Q := by
  refine ⟨fun c => ?_, fun _ x2 e2 => ?_⟩
  · rw [t_lt, t_16] at c; omega
  · have e := t_mul64 k0 (by omega)
    rw [← e2] at e
    have b := t_nat (x := x2) (by omega)
    have kn := t_nat k0
    refine ⟨fun c => ?_, ?_, fun f3 e3 x4 e4 => ?_⟩
    · rw [t_lt, t_0] at c; omega
    · rw [t_c64]; omega
    · have ex : x4.toInt = kp.toInt + 1 := by rw [e4]; exact t_inc (by omega)
      refine hq f3 x4 ex (fun r hr j hj => ?_)
      show 0 ≤ (f3 (r * 64 + (4 + j))).toInt ∧ (f3 (r * 64 + (4 + j))).toInt < n.toInt
      rw [e3, t_c0, t_c64]
      by_cases hrk : (r : Int) = kp.toInt
      · rw [pk_cpy_in (by omega) (by omega)]
        have e9 : 0 + (r * 64 + (4 + j) - x2.toNatClampNeg) = 4 + j := by omega
        rw [e9]; exact hs j hj
      · rw [pk_cpy_out (by omega)]
        exact hp r (by omega) j hj
