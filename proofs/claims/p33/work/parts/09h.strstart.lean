/-! the String constants at the law's start -/
def zC (q : String × Nat × String × List Int32) : List Cond :=
  .exactly (.string q.1 q.2.1) "java/lang/String" :: .eq (.field (.string q.1 q.2.1) "java/lang/String" "coder" "B") (.int 0) :: .arrayOf (.field (.string q.1 q.2.1) "java/lang/String" "value" "[B") .byte :: .eq (.length (.field (.string q.1 q.2.1) "java/lang/String" "value" "[B")) (.int (Int32.ofNat q.2.2.2.length)) :: (List.range q.2.2.2.length).map (fun j => .eq (.elem (.field (.string q.1 q.2.1) "java/lang/String" "value" "[B") (.int (Int32.ofNat j))) (.int (q.2.2.2.getD j 0)))
theorem qa7I : (∀ w ∈ zL.map (fun q => Cond.stringRef q.1 q.2.1 q.2.2.1), w ∈ lw_tbl) := by decide +kernel
theorem q5b : (∀ w ∈ [Cond.laysStatic "java/lang/String" "COMPACT_STRINGS" "Z", .initialized "java/lang/String", .laysStatic "jdk/internal/util/Preconditions" "SIOOBE_FORMATTER" "Ljava/util/function/BiFunction;", .initialized "jdk/internal/util/Preconditions"], w ∈ lw_tbl) := by decide +kernel
theorem qaLx : (∀ w ∈ [Cond.eq (.static "java/lang/String" "COMPACT_STRINGS" "Z") (.int 1), .isRef (.static "jdk/internal/util/Preconditions" "SIOOBE_FORMATTER" "Ljava/util/function/BiFunction;")], w ∈ flatC (Jvm.Cond.and given_1 narrow_1)) := by decide +kernel
theorem qBq {L S : List Cond} (a n : Nat) (h : (L.drop a).take n = S) : ∀ w ∈ S, w ∈ L := fun w hw => List.mem_of_mem_drop (List.mem_of_mem_take (by rw [h]; exact hw))
theorem qa1J : ∀ w ∈ zC ("MarchHares$Down", 62, "form", [102, 111, 114, 109]), w ∈ flatC (Jvm.Cond.and given_1 narrow_1) := qBq 65 8 (by decide +kernel)
theorem qa2K : ∀ w ∈ zC ("MarchHares$Down", 71, "hare", [104, 97, 114, 101]), w ∈ flatC (Jvm.Cond.and given_1 narrow_1) := qBq 73 8 (by decide +kernel)
theorem qa16 : ∀ w ∈ zC ("MarchHares$Down", 76, "fox", [102, 111, 120]), w ∈ flatC (Jvm.Cond.and given_1 narrow_1) := qBq 81 7 (by decide +kernel)
theorem qa1t : ∀ w ∈ zC ("MarchHares$Down", 81, "debt", [100, 101, 98, 116]), w ∈ flatC (Jvm.Cond.and given_1 narrow_1) := qBq 88 8 (by decide +kernel)
theorem qa2y : ∀ w ∈ zC ("MarchHares$Law", 68, "least", [108, 101, 97, 115, 116]), w ∈ flatC (Jvm.Cond.and given_1 narrow_1) := qBq 96 9 (by decide +kernel)
theorem qa2x : ∀ w ∈ zC ("MarchHares$Law", 78, "most", [109, 111, 115, 116]), w ∈ flatC (Jvm.Cond.and given_1 narrow_1) := qBq 105 8 (by decide +kernel)
theorem qa1D : ∀ w ∈ zC ("MarchHares$Law", 92, "strong", [115, 116, 114, 111, 110, 103]), w ∈ flatC (Jvm.Cond.and given_1 narrow_1) := qBq 113 10 (by decide +kernel)
theorem qa12 : ∀ w ∈ zC ("MarchHares$Law", 94, "still", [115, 116, 105, 108, 108]), w ∈ flatC (Jvm.Cond.and given_1 narrow_1) := qBq 123 9 (by decide +kernel)
theorem qa23 : ∀ w ∈ zC ("MarchHares$Law", 96, "owes", [111, 119, 101, 115]), w ∈ flatC (Jvm.Cond.and given_1 narrow_1) := qBq 132 8 (by decide +kernel)
theorem qa2a : ∀ w ∈ zC ("MarchHares$Law", 98, "owed", [111, 119, 101, 100]), w ∈ flatC (Jvm.Cond.and given_1 narrow_1) := qBq 140 8 (by decide +kernel)
theorem qaY2 : ∀ w ∈ zC ("MarchHares$Law", 100, "others", [111, 116, 104, 101, 114, 115]), w ∈ flatC (Jvm.Cond.and given_1 narrow_1) := qBq 148 10 (by decide +kernel)
theorem qaX7 : ∀ w ∈ zC ("MarchHares$Law", 102, "day", [100, 97, 121]), w ∈ flatC (Jvm.Cond.and given_1 narrow_1) := qBq 158 7 (by decide +kernel)
theorem qaW2 : ∀ w ∈ zC ("MarchHares$Law", 104, "hare", [104, 97, 114, 101]), w ∈ flatC (Jvm.Cond.and given_1 narrow_1) := qBq 165 8 (by decide +kernel)
theorem qaYH : ∀ w ∈ zC ("MarchHares$Law", 106, "leaps", [108, 101, 97, 112, 115]), w ∈ flatC (Jvm.Cond.and given_1 narrow_1) := qBq 174 9 (by decide +kernel)
theorem qaWS : ∀ w ∈ zC ("MarchHares$Work", 67, "again", [97, 103, 97, 105, 110]), w ∈ flatC (Jvm.Cond.and given_1 narrow_1) := qBq 183 9 (by decide +kernel)
theorem qaXS : ∀ w ∈ zC ("MarchHares$Work", 76, "leap", [108, 101, 97, 112]), w ∈ flatC (Jvm.Cond.and given_1 narrow_1) := qBq 192 8 (by decide +kernel)
theorem qaYg : ∀ w ∈ zC ("MarchHares$Work", 86, "box", [98, 111, 120]), w ∈ flatC (Jvm.Cond.and given_1 narrow_1) := qBq 200 7 (by decide +kernel)
theorem qaXV : ∀ w ∈ zC ("MarchHares$Work", 88, "pay", [112, 97, 121]), w ∈ flatC (Jvm.Cond.and given_1 narrow_1) := qBq 207 7 (by decide +kernel)
theorem qaZE : ∀ w ∈ zC ("MarchHares$Work", 90, "day", [100, 97, 121]), w ∈ flatC (Jvm.Cond.and given_1 narrow_1) := qBq 214 7 (by decide +kernel)
theorem qaZn : ∀ w ∈ zC ("MarchHaresModel", 201, "form", [102, 111, 114, 109]), w ∈ flatC (Jvm.Cond.and given_1 narrow_1) := qBq 269 8 (by decide +kernel)
theorem qaXm : ∀ w ∈ zC ("MarchHaresModel", 206, "hare", [104, 97, 114, 101]), w ∈ flatC (Jvm.Cond.and given_1 narrow_1) := qBq 278 8 (by decide +kernel)
theorem qaZN : ∀ w ∈ zC ("MarchHaresModel", 207, "fox", [102, 111, 120]), w ∈ flatC (Jvm.Cond.and given_1 narrow_1) := qBq 288 7 (by decide +kernel)
theorem qa0c : ∀ w ∈ zC ("MarchHaresModel", 208, "debt", [100, 101, 98, 116]), w ∈ flatC (Jvm.Cond.and given_1 narrow_1) := qBq 296 8 (by decide +kernel)
theorem qaZB : ∀ w ∈ zC ("MarchHaresModel", 278, "least", [108, 101, 97, 115, 116]), w ∈ flatC (Jvm.Cond.and given_1 narrow_1) := qBq 305 9 (by decide +kernel)
theorem qaZf : ∀ w ∈ zC ("MarchHaresModel", 283, "most", [109, 111, 115, 116]), w ∈ flatC (Jvm.Cond.and given_1 narrow_1) := qBq 315 8 (by decide +kernel)
theorem qaXo : ∀ w ∈ zC ("MarchHaresModel", 264, "strong", [115, 116, 114, 111, 110, 103]), w ∈ flatC (Jvm.Cond.and given_1 narrow_1) := qBq 324 10 (by decide +kernel)
theorem qaXI : ∀ w ∈ zC ("MarchHaresModel", 266, "still", [115, 116, 105, 108, 108]), w ∈ flatC (Jvm.Cond.and given_1 narrow_1) := qBq 335 9 (by decide +kernel)
theorem qaW1 : ∀ w ∈ zC ("MarchHaresModel", 268, "owes", [111, 119, 101, 115]), w ∈ flatC (Jvm.Cond.and given_1 narrow_1) := qBq 345 8 (by decide +kernel)
theorem qaZC : ∀ w ∈ zC ("MarchHaresModel", 270, "owed", [111, 119, 101, 100]), w ∈ flatC (Jvm.Cond.and given_1 narrow_1) := qBq 354 8 (by decide +kernel)
theorem qaYU : ∀ w ∈ zC ("MarchHaresModel", 272, "others", [111, 116, 104, 101, 114, 115]), w ∈ flatC (Jvm.Cond.and given_1 narrow_1) := qBq 363 10 (by decide +kernel)
theorem qaXc : ∀ w ∈ zC ("MarchHaresModel", 274, "day", [100, 97, 121]), w ∈ flatC (Jvm.Cond.and given_1 narrow_1) := qBq 374 7 (by decide +kernel)
theorem qaZz : ∀ w ∈ zC ("MarchHaresModel", 276, "leaps", [108, 101, 97, 112, 115]), w ∈ flatC (Jvm.Cond.and given_1 narrow_1) := qBq 383 9 (by decide +kernel)
theorem qaZ0 : ∀ w ∈ zC ("MarchHaresModel", 302, "leap", [108, 101, 97, 112]), w ∈ flatC (Jvm.Cond.and given_1 narrow_1) := qBq 393 8 (by decide +kernel)
theorem qaYJ : ∀ w ∈ zC ("MarchHaresModel", 307, "box", [98, 111, 120]), w ∈ flatC (Jvm.Cond.and given_1 narrow_1) := qBq 402 7 (by decide +kernel)
theorem qaZ4 : ∀ w ∈ zC ("MarchHaresModel", 309, "pay", [112, 97, 121]), w ∈ flatC (Jvm.Cond.and given_1 narrow_1) := qBq 410 7 (by decide +kernel)
theorem qaWA : ∀ w ∈ zC ("MarchHaresModel", 311, "again", [97, 103, 97, 105, 110]), w ∈ flatC (Jvm.Cond.and given_1 narrow_1) := qBq 418 9 (by decide +kernel)
theorem qa7k : ∀ q ∈ zL, ∀ w ∈ zC q, w ∈ flatC (Jvm.Cond.and given_1 narrow_1) :=
  List.forall_mem_cons.mpr ⟨qa1J, List.forall_mem_cons.mpr ⟨qa2K, List.forall_mem_cons.mpr ⟨qa16, List.forall_mem_cons.mpr ⟨qa1t, List.forall_mem_cons.mpr ⟨qa2y, List.forall_mem_cons.mpr ⟨qa2x, List.forall_mem_cons.mpr ⟨qa1D, List.forall_mem_cons.mpr ⟨qa12, List.forall_mem_cons.mpr ⟨qa23, List.forall_mem_cons.mpr ⟨qa2a, List.forall_mem_cons.mpr ⟨qaY2, List.forall_mem_cons.mpr ⟨qaX7, List.forall_mem_cons.mpr ⟨qaW2, List.forall_mem_cons.mpr ⟨qaYH, List.forall_mem_cons.mpr ⟨qaWS, List.forall_mem_cons.mpr ⟨qaXS, List.forall_mem_cons.mpr ⟨qaYg, List.forall_mem_cons.mpr ⟨qaXV, List.forall_mem_cons.mpr ⟨qaZE, List.forall_mem_cons.mpr ⟨qaZn, List.forall_mem_cons.mpr ⟨qaXm, List.forall_mem_cons.mpr ⟨qaZN, List.forall_mem_cons.mpr ⟨qa0c, List.forall_mem_cons.mpr ⟨qaZB, List.forall_mem_cons.mpr ⟨qaZf, List.forall_mem_cons.mpr ⟨qaXo, List.forall_mem_cons.mpr ⟨qaXI, List.forall_mem_cons.mpr ⟨qaW1, List.forall_mem_cons.mpr ⟨qaZC, List.forall_mem_cons.mpr ⟨qaYU, List.forall_mem_cons.mpr ⟨qaXc, List.forall_mem_cons.mpr ⟨qaZz, List.forall_mem_cons.mpr ⟨qaZ0, List.forall_mem_cons.mpr ⟨qaYJ, List.forall_mem_cons.mpr ⟨qaZ4, List.forall_mem_cons.mpr ⟨qaWA, (fun _ h => absurd h List.not_mem_nil)⟩⟩⟩⟩⟩⟩⟩⟩⟩⟩⟩⟩⟩⟩⟩⟩⟩⟩⟩⟩⟩⟩⟩⟩⟩⟩⟩⟩⟩⟩⟩⟩⟩⟩⟩⟩
theorem qbbe : ∀ q ∈ zL, q.2.2.2.length < 2 ^ 31 := by decide +kernel
theorem z_of {args : Array Value} {s : State} {A : Nat → Prop} {n : Nat} {b : Nat → Int32} {tm : Term} (hN : n < 2 ^ 31) (hA : ∀ a : Nat, a < s.heap.size → ¬ A a) (hex : (Cond.exactly tm "java/lang/String").before args s = true) (hco : (Cond.eq (.field tm "java/lang/String" "coder" "B") (.int 0)).before args s = true)
    (har : (Cond.arrayOf (.field tm "java/lang/String" "value" "[B") .byte).before args s = true) (hle : (Cond.eq (.length (.field tm "java/lang/String" "value" "[B")) (.int (Int32.ofNat n))).before args s = true)
    (hel : ∀ j : Nat, j < n → (Cond.eq (.elem (.field tm "java/lang/String" "value" "[B") (.int (Int32.ofNat j))) (.int (b j))).before args s = true) :
    ∃ a : Nat, tm.eval args s none [] s = some (.ref a) ∧ zS n b a A s s.heap := by
  obtain ⟨a, c, cA, kA, q1, q2, q3, q4, q5, q6, -⟩ := Cond.exactly_spec (args := args) (first := s) (o := none) (s := s) (idx := []) (t := tm) (cls := "java/lang/String") hex
  obtain ⟨t, ht, hT⟩ := va_Tof (f := fun j => .int (b j)) (A := A) hN har (va_eqt hle) (fun j hj => va_eqt (hel j hj)) hA
  exact ⟨a, q1, t, ⟨cA, q3, q5, by rw [q6]; exact q2, hA a (Array.getElem?_eq_some_iff.mp q3).1⟩, vk_OFof q1 (va_eqt hco) hA, vk_OFof q1 ht hA, hT⟩
theorem qbmR {p : Program} {s : State} {m : MethodId} {meth : Method} {c : Code} {b : Nat} {xs : Nat → Int32} {L : Nat} (C0 : lw_At p s m meth c b L xs) : zE (fun q : Nat => s.heap.size ≤ q) s s.heap := by
  obtain ⟨hx, hb, hr, hml, hown, hts, hX, hbl, hlocks, hgv⟩ := C0
  have hg := flat_of_before _ hgv
  have hA : ∀ a : Nat, a < s.heap.size → ¬ (fun q : Nat => s.heap.size ≤ q) a := fun a h => Nat.not_le.mpr h
  refine ⟨fun q hq => ?_, va_Zof (hts _ (q5b _ (List.mem_of_getElem? (i := 0) rfl))) (hts _ (q5b _ (List.mem_of_getElem? (i := 1) rfl))) (va_eqt (hg _ (qaLx _ (List.mem_of_getElem? (i := 0) rfl)))) hA, va_Zqof (hts _ (q5b _ (List.mem_of_getElem? (i := 2) rfl))) (hts _ (q5b _ (List.mem_of_getElem? (i := 3) rfl))) (hg _ (qaLx _ (List.mem_of_getElem? (i := 1) rfl))) hA⟩
  have hy := fun w h => hg w (qa7k q hq w h)
  obtain ⟨a, h1, h2⟩ := z_of (tm := .string q.1 q.2.1) (n := q.2.2.2.length) (b := fun j => q.2.2.2.getD j 0) (qbbe q hq) hA (hy _ (List.mem_of_getElem? (i := 0) rfl)) (hy _ (List.mem_of_getElem? (i := 1) rfl)) (hy _ (List.mem_of_getElem? (i := 2) rfl)) (hy _ (List.mem_of_getElem? (i := 3) rfl)) (fun j hj => hy _ (List.mem_cons_of_mem _ (List.mem_cons_of_mem _ (List.mem_cons_of_mem _ (List.mem_cons_of_mem _ (List.mem_map.mpr ⟨j, List.mem_range.mpr hj, rfl⟩))))))
  exact ⟨a, vk_R.of (hts _ (qa7I _ (List.mem_map.mpr ⟨q, hq, rfl⟩))) h1, h2⟩
