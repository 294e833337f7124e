set_option maxHeartbeats 16000000 in
set_option maxRecDepth 100000 in
theorem qbbX {p : Program} {l : Launch} {e : Env} {s : State} {m : MethodId} {below : List Frame} {meth : Method} {c : Code} {b L : Nat} {xs : Nat → Int32} (dC : Nat → ClassId) (dI : Nat → Nat → Nat) (cyB cyI cyJ cyP : ClassId) {ax am ao : Nat} (F : lfz L p l s m meth c b xs (dC, dI) (kT cyB cyI cyJ cyP)) (hE : zE (fun q : Nat => s.heap.size ≤ q) s s.heap) (hL : L ≤ 4608) :
    ∀ (r jhc jd7 jbT jbZ jb0 je7 je8 jfA jct je3 je9 jeN jc1 jc2 jdc jdd jde jcz jc3 jdF jer jcJ jcw jc9 jcQ jfP jds jdf jeC jd4 jgY jfa jfm jdt jia jfp jfq jeQ jfr jfs jeR jeP jck jeE jhG jfD jez jhz jfc jhg jgw jdW jgx jdX jgy jdY jhT je4 jf5 jgG jeA jdb jdV jgI jdq jeB jcm jeu jbX jhM jgT jgU jhB jgV je6 jht jg9 jgW jib jgi jeH jfE jfF jgP jiD je0 am_s jhW jgX jh7 jhd jhe jhf jgH jhC jiH jhU : Nat) (jeL jdg jc4 jbY jfi jhk jfK jcT jfL jcg : Int32) (jdl : NI) (jbR jbN jdM jcM : Int32) (jb3 jb4 jd1 jd0 jeh jce jdI jge : NI) (jdv jdw jdx jdP : Int32) (jdz jdA jdQ jdR jdS jcS jdy jev : NI) (jcr : Int32) (jcE jcs jew jdL : NI) (jdT : Int32) (jel jdU jfj jeS : NI) (jei : Int32) (jdZ : NI) (jem : Int32) (jen : NI) (jfG jgB jf8 jf9 jgC jfn : Int32) (jgb jgc jfH jgd jga jfI jcA jfJ : NI) (jf1 jgs : Value) (jgr jfk : NI) (jdJ : Int32) (jeg : NI) (jcY : Int32) (jcV : NI) (jcZ : Int32) (jcW : NI) (jc0 : Int32) (jcX : NI) (jfu : Int32) (jfV jgL : NI) (jex : Int32) (jft jd2 jeV : NI) (jeW jeX : Int32) (jfx : Value) (jfv jeY jd3 jdG : Int32) (jey jfw jcL jfo : NI) (fo : Nat → Int64) (jcb jg0 jjd jkL jjS jhX jiQ jf4 jir jis jit jej jd6 jf3 jiu jfN jiv jg1 jda jjC jj8 jhO jhP jiA jhN jgR : Int32) (jcf jhr jh1 jh2 jin jh0 jfy jhh jhi jh3 jiU jgp jeM jgN jgM jh4 jjh jfz fm_s jhH jh5 jhI jic jie jid jhL jio : NI) (jji : Nat → Int64) (jhm : NI) (i : Int32) (cc ss : Nat), lwI jcT jg0 jdl jhr jcg jf4 jdg jda jbR jbN jdM jcM jdI jd1 jd0 jeh jce jb3 jb4 jej jd6 jf3 jfy jhh jhi jcr jcE jcs jfN jgp jeM jei jdZ jhP jhI jcA jfz jdJ jg1 jeg jhH jeL jgR jcY jcZ jc0 jcV jcW jcX jhm → 0 ≤ i.toInt → i.toInt ≤ 4608 → (L : Int) - i.toInt < 9 * r → cc + 8 * r ≤ 500000 → ss + 48 * r ≤ 7000000 → ∀ {H : Heap} {locs : List Loc} {ls : Array Slot}, va_P (dC, dI) vwCl (lwW cyB cyI cyJ cyP ax jhc jd7 jbT jbZ jb0 je7 je8 jfA jct je3 je9 jeN jc1 jc2 jdc jdd jde jcz jc3 jdF jer jcJ jcw jc9 jcQ jfP jds jdf jeC jd4 jgY jfa jfm jdt jia jfp jfq jeQ jfr jfs jeR jeP jck jeE jhG jfD jez jhz jfc jhg jgw jdW jgx jdX jgy jdY jhT je4 jf5 jgG jeA jdb jdV jgI jdq jeB jcm jeu ao am jbX jhM jgT jgU jhB jgV je6 jht jg9 jgW jib jgi jeH jfE jfF jgP jiD je0 am_s jhW jgX jh7 jhd jhe jhf jgH jhC jiH jhU jeL jdg jc4 jbY jfi jhk jfK jcT jfL jcg jdl jbR jbN jdM jcM jb3 jb4 jd1 jd0 jeh jce jdI jge jdv jdw jdx jdP jdz jdA jdQ jdR jdS jcS jdy jev jcr jcE jcs jew jdL jdT jel jdU jfj jeS jei jdZ jem jen jfG jgB jf8 jf9 jgC jfn jgb jgc jfH jgd jga jfI jcA jfJ jf1 jgs jgr jfk jdJ jeg jcY jcV jcZ jcW jc0 jcX jfu jfV jgL jex jft jd2 jeV jeW jeX jfx jfv jeY jd3 jdG jey jfw jcL jfo fo jcb jg0 jjd jkL jjS jhX jiQ jf4 jir jis jit jej jd6 jf3 jiu jfN jiv jg1 jda jjC jj8 jhO jhP jiA jhN jgR jcf jhr jh1 jh2 jin jh0 jfy jhh jhi jh3 jiU jgp jeM jgN jgM jh4 jjh jfz fm_s jhH jh5 jhI jic jie jid jhL jio jji jhm) H → va_D (fun q : Nat => s.heap.size ≤ q) (lwW cyB cyI cyJ cyP ax jhc jd7 jbT jbZ jb0 je7 je8 jfA jct je3 je9 jeN jc1 jc2 jdc jdd jde jcz jc3 jdF jer jcJ jcw jc9 jcQ jfP jds jdf jeC jd4 jgY jfa jfm jdt jia jfp jfq jeQ jfr jfs jeR jeP jck jeE jhG jfD jez jhz jfc jhg jgw jdW jgx jdX jgy jdY jhT je4 jf5 jgG jeA jdb jdV jgI jdq jeB jcm jeu ao am jbX jhM jgT jgU jhB jgV je6 jht jg9 jgW jib jgi jeH jfE jfF jgP jiD je0 am_s jhW jgX jh7 jhd jhe jhf jgH jhC jiH jhU jeL jdg jc4 jbY jfi jhk jfK jcT jfL jcg jdl jbR jbN jdM jcM jb3 jb4 jd1 jd0 jeh jce jdI jge jdv jdw jdx jdP jdz jdA jdQ jdR jdS jcS jdy jev jcr jcE jcs jew jdL jdT jel jdU jfj jeS jei jdZ jem jen jfG jgB jf8 jf9 jgC jfn jgb jgc jfH jgd jga jfI jcA jfJ jf1 jgs jgr jfk jdJ jeg jcY jcV jcZ jcW jc0 jcX jfu jfV jgL jex jft jd2 jeV jeW jeX jfx jfv jeY jd3 jdG jey jfw jcL jfo fo jcb jg0 jjd jkL jjS jhX jiQ jf4 jir jis jit jej jd6 jf3 jiu jfN jiv jg1 jda jjC jj8 jhO jhP jiA jhN jgR jcf jhr jh1 jh2 jin jh0 jfy jhh jhi jh3 jiU jgp jeM jgN jgM jh4 jjh jfz fm_s jhH jh5 jhI jic jie jid jhL jio jji jhm) → va_S (fun q : Nat => s.heap.size ≤ q) s.heap H locs → lv_has ls 8 [(0, .ref b), (1, .ref ax), (2, .ref am), (3, .ref ao), (4, .int i)] → W p l e room_1 s m #[Value.ref b] below meth c H locs cc ss (lw_Z below #[Value.ref b] s) (F0 m 23 ls []) := by
  obtain ⟨hx, hb, hr, hml, hown, hts, hX, hbl, hlocks, hK, hNw, hY⟩ := id F
  have hbA : ¬ (fun q : Nat => s.heap.size ≤ q) b := Nat.not_le.mpr hbl
  have e9 : (Int32.ofNat L - 9).toInt = L - 9 := by
    have e1 : (Int32.ofNat L).toInt = L := Int32.toInt_ofNat_of_lt (by omega)
    rw [qpS (by rw [e1, t_9]; omega) (by rw [e1, t_9]; omega), e1, t_9]
  intro r
  induction r with
  | zero =>
    intro jhc jd7 jbT jbZ jb0 je7 je8 jfA jct je3 je9 jeN jc1 jc2 jdc jdd jde jcz jc3 jdF jer jcJ jcw jc9 jcQ jfP jds jdf jeC jd4 jgY jfa jfm jdt jia jfp jfq jeQ jfr jfs jeR jeP jck jeE jhG jfD jez jhz jfc jhg jgw jdW jgx jdX jgy jdY jhT je4 jf5 jgG jeA jdb jdV jgI jdq jeB jcm jeu jbX jhM jgT jgU jhB jgV je6 jht jg9 jgW jib jgi jeH jfE jfF jgP jiD je0 am_s jhW jgX jh7 jhd jhe jhf jgH jhC jiH jhU jeL jdg jc4 jbY jfi jhk jfK jcT jfL jcg jdl jbR jbN jdM jcM jb3 jb4 jd1 jd0 jeh jce jdI jge jdv jdw jdx jdP jdz jdA jdQ jdR jdS jcS jdy jev jcr jcE jcs jew jdL jdT jel jdU jfj jeS jei jdZ jem jen jfG jgB jf8 jf9 jgC jfn jgb jgc jfH jgd jga jfI jcA jfJ jf1 jgs jgr jfk jdJ jeg jcY jcV jcZ jcW jc0 jcX jfu jfV jgL jex jft jd2 jeV jeW jeX jfx jfv jeY jd3 jdG jey jfw jcL jfo fo jcb jg0 jjd jkL jjS jhX jiQ jf4 jir jis jit jej jd6 jf3 jiu jfN jiv jg1 jda jjC jj8 jhO jhP jiA jhN jgR jcf jhr jh1 jh2 jin jh0 jfy jhh jhi jh3 jiU jgp jeM jgN jgM jh4 jjh jfz fm_s jhH jh5 jhI jic jie jid jhL jio jji jhm i cc ss hI i0 i1 i2 hc hn H locs ls hP hD hS hl
    refine lv_iload hx hb (qaa qiy 3 rfl) (lv_at hl 4 rfl) ?_
    refine lv_aload_n hx hb (qaa qiy 4 rfl) rfl (lv_at hl 0 rfl) ?_
    refine va_slen hx hb hX hbl hbA hS (qaa qiy 5 rfl) ?_
    refine lv_bipush (v := 9) hx hb (qaa qiy 6 rfl) (by decide) ?_
    refine lv_isub hx hb (qaa qiy 7 rfl) ?_
    refine lv_icmp_gt (tgt := 1621) hx hb (qaa qiy 8 rfl) (by decide) (fun _ => ?_) (fun c9 => absurd (qao.mpr (by rw [e9]; omega)) c9)
    refine va_forget (fun q hq => hS.2.2 q hq) ?_
    refine W.widen (k := 601024) (n := 7293034) (by omega) (by omega) ?_
    refine lv_iconst (v := 1) hx hb (qaa qjI 12 rfl) (by decide) ?_
    exact lw_ret hx hb hr hlocks (qaa qjI 13 rfl)
  | succ r ih =>
    intro jhc jd7 jbT jbZ jb0 je7 je8 jfA jct je3 je9 jeN jc1 jc2 jdc jdd jde jcz jc3 jdF jer jcJ jcw jc9 jcQ jfP jds jdf jeC jd4 jgY jfa jfm jdt jia jfp jfq jeQ jfr jfs jeR jeP jck jeE jhG jfD jez jhz jfc jhg jgw jdW jgx jdX jgy jdY jhT je4 jf5 jgG jeA jdb jdV jgI jdq jeB jcm jeu jbX jhM jgT jgU jhB jgV je6 jht jg9 jgW jib jgi jeH jfE jfF jgP jiD je0 am_s jhW jgX jh7 jhd jhe jhf jgH jhC jiH jhU jeL jdg jc4 jbY jfi jhk jfK jcT jfL jcg jdl jbR jbN jdM jcM jb3 jb4 jd1 jd0 jeh jce jdI jge jdv jdw jdx jdP jdz jdA jdQ jdR jdS jcS jdy jev jcr jcE jcs jew jdL jdT jel jdU jfj jeS jei jdZ jem jen jfG jgB jf8 jf9 jgC jfn jgb jgc jfH jgd jga jfI jcA jfJ jf1 jgs jgr jfk jdJ jeg jcY jcV jcZ jcW jc0 jcX jfu jfV jgL jex jft jd2 jeV jeW jeX jfx jfv jeY jd3 jdG jey jfw jcL jfo fo jcb jg0 jjd jkL jjS jhX jiQ jf4 jir jis jit jej jd6 jf3 jiu jfN jiv jg1 jda jjC jj8 jhO jhP jiA jhN jgR jcf jhr jh1 jh2 jin jh0 jfy jhh jhi jh3 jiU jgp jeM jgN jgM jh4 jjh jfz fm_s jhH jh5 jhI jic jie jid jhL jio jji jhm i cc ss hI i0 i1 i2 hc hn H locs ls hP hD hS hl
    refine lv_iload hx hb (qaa qiy 3 rfl) (lv_at hl 4 rfl) ?_
    refine lv_aload_n hx hb (qaa qiy 4 rfl) rfl (lv_at hl 0 rfl) ?_
    refine va_slen hx hb hX hbl hbA hS (qaa qiy 5 rfl) ?_
    refine lv_bipush (v := 9) hx hb (qaa qiy 6 rfl) (by decide) ?_
    refine lv_isub hx hb (qaa qiy 7 rfl) ?_
    refine lv_icmp_gt (tgt := 1621) hx hb (qaa qiy 8 rfl) (by decide) (fun _ => ?_) (fun c9 => ?_)
    · refine va_forget (fun q hq => hS.2.2 q hq) ?_
      refine W.widen (k := 601024) (n := 7293034) (by omega) (by omega) ?_
      refine lv_iconst (v := 1) hx hb (qaa qjI 12 rfl) (by decide) ?_
      exact lw_ret hx hb hr hlocks (qaa qjI 13 rfl)
    rw [qao, e9] at c9
    have hi : qnQ i L := ⟨i0, by omega, hL⟩
    have hgo : lgo p l e s m below meth c b dC dI cyB cyI cyJ cyP ax am ao i cc ss := by
      intro jhc jd7 jbT jbZ jb0 je7 je8 jfA jct je3 je9 jeN jc1 jc2 jdc jdd jde jcz jc3 jdF jer jcJ jcw jc9 jcQ jfP jds jdf jeC jd4 jgY jfa jfm jdt jia jfp jfq jeQ jfr jfs jeR jeP jck jeE jhG jfD jez jhz jfc jhg jgw jdW jgx jdX jgy jdY jhT je4 jf5 jgG jeA jdb jdV jgI jdq jeB jcm jeu jbX jhM jgT jgU jhB jgV je6 jht jg9 jgW jib jgi jeH jfE jfF jgP jiD je0 am_s jhW jgX jh7 jhd jhe jhf jgH jhC jiH jhU jeL jdg jc4 jbY jfi jhk jfK jcT jfL jcg jdl jbR jbN jdM jcM jb3 jb4 jd1 jd0 jeh jce jdI jge jdv jdw jdx jdP jdz jdA jdQ jdR jdS jcS jdy jev jcr jcE jcs jew jdL jdT jel jdU jfj jeS jei jdZ jem jen jfG jgB jf8 jf9 jgC jfn jgb jgc jfH jgd jga jfI jcA jfJ jf1 jgs jgr jfk jdJ jeg jcY jcV jcZ jcW jc0 jcX jfu jfV jgL jex jft jd2 jeV jeW jeX jfx jfv jeY jd3 jdG jey jfw jcL jfo fo jcb jg0 jjd jkL jjS jhX jiQ jf4 jir jis jit jej jd6 jf3 jiu jfN jiv jg1 jda jjC jj8 jhO jhP jiA jhN jgR jcf jhr jh1 jh2 jin jh0 jfy jhh jhi jh3 jiU jgp jeM jgN jgM jh4 jjh jfz fm_s jhH jh5 jhI jic jie jid jhL jio jji jhm hI H locs ls k n hk hn hP hD hS hl
      have q : (i + 9).toInt = i.toInt + 9 := by rw [qap (by rw [t_9]; omega) (by rw [t_9]; omega), t_9]
      refine lv_iinc (v := i + 9) (lv' := [(4, .int (i + 9)), (0, .ref b), (1, .ref ax), (2, .ref am), (3, .ref ao)]) hx hb (qaa qjI 10 rfl) hl (k := 4) rfl (congrArg (fun z => i + z) (by decide : Int32.ofInt 9 = 9)) (by decide) rfl (fun ls hl => ?_)
      refine lv_goto (tgt := 23) hx hb (qaa qjI 11 rfl) (by decide) ?_
      exact ih jhc jd7 jbT jbZ jb0 je7 je8 jfA jct je3 je9 jeN jc1 jc2 jdc jdd jde jcz jc3 jdF jer jcJ jcw jc9 jcQ jfP jds jdf jeC jd4 jgY jfa jfm jdt jia jfp jfq jeQ jfr jfs jeR jeP jck jeE jhG jfD jez jhz jfc jhg jgw jdW jgx jdX jgy jdY jhT je4 jf5 jgG jeA jdb jdV jgI jdq jeB jcm jeu jbX jhM jgT jgU jhB jgV je6 jht jg9 jgW jib jgi jeH jfE jfF jgP jiD je0 am_s jhW jgX jh7 jhd jhe jhf jgH jhC jiH jhU jeL jdg jc4 jbY jfi jhk jfK jcT jfL jcg jdl jbR jbN jdM jcM jb3 jb4 jd1 jd0 jeh jce jdI jge jdv jdw jdx jdP jdz jdA jdQ jdR jdS jcS jdy jev jcr jcE jcs jew jdL jdT jel jdU jfj jeS jei jdZ jem jen jfG jgB jf8 jf9 jgC jfn jgb jgc jfH jgd jga jfI jcA jfJ jf1 jgs jgr jfk jdJ jeg jcY jcV jcZ jcW jc0 jcX jfu jfV jgL jex jft jd2 jeV jeW jeX jfx jfv jeY jd3 jdG jey jfw jcL jfo fo jcb jg0 jjd jkL jjS jhX jiQ jf4 jir jis jit jej jd6 jf3 jiu jfN jiv jg1 jda jjC jj8 jhO jhP jiA jhN jgR jcf jhr jh1 jh2 jin jh0 jfy jhh jhi jh3 jiU jgp jeM jgN jgM jh4 jjh jfz fm_s jhH jh5 jhI jic jie jid jhL jio jji jhm (i + 9) k n hI (by omega) (by omega) (by omega) (by omega) (by omega) hP hD hS (lv_sub hl [1, 2, 3, 4, 0] rfl)
    refine lv_aload_n hx hb (qaa qiy 9 rfl) rfl (lv_at hl 0 rfl) ?_
    refine lv_iload hx hb (qaa qiy 10 rfl) (lv_at hl 4 rfl) ?_
    refine va_sld hx hb hX hbl hbA hS (qa6 i0 (by omega)) (qaa qiy 11 rfl) ?_
    refine lv_bipush (v := 63) hx hb (qaa qiy 12 rfl) (by decide) ?_
    refine lv_iand hx hb (qaa qiy 13 rfl) ?_
    refine lv_topi (fun y9 ey9 => ?_)
    by_cases c0 : y9.toInt < 0 ∨ 37 < y9.toInt
    · refine lv_tableOut (tgt := 1615) hx hb dL_law__40 c0 (by decide) ?_
      exact hgo jhc jd7 jbT jbZ jb0 je7 je8 jfA jct je3 je9 jeN jc1 jc2 jdc jdd jde jcz jc3 jdF jer jcJ jcw jc9 jcQ jfP jds jdf jeC jd4 jgY jfa jfm jdt jia jfp jfq jeQ jfr jfs jeR jeP jck jeE jhG jfD jez jhz jfc jhg jgw jdW jgx jdX jgy jdY jhT je4 jf5 jgG jeA jdb jdV jgI jdq jeB jcm jeu jbX jhM jgT jgU jhB jgV je6 jht jg9 jgW jib jgi jeH jfE jfF jgP jiD je0 am_s jhW jgX jh7 jhd jhe jhf jgH jhC jiH jhU jeL jdg jc4 jbY jfi jhk jfK jcT jfL jcg jdl jbR jbN jdM jcM jb3 jb4 jd1 jd0 jeh jce jdI jge jdv jdw jdx jdP jdz jdA jdQ jdR jdS jcS jdy jev jcr jcE jcs jew jdL jdT jel jdU jfj jeS jei jdZ jem jen jfG jgB jf8 jf9 jgC jfn jgb jgc jfH jgd jga jfI jcA jfJ jf1 jgs jgr jfk jdJ jeg jcY jcV jcZ jcW jc0 jcX jfu jfV jgL jex jft jd2 jeV jeW jeX jfx jfv jeY jd3 jdG jey jfw jcL jfo fo jcb jg0 jjd jkL jjS jhX jiQ jf4 jir jis jit jej jd6 jf3 jiu jfN jiv jg1 jda jjC jj8 jhO jhP jiA jhN jgR jcf jhr jh1 jh2 jin jh0 jfy jhh jhi jh3 jiU jgp jeM jgN jgM jh4 jjh jfz fm_s jhH jh5 jhI jic jie jid jhL jio jji jhm hI (by omega) (by omega) hP hD hS hl
    rcases qbbj c0 with c0 | c0 | c0 | c0 | c0 | c0 | c0 | c0 | c0 | c0 | c0 | c0 | c0 | c0 | c0 | c0 | c0 | c0 | c0 | c0 | c0 | c0 | c0 | c0 | c0 | c0 | c0 | c0 | c0 | c0 | c0 | c0 | c0 | c0 | c0 | c0 | c0 | c0
    · refine lv_tableIn (tgt := 208) (off := 168) hx hb dL_law__40 (by rw [c0]; decide) (by rw [c0]; decide) (by rw [c0]; decide) (by decide) ?_
      exact qbk9 dC dI cyB cyI cyJ cyP hi F hE (by omega) (by omega) hI hgo hP hD hS hl
    · refine lv_tableIn (tgt := 281) (off := 241) hx hb dL_law__40 (by rw [c0]; decide) (by rw [c0]; decide) (by rw [c0]; decide) (by decide) ?_
      exact qbiH dC dI cyB cyI cyJ cyP hi F hE (by omega) (by omega) hI hgo hP hD hS hl
    · refine lv_tableIn (tgt := 309) (off := 269) hx hb dL_law__40 (by rw [c0]; decide) (by rw [c0]; decide) (by rw [c0]; decide) (by decide) ?_
      exact qbkG dC dI cyB cyI cyJ cyP hi F hE (by omega) (by omega) hI hgo hP hD hS hl
    · refine lv_tableIn (tgt := 337) (off := 297) hx hb dL_law__40 (by rw [c0]; decide) (by rw [c0]; decide) (by rw [c0]; decide) (by decide) ?_
      exact qbk0 dC dI cyB cyI cyJ cyP hi F hE (by omega) (by omega) hI hgo hP hD hS hl
    · refine lv_tableIn (tgt := 393) (off := 353) hx hb dL_law__40 (by rw [c0]; decide) (by rw [c0]; decide) (by rw [c0]; decide) (by decide) ?_
      exact qbiG dC dI cyB cyI cyJ cyP hi F hE (by omega) (by omega) hI hgo hP hD hS hl
    · refine lv_tableIn (tgt := 421) (off := 381) hx hb dL_law__40 (by rw [c0]; decide) (by rw [c0]; decide) (by rw [c0]; decide) (by decide) ?_
      exact qbk3 dC dI cyB cyI cyJ cyP hi F hE (by omega) (by omega) hI hgo hP hD hS hl
    · refine lv_tableIn (tgt := 434) (off := 394) hx hb dL_law__40 (by rw [c0]; decide) (by rw [c0]; decide) (by rw [c0]; decide) (by decide) ?_
      exact qbj4 dC dI cyB cyI cyJ cyP hi F hE (by omega) (by omega) hI hgo hP hD hS hl
    · refine lv_tableIn (tgt := 447) (off := 407) hx hb dL_law__40 (by rw [c0]; decide) (by rw [c0]; decide) (by rw [c0]; decide) (by decide) ?_
      exact qbko dC dI cyB cyI cyJ cyP hi F hE (by omega) (by omega) hI hgo hP hD hS hl
    · refine lv_tableIn (tgt := 475) (off := 435) hx hb dL_law__40 (by rw [c0]; decide) (by rw [c0]; decide) (by rw [c0]; decide) (by decide) ?_
      exact qbie dC dI cyB cyI cyJ cyP hi F hE (by omega) (by omega) hI hgo hP hD hS hl
    · refine lv_tableIn (tgt := 515) (off := 475) hx hb dL_law__40 (by rw [c0]; decide) (by rw [c0]; decide) (by rw [c0]; decide) (by decide) ?_
      exact qbip dC dI cyB cyI cyJ cyP hi F hE (by omega) (by omega) hI hgo hP hD hS hl
    · refine lv_tableIn (tgt := 555) (off := 515) hx hb dL_law__40 (by rw [c0]; decide) (by rw [c0]; decide) (by rw [c0]; decide) (by decide) ?_
      exact qbgG dC dI cyB cyI cyJ cyP hi F hE (by omega) (by omega) hI hgo hP hD hS hl
    · refine lv_tableIn (tgt := 595) (off := 555) hx hb dL_law__40 (by rw [c0]; decide) (by rw [c0]; decide) (by rw [c0]; decide) (by decide) ?_
      exact qbgX dC dI cyB cyI cyJ cyP hi F hE (by omega) (by omega) hI hgo hP hD hS hl
    · refine lv_tableIn (tgt := 635) (off := 595) hx hb dL_law__40 (by rw [c0]; decide) (by rw [c0]; decide) (by rw [c0]; decide) (by decide) ?_
      exact qbg9 dC dI cyB cyI cyJ cyP hi F hE (by omega) (by omega) hI hgo hP hD hS hl
    · refine lv_tableIn (tgt := 675) (off := 635) hx hb dL_law__40 (by rw [c0]; decide) (by rw [c0]; decide) (by rw [c0]; decide) (by decide) ?_
      exact qbeW dC dI cyB cyI cyJ cyP hi F hE (by omega) (by omega) hI hgo hP hD hS hl
    · refine lv_tableIn (tgt := 793) (off := 753) hx hb dL_law__40 (by rw [c0]; decide) (by rw [c0]; decide) (by rw [c0]; decide) (by decide) ?_
      exact qbgn dC dI cyB cyI cyJ cyP hi F hE (by omega) (by omega) hI hgo hP hD hS hl
    · refine lv_tableIn (tgt := 833) (off := 793) hx hb dL_law__40 (by rw [c0]; decide) (by rw [c0]; decide) (by rw [c0]; decide) (by decide) ?_
      exact qbfe dC dI cyB cyI cyJ cyP hi F hE (by omega) (by omega) hI hgo hP hD hS hl
    · refine lv_tableIn (tgt := 873) (off := 833) hx hb dL_law__40 (by rw [c0]; decide) (by rw [c0]; decide) (by rw [c0]; decide) (by decide) ?_
      exact qbf4 dC dI cyB cyI cyJ cyP hi F hE (by omega) (by omega) hI hgo hP hD hS hl
    · refine lv_tableIn (tgt := 913) (off := 873) hx hb dL_law__40 (by rw [c0]; decide) (by rw [c0]; decide) (by rw [c0]; decide) (by decide) ?_
      exact qbho dC dI cyB cyI cyJ cyP hi F hE (by omega) (by omega) hI hgo hP hD hS hl
    · refine lv_tableIn (tgt := 926) (off := 886) hx hb dL_law__40 (by rw [c0]; decide) (by rw [c0]; decide) (by rw [c0]; decide) (by decide) ?_
      exact qbhj dC dI cyB cyI cyJ cyP hi F hE (by omega) (by omega) hI hgo hP hD hS hl
    · refine lv_tableIn (tgt := 954) (off := 914) hx hb dL_law__40 (by rw [c0]; decide) (by rw [c0]; decide) (by rw [c0]; decide) (by decide) ?_
      exact qbgp dC dI cyB cyI cyJ cyP hi F hE (by omega) (by omega) hI hgo hP hD hS hl
    · refine lv_tableIn (tgt := 967) (off := 927) hx hb dL_law__40 (by rw [c0]; decide) (by rw [c0]; decide) (by rw [c0]; decide) (by decide) ?_
      exact qbgN dC dI cyB cyI cyJ cyP hi F hE (by omega) (by omega) hI hgo hP hD hS hl
    · refine lv_tableIn (tgt := 995) (off := 955) hx hb dL_law__40 (by rw [c0]; decide) (by rw [c0]; decide) (by rw [c0]; decide) (by decide) ?_
      exact qbgU dC dI cyB cyI cyJ cyP hi F hE (by omega) (by omega) hI hgo hP hD hS hl
    · refine lv_tableIn (tgt := 1023) (off := 983) hx hb dL_law__40 (by rw [c0]; decide) (by rw [c0]; decide) (by rw [c0]; decide) (by decide) ?_
      exact qbfr dC dI cyB cyI cyJ cyP hi F hE (by omega) (by omega) hI hgo hP hD hS hl
    · refine lv_tableIn (tgt := 1051) (off := 1011) hx hb dL_law__40 (by rw [c0]; decide) (by rw [c0]; decide) (by rw [c0]; decide) (by decide) ?_
      exact qbfJ dC dI cyB cyI cyJ cyP hi F hE (by omega) (by omega) hI hgo hP hD hS hl
    · refine lv_tableIn (tgt := 1079) (off := 1039) hx hb dL_law__40 (by rw [c0]; decide) (by rw [c0]; decide) (by rw [c0]; decide) (by decide) ?_
      exact qbeY dC dI cyB cyI cyJ cyP hi F hE (by omega) (by omega) hI hgo hP hD hS hl
    · refine lv_tableIn (tgt := 1107) (off := 1067) hx hb dL_law__40 (by rw [c0]; decide) (by rw [c0]; decide) (by rw [c0]; decide) (by decide) ?_
      exact qbfu dC dI cyB cyI cyJ cyP hi F hE (by omega) (by omega) hI hgo hP hD hS hl
    · refine lv_tableIn (tgt := 1171) (off := 1131) hx hb dL_law__40 (by rw [c0]; decide) (by rw [c0]; decide) (by rw [c0]; decide) (by decide) ?_
      exact qbfi dC dI cyB cyI cyJ cyP hi F hE (by omega) (by omega) hI hgo hP hD hS hl
    · refine lv_tableIn (tgt := 1223) (off := 1183) hx hb dL_law__40 (by rw [c0]; decide) (by rw [c0]; decide) (by rw [c0]; decide) (by decide) ?_
      exact qbgP dC dI cyB cyI cyJ cyP hi F hE (by omega) (by omega) hI hgo hP hD hS hl
    · refine lv_tableIn (tgt := 1275) (off := 1235) hx hb dL_law__40 (by rw [c0]; decide) (by rw [c0]; decide) (by rw [c0]; decide) (by decide) ?_
      exact qbeN dC dI cyB cyI cyJ cyP hi F hE (by omega) (by omega) hI hgo hP hD hS hl
    · refine lv_tableIn (tgt := 1303) (off := 1263) hx hb dL_law__40 (by rw [c0]; decide) (by rw [c0]; decide) (by rw [c0]; decide) (by decide) ?_
      exact qbgO dC dI cyB cyI cyJ cyP hi F hE (by omega) (by omega) hI hgo hP hD hS hl
    · refine lv_tableIn (tgt := 1343) (off := 1303) hx hb dL_law__40 (by rw [c0]; decide) (by rw [c0]; decide) (by rw [c0]; decide) (by decide) ?_
      exact qbgt dC dI cyB cyI cyJ cyP hi F hE (by omega) (by omega) hI hgo hP hD hS hl
    · refine lv_tableIn (tgt := 1383) (off := 1343) hx hb dL_law__40 (by rw [c0]; decide) (by rw [c0]; decide) (by rw [c0]; decide) (by decide) ?_
      exact qbgI dC dI cyB cyI cyJ cyP hi F hE (by omega) (by omega) hI hgo hP hD hS hl
    · refine lv_tableIn (tgt := 1411) (off := 1371) hx hb dL_law__40 (by rw [c0]; decide) (by rw [c0]; decide) (by rw [c0]; decide) (by decide) ?_
      exact qbgc dC dI cyB cyI cyJ cyP hi F hE (by omega) (by omega) hI hgo hP hD hS hl
    · refine lv_tableIn (tgt := 1463) (off := 1423) hx hb dL_law__40 (by rw [c0]; decide) (by rw [c0]; decide) (by rw [c0]; decide) (by decide) ?_
      exact qbfA dC dI cyB cyI cyJ cyP hi F hE (by omega) (by omega) hI hgo hP hD hS hl
    · refine lv_tableIn (tgt := 1539) (off := 1499) hx hb dL_law__40 (by rw [c0]; decide) (by rw [c0]; decide) (by rw [c0]; decide) (by decide) ?_
      exact qbeF dC dI cyB cyI cyJ cyP hi F hE (by omega) (by omega) hI hgo hP hD hS hl
    · refine lv_tableIn (tgt := 1552) (off := 1512) hx hb dL_law__40 (by rw [c0]; decide) (by rw [c0]; decide) (by rw [c0]; decide) (by decide) ?_
      exact qbeL dC dI cyB cyI cyJ cyP hi F hE (by omega) (by omega) hI hgo hP hD hS hl
    · refine lv_tableIn (tgt := 1565) (off := 1525) hx hb dL_law__40 (by rw [c0]; decide) (by rw [c0]; decide) (by rw [c0]; decide) (by decide) ?_
      exact qbe8 dC dI cyB cyI cyJ cyP hi F hE (by omega) (by omega) hI hgo hP hD hS hl
    · refine lv_tableIn (tgt := 1590) (off := 1550) hx hb dL_law__40 (by rw [c0]; decide) (by rw [c0]; decide) (by rw [c0]; decide) (by decide) ?_
      exact qbeS dC dI cyB cyI cyJ cyP hi F hE (by omega) (by omega) hI hgo hP hD hS hl
