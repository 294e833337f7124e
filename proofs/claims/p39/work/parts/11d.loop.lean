set_option maxHeartbeats 16000000 in
set_option maxRecDepth 100000 in
theorem qbb1 {p : Program} {l : Launch} {e : Env} {s : State} {m : MethodId} {below : List Frame} {meth : Method} {c : Code} {b L : Nat} {xs : Nat → Int32} (dC : Nat → ClassId) (dI : Nat → Nat → Nat) (cyB cyI cyJ cyP : ClassId) {ax am ao : Nat} (F : lfz L p l s m meth c b xs (dC, dI) (kT cyB cyI cyJ cyP)) (hE : zE (fun q : Nat => s.heap.size ≤ q) s s.heap) (hL : L ≤ 4608) :
    ∀ (r jhk jd8 jbT jb1 jb2 je4 je5 jfA jct jeZ je6 jeL jc1 jc2 jdc jdd jde jcy jc3 jdF jeB jcL jcw jdb jcR jfL jds jdf jeC jd4 jgY je9 jfm jdt jib jfv jfw jeX jfx jfy jeY jeP jcm jeE jhG jfD jet jhz jfd jhe jgw jdW jgx jdX jgy jdY jhT je1 jf4 jgG jez jda jdV jgI jdm jeA jcl jeo jbX jhO jgS jgT jhB jgU jfa jhA jhf jgV jia jgo jeM jfN jfO jgW jiG je3 am_s jh7 jgX jh6 jhb jhc jhd jgH jhC jiH jhU : Nat) (jeH jdg jc4 jbY jfi jhj jfI jcT jfJ jcg : Int32) (jdl : NI) (jbS jbN jdM jcM : Int32) (jb4 jb5 jd1 jd0 jeh jce jdJ jgd : NI) (jdv jdw jdx jdP : Int32) (jdz jdA jdQ jdR jdS jcS jdy jep : NI) (jcr : Int32) (jcE jcs jeq jdK : NI) (jdT : Int32) (jel jdU jfj jeQ : NI) (jei : Int32) (jdZ : NI) (jem : Int32) (jen : NI) (jfE jgA jf7 jf8 jgB jfn : Int32) (jga jgb jfF jgc jf9 jfG jcA jfH : NI) (jf0 jgs : Value) (jgr jfk : NI) (jdI : Int32) (jeg : NI) (jcY : Int32) (jcV : NI) (jcZ : Int32) (jcW : NI) (jc0 : Int32) (jcX : NI) (jfq : Int32) (jfT jgL : NI) (jer : Int32) (jfp jd2 jeT : NI) (jeU jeV : Int32) (jft : Value) (jfr jeW jd3 jdG : Int32) (jes jfs jcK jfo : NI) (fo : Nat → Int64) (jcb jg0 jjd jkL jjS jhW jiQ jf1 jir jis jit jek jd6 jf6 jiu jfU jiv jg1 jc8 jjC jj8 jhN jhP jiA jhM jgQ : Int32) (jcf jhs jh0 jh1 jin jhZ jfu jhh jhg jh2 jiU jgp jeN jgN jgM jh3 jjh jfz fm_s jhH jh4 jhI jic jie jid jhL jio : NI) (jji : Nat → Int64) (jhm : NI) (i : Int32) (cc ss : Nat), lwI jcT jg0 jdl jhs jcg jf1 jdg jc8 jbS jbN jdM jcM jdJ jd1 jd0 jeh jce jb4 jb5 jek jd6 jf6 jfu jhh jhg jcr jcE jcs jfU jgp jeN jei jdZ jhP jhI jcA jfz jdI jg1 jeg jhH jeH jgQ jcY jcZ jc0 jcV jcW jcX jhm → 0 ≤ i.toInt → i.toInt ≤ 4608 → (L : Int) - i.toInt < 9 * r → cc + 8 * r ≤ 500000 → ss + 48 * r ≤ 7000000 → ∀ {H : Heap} {locs : List Loc} {ls : Array Slot}, va_P (dC, dI) vwCl (lwW cyB cyI cyJ cyP ax jhk jd8 jbT jb1 jb2 je4 je5 jfA jct jeZ je6 jeL jc1 jc2 jdc jdd jde jcy jc3 jdF jeB jcL jcw jdb jcR jfL jds jdf jeC jd4 jgY je9 jfm jdt jib jfv jfw jeX jfx jfy jeY jeP jcm jeE jhG jfD jet jhz jfd jhe jgw jdW jgx jdX jgy jdY jhT je1 jf4 jgG jez jda jdV jgI jdm jeA jcl jeo ao am jbX jhO jgS jgT jhB jgU jfa jhA jhf jgV jia jgo jeM jfN jfO jgW jiG je3 am_s jh7 jgX jh6 jhb jhc jhd jgH jhC jiH jhU jeH jdg jc4 jbY jfi jhj jfI jcT jfJ jcg jdl jbS jbN jdM jcM jb4 jb5 jd1 jd0 jeh jce jdJ jgd jdv jdw jdx jdP jdz jdA jdQ jdR jdS jcS jdy jep jcr jcE jcs jeq jdK jdT jel jdU jfj jeQ jei jdZ jem jen jfE jgA jf7 jf8 jgB jfn jga jgb jfF jgc jf9 jfG jcA jfH jf0 jgs jgr jfk jdI jeg jcY jcV jcZ jcW jc0 jcX jfq jfT jgL jer jfp jd2 jeT jeU jeV jft jfr jeW jd3 jdG jes jfs jcK jfo fo jcb jg0 jjd jkL jjS jhW jiQ jf1 jir jis jit jek jd6 jf6 jiu jfU jiv jg1 jc8 jjC jj8 jhN jhP jiA jhM jgQ jcf jhs jh0 jh1 jin jhZ jfu jhh jhg jh2 jiU jgp jeN jgN jgM jh3 jjh jfz fm_s jhH jh4 jhI jic jie jid jhL jio jji jhm) H → va_D (fun q : Nat => s.heap.size ≤ q) (lwW cyB cyI cyJ cyP ax jhk jd8 jbT jb1 jb2 je4 je5 jfA jct jeZ je6 jeL jc1 jc2 jdc jdd jde jcy jc3 jdF jeB jcL jcw jdb jcR jfL jds jdf jeC jd4 jgY je9 jfm jdt jib jfv jfw jeX jfx jfy jeY jeP jcm jeE jhG jfD jet jhz jfd jhe jgw jdW jgx jdX jgy jdY jhT je1 jf4 jgG jez jda jdV jgI jdm jeA jcl jeo ao am jbX jhO jgS jgT jhB jgU jfa jhA jhf jgV jia jgo jeM jfN jfO jgW jiG je3 am_s jh7 jgX jh6 jhb jhc jhd jgH jhC jiH jhU jeH jdg jc4 jbY jfi jhj jfI jcT jfJ jcg jdl jbS jbN jdM jcM jb4 jb5 jd1 jd0 jeh jce jdJ jgd jdv jdw jdx jdP jdz jdA jdQ jdR jdS jcS jdy jep jcr jcE jcs jeq jdK jdT jel jdU jfj jeQ jei jdZ jem jen jfE jgA jf7 jf8 jgB jfn jga jgb jfF jgc jf9 jfG jcA jfH jf0 jgs jgr jfk jdI jeg jcY jcV jcZ jcW jc0 jcX jfq jfT jgL jer jfp jd2 jeT jeU jeV jft jfr jeW jd3 jdG jes jfs jcK jfo fo jcb jg0 jjd jkL jjS jhW jiQ jf1 jir jis jit jek jd6 jf6 jiu jfU jiv jg1 jc8 jjC jj8 jhN jhP jiA jhM jgQ jcf jhs jh0 jh1 jin jhZ jfu jhh jhg jh2 jiU jgp jeN jgN jgM jh3 jjh jfz fm_s jhH jh4 jhI jic jie jid jhL jio jji jhm) → va_S (fun q : Nat => s.heap.size ≤ q) s.heap H locs → lv_has ls 8 [(0, .ref b), (1, .ref ax), (2, .ref am), (3, .ref ao), (4, .int i)] → W p l e room_1 s m #[Value.ref b] below meth c H locs cc ss (lw_Z below #[Value.ref b] s) (F0 m 23 ls []) := by
  obtain ⟨hx, hb, hr, hml, hown, hts, hX, hbl, hlocks, hK, hNw, hY⟩ := id F
  have hbA : ¬ (fun q : Nat => s.heap.size ≤ q) b := Nat.not_le.mpr hbl
  have e9 : (Int32.ofNat L - 9).toInt = L - 9 := by
    have e1 : (Int32.ofNat L).toInt = L := Int32.toInt_ofNat_of_lt (by omega)
    rw [qpQ (by rw [e1, t_9]; omega) (by rw [e1, t_9]; omega), e1, t_9]
  intro r
  induction r with
  | zero =>
    intro jhk jd8 jbT jb1 jb2 je4 je5 jfA jct jeZ je6 jeL jc1 jc2 jdc jdd jde jcy jc3 jdF jeB jcL jcw jdb jcR jfL jds jdf jeC jd4 jgY je9 jfm jdt jib jfv jfw jeX jfx jfy jeY jeP jcm jeE jhG jfD jet jhz jfd jhe jgw jdW jgx jdX jgy jdY jhT je1 jf4 jgG jez jda jdV jgI jdm jeA jcl jeo jbX jhO jgS jgT jhB jgU jfa jhA jhf jgV jia jgo jeM jfN jfO jgW jiG je3 am_s jh7 jgX jh6 jhb jhc jhd jgH jhC jiH jhU jeH jdg jc4 jbY jfi jhj jfI jcT jfJ jcg jdl jbS jbN jdM jcM jb4 jb5 jd1 jd0 jeh jce jdJ jgd jdv jdw jdx jdP jdz jdA jdQ jdR jdS jcS jdy jep jcr jcE jcs jeq jdK jdT jel jdU jfj jeQ jei jdZ jem jen jfE jgA jf7 jf8 jgB jfn jga jgb jfF jgc jf9 jfG jcA jfH jf0 jgs jgr jfk jdI jeg jcY jcV jcZ jcW jc0 jcX jfq jfT jgL jer jfp jd2 jeT jeU jeV jft jfr jeW jd3 jdG jes jfs jcK jfo fo jcb jg0 jjd jkL jjS jhW jiQ jf1 jir jis jit jek jd6 jf6 jiu jfU jiv jg1 jc8 jjC jj8 jhN jhP jiA jhM jgQ jcf jhs jh0 jh1 jin jhZ jfu jhh jhg jh2 jiU jgp jeN jgN jgM jh3 jjh jfz fm_s jhH jh4 jhI jic jie jid jhL jio jji jhm i cc ss hI i0 i1 i2 hc hn H locs ls hP hD hS hl
    refine lv_iload hx hb (qaa qix 3 rfl) (lv_at hl 4 rfl) ?_
    refine lv_aload_n hx hb (qaa qix 4 rfl) rfl (lv_at hl 0 rfl) ?_
    refine va_slen hx hb hX hbl hbA hS (qaa qix 5 rfl) ?_
    refine lv_bipush (v := 9) hx hb (qaa qix 6 rfl) (by decide) ?_
    refine lv_isub hx hb (qaa qix 7 rfl) ?_
    refine lv_icmp_gt (tgt := 1593) hx hb (qaa qix 8 rfl) (by decide) (fun _ => ?_) (fun c9 => absurd (qao.mpr (by rw [e9]; omega)) c9)
    refine va_forget (fun q hq => hS.2.2 q hq) ?_
    refine W.widen (k := 601024) (n := 7293034) (by omega) (by omega) ?_
    refine lv_iconst (v := 1) hx hb (qaa qtN 6 rfl) (by decide) ?_
    exact lw_ret hx hb hr hlocks (qaa qtN 7 rfl)
  | succ r ih =>
    intro jhk jd8 jbT jb1 jb2 je4 je5 jfA jct jeZ je6 jeL jc1 jc2 jdc jdd jde jcy jc3 jdF jeB jcL jcw jdb jcR jfL jds jdf jeC jd4 jgY je9 jfm jdt jib jfv jfw jeX jfx jfy jeY jeP jcm jeE jhG jfD jet jhz jfd jhe jgw jdW jgx jdX jgy jdY jhT je1 jf4 jgG jez jda jdV jgI jdm jeA jcl jeo jbX jhO jgS jgT jhB jgU jfa jhA jhf jgV jia jgo jeM jfN jfO jgW jiG je3 am_s jh7 jgX jh6 jhb jhc jhd jgH jhC jiH jhU jeH jdg jc4 jbY jfi jhj jfI jcT jfJ jcg jdl jbS jbN jdM jcM jb4 jb5 jd1 jd0 jeh jce jdJ jgd jdv jdw jdx jdP jdz jdA jdQ jdR jdS jcS jdy jep jcr jcE jcs jeq jdK jdT jel jdU jfj jeQ jei jdZ jem jen jfE jgA jf7 jf8 jgB jfn jga jgb jfF jgc jf9 jfG jcA jfH jf0 jgs jgr jfk jdI jeg jcY jcV jcZ jcW jc0 jcX jfq jfT jgL jer jfp jd2 jeT jeU jeV jft jfr jeW jd3 jdG jes jfs jcK jfo fo jcb jg0 jjd jkL jjS jhW jiQ jf1 jir jis jit jek jd6 jf6 jiu jfU jiv jg1 jc8 jjC jj8 jhN jhP jiA jhM jgQ jcf jhs jh0 jh1 jin jhZ jfu jhh jhg jh2 jiU jgp jeN jgN jgM jh3 jjh jfz fm_s jhH jh4 jhI jic jie jid jhL jio jji jhm i cc ss hI i0 i1 i2 hc hn H locs ls hP hD hS hl
    refine lv_iload hx hb (qaa qix 3 rfl) (lv_at hl 4 rfl) ?_
    refine lv_aload_n hx hb (qaa qix 4 rfl) rfl (lv_at hl 0 rfl) ?_
    refine va_slen hx hb hX hbl hbA hS (qaa qix 5 rfl) ?_
    refine lv_bipush (v := 9) hx hb (qaa qix 6 rfl) (by decide) ?_
    refine lv_isub hx hb (qaa qix 7 rfl) ?_
    refine lv_icmp_gt (tgt := 1593) hx hb (qaa qix 8 rfl) (by decide) (fun _ => ?_) (fun c9 => ?_)
    · refine va_forget (fun q hq => hS.2.2 q hq) ?_
      refine W.widen (k := 601024) (n := 7293034) (by omega) (by omega) ?_
      refine lv_iconst (v := 1) hx hb (qaa qtN 6 rfl) (by decide) ?_
      exact lw_ret hx hb hr hlocks (qaa qtN 7 rfl)
    rw [qao, e9] at c9
    have hi : qnO i L := ⟨i0, by omega, hL⟩
    have hgo : lgo p l e s m below meth c b dC dI cyB cyI cyJ cyP ax am ao i cc ss := by
      intro jhk jd8 jbT jb1 jb2 je4 je5 jfA jct jeZ je6 jeL jc1 jc2 jdc jdd jde jcy jc3 jdF jeB jcL jcw jdb jcR jfL jds jdf jeC jd4 jgY je9 jfm jdt jib jfv jfw jeX jfx jfy jeY jeP jcm jeE jhG jfD jet jhz jfd jhe jgw jdW jgx jdX jgy jdY jhT je1 jf4 jgG jez jda jdV jgI jdm jeA jcl jeo jbX jhO jgS jgT jhB jgU jfa jhA jhf jgV jia jgo jeM jfN jfO jgW jiG je3 am_s jh7 jgX jh6 jhb jhc jhd jgH jhC jiH jhU jeH jdg jc4 jbY jfi jhj jfI jcT jfJ jcg jdl jbS jbN jdM jcM jb4 jb5 jd1 jd0 jeh jce jdJ jgd jdv jdw jdx jdP jdz jdA jdQ jdR jdS jcS jdy jep jcr jcE jcs jeq jdK jdT jel jdU jfj jeQ jei jdZ jem jen jfE jgA jf7 jf8 jgB jfn jga jgb jfF jgc jf9 jfG jcA jfH jf0 jgs jgr jfk jdI jeg jcY jcV jcZ jcW jc0 jcX jfq jfT jgL jer jfp jd2 jeT jeU jeV jft jfr jeW jd3 jdG jes jfs jcK jfo fo jcb jg0 jjd jkL jjS jhW jiQ jf1 jir jis jit jek jd6 jf6 jiu jfU jiv jg1 jc8 jjC jj8 jhN jhP jiA jhM jgQ jcf jhs jh0 jh1 jin jhZ jfu jhh jhg jh2 jiU jgp jeN jgN jgM jh3 jjh jfz fm_s jhH jh4 jhI jic jie jid jhL jio jji jhm hI H locs ls k n hk hn hP hD hS hl
      have q : (i + 9).toInt = i.toInt + 9 := by rw [qap (by rw [t_9]; omega) (by rw [t_9]; omega), t_9]
      refine lv_iinc (v := i + 9) (lv' := [(4, .int (i + 9)), (0, .ref b), (1, .ref ax), (2, .ref am), (3, .ref ao)]) hx hb (qaa qtN 4 rfl) hl (k := 4) rfl (congrArg (fun z => i + z) (by decide : Int32.ofInt 9 = 9)) (by decide) rfl (fun ls hl => ?_)
      refine lv_goto (tgt := 23) hx hb (qaa qtN 5 rfl) (by decide) ?_
      exact ih jhk jd8 jbT jb1 jb2 je4 je5 jfA jct jeZ je6 jeL jc1 jc2 jdc jdd jde jcy jc3 jdF jeB jcL jcw jdb jcR jfL jds jdf jeC jd4 jgY je9 jfm jdt jib jfv jfw jeX jfx jfy jeY jeP jcm jeE jhG jfD jet jhz jfd jhe jgw jdW jgx jdX jgy jdY jhT je1 jf4 jgG jez jda jdV jgI jdm jeA jcl jeo jbX jhO jgS jgT jhB jgU jfa jhA jhf jgV jia jgo jeM jfN jfO jgW jiG je3 am_s jh7 jgX jh6 jhb jhc jhd jgH jhC jiH jhU jeH jdg jc4 jbY jfi jhj jfI jcT jfJ jcg jdl jbS jbN jdM jcM jb4 jb5 jd1 jd0 jeh jce jdJ jgd jdv jdw jdx jdP jdz jdA jdQ jdR jdS jcS jdy jep jcr jcE jcs jeq jdK jdT jel jdU jfj jeQ jei jdZ jem jen jfE jgA jf7 jf8 jgB jfn jga jgb jfF jgc jf9 jfG jcA jfH jf0 jgs jgr jfk jdI jeg jcY jcV jcZ jcW jc0 jcX jfq jfT jgL jer jfp jd2 jeT jeU jeV jft jfr jeW jd3 jdG jes jfs jcK jfo fo jcb jg0 jjd jkL jjS jhW jiQ jf1 jir jis jit jek jd6 jf6 jiu jfU jiv jg1 jc8 jjC jj8 jhN jhP jiA jhM jgQ jcf jhs jh0 jh1 jin jhZ jfu jhh jhg jh2 jiU jgp jeN jgN jgM jh3 jjh jfz fm_s jhH jh4 jhI jic jie jid jhL jio jji jhm (i + 9) k n hI (by omega) (by omega) (by omega) (by omega) (by omega) hP hD hS (lv_sub hl [1, 2, 3, 4, 0] rfl)
    refine lv_aload_n hx hb (qaa qix 9 rfl) rfl (lv_at hl 0 rfl) ?_
    refine lv_iload hx hb (qaa qix 10 rfl) (lv_at hl 4 rfl) ?_
    refine va_sld hx hb hX hbl hbA hS (qa5 i0 (by omega)) (qaa qix 11 rfl) ?_
    refine lv_bipush (v := 63) hx hb (qaa qix 12 rfl) (by decide) ?_
    refine lv_iand hx hb (qaa qix 13 rfl) ?_
    refine lv_topi (fun y9 ey9 => ?_)
    by_cases c0 : y9.toInt < 0 ∨ 37 < y9.toInt
    · refine lv_tableOut (tgt := 1587) hx hb dL_law__40 c0 (by decide) ?_
      exact hgo jhk jd8 jbT jb1 jb2 je4 je5 jfA jct jeZ je6 jeL jc1 jc2 jdc jdd jde jcy jc3 jdF jeB jcL jcw jdb jcR jfL jds jdf jeC jd4 jgY je9 jfm jdt jib jfv jfw jeX jfx jfy jeY jeP jcm jeE jhG jfD jet jhz jfd jhe jgw jdW jgx jdX jgy jdY jhT je1 jf4 jgG jez jda jdV jgI jdm jeA jcl jeo jbX jhO jgS jgT jhB jgU jfa jhA jhf jgV jia jgo jeM jfN jfO jgW jiG je3 am_s jh7 jgX jh6 jhb jhc jhd jgH jhC jiH jhU jeH jdg jc4 jbY jfi jhj jfI jcT jfJ jcg jdl jbS jbN jdM jcM jb4 jb5 jd1 jd0 jeh jce jdJ jgd jdv jdw jdx jdP jdz jdA jdQ jdR jdS jcS jdy jep jcr jcE jcs jeq jdK jdT jel jdU jfj jeQ jei jdZ jem jen jfE jgA jf7 jf8 jgB jfn jga jgb jfF jgc jf9 jfG jcA jfH jf0 jgs jgr jfk jdI jeg jcY jcV jcZ jcW jc0 jcX jfq jfT jgL jer jfp jd2 jeT jeU jeV jft jfr jeW jd3 jdG jes jfs jcK jfo fo jcb jg0 jjd jkL jjS jhW jiQ jf1 jir jis jit jek jd6 jf6 jiu jfU jiv jg1 jc8 jjC jj8 jhN jhP jiA jhM jgQ jcf jhs jh0 jh1 jin jhZ jfu jhh jhg jh2 jiU jgp jeN jgN jgM jh3 jjh jfz fm_s jhH jh4 jhI jic jie jid jhL jio jji jhm hI (by omega) (by omega) hP hD hS hl
    rcases qbbT c0 with c0 | c0 | c0 | c0 | c0 | c0 | c0 | c0 | c0 | c0 | c0 | c0 | c0 | c0 | c0 | c0 | c0 | c0 | c0 | c0 | c0 | c0 | c0 | c0 | c0 | c0 | c0 | c0 | c0 | c0 | c0 | c0 | c0 | c0 | c0 | c0 | c0 | c0
    · refine lv_tableIn (tgt := 208) (off := 168) hx hb dL_law__40 (by rw [c0]; decide) (by rw [c0]; decide) (by rw [c0]; decide) (by decide) ?_
      exact qbiN dC dI cyB cyI cyJ cyP hi F hE (by omega) (by omega) hI hgo hP hD hS hl
    · refine lv_tableIn (tgt := 281) (off := 241) hx hb dL_law__40 (by rw [c0]; decide) (by rw [c0]; decide) (by rw [c0]; decide) (by decide) ?_
      exact qbjA dC dI cyB cyI cyJ cyP hi F hE (by omega) (by omega) hI hgo hP hD hS hl
    · refine lv_tableIn (tgt := 309) (off := 269) hx hb dL_law__40 (by rw [c0]; decide) (by rw [c0]; decide) (by rw [c0]; decide) (by decide) ?_
      exact qbjR dC dI cyB cyI cyJ cyP hi F hE (by omega) (by omega) hI hgo hP hD hS hl
    · refine lv_tableIn (tgt := 337) (off := 297) hx hb dL_law__40 (by rw [c0]; decide) (by rw [c0]; decide) (by rw [c0]; decide) (by decide) ?_
      exact qbid dC dI cyB cyI cyJ cyP hi F hE (by omega) (by omega) hI hgo hP hD hS hl
    · refine lv_tableIn (tgt := 365) (off := 325) hx hb dL_law__40 (by rw [c0]; decide) (by rw [c0]; decide) (by rw [c0]; decide) (by decide) ?_
      exact qbjb dC dI cyB cyI cyJ cyP hi F hE (by omega) (by omega) hI hgo hP hD hS hl
    · refine lv_tableIn (tgt := 393) (off := 353) hx hb dL_law__40 (by rw [c0]; decide) (by rw [c0]; decide) (by rw [c0]; decide) (by decide) ?_
      exact qbjB dC dI cyB cyI cyJ cyP hi F hE (by omega) (by omega) hI hgo hP hD hS hl
    · refine lv_tableIn (tgt := 406) (off := 366) hx hb dL_law__40 (by rw [c0]; decide) (by rw [c0]; decide) (by rw [c0]; decide) (by decide) ?_
      exact qbhN dC dI cyB cyI cyJ cyP hi F hE (by omega) (by omega) hI hgo hP hD hS hl
    · refine lv_tableIn (tgt := 419) (off := 379) hx hb dL_law__40 (by rw [c0]; decide) (by rw [c0]; decide) (by rw [c0]; decide) (by decide) ?_
      exact qbiO dC dI cyB cyI cyJ cyP hi F hE (by omega) (by omega) hI hgo hP hD hS hl
    · refine lv_tableIn (tgt := 447) (off := 407) hx hb dL_law__40 (by rw [c0]; decide) (by rw [c0]; decide) (by rw [c0]; decide) (by decide) ?_
      exact qbkg dC dI cyB cyI cyJ cyP hi F hE (by omega) (by omega) hI hgo hP hD hS hl
    · refine lv_tableIn (tgt := 487) (off := 447) hx hb dL_law__40 (by rw [c0]; decide) (by rw [c0]; decide) (by rw [c0]; decide) (by decide) ?_
      exact qbkc dC dI cyB cyI cyJ cyP hi F hE (by omega) (by omega) hI hgo hP hD hS hl
    · refine lv_tableIn (tgt := 527) (off := 487) hx hb dL_law__40 (by rw [c0]; decide) (by rw [c0]; decide) (by rw [c0]; decide) (by decide) ?_
      exact qbeY dC dI cyB cyI cyJ cyP hi F hE (by omega) (by omega) hI hgo hP hD hS hl
    · refine lv_tableIn (tgt := 567) (off := 527) hx hb dL_law__40 (by rw [c0]; decide) (by rw [c0]; decide) (by rw [c0]; decide) (by decide) ?_
      exact qbff dC dI cyB cyI cyJ cyP hi F hE (by omega) (by omega) hI hgo hP hD hS hl
    · refine lv_tableIn (tgt := 607) (off := 567) hx hb dL_law__40 (by rw [c0]; decide) (by rw [c0]; decide) (by rw [c0]; decide) (by decide) ?_
      exact qbhe dC dI cyB cyI cyJ cyP hi F hE (by omega) (by omega) hI hgo hP hD hS hl
    · refine lv_tableIn (tgt := 647) (off := 607) hx hb dL_law__40 (by rw [c0]; decide) (by rw [c0]; decide) (by rw [c0]; decide) (by decide) ?_
      exact qbf5 dC dI cyB cyI cyJ cyP hi F hE (by omega) (by omega) hI hgo hP hD hS hl
    · refine lv_tableIn (tgt := 765) (off := 725) hx hb dL_law__40 (by rw [c0]; decide) (by rw [c0]; decide) (by rw [c0]; decide) (by decide) ?_
      exact qbfj dC dI cyB cyI cyJ cyP hi F hE (by omega) (by omega) hI hgo hP hD hS hl
    · refine lv_tableIn (tgt := 805) (off := 765) hx hb dL_law__40 (by rw [c0]; decide) (by rw [c0]; decide) (by rw [c0]; decide) (by decide) ?_
      exact qbfo dC dI cyB cyI cyJ cyP hi F hE (by omega) (by omega) hI hgo hP hD hS hl
    · refine lv_tableIn (tgt := 845) (off := 805) hx hb dL_law__40 (by rw [c0]; decide) (by rw [c0]; decide) (by rw [c0]; decide) (by decide) ?_
      exact qbgl dC dI cyB cyI cyJ cyP hi F hE (by omega) (by omega) hI hgo hP hD hS hl
    · refine lv_tableIn (tgt := 885) (off := 845) hx hb dL_law__40 (by rw [c0]; decide) (by rw [c0]; decide) (by rw [c0]; decide) (by decide) ?_
      exact qbeB dC dI cyB cyI cyJ cyP hi F hE (by omega) (by omega) hI hgo hP hD hS hl
    · refine lv_tableIn (tgt := 898) (off := 858) hx hb dL_law__40 (by rw [c0]; decide) (by rw [c0]; decide) (by rw [c0]; decide) (by decide) ?_
      exact qbgZ dC dI cyB cyI cyJ cyP hi F hE (by omega) (by omega) hI hgo hP hD hS hl
    · refine lv_tableIn (tgt := 926) (off := 886) hx hb dL_law__40 (by rw [c0]; decide) (by rw [c0]; decide) (by rw [c0]; decide) (by decide) ?_
      exact qbfA dC dI cyB cyI cyJ cyP hi F hE (by omega) (by omega) hI hgo hP hD hS hl
    · refine lv_tableIn (tgt := 939) (off := 899) hx hb dL_law__40 (by rw [c0]; decide) (by rw [c0]; decide) (by rw [c0]; decide) (by decide) ?_
      exact qbf1 dC dI cyB cyI cyJ cyP hi F hE (by omega) (by omega) hI hgo hP hD hS hl
    · refine lv_tableIn (tgt := 967) (off := 927) hx hb dL_law__40 (by rw [c0]; decide) (by rw [c0]; decide) (by rw [c0]; decide) (by decide) ?_
      exact qbfz dC dI cyB cyI cyJ cyP hi F hE (by omega) (by omega) hI hgo hP hD hS hl
    · refine lv_tableIn (tgt := 995) (off := 955) hx hb dL_law__40 (by rw [c0]; decide) (by rw [c0]; decide) (by rw [c0]; decide) (by decide) ?_
      exact qbf0 dC dI cyB cyI cyJ cyP hi F hE (by omega) (by omega) hI hgo hP hD hS hl
    · refine lv_tableIn (tgt := 1023) (off := 983) hx hb dL_law__40 (by rw [c0]; decide) (by rw [c0]; decide) (by rw [c0]; decide) (by decide) ?_
      exact qbgK dC dI cyB cyI cyJ cyP hi F hE (by omega) (by omega) hI hgo hP hD hS hl
    · refine lv_tableIn (tgt := 1051) (off := 1011) hx hb dL_law__40 (by rw [c0]; decide) (by rw [c0]; decide) (by rw [c0]; decide) (by decide) ?_
      exact qbf3 dC dI cyB cyI cyJ cyP hi F hE (by omega) (by omega) hI hgo hP hD hS hl
    · refine lv_tableIn (tgt := 1079) (off := 1039) hx hb dL_law__40 (by rw [c0]; decide) (by rw [c0]; decide) (by rw [c0]; decide) (by decide) ?_
      exact qbgd dC dI cyB cyI cyJ cyP hi F hE (by omega) (by omega) hI hgo hP hD hS hl
    · refine lv_tableIn (tgt := 1143) (off := 1103) hx hb dL_law__40 (by rw [c0]; decide) (by rw [c0]; decide) (by rw [c0]; decide) (by decide) ?_
      exact qbeD dC dI cyB cyI cyJ cyP hi F hE (by omega) (by omega) hI hgo hP hD hS hl
    · refine lv_tableIn (tgt := 1195) (off := 1155) hx hb dL_law__40 (by rw [c0]; decide) (by rw [c0]; decide) (by rw [c0]; decide) (by decide) ?_
      exact qbf8 dC dI cyB cyI cyJ cyP hi F hE (by omega) (by omega) hI hgo hP hD hS hl
    · refine lv_tableIn (tgt := 1247) (off := 1207) hx hb dL_law__40 (by rw [c0]; decide) (by rw [c0]; decide) (by rw [c0]; decide) (by decide) ?_
      exact qbhd dC dI cyB cyI cyJ cyP hi F hE (by omega) (by omega) hI hgo hP hD hS hl
    · refine lv_tableIn (tgt := 1275) (off := 1235) hx hb dL_law__40 (by rw [c0]; decide) (by rw [c0]; decide) (by rw [c0]; decide) (by decide) ?_
      exact qbeQ dC dI cyB cyI cyJ cyP hi F hE (by omega) (by omega) hI hgo hP hD hS hl
    · refine lv_tableIn (tgt := 1315) (off := 1275) hx hb dL_law__40 (by rw [c0]; decide) (by rw [c0]; decide) (by rw [c0]; decide) (by decide) ?_
      exact qbeN dC dI cyB cyI cyJ cyP hi F hE (by omega) (by omega) hI hgo hP hD hS hl
    · refine lv_tableIn (tgt := 1355) (off := 1315) hx hb dL_law__40 (by rw [c0]; decide) (by rw [c0]; decide) (by rw [c0]; decide) (by decide) ?_
      exact qbgQ dC dI cyB cyI cyJ cyP hi F hE (by omega) (by omega) hI hgo hP hD hS hl
    · refine lv_tableIn (tgt := 1383) (off := 1343) hx hb dL_law__40 (by rw [c0]; decide) (by rw [c0]; decide) (by rw [c0]; decide) (by decide) ?_
      exact qben dC dI cyB cyI cyJ cyP hi F hE (by omega) (by omega) hI hgo hP hD hS hl
    · refine lv_tableIn (tgt := 1435) (off := 1395) hx hb dL_law__40 (by rw [c0]; decide) (by rw [c0]; decide) (by rw [c0]; decide) (by decide) ?_
      exact qbfu dC dI cyB cyI cyJ cyP hi F hE (by omega) (by omega) hI hgo hP hD hS hl
    · refine lv_tableIn (tgt := 1511) (off := 1471) hx hb dL_law__40 (by rw [c0]; decide) (by rw [c0]; decide) (by rw [c0]; decide) (by decide) ?_
      exact qbfO dC dI cyB cyI cyJ cyP hi F hE (by omega) (by omega) hI hgo hP hD hS hl
    · refine lv_tableIn (tgt := 1524) (off := 1484) hx hb dL_law__40 (by rw [c0]; decide) (by rw [c0]; decide) (by rw [c0]; decide) (by decide) ?_
      exact qbeP dC dI cyB cyI cyJ cyP hi F hE (by omega) (by omega) hI hgo hP hD hS hl
    · refine lv_tableIn (tgt := 1537) (off := 1497) hx hb dL_law__40 (by rw [c0]; decide) (by rw [c0]; decide) (by rw [c0]; decide) (by decide) ?_
      exact qbfC dC dI cyB cyI cyJ cyP hi F hE (by omega) (by omega) hI hgo hP hD hS hl
    · refine lv_tableIn (tgt := 1562) (off := 1522) hx hb dL_law__40 (by rw [c0]; decide) (by rw [c0]; decide) (by rw [c0]; decide) (by decide) ?_
      exact qbfE dC dI cyB cyI cyJ cyP hi F hE (by omega) (by omega) hI hgo hP hD hS hl
