set_option maxHeartbeats 16000000 in
set_option maxRecDepth 100000 in
theorem qbbW {p : Program} {l : Launch} {e : Env} {s : State} {m : MethodId} {below : List Frame} {meth : Method} {c : Code} {b L : Nat} {xs : Nat → Int32} (dC : Nat → ClassId) (dI : Nat → Nat → Nat) (cyB cyI cyJ cyP : ClassId) {ax am ao : Nat} (F : lfz L p l s m meth c b xs (dC, dI) (kT cyB cyI cyJ cyP)) (hE : zE (fun q : Nat => s.heap.size ≤ q) s s.heap) (hL : L ≤ 4608) :
    ∀ (r jhl jee jbT jb1 jb2 je6 je7 jfA jct je2 je8 jeL jc1 jc2 jdc jdd jde jcz jc3 jdF jeB jcM jcw jdb jcR jfN jds jdf jeC jd5 jgZ jfa jfm jdt jib jfv jfw jeX jfx jfy jeY jeP jck jeE jhH jfD jey jhz jfh jhf jgw jdW jgx jdX jgy jdY jhT je4 jf4 jgI jez jda jdV jgK jdr jeA jcm jet jbX jhO jgT jgU jhB jgV jfb jhA jhg jgW jia jgo jeM jfP jfQ jgX jiH jeZ am_s jh7 jgY jh6 jhc jhd jhe jgJ jhC jiI jhU : Nat) (jeK jdg jc4 jbY jfi jhk jfI jcT jfJ jcg : Int32) (jdl : NI) (jbS jbN jdM jcO : Int32) (jb4 jb5 jd1 jd0 jeh jce jdI jge : NI) (jdv jdw jdx jdP : Int32) (jdz jdA jdQ jdR jdS jcS jdy jeu : NI) (jcr : Int32) (jcF jcs jev jdL : NI) (jdT : Int32) (jel jdU jfj jeR : NI) (jei : Int32) (jdZ : NI) (jem : Int32) (jen : NI) (jfE jgD jf8 jf9 jgE jfn : Int32) (jgb jgc jfF jgd jga jfG jcA jfH : NI) (jf1 jgs : Value) (jgr jfk : NI) (jdJ : Int32) (jeg : NI) (jcY : Int32) (jcV : NI) (jcZ : Int32) (jcW : NI) (jc0 : Int32) (jcX : NI) (jfq : Int32) (jfW jgL : NI) (jew : Int32) (jfp jd2 jeT : NI) (jeU jeV : Int32) (jft : Value) (jfr jeW jd4 jdG : Int32) (jex jfs jcK jfo : NI) (fo : Nat → Int64) (jcb jg0 jjd jkL jjS jhX jiR jf3 jit jiu jiv jek jd6 jf6 jiw jfX jix jg1 jc9 jjC jj8 jhN jhQ jiA jhM jgQ : Int32) (jcf jhw jh0 jh1 jin jhZ jfu jhi jhh jh2 jiV jgp jeN jgN jgM jh3 jjh jfz fm_s jhI jh4 jhK jic jie jid jhL jiq : NI) (jji : Nat → Int64) (jhm : NI) (i : Int32) (cc ss : Nat), lwI jcT jg0 jdl jhw jcg jf3 jdg jc9 jbS jbN jdM jcO jdI jd1 jd0 jeh jce jb4 jb5 jek jd6 jf6 jfu jhi jhh jcr jcF jcs jfX jgp jeN jei jdZ jhQ jhK jcA jfz jdJ jg1 jeg jhI jeK jgQ jcY jcZ jc0 jcV jcW jcX jhm → 0 ≤ i.toInt → i.toInt ≤ 4608 → (L : Int) - i.toInt < 9 * r → cc + 8 * r ≤ 500000 → ss + 48 * r ≤ 7000000 → ∀ {H : Heap} {locs : List Loc} {ls : Array Slot}, va_P (dC, dI) vwCl (lwW cyB cyI cyJ cyP ax jhl jee jbT jb1 jb2 je6 je7 jfA jct je2 je8 jeL jc1 jc2 jdc jdd jde jcz jc3 jdF jeB jcM jcw jdb jcR jfN jds jdf jeC jd5 jgZ jfa jfm jdt jib jfv jfw jeX jfx jfy jeY jeP jck jeE jhH jfD jey jhz jfh jhf jgw jdW jgx jdX jgy jdY jhT je4 jf4 jgI jez jda jdV jgK jdr jeA jcm jet ao am jbX jhO jgT jgU jhB jgV jfb jhA jhg jgW jia jgo jeM jfP jfQ jgX jiH jeZ am_s jh7 jgY jh6 jhc jhd jhe jgJ jhC jiI jhU jeK jdg jc4 jbY jfi jhk jfI jcT jfJ jcg jdl jbS jbN jdM jcO jb4 jb5 jd1 jd0 jeh jce jdI jge jdv jdw jdx jdP jdz jdA jdQ jdR jdS jcS jdy jeu jcr jcF jcs jev jdL jdT jel jdU jfj jeR jei jdZ jem jen jfE jgD jf8 jf9 jgE jfn jgb jgc jfF jgd jga jfG jcA jfH jf1 jgs jgr jfk jdJ jeg jcY jcV jcZ jcW jc0 jcX jfq jfW jgL jew jfp jd2 jeT jeU jeV jft jfr jeW jd4 jdG jex jfs jcK jfo fo jcb jg0 jjd jkL jjS jhX jiR jf3 jit jiu jiv jek jd6 jf6 jiw jfX jix jg1 jc9 jjC jj8 jhN jhQ jiA jhM jgQ jcf jhw jh0 jh1 jin jhZ jfu jhi jhh jh2 jiV jgp jeN jgN jgM jh3 jjh jfz fm_s jhI jh4 jhK jic jie jid jhL jiq jji jhm) H → va_D (fun q : Nat => s.heap.size ≤ q) (lwW cyB cyI cyJ cyP ax jhl jee jbT jb1 jb2 je6 je7 jfA jct je2 je8 jeL jc1 jc2 jdc jdd jde jcz jc3 jdF jeB jcM jcw jdb jcR jfN jds jdf jeC jd5 jgZ jfa jfm jdt jib jfv jfw jeX jfx jfy jeY jeP jck jeE jhH jfD jey jhz jfh jhf jgw jdW jgx jdX jgy jdY jhT je4 jf4 jgI jez jda jdV jgK jdr jeA jcm jet ao am jbX jhO jgT jgU jhB jgV jfb jhA jhg jgW jia jgo jeM jfP jfQ jgX jiH jeZ am_s jh7 jgY jh6 jhc jhd jhe jgJ jhC jiI jhU jeK jdg jc4 jbY jfi jhk jfI jcT jfJ jcg jdl jbS jbN jdM jcO jb4 jb5 jd1 jd0 jeh jce jdI jge jdv jdw jdx jdP jdz jdA jdQ jdR jdS jcS jdy jeu jcr jcF jcs jev jdL jdT jel jdU jfj jeR jei jdZ jem jen jfE jgD jf8 jf9 jgE jfn jgb jgc jfF jgd jga jfG jcA jfH jf1 jgs jgr jfk jdJ jeg jcY jcV jcZ jcW jc0 jcX jfq jfW jgL jew jfp jd2 jeT jeU jeV jft jfr jeW jd4 jdG jex jfs jcK jfo fo jcb jg0 jjd jkL jjS jhX jiR jf3 jit jiu jiv jek jd6 jf6 jiw jfX jix jg1 jc9 jjC jj8 jhN jhQ jiA jhM jgQ jcf jhw jh0 jh1 jin jhZ jfu jhi jhh jh2 jiV jgp jeN jgN jgM jh3 jjh jfz fm_s jhI jh4 jhK jic jie jid jhL jiq jji jhm) → va_S (fun q : Nat => s.heap.size ≤ q) s.heap H locs → lv_has ls 8 [(0, .ref b), (1, .ref ax), (2, .ref am), (3, .ref ao), (4, .int i)] → W p l e room_1 s m #[Value.ref b] below meth c H locs cc ss (lw_Z below #[Value.ref b] s) (F0 m 23 ls []) := by
  obtain ⟨hx, hb, hr, hml, hown, hts, hX, hbl, hlocks, hK, hNw, hY⟩ := id F
  have hbA : ¬ (fun q : Nat => s.heap.size ≤ q) b := Nat.not_le.mpr hbl
  have e9 : (Int32.ofNat L - 9).toInt = L - 9 := by
    have e1 : (Int32.ofNat L).toInt = L := Int32.toInt_ofNat_of_lt (by omega)
    rw [qpT (by rw [e1, t_9]; omega) (by rw [e1, t_9]; omega), e1, t_9]
  intro r
  induction r with
  | zero =>
    intro jhl jee jbT jb1 jb2 je6 je7 jfA jct je2 je8 jeL jc1 jc2 jdc jdd jde jcz jc3 jdF jeB jcM jcw jdb jcR jfN jds jdf jeC jd5 jgZ jfa jfm jdt jib jfv jfw jeX jfx jfy jeY jeP jck jeE jhH jfD jey jhz jfh jhf jgw jdW jgx jdX jgy jdY jhT je4 jf4 jgI jez jda jdV jgK jdr jeA jcm jet jbX jhO jgT jgU jhB jgV jfb jhA jhg jgW jia jgo jeM jfP jfQ jgX jiH jeZ am_s jh7 jgY jh6 jhc jhd jhe jgJ jhC jiI jhU jeK jdg jc4 jbY jfi jhk jfI jcT jfJ jcg jdl jbS jbN jdM jcO jb4 jb5 jd1 jd0 jeh jce jdI jge jdv jdw jdx jdP jdz jdA jdQ jdR jdS jcS jdy jeu jcr jcF jcs jev jdL jdT jel jdU jfj jeR jei jdZ jem jen jfE jgD jf8 jf9 jgE jfn jgb jgc jfF jgd jga jfG jcA jfH jf1 jgs jgr jfk jdJ jeg jcY jcV jcZ jcW jc0 jcX jfq jfW jgL jew jfp jd2 jeT jeU jeV jft jfr jeW jd4 jdG jex jfs jcK jfo fo jcb jg0 jjd jkL jjS jhX jiR jf3 jit jiu jiv jek jd6 jf6 jiw jfX jix jg1 jc9 jjC jj8 jhN jhQ jiA jhM jgQ jcf jhw jh0 jh1 jin jhZ jfu jhi jhh jh2 jiV jgp jeN jgN jgM jh3 jjh jfz fm_s jhI jh4 jhK jic jie jid jhL jiq jji jhm i cc ss hI i0 i1 i2 hc hn H locs ls hP hD hS hl
    refine lv_iload hx hb (qaa qiy 3 rfl) (lv_at hl 4 rfl) ?_
    refine lv_aload_n hx hb (qaa qiy 4 rfl) rfl (lv_at hl 0 rfl) ?_
    refine va_slen hx hb hX hbl hbA hS (qaa qiy 5 rfl) ?_
    refine lv_bipush (v := 9) hx hb (qaa qiy 6 rfl) (by decide) ?_
    refine lv_isub hx hb (qaa qiy 7 rfl) ?_
    refine lv_icmp_gt (tgt := 1621) hx hb (qaa qiy 8 rfl) (by decide) (fun _ => ?_) (fun c9 => absurd (qao.mpr (by rw [e9]; omega)) c9)
    refine va_forget (fun q hq => hS.2.2 q hq) ?_
    refine W.widen (k := 601024) (n := 7293034) (by omega) (by omega) ?_
    refine lv_iconst (v := 1) hx hb (qaa qjI 12 rfl) (by decide) ?_
    exact lw_ret hx hb hr hlocks (qaa qjI 13 rfl)
  | succ r ih =>
    intro jhl jee jbT jb1 jb2 je6 je7 jfA jct je2 je8 jeL jc1 jc2 jdc jdd jde jcz jc3 jdF jeB jcM jcw jdb jcR jfN jds jdf jeC jd5 jgZ jfa jfm jdt jib jfv jfw jeX jfx jfy jeY jeP jck jeE jhH jfD jey jhz jfh jhf jgw jdW jgx jdX jgy jdY jhT je4 jf4 jgI jez jda jdV jgK jdr jeA jcm jet jbX jhO jgT jgU jhB jgV jfb jhA jhg jgW jia jgo jeM jfP jfQ jgX jiH jeZ am_s jh7 jgY jh6 jhc jhd jhe jgJ jhC jiI jhU jeK jdg jc4 jbY jfi jhk jfI jcT jfJ jcg jdl jbS jbN jdM jcO jb4 jb5 jd1 jd0 jeh jce jdI jge jdv jdw jdx jdP jdz jdA jdQ jdR jdS jcS jdy jeu jcr jcF jcs jev jdL jdT jel jdU jfj jeR jei jdZ jem jen jfE jgD jf8 jf9 jgE jfn jgb jgc jfF jgd jga jfG jcA jfH jf1 jgs jgr jfk jdJ jeg jcY jcV jcZ jcW jc0 jcX jfq jfW jgL jew jfp jd2 jeT jeU jeV jft jfr jeW jd4 jdG jex jfs jcK jfo fo jcb jg0 jjd jkL jjS jhX jiR jf3 jit jiu jiv jek jd6 jf6 jiw jfX jix jg1 jc9 jjC jj8 jhN jhQ jiA jhM jgQ jcf jhw jh0 jh1 jin jhZ jfu jhi jhh jh2 jiV jgp jeN jgN jgM jh3 jjh jfz fm_s jhI jh4 jhK jic jie jid jhL jiq jji jhm i cc ss hI i0 i1 i2 hc hn H locs ls hP hD hS hl
    refine lv_iload hx hb (qaa qiy 3 rfl) (lv_at hl 4 rfl) ?_
    refine lv_aload_n hx hb (qaa qiy 4 rfl) rfl (lv_at hl 0 rfl) ?_
    refine va_slen hx hb hX hbl hbA hS (qaa qiy 5 rfl) ?_
    refine lv_bipush (v := 9) hx hb (qaa qiy 6 rfl) (by decide) ?_
    refine lv_isub hx hb (qaa qiy 7 rfl) ?_
    refine lv_icmp_gt (tgt := 1621) hx hb (qaa qiy 8 rfl) (by decide) (fun _ => ?_) (fun c9 => ?_)
    · refine va_forget (fun q hq => hS.2.2 q hq) ?_
      refine W.widen (k := 601024) (n := 7293034) (by omega) (by omega) ?_
      refine lv_iconst (v := 1) hx hb (qaa qjI 12 rfl) (by decide) ?_
      exact lw_ret hx hb hr hlocks (qaa qjI 13 rfl)
    rw [qao, e9] at c9
    have hi : qnR i L := ⟨i0, by omega, hL⟩
    have hgo : lgo p l e s m below meth c b dC dI cyB cyI cyJ cyP ax am ao i cc ss := by
      intro jhl jee jbT jb1 jb2 je6 je7 jfA jct je2 je8 jeL jc1 jc2 jdc jdd jde jcz jc3 jdF jeB jcM jcw jdb jcR jfN jds jdf jeC jd5 jgZ jfa jfm jdt jib jfv jfw jeX jfx jfy jeY jeP jck jeE jhH jfD jey jhz jfh jhf jgw jdW jgx jdX jgy jdY jhT je4 jf4 jgI jez jda jdV jgK jdr jeA jcm jet jbX jhO jgT jgU jhB jgV jfb jhA jhg jgW jia jgo jeM jfP jfQ jgX jiH jeZ am_s jh7 jgY jh6 jhc jhd jhe jgJ jhC jiI jhU jeK jdg jc4 jbY jfi jhk jfI jcT jfJ jcg jdl jbS jbN jdM jcO jb4 jb5 jd1 jd0 jeh jce jdI jge jdv jdw jdx jdP jdz jdA jdQ jdR jdS jcS jdy jeu jcr jcF jcs jev jdL jdT jel jdU jfj jeR jei jdZ jem jen jfE jgD jf8 jf9 jgE jfn jgb jgc jfF jgd jga jfG jcA jfH jf1 jgs jgr jfk jdJ jeg jcY jcV jcZ jcW jc0 jcX jfq jfW jgL jew jfp jd2 jeT jeU jeV jft jfr jeW jd4 jdG jex jfs jcK jfo fo jcb jg0 jjd jkL jjS jhX jiR jf3 jit jiu jiv jek jd6 jf6 jiw jfX jix jg1 jc9 jjC jj8 jhN jhQ jiA jhM jgQ jcf jhw jh0 jh1 jin jhZ jfu jhi jhh jh2 jiV jgp jeN jgN jgM jh3 jjh jfz fm_s jhI jh4 jhK jic jie jid jhL jiq jji jhm hI H locs ls k n hk hn hP hD hS hl
      have q : (i + 9).toInt = i.toInt + 9 := by rw [qap (by rw [t_9]; omega) (by rw [t_9]; omega), t_9]
      refine lv_iinc (v := i + 9) (lv' := [(4, .int (i + 9)), (0, .ref b), (1, .ref ax), (2, .ref am), (3, .ref ao)]) hx hb (qaa qjI 10 rfl) hl (k := 4) rfl (congrArg (fun z => i + z) (by decide : Int32.ofInt 9 = 9)) (by decide) rfl (fun ls hl => ?_)
      refine lv_goto (tgt := 23) hx hb (qaa qjI 11 rfl) (by decide) ?_
      exact ih jhl jee jbT jb1 jb2 je6 je7 jfA jct je2 je8 jeL jc1 jc2 jdc jdd jde jcz jc3 jdF jeB jcM jcw jdb jcR jfN jds jdf jeC jd5 jgZ jfa jfm jdt jib jfv jfw jeX jfx jfy jeY jeP jck jeE jhH jfD jey jhz jfh jhf jgw jdW jgx jdX jgy jdY jhT je4 jf4 jgI jez jda jdV jgK jdr jeA jcm jet jbX jhO jgT jgU jhB jgV jfb jhA jhg jgW jia jgo jeM jfP jfQ jgX jiH jeZ am_s jh7 jgY jh6 jhc jhd jhe jgJ jhC jiI jhU jeK jdg jc4 jbY jfi jhk jfI jcT jfJ jcg jdl jbS jbN jdM jcO jb4 jb5 jd1 jd0 jeh jce jdI jge jdv jdw jdx jdP jdz jdA jdQ jdR jdS jcS jdy jeu jcr jcF jcs jev jdL jdT jel jdU jfj jeR jei jdZ jem jen jfE jgD jf8 jf9 jgE jfn jgb jgc jfF jgd jga jfG jcA jfH jf1 jgs jgr jfk jdJ jeg jcY jcV jcZ jcW jc0 jcX jfq jfW jgL jew jfp jd2 jeT jeU jeV jft jfr jeW jd4 jdG jex jfs jcK jfo fo jcb jg0 jjd jkL jjS jhX jiR jf3 jit jiu jiv jek jd6 jf6 jiw jfX jix jg1 jc9 jjC jj8 jhN jhQ jiA jhM jgQ jcf jhw jh0 jh1 jin jhZ jfu jhi jhh jh2 jiV jgp jeN jgN jgM jh3 jjh jfz fm_s jhI jh4 jhK jic jie jid jhL jiq jji jhm (i + 9) k n hI (by omega) (by omega) (by omega) (by omega) (by omega) hP hD hS (lv_sub hl [1, 2, 3, 4, 0] rfl)
    refine lv_aload_n hx hb (qaa qiy 9 rfl) rfl (lv_at hl 0 rfl) ?_
    refine lv_iload hx hb (qaa qiy 10 rfl) (lv_at hl 4 rfl) ?_
    refine va_sld hx hb hX hbl hbA hS (qa6 i0 (by omega)) (qaa qiy 11 rfl) ?_
    refine lv_bipush (v := 63) hx hb (qaa qiy 12 rfl) (by decide) ?_
    refine lv_iand hx hb (qaa qiy 13 rfl) ?_
    refine lv_topi (fun y9 ey9 => ?_)
    by_cases c0 : y9.toInt < 0 ∨ 37 < y9.toInt
    · refine lv_tableOut (tgt := 1615) hx hb dL_law__40 c0 (by decide) ?_
      exact hgo jhl jee jbT jb1 jb2 je6 je7 jfA jct je2 je8 jeL jc1 jc2 jdc jdd jde jcz jc3 jdF jeB jcM jcw jdb jcR jfN jds jdf jeC jd5 jgZ jfa jfm jdt jib jfv jfw jeX jfx jfy jeY jeP jck jeE jhH jfD jey jhz jfh jhf jgw jdW jgx jdX jgy jdY jhT je4 jf4 jgI jez jda jdV jgK jdr jeA jcm jet jbX jhO jgT jgU jhB jgV jfb jhA jhg jgW jia jgo jeM jfP jfQ jgX jiH jeZ am_s jh7 jgY jh6 jhc jhd jhe jgJ jhC jiI jhU jeK jdg jc4 jbY jfi jhk jfI jcT jfJ jcg jdl jbS jbN jdM jcO jb4 jb5 jd1 jd0 jeh jce jdI jge jdv jdw jdx jdP jdz jdA jdQ jdR jdS jcS jdy jeu jcr jcF jcs jev jdL jdT jel jdU jfj jeR jei jdZ jem jen jfE jgD jf8 jf9 jgE jfn jgb jgc jfF jgd jga jfG jcA jfH jf1 jgs jgr jfk jdJ jeg jcY jcV jcZ jcW jc0 jcX jfq jfW jgL jew jfp jd2 jeT jeU jeV jft jfr jeW jd4 jdG jex jfs jcK jfo fo jcb jg0 jjd jkL jjS jhX jiR jf3 jit jiu jiv jek jd6 jf6 jiw jfX jix jg1 jc9 jjC jj8 jhN jhQ jiA jhM jgQ jcf jhw jh0 jh1 jin jhZ jfu jhi jhh jh2 jiV jgp jeN jgN jgM jh3 jjh jfz fm_s jhI jh4 jhK jic jie jid jhL jiq jji jhm hI (by omega) (by omega) hP hD hS hl
    rcases qbbi c0 with c0 | c0 | c0 | c0 | c0 | c0 | c0 | c0 | c0 | c0 | c0 | c0 | c0 | c0 | c0 | c0 | c0 | c0 | c0 | c0 | c0 | c0 | c0 | c0 | c0 | c0 | c0 | c0 | c0 | c0 | c0 | c0 | c0 | c0 | c0 | c0 | c0 | c0
    · refine lv_tableIn (tgt := 208) (off := 168) hx hb dL_law__40 (by rw [c0]; decide) (by rw [c0]; decide) (by rw [c0]; decide) (by decide) ?_
      exact qbla dC dI cyB cyI cyJ cyP hi F hE (by omega) (by omega) hI hgo hP hD hS hl
    · refine lv_tableIn (tgt := 281) (off := 241) hx hb dL_law__40 (by rw [c0]; decide) (by rw [c0]; decide) (by rw [c0]; decide) (by decide) ?_
      exact qbiJ dC dI cyB cyI cyJ cyP hi F hE (by omega) (by omega) hI hgo hP hD hS hl
    · refine lv_tableIn (tgt := 309) (off := 269) hx hb dL_law__40 (by rw [c0]; decide) (by rw [c0]; decide) (by rw [c0]; decide) (by decide) ?_
      exact qbkG dC dI cyB cyI cyJ cyP hi F hE (by omega) (by omega) hI hgo hP hD hS hl
    · refine lv_tableIn (tgt := 337) (off := 297) hx hb dL_law__40 (by rw [c0]; decide) (by rw [c0]; decide) (by rw [c0]; decide) (by decide) ?_
      exact qbk0 dC dI cyB cyI cyJ cyP hi F hE (by omega) (by omega) hI hgo hP hD hS hl
    · refine lv_tableIn (tgt := 365) (off := 325) hx hb dL_law__40 (by rw [c0]; decide) (by rw [c0]; decide) (by rw [c0]; decide) (by decide) ?_
      exact qbiI dC dI cyB cyI cyJ cyP hi F hE (by omega) (by omega) hI hgo hP hD hS hl
    · refine lv_tableIn (tgt := 393) (off := 353) hx hb dL_law__40 (by rw [c0]; decide) (by rw [c0]; decide) (by rw [c0]; decide) (by decide) ?_
      exact qbk3 dC dI cyB cyI cyJ cyP hi F hE (by omega) (by omega) hI hgo hP hD hS hl
    · refine lv_tableIn (tgt := 406) (off := 366) hx hb dL_law__40 (by rw [c0]; decide) (by rw [c0]; decide) (by rw [c0]; decide) (by decide) ?_
      exact qbj6 dC dI cyB cyI cyJ cyP hi F hE (by omega) (by omega) hI hgo hP hD hS hl
    · refine lv_tableIn (tgt := 419) (off := 379) hx hb dL_law__40 (by rw [c0]; decide) (by rw [c0]; decide) (by rw [c0]; decide) (by decide) ?_
      exact qbkp dC dI cyB cyI cyJ cyP hi F hE (by omega) (by omega) hI hgo hP hD hS hl
    · refine lv_tableIn (tgt := 447) (off := 407) hx hb dL_law__40 (by rw [c0]; decide) (by rw [c0]; decide) (by rw [c0]; decide) (by decide) ?_
      exact qbig dC dI cyB cyI cyJ cyP hi F hE (by omega) (by omega) hI hgo hP hD hS hl
    · refine lv_tableIn (tgt := 487) (off := 447) hx hb dL_law__40 (by rw [c0]; decide) (by rw [c0]; decide) (by rw [c0]; decide) (by decide) ?_
      exact qbir dC dI cyB cyI cyJ cyP hi F hE (by omega) (by omega) hI hgo hP hD hS hl
    · refine lv_tableIn (tgt := 527) (off := 487) hx hb dL_law__40 (by rw [c0]; decide) (by rw [c0]; decide) (by rw [c0]; decide) (by decide) ?_
      exact qbgJ dC dI cyB cyI cyJ cyP hi F hE (by omega) (by omega) hI hgo hP hD hS hl
    · refine lv_tableIn (tgt := 567) (off := 527) hx hb dL_law__40 (by rw [c0]; decide) (by rw [c0]; decide) (by rw [c0]; decide) (by decide) ?_
      exact qbg0 dC dI cyB cyI cyJ cyP hi F hE (by omega) (by omega) hI hgo hP hD hS hl
    · refine lv_tableIn (tgt := 635) (off := 595) hx hb dL_law__40 (by rw [c0]; decide) (by rw [c0]; decide) (by rw [c0]; decide) (by decide) ?_
      exact qbhc dC dI cyB cyI cyJ cyP hi F hE (by omega) (by omega) hI hgo hP hD hS hl
    · refine lv_tableIn (tgt := 675) (off := 635) hx hb dL_law__40 (by rw [c0]; decide) (by rw [c0]; decide) (by rw [c0]; decide) (by decide) ?_
      exact qbeZ dC dI cyB cyI cyJ cyP hi F hE (by omega) (by omega) hI hgo hP hD hS hl
    · refine lv_tableIn (tgt := 793) (off := 753) hx hb dL_law__40 (by rw [c0]; decide) (by rw [c0]; decide) (by rw [c0]; decide) (by decide) ?_
      exact qbgq dC dI cyB cyI cyJ cyP hi F hE (by omega) (by omega) hI hgo hP hD hS hl
    · refine lv_tableIn (tgt := 833) (off := 793) hx hb dL_law__40 (by rw [c0]; decide) (by rw [c0]; decide) (by rw [c0]; decide) (by decide) ?_
      exact qbfh dC dI cyB cyI cyJ cyP hi F hE (by omega) (by omega) hI hgo hP hD hS hl
    · refine lv_tableIn (tgt := 873) (off := 833) hx hb dL_law__40 (by rw [c0]; decide) (by rw [c0]; decide) (by rw [c0]; decide) (by decide) ?_
      exact qbf7 dC dI cyB cyI cyJ cyP hi F hE (by omega) (by omega) hI hgo hP hD hS hl
    · refine lv_tableIn (tgt := 913) (off := 873) hx hb dL_law__40 (by rw [c0]; decide) (by rw [c0]; decide) (by rw [c0]; decide) (by decide) ?_
      exact qbhr dC dI cyB cyI cyJ cyP hi F hE (by omega) (by omega) hI hgo hP hD hS hl
    · refine lv_tableIn (tgt := 926) (off := 886) hx hb dL_law__40 (by rw [c0]; decide) (by rw [c0]; decide) (by rw [c0]; decide) (by decide) ?_
      exact qbhm dC dI cyB cyI cyJ cyP hi F hE (by omega) (by omega) hI hgo hP hD hS hl
    · refine lv_tableIn (tgt := 954) (off := 914) hx hb dL_law__40 (by rw [c0]; decide) (by rw [c0]; decide) (by rw [c0]; decide) (by decide) ?_
      exact qbgs dC dI cyB cyI cyJ cyP hi F hE (by omega) (by omega) hI hgo hP hD hS hl
    · refine lv_tableIn (tgt := 967) (off := 927) hx hb dL_law__40 (by rw [c0]; decide) (by rw [c0]; decide) (by rw [c0]; decide) (by decide) ?_
      exact qbgQ dC dI cyB cyI cyJ cyP hi F hE (by omega) (by omega) hI hgo hP hD hS hl
    · refine lv_tableIn (tgt := 995) (off := 955) hx hb dL_law__40 (by rw [c0]; decide) (by rw [c0]; decide) (by rw [c0]; decide) (by decide) ?_
      exact qbgX dC dI cyB cyI cyJ cyP hi F hE (by omega) (by omega) hI hgo hP hD hS hl
    · refine lv_tableIn (tgt := 1023) (off := 983) hx hb dL_law__40 (by rw [c0]; decide) (by rw [c0]; decide) (by rw [c0]; decide) (by decide) ?_
      exact qbfu dC dI cyB cyI cyJ cyP hi F hE (by omega) (by omega) hI hgo hP hD hS hl
    · refine lv_tableIn (tgt := 1051) (off := 1011) hx hb dL_law__40 (by rw [c0]; decide) (by rw [c0]; decide) (by rw [c0]; decide) (by decide) ?_
      exact qbfM dC dI cyB cyI cyJ cyP hi F hE (by omega) (by omega) hI hgo hP hD hS hl
    · refine lv_tableIn (tgt := 1079) (off := 1039) hx hb dL_law__40 (by rw [c0]; decide) (by rw [c0]; decide) (by rw [c0]; decide) (by decide) ?_
      exact qbe1 dC dI cyB cyI cyJ cyP hi F hE (by omega) (by omega) hI hgo hP hD hS hl
    · refine lv_tableIn (tgt := 1107) (off := 1067) hx hb dL_law__40 (by rw [c0]; decide) (by rw [c0]; decide) (by rw [c0]; decide) (by decide) ?_
      exact qbfx dC dI cyB cyI cyJ cyP hi F hE (by omega) (by omega) hI hgo hP hD hS hl
    · refine lv_tableIn (tgt := 1171) (off := 1131) hx hb dL_law__40 (by rw [c0]; decide) (by rw [c0]; decide) (by rw [c0]; decide) (by decide) ?_
      exact qbfl dC dI cyB cyI cyJ cyP hi F hE (by omega) (by omega) hI hgo hP hD hS hl
    · refine lv_tableIn (tgt := 1223) (off := 1183) hx hb dL_law__40 (by rw [c0]; decide) (by rw [c0]; decide) (by rw [c0]; decide) (by decide) ?_
      exact qbgS dC dI cyB cyI cyJ cyP hi F hE (by omega) (by omega) hI hgo hP hD hS hl
    · refine lv_tableIn (tgt := 1275) (off := 1235) hx hb dL_law__40 (by rw [c0]; decide) (by rw [c0]; decide) (by rw [c0]; decide) (by decide) ?_
      exact qbeQ dC dI cyB cyI cyJ cyP hi F hE (by omega) (by omega) hI hgo hP hD hS hl
    · refine lv_tableIn (tgt := 1303) (off := 1263) hx hb dL_law__40 (by rw [c0]; decide) (by rw [c0]; decide) (by rw [c0]; decide) (by decide) ?_
      exact qbgR dC dI cyB cyI cyJ cyP hi F hE (by omega) (by omega) hI hgo hP hD hS hl
    · refine lv_tableIn (tgt := 1343) (off := 1303) hx hb dL_law__40 (by rw [c0]; decide) (by rw [c0]; decide) (by rw [c0]; decide) (by decide) ?_
      exact qbgw dC dI cyB cyI cyJ cyP hi F hE (by omega) (by omega) hI hgo hP hD hS hl
    · refine lv_tableIn (tgt := 1383) (off := 1343) hx hb dL_law__40 (by rw [c0]; decide) (by rw [c0]; decide) (by rw [c0]; decide) (by decide) ?_
      exact qbgL dC dI cyB cyI cyJ cyP hi F hE (by omega) (by omega) hI hgo hP hD hS hl
    · refine lv_tableIn (tgt := 1411) (off := 1371) hx hb dL_law__40 (by rw [c0]; decide) (by rw [c0]; decide) (by rw [c0]; decide) (by decide) ?_
      exact qbgf dC dI cyB cyI cyJ cyP hi F hE (by omega) (by omega) hI hgo hP hD hS hl
    · refine lv_tableIn (tgt := 1463) (off := 1423) hx hb dL_law__40 (by rw [c0]; decide) (by rw [c0]; decide) (by rw [c0]; decide) (by decide) ?_
      exact qbfD dC dI cyB cyI cyJ cyP hi F hE (by omega) (by omega) hI hgo hP hD hS hl
    · refine lv_tableIn (tgt := 1539) (off := 1499) hx hb dL_law__40 (by rw [c0]; decide) (by rw [c0]; decide) (by rw [c0]; decide) (by decide) ?_
      exact qbeI dC dI cyB cyI cyJ cyP hi F hE (by omega) (by omega) hI hgo hP hD hS hl
    · refine lv_tableIn (tgt := 1552) (off := 1512) hx hb dL_law__40 (by rw [c0]; decide) (by rw [c0]; decide) (by rw [c0]; decide) (by decide) ?_
      exact qbeO dC dI cyB cyI cyJ cyP hi F hE (by omega) (by omega) hI hgo hP hD hS hl
    · refine lv_tableIn (tgt := 1565) (off := 1525) hx hb dL_law__40 (by rw [c0]; decide) (by rw [c0]; decide) (by rw [c0]; decide) (by decide) ?_
      exact qbfb dC dI cyB cyI cyJ cyP hi F hE (by omega) (by omega) hI hgo hP hD hS hl
    · refine lv_tableIn (tgt := 1590) (off := 1550) hx hb dL_law__40 (by rw [c0]; decide) (by rw [c0]; decide) (by rw [c0]; decide) (by decide) ?_
      exact qbeV dC dI cyB cyI cyJ cyP hi F hE (by omega) (by omega) hI hgo hP hD hS hl
