set_option maxHeartbeats 16000000 in
set_option maxRecDepth 100000 in
theorem qbb1 {p : Program} {l : Launch} {e : Env} {s : State} {m : MethodId} {below : List Frame} {meth : Method} {c : Code} {b L : Nat} {xs : Nat → Int32} (dC : Nat → ClassId) (dI : Nat → Nat → Nat) (cyB cyI cyJ cyP : ClassId) {ax am ao : Nat} (F : lfz L p l s m meth c b xs (dC, dI) (kT cyB cyI cyJ cyP)) (hE : zE (fun q : Nat => s.heap.size ≤ q) s s.heap) (hL : L ≤ 4608) :
    ∀ (r jhl jee jbS jbZ jb0 je7 je8 jfA jct je2 je9 jeN jc1 jc2 jdc jdd jde jcz jc3 jdF jer jcJ jcw jc9 jcQ jfQ jds jdf jeC jd5 jgY jfb jfm jdt jib jfw jfx jeX jfy jfz jeY jeP jck jeE jhH jfD jez jhz jfh jhf jgw jdW jgx jdX jgy jdY jhT je4 jf4 jgI jeA jdb jdV jgK jdr jeB jcm jeu jbX jhO jgS jgT jhB jgU je6 jhA jhg jgV jia jgj jeH jfE jfF jgW jiH jeZ am_s jh7 jgX jh6 jhc jhd jhe jgJ jhC jiI jhU : Nat) (jeL jdg jc4 jbY jfi jhk jfK jcT jfL jcg : Int32) (jdl : NI) (jbR jbN jdM jcO : Int32) (jb3 jb4 jd1 jd0 jeh jce jdI jge : NI) (jdv jdw jdx jdP : Int32) (jdz jdA jdQ jdR jdS jcS jdy jev : NI) (jcr : Int32) (jcE jcs jew jdL : NI) (jdT : Int32) (jel jdU jfj jeR : NI) (jei : Int32) (jdZ : NI) (jem : Int32) (jen : NI) (jfG jgD jf8 jf9 jgE jfn : Int32) (jgb jgc jfH jgd jga jfI jcA jfJ : NI) (jf1 jgs : Value) (jgr jfk : NI) (jdJ : Int32) (jeg : NI) (jcY : Int32) (jcV : NI) (jcZ : Int32) (jcW : NI) (jc0 : Int32) (jcX : NI) (jfq : Int32) (jfX jgL : NI) (jex : Int32) (jfp jd2 jeT : NI) (jeU jeV : Int32) (jft : Value) (jfr jeW jd4 jdG : Int32) (jey jfs jcL jfo : NI) (fo : Nat → Int64) (jca jg0 jjd jkL jjS jhX jiR jf3 jir jis jit jej jd6 jf6 jiu jfN jiv jg1 jda jjC jj8 jhN jhP jiA jhM jgQ : Int32) (jcf jhu jh0 jh1 jin jhZ jfu jhi jhh jh2 jiV jgp jeM jgN jgM jh3 jjh jfv fm_s jhI jh4 jhK jic jie jid jhL jio : NI) (jji : Nat → Int64) (jhm : NI) (i : Int32) (cc ss : Nat), lwI jcT jg0 jdl jhu jcg jf3 jdg jda jbR jbN jdM jcO jdI jd1 jd0 jeh jce jb3 jb4 jej jd6 jf6 jfu jhi jhh jcr jcE jcs jfN jgp jeM jei jdZ jhP jhK jcA jfv jdJ jg1 jeg jhI jeL jgQ jcY jcZ jc0 jcV jcW jcX jhm → 0 ≤ i.toInt → i.toInt ≤ 4608 → (L : Int) - i.toInt < 9 * r → cc + 8 * r ≤ 500000 → ss + 48 * r ≤ 7000000 → ∀ {H : Heap} {locs : List Loc} {ls : Array Slot}, va_P (dC, dI) vwCl (lwW cyB cyI cyJ cyP ax jhl jee jbS jbZ jb0 je7 je8 jfA jct je2 je9 jeN jc1 jc2 jdc jdd jde jcz jc3 jdF jer jcJ jcw jc9 jcQ jfQ jds jdf jeC jd5 jgY jfb jfm jdt jib jfw jfx jeX jfy jfz jeY jeP jck jeE jhH jfD jez jhz jfh jhf jgw jdW jgx jdX jgy jdY jhT je4 jf4 jgI jeA jdb jdV jgK jdr jeB jcm jeu ao am jbX jhO jgS jgT jhB jgU je6 jhA jhg jgV jia jgj jeH jfE jfF jgW jiH jeZ am_s jh7 jgX jh6 jhc jhd jhe jgJ jhC jiI jhU jeL jdg jc4 jbY jfi jhk jfK jcT jfL jcg jdl jbR jbN jdM jcO jb3 jb4 jd1 jd0 jeh jce jdI jge jdv jdw jdx jdP jdz jdA jdQ jdR jdS jcS jdy jev jcr jcE jcs jew jdL jdT jel jdU jfj jeR jei jdZ jem jen jfG jgD jf8 jf9 jgE jfn jgb jgc jfH jgd jga jfI jcA jfJ jf1 jgs jgr jfk jdJ jeg jcY jcV jcZ jcW jc0 jcX jfq jfX jgL jex jfp jd2 jeT jeU jeV jft jfr jeW jd4 jdG jey jfs jcL jfo fo jca jg0 jjd jkL jjS jhX jiR jf3 jir jis jit jej jd6 jf6 jiu jfN jiv jg1 jda jjC jj8 jhN jhP jiA jhM jgQ jcf jhu jh0 jh1 jin jhZ jfu jhi jhh jh2 jiV jgp jeM jgN jgM jh3 jjh jfv fm_s jhI jh4 jhK jic jie jid jhL jio jji jhm) H → va_D (fun q : Nat => s.heap.size ≤ q) (lwW cyB cyI cyJ cyP ax jhl jee jbS jbZ jb0 je7 je8 jfA jct je2 je9 jeN jc1 jc2 jdc jdd jde jcz jc3 jdF jer jcJ jcw jc9 jcQ jfQ jds jdf jeC jd5 jgY jfb jfm jdt jib jfw jfx jeX jfy jfz jeY jeP jck jeE jhH jfD jez jhz jfh jhf jgw jdW jgx jdX jgy jdY jhT je4 jf4 jgI jeA jdb jdV jgK jdr jeB jcm jeu ao am jbX jhO jgS jgT jhB jgU je6 jhA jhg jgV jia jgj jeH jfE jfF jgW jiH jeZ am_s jh7 jgX jh6 jhc jhd jhe jgJ jhC jiI jhU jeL jdg jc4 jbY jfi jhk jfK jcT jfL jcg jdl jbR jbN jdM jcO jb3 jb4 jd1 jd0 jeh jce jdI jge jdv jdw jdx jdP jdz jdA jdQ jdR jdS jcS jdy jev jcr jcE jcs jew jdL jdT jel jdU jfj jeR jei jdZ jem jen jfG jgD jf8 jf9 jgE jfn jgb jgc jfH jgd jga jfI jcA jfJ jf1 jgs jgr jfk jdJ jeg jcY jcV jcZ jcW jc0 jcX jfq jfX jgL jex jfp jd2 jeT jeU jeV jft jfr jeW jd4 jdG jey jfs jcL jfo fo jca jg0 jjd jkL jjS jhX jiR jf3 jir jis jit jej jd6 jf6 jiu jfN jiv jg1 jda jjC jj8 jhN jhP jiA jhM jgQ jcf jhu jh0 jh1 jin jhZ jfu jhi jhh jh2 jiV jgp jeM jgN jgM jh3 jjh jfv fm_s jhI jh4 jhK jic jie jid jhL jio jji jhm) → va_S (fun q : Nat => s.heap.size ≤ q) s.heap H locs → lv_has ls 8 [(0, .ref b), (1, .ref ax), (2, .ref am), (3, .ref ao), (4, .int i)] → W p l e room_1 s m #[Value.ref b] below meth c H locs cc ss (lw_Z below #[Value.ref b] s) (F0 m 23 ls []) := by
  obtain ⟨hx, hb, hr, hml, hown, hts, hX, hbl, hlocks, hK, hNw, hY⟩ := id F
  have hbA : ¬ (fun q : Nat => s.heap.size ≤ q) b := Nat.not_le.mpr hbl
  have e9 : (Int32.ofNat L - 9).toInt = L - 9 := by
    have e1 : (Int32.ofNat L).toInt = L := Int32.toInt_ofNat_of_lt (by omega)
    rw [qpT (by rw [e1, t_9]; omega) (by rw [e1, t_9]; omega), e1, t_9]
  intro r
  induction r with
  | zero =>
    intro jhl jee jbS jbZ jb0 je7 je8 jfA jct je2 je9 jeN jc1 jc2 jdc jdd jde jcz jc3 jdF jer jcJ jcw jc9 jcQ jfQ jds jdf jeC jd5 jgY jfb jfm jdt jib jfw jfx jeX jfy jfz jeY jeP jck jeE jhH jfD jez jhz jfh jhf jgw jdW jgx jdX jgy jdY jhT je4 jf4 jgI jeA jdb jdV jgK jdr jeB jcm jeu jbX jhO jgS jgT jhB jgU je6 jhA jhg jgV jia jgj jeH jfE jfF jgW jiH jeZ am_s jh7 jgX jh6 jhc jhd jhe jgJ jhC jiI jhU jeL jdg jc4 jbY jfi jhk jfK jcT jfL jcg jdl jbR jbN jdM jcO jb3 jb4 jd1 jd0 jeh jce jdI jge jdv jdw jdx jdP jdz jdA jdQ jdR jdS jcS jdy jev jcr jcE jcs jew jdL jdT jel jdU jfj jeR jei jdZ jem jen jfG jgD jf8 jf9 jgE jfn jgb jgc jfH jgd jga jfI jcA jfJ jf1 jgs jgr jfk jdJ jeg jcY jcV jcZ jcW jc0 jcX jfq jfX jgL jex jfp jd2 jeT jeU jeV jft jfr jeW jd4 jdG jey jfs jcL jfo fo jca jg0 jjd jkL jjS jhX jiR jf3 jir jis jit jej jd6 jf6 jiu jfN jiv jg1 jda jjC jj8 jhN jhP jiA jhM jgQ jcf jhu jh0 jh1 jin jhZ jfu jhi jhh jh2 jiV jgp jeM jgN jgM jh3 jjh jfv fm_s jhI jh4 jhK jic jie jid jhL jio jji jhm i cc ss hI i0 i1 i2 hc hn H locs ls hP hD hS hl
    refine lv_iload hx hb (qaa qiy 3 rfl) (lv_at hl 4 rfl) ?_
    refine lv_aload_n hx hb (qaa qiy 4 rfl) rfl (lv_at hl 0 rfl) ?_
    refine va_slen hx hb hX hbl hbA hS (qaa qiy 5 rfl) ?_
    refine lv_bipush (v := 9) hx hb (qaa qiy 6 rfl) (by decide) ?_
    refine lv_isub hx hb (qaa qiy 7 rfl) ?_
    refine lv_icmp_gt (tgt := 1621) hx hb (qaa qiy 8 rfl) (by decide) (fun _ => ?_) (fun c9 => absurd (qao.mpr (by rw [e9]; omega)) c9)
    refine va_forget (fun q hq => hS.2.2 q hq) ?_
    refine W.widen (k := 601024) (n := 7293034) (by omega) (by omega) ?_
    refine lv_iconst (v := 1) hx hb (qaa qjI 12 rfl) (by decide) ?_
    exact lw_ret hx hb hr hlocks (qaa qjI 13 rfl)
  | succ r ih =>
    intro jhl jee jbS jbZ jb0 je7 je8 jfA jct je2 je9 jeN jc1 jc2 jdc jdd jde jcz jc3 jdF jer jcJ jcw jc9 jcQ jfQ jds jdf jeC jd5 jgY jfb jfm jdt jib jfw jfx jeX jfy jfz jeY jeP jck jeE jhH jfD jez jhz jfh jhf jgw jdW jgx jdX jgy jdY jhT je4 jf4 jgI jeA jdb jdV jgK jdr jeB jcm jeu jbX jhO jgS jgT jhB jgU je6 jhA jhg jgV jia jgj jeH jfE jfF jgW jiH jeZ am_s jh7 jgX jh6 jhc jhd jhe jgJ jhC jiI jhU jeL jdg jc4 jbY jfi jhk jfK jcT jfL jcg jdl jbR jbN jdM jcO jb3 jb4 jd1 jd0 jeh jce jdI jge jdv jdw jdx jdP jdz jdA jdQ jdR jdS jcS jdy jev jcr jcE jcs jew jdL jdT jel jdU jfj jeR jei jdZ jem jen jfG jgD jf8 jf9 jgE jfn jgb jgc jfH jgd jga jfI jcA jfJ jf1 jgs jgr jfk jdJ jeg jcY jcV jcZ jcW jc0 jcX jfq jfX jgL jex jfp jd2 jeT jeU jeV jft jfr jeW jd4 jdG jey jfs jcL jfo fo jca jg0 jjd jkL jjS jhX jiR jf3 jir jis jit jej jd6 jf6 jiu jfN jiv jg1 jda jjC jj8 jhN jhP jiA jhM jgQ jcf jhu jh0 jh1 jin jhZ jfu jhi jhh jh2 jiV jgp jeM jgN jgM jh3 jjh jfv fm_s jhI jh4 jhK jic jie jid jhL jio jji jhm i cc ss hI i0 i1 i2 hc hn H locs ls hP hD hS hl
    refine lv_iload hx hb (qaa qiy 3 rfl) (lv_at hl 4 rfl) ?_
    refine lv_aload_n hx hb (qaa qiy 4 rfl) rfl (lv_at hl 0 rfl) ?_
    refine va_slen hx hb hX hbl hbA hS (qaa qiy 5 rfl) ?_
    refine lv_bipush (v := 9) hx hb (qaa qiy 6 rfl) (by decide) ?_
    refine lv_isub hx hb (qaa qiy 7 rfl) ?_
    refine lv_icmp_gt (tgt := 1621) hx hb (qaa qiy 8 rfl) (by decide) (fun _ => ?_) (fun c9 => ?_)
    · refine va_forget (fun q hq => hS.2.2 q hq) ?_
      refine W.widen (k := 601024) (n := 7293034) (by omega) (by omega) ?_
      refine lv_iconst (v := 1) hx hb (qaa qjI 12 rfl) (by decide) ?_
      exact lw_ret hx hb hr hlocks (qaa qjI 13 rfl)
    rw [qao, e9] at c9
    have hi : qnR i L := ⟨i0, by omega, hL⟩
    have hgo : lgo p l e s m below meth c b dC dI cyB cyI cyJ cyP ax am ao i cc ss := by
      intro jhl jee jbS jbZ jb0 je7 je8 jfA jct je2 je9 jeN jc1 jc2 jdc jdd jde jcz jc3 jdF jer jcJ jcw jc9 jcQ jfQ jds jdf jeC jd5 jgY jfb jfm jdt jib jfw jfx jeX jfy jfz jeY jeP jck jeE jhH jfD jez jhz jfh jhf jgw jdW jgx jdX jgy jdY jhT je4 jf4 jgI jeA jdb jdV jgK jdr jeB jcm jeu jbX jhO jgS jgT jhB jgU je6 jhA jhg jgV jia jgj jeH jfE jfF jgW jiH jeZ am_s jh7 jgX jh6 jhc jhd jhe jgJ jhC jiI jhU jeL jdg jc4 jbY jfi jhk jfK jcT jfL jcg jdl jbR jbN jdM jcO jb3 jb4 jd1 jd0 jeh jce jdI jge jdv jdw jdx jdP jdz jdA jdQ jdR jdS jcS jdy jev jcr jcE jcs jew jdL jdT jel jdU jfj jeR jei jdZ jem jen jfG jgD jf8 jf9 jgE jfn jgb jgc jfH jgd jga jfI jcA jfJ jf1 jgs jgr jfk jdJ jeg jcY jcV jcZ jcW jc0 jcX jfq jfX jgL jex jfp jd2 jeT jeU jeV jft jfr jeW jd4 jdG jey jfs jcL jfo fo jca jg0 jjd jkL jjS jhX jiR jf3 jir jis jit jej jd6 jf6 jiu jfN jiv jg1 jda jjC jj8 jhN jhP jiA jhM jgQ jcf jhu jh0 jh1 jin jhZ jfu jhi jhh jh2 jiV jgp jeM jgN jgM jh3 jjh jfv fm_s jhI jh4 jhK jic jie jid jhL jio jji jhm hI H locs ls k n hk hn hP hD hS hl
      have q : (i + 9).toInt = i.toInt + 9 := by rw [qap (by rw [t_9]; omega) (by rw [t_9]; omega), t_9]
      refine lv_iinc (v := i + 9) (lv' := [(4, .int (i + 9)), (0, .ref b), (1, .ref ax), (2, .ref am), (3, .ref ao)]) hx hb (qaa qjI 10 rfl) hl (k := 4) rfl (congrArg (fun z => i + z) (by decide : Int32.ofInt 9 = 9)) (by decide) rfl (fun ls hl => ?_)
      refine lv_goto (tgt := 23) hx hb (qaa qjI 11 rfl) (by decide) ?_
      exact ih jhl jee jbS jbZ jb0 je7 je8 jfA jct je2 je9 jeN jc1 jc2 jdc jdd jde jcz jc3 jdF jer jcJ jcw jc9 jcQ jfQ jds jdf jeC jd5 jgY jfb jfm jdt jib jfw jfx jeX jfy jfz jeY jeP jck jeE jhH jfD jez jhz jfh jhf jgw jdW jgx jdX jgy jdY jhT je4 jf4 jgI jeA jdb jdV jgK jdr jeB jcm jeu jbX jhO jgS jgT jhB jgU je6 jhA jhg jgV jia jgj jeH jfE jfF jgW jiH jeZ am_s jh7 jgX jh6 jhc jhd jhe jgJ jhC jiI jhU jeL jdg jc4 jbY jfi jhk jfK jcT jfL jcg jdl jbR jbN jdM jcO jb3 jb4 jd1 jd0 jeh jce jdI jge jdv jdw jdx jdP jdz jdA jdQ jdR jdS jcS jdy jev jcr jcE jcs jew jdL jdT jel jdU jfj jeR jei jdZ jem jen jfG jgD jf8 jf9 jgE jfn jgb jgc jfH jgd jga jfI jcA jfJ jf1 jgs jgr jfk jdJ jeg jcY jcV jcZ jcW jc0 jcX jfq jfX jgL jex jfp jd2 jeT jeU jeV jft jfr jeW jd4 jdG jey jfs jcL jfo fo jca jg0 jjd jkL jjS jhX jiR jf3 jir jis jit jej jd6 jf6 jiu jfN jiv jg1 jda jjC jj8 jhN jhP jiA jhM jgQ jcf jhu jh0 jh1 jin jhZ jfu jhi jhh jh2 jiV jgp jeM jgN jgM jh3 jjh jfv fm_s jhI jh4 jhK jic jie jid jhL jio jji jhm (i + 9) k n hI (by omega) (by omega) (by omega) (by omega) (by omega) hP hD hS (lv_sub hl [1, 2, 3, 4, 0] rfl)
    refine lv_aload_n hx hb (qaa qiy 9 rfl) rfl (lv_at hl 0 rfl) ?_
    refine lv_iload hx hb (qaa qiy 10 rfl) (lv_at hl 4 rfl) ?_
    refine va_sld hx hb hX hbl hbA hS (qa6 i0 (by omega)) (qaa qiy 11 rfl) ?_
    refine lv_bipush (v := 63) hx hb (qaa qiy 12 rfl) (by decide) ?_
    refine lv_iand hx hb (qaa qiy 13 rfl) ?_
    refine lv_topi (fun y9 ey9 => ?_)
    by_cases c0 : y9.toInt < 0 ∨ 37 < y9.toInt
    · refine lv_tableOut (tgt := 1615) hx hb dL_law__40 c0 (by decide) ?_
      exact hgo jhl jee jbS jbZ jb0 je7 je8 jfA jct je2 je9 jeN jc1 jc2 jdc jdd jde jcz jc3 jdF jer jcJ jcw jc9 jcQ jfQ jds jdf jeC jd5 jgY jfb jfm jdt jib jfw jfx jeX jfy jfz jeY jeP jck jeE jhH jfD jez jhz jfh jhf jgw jdW jgx jdX jgy jdY jhT je4 jf4 jgI jeA jdb jdV jgK jdr jeB jcm jeu jbX jhO jgS jgT jhB jgU je6 jhA jhg jgV jia jgj jeH jfE jfF jgW jiH jeZ am_s jh7 jgX jh6 jhc jhd jhe jgJ jhC jiI jhU jeL jdg jc4 jbY jfi jhk jfK jcT jfL jcg jdl jbR jbN jdM jcO jb3 jb4 jd1 jd0 jeh jce jdI jge jdv jdw jdx jdP jdz jdA jdQ jdR jdS jcS jdy jev jcr jcE jcs jew jdL jdT jel jdU jfj jeR jei jdZ jem jen jfG jgD jf8 jf9 jgE jfn jgb jgc jfH jgd jga jfI jcA jfJ jf1 jgs jgr jfk jdJ jeg jcY jcV jcZ jcW jc0 jcX jfq jfX jgL jex jfp jd2 jeT jeU jeV jft jfr jeW jd4 jdG jey jfs jcL jfo fo jca jg0 jjd jkL jjS jhX jiR jf3 jir jis jit jej jd6 jf6 jiu jfN jiv jg1 jda jjC jj8 jhN jhP jiA jhM jgQ jcf jhu jh0 jh1 jin jhZ jfu jhi jhh jh2 jiV jgp jeM jgN jgM jh3 jjh jfv fm_s jhI jh4 jhK jic jie jid jhL jio jji jhm hI (by omega) (by omega) hP hD hS hl
    rcases qbbo c0 with c0 | c0 | c0 | c0 | c0 | c0 | c0 | c0 | c0 | c0 | c0 | c0 | c0 | c0 | c0 | c0 | c0 | c0 | c0 | c0 | c0 | c0 | c0 | c0 | c0 | c0 | c0 | c0 | c0 | c0 | c0 | c0 | c0 | c0 | c0 | c0 | c0 | c0
    · refine lv_tableIn (tgt := 208) (off := 168) hx hb dL_law__40 (by rw [c0]; decide) (by rw [c0]; decide) (by rw [c0]; decide) (by decide) ?_
      exact qble dC dI cyB cyI cyJ cyP hi F hE (by omega) (by omega) hI hgo hP hD hS hl
    · refine lv_tableIn (tgt := 281) (off := 241) hx hb dL_law__40 (by rw [c0]; decide) (by rw [c0]; decide) (by rw [c0]; decide) (by decide) ?_
      exact qbiL dC dI cyB cyI cyJ cyP hi F hE (by omega) (by omega) hI hgo hP hD hS hl
    · refine lv_tableIn (tgt := 309) (off := 269) hx hb dL_law__40 (by rw [c0]; decide) (by rw [c0]; decide) (by rw [c0]; decide) (by decide) ?_
      exact qbkJ dC dI cyB cyI cyJ cyP hi F hE (by omega) (by omega) hI hgo hP hD hS hl
    · refine lv_tableIn (tgt := 337) (off := 297) hx hb dL_law__40 (by rw [c0]; decide) (by rw [c0]; decide) (by rw [c0]; decide) (by decide) ?_
      exact qbk3 dC dI cyB cyI cyJ cyP hi F hE (by omega) (by omega) hI hgo hP hD hS hl
    · refine lv_tableIn (tgt := 365) (off := 325) hx hb dL_law__40 (by rw [c0]; decide) (by rw [c0]; decide) (by rw [c0]; decide) (by decide) ?_
      exact qbiK dC dI cyB cyI cyJ cyP hi F hE (by omega) (by omega) hI hgo hP hD hS hl
    · refine lv_tableIn (tgt := 393) (off := 353) hx hb dL_law__40 (by rw [c0]; decide) (by rw [c0]; decide) (by rw [c0]; decide) (by decide) ?_
      exact qbk6 dC dI cyB cyI cyJ cyP hi F hE (by omega) (by omega) hI hgo hP hD hS hl
    · refine lv_tableIn (tgt := 406) (off := 366) hx hb dL_law__40 (by rw [c0]; decide) (by rw [c0]; decide) (by rw [c0]; decide) (by decide) ?_
      exact qbj8 dC dI cyB cyI cyJ cyP hi F hE (by omega) (by omega) hI hgo hP hD hS hl
    · refine lv_tableIn (tgt := 419) (off := 379) hx hb dL_law__40 (by rw [c0]; decide) (by rw [c0]; decide) (by rw [c0]; decide) (by decide) ?_
      exact qbkr dC dI cyB cyI cyJ cyP hi F hE (by omega) (by omega) hI hgo hP hD hS hl
    · refine lv_tableIn (tgt := 447) (off := 407) hx hb dL_law__40 (by rw [c0]; decide) (by rw [c0]; decide) (by rw [c0]; decide) (by decide) ?_
      exact qbij dC dI cyB cyI cyJ cyP hi F hE (by omega) (by omega) hI hgo hP hD hS hl
    · refine lv_tableIn (tgt := 487) (off := 447) hx hb dL_law__40 (by rw [c0]; decide) (by rw [c0]; decide) (by rw [c0]; decide) (by decide) ?_
      exact qbit dC dI cyB cyI cyJ cyP hi F hE (by omega) (by omega) hI hgo hP hD hS hl
    · refine lv_tableIn (tgt := 527) (off := 487) hx hb dL_law__40 (by rw [c0]; decide) (by rw [c0]; decide) (by rw [c0]; decide) (by decide) ?_
      exact qbgO dC dI cyB cyI cyJ cyP hi F hE (by omega) (by omega) hI hgo hP hD hS hl
    · refine lv_tableIn (tgt := 567) (off := 527) hx hb dL_law__40 (by rw [c0]; decide) (by rw [c0]; decide) (by rw [c0]; decide) (by decide) ?_
      exact qbg5 dC dI cyB cyI cyJ cyP hi F hE (by omega) (by omega) hI hgo hP hD hS hl
    · refine lv_tableIn (tgt := 607) (off := 567) hx hb dL_law__40 (by rw [c0]; decide) (by rw [c0]; decide) (by rw [c0]; decide) (by decide) ?_
      exact qbhg dC dI cyB cyI cyJ cyP hi F hE (by omega) (by omega) hI hgo hP hD hS hl
    · refine lv_tableIn (tgt := 647) (off := 607) hx hb dL_law__40 (by rw [c0]; decide) (by rw [c0]; decide) (by rw [c0]; decide) (by decide) ?_
      exact qbe4 dC dI cyB cyI cyJ cyP hi F hE (by omega) (by omega) hI hgo hP hD hS hl
    · refine lv_tableIn (tgt := 765) (off := 725) hx hb dL_law__40 (by rw [c0]; decide) (by rw [c0]; decide) (by rw [c0]; decide) (by decide) ?_
      exact qbgv dC dI cyB cyI cyJ cyP hi F hE (by omega) (by omega) hI hgo hP hD hS hl
    · refine lv_tableIn (tgt := 805) (off := 765) hx hb dL_law__40 (by rw [c0]; decide) (by rw [c0]; decide) (by rw [c0]; decide) (by decide) ?_
      exact qbfm dC dI cyB cyI cyJ cyP hi F hE (by omega) (by omega) hI hgo hP hD hS hl
    · refine lv_tableIn (tgt := 845) (off := 805) hx hb dL_law__40 (by rw [c0]; decide) (by rw [c0]; decide) (by rw [c0]; decide) (by decide) ?_
      exact qbgc dC dI cyB cyI cyJ cyP hi F hE (by omega) (by omega) hI hgo hP hD hS hl
    · refine lv_tableIn (tgt := 885) (off := 845) hx hb dL_law__40 (by rw [c0]; decide) (by rw [c0]; decide) (by rw [c0]; decide) (by decide) ?_
      exact qbhu dC dI cyB cyI cyJ cyP hi F hE (by omega) (by omega) hI hgo hP hD hS hl
    · refine lv_tableIn (tgt := 898) (off := 858) hx hb dL_law__40 (by rw [c0]; decide) (by rw [c0]; decide) (by rw [c0]; decide) (by decide) ?_
      exact qbhp dC dI cyB cyI cyJ cyP hi F hE (by omega) (by omega) hI hgo hP hD hS hl
    · refine lv_tableIn (tgt := 926) (off := 886) hx hb dL_law__40 (by rw [c0]; decide) (by rw [c0]; decide) (by rw [c0]; decide) (by decide) ?_
      exact qbgx dC dI cyB cyI cyJ cyP hi F hE (by omega) (by omega) hI hgo hP hD hS hl
    · refine lv_tableIn (tgt := 939) (off := 899) hx hb dL_law__40 (by rw [c0]; decide) (by rw [c0]; decide) (by rw [c0]; decide) (by decide) ?_
      exact qbgV dC dI cyB cyI cyJ cyP hi F hE (by omega) (by omega) hI hgo hP hD hS hl
    · refine lv_tableIn (tgt := 967) (off := 927) hx hb dL_law__40 (by rw [c0]; decide) (by rw [c0]; decide) (by rw [c0]; decide) (by decide) ?_
      exact qbg2 dC dI cyB cyI cyJ cyP hi F hE (by omega) (by omega) hI hgo hP hD hS hl
    · refine lv_tableIn (tgt := 995) (off := 955) hx hb dL_law__40 (by rw [c0]; decide) (by rw [c0]; decide) (by rw [c0]; decide) (by decide) ?_
      exact qbfz dC dI cyB cyI cyJ cyP hi F hE (by omega) (by omega) hI hgo hP hD hS hl
    · refine lv_tableIn (tgt := 1023) (off := 983) hx hb dL_law__40 (by rw [c0]; decide) (by rw [c0]; decide) (by rw [c0]; decide) (by decide) ?_
      exact qbfR dC dI cyB cyI cyJ cyP hi F hE (by omega) (by omega) hI hgo hP hD hS hl
    · refine lv_tableIn (tgt := 1051) (off := 1011) hx hb dL_law__40 (by rw [c0]; decide) (by rw [c0]; decide) (by rw [c0]; decide) (by decide) ?_
      exact qbe6 dC dI cyB cyI cyJ cyP hi F hE (by omega) (by omega) hI hgo hP hD hS hl
    · refine lv_tableIn (tgt := 1079) (off := 1039) hx hb dL_law__40 (by rw [c0]; decide) (by rw [c0]; decide) (by rw [c0]; decide) (by decide) ?_
      exact qbfC dC dI cyB cyI cyJ cyP hi F hE (by omega) (by omega) hI hgo hP hD hS hl
    · refine lv_tableIn (tgt := 1143) (off := 1103) hx hb dL_law__40 (by rw [c0]; decide) (by rw [c0]; decide) (by rw [c0]; decide) (by decide) ?_
      exact qbfq dC dI cyB cyI cyJ cyP hi F hE (by omega) (by omega) hI hgo hP hD hS hl
    · refine lv_tableIn (tgt := 1195) (off := 1155) hx hb dL_law__40 (by rw [c0]; decide) (by rw [c0]; decide) (by rw [c0]; decide) (by decide) ?_
      exact qbgX dC dI cyB cyI cyJ cyP hi F hE (by omega) (by omega) hI hgo hP hD hS hl
    · refine lv_tableIn (tgt := 1247) (off := 1207) hx hb dL_law__40 (by rw [c0]; decide) (by rw [c0]; decide) (by rw [c0]; decide) (by decide) ?_
      exact qbeU dC dI cyB cyI cyJ cyP hi F hE (by omega) (by omega) hI hgo hP hD hS hl
    · refine lv_tableIn (tgt := 1275) (off := 1235) hx hb dL_law__40 (by rw [c0]; decide) (by rw [c0]; decide) (by rw [c0]; decide) (by decide) ?_
      exact qbgW dC dI cyB cyI cyJ cyP hi F hE (by omega) (by omega) hI hgo hP hD hS hl
    · refine lv_tableIn (tgt := 1315) (off := 1275) hx hb dL_law__40 (by rw [c0]; decide) (by rw [c0]; decide) (by rw [c0]; decide) (by decide) ?_
      exact qbgB dC dI cyB cyI cyJ cyP hi F hE (by omega) (by omega) hI hgo hP hD hS hl
    · refine lv_tableIn (tgt := 1355) (off := 1315) hx hb dL_law__40 (by rw [c0]; decide) (by rw [c0]; decide) (by rw [c0]; decide) (by decide) ?_
      exact qbgQ dC dI cyB cyI cyJ cyP hi F hE (by omega) (by omega) hI hgo hP hD hS hl
    · refine lv_tableIn (tgt := 1411) (off := 1371) hx hb dL_law__40 (by rw [c0]; decide) (by rw [c0]; decide) (by rw [c0]; decide) (by decide) ?_
      exact qbgk dC dI cyB cyI cyJ cyP hi F hE (by omega) (by omega) hI hgo hP hD hS hl
    · refine lv_tableIn (tgt := 1463) (off := 1423) hx hb dL_law__40 (by rw [c0]; decide) (by rw [c0]; decide) (by rw [c0]; decide) (by decide) ?_
      exact qbfI dC dI cyB cyI cyJ cyP hi F hE (by omega) (by omega) hI hgo hP hD hS hl
    · refine lv_tableIn (tgt := 1539) (off := 1499) hx hb dL_law__40 (by rw [c0]; decide) (by rw [c0]; decide) (by rw [c0]; decide) (by decide) ?_
      exact qbeM dC dI cyB cyI cyJ cyP hi F hE (by omega) (by omega) hI hgo hP hD hS hl
    · refine lv_tableIn (tgt := 1552) (off := 1512) hx hb dL_law__40 (by rw [c0]; decide) (by rw [c0]; decide) (by rw [c0]; decide) (by decide) ?_
      exact qbeS dC dI cyB cyI cyJ cyP hi F hE (by omega) (by omega) hI hgo hP hD hS hl
    · refine lv_tableIn (tgt := 1565) (off := 1525) hx hb dL_law__40 (by rw [c0]; decide) (by rw [c0]; decide) (by rw [c0]; decide) (by decide) ?_
      exact qbfg dC dI cyB cyI cyJ cyP hi F hE (by omega) (by omega) hI hgo hP hD hS hl
    · refine lv_tableIn (tgt := 1590) (off := 1550) hx hb dL_law__40 (by rw [c0]; decide) (by rw [c0]; decide) (by rw [c0]; decide) (by decide) ?_
      exact qbeZ dC dI cyB cyI cyJ cyP hi F hE (by omega) (by omega) hI hgo hP hD hS hl
