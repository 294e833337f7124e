/-! down, by the class, with all that it begins -/
section TDvF
variable {by_ : Nat → Int32} {ci ln at_ tk fl fa fp p : Int32}
theorem v_X10_downF {ag asg ar : Nat} {f h x : Int32} {db : Nat → Int32} {sf : Int32} {FX FY st sr X Y : Nat → Int32} {rg rs : Value} {rl : Int32} {rk rv : Nat → Int32} {lm : Int32} {sn row : Nat → Int32} {nd nl : Value} {pk ik rf : Int32} {P : Nat} {t : Nat → Int}
    {E : String → Int32 → Int32 → Int32 → Int32 → Int32 → Int32 → Int32 → Int32 → Int32 → Int32 → (Nat → Int32) → Int32 → (Nat → Int32) → (Nat → Int32) → (Nat → Int32) → (Nat → Int32) → (Nat → Int32) → (Nat → Int32) → Value → Value → Int32 → (Nat → Int32) → (Nat → Int32) → Int32 → (Nat → Int32) → (Nat → Int32) → Value → Value → Int32 → Int32 → Int32 → Prop}
    {Q : Int32 → Int32 → Int32 → Int32 → Int32 → Int32 → Int32 → Int32 → Int32 → Int32 → Int32 → (Nat → Int32) → Int32 → (Nat → Int32) → (Nat → Int32) → (Nat → Int32) → (Nat → Int32) → (Nat → Int32) → (Nat → Int32) → Value → Value → Int32 → (Nat → Int32) → (Nat → Int32) → Int32 → (Nat → Int32) → (Nat → Int32) → Value → Value → Int32 → Int32 → Int32 → Prop}
    (hf : fl.toInt = P) (hP : P ≤ 600) (ht : tB P by_ t) (he : ¬ uOk p fl 600 → E "java/lang/IllegalArgumentException" (ci + 1) ln at_ tk fl fa fp f h x db sf FX FY st sr X Y (.ref ag) (.ref asg) rl rk rv lm sn row nd nl pk ik rf)
    (hbad : uOk p fl 600 → ∀ n : Nat, p.toInt = n → (dAll n t).1.1 ≠ 0 → ∀ (ln at_ tk fa fp f h x : Int32) (db : Nat → Int32) (sf : Int32) (FX FY st sr X Y : Nat → Int32), fa.toInt = (dAll n t).1.1 → fp.toInt = (dAll n t).1.2.1 → Q (fa - 10) ci ln at_ tk 0 fa fp f h x db sf FX FY st sr X Y (.ref ag) (.ref asg) rl rk rv lm sn row nd nl pk ik rf)
    (hok : uOk p fl 600 → ∀ n : Nat, p.toInt = n → (dAll n t).1.1 = 0 → ∀ (ln at_ tk fa fp f h x : Int32) (db : Nat → Int32) (sf : Int32) (FX FY st sr X Y : Nat → Int32) (rl : Int32) (rk rv sn row : Nat → Int32), fp.toInt = -1 → cD (dAll n t) f h x db FX FY st sr X Y → sf = sfD (dAll n t) → cL ((0, 0, 0), plL) rk rv rl → (∀ j : Nat, j < 8 → sn j = -1) → (∀ j : Nat, j < 64 → row j = rbG (dAll n t).2.2.1 st sr db j) → Q h ci ln at_ tk 0 fa fp f h x db sf FX FY st sr X Y (.ref asg) (.ref ag) rl rk rv 0 sn row (.ref asg) (.ref ar) 0 0 0) :
    wq_X10_down_s ag asg ar by_ ci ln at_ tk fl fa fp f h x db sf FX FY st sr X Y rg rs rl rk rv lm sn row nd nl pk ik rf p E Q := by
  refine u_X10_openText (M := 600) (by decide) (by omega) he (fun hu y y0 y1 y2 ey => ?_)
  obtain ⟨n, en⟩ : ∃ n : Nat, p.toInt = n := ⟨p.toInt.toNat, by have := hu.1; omega⟩
  have hn : n ≤ P := by have := hu.2.1; omega
  rw [ey]
  refine cs_readFrom (n := n) (b := t) en (by omega) (tB_le ht hn) ⟨⟨0, t_0, by omega, fun _ => rfl⟩, t_0, fun _ => t_m1, fun w => absurd rfl w⟩ (fun nn h x db a sf t2 f2 fp2 FX FY se sr X Y hc hd => ?_)
  obtain ⟨⟨n1, n2⟩, ⟨m1, m2⟩, ⟨x1, x2⟩, hr⟩ := id hd
  by_cases h0 : (dAll n t).1.1 = 0
  · obtain ⟨r1, r2, r3, r4⟩ := hr h0
    have ok := dOk_all h0
    refine z_findSafe ok.2.1 ok.2.2.2.1 n2 x2 r1 r3 n1 x1 (fun sf2 esf => ⟨fun z => ⟨fun _ => ?_, fun c => absurd rfl c⟩, fun z => absurd (cS_fa hc h0) z⟩)
    exact c_setPlain (fun rk rv rl hl => c_clear (fun sn hs => c_begin m1 m2 (fun row hr => hok hu n en h0 _ _ _ _ _ _ _ _ _ _ _ _ _ _ _ _ _ _ _ _ _ (hc.2.2.1 h0) hd esf hl hs hr)))
  · refine sf_X2_findSafe (by omega) (by omega) (fun sf2 => ⟨fun z => absurd (by rw [← hc.2.1, z, t_0]) h0, fun z => ⟨fun c => absurd c (by decide), fun _ => ?_⟩⟩)
    exact hbad hu n en h0 _ _ _ _ _ _ _ _ _ _ _ _ _ _ _ _ hc.2.1 (hc.2.2.2 h0)
end TDvF
theorem mL_ne {cs : List (Int × Int)} {cd oc : Nat → Int32} {ct : Int32} (h : mL ((0, 0, 0), cs) cd oc ct) (hr : rn cs = some 1) : ct ≠ 0 := fun z => by
  have e : ct.toInt = (cs.length : Nat) := (h rfl).1
  rw [z, t_0] at e
  have e2 : cs = [] := List.eq_nil_of_length_eq_zero (by omega)
  rw [e2] at hr
  exact absurd hr (by decide)
theorem rF_0 {mf mh mx : Int32} {db9 FX FY se sr X Y fo ha fx : Nat → Int32} {ln : Int32} {kd vl cd oc seen bo row now : Nat → Int32} {pr9 pm9 : Nat → Int32} {k0 k1 k2 : Int32} {r0 r1 r2 im g2 db2 : Nat → Int32} (h1 : mf.toInt = 0) (h2 : mh.toInt = 0) (h3 : mx.toInt = 0) (hl : cL ((0, 0, 0), plL) kd vl ln) (hr : ∀ j : Nat, j < 64 → row j = rbG 0 (fun _ => 0) (fun _ => 0) (fun _ => 0) j) (h0 : ∀ j : Nat, j < 36 → db9 j = 0) (hd : ∀ j : Nat, j < 36 → (db2 j).toInt = 0) (hn : ∀ j : Nat, j < 68 → now j = ni 0 g2 db2 j) (hs : ∀ j : Nat, j < 8 → seen j = -1) (hb : ∀ j : Nat, j < 8 → bo j = -1) :
    relF 0 0 0 0 db9 FX FY se sr X Y mf mh mx fo ha fx ln kd vl 0 cd oc 0 seen 0 bo row now 0 0 pr9 pm9 0 0 k0 k1 k2 r0 r1 r2 im := by
  have no : ∀ {P : Nat → Prop} (j : Nat), j < 0 → P j := fun j hj => absurd hj (Nat.not_lt_zero j)
  have ok : dOk ((0, 0, 0), 0, 0, 0, (fun _ => 0), (fun _ => 0), (fun _ => 0), (fun _ => 0)) := ⟨⟨by decide, by decide, by decide⟩, no, no, no, fun x y _ _ => ⟨Int.le_refl _, (show (0 : Int) ≤ 99 by decide), fun e => absurd rfl e⟩⟩
  have hc : ∀ db FX FY se sr X Y : Nat → Int32, (∀ j : Nat, j < 36 → db j = 0) → cD ((0, 0, 0), 0, 0, 0, (fun _ => 0), (fun _ => 0), (fun _ => 0), (fun _ => 0)) 0 0 0 db FX FY se sr X Y := fun db FX FY se sr X Y hz => ⟨⟨t_0, by decide⟩, ⟨t_0, by decide⟩, ⟨t_0, by decide⟩, fun _ => ⟨no, no, no, fun j hj => by rw [hz j hj]; exact t_0⟩⟩
  have hm : mD ((0, 0, 0), 0, 0, 0, (fun _ => 0), (fun _ => 0), (fun _ => 0), (fun _ => 0)) 0 0 0 db2 fx ha fo := ⟨⟨t_0, by decide⟩, ⟨t_0, by decide⟩, ⟨t_0, by decide⟩, fun _ => ⟨no, no, no, fun j hj => hd j hj⟩⟩
  have hg : mG ((0, 0, 0), 0, 0, 0, (fun _ => 0), (fun _ => 0), (fun _ => 0), (fun _ => 0)) mf mh mx fo ha fx := ⟨⟨h1, h2, h3⟩, no, no, no⟩
  have hg2 : mG ((0, 0, 0), 0, 0, 0, (fun _ => 0), (fun _ => 0), (fun _ => 0), (fun _ => 0)) 0 0 0 fo g2 fx := ⟨⟨t_0, t_0, t_0⟩, no, no, no⟩
  have hN := rN_new rfl ok (hc (fun _ => 0) FX FY (fun _ => 0) (fun _ => 0) X Y (fun _ _ => rfl)) hm hg2 hr hn
  exact ⟨((0, 0, 0), 0, 0, 0, (fun _ => 0), (fun _ => 0), (fun _ => 0), (fun _ => 0)), plL, ⟨rfl, ok, hc db9 FX FY se sr X Y h0, rfl, hg⟩, rl_pl hl, ⟨rfl, fun j hj => by rw [hs j hj, hb j hj]⟩, hN.1, hN.2, rW_new, rI_new⟩
