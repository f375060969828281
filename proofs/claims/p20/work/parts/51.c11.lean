/-! enter, keepInLog -/
theorem eO_eO {c c' : Nat} {fs fs' : List Value} (hc : c ≠ c') : eO c fs ≠ eO c' fs' := fun z => hc (congrArg Prod.fst (Sum.inr.inj z))
/-- an entry into a book -/
def enA (T : Nat → Nat → Int) (e ow : Nat) (f : Nat → Int) (ac : Int) : Int := (if (ow : Int) = T 34 e then ac - cCost T e else if (ow : Int) = T 36 e then ac + cCost T e else ac) - (if T 32 e = 3 then sV f ow (T 34 e).toNat 10 else 0)
def enF (T : Nat → Nat → Int) (e ow : Nat) (f : Nat → Int) : Nat → Int := if T 32 e = 2 then eLn f (row T 37 10 e) ow (T 34 e).toNat else if T 32 e = 3 then sF f ow (T 34 e).toNat 10 else f
theorem cVF_c {T T' : Nat → Nat → Int} (h16 : T' 16 = T 16) (h17 : T' 17 = T 17) (h19 : T' 19 = T 19) (r hr : Int) : ∀ n, cVF T' r hr n = cVF T r hr n
  | 0 => rfl
  | n + 1 => by rw [cVF, cVF, cVF_c h16 h17 h19 r hr n, h16, h17, h19]
theorem cval_c {T T' : Nat → Nat → Int} (h15 : T' 15 = T 15) (h16 : T' 16 = T 16) (h17 : T' 17 = T 17) (h18 : T' 18 = T 18) (h19 : T' 19 = T 19) (r hr : Int) : cval T' r hr = cval T r hr := by
  unfold cval cvl
  rw [cVF_c h16 h17 h19, h18, show cN T' 2 = cN T 2 from congrArg (fun f : Nat → Int => (f 0).toNat) h15]
theorem cCost_c {T T' : Nat → Nat → Int} (h15 : T' 15 = T 15) (h16 : T' 16 = T 16) (h17 : T' 17 = T 17) (h18 : T' 18 = T 18) (h19 : T' 19 = T 19) {e : Nat} (h32 : T' 32 e = T 32 e) (h33 : T' 33 e = T 33 e) (h35 : T' 35 e = T 35 e) : cCost T' e = cCost T e := by
  unfold cCost
  rw [cval_c h15 h16 h17 h18 h19, cval_c h15 h16 h17 h18 h19, h32, h33, h35]
theorem row_c {T T' : Nat → Nat → Int} {k : Nat} (h : T' k = T k) (w i : Nat) : row T' k w i = row T k w i := by
  unfold row
  rw [h]
def same73 (T T' : Nat → Nat → Int) : Prop := ∀ g, g ≠ 7 → g ≠ 30 → T' g = T g
theorem same73_cost {T T' : Nat → Nat → Int} (hs : same73 T T') (e : Nat) : cCost T' e = cCost T e :=
  cCost_c (hs 15 (by decide) (by decide)) (hs 16 (by decide) (by decide)) (hs 17 (by decide) (by decide)) (hs 18 (by decide) (by decide)) (hs 19 (by decide) (by decide)) (congrFun (hs 32 (by decide) (by decide)) e) (congrFun (hs 33 (by decide) (by decide)) e) (congrFun (hs 35 (by decide) (by decide)) e)
theorem same73_enA {T T' : Nat → Nat → Int} (hs : same73 T T') (e ow : Nat) (f : Nat → Int) (ac : Int) : enA T' e ow f ac = enA T e ow f ac := by
  unfold enA
  rw [same73_cost hs, hs 34 (by decide) (by decide), hs 36 (by decide) (by decide), hs 32 (by decide) (by decide)]
theorem same73_enF {T T' : Nat → Nat → Int} (hs : same73 T T') (e ow : Nat) (f : Nat → Int) : enF T' e ow f = enF T e ow f := by
  unfold enF
  rw [row_c (hs 37 (by decide) (by decide)), hs 34 (by decide) (by decide), hs 32 (by decide) (by decide)]
theorem same73_TB {T T' : Nat → Nat → Int} (hs : same73 T T') (I : TB T) : TB T' := ⟨fun k j h1 h2 h3 => by rw [hs k h1 h2]; exact I.1 k j h1 h2 h3, fun j => by rw [hs 36 (by decide) (by decide)]; exact I.2 j⟩
theorem same73_cN {T T' : Nat → Nat → Int} (hs : same73 T T') (g : Nat) : cN T' g = cN T g := by
  unfold cN
  split <;> first | rfl | rw [hs _ (by decide) (by decide)]
theorem enF_hi (T : Nat → Nat → Int) (e ow : Nat) {f : Nat → Int} (hf : ∀ j, 10 ≤ j → f j = 0) (h34 : (T 34 e).toNat < 10) : ∀ j, 10 ≤ j → enF T e ow f j = 0 := by
  intro j hj
  unfold enF
  split
  · unfold eLn
    split
    · unfold eLf
      rw [if_neg (by omega)]
      exact hf j hj
    · unfold va_up
      rw [if_neg (by omega)]
      exact hf j hj
  · split
    · unfold sF
      rw [if_neg (by omega)]
      exact hf j hj
    · exact hf j hj

set_option maxRecDepth 100000 in
theorem c_X6_enter_ok {ln : Launch} (htr : ln.stackTraces = false) {G : zG} {h : zH} {ad : Nat → Nat → Nat} {el : Nat → Nat} {T : Nat → Nat → Int} (R : CR G ad el T h) (I : TB T) {e b bl ow : Nat} {ac : Int} {f : Nat → Int} (he : e < cN T 3) (ho : h b = some (eO 2 [vI (ow : Int), .ref bl, vI ac])) (hb : h bl = some (eI (G.2.1 0) 10 f)) (hne : ad 9 e ≠ bl) (h1 : ow < 10) : CT ln G yX6_enter cX6_enter 3 none 6 ([.ref (ad 0 0), .ref (ad 8 e), .ref b]) h 0 0 (fun r9 h9 => r9 = none ∧ h9 = zput (zput h b (eO 2 [vI (ow : Int), .ref bl, vI (enA T e ow f ac)])) bl (eI (G.2.1 0) 10 (enF T e ow f))) zNo := by
  refine CT.intro htr (by decide) rfl (Nat.le_of_ble_eq_true rfl) ?_
  intro X hln hG hR hN C E
  subst hln
  subst hG
  have hn9 := I.n
  have h32 : 0 ≤ T 32 e ∧ T 32 e ≤ thi 32 := I.1 32 e (by decide) (by decide) (by decide)
  simp only [thi] at h32
  have h34 : 0 ≤ T 34 e ∧ T 34 e ≤ thi 34 := I.1 34 e (by decide) (by decide) (by decide)
  simp only [thi] at h34
  have h36 := I.2 e
  have h34n : T 34 e = ((T 34 e).toNat : Int) := by omega
  have he9 := R.ent he
  rw [h34n] at he9
  have J53 : ∀ u : Int, u = (if (ow : Int) = T 34 e then ac - cCost T e else if (ow : Int) = T 36 e then ac + cCost T e else ac) → Z X 53 [.ref (ad 0 0), .ref (ad 8 e), .ref b] [] (zput h b (eO 2 [vI (ow : Int), .ref bl, vI u])) 0 0 := by
    intro u hu
    have hb0 : (zput h b (eO 2 [vI (ow : Int), .ref bl, vI u])) b = some (eO 2 [vI (ow : Int), .ref bl, vI u]) := zput_same _ _ _
    have he1 := (zput_ne h (eO 2 [vI (ow : Int), .ref bl, vI u]) (zne he9 ho (eO_eO (by decide)))).trans he9
    have hl1 := (zput_ne h (eO 2 [vI (ow : Int), .ref bl, vI u]) (zne ho (R.lin he) eO_eI).symm).trans (R.lin he)
    have hb1 := (zput_ne h (eO 2 [vI (ow : Int), .ref bl, vI u]) (zne ho hb eO_eI).symm).trans hb
    have hA2 : ¬ T 32 e = 3 → enA T e ow f ac = u := fun z => by unfold enA; rw [if_neg z, Int.sub_zero]; exact hu.symm
    have hA3 : T 32 e = 3 → enA T e ow f ac = u - sV f ow (T 34 e).toNat 10 := fun z => by unfold enA; rw [if_pos z, hu]
    refine Z.aload_n C dX6_enter_53 rfl ?_
    refine g_X6_142  C rfl dX6_enter_54 (he1) rfl ?_
    refine Z.way C (i := 2) (by decide) zx_w2 dX6_enter_57 ?_
    refine Z.acmp_ne (tgt := 71) C dX6_enter_60 (by decide) (fun c60 => ?_) (fun c60 => ?_)
    · have w2 : ¬ T 32 e = 2 := fun z => c60 (by rw [z]; rfl)
      refine Z.aload_n C dX6_enter_71 rfl ?_
      refine g_X6_142  C rfl dX6_enter_72 (he1) rfl ?_
      refine Z.way C (i := 3) (by decide) zx_w3 dX6_enter_75 ?_
      refine Z.acmp_ne (tgt := 89) C dX6_enter_78 (by decide) (fun c78 => ?_) (fun c78 => ?_)
      · have w3 : ¬ T 32 e = 3 := fun z => c78 (by rw [z]; rfl)
        exact Z.vret C E dX6_enter_89 (by decide) (by decide) (by first | exact ⟨rfl, by rw [hA2 (by omega), show enF T e ow f = _ from if_pos w2]⟩ | exact ⟨rfl, by rw [hA3 w3, show enF T e ow f = _ from (if_neg w2).trans (if_pos w3), zput_zput]⟩ | exact ⟨rfl, by rw [hA2 w3, show enF T e ow f = f from (if_neg w2).trans (if_neg w3), zput_self hb1]⟩)
      · have w3 : T 32 e = 3 := Classical.byContradiction fun z => Z.wayNe C (i := (T 32 e).toNat) (j := 3) (by omega) (by decide) (by omega) c78
        refine Z.aload_n C dX6_enter_81 rfl ?_
        refine Z.aload_n C dX6_enter_82 rfl ?_
        refine g_X6_318  C rfl dX6_enter_83 (he1) rfl ?_
        refine v_X6_324 C rfl dX6_enter_86 (hb0) (c_X0_settle htr hb0 hb1 h1 (by omega)) (by decide) (Nat.le_of_ble_eq_true rfl) (by rw [hR]; exact Nat.le_of_ble_eq_true rfl) (by rw [hR]; exact Nat.le_of_ble_eq_true rfl) (fun w86 h86 q86 => ?_) (fun _ _ q => q.elim)
        obtain ⟨rfl, q86⟩ := q86
        replace q86 := q86.symm
        subst q86
        exact Z.vret C E dX6_enter_89 (by decide) (by decide) (by first | exact ⟨rfl, by rw [hA2 (by omega), show enF T e ow f = _ from if_pos w2]⟩ | exact ⟨rfl, by rw [hA3 w3, show enF T e ow f = _ from (if_neg w2).trans (if_pos w3), zput_zput]⟩ | exact ⟨rfl, by rw [hA2 w3, show enF T e ow f = f from (if_neg w2).trans (if_neg w3), zput_self hb1]⟩)
    · have w2 : T 32 e = 2 := Classical.byContradiction fun z => Z.wayNe C (i := (T 32 e).toNat) (j := 2) (by omega) (by decide) (by omega) c60
      refine Z.aload_n C dX6_enter_63 rfl ?_
      refine Z.aload_n C dX6_enter_64 rfl ?_
      refine v_X6_321 C rfl dX6_enter_65 (hb0) (c_X0_enterLoans htr hb0 hb1 he1 hl1 hne h1 (by omega)) (by decide) (Nat.le_of_ble_eq_true rfl) (by rw [hR]; exact Nat.le_of_ble_eq_true rfl) (by rw [hR]; exact Nat.le_of_ble_eq_true rfl) (fun w65 h65 q65 => ?_) (fun _ _ q => q.elim)
      obtain ⟨rfl, q65⟩ := q65
      replace q65 := q65.symm
      subst q65
      refine Z.goto (tgt := 89) C dX6_enter_68 (by decide) ?_
      exact Z.vret C E dX6_enter_89 (by decide) (by decide) (by first | exact ⟨rfl, by rw [hA2 (by omega), show enF T e ow f = _ from if_pos w2]⟩ | exact ⟨rfl, by rw [hA3 w3, show enF T e ow f = _ from (if_neg w2).trans (if_pos w3), zput_zput]⟩ | exact ⟨rfl, by rw [hA2 w3, show enF T e ow f = f from (if_neg w2).trans (if_neg w3), zput_self hb1]⟩)
  refine Z.aload_n C dX6_enter_0 rfl ?_
  refine g_X6_315  C rfl dX6_enter_1 (ho) rfl ?_
  refine Z.aload_n C dX6_enter_4 rfl ?_
  refine g_X6_318  C rfl dX6_enter_5 (he9) rfl ?_
  refine Z.icmp_ne (tgt := 28) C dX6_enter_8 (by decide) (by omega) (by omega) (by omega) (by omega) (fun c8 => ?_) (fun c8 => ?_)
  · refine Z.aload_n C dX6_enter_28 rfl ?_
    refine g_X6_315  C rfl dX6_enter_29 (ho) rfl ?_
    refine Z.aload_n C dX6_enter_32 rfl ?_
    refine g_X6_275  C rfl dX6_enter_33 (he9) rfl ?_
    refine Z.icmp_ne (tgt := 53) C dX6_enter_36 (by decide) (by omega) (by omega) (by omega) (by omega) (fun c36 => ?_) (fun c36 => ?_)
    · first | exact J53 _ (by first | (rw [if_pos (by omega)]; done) | (rw [if_neg (by omega), if_pos (by omega)]; done)) | (have z9 := J53 ac (by rw [if_neg (by omega), if_neg (by omega)]); rw [zput_self ho] at z9; exact z9)
    · refine Z.aload_n C dX6_enter_39 rfl ?_
      refine Z.dup C dX6_enter_40 rfl ?_
      refine g_X6_104  C rfl dX6_enter_41 (ho) rfl ?_
      refine Z.aload_n C dX6_enter_44 rfl ?_
      refine Z.aload_n C dX6_enter_45 rfl ?_
      refine v_X6_152 C rfl dX6_enter_46 (R.club) (c_X6_costOf htr R I he) (by decide) (Nat.le_of_ble_eq_true rfl) (by rw [hR]; exact Nat.le_of_ble_eq_true rfl) (by rw [hR]; exact Nat.le_of_ble_eq_true rfl) (fun w46 h46 q46 => ?_) (fun _ _ q => q.elim)
      obtain ⟨rfl, q46⟩ := q46
      replace q46 := q46.symm
      subst q46
      refine Z.iadd C dX6_enter_49 ?_
      refine p_X6_104 (fs' := [vI (ow : Int), .ref bl, vI (ac + cCost T e)]) C rfl  dX6_enter_50  (ho) (Nat.le_of_ble_eq_true rfl) rfl ?_
      first | exact J53 _ (by first | (rw [if_pos (by omega)]; done) | (rw [if_neg (by omega), if_pos (by omega)]; done)) | (have z9 := J53 ac (by rw [if_neg (by omega), if_neg (by omega)]); rw [zput_self ho] at z9; exact z9)
  · refine Z.aload_n C dX6_enter_11 rfl ?_
    refine Z.dup C dX6_enter_12 rfl ?_
    refine g_X6_104  C rfl dX6_enter_13 (ho) rfl ?_
    refine Z.aload_n C dX6_enter_16 rfl ?_
    refine Z.aload_n C dX6_enter_17 rfl ?_
    refine v_X6_152 C rfl dX6_enter_18 (R.club) (c_X6_costOf htr R I he) (by decide) (Nat.le_of_ble_eq_true rfl) (by rw [hR]; exact Nat.le_of_ble_eq_true rfl) (by rw [hR]; exact Nat.le_of_ble_eq_true rfl) (fun w18 h18 q18 => ?_) (fun _ _ q => q.elim)
    obtain ⟨rfl, q18⟩ := q18
    replace q18 := q18.symm
    subst q18
    refine Z.isub C dX6_enter_21 ?_
    refine p_X6_104 (fs' := [vI (ow : Int), .ref bl, vI (ac - cCost T e)]) C rfl  dX6_enter_22  (ho) (Nat.le_of_ble_eq_true rfl) rfl ?_
    refine Z.goto (tgt := 53) C dX6_enter_25 (by decide) ?_
    first | exact J53 _ (by first | (rw [if_pos (by omega)]; done) | (rw [if_neg (by omega), if_pos (by omega)]; done)) | (have z9 := J53 ac (by rw [if_neg (by omega), if_neg (by omega)]); rw [zput_self ho] at z9; exact z9)

def cLog (T : Nat → Nat → Int) (w hr wh un hd : Int) (g : Nat → Int) : Nat → Nat → Int := su (su (su (su (su (su (rput T 37 10 (cN T 3) g) 32 (cN T 3) w) 33 (cN T 3) hr) 34 (cN T 3) wh) 35 (cN T 3) un) 36 (cN T 3) hd) 31 0 (T 31 0 + 1)
theorem cLog_ne (T : Nat → Nat → Int) (w hr wh un hd : Int) (g : Nat → Int) {k : Nat} (hk : k < 31 ∨ 37 < k) : cLog T w hr wh un hd g k = T k := by
  unfold cLog
  rw [su_ne _ _ _ (by omega), su_ne _ _ _ (by omega), su_ne _ _ _ (by omega), su_ne _ _ _ (by omega), su_ne _ _ _ (by omega), su_ne _ _ _ (by omega), rput_ne _ _ _ _ (by omega)]
theorem cLog_n (T : Nat → Nat → Int) (w hr wh un hd : Int) (g : Nat → Int) : cLog T w hr wh un hd g 31 0 = T 31 0 + 1 ∧ cLog T w hr wh un hd g 32 (cN T 3) = w ∧ cLog T w hr wh un hd g 33 (cN T 3) = hr ∧ cLog T w hr wh un hd g 34 (cN T 3) = wh ∧ cLog T w hr wh un hd g 35 (cN T 3) = un ∧ cLog T w hr wh un hd g 36 (cN T 3) = hd := by
  unfold cLog
  simp [su_at]
theorem cLog_o (T : Nat → Nat → Int) (w hr wh un hd : Int) (g : Nat → Int) {k i : Nat} (h1 : 32 ≤ k) (h2 : k ≤ 36) (hi : i ≠ (cN T 3)) : cLog T w hr wh un hd g k i = T k i := by
  unfold cLog
  rw [su_ne _ _ _ (by omega), su_at, if_neg (fun z => hi z.2), su_at, if_neg (fun z => hi z.2), su_at, if_neg (fun z => hi z.2), su_at, if_neg (fun z => hi z.2), su_at, if_neg (fun z => hi z.2), rput_ne _ _ _ _ (by omega)]
theorem cLog_37 (T : Nat → Nat → Int) (w hr wh un hd : Int) (g : Nat → Int) : cLog T w hr wh un hd g 37 = rput T 37 10 (cN T 3) g 37 := by
  unfold cLog
  rw [su_ne _ _ _ (by decide), su_ne _ _ _ (by decide), su_ne _ _ _ (by decide), su_ne _ _ _ (by decide), su_ne _ _ _ (by decide), su_ne _ _ _ (by decide)]
theorem cLog_cN (T : Nat → Nat → Int) (w hr wh un hd : Int) (g : Nat → Int) (hb : 0 ≤ T 31 0) : cN (cLog T w hr wh un hd g) 0 = cN T 0 ∧ cN (cLog T w hr wh un hd g) 1 = cN T 1 ∧ cN (cLog T w hr wh un hd g) 2 = cN T 2 ∧ cN (cLog T w hr wh un hd g) 3 = cN T 3 + 1 := by
  refine ⟨congrArg (fun f : Nat → Int => (f 0).toNat) (cLog_ne T w hr wh un hd g (k := 2) (by omega)), congrArg (fun f : Nat → Int => (f 0).toNat) (cLog_ne T w hr wh un hd g (k := 10) (by omega)), congrArg (fun f : Nat → Int => (f 0).toNat) (cLog_ne T w hr wh un hd g (k := 15) (by omega)), ?_⟩
  show (cLog T w hr wh un hd g 31 0).toNat = (T 31 0).toNat + 1
  rw [(cLog_n T w hr wh un hd g).1]
  omega
theorem TB_log {T : Nat → Nat → Int} (I : TB T) {w hr wh un hd : Int} {g : Nat → Int} (h1 : 0 ≤ w ∧ w ≤ 3) (h2 : 0 ≤ hr ∧ hr ≤ 2000) (h3 : 0 ≤ wh ∧ wh ≤ 9) (h4 : 0 ≤ un ∧ un ≤ 20) (h5 : -1 ≤ hd ∧ hd ≤ 9) (h6 : ∀ j, 0 ≤ g j ∧ g j ≤ 20) (h7 : T 31 0 < 310) : TB (cLog T w hr wh un hd g) := by
  have h31 : 0 ≤ T 31 0 ∧ T 31 0 ≤ 310 := I.1 31 0 (by decide) (by decide) (by decide)
  have I0 : TB (rput T 37 10 (cN T 3) g) := by
    refine ⟨fun k j k1 k2 k3 => ?_, fun j => by rw [rput_ne _ _ _ _ (by decide)]; exact I.2 j⟩
    unfold rput
    split
    · rename_i e
      subst e
      try dsimp only
      split
      · exact h6 _
      · exact I.1 _ j k1 k2 k3
    · exact I.1 k j k1 k2 k3
  have I1 := TB_su (TB_su (TB_su (TB_su I0 32 (cN T 3) (v := w) (by decide) h1) 33 (cN T 3) (v := hr) (by decide) h2) 34 (cN T 3) (v := wh) (by decide) h3) 35 (cN T 3) (v := un) (by decide) h4
  have I2 : TB (su (su (su (su (su (rput T 37 10 (cN T 3) g) 32 (cN T 3) w) 33 (cN T 3) hr) 34 (cN T 3) wh) 35 (cN T 3) un) 36 (cN T 3) hd) := by
    refine ⟨fun k j k1 k2 k3 => by rw [su_ne _ _ _ k3]; exact I1.1 k j k1 k2 k3, fun j => ?_⟩
    rw [su_at]
    split
    · exact h5
    · exact I1.2 j
  exact TB_su I2 31 0 (by decide) (show 0 ≤ T 31 0 + 1 ∧ T 31 0 + 1 ≤ (310 : Int) by omega)
theorem CR.addE {G : zG} {ad : Nat → Nat → Nat} {el : Nat → Nat} {T : Nat → Nat → Int} {h : zH} (R : CR G ad el T h) {h9 : zH} {a lb : Nat} {w hr wh un hd : Int} {g : Nat → Int} (ha : ¬ cOwn ad el T a) (hlb : ¬ cOwn ad el T lb) (hab : lb ≠ a)
    (h1 : h a = some (eO 3 [.ref (G.2.2 w.toNat), vI hr, vI wh, vI un, .ref lb, vI hd])) (h2 : h lb = some (eI (G.2.1 0) 10 g)) (hg : ∀ j, 10 ≤ j → g j = 0) (hb : 0 ≤ T 31 0) (hp : LPost G h h9 (ad 10 3) (el 3) (cN T 3) a (ad 8)) : ∃ ad9 el9, CR G ad9 el9 (cLog T w hr wh un hd g) h9 ∧ ad9 0 0 = ad 0 0 ∧ (∀ k i, i < cN T (cG k) → ad9 k i = ad k i) ∧ ad9 8 (cN T 3) = a ∧ ad9 9 (cN T 3) = lb := by
  have hcn := cLog_cN T w hr wh un hd g hb
  have hn := cLog_n T w hr wh un hd g
  have a8 : adN ad 3 (cN T 3) (fun k => if k = 8 then a else lb) 8 (cN T 3) = a := by unfold adN; rw [if_pos ⟨rfl, rfl⟩]; rfl
  have a9 : adN ad 3 (cN T 3) (fun k => if k = 8 then a else lb) 9 (cN T 3) = lb := by unfold adN; rw [if_pos ⟨rfl, rfl⟩]; rfl
  have hold : ∀ k i, i < cN T (cG k) → adN ad 3 (cN T 3) (fun k => if k = 8 then a else lb) k i = ad k i := fun k i hi => by
    unfold adN
    rw [if_neg]
    rintro ⟨z1, z2⟩
    rw [z1] at hi
    omega
  suffices hs : ∃ el', CR G (adN ad 3 (cN T 3) (fun k => if k = 8 then a else lb)) el' (cLog T w hr wh un hd g) h9 by
    obtain ⟨el', hs⟩ := hs
    exact ⟨_, el', hs, by unfold adN; rw [if_neg (fun z => absurd z.1 (by decide))], hold, a8, a9⟩
  refine R.add (g := 3) (by decide) (fun k => if k = 8 then a else lb) (cnt_of (by decide) hcn.1 hcn.2.1 hcn.2.2.1 hcn.2.2.2) (fun k i hi => ?_) (fun k _ => ?_) (fun k hk => ?_) (fun k k' h2 h3 he => ?_) hp
  · have hk9 := cG_9 hi
    have hk : k = 0 ∨ k = 1 ∨ k = 2 ∨ k = 3 ∨ k = 4 ∨ k = 5 ∨ k = 6 ∨ k = 7 ∨ k = 8 ∨ k = 9 := by omega
    clear hk9
    rcases hk with rfl | rfl | rfl | rfl | rfl | rfl | rfl | rfl | rfl | rfl
    all_goals unfold cel
    all_goals try rw [cLog_ne T w hr wh un hd g (k := 1) (by omega), cLog_ne T w hr wh un hd g (k := 14) (by omega)]
    all_goals try rw [cLog_ne T w hr wh un hd g (k := 4) (by omega), cLog_ne T w hr wh un hd g (k := 6) (by omega), cLog_ne T w hr wh un hd g (k := 3) (by omega), cLog_ne T w hr wh un hd g (k := 5) (by omega), cLog_ne T w hr wh un hd g (k := 8) (by omega)]
    all_goals try rw [row_c (cLog_ne T w hr wh un hd g (k := 13) (by omega))]
    all_goals try rw [cLog_ne T w hr wh un hd g (k := 7) (by omega)]
    all_goals try rw [row_c (cLog_ne T w hr wh un hd g (k := 30) (by omega))]
    all_goals try rw [cLog_ne T w hr wh un hd g (k := 11) (by omega), cLog_ne T w hr wh un hd g (k := 12) (by omega)]
    all_goals try rw [cLog_ne T w hr wh un hd g (k := 17) (by omega), cLog_ne T w hr wh un hd g (k := 18) (by omega), cLog_ne T w hr wh un hd g (k := 16) (by omega), cLog_ne T w hr wh un hd g (k := 19) (by omega)]
    all_goals try rw [row_c (cLog_ne T w hr wh un hd g (k := 20) (by omega))]
    all_goals first
      | rfl
      | (have hi2 : i < cN T 3 := hi
         have hne : i ≠ (cN T 3) := by omega
         rw [cLog_o T w hr wh un hd g (by decide) (by decide) hne, cLog_o T w hr wh un hd g (by decide) (by decide) hne, cLog_o T w hr wh un hd g (by decide) (by decide) hne, cLog_o T w hr wh un hd g (by decide) (by decide) hne, cLog_o T w hr wh un hd g (by decide) (by decide) hne, hold 9 i hi2] <;> rfl)
      | (have hi2 : i < cN T 3 := hi
         have e9 : row (cLog T w hr wh un hd g) 37 10 i = row T 37 10 i := by
           rw [row_c (cLog_37 T w hr wh un hd g)]
           exact row_rput_ne T 37 10 g (by omega)
         rw [e9] <;> rfl)
  · try dsimp only
    split <;> assumption
  · rcases cG_i.2.2.2 hk with rfl | rfl
    · rw [if_pos rfl, h1]
      show _ = some (eO 3 [.ref (G.2.2 (cLog T w hr wh un hd g 32 (cN T 3)).toNat), vI (cLog T w hr wh un hd g 33 (cN T 3)), vI (cLog T w hr wh un hd g 34 (cN T 3)), vI (cLog T w hr wh un hd g 35 (cN T 3)), .ref (adN ad 3 (cN T 3) (fun k => if k = 8 then a else lb) 9 (cN T 3)), vI (cLog T w hr wh un hd g 36 (cN T 3))])
      rw [hn.2.1, hn.2.2.1, hn.2.2.2.1, hn.2.2.2.2.1, hn.2.2.2.2.2, a9]
    · rw [if_neg (by decide), h2]
      show _ = some (eI (G.2.1 0) 10 (row (cLog T w hr wh un hd g) 37 10 (cN T 3)))
      rw [row_c (cLog_37 T w hr wh un hd g), row_rput _ _ _ _ _ hg]
  · try dsimp only at he
    rcases cG_i.2.2.2 h2 with rfl | rfl <;> rcases cG_i.2.2.2 h3 with rfl | rfl
    · rfl
    · rw [if_pos rfl, if_neg (by decide)] at he; exact absurd he.symm hab
    · rw [if_pos rfl, if_neg (by decide)] at he; exact absurd he hab
    · rfl
/-- the entry e into the books of the first m members -/
def cKL (T : Nat → Nat → Int) (e : Nat) : Nat → (Nat → Nat → Int)
  | 0 => T
  | m + 1 => rput (su (cKL T e m) 7 m (enA T e m (row T 30 10 m) (T 7 m))) 30 10 m (enF T e m (row T 30 10 m))
theorem cKL_s (T : Nat → Nat → Int) (e : Nat) : ∀ m, same73 T (cKL T e m)
  | 0 => fun _ _ _ => rfl
  | m + 1 => fun g h1 h2 => by rw [cKL, rput_ne _ _ _ _ h2, su_ne _ _ _ h1]; exact cKL_s T e m g h1 h2
theorem cKL_7 (T : Nat → Nat → Int) (e i : Nat) : ∀ m, cKL T e m 7 i = if i < m then enA T e i (row T 30 10 i) (T 7 i) else T 7 i
  | 0 => by rw [if_neg (by omega)]; rfl
  | m + 1 => by
    rw [cKL, rput_ne _ _ _ _ (by decide), su_at, cKL_7 T e i m]
    by_cases c : i = m
    · subst c
      rw [if_pos ⟨rfl, rfl⟩, if_pos (by omega)]
    · rw [if_neg (fun z => c z.2)]
      by_cases c2 : i < m
      · rw [if_pos c2, if_pos (by omega)]
      · rw [if_neg c2, if_neg (by omega)]
theorem row_cKL (T : Nat → Nat → Int) (e i : Nat) (h34 : (T 34 e).toNat < 10) : ∀ m, row (cKL T e m) 30 10 i = if i < m then enF T e i (row T 30 10 i) else row T 30 10 i
  | 0 => by rw [if_neg (by omega)]; rfl
  | m + 1 => by
    rw [cKL]
    by_cases c : i = m
    · subst c
      rw [row_rput _ _ _ _ _ (enF_hi T e i (fun j hj => row_hi T 30 10 i hj) h34), if_pos (by omega)]
    · rw [row_rput_ne _ _ _ _ c, row_c (su_ne _ _ _ (by decide)), row_cKL T e i h34 m]
      by_cases c2 : i < m
      · rw [if_pos c2, if_pos (by omega)]
      · rw [if_neg c2, if_neg (by omega)]

set_option maxRecDepth 100000 in
theorem c_X6_keepInLog_ok {ln : Launch} (htr : ln.stackTraces = false) {G : zG} {h : zH} {ad : Nat → Nat → Nat} {el : Nat → Nat} {T : Nat → Nat → Int} (R : CR G ad el T h) (I : TB T) {a lb : Nat} {w hr wh un hd : Int} {g : Nat → Int} (ha : ¬ cOwn ad el T a) (hlb : ¬ cOwn ad el T lb) (hab : lb ≠ a) (h1 : h a = some (eO 3 [.ref (G.2.2 w.toNat), vI hr, vI wh, vI un, .ref lb, vI hd])) (h2 : h lb = some (eI (G.2.1 0) 10 g)) (hg : ∀ j, 10 ≤ j → g j = 0) (h31 : T 31 0 < 310) (I1 : TB (cLog T w hr wh un hd g)) : CT ln G yX6_keepInLog cX6_keepInLog 3 none 9 ([.ref (ad 0 0), .ref a]) h 1 480 (fun r9 h9 => r9 = none ∧ ∃ ad9 el9, CR G ad9 el9 (cKL (cLog T w hr wh un hd g) (cN T 3) (cN T 0)) h9 ∧ ad9 0 0 = ad 0 0 ∧ (∀ k i, i < cN T (cG k) → ad9 k i = ad k i) ∧ ad9 8 (cN T 3) = a ∧ ad9 9 (cN T 3) = lb) zNo := by
  refine CT.intro htr (by decide) rfl (Nat.le_of_ble_eq_true rfl) ?_
  intro X hln hG hR hN C E
  subst hln
  subst hG
  have hn9 := I.n
  refine Z.aload_n C dX6_keepInLog_0 rfl ?_
  refine g_X6_22  C rfl dX6_keepInLog_1 (R.club) rfl ?_
  refine Z.aload_n C dX6_keepInLog_4 rfl ?_
  refine v_X6_55 C rfl dX6_keepInLog_5 (R.lEo.choose_spec) (c_Jx4a65c_add_9ea2d htr (ci := 3) (by decide) rfl (by decide +kernel) R.lE (by omega) h1 (fun j hj => ⟨_, R.ent hj⟩) (fun z => ha (Or.inr ⟨3, by decide, Or.inl z⟩))) (by decide) (Nat.le_of_ble_eq_true rfl) (by rw [hR]; exact Nat.le_of_ble_eq_true rfl) (by rw [hR]; exact Nat.le_of_ble_eq_true rfl) (fun w5 h5 q5 => ?_) (fun _ _ q => q.elim)
  obtain ⟨rfl, hp⟩ := q5
  obtain ⟨ad9, el9, R1, e0, e1, e8, e9⟩ := R.addE ha hlb hab h1 h2 hg (by omega) hp
  have hcn := cLog_cN T w hr wh un hd g (by omega)
  clear R hp h1 h2
  rw [← e0, ← e8]
  have h34 : 0 ≤ (cLog T w hr wh un hd g) 34 (cN T 3) ∧ (cLog T w hr wh un hd g) 34 (cN T 3) ≤ 9 := I1.1 34 (cN T 3) (by decide) (by decide) (by decide)
  refine Z.pop C dX6_keepInLog_8 rfl ?_
  refine Z.iconst C dX6_keepInLog_9 ?_
  refine Z.istore_n (l' := [_, _, _]) C dX6_keepInLog_10 (Nat.le_of_ble_eq_true rfl) (by rw [hN]; decide) rfl ?_
  have L : ∀ (q i : Nat) (h : zH), i + q = cN T 0 → CR (zG_of X) ad9 el9 (cKL (cLog T w hr wh un hd g) (cN T 3) i) h → Z X 11 [.ref (ad9 0 0), .ref (ad9 8 (cN T 3)), vI (i : Int)] [] h 1 480 := by
    intro q
    induction q with
    | zero =>
      intro i h hi R
      have hs := cKL_s (cLog T w hr wh un hd g) (cN T 3) i
      have I := same73_TB hs I1
      have en := same73_cN hs
      have hn9 := I.n
      have en0 := en 0
      have en3 := en 3
      have h3n : cN T 3 < cN (cKL (cLog T w hr wh un hd g) (cN T 3) i) 3 := by omega
      refine Z.iload_n C dX6_keepInLog_11 rfl ?_
      refine Z.aload_n C dX6_keepInLog_12 rfl ?_
      refine g_X6_10  C rfl dX6_keepInLog_13 (R.club) rfl ?_
      refine v_X6_41 C rfl dX6_keepInLog_16 (R.lMo.choose_spec) (c_size htr R.lM) (by decide) (Nat.le_of_ble_eq_true rfl) (by rw [hR]; exact Nat.le_of_ble_eq_true rfl) (by rw [hR]; exact Nat.le_of_ble_eq_true rfl) (fun w16 h16 q16 => ?_) (fun _ _ q => q.elim)
      obtain ⟨rfl, q16⟩ := q16
      replace q16 := q16.symm
      subst q16
      refine Z.icmp_ge (tgt := 47) C dX6_keepInLog_19 (by decide) (by omega) (by omega) (by omega) (by omega) (fun c19 => ?_) (fun c19 => ?_)
      · exact Z.vret C E dX6_keepInLog_47 (by decide) (by decide) ⟨rfl, ad9, el9, by rw [show cN T 0 = i by omega]; exact R, e0, e1, e8, e9⟩
      · exfalso; omega
    | succ q ih =>
      intro i h hi R
      have hs := cKL_s (cLog T w hr wh un hd g) (cN T 3) i
      have I := same73_TB hs I1
      have en := same73_cN hs
      have hn9 := I.n
      have en0 := en 0
      have en3 := en 3
      have h3n : cN T 3 < cN (cKL (cLog T w hr wh un hd g) (cN T 3) i) 3 := by omega
      refine Z.iload_n C dX6_keepInLog_11 rfl ?_
      refine Z.aload_n C dX6_keepInLog_12 rfl ?_
      refine g_X6_10  C rfl dX6_keepInLog_13 (R.club) rfl ?_
      refine v_X6_41 C rfl dX6_keepInLog_16 (R.lMo.choose_spec) (c_size htr R.lM) (by decide) (Nat.le_of_ble_eq_true rfl) (by rw [hR]; exact Nat.le_of_ble_eq_true rfl) (by rw [hR]; exact Nat.le_of_ble_eq_true rfl) (fun w16 h16 q16 => ?_) (fun _ _ q => q.elim)
      obtain ⟨rfl, q16⟩ := q16
      replace q16 := q16.symm
      subst q16
      refine Z.icmp_ge (tgt := 47) C dX6_keepInLog_19 (by decide) (by omega) (by omega) (by omega) (by omega) (fun c19 => ?_) (fun c19 => ?_)
      · exfalso; omega
      · refine Z.aload_n C dX6_keepInLog_22 rfl ?_
        refine Z.aload_n C dX6_keepInLog_23 rfl ?_
        refine Z.aload_n C dX6_keepInLog_24 rfl ?_
        refine g_X6_10  C rfl dX6_keepInLog_25 (R.club) rfl ?_
        refine Z.iload_n C dX6_keepInLog_28 rfl ?_
        refine v_X6_84 C rfl dX6_keepInLog_29 (R.lMo.choose_spec) (c_getN htr R.lM (by omega)) (by decide) (Nat.le_of_ble_eq_true rfl) (by rw [hR]; exact Nat.le_of_ble_eq_true rfl) (by rw [hR]; exact Nat.le_of_ble_eq_true rfl) (fun w29 h29 q29 => ?_) (fun _ _ q => q.elim)
        obtain ⟨rfl, q29⟩ := q29
        replace q29 := q29.symm
        subst q29
        refine k_X6_50 C rfl dX6_keepInLog_32 (R.mem (by omega)) ?_
        refine g_X6_100  C rfl dX6_keepInLog_35 (R.mem (by omega)) rfl ?_
        refine v_X6_310 C rfl dX6_keepInLog_38 (R.club) (c_X6_enter_ok htr R I (e := cN T 3) h3n (R.book (i := i) (by omega)) (R.bal (i := i) (by omega)) (fun z => absurd (R.2.1 9 (cN T 3) 4 i h3n (show i < cN _ 0 by omega) z).1 (by decide)) (by omega)) (by decide) (Nat.le_of_ble_eq_true rfl) (by rw [hR]; exact Nat.le_of_ble_eq_true rfl) (by rw [hR]; exact Nat.le_of_ble_eq_true rfl) (fun w38 h38 q38 => ?_) (fun _ _ q => q.elim)
        obtain ⟨rfl, q38⟩ := q38
        rw [same73_enA hs, same73_enF hs, row_cKL _ _ _ (by omega) i, if_neg (Nat.lt_irrefl _), cKL_7, if_neg (Nat.lt_irrefl _)] at q38
        subst q38
        refine Z.iinc (l' := [_, _, _]) C dX6_keepInLog_41 rfl (Nat.le_of_ble_eq_true rfl) (by rw [hN]; decide) rfl ?_
        refine Z.goto (tgt := 11) C dX6_keepInLog_44 (by decide) ?_
        refine ih (i + 1) _ (by omega) ?_
        rw [cKL]
        have R9 := (R.st7 (j := i) (by omega) (enA (cLog T w hr wh un hd g) (cN T 3) i (row (cLog T w hr wh un hd g) 30 10 i) ((cLog T w hr wh un hd g) 7 i))).rw30 (i := i) (by rw [cN_su _ _ _ (by decide) (by decide) (by decide) (by decide)]; omega) (enF (cLog T w hr wh un hd g) (cN T 3) i (row (cLog T w hr wh un hd g) 30 10 i)) (enF_hi _ _ _ (fun j hj => row_hi _ 30 10 i hj) (by omega))
        exact R9
  refine L _ 0 _ (Nat.zero_add _) ?_
  exact R1

