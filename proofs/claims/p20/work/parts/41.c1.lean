/-! books: loans, settling -/
def eLf (f g : Nat → Int) (ow i : Nat) : Nat → Int := fun j => if j < i ∧ j ≠ ow then f j + g j else f j
def eLn (f g : Nat → Int) (ow wh : Nat) : Nat → Int := if ow = wh then eLf f g ow 10 else va_up f wh (f wh + -(g ow))
theorem eLf_zero (f g : Nat → Int) (ow : Nat) : eLf f g ow 0 = f := by
  funext j
  unfold eLf
  rw [if_neg (by omega)]
theorem eLf_skip (f g : Nat → Int) {ow i : Nat} (hi : i = ow) : eLf f g ow (i + 1) = eLf f g ow i := by
  funext j
  unfold eLf
  by_cases c : j < i ∧ j ≠ ow
  · rw [if_pos c, if_pos (by omega)]
  · rw [if_neg c, if_neg (by omega)]
theorem eLf_step (f g : Nat → Int) {ow i : Nat} (hi : i ≠ ow) : va_up (eLf f g ow i) i (eLf f g ow i i + g i) = eLf f g ow (i + 1) := by
  funext j
  unfold va_up eLf
  by_cases c : j = i
  · subst c
    rw [if_pos rfl, if_neg (by omega), if_pos (by omega)]
  · rw [if_neg c]
    by_cases c2 : j < i ∧ j ≠ ow
    · rw [if_pos c2, if_pos (by omega)]
    · rw [if_neg c2, if_neg (by omega)]
def sF (f : Nat → Int) (ow lv i : Nat) : Nat → Int := fun j => if j < i ∧ (j = lv ∨ ow = lv) then 0 else f j
theorem sF_zero (f : Nat → Int) (ow lv : Nat) : sF f ow lv 0 = f := by
  funext j
  unfold sF
  rw [if_neg (by omega)]
theorem sF_at (f : Nat → Int) (ow lv i : Nat) : sF f ow lv i i = f i := by
  unfold sF
  rw [if_neg (by omega)]
theorem sF_skip (f : Nat → Int) {ow lv i : Nat} (hi : ¬ (i = lv ∨ ow = lv)) : sF f ow lv (i + 1) = sF f ow lv i := by
  funext j
  unfold sF
  by_cases c : j < i ∧ (j = lv ∨ ow = lv)
  · rw [if_pos c, if_pos (by omega)]
  · rw [if_neg c, if_neg (by omega)]
theorem sF_step (f : Nat → Int) {ow lv i : Nat} (hi : i = lv ∨ ow = lv) : va_up (sF f ow lv i) i 0 = sF f ow lv (i + 1) := by
  funext j
  unfold va_up sF
  by_cases c : j = i
  · subst c
    rw [if_pos rfl, if_pos (by omega)]
  · rw [if_neg c]
    by_cases c2 : j < i ∧ (j = lv ∨ ow = lv)
    · rw [if_pos c2, if_pos (by omega)]
    · rw [if_neg c2, if_neg (by omega)]

set_option maxRecDepth 100000 in
theorem c_X0_enterLoans {ln : Launch} (htr : ln.stackTraces = false) {G : zG} {h : zH} {b bl e wy ls ow wh : Nat} {ac hr un hd : Int} {f g : Nat → Int} (ho : h b = some (eO 2 [vI (ow : Int), .ref bl, vI ac])) (hb : h bl = some (eI (G.2.1 0) 10 f)) (he : h e = some (eO 3 [.ref wy, vI hr, vI (wh : Int), vI un, .ref ls, vI hd])) (hl : h ls = some (eI (G.2.1 0) 10 g)) (hne : ls ≠ bl) (h1 : ow < 10) (h2 : wh < 10) : CT ln G yX0_enterLoans cX0_enterLoans 3 none 2 ([.ref b, .ref e]) h 0 0 (fun r9 h9 => r9 = none ∧ h9 = zput h bl (eI (G.2.1 0) 10 (eLn f g ow wh))) zNo := by
  refine CT.intro htr (by decide) rfl (Nat.le_of_ble_eq_true rfl) ?_
  intro X hln hG hR hN C E
  subst hln
  subst hG
  refine Z.aload_n C dX0_enterLoans_0 rfl ?_
  refine g_X0_19  C rfl dX0_enterLoans_1 (ho) rfl ?_
  refine Z.aload_n C dX0_enterLoans_4 rfl ?_
  refine g_X0_22  C rfl dX0_enterLoans_5 (he) rfl ?_
  refine Z.icmp_eq (tgt := 29) C dX0_enterLoans_8 (by decide) (by omega) (by omega) (by omega) (by omega) (fun c8 => ?_) (fun c8 => ?_)
  · refine Z.iconst C dX0_enterLoans_29 ?_
    refine Z.istore_n (l' := [_, _, _]) C dX0_enterLoans_30 (Nat.le_of_ble_eq_true rfl) (by rw [hN]; decide) rfl ?_
    have L : ∀ (q i : Nat), i + q = 10 → Z X 31 [.ref b, .ref e, vI (i : Int)] [] (zput h bl (eI ((zG_of X).2.1 0) 10 (eLf f g ow i))) 0 0 := by
      intro q
      induction q with
      | zero =>
        intro i hi
        have hbne : b ≠ bl := zne ho hb eO_eI
        have hene : e ≠ bl := zne he hb eO_eI
        have ho2 : (zput h bl (eI ((zG_of X).2.1 0) 10 (eLf f g ow i))) b = some (eO 2 [vI (ow : Int), .ref bl, vI ac]) := by rw [zput_ne _ _ hbne]; exact ho
        have he2 : (zput h bl (eI ((zG_of X).2.1 0) 10 (eLf f g ow i))) e = some (eO 3 [.ref wy, vI hr, vI (wh : Int), vI un, .ref ls, vI hd]) := by rw [zput_ne _ _ hene]; exact he
        have hl2 : (zput h bl (eI ((zG_of X).2.1 0) 10 (eLf f g ow i))) ls = some (eI ((zG_of X).2.1 0) 10 g) := by rw [zput_ne _ _ hne]; exact hl
        have hb2 : (zput h bl (eI ((zG_of X).2.1 0) 10 (eLf f g ow i))) bl = some (eI ((zG_of X).2.1 0) 10 (eLf f g ow i)) := zput_same _ _ _
        refine Z.iload_n C dX0_enterLoans_31 rfl ?_
        refine Z.aload_n C dX0_enterLoans_32 rfl ?_
        refine g_X0_9  C rfl dX0_enterLoans_33 (ho2) rfl ?_
        refine Z.alenI C dX0_enterLoans_36 hb2 ?_
        refine Z.icmp_ge (tgt := 64) C dX0_enterLoans_37 (by decide) (by omega) (by omega) (by omega) (by omega) (fun c37 => ?_) (fun c37 => ?_)
        · exact Z.vret C E dX0_enterLoans_64 (by decide) (by decide) ⟨rfl, by unfold eLn; rw [if_pos (by omega), show i = 10 by omega]⟩
        · exfalso; omega
      | succ q ih =>
        intro i hi
        have hbne : b ≠ bl := zne ho hb eO_eI
        have hene : e ≠ bl := zne he hb eO_eI
        have ho2 : (zput h bl (eI ((zG_of X).2.1 0) 10 (eLf f g ow i))) b = some (eO 2 [vI (ow : Int), .ref bl, vI ac]) := by rw [zput_ne _ _ hbne]; exact ho
        have he2 : (zput h bl (eI ((zG_of X).2.1 0) 10 (eLf f g ow i))) e = some (eO 3 [.ref wy, vI hr, vI (wh : Int), vI un, .ref ls, vI hd]) := by rw [zput_ne _ _ hene]; exact he
        have hl2 : (zput h bl (eI ((zG_of X).2.1 0) 10 (eLf f g ow i))) ls = some (eI ((zG_of X).2.1 0) 10 g) := by rw [zput_ne _ _ hne]; exact hl
        have hb2 : (zput h bl (eI ((zG_of X).2.1 0) 10 (eLf f g ow i))) bl = some (eI ((zG_of X).2.1 0) 10 (eLf f g ow i)) := zput_same _ _ _
        refine Z.iload_n C dX0_enterLoans_31 rfl ?_
        refine Z.aload_n C dX0_enterLoans_32 rfl ?_
        refine g_X0_9  C rfl dX0_enterLoans_33 (ho2) rfl ?_
        refine Z.alenI C dX0_enterLoans_36 hb2 ?_
        refine Z.icmp_ge (tgt := 64) C dX0_enterLoans_37 (by decide) (by omega) (by omega) (by omega) (by omega) (fun c37 => ?_) (fun c37 => ?_)
        · exfalso; omega
        · refine Z.iload_n C dX0_enterLoans_40 rfl ?_
          refine Z.aload_n C dX0_enterLoans_41 rfl ?_
          refine g_X0_19  C rfl dX0_enterLoans_42 (ho2) rfl ?_
          refine Z.icmp_eq (tgt := 58) C dX0_enterLoans_45 (by decide) (by omega) (by omega) (by omega) (by omega) (fun c45 => ?_) (fun c45 => ?_)
          · refine Z.iinc (l' := [_, _, _]) C dX0_enterLoans_58 rfl (Nat.le_of_ble_eq_true rfl) (by rw [hN]; decide) rfl ?_
            refine Z.goto (tgt := 31) C dX0_enterLoans_61 (by decide) ?_
            rw [← eLf_skip f g (show i = ow by omega)]
            exact ih (i + 1) (by omega)
          · refine Z.aload_n C dX0_enterLoans_48 rfl ?_
            refine Z.iload_n C dX0_enterLoans_49 rfl ?_
            refine Z.aload_n C dX0_enterLoans_50 rfl ?_
            refine Z.iload_n C dX0_enterLoans_51 rfl ?_
            refine v_X0_27 C rfl dX0_enterLoans_52 (he2) (c_X1_unitsOver htr he2 hl2 (by omega)) (by decide) (Nat.le_of_ble_eq_true rfl) (by rw [hR]; exact Nat.le_of_ble_eq_true rfl) (by rw [hR]; exact Nat.le_of_ble_eq_true rfl) (fun w52 h52 q52 => ?_) (fun _ _ q => q.elim)
            obtain ⟨rfl, q52⟩ := q52
            replace q52 := q52.symm
            subst q52
            refine v_X0_31 C rfl dX0_enterLoans_55 (ho2) (c_X0_changeBalance htr ho2 hb2 (by omega)) (by decide) (Nat.le_of_ble_eq_true rfl) (by rw [hR]; exact Nat.le_of_ble_eq_true rfl) (by rw [hR]; exact Nat.le_of_ble_eq_true rfl) (fun w55 h55 q55 => ?_) (fun _ _ q => q.elim)
            obtain ⟨rfl, rfl⟩ := q55
            refine Z.iinc (l' := [_, _, _]) C dX0_enterLoans_58 rfl (Nat.le_of_ble_eq_true rfl) (by rw [hN]; decide) rfl ?_
            refine Z.goto (tgt := 31) C dX0_enterLoans_61 (by decide) ?_
            rw [zput_zput, eLf_step f g (show i ≠ ow by omega)]
            exact ih (i + 1) (by omega)
    have L0 := L 10 0 rfl
    rw [eLf_zero, zput_self hb] at L0
    exact L0
  · refine Z.aload_n C dX0_enterLoans_11 rfl ?_
    refine Z.aload_n C dX0_enterLoans_12 rfl ?_
    refine g_X0_22  C rfl dX0_enterLoans_13 (he) rfl ?_
    refine Z.aload_n C dX0_enterLoans_16 rfl ?_
    refine Z.aload_n C dX0_enterLoans_17 rfl ?_
    refine g_X0_19  C rfl dX0_enterLoans_18 (ho) rfl ?_
    refine v_X0_27 C rfl dX0_enterLoans_21 (he) (c_X1_unitsOver htr he hl h1) (by decide) (Nat.le_of_ble_eq_true rfl) (by rw [hR]; exact Nat.le_of_ble_eq_true rfl) (by rw [hR]; exact Nat.le_of_ble_eq_true rfl) (fun w21 h21 q21 => ?_) (fun _ _ q => q.elim)
    obtain ⟨rfl, q21⟩ := q21
    replace q21 := q21.symm
    subst q21
    refine Z.ineg C dX0_enterLoans_24 ?_
    refine v_X0_31 C rfl dX0_enterLoans_25 (ho) (c_X0_changeBalance htr ho hb h2) (by decide) (Nat.le_of_ble_eq_true rfl) (by rw [hR]; exact Nat.le_of_ble_eq_true rfl) (by rw [hR]; exact Nat.le_of_ble_eq_true rfl) (fun w25 h25 q25 => ?_) (fun _ _ q => q.elim)
    obtain ⟨rfl, rfl⟩ := q25
    exact Z.vret C E dX0_enterLoans_28 (by decide) (by decide) ⟨rfl, by unfold eLn; rw [if_neg (by omega)]⟩

set_option maxRecDepth 100000 in
theorem c_X0_settle {ln : Launch} (htr : ln.stackTraces = false) {G : zG} {h : zH} {b bl ow lv : Nat} {ac : Int} {f : Nat → Int} (ho : h b = some (eO 2 [vI (ow : Int), .ref bl, vI ac])) (hb : h bl = some (eI (G.2.1 0) 10 f)) (h1 : ow < 10) (h2 : lv < 10) : CT ln G yX0_settle cX0_settle 3 none 1 ([.ref b, vI (lv : Int)]) h 0 0 (fun r9 h9 => r9 = none ∧ h9 = zput (zput h b (eO 2 [vI (ow : Int), .ref bl, vI (ac - sV f ow lv 10)])) bl (eI (G.2.1 0) 10 (sF f ow lv 10))) zNo := by
  refine CT.intro htr (by decide) rfl (Nat.le_of_ble_eq_true rfl) ?_
  intro X hln hG hR hN C E
  subst hln
  subst hG
  refine Z.iconst C dX0_settle_0 ?_
  refine Z.istore_n (l' := [_, _, _]) C dX0_settle_1 (Nat.le_of_ble_eq_true rfl) (by rw [hN]; decide) rfl ?_
  have L : ∀ (q i : Nat), i + q = 10 → Z X 2 [.ref b, vI (lv : Int), vI (i : Int)] [] (zput (zput h b (eO 2 [vI (ow : Int), .ref bl, vI (ac - sV f ow lv i)])) bl (eI ((zG_of X).2.1 0) 10 (sF f ow lv i))) 0 0 := by
    intro q
    induction q with
    | zero =>
      intro i hi
      have hbne : b ≠ bl := zne ho hb eO_eI
      have ho2 : (zput (zput h b (eO 2 [vI (ow : Int), .ref bl, vI (ac - sV f ow lv i)])) bl (eI ((zG_of X).2.1 0) 10 (sF f ow lv i))) b = some (eO 2 [vI (ow : Int), .ref bl, vI (ac - sV f ow lv i)]) := by rw [zput_ne _ _ hbne, zput_same]
      have hb2 : (zput (zput h b (eO 2 [vI (ow : Int), .ref bl, vI (ac - sV f ow lv i)])) bl (eI ((zG_of X).2.1 0) 10 (sF f ow lv i))) bl = some (eI ((zG_of X).2.1 0) 10 (sF f ow lv i)) := zput_same _ _ _
      refine Z.iload_n C dX0_settle_2 rfl ?_
      refine Z.aload_n C dX0_settle_3 rfl ?_
      refine g_X0_9  C rfl dX0_settle_4 (ho2) rfl ?_
      refine Z.alenI C dX0_settle_7 hb2 ?_
      refine Z.icmp_ge (tgt := 52) C dX0_settle_8 (by decide) (by omega) (by omega) (by omega) (by omega) (fun c8 => ?_) (fun c8 => ?_)
      · exact Z.vret C E dX0_settle_52 (by decide) (by decide) ⟨rfl, by rw [show i = 10 by omega]⟩
      · exfalso; omega
    | succ q ih =>
      intro i hi
      have hbne : b ≠ bl := zne ho hb eO_eI
      have ho2 : (zput (zput h b (eO 2 [vI (ow : Int), .ref bl, vI (ac - sV f ow lv i)])) bl (eI ((zG_of X).2.1 0) 10 (sF f ow lv i))) b = some (eO 2 [vI (ow : Int), .ref bl, vI (ac - sV f ow lv i)]) := by rw [zput_ne _ _ hbne, zput_same]
      have hb2 : (zput (zput h b (eO 2 [vI (ow : Int), .ref bl, vI (ac - sV f ow lv i)])) bl (eI ((zG_of X).2.1 0) 10 (sF f ow lv i))) bl = some (eI ((zG_of X).2.1 0) 10 (sF f ow lv i)) := zput_same _ _ _
      refine Z.iload_n C dX0_settle_2 rfl ?_
      refine Z.aload_n C dX0_settle_3 rfl ?_
      refine g_X0_9  C rfl dX0_settle_4 (ho2) rfl ?_
      refine Z.alenI C dX0_settle_7 hb2 ?_
      refine Z.icmp_ge (tgt := 52) C dX0_settle_8 (by decide) (by omega) (by omega) (by omega) (by omega) (fun c8 => ?_) (fun c8 => ?_)
      · exfalso; omega
      · have J24 : (i = lv ∨ ow = lv) → Z X 24 [.ref b, vI (lv : Int), vI (i : Int)] [] (zput (zput h b (eO 2 [vI (ow : Int), .ref bl, vI (ac - sV f ow lv i)])) bl (eI ((zG_of X).2.1 0) 10 (sF f ow lv i))) 0 0 := by
          intro hc
          refine Z.aload_n C dX0_settle_24 rfl ?_
          refine Z.dup C dX0_settle_25 rfl ?_
          refine g_X0_15  C rfl dX0_settle_26 (ho2) rfl ?_
          refine Z.aload_n C dX0_settle_29 rfl ?_
          refine g_X0_9  C rfl dX0_settle_30 (ho2) rfl ?_
          refine Z.iload_n C dX0_settle_33 rfl ?_
          refine Z.iaload C dX0_settle_34 hb2 (by omega) (by omega) (by omega) ?_
          refine Z.isub C dX0_settle_35 ?_
          refine p_X0_15 (fs' := [vI (ow : Int), .ref bl, vI (ac - sV f ow lv i - sF f ow lv i ((i : Int).toNat))]) C rfl  dX0_settle_36  (ho2) (Nat.le_of_ble_eq_true rfl) rfl ?_
          refine Z.aload_n C dX0_settle_39 rfl ?_
          refine g_X0_9  C rfl dX0_settle_40 (zput_same _ _ _) rfl ?_
          refine Z.iload_n C dX0_settle_43 rfl ?_
          refine Z.iconst C dX0_settle_44 ?_
          refine Z.iastore C dX0_settle_45 (by rw [zput_ne _ _ (Ne.symm hbne)]; exact hb2) (by omega) (by omega) (by omega) ?_
          refine Z.iinc (l' := [_, _, _]) C dX0_settle_46 rfl (Nat.le_of_ble_eq_true rfl) (by rw [hN]; decide) rfl ?_
          refine Z.goto (tgt := 2) C dX0_settle_49 (by decide) ?_
          rw [zput_back _ _ _ _ hbne, zput_zput, Int.toNat_natCast, sF_at, sF_step f hc, show ac - sV f ow lv i - f i = ac - sV f ow lv (i + 1) by rw [sV, if_pos hc]; omega]
          exact ih (i + 1) (by omega)
        refine Z.iload_n C dX0_settle_11 rfl ?_
        refine Z.iload_n C dX0_settle_12 rfl ?_
        refine Z.icmp_eq (tgt := 24) C dX0_settle_13 (by decide) (by omega) (by omega) (by omega) (by omega) (fun c13 => ?_) (fun c13 => ?_)
        · exact J24 (by omega)
        · refine Z.aload_n C dX0_settle_16 rfl ?_
          refine g_X0_19  C rfl dX0_settle_17 (ho2) rfl ?_
          refine Z.iload_n C dX0_settle_20 rfl ?_
          refine Z.icmp_ne (tgt := 46) C dX0_settle_21 (by decide) (by omega) (by omega) (by omega) (by omega) (fun c21 => ?_) (fun c21 => ?_)
          · refine Z.iinc (l' := [_, _, _]) C dX0_settle_46 rfl (Nat.le_of_ble_eq_true rfl) (by rw [hN]; decide) rfl ?_
            refine Z.goto (tgt := 2) C dX0_settle_49 (by decide) ?_
            have hc : ¬ (i = lv ∨ ow = lv) := by omega
            rw [← sF_skip f hc, show ac - sV f ow lv i = ac - sV f ow lv (i + 1) by rw [sV, if_neg hc]; omega]
            exact ih (i + 1) (by omega)
          · exact J24 (by omega)
  have L0 := L 10 0 rfl
  rw [sF_zero, sV, Int.sub_zero, zput_self ho, zput_self hb] at L0
  exact L0

