set_option maxRecDepth 100000 in
theorem c_X7_figures {ln : Launch} (htr : ln.stackTraces = false) {G : zG} {h : zH} {w : Int} (h1 : -2147483648 ≤ w ∧ w < 2147483648) : CT ln G yX7_figures cX7_figures 1 (some .int) 1 ([vI w]) h 0 0 (fun r9 h9 => r9 = some (vI (mfigs w)) ∧ h9 = h) zNo := by
  refine CT.intro htr (by decide) rfl (Nat.le_of_ble_eq_true rfl) ?_
  intro X hln hG hR hN C E
  subst hln
  subst hG
  refine Z.iload_n C dX7_figures_0 rfl ?_
  refine Z.bipush C dX7_figures_1 (by decide) ?_
  refine Z.icmp_ge (tgt := 10) C dX7_figures_3 (by decide) (by omega) (by omega) (by omega) (by omega) (fun c3 => ?_) (fun c3 => ?_)
  · refine Z.iconst C dX7_figures_10 ?_
    exact Z.iret C E dX7_figures_11 (Nat.le_refl _) (Nat.le_refl _) ⟨congrArg (fun z => some (vI z)) (by unfold mfigs; (repeat' split) <;> omega), rfl⟩
  · refine Z.iconst C dX7_figures_6 ?_
    refine Z.goto (tgt := 11) C dX7_figures_7 (by decide) ?_
    exact Z.iret C E dX7_figures_11 (Nat.le_refl _) (Nat.le_refl _) ⟨congrArg (fun z => some (vI z)) (by unfold mfigs; (repeat' split) <;> omega), rfl⟩

set_option maxRecDepth 100000 in
theorem c_X7_figure {ln : Launch} (htr : ln.stackTraces = false) {G : zG} {h : zH} {w z : Int} (h1 : 0 ≤ w ∧ w < 10000) (h2 : -2147483648 ≤ z ∧ z < 2147483648) : CT ln G yX7_figure cX7_figure 2 (some .int) 1 ([vI w, vI z]) h 0 0 (fun r9 h9 => r9 = some (vI (mfig w z)) ∧ h9 = h) zNo := by
  refine CT.intro htr (by decide) rfl (Nat.le_of_ble_eq_true rfl) ?_
  intro X hln hG hR hN C E
  subst hln
  subst hG
  refine Z.iload_n C dX7_figure_0 rfl ?_
  refine Z.bipush C dX7_figure_1 (by decide) ?_
  refine Z.icmp_ge (tgt := 21) C dX7_figure_3 (by decide) (by omega) (by omega) (by omega) (by omega) (fun c3 => ?_) (fun c3 => ?_)
  · refine Z.iload_n C dX7_figure_21 rfl ?_
    refine Z.if_ne (tgt := 35) C dX7_figure_22 (by decide) (by omega) (by omega) (fun c22 => ?_) (fun c22 => ?_)
    · refine Z.iload_n C dX7_figure_35 rfl ?_
      refine Z.iconst C dX7_figure_36 ?_
      refine Z.icmp_ne (tgt := 50) C dX7_figure_37 (by decide) (by omega) (by omega) (by omega) (by omega) (fun c37 => ?_) (fun c37 => ?_)
      · refine Z.iconst C dX7_figure_50 ?_
        exact Z.iret C E dX7_figure_51 (Nat.le_refl _) (Nat.le_refl _) ⟨congrArg (fun z => some (vI z)) (by unfold mfig; (repeat' split) <;> omega), rfl⟩
      · refine Z.bipush C dX7_figure_40 (by decide) ?_
        refine Z.iload_n C dX7_figure_42 rfl ?_
        refine Z.bipush C dX7_figure_43 (by decide) ?_
        refine Z.irem (z := w % 10) C dX7_figure_45 (by decide) (jI_rem10 h1.1 (by omega) 10 (by decide) (by decide)) ?_
        refine Z.iadd C dX7_figure_46 ?_
        refine Z.goto (tgt := 51) C dX7_figure_47 (by decide) ?_
        exact Z.iret C E dX7_figure_51 (Nat.le_refl _) (Nat.le_refl _) ⟨congrArg (fun z => some (vI z)) (by unfold mfig; (repeat' split) <;> omega), rfl⟩
    · refine Z.bipush C dX7_figure_25 (by decide) ?_
      refine Z.iload_n C dX7_figure_27 rfl ?_
      refine Z.bipush C dX7_figure_28 (by decide) ?_
      refine Z.idiv (z := w / 10) C dX7_figure_30 (by decide) (jI_div10 h1.1 (by omega) 10 (by decide) (by decide)) ?_
      refine Z.iadd C dX7_figure_31 ?_
      refine Z.goto (tgt := 51) C dX7_figure_32 (by decide) ?_
      exact Z.iret C E dX7_figure_51 (Nat.le_refl _) (Nat.le_refl _) ⟨congrArg (fun z => some (vI z)) (by unfold mfig; (repeat' split) <;> omega), rfl⟩
  · refine Z.iload_n C dX7_figure_6 rfl ?_
    refine Z.if_ne (tgt := 17) C dX7_figure_7 (by decide) (by omega) (by omega) (fun c7 => ?_) (fun c7 => ?_)
    · refine Z.iconst C dX7_figure_17 ?_
      refine Z.goto (tgt := 51) C dX7_figure_18 (by decide) ?_
      exact Z.iret C E dX7_figure_51 (Nat.le_refl _) (Nat.le_refl _) ⟨congrArg (fun z => some (vI z)) (by unfold mfig; (repeat' split) <;> omega), rfl⟩
    · refine Z.bipush C dX7_figure_10 (by decide) ?_
      refine Z.iload_n C dX7_figure_12 rfl ?_
      refine Z.iadd C dX7_figure_13 ?_
      refine Z.goto (tgt := 51) C dX7_figure_14 (by decide) ?_
      exact Z.iret C E dX7_figure_51 (Nat.le_refl _) (Nat.le_refl _) ⟨congrArg (fun z => some (vI z)) (by unfold mfig; (repeat' split) <;> omega), rfl⟩

set_option maxRecDepth 100000 in
theorem c_X7_price {ln : Launch} (htr : ln.stackTraces = false) {G : zG} {a : Nat → Nat} {t : Int} {S : Nat → Nat → Int} {h : zH} (R : MR G a t S h) (I : MB S)  : CT ln G yX7_price cX7_price 1 (some .int) 3 (.ref (a 0) :: []) h 0 0 (fun r9 h9 => r9 = some (vI (mprice S)) ∧ h9 = h) zNo := by
  refine CT.intro htr (by decide) rfl (Nat.le_of_ble_eq_true rfl) ?_
  intro X hln hG hR hN C E
  subst hln
  subst hG
  have b1 : 0 ≤ S 1 0 ∧ S 1 0 ≤ 2000 := I 1 0 (by decide)
  have b2 : 0 ≤ S 2 0 ∧ S 2 0 ≤ 10 := I 2 0 (by decide)
  have b10 : 0 ≤ S 10 0 ∧ S 10 0 ≤ 20 := I 10 0 (by decide)
  have b14 : 0 ≤ S 14 0 ∧ S 14 0 ≤ 300 := I 14 0 (by decide)
  have b15 : 0 ≤ S 15 0 ∧ S 15 0 ≤ 30 := I 15 0 (by decide)
  refine Z.aload_n C dX7_price_0 rfl ?_
  refine Z.aload_n C dX7_price_1 rfl ?_
  refine g_X7_79 (v := vI (S 1 0)) C rfl dX7_price_2 R.1 rfl ?_
  refine Z.bipush C dX7_price_5 (by decide) ?_
  refine Z.irem (z := S 1 0 % 24) C dX7_price_7 (by decide) (jI_rem10 b1.1 (by omega) 24 (by decide) (by decide)) ?_
  refine Z.bipush C dX7_price_8 (by decide) ?_
  refine Z.bipush C dX7_price_10 (by decide) ?_
  refine s_X7_69 C rfl dX7_price_12 (c_X7_in htr (by omega) (by omega) (by omega)) (by decide) (Nat.le_of_ble_eq_true rfl) (by rw [hR]; exact Nat.le_refl _) (by rw [hR]; exact Nat.le_refl _) (fun w12 h12 q12 => ?_) (fun _ _ q => q.elim)
  obtain ⟨rfl, q12⟩ := q12
  replace q12 := q12.symm
  subst q12
  refine Z.if_eq (tgt := 22) C dX7_price_15 (by decide) (by have := mb_b (18 ≤ S 1 0 % 24 ∧ S 1 0 % 24 ≤ 22); omega) (by have := mb_b (18 ≤ S 1 0 % 24 ∧ S 1 0 % 24 ≤ 22); omega) (fun c15 => ?_) (fun c15 => ?_)
  · have c15 := mb_0.mp c15
    refine Z.iconst C dX7_price_22 ?_
    refine v_X7_82 C rfl dX7_price_23 R.1 (c_X7_valueOf htr R I (by omega)) (by decide) (Nat.le_of_ble_eq_true rfl) (by rw [hR]; exact Nat.le_refl _) (by rw [hR]; exact Nat.le_refl _) (fun w23 h23 q23 => ?_) (fun _ _ q => q.elim)
    obtain ⟨rfl, q23⟩ := q23
    replace q23 := q23.symm
    subst q23
    exact Z.iret C E dX7_price_26 (Nat.le_refl _) (Nat.le_refl _) ⟨by unfold mprice; first | rw [if_pos c15] | rw [if_neg c15], rfl⟩
  · have c15 := mb_n0.mp c15
    refine Z.iconst C dX7_price_18 ?_
    refine Z.goto (tgt := 23) C dX7_price_19 (by decide) ?_
    refine v_X7_82 C rfl dX7_price_23 R.1 (c_X7_valueOf htr R I (by omega)) (by decide) (Nat.le_of_ble_eq_true rfl) (by rw [hR]; exact Nat.le_refl _) (by rw [hR]; exact Nat.le_refl _) (fun w23 h23 q23 => ?_) (fun _ _ q => q.elim)
    obtain ⟨rfl, q23⟩ := q23
    replace q23 := q23.symm
    subst q23
    exact Z.iret C E dX7_price_26 (Nat.le_refl _) (Nat.le_refl _) ⟨by unfold mprice; first | rw [if_pos c15] | rw [if_neg c15], rfl⟩

set_option maxRecDepth 100000 in
theorem c_X7_decide {ln : Launch} (htr : ln.stackTraces = false) {G : zG} {a : Nat → Nat} {t : Int} {S : Nat → Nat → Int} {h : zH} (R : MR G a t S h) (I : MB S) {p : Nat} (hp : p < 30) : CT ln G yX7_decide cX7_decide 4 none 2 (.ref (a 0) :: [vI (p : Int)]) h 0 0 (fun r9 h9 => r9 = none ∧ MR G a t (mdec S p) h9) zNo := by
  refine CT.intro htr (by decide) rfl (Nat.le_of_ble_eq_true rfl) ?_
  intro X hln hG hR hN C E
  subst hln
  subst hG
  have b1 : 0 ≤ S 1 0 ∧ S 1 0 ≤ 2000 := I 1 0 (by decide)
  have b2 : 0 ≤ S 2 0 ∧ S 2 0 ≤ 10 := I 2 0 (by decide)
  have b10 : 0 ≤ S 10 0 ∧ S 10 0 ≤ 20 := I 10 0 (by decide)
  have b14 : 0 ≤ S 14 0 ∧ S 14 0 ≤ 300 := I 14 0 (by decide)
  have b15 : 0 ≤ S 15 0 ∧ S 15 0 ≤ 30 := I 15 0 (by decide)
  have mb9 := mmany_b S (mM S)
  have v1 := mvoted_b S p 1 (mM S)
  have v2 := mvoted_b S p 2 (mM S)
  have hM : mM S = (S 2 0).toNat := rfl
  refine Z.aload_n C dX7_decide_0 rfl ?_
  refine Z.iload_n C dX7_decide_1 rfl ?_
  refine Z.iconst C dX7_decide_2 ?_
  refine v_X7_86 C rfl dX7_decide_3 R.1 (c_X7_voted htr R I hp (by omega)) (by decide) (Nat.le_of_ble_eq_true rfl) (by rw [hR]; exact Nat.le_refl _) (by rw [hR]; exact Nat.le_refl _) (fun w3 h3 q3 => ?_) (fun _ _ q => q.elim)
  obtain ⟨rfl, q3⟩ := q3
  replace q3 := q3.symm
  subst q3
  refine Z.istore_n (l' := [_, _, _]) C dX7_decide_6 (Nat.le_of_ble_eq_true rfl) (by rw [hN]; decide) rfl ?_
  refine Z.aload_n C dX7_decide_7 rfl ?_
  refine Z.iload_n C dX7_decide_8 rfl ?_
  refine Z.iconst C dX7_decide_9 ?_
  refine v_X7_86 C rfl dX7_decide_10 R.1 (c_X7_voted htr R I hp (by omega)) (by decide) (Nat.le_of_ble_eq_true rfl) (by rw [hR]; exact Nat.le_refl _) (by rw [hR]; exact Nat.le_refl _) (fun w10 h10 q10 => ?_) (fun _ _ q => q.elim)
  obtain ⟨rfl, q10⟩ := q10
  replace q10 := q10.symm
  subst q10
  refine Z.istore_n (l' := [_, _, _, _]) C dX7_decide_13 (Nat.le_of_ble_eq_true rfl) (by rw [hN]; decide) rfl ?_
  have J70 : ∀ (h : zH), MR (zG_of X) a t (mdecS S p) h → Z X 70 [.ref (a 0), vI (p : Int), vI (mvoted S p 1 (mM S)), vI (mvoted S p 2 (mM S))] [] h 0 0 := by
    intro h R
    refine Z.aload_n C dX7_decide_70 rfl ?_
    refine g_X7_56 C rfl dX7_decide_71 R.1 rfl ?_
    refine Z.iload_n C dX7_decide_74 rfl ?_
    refine Z.iload_n C dX7_decide_75 rfl ?_
    refine w_21 C R _ dX7_decide_76 rfl (by omega) (fun h R => ?_)
    refine Z.aload_n C dX7_decide_77 rfl ?_
    refine g_X7_59 C rfl dX7_decide_78 R.1 rfl ?_
    refine Z.iload_n C dX7_decide_81 rfl ?_
    refine Z.iload_n C dX7_decide_82 rfl ?_
    refine w_22 C R _ dX7_decide_83 rfl (by omega) (fun h R => ?_)
    exact Z.vret C E dX7_decide_84 (Nat.le_refl _) (Nat.le_refl _) ⟨rfl, R⟩
  refine Z.iconst C dX7_decide_14 ?_
  refine Z.iload_n C dX7_decide_15 rfl ?_
  refine Z.imul C dX7_decide_16 ?_
  refine Z.aload_n C dX7_decide_17 rfl ?_
  refine v_X7_90 C rfl dX7_decide_18 R.1 (c_X7_many htr R I) (by decide) (Nat.le_of_ble_eq_true rfl) (by rw [hR]; exact Nat.le_refl _) (by rw [hR]; exact Nat.le_refl _) (fun w18 h18 q18 => ?_) (fun _ _ q => q.elim)
  obtain ⟨rfl, q18⟩ := q18
  replace q18 := q18.symm
  subst q18
  refine Z.icmp_le (tgt := 46) C dX7_decide_21 (by decide) (by omega) (by omega) (by omega) (by omega) (fun c21 => ?_) (fun c21 => ?_)
  · refine Z.aload_n C dX7_decide_46 rfl ?_
    refine v_X7_90 C rfl dX7_decide_47 R.1 (c_X7_many htr R I) (by decide) (Nat.le_of_ble_eq_true rfl) (by rw [hR]; exact Nat.le_refl _) (by rw [hR]; exact Nat.le_refl _) (fun w47 h47 q47 => ?_) (fun _ _ q => q.elim)
    obtain ⟨rfl, q47⟩ := q47
    replace q47 := q47.symm
    subst q47
    refine Z.if_le (tgt := 70) C dX7_decide_50 (by decide) (by omega) (by omega) (fun c50 => ?_) (fun c50 => ?_)
    · exact J70 _ (by unfold mdecS; first | rw [if_pos (by omega)]; exact R | (rw [if_neg (by omega)]; first | rw [if_pos (by omega)]; exact R | (rw [if_neg (by omega)]; exact R)))
    · refine Z.iconst C dX7_decide_53 ?_
      refine Z.iload_n C dX7_decide_54 rfl ?_
      refine Z.imul C dX7_decide_55 ?_
      refine Z.aload_n C dX7_decide_56 rfl ?_
      refine v_X7_90 C rfl dX7_decide_57 R.1 (c_X7_many htr R I) (by decide) (Nat.le_of_ble_eq_true rfl) (by rw [hR]; exact Nat.le_refl _) (by rw [hR]; exact Nat.le_refl _) (fun w57 h57 q57 => ?_) (fun _ _ q => q.elim)
      obtain ⟨rfl, q57⟩ := q57
      replace q57 := q57.symm
      subst q57
      refine Z.icmp_lt (tgt := 70) C dX7_decide_60 (by decide) (by omega) (by omega) (by omega) (by omega) (fun c60 => ?_) (fun c60 => ?_)
      · exact J70 _ (by unfold mdecS; first | rw [if_pos (by omega)]; exact R | (rw [if_neg (by omega)]; first | rw [if_pos (by omega)]; exact R | (rw [if_neg (by omega)]; exact R)))
      · refine Z.aload_n C dX7_decide_63 rfl ?_
        refine g_X7_41 C rfl dX7_decide_64 R.1 rfl ?_
        refine Z.iload_n C dX7_decide_67 rfl ?_
        refine Z.iconst C dX7_decide_68 ?_
        refine w_16 C R _ dX7_decide_69 rfl (by omega) (fun h R => ?_)
        exact J70 _ (by unfold mdecS; first | rw [if_pos (by omega)]; exact R | (rw [if_neg (by omega)]; first | rw [if_pos (by omega)]; exact R | (rw [if_neg (by omega)]; exact R)))
  · refine Z.aload_n C dX7_decide_24 rfl ?_
    refine g_X7_41 C rfl dX7_decide_25 R.1 rfl ?_
    refine Z.iload_n C dX7_decide_28 rfl ?_
    refine Z.iconst C dX7_decide_29 ?_
    refine w_16 C R _ dX7_decide_30 rfl (by omega) (fun h R => ?_)
    refine Z.aload_n C dX7_decide_31 rfl ?_
    refine g_X7_50 C rfl dX7_decide_32 R.1 rfl ?_
    refine Z.iload_n C dX7_decide_35 rfl ?_
    refine Z.aload_n C dX7_decide_36 rfl ?_
    refine g_X7_79 (v := vI (S 1 0)) C rfl dX7_decide_37 R.1 rfl ?_
    refine Z.iconst C dX7_decide_40 ?_
    refine Z.iadd C dX7_decide_41 ?_
    refine w_19 C R _ dX7_decide_42 rfl (by omega) (fun h R => ?_)
    refine Z.goto (tgt := 70) C dX7_decide_43 (by decide) ?_
    exact J70 _ (by unfold mdecS; first | rw [if_pos (by omega)]; exact R | (rw [if_neg (by omega)]; first | rw [if_pos (by omega)]; exact R | (rw [if_neg (by omega)]; exact R)))

set_option maxRecDepth 100000 in
theorem c_X7_most {ln : Launch} (htr : ln.stackTraces = false) {G : zG} {a : Nat → Nat} {t : Int} {S : Nat → Nat → Int} {h : zH} (R : MR G a t S h) (I : MB S) {w z : Int} (h1 : -2147483648 ≤ w ∧ w < 2147483648) (h2 : -1 ≤ z ∧ z < 20) : CT ln G yX7_most cX7_most 6 (some .int) 1 (.ref (a 0) :: [vI w, vI z]) h 0 0 (fun r9 h9 => r9 = some (vI (mmost S w z (mM S))) ∧ h9 = h) zNo := by
  refine CT.intro htr (by decide) rfl (Nat.le_of_ble_eq_true rfl) ?_
  intro X hln hG hR hN C E
  subst hln
  subst hG
  have b1 : 0 ≤ S 1 0 ∧ S 1 0 ≤ 2000 := I 1 0 (by decide)
  have b2 : 0 ≤ S 2 0 ∧ S 2 0 ≤ 10 := I 2 0 (by decide)
  have b10 : 0 ≤ S 10 0 ∧ S 10 0 ≤ 20 := I 10 0 (by decide)
  have b14 : 0 ≤ S 14 0 ∧ S 14 0 ≤ 300 := I 14 0 (by decide)
  have b15 : 0 ≤ S 15 0 ∧ S 15 0 ≤ 30 := I 15 0 (by decide)
  have hM : mM S = (S 2 0).toNat := rfl
  refine Z.iconst C dX7_most_0 ?_
  refine Z.istore_n (l' := [_, _, _, _]) C dX7_most_1 (Nat.le_of_ble_eq_true rfl) (by rw [hN]; decide) rfl ?_
  refine Z.iconst C dX7_most_2 ?_
  refine Z.istore (l' := [_, _, _, _, _]) C dX7_most_3 (Nat.le_of_ble_eq_true rfl) (by rw [hN]; decide) rfl ?_
  have L : ∀ (q i : Nat), i + q = mM S → Z X 5 [.ref (a 0), vI w, vI z, vI (mmost S w z i), vI (i : Int)] [] h 0 0 := by
    intro q
    induction q with
    | zero =>
      intro i hi
      have fb := mmost_b S w z i
      refine Z.iload C dX7_most_5 rfl ?_
      refine Z.aload_n C dX7_most_7 rfl ?_
      refine g_X7_66 (v := vI (S 2 0)) C rfl dX7_most_8 R.1 rfl ?_
      refine Z.icmp_ge (tgt := 96) C dX7_most_11 (by decide) (by omega) (by omega) (by omega) (by omega) (fun c11 => ?_) (fun c11 => ?_)
      · refine Z.iload_n C dX7_most_96 rfl ?_
        exact Z.iret C E dX7_most_97 (Nat.le_refl _) (Nat.le_refl _) ⟨by rw [show i = mM S by omega], rfl⟩
      · exfalso; omega
    | succ q ih =>
      intro i hi
      have fb := mmost_b S w z i
      refine Z.iload C dX7_most_5 rfl ?_
      refine Z.aload_n C dX7_most_7 rfl ?_
      refine g_X7_66 (v := vI (S 2 0)) C rfl dX7_most_8 R.1 rfl ?_
      refine Z.icmp_ge (tgt := 96) C dX7_most_11 (by decide) (by omega) (by omega) (by omega) (by omega) (fun c11 => ?_) (fun c11 => ?_)
      · exfalso; omega
      · have J55 : ∀ w9 : Int, 0 ≤ w9 ∧ w9 ≤ 1 → (w9 = 0 ↔ ¬ (¬ (i : Int) = w ∧ ¬ S 3 i = 0 ∧ (z = -1 ∨ ¬ S 13 (20 * i + z.toNat) = 0))) → Z X 55 [.ref (a 0), vI w, vI z, vI (mmost S w z i), vI (i : Int)] [vI w9] h 0 0 := by
          intro w9 hw1 hw2
          refine Z.istore (l' := [_, _, _, _, _, _]) C dX7_most_55 (Nat.le_of_ble_eq_true rfl) (by rw [hN]; decide) rfl ?_
          refine Z.iload C dX7_most_57 rfl ?_
          refine Z.if_eq (tgt := 88) C dX7_most_59 (by decide) (by omega) (by omega) (fun c59 => ?_) (fun c59 => ?_)
          · refine Z.iload_n C dX7_most_88 rfl ?_
            refine Z.istore_n (l' := [_, _, _, _, _, _]) C dX7_most_89 (Nat.le_of_ble_eq_true rfl) (by rw [hN]; decide) rfl ?_
            refine Z.iinc (l' := [_, _, _, _, _, _]) C dX7_most_90 rfl (Nat.le_of_ble_eq_true rfl) (by rw [hN]; decide) rfl ?_
            refine Z.goto (tgt := 5) C dX7_most_93 (by decide) ?_
            refine Z.pre (l' := [_, _, _, _, _]) 5 rfl ?_
            exact Z.cv (ih (i + 1) (by omega)) (by rw [mmost]; first | (rw [if_pos (by omega)]; rfl) | (rw [if_neg (by omega)]; rfl))
          · refine Z.iload_n C dX7_most_62 rfl ?_
            refine Z.iconst C dX7_most_63 ?_
            refine Z.icmp_eq (tgt := 83) C dX7_most_64 (by decide) (by omega) (by omega) (by omega) (by omega) (fun c64 => ?_) (fun c64 => ?_)
            · refine Z.iload C dX7_most_83 rfl ?_
              refine Z.goto (tgt := 89) C dX7_most_85 (by decide) ?_
              refine Z.istore_n (l' := [_, _, _, _, _, _]) C dX7_most_89 (Nat.le_of_ble_eq_true rfl) (by rw [hN]; decide) rfl ?_
              refine Z.iinc (l' := [_, _, _, _, _, _]) C dX7_most_90 rfl (Nat.le_of_ble_eq_true rfl) (by rw [hN]; decide) rfl ?_
              refine Z.goto (tgt := 5) C dX7_most_93 (by decide) ?_
              refine Z.pre (l' := [_, _, _, _, _]) 5 rfl ?_
              exact Z.cv (ih (i + 1) (by omega)) (by rw [mmost]; first | (rw [if_pos (by omega)]; rfl) | (rw [if_neg (by omega)]; rfl))
            · refine Z.aload_n C dX7_most_67 rfl ?_
              refine g_X7_17 C rfl dX7_most_68 R.1 rfl ?_
              refine Z.iload C dX7_most_71 rfl ?_
              refine a_5 C R I _ dX7_most_73 rfl (by omega) (fun v73 e73 b73 => ?_)
              refine Z.aload_n C dX7_most_74 rfl ?_
              refine g_X7_17 C rfl dX7_most_75 R.1 rfl ?_
              refine Z.iload_n C dX7_most_78 rfl ?_
              refine a_5 C R I (mmost S w z i).toNat dX7_most_79 (by omega) (by omega) (fun v79 e79 b79 => ?_)
              refine Z.icmp_le (tgt := 88) C dX7_most_80 (by decide) (by omega) (by omega) (by omega) (by omega) (fun c80 => ?_) (fun c80 => ?_)
              · refine Z.iload_n C dX7_most_88 rfl ?_
                refine Z.istore_n (l' := [_, _, _, _, _, _]) C dX7_most_89 (Nat.le_of_ble_eq_true rfl) (by rw [hN]; decide) rfl ?_
                refine Z.iinc (l' := [_, _, _, _, _, _]) C dX7_most_90 rfl (Nat.le_of_ble_eq_true rfl) (by rw [hN]; decide) rfl ?_
                refine Z.goto (tgt := 5) C dX7_most_93 (by decide) ?_
                refine Z.pre (l' := [_, _, _, _, _]) 5 rfl ?_
                exact Z.cv (ih (i + 1) (by omega)) (by rw [mmost]; first | (rw [if_pos (by omega)]; rfl) | (rw [if_neg (by omega)]; rfl))
              · refine Z.iload C dX7_most_83 rfl ?_
                refine Z.goto (tgt := 89) C dX7_most_85 (by decide) ?_
                refine Z.istore_n (l' := [_, _, _, _, _, _]) C dX7_most_89 (Nat.le_of_ble_eq_true rfl) (by rw [hN]; decide) rfl ?_
                refine Z.iinc (l' := [_, _, _, _, _, _]) C dX7_most_90 rfl (Nat.le_of_ble_eq_true rfl) (by rw [hN]; decide) rfl ?_
                refine Z.goto (tgt := 5) C dX7_most_93 (by decide) ?_
                refine Z.pre (l' := [_, _, _, _, _]) 5 rfl ?_
                exact Z.cv (ih (i + 1) (by omega)) (by rw [mmost]; first | (rw [if_pos (by omega)]; rfl) | (rw [if_neg (by omega)]; rfl))
        refine Z.iload C dX7_most_14 rfl ?_
        refine Z.iload_n C dX7_most_16 rfl ?_
        refine Z.icmp_eq (tgt := 54) C dX7_most_17 (by decide) (by omega) (by omega) (by omega) (by omega) (fun c17 => ?_) (fun c17 => ?_)
        · refine Z.iconst C dX7_most_54 ?_
          exact J55 _ (by omega) (by omega)
        · refine Z.aload_n C dX7_most_20 rfl ?_
          refine g_X7_7 C rfl dX7_most_21 R.1 rfl ?_
          refine Z.iload C dX7_most_24 rfl ?_
          refine a_3 C R I _ dX7_most_26 rfl (by omega) (fun v26 e26 b26 => ?_)
          refine Z.if_eq (tgt := 54) C dX7_most_27 (by decide) (by omega) (by omega) (fun c27 => ?_) (fun c27 => ?_)
          · refine Z.iconst C dX7_most_54 ?_
            exact J55 _ (by omega) (by omega)
          · refine Z.iload_n C dX7_most_30 rfl ?_
            refine Z.iconst C dX7_most_31 ?_
            refine Z.icmp_eq (tgt := 50) C dX7_most_32 (by decide) (by omega) (by omega) (by omega) (by omega) (fun c32 => ?_) (fun c32 => ?_)
            · refine Z.iconst C dX7_most_50 ?_
              refine Z.goto (tgt := 55) C dX7_most_51 (by decide) ?_
              exact J55 _ (by omega) (by omega)
            · refine Z.aload_n C dX7_most_35 rfl ?_
              refine g_X7_38 C rfl dX7_most_36 R.1 rfl ?_
              refine Z.bipush C dX7_most_39 (by decide) ?_
              refine Z.iload C dX7_most_41 rfl ?_
              refine Z.imul C dX7_most_43 ?_
              refine Z.iload_n C dX7_most_44 rfl ?_
              refine Z.iadd C dX7_most_45 ?_
              refine a_13 C R I (20 * i + z.toNat) dX7_most_46 (by omega) (by omega) (fun v46 e46 b46 => ?_)
              refine Z.if_eq (tgt := 54) C dX7_most_47 (by decide) (by omega) (by omega) (fun c47 => ?_) (fun c47 => ?_)
              · refine Z.iconst C dX7_most_54 ?_
                exact J55 _ (by omega) (by omega)
              · refine Z.iconst C dX7_most_50 ?_
                refine Z.goto (tgt := 55) C dX7_most_51 (by decide) ?_
                exact J55 _ (by omega) (by omega)
  exact L _ 0 (Nat.zero_add _)

set_option maxRecDepth 100000 in
theorem c_X7_least {ln : Launch} (htr : ln.stackTraces = false) {G : zG} {a : Nat → Nat} {t : Int} {S : Nat → Nat → Int} {h : zH} (R : MR G a t S h) (I : MB S) {o m : Nat} {w : Int} (ho : o < 10) (hm : m < 1048576) (h1 : -2147483648 ≤ w ∧ w < 2147483648) : CT ln G yX7_least cX7_least 7 (some .int) 1 (.ref (a 0) :: [vI (o : Int), vI w, vI (m : Int)]) h 0 0 (fun r9 h9 => r9 = some (vI (mleast S o w m (mF S))) ∧ h9 = h) zNo := by
  refine CT.intro htr (by decide) rfl (Nat.le_of_ble_eq_true rfl) ?_
  intro X hln hG hR hN C E
  subst hln
  subst hG
  have b1 : 0 ≤ S 1 0 ∧ S 1 0 ≤ 2000 := I 1 0 (by decide)
  have b2 : 0 ≤ S 2 0 ∧ S 2 0 ≤ 10 := I 2 0 (by decide)
  have b10 : 0 ≤ S 10 0 ∧ S 10 0 ≤ 20 := I 10 0 (by decide)
  have b14 : 0 ≤ S 14 0 ∧ S 14 0 ≤ 300 := I 14 0 (by decide)
  have b15 : 0 ≤ S 15 0 ∧ S 15 0 ≤ 30 := I 15 0 (by decide)
  have hM : mF S = (S 10 0).toNat := rfl
  refine Z.iconst C dX7_least_0 ?_
  refine Z.istore (l' := [_, _, _, _, _]) C dX7_least_1 (Nat.le_of_ble_eq_true rfl) (by rw [hN]; decide) rfl ?_
  refine Z.iconst C dX7_least_3 ?_
  refine Z.istore (l' := [_, _, _, _, _, _]) C dX7_least_4 (Nat.le_of_ble_eq_true rfl) (by rw [hN]; decide) rfl ?_
  have L : ∀ (q i : Nat), i + q = mF S → Z X 6 [.ref (a 0), vI (o : Int), vI w, vI (m : Int), vI (mleast S o w m i), vI (i : Int)] [] h 0 0 := by
    intro q
    induction q with
    | zero =>
      intro i hi
      have fb := mleast_b S o w m i
      have hms := Nat.div_le_self m (2 ^ i)
      refine Z.iload C dX7_least_6 rfl ?_
      refine Z.aload_n C dX7_least_8 rfl ?_
      refine g_X7_73 (v := vI (S 10 0)) C rfl dX7_least_9 R.1 rfl ?_
      refine Z.icmp_ge (tgt := 100) C dX7_least_12 (by decide) (by omega) (by omega) (by omega) (by omega) (fun c12 => ?_) (fun c12 => ?_)
      · refine Z.iload C dX7_least_100 rfl ?_
        exact Z.iret C E dX7_least_102 (Nat.le_refl _) (Nat.le_refl _) ⟨by rw [show i = mF S by omega], rfl⟩
      · exfalso; omega
    | succ q ih =>
      intro i hi
      have fb := mleast_b S o w m i
      have hms := Nat.div_le_self m (2 ^ i)
      refine Z.iload C dX7_least_6 rfl ?_
      refine Z.aload_n C dX7_least_8 rfl ?_
      refine g_X7_73 (v := vI (S 10 0)) C rfl dX7_least_9 R.1 rfl ?_
      refine Z.icmp_ge (tgt := 100) C dX7_least_12 (by decide) (by omega) (by omega) (by omega) (by omega) (fun c12 => ?_) (fun c12 => ?_)
      · exfalso; omega
      · have J55 : ∀ w9 : Int, 0 ≤ w9 ∧ w9 ≤ 1 → (w9 = 0 ↔ ¬ (¬ S 13 (20 * o + i) = 0 ∧ m / 2 ^ i % 2 = 0 ∧ S 12 i < w)) → Z X 55 [.ref (a 0), vI (o : Int), vI w, vI (m : Int), vI (mleast S o w m i), vI (i : Int)] [vI w9] h 0 0 := by
          intro w9 hw1 hw2
          refine Z.istore (l' := [_, _, _, _, _, _, _]) C dX7_least_55 (Nat.le_of_ble_eq_true rfl) (by rw [hN]; decide) rfl ?_
          refine Z.iload C dX7_least_57 rfl ?_
          refine Z.if_eq (tgt := 90) C dX7_least_59 (by decide) (by omega) (by omega) (fun c59 => ?_) (fun c59 => ?_)
          · refine Z.iload C dX7_least_90 rfl ?_
            refine Z.istore (l' := [_, _, _, _, _, _, _]) C dX7_least_92 (Nat.le_of_ble_eq_true rfl) (by rw [hN]; decide) rfl ?_
            refine Z.iinc (l' := [_, _, _, _, _, _, _]) C dX7_least_94 rfl (Nat.le_of_ble_eq_true rfl) (by rw [hN]; decide) rfl ?_
            refine Z.goto (tgt := 6) C dX7_least_97 (by decide) ?_
            refine Z.pre (l' := [_, _, _, _, _, _]) 6 rfl ?_
            exact Z.cv (ih (i + 1) (by omega)) (by rw [mleast]; first | (rw [if_pos (by omega)]; rfl) | (rw [if_neg (by omega)]; rfl))
          · refine Z.iload C dX7_least_62 rfl ?_
            refine Z.iconst C dX7_least_64 ?_
            refine Z.icmp_eq (tgt := 85) C dX7_least_65 (by decide) (by omega) (by omega) (by omega) (by omega) (fun c65 => ?_) (fun c65 => ?_)
            · refine Z.iload C dX7_least_85 rfl ?_
              refine Z.goto (tgt := 92) C dX7_least_87 (by decide) ?_
              refine Z.istore (l' := [_, _, _, _, _, _, _]) C dX7_least_92 (Nat.le_of_ble_eq_true rfl) (by rw [hN]; decide) rfl ?_
              refine Z.iinc (l' := [_, _, _, _, _, _, _]) C dX7_least_94 rfl (Nat.le_of_ble_eq_true rfl) (by rw [hN]; decide) rfl ?_
              refine Z.goto (tgt := 6) C dX7_least_97 (by decide) ?_
              refine Z.pre (l' := [_, _, _, _, _, _]) 6 rfl ?_
              exact Z.cv (ih (i + 1) (by omega)) (by rw [mleast]; first | (rw [if_pos (by omega)]; rfl) | (rw [if_neg (by omega)]; rfl))
            · refine Z.aload_n C dX7_least_68 rfl ?_
              refine g_X7_35 C rfl dX7_least_69 R.1 rfl ?_
              refine Z.iload C dX7_least_72 rfl ?_
              refine a_12 C R I _ dX7_least_74 rfl (by omega) (fun v74 e74 b74 => ?_)
              refine Z.aload_n C dX7_least_75 rfl ?_
              refine g_X7_35 C rfl dX7_least_76 R.1 rfl ?_
              refine Z.iload C dX7_least_79 rfl ?_
              refine a_12 C R I (mleast S o w m i).toNat dX7_least_81 (by omega) (by omega) (fun v81 e81 b81 => ?_)
              refine Z.icmp_ge (tgt := 90) C dX7_least_82 (by decide) (by omega) (by omega) (by omega) (by omega) (fun c82 => ?_) (fun c82 => ?_)
              · refine Z.iload C dX7_least_90 rfl ?_
                refine Z.istore (l' := [_, _, _, _, _, _, _]) C dX7_least_92 (Nat.le_of_ble_eq_true rfl) (by rw [hN]; decide) rfl ?_
                refine Z.iinc (l' := [_, _, _, _, _, _, _]) C dX7_least_94 rfl (Nat.le_of_ble_eq_true rfl) (by rw [hN]; decide) rfl ?_
                refine Z.goto (tgt := 6) C dX7_least_97 (by decide) ?_
                refine Z.pre (l' := [_, _, _, _, _, _]) 6 rfl ?_
                exact Z.cv (ih (i + 1) (by omega)) (by rw [mleast]; first | (rw [if_pos (by omega)]; rfl) | (rw [if_neg (by omega)]; rfl))
              · refine Z.iload C dX7_least_85 rfl ?_
                refine Z.goto (tgt := 92) C dX7_least_87 (by decide) ?_
                refine Z.istore (l' := [_, _, _, _, _, _, _]) C dX7_least_92 (Nat.le_of_ble_eq_true rfl) (by rw [hN]; decide) rfl ?_
                refine Z.iinc (l' := [_, _, _, _, _, _, _]) C dX7_least_94 rfl (Nat.le_of_ble_eq_true rfl) (by rw [hN]; decide) rfl ?_
                refine Z.goto (tgt := 6) C dX7_least_97 (by decide) ?_
                refine Z.pre (l' := [_, _, _, _, _, _]) 6 rfl ?_
                exact Z.cv (ih (i + 1) (by omega)) (by rw [mleast]; first | (rw [if_pos (by omega)]; rfl) | (rw [if_neg (by omega)]; rfl))
        refine Z.aload_n C dX7_least_15 rfl ?_
        refine g_X7_38 C rfl dX7_least_16 R.1 rfl ?_
        refine Z.bipush C dX7_least_19 (by decide) ?_
        refine Z.iload_n C dX7_least_21 rfl ?_
        refine Z.imul C dX7_least_22 ?_
        refine Z.iload C dX7_least_23 rfl ?_
        refine Z.iadd C dX7_least_25 ?_
        refine a_13 C R I (20 * o + i) dX7_least_26 (by omega) (by omega) (fun v26 e26 b26 => ?_)
        refine Z.if_eq (tgt := 54) C dX7_least_27 (by decide) (by omega) (by omega) (fun c27 => ?_) (fun c27 => ?_)
        · refine Z.iconst C dX7_least_54 ?_
          exact J55 _ (by omega) (by omega)
        · refine Z.iload_n C dX7_least_30 rfl ?_
          refine Z.iload C dX7_least_31 rfl ?_
          refine Z.ishr (z := ((m / 2 ^ i : Nat) : Int)) C dX7_least_33  (jI_shr (by omega) (by omega)) ?_
          refine Z.iconst C dX7_least_34 ?_
          refine Z.iand (z := ((m / 2 ^ i % 2 : Nat) : Int)) C dX7_least_35  (jI_and1 (by omega)) ?_
          refine Z.if_ne (tgt := 54) C dX7_least_36 (by decide) (by omega) (by omega) (fun c36 => ?_) (fun c36 => ?_)
          · refine Z.iconst C dX7_least_54 ?_
            exact J55 _ (by omega) (by omega)
          · refine Z.aload_n C dX7_least_39 rfl ?_
            refine g_X7_35 C rfl dX7_least_40 R.1 rfl ?_
            refine Z.iload C dX7_least_43 rfl ?_
            refine a_12 C R I _ dX7_least_45 rfl (by omega) (fun v45 e45 b45 => ?_)
            refine Z.iload_n C dX7_least_46 rfl ?_
            refine Z.icmp_ge (tgt := 54) C dX7_least_47 (by decide) (by omega) (by omega) (by omega) (by omega) (fun c47 => ?_) (fun c47 => ?_)
            · refine Z.iconst C dX7_least_54 ?_
              exact J55 _ (by omega) (by omega)
            · refine Z.iconst C dX7_least_50 ?_
              refine Z.goto (tgt := 55) C dX7_least_51 (by decide) ?_
              exact J55 _ (by omega) (by omega)
  exact L _ 0 (Nat.zero_add _)

set_option maxRecDepth 100000 in
theorem c_X7_owe {ln : Launch} (htr : ln.stackTraces = false) {G : zG} {a : Nat → Nat} {t : Int} {S : Nat → Nat → Int} {h : zH} (R : MR G a t S h) (I : MB S) {o x : Nat} {w : Int} (ho : o < 10) (hx : x < 10) (h1 : -2147483648 ≤ w ∧ w < 2147483648) : CT ln G yX7_owe cX7_owe 5 none 1 (.ref (a 0) :: [vI (o : Int), vI (x : Int), vI w]) h 0 0 (fun r9 h9 => r9 = none ∧ MR G a t (mowe S o x w) h9) zNo := by
  refine CT.intro htr (by decide) rfl (Nat.le_of_ble_eq_true rfl) ?_
  intro X hln hG hR hN C E
  subst hln
  subst hG
  have b1 : 0 ≤ S 1 0 ∧ S 1 0 ≤ 2000 := I 1 0 (by decide)
  have b2 : 0 ≤ S 2 0 ∧ S 2 0 ≤ 10 := I 2 0 (by decide)
  have b10 : 0 ≤ S 10 0 ∧ S 10 0 ≤ 20 := I 10 0 (by decide)
  have b14 : 0 ≤ S 14 0 ∧ S 14 0 ≤ 300 := I 14 0 (by decide)
  have b15 : 0 ≤ S 15 0 ∧ S 15 0 ≤ 30 := I 15 0 (by decide)
  have J30 : ∀ w9 : Int, w9 = mless S o x w → Z X 30 [.ref (a 0), vI (o : Int), vI (x : Int), vI w] [vI w9] h 0 0 := by
    intro w9 hw1
    subst hw1
    refine Z.istore (l' := [_, _, _, _, _]) C dX7_owe_30 (Nat.le_of_ble_eq_true rfl) (by rw [hN]; decide) rfl ?_
    refine Z.aload_n C dX7_owe_32 rfl ?_
    refine g_X7_29 C rfl dX7_owe_33 R.1 rfl ?_
    refine Z.bipush C dX7_owe_36 (by decide) ?_
    refine Z.iload_n C dX7_owe_38 rfl ?_
    refine Z.imul C dX7_owe_39 ?_
    refine Z.iload_n C dX7_owe_40 rfl ?_
    refine Z.iadd C dX7_owe_41 ?_
    refine Z.dup2 C dX7_owe_42 rfl rfl ?_
    refine b_9 C R (10 * x + o) dX7_owe_43 (by omega) (by omega) (fun v43 e43 => ?_)
    subst e43
    refine Z.iload C dX7_owe_44 rfl ?_
    refine Z.isub C dX7_owe_46 ?_
    refine w_9 C R (10 * x + o) dX7_owe_47 (by omega) (by omega) (fun h R => ?_)
    refine Z.aload_n C dX7_owe_48 rfl ?_
    refine g_X7_29 C rfl dX7_owe_49 R.1 rfl ?_
    refine Z.bipush C dX7_owe_52 (by decide) ?_
    refine Z.iload_n C dX7_owe_54 rfl ?_
    refine Z.imul C dX7_owe_55 ?_
    refine Z.iload_n C dX7_owe_56 rfl ?_
    refine Z.iadd C dX7_owe_57 ?_
    refine Z.dup2 C dX7_owe_58 rfl rfl ?_
    refine b_9 C R (10 * o + x) dX7_owe_59 (by omega) (by omega) (fun v59 e59 => ?_)
    subst e59
    refine Z.iload_n C dX7_owe_60 rfl ?_
    refine Z.iload C dX7_owe_61 rfl ?_
    refine Z.isub C dX7_owe_63 ?_
    refine Z.iadd C dX7_owe_64 ?_
    refine w_9 C R (10 * o + x) dX7_owe_65 (by omega) (by omega) (fun h R => ?_)
    exact Z.vret C E dX7_owe_66 (Nat.le_refl _) (Nat.le_refl _) ⟨rfl, R⟩
  refine Z.aload_n C dX7_owe_0 rfl ?_
  refine g_X7_29 C rfl dX7_owe_1 R.1 rfl ?_
  refine Z.bipush C dX7_owe_4 (by decide) ?_
  refine Z.iload_n C dX7_owe_6 rfl ?_
  refine Z.imul C dX7_owe_7 ?_
  refine Z.iload_n C dX7_owe_8 rfl ?_
  refine Z.iadd C dX7_owe_9 ?_
  refine a_9 C R I (10 * x + o) dX7_owe_10 (by omega) (by omega) (fun v10 e10 b10 => ?_)
  refine Z.iload_n C dX7_owe_11 rfl ?_
  refine Z.icmp_ge (tgt := 29) C dX7_owe_12 (by decide) (by omega) (by omega) (by omega) (by omega) (fun c12 => ?_) (fun c12 => ?_)
  · refine Z.iload_n C dX7_owe_29 rfl ?_
    exact J30 _ (by unfold mless; first | (rw [if_pos (by omega)]; omega) | (rw [if_neg (by omega)]))
  · refine Z.aload_n C dX7_owe_15 rfl ?_
    refine g_X7_29 C rfl dX7_owe_16 R.1 rfl ?_
    refine Z.bipush C dX7_owe_19 (by decide) ?_
    refine Z.iload_n C dX7_owe_21 rfl ?_
    refine Z.imul C dX7_owe_22 ?_
    refine Z.iload_n C dX7_owe_23 rfl ?_
    refine Z.iadd C dX7_owe_24 ?_
    refine a_9 C R I (10 * x + o) dX7_owe_25 (by omega) (by omega) (fun v25 e25 b25 => ?_)
    refine Z.goto (tgt := 30) C dX7_owe_26 (by decide) ?_
    exact J30 _ (by unfold mless; first | (rw [if_pos (by omega)]; omega) | (rw [if_neg (by omega)]))

