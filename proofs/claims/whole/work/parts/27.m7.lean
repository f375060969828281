set_option maxRecDepth 100000 in
theorem c_X7_thrown {ln : Launch} (htr : ln.stackTraces = false) {G : zG} {a : Nat → Nat} {t : Int} {S : Nat → Nat → Int} {h : zH} (R : MR G a t S h) (I : MB S)  : CT ln G yX7_thrown cX7_thrown 1 (some .int) 1 (.ref (a 0) :: []) h 0 0 (fun r9 h9 => r9 = some (vI t) ∧ h9 = h) zNo := by
  refine CT.intro htr (by decide) rfl (Nat.le_of_ble_eq_true rfl) ?_
  intro X hln hG hR hN C E
  subst hln
  subst hG
  have b1 : 0 ≤ S 1 0 ∧ S 1 0 ≤ 2000 := I 1 0 (by decide)
  have b2 : 0 ≤ S 2 0 ∧ S 2 0 ≤ 10 := I 2 0 (by decide)
  have b10 : 0 ≤ S 10 0 ∧ S 10 0 ≤ 20 := I 10 0 (by decide)
  have b14 : 0 ≤ S 14 0 ∧ S 14 0 ≤ 300 := I 14 0 (by decide)
  have b15 : 0 ≤ S 15 0 ∧ S 15 0 ≤ 30 := I 15 0 (by decide)
  refine Z.aload_n C dX7_thrown_0 rfl ?_
  refine g_X7_62 C rfl dX7_thrown_1 R.1 rfl ?_
  exact Z.iret C E dX7_thrown_4 (Nat.le_refl _) (Nat.le_refl _) ⟨rfl, rfl⟩

set_option maxRecDepth 100000 in
theorem c_X7_hour {ln : Launch} (htr : ln.stackTraces = false) {G : zG} {a : Nat → Nat} {t : Int} {S : Nat → Nat → Int} {h : zH} (R : MR G a t S h) (I : MB S)  : CT ln G yX7_hour cX7_hour 1 (some .int) 1 (.ref (a 0) :: []) h 0 0 (fun r9 h9 => r9 = some (vI (S 1 0)) ∧ MR G a 0 S h9) zNo := by
  refine CT.intro htr (by decide) rfl (Nat.le_of_ble_eq_true rfl) ?_
  intro X hln hG hR hN C E
  subst hln
  subst hG
  have b1 : 0 ≤ S 1 0 ∧ S 1 0 ≤ 2000 := I 1 0 (by decide)
  have b2 : 0 ≤ S 2 0 ∧ S 2 0 ≤ 10 := I 2 0 (by decide)
  have b10 : 0 ≤ S 10 0 ∧ S 10 0 ≤ 20 := I 10 0 (by decide)
  have b14 : 0 ≤ S 14 0 ∧ S 14 0 ≤ 300 := I 14 0 (by decide)
  have b15 : 0 ≤ S 15 0 ∧ S 15 0 ≤ 30 := I 15 0 (by decide)
  refine Z.aload_n C dX7_hour_0 rfl ?_
  refine Z.iconst C dX7_hour_1 ?_
  refine w_0 C R rfl dX7_hour_2 (fun h R => ?_)
  refine Z.aload_n C dX7_hour_5 rfl ?_
  refine g_X7_79 (v := vI (S 1 0)) C rfl dX7_hour_6 R.1 rfl ?_
  exact Z.iret C E dX7_hour_9 (Nat.le_refl _) (Nat.le_refl _) ⟨rfl, R⟩

set_option maxRecDepth 100000 in
theorem c_X7_join {ln : Launch} (htr : ln.stackTraces = false) {G : zG} {a : Nat → Nat} {t : Int} {S : Nat → Nat → Int} {h : zH} (R : MR G a t S h) (I : MB S) {w z : Int} (hw : -2147483648 ≤ w ∧ w < 2147483648) (hz : -2147483648 ≤ z ∧ z < 2147483648)  : CT ln G yX7_join cX7_join 3 (some .int) 3 (.ref (a 0) :: [vI w, vI z]) h 0 0 (mAns G a S (cJoin S w z) (S 2 0) (sJoin S w z)) zNo := by
  refine CT.intro htr (by decide) rfl (Nat.le_of_ble_eq_true rfl) ?_
  intro X hln hG hR hN C E
  subst hln
  subst hG
  have b1 : 0 ≤ S 1 0 ∧ S 1 0 ≤ 2000 := I 1 0 (by decide)
  have b2 : 0 ≤ S 2 0 ∧ S 2 0 ≤ 10 := I 2 0 (by decide)
  have b10 : 0 ≤ S 10 0 ∧ S 10 0 ≤ 20 := I 10 0 (by decide)
  have b14 : 0 ≤ S 14 0 ∧ S 14 0 ≤ 300 := I 14 0 (by decide)
  have b15 : 0 ≤ S 15 0 ∧ S 15 0 ≤ 30 := I 15 0 (by decide)
  have hM : mM S = (S 2 0).toNat := rfl
  have J39 : ∀ w9 : Int, w9 = cJoin S w z → (w9 = 0 → ¬ S 2 0 = 10) → 0 ≤ w9 ∧ w9 ≤ 3 → Z X 39 [.ref (a 0), vI w, vI z] [vI w9, .ref (a 0)] h 0 0 := by
    intro w9 hw1 hw2 hw3
    refine v_X7_94 C rfl dX7_join_39 R.1 (c_X7_refused htr R I (by omega)) (by decide) (Nat.le_of_ble_eq_true rfl) (by rw [hR]; exact Nat.le_refl _) (by rw [hR]; exact Nat.le_refl _) (fun w39 h39 q39 => ?_) (fun _ _ q => q.elim)
    obtain ⟨rfl, R⟩ := q39
    obtain ⟨m39, z39, g39, k39⟩ := mbx (¬ w9 = 0)
    rw [z39]
    refine Z.if_eq (tgt := 47) C dX7_join_42 (by decide) (by omega) (by omega) (fun c42 => ?_) (fun c42 => ?_)
    · have hw2 := hw2 (by omega)
      refine Z.aload_n C dX7_join_47 rfl ?_
      refine g_X7_7 C rfl dX7_join_48 R.1 rfl ?_
      refine Z.aload_n C dX7_join_51 rfl ?_
      refine g_X7_66 (v := vI (S 2 0)) C rfl dX7_join_52 R.1 rfl ?_
      refine Z.iconst C dX7_join_55 ?_
      refine w_3 C R (mM S) dX7_join_56 (by omega) (by omega) (by omega) (fun h R => ?_)
      refine Z.aload_n C dX7_join_57 rfl ?_
      refine g_X7_13 C rfl dX7_join_58 R.1 rfl ?_
      refine Z.aload_n C dX7_join_61 rfl ?_
      refine g_X7_66 (v := vI (S 2 0)) C rfl dX7_join_62 R.1 rfl ?_
      refine Z.iload_n C dX7_join_65 rfl ?_
      refine w_4 C R (mM S) dX7_join_66 (by omega) (by omega) (fun h R => ?_)
      refine Z.aload_n C dX7_join_67 rfl ?_
      refine g_X7_17 C rfl dX7_join_68 R.1 rfl ?_
      refine Z.aload_n C dX7_join_71 rfl ?_
      refine g_X7_66 (v := vI (S 2 0)) C rfl dX7_join_72 R.1 rfl ?_
      refine Z.iload_n C dX7_join_75 rfl ?_
      refine w_5 C R (mM S) dX7_join_76 (by omega) (by omega) (fun h R => ?_)
      refine Z.aload_n C dX7_join_77 rfl ?_
      refine g_X7_20 C rfl dX7_join_78 R.1 rfl ?_
      refine Z.aload_n C dX7_join_81 rfl ?_
      refine g_X7_66 (v := vI (S 2 0)) C rfl dX7_join_82 R.1 rfl ?_
      refine Z.iload_n C dX7_join_85 rfl ?_
      refine w_6 C R (mM S) dX7_join_86 (by omega) (by omega) (fun h R => ?_)
      refine Z.aload_n C dX7_join_87 rfl ?_
      refine Z.dup C dX7_join_88 rfl ?_
      refine g_X7_66 (v := vI (S 2 0)) C rfl dX7_join_89 R.1 rfl ?_
      refine Z.iconst C dX7_join_92 ?_
      refine Z.iadd C dX7_join_93 ?_
      refine w_2 C R rfl dX7_join_94 (fun h R => ?_)
      refine Z.aload_n C dX7_join_97 rfl ?_
      refine g_X7_66 (v := vI (S 2 0 + 1)) C rfl dX7_join_98 R.1 rfl ?_
      refine Z.iconst C dX7_join_101 ?_
      refine Z.isub C dX7_join_102 ?_
      exact Z.iret C E dX7_join_103 (Nat.le_refl _) (Nat.le_refl _) (mAns.yes R hw1 (by omega) (by omega))
    · refine Z.iconst C dX7_join_45 ?_
      exact Z.iret C E dX7_join_46 (Nat.le_refl _) (Nat.le_refl _) (mAns.no R hw1 (by omega))
  refine Z.aload_n C dX7_join_0 rfl ?_
  refine Z.iload_n C dX7_join_1 rfl ?_
  refine Z.iconst C dX7_join_2 ?_
  refine Z.bipush C dX7_join_3 (by decide) ?_
  refine s_X7_69 C rfl dX7_join_5 (c_X7_in htr (by omega) (by omega) (by omega)) (by decide) (Nat.le_of_ble_eq_true rfl) (by rw [hR]; exact Nat.le_refl _) (by rw [hR]; exact Nat.le_refl _) (fun w5 h5 q5 => ?_) (fun _ _ q => q.elim)
  obtain ⟨rfl, q5⟩ := q5
  replace q5 := q5.symm
  subst q5
  obtain ⟨m5, z5, g5, k5⟩ := mbx (1 ≤ w ∧ w ≤ 20)
  rw [z5]
  refine Z.if_eq (tgt := 21) C dX7_join_8 (by decide) (by omega) (by omega) (fun c8 => ?_) (fun c8 => ?_)
  · refine Z.iconst C dX7_join_21 ?_
    refine Z.goto (tgt := 39) C dX7_join_22 (by decide) ?_
    exact J39 _ (by unfold cJoin; (repeat' split) <;> omega) (by omega) (by omega)
  · refine Z.iload_n C dX7_join_11 rfl ?_
    refine Z.iconst C dX7_join_12 ?_
    refine Z.bipush C dX7_join_13 (by decide) ?_
    refine s_X7_69 C rfl dX7_join_15 (c_X7_in htr (by omega) (by omega) (by omega)) (by decide) (Nat.le_of_ble_eq_true rfl) (by rw [hR]; exact Nat.le_refl _) (by rw [hR]; exact Nat.le_refl _) (fun w15 h15 q15 => ?_) (fun _ _ q => q.elim)
    obtain ⟨rfl, q15⟩ := q15
    replace q15 := q15.symm
    subst q15
    obtain ⟨m15, z15, g15, k15⟩ := mbx (0 ≤ z ∧ z ≤ 50)
    rw [z15]
    refine Z.if_ne (tgt := 25) C dX7_join_18 (by decide) (by omega) (by omega) (fun c18 => ?_) (fun c18 => ?_)
    · refine Z.aload_n C dX7_join_25 rfl ?_
      refine g_X7_66 (v := vI (S 2 0)) C rfl dX7_join_26 R.1 rfl ?_
      refine Z.bipush C dX7_join_29 (by decide) ?_
      refine Z.icmp_ne (tgt := 38) C dX7_join_31 (by decide) (by omega) (by omega) (by omega) (by omega) (fun c31 => ?_) (fun c31 => ?_)
      · refine Z.iconst C dX7_join_38 ?_
        exact J39 _ (by unfold cJoin; (repeat' split) <;> omega) (by omega) (by omega)
      · refine Z.iconst C dX7_join_34 ?_
        refine Z.goto (tgt := 39) C dX7_join_35 (by decide) ?_
        exact J39 _ (by unfold cJoin; (repeat' split) <;> omega) (by omega) (by omega)
    · refine Z.iconst C dX7_join_21 ?_
      refine Z.goto (tgt := 39) C dX7_join_22 (by decide) ?_
      exact J39 _ (by unfold cJoin; (repeat' split) <;> omega) (by omega) (by omega)

set_option maxRecDepth 100000 in
theorem c_X7_film {ln : Launch} (htr : ln.stackTraces = false) {G : zG} {a : Nat → Nat} {t : Int} {S : Nat → Nat → Int} {h : zH} (R : MR G a t S h) (I : MB S) {w : Int} (hw : -2147483648 ≤ w ∧ w < 2147483648)  : CT ln G yX7_film cX7_film 2 (some .int) 3 (.ref (a 0) :: [vI w]) h 0 0 (mAns G a S (cFilm S w) (S 10 0) (sFilm S w)) zNo := by
  refine CT.intro htr (by decide) rfl (Nat.le_of_ble_eq_true rfl) ?_
  intro X hln hG hR hN C E
  subst hln
  subst hG
  have b1 : 0 ≤ S 1 0 ∧ S 1 0 ≤ 2000 := I 1 0 (by decide)
  have b2 : 0 ≤ S 2 0 ∧ S 2 0 ≤ 10 := I 2 0 (by decide)
  have b10 : 0 ≤ S 10 0 ∧ S 10 0 ≤ 20 := I 10 0 (by decide)
  have b14 : 0 ≤ S 14 0 ∧ S 14 0 ≤ 300 := I 14 0 (by decide)
  have b15 : 0 ≤ S 15 0 ∧ S 15 0 ≤ 30 := I 15 0 (by decide)
  have hM : mF S = (S 10 0).toNat := rfl
  have J29 : ∀ w9 : Int, w9 = cFilm S w → (w9 = 0 → ¬ S 10 0 = 20) → 0 ≤ w9 ∧ w9 ≤ 3 → Z X 29 [.ref (a 0), vI w] [vI w9, .ref (a 0)] h 0 0 := by
    intro w9 hw1 hw2 hw3
    refine v_X7_94 C rfl dX7_film_29 R.1 (c_X7_refused htr R I (by omega)) (by decide) (Nat.le_of_ble_eq_true rfl) (by rw [hR]; exact Nat.le_refl _) (by rw [hR]; exact Nat.le_refl _) (fun w29 h29 q29 => ?_) (fun _ _ q => q.elim)
    obtain ⟨rfl, R⟩ := q29
    obtain ⟨m29, z29, g29, k29⟩ := mbx (¬ w9 = 0)
    rw [z29]
    refine Z.if_eq (tgt := 37) C dX7_film_32 (by decide) (by omega) (by omega) (fun c32 => ?_) (fun c32 => ?_)
    · have hw2 := hw2 (by omega)
      refine Z.aload_n C dX7_film_37 rfl ?_
      refine g_X7_32 C rfl dX7_film_38 R.1 rfl ?_
      refine Z.aload_n C dX7_film_41 rfl ?_
      refine g_X7_73 (v := vI (S 10 0)) C rfl dX7_film_42 R.1 rfl ?_
      refine Z.iload_n C dX7_film_45 rfl ?_
      refine w_11 C R (mF S) dX7_film_46 (by omega) (by omega) (fun h R => ?_)
      refine Z.aload_n C dX7_film_47 rfl ?_
      refine Z.dup C dX7_film_48 rfl ?_
      refine g_X7_73 (v := vI (S 10 0)) C rfl dX7_film_49 R.1 rfl ?_
      refine Z.iconst C dX7_film_52 ?_
      refine Z.iadd C dX7_film_53 ?_
      refine w_10 C R rfl dX7_film_54 (fun h R => ?_)
      refine Z.aload_n C dX7_film_57 rfl ?_
      refine g_X7_73 (v := vI (S 10 0 + 1)) C rfl dX7_film_58 R.1 rfl ?_
      refine Z.iconst C dX7_film_61 ?_
      refine Z.isub C dX7_film_62 ?_
      exact Z.iret C E dX7_film_63 (Nat.le_refl _) (Nat.le_refl _) (mAns.yes R hw1 (by omega) (by omega))
    · refine Z.iconst C dX7_film_35 ?_
      exact Z.iret C E dX7_film_36 (Nat.le_refl _) (Nat.le_refl _) (mAns.no R hw1 (by omega))
  refine Z.aload_n C dX7_film_0 rfl ?_
  refine Z.iload_n C dX7_film_1 rfl ?_
  refine Z.iconst C dX7_film_2 ?_
  refine Z.bipush C dX7_film_3 (by decide) ?_
  refine s_X7_69 C rfl dX7_film_5 (c_X7_in htr (by omega) (by omega) (by omega)) (by decide) (Nat.le_of_ble_eq_true rfl) (by rw [hR]; exact Nat.le_refl _) (by rw [hR]; exact Nat.le_refl _) (fun w5 h5 q5 => ?_) (fun _ _ q => q.elim)
  obtain ⟨rfl, q5⟩ := q5
  replace q5 := q5.symm
  subst q5
  obtain ⟨m5, z5, g5, k5⟩ := mbx (1 ≤ w ∧ w ≤ 20)
  rw [z5]
  refine Z.if_ne (tgt := 15) C dX7_film_8 (by decide) (by omega) (by omega) (fun c8 => ?_) (fun c8 => ?_)
  · refine Z.aload_n C dX7_film_15 rfl ?_
    refine g_X7_73 (v := vI (S 10 0)) C rfl dX7_film_16 R.1 rfl ?_
    refine Z.bipush C dX7_film_19 (by decide) ?_
    refine Z.icmp_ne (tgt := 28) C dX7_film_21 (by decide) (by omega) (by omega) (by omega) (by omega) (fun c21 => ?_) (fun c21 => ?_)
    · refine Z.iconst C dX7_film_28 ?_
      exact J29 _ (by unfold cFilm; (repeat' split) <;> omega) (by omega) (by omega)
    · refine Z.iconst C dX7_film_24 ?_
      refine Z.goto (tgt := 29) C dX7_film_25 (by decide) ?_
      exact J29 _ (by unfold cFilm; (repeat' split) <;> omega) (by omega) (by omega)
  · refine Z.iconst C dX7_film_11 ?_
    refine Z.goto (tgt := 29) C dX7_film_12 (by decide) ?_
    exact J29 _ (by unfold cFilm; (repeat' split) <;> omega) (by omega) (by omega)

set_option maxRecDepth 100000 in
theorem c_X7_pass {ln : Launch} (htr : ln.stackTraces = false) {G : zG} {a : Nat → Nat} {t : Int} {S : Nat → Nat → Int} {h : zH} (R : MR G a t S h) (I : MB S) {w : Int} (hw : -2147483648 ≤ w ∧ w < 2147483648)  : CT ln G yX7_pass cX7_pass 3 (some .int) 3 (.ref (a 0) :: [vI w]) h 0 0 (mAns G a S (cPass S w) (S 1 0 + w) (sPass S w)) zNo := by
  refine CT.intro htr (by decide) rfl (Nat.le_of_ble_eq_true rfl) ?_
  intro X hln hG hR hN C E
  subst hln
  subst hG
  have b1 : 0 ≤ S 1 0 ∧ S 1 0 ≤ 2000 := I 1 0 (by decide)
  have b2 : 0 ≤ S 2 0 ∧ S 2 0 ≤ 10 := I 2 0 (by decide)
  have b10 : 0 ≤ S 10 0 ∧ S 10 0 ≤ 20 := I 10 0 (by decide)
  have b14 : 0 ≤ S 14 0 ∧ S 14 0 ≤ 300 := I 14 0 (by decide)
  have b15 : 0 ≤ S 15 0 ∧ S 15 0 ≤ 30 := I 15 0 (by decide)
  have hM : mM S = (S 2 0).toNat := rfl
  have J32 : ∀ w9 : Int, w9 = cPass S w → (w9 = 0 → (1 ≤ w ∧ w ≤ 100) ∧ S 1 0 + w ≤ 2000) → 0 ≤ w9 ∧ w9 ≤ 3 → Z X 32 [.ref (a 0), vI w] [vI w9, .ref (a 0)] h 0 0 := by
    intro w9 hw1 hw2 hw3
    refine v_X7_94 C rfl dX7_pass_32 R.1 (c_X7_refused htr R I (by omega)) (by decide) (Nat.le_of_ble_eq_true rfl) (by rw [hR]; exact Nat.le_refl _) (by rw [hR]; exact Nat.le_refl _) (fun w32 h32 q32 => ?_) (fun _ _ q => q.elim)
    obtain ⟨rfl, R⟩ := q32
    obtain ⟨m32, z32, g32, k32⟩ := mbx (¬ w9 = 0)
    rw [z32]
    refine Z.if_eq (tgt := 40) C dX7_pass_35 (by decide) (by omega) (by omega) (fun c35 => ?_) (fun c35 => ?_)
    · have hw2 := hw2 (by omega)
      refine Z.aload_n C dX7_pass_40 rfl ?_
      refine Z.dup C dX7_pass_41 rfl ?_
      refine g_X7_79 (v := vI (S 1 0)) C rfl dX7_pass_42 R.1 rfl ?_
      refine Z.iload_n C dX7_pass_45 rfl ?_
      refine Z.iadd C dX7_pass_46 ?_
      refine w_1 C R rfl dX7_pass_47 (fun h R => ?_)
      refine Z.iconst C dX7_pass_50 ?_
      refine Z.istore_n (l' := [_, _, _]) C dX7_pass_51 (Nat.le_of_ble_eq_true rfl) (by rw [hN]; decide) rfl ?_
      have L : ∀ (q i : Nat) (h : zH), i + q = mM S → MR (zG_of X) a w9 (mpl (su S 1 0 (S 1 0 + w)) i) h → Z X 52 [.ref (a 0), vI w, vI (i : Int)] [] h 0 0 := by
        intro q
        induction q with
        | zero =>
          intro i h hi R
          have e2 : mpl (su S 1 0 (S 1 0 + w)) i 2 0 = S 2 0 := by rw [mpl_ne _ (by decide)]; rfl
          have e4 : mpl (su S 1 0 (S 1 0 + w)) i 4 = S 4 := by rw [mpl_ne _ (by decide)]; rfl
          have e1 : mpl (su S 1 0 (S 1 0 + w)) i 1 0 = S 1 0 + w := by rw [mpl_ne _ (by decide)]; rfl
          refine Z.iload_n C dX7_pass_52 rfl ?_
          refine Z.aload_n C dX7_pass_53 rfl ?_
          refine g_X7_66 (v := vI (S 2 0)) C rfl dX7_pass_54 R.1 (congrArg (fun x => some (vI x)) e2) ?_
          refine Z.icmp_ge (tgt := 78) C dX7_pass_57 (by decide) (by omega) (by omega) (by omega) (by omega) (fun c57 => ?_) (fun c57 => ?_)
          · refine Z.aload_n C dX7_pass_78 rfl ?_
            refine g_X7_79 (v := vI (S 1 0 + w)) C rfl dX7_pass_79 R.1 (congrArg (fun x => some (vI x)) e1) ?_
            exact Z.iret C E dX7_pass_82 (Nat.le_refl _) (Nat.le_refl _) (mAns.yes (by rw [sPass, ← show i = mM S by omega]; exact R) hw1 (by omega) rfl)
          · exfalso; omega
        | succ q ih =>
          intro i h hi R
          have e2 : mpl (su S 1 0 (S 1 0 + w)) i 2 0 = S 2 0 := by rw [mpl_ne _ (by decide)]; rfl
          have e4 : mpl (su S 1 0 (S 1 0 + w)) i 4 = S 4 := by rw [mpl_ne _ (by decide)]; rfl
          have e1 : mpl (su S 1 0 (S 1 0 + w)) i 1 0 = S 1 0 + w := by rw [mpl_ne _ (by decide)]; rfl
          refine Z.iload_n C dX7_pass_52 rfl ?_
          refine Z.aload_n C dX7_pass_53 rfl ?_
          refine g_X7_66 (v := vI (S 2 0)) C rfl dX7_pass_54 R.1 (congrArg (fun x => some (vI x)) e2) ?_
          refine Z.icmp_ge (tgt := 78) C dX7_pass_57 (by decide) (by omega) (by omega) (by omega) (by omega) (fun c57 => ?_) (fun c57 => ?_)
          · exfalso; omega
          · refine Z.aload_n C dX7_pass_60 rfl ?_
            refine g_X7_17 C rfl dX7_pass_61 R.1 rfl ?_
            refine Z.iload_n C dX7_pass_64 rfl ?_
            refine Z.aload_n C dX7_pass_65 rfl ?_
            refine g_X7_13 C rfl dX7_pass_66 R.1 rfl ?_
            refine Z.iload_n C dX7_pass_69 rfl ?_
            refine b_4 C R _ dX7_pass_70 rfl (by omega) (fun v70 e70 => ?_)
            rw [e4] at e70
            subst e70
            refine w_5 C R _ dX7_pass_71 rfl (by omega) (fun h R => ?_)
            refine Z.iinc (l' := [_, _, _]) C dX7_pass_72 rfl (Nat.le_of_ble_eq_true rfl) (by rw [hN]; decide) rfl ?_
            refine Z.goto (tgt := 52) C dX7_pass_75 (by decide) ?_
            exact ih (i + 1) h (by omega) (by rw [mpl]; exact R)
      exact L _ 0 _ (Nat.zero_add _) R
    · refine Z.iconst C dX7_pass_38 ?_
      exact Z.iret C E dX7_pass_39 (Nat.le_refl _) (Nat.le_refl _) (mAns.no R hw1 (by omega))
  refine Z.aload_n C dX7_pass_0 rfl ?_
  refine Z.iload_n C dX7_pass_1 rfl ?_
  refine Z.iconst C dX7_pass_2 ?_
  refine Z.bipush C dX7_pass_3 (by decide) ?_
  refine s_X7_69 C rfl dX7_pass_5 (c_X7_in htr (by omega) (by omega) (by omega)) (by decide) (Nat.le_of_ble_eq_true rfl) (by rw [hR]; exact Nat.le_refl _) (by rw [hR]; exact Nat.le_refl _) (fun w5 h5 q5 => ?_) (fun _ _ q => q.elim)
  obtain ⟨rfl, q5⟩ := q5
  replace q5 := q5.symm
  subst q5
  obtain ⟨m5, z5, g5, k5⟩ := mbx (1 ≤ w ∧ w ≤ 100)
  rw [z5]
  refine Z.if_ne (tgt := 15) C dX7_pass_8 (by decide) (by omega) (by omega) (fun c8 => ?_) (fun c8 => ?_)
  · refine Z.aload_n C dX7_pass_15 rfl ?_
    refine g_X7_79 (v := vI (S 1 0)) C rfl dX7_pass_16 R.1 rfl ?_
    refine Z.iload_n C dX7_pass_19 rfl ?_
    refine Z.iadd C dX7_pass_20 ?_
    refine Z.sipush C dX7_pass_21 (by decide) ?_
    refine Z.icmp_le (tgt := 31) C dX7_pass_24 (by decide) (by omega) (by omega) (by omega) (by omega) (fun c24 => ?_) (fun c24 => ?_)
    · refine Z.iconst C dX7_pass_31 ?_
      exact J32 _ (by unfold cPass; (repeat' split) <;> omega) (by omega) (by omega)
    · refine Z.iconst C dX7_pass_27 ?_
      refine Z.goto (tgt := 32) C dX7_pass_28 (by decide) ?_
      exact J32 _ (by unfold cPass; (repeat' split) <;> omega) (by omega) (by omega)
  · refine Z.iconst C dX7_pass_11 ?_
    refine Z.goto (tgt := 32) C dX7_pass_12 (by decide) ?_
    exact J32 _ (by unfold cPass; (repeat' split) <;> omega) (by omega) (by omega)

set_option maxRecDepth 100000 in
theorem c_X7_propose {ln : Launch} (htr : ln.stackTraces = false) {G : zG} {a : Nat → Nat} {t : Int} {S : Nat → Nat → Int} {h : zH} (R : MR G a t S h) (I : MB S) {w z x : Int} (hw : -2147483648 ≤ w ∧ w < 2147483648) (hz : -2147483648 ≤ z ∧ z < 2147483648) (hx : -2147483648 ≤ x ∧ x < 2147483648)  : CT ln G yX7_propose cX7_propose 5 (some .int) 3 (.ref (a 0) :: [vI w, vI z, vI x]) h 0 0 (mAns G a S (cProp S w z x) (S 15 0) (sProp S z x)) zNo := by
  refine CT.intro htr (by decide) rfl (Nat.le_of_ble_eq_true rfl) ?_
  intro X hln hG hR hN C E
  subst hln
  subst hG
  have b1 : 0 ≤ S 1 0 ∧ S 1 0 ≤ 2000 := I 1 0 (by decide)
  have b2 : 0 ≤ S 2 0 ∧ S 2 0 ≤ 10 := I 2 0 (by decide)
  have b10 : 0 ≤ S 10 0 ∧ S 10 0 ≤ 20 := I 10 0 (by decide)
  have b14 : 0 ≤ S 14 0 ∧ S 14 0 ≤ 300 := I 14 0 (by decide)
  have b15 : 0 ≤ S 15 0 ∧ S 15 0 ≤ 30 := I 15 0 (by decide)
  have hM : mP S = (S 15 0).toNat := rfl
  have J20 : ∀ w8 : Int, 0 ≤ w8 ∧ w8 ≤ 1 → (w8 = 0 ↔ ¬ ((0 ≤ w ∧ w ≤ S 2 0 - 1) ∧ 0 ≤ z ∧ z ≤ 2)) → Z X 20 [.ref (a 0), vI w, vI z, vI x] [vI w8] h 0 0 := by
    intro w8 hw8 hw7
    refine Z.istore (l' := [_, _, _, _, _]) C dX7_propose_20 (Nat.le_of_ble_eq_true rfl) (by rw [hN]; decide) rfl ?_
    have J69 : ∀ w9 : Int, w9 = cProp S w z x → (w9 = 0 → ¬ S 15 0 = 30) → 0 ≤ w9 ∧ w9 ≤ 3 → Z X 69 [.ref (a 0), vI w, vI z, vI x, vI w8] [vI w9, .ref (a 0)] h 0 0 := by
      intro w9 hw1 hw2 hw3
      refine v_X7_94 C rfl dX7_propose_69 R.1 (c_X7_refused htr R I (by omega)) (by decide) (Nat.le_of_ble_eq_true rfl) (by rw [hR]; exact Nat.le_refl _) (by rw [hR]; exact Nat.le_refl _) (fun w69 h69 q69 => ?_) (fun _ _ q => q.elim)
      obtain ⟨rfl, R⟩ := q69
      obtain ⟨m69, z69, g69, k69⟩ := mbx (¬ w9 = 0)
      rw [z69]
      refine Z.if_eq (tgt := 77) C dX7_propose_72 (by decide) (by omega) (by omega) (fun c72 => ?_) (fun c72 => ?_)
      · have hw2 := hw2 (by omega)
        refine Z.aload_n C dX7_propose_77 rfl ?_
        refine g_X7_44 C rfl dX7_propose_78 R.1 rfl ?_
        refine Z.aload_n C dX7_propose_81 rfl ?_
        refine g_X7_76 (v := vI (S 15 0)) C rfl dX7_propose_82 R.1 rfl ?_
        refine Z.iload_n C dX7_propose_85 rfl ?_
        refine w_17 C R (mP S) dX7_propose_86 (by omega) (by omega) (fun h R => ?_)
        refine Z.aload_n C dX7_propose_87 rfl ?_
        refine g_X7_47 C rfl dX7_propose_88 R.1 rfl ?_
        refine Z.aload_n C dX7_propose_91 rfl ?_
        refine g_X7_76 (v := vI (S 15 0)) C rfl dX7_propose_92 R.1 rfl ?_
        refine Z.iload_n C dX7_propose_95 rfl ?_
        refine w_18 C R (mP S) dX7_propose_96 (by omega) (by omega) (fun h R => ?_)
        refine Z.aload_n C dX7_propose_97 rfl ?_
        refine Z.dup C dX7_propose_98 rfl ?_
        refine g_X7_76 (v := vI (S 15 0)) C rfl dX7_propose_99 R.1 rfl ?_
        refine Z.iconst C dX7_propose_102 ?_
        refine Z.iadd C dX7_propose_103 ?_
        refine w_15 C R rfl dX7_propose_104 (fun h R => ?_)
        refine Z.aload_n C dX7_propose_107 rfl ?_
        refine g_X7_76 (v := vI (S 15 0 + 1)) C rfl dX7_propose_108 R.1 rfl ?_
        refine Z.iconst C dX7_propose_111 ?_
        refine Z.isub C dX7_propose_112 ?_
        exact Z.iret C E dX7_propose_113 (Nat.le_refl _) (Nat.le_refl _) (mAns.yes R hw1 (by omega) (by omega))
      · refine Z.iconst C dX7_propose_75 ?_
        exact Z.iret C E dX7_propose_76 (Nat.le_refl _) (Nat.le_refl _) (mAns.no R hw1 (by omega))
    refine Z.aload_n C dX7_propose_22 rfl ?_
    refine Z.iload C dX7_propose_23 rfl ?_
    refine Z.if_ne (tgt := 32) C dX7_propose_25 (by decide) (by omega) (by omega) (fun c25 => ?_) (fun c25 => ?_)
    · refine Z.iload_n C dX7_propose_32 rfl ?_
      refine Z.iconst C dX7_propose_33 ?_
      refine Z.bipush C dX7_propose_34 (by decide) ?_
      refine s_X7_69 C rfl dX7_propose_36 (c_X7_in htr (by omega) (by omega) (by omega)) (by decide) (Nat.le_of_ble_eq_true rfl) (by rw [hR]; exact Nat.le_refl _) (by rw [hR]; exact Nat.le_refl _) (fun w36 h36 q36 => ?_) (fun _ _ q => q.elim)
      obtain ⟨rfl, q36⟩ := q36
      replace q36 := q36.symm
      subst q36
      obtain ⟨m36, z36, g36, k36⟩ := mbx (0 ≤ x ∧ x ≤ 9)
      rw [z36]
      refine Z.if_ne (tgt := 46) C dX7_propose_39 (by decide) (by omega) (by omega) (fun c39 => ?_) (fun c39 => ?_)
      · refine Z.aload_n C dX7_propose_46 rfl ?_
        refine g_X7_7 C rfl dX7_propose_47 R.1 rfl ?_
        refine Z.iload_n C dX7_propose_50 rfl ?_
        refine a_3 C R I w.toNat dX7_propose_51 (by omega) (by omega) (fun v51 e51 b51 => ?_)
        refine Z.if_eq (tgt := 64) C dX7_propose_52 (by decide) (by omega) (by omega) (fun c52 => ?_) (fun c52 => ?_)
        · refine Z.iconst C dX7_propose_64 ?_
          refine Z.goto (tgt := 69) C dX7_propose_65 (by decide) ?_
          exact J69 _ (by unfold cProp; (repeat' split) <;> omega) (by omega) (by omega)
        · refine Z.aload_n C dX7_propose_55 rfl ?_
          refine g_X7_76 (v := vI (S 15 0)) C rfl dX7_propose_56 R.1 rfl ?_
          refine Z.bipush C dX7_propose_59 (by decide) ?_
          refine Z.icmp_ne (tgt := 68) C dX7_propose_61 (by decide) (by omega) (by omega) (by omega) (by omega) (fun c61 => ?_) (fun c61 => ?_)
          · refine Z.iconst C dX7_propose_68 ?_
            exact J69 _ (by unfold cProp; (repeat' split) <;> omega) (by omega) (by omega)
          · refine Z.iconst C dX7_propose_64 ?_
            refine Z.goto (tgt := 69) C dX7_propose_65 (by decide) ?_
            exact J69 _ (by unfold cProp; (repeat' split) <;> omega) (by omega) (by omega)
      · refine Z.iconst C dX7_propose_42 ?_
        refine Z.goto (tgt := 69) C dX7_propose_43 (by decide) ?_
        exact J69 _ (by unfold cProp; (repeat' split) <;> omega) (by omega) (by omega)
    · refine Z.iconst C dX7_propose_28 ?_
      refine Z.goto (tgt := 69) C dX7_propose_29 (by decide) ?_
      exact J69 _ (by unfold cProp; (repeat' split) <;> omega) (by omega) (by omega)
  refine Z.aload_n C dX7_propose_0 rfl ?_
  refine Z.iload_n C dX7_propose_1 rfl ?_
  refine v_X7_98 C rfl dX7_propose_2 R.1 (c_X7_isMember htr R I (by omega)) (by decide) (Nat.le_of_ble_eq_true rfl) (by rw [hR]; exact Nat.le_refl _) (by rw [hR]; exact Nat.le_refl _) (fun w2 h2 q2 => ?_) (fun _ _ q => q.elim)
  obtain ⟨rfl, q2⟩ := q2
  replace q2 := q2.symm
  subst q2
  obtain ⟨m2, z2, g2, k2⟩ := mbx (0 ≤ w ∧ w ≤ S 2 0 - 1)
  rw [z2]
  refine Z.if_eq (tgt := 19) C dX7_propose_5 (by decide) (by omega) (by omega) (fun c5 => ?_) (fun c5 => ?_)
  · refine Z.iconst C dX7_propose_19 ?_
    exact J20 _ (by omega) (by omega)
  · refine Z.iload_n C dX7_propose_8 rfl ?_
    refine s_X7_138 C rfl dX7_propose_9 (c_X7_isRule htr (by omega)) (by decide) (Nat.le_of_ble_eq_true rfl) (by rw [hR]; exact Nat.le_refl _) (by rw [hR]; exact Nat.le_refl _) (fun w9 h9 q9 => ?_) (fun _ _ q => q.elim)
    obtain ⟨rfl, q9⟩ := q9
    replace q9 := q9.symm
    subst q9
    obtain ⟨m9, z9, g9, k9⟩ := mbx (0 ≤ z ∧ z ≤ 2)
    rw [z9]
    refine Z.if_eq (tgt := 19) C dX7_propose_12 (by decide) (by omega) (by omega) (fun c12 => ?_) (fun c12 => ?_)
    · refine Z.iconst C dX7_propose_19 ?_
      exact J20 _ (by omega) (by omega)
    · refine Z.iconst C dX7_propose_15 ?_
      refine Z.goto (tgt := 20) C dX7_propose_16 (by decide) ?_
      exact J20 _ (by omega) (by omega)

set_option maxRecDepth 100000 in
theorem c_X7_vote {ln : Launch} (htr : ln.stackTraces = false) {G : zG} {a : Nat → Nat} {t : Int} {S : Nat → Nat → Int} {h : zH} (R : MR G a t S h) (I : MB S) {w z x : Int} (hw : -2147483648 ≤ w ∧ w < 2147483648) (hz : -2147483648 ≤ z ∧ z < 2147483648) (hx : x = 0 ∨ x = 1) : CT ln G yX7_vote cX7_vote 5 (some .int) 3 (.ref (a 0) :: [vI w, vI z, vI x]) h 0 0 (mAns G a S (cVote S w z) (sVote S w z x 16 z.toNat) (sVote S w z x)) zNo := by
  refine CT.intro htr (by decide) rfl (Nat.le_of_ble_eq_true rfl) ?_
  intro X hln hG hR hN C E
  subst hln
  subst hG
  have b1 : 0 ≤ S 1 0 ∧ S 1 0 ≤ 2000 := I 1 0 (by decide)
  have b2 : 0 ≤ S 2 0 ∧ S 2 0 ≤ 10 := I 2 0 (by decide)
  have b10 : 0 ≤ S 10 0 ∧ S 10 0 ≤ 20 := I 10 0 (by decide)
  have b14 : 0 ≤ S 14 0 ∧ S 14 0 ≤ 300 := I 14 0 (by decide)
  have b15 : 0 ≤ S 15 0 ∧ S 15 0 ≤ 30 := I 15 0 (by decide)
  have J21 : ∀ w8 : Int, 0 ≤ w8 ∧ w8 ≤ 1 → (w8 = 0 ↔ ¬ ((0 ≤ w ∧ w ≤ S 2 0 - 1) ∧ 0 ≤ z ∧ z ≤ S 15 0 - 1)) → Z X 21 [.ref (a 0), vI w, vI z, vI x] [vI w8] h 0 0 := by
    intro w8 hw8 hw7
    refine Z.istore (l' := [_, _, _, _, _]) C dX7_vote_21 (Nat.le_of_ble_eq_true rfl) (by rw [hN]; decide) rfl ?_
    have J56 : ∀ w9 : Int, w9 = cVote S w z → (w9 = 0 → (0 ≤ w ∧ w ≤ S 2 0 - 1) ∧ 0 ≤ z ∧ z ≤ S 15 0 - 1) → 0 ≤ w9 ∧ w9 ≤ 3 → Z X 56 [.ref (a 0), vI w, vI z, vI x, vI w8] [vI w9, .ref (a 0)] h 0 0 := by
      intro w9 hw1 hw2 hw3
      refine v_X7_94 C rfl dX7_vote_56 R.1 (c_X7_refused htr R I (by omega)) (by decide) (Nat.le_of_ble_eq_true rfl) (by rw [hR]; exact Nat.le_refl _) (by rw [hR]; exact Nat.le_refl _) (fun w56 h56 q56 => ?_) (fun _ _ q => q.elim)
      obtain ⟨rfl, R⟩ := q56
      obtain ⟨m56, z56, g56, k56⟩ := mbx (¬ w9 = 0)
      rw [z56]
      refine Z.if_eq (tgt := 64) C dX7_vote_59 (by decide) (by omega) (by omega) (fun c59 => ?_) (fun c59 => ?_)
      · have hw2 := hw2 (by omega)
        have J83 : ∀ w7 : Int, w7 = (if x = 0 then 2 else 1) → Z X 83 [.ref (a 0), vI w, vI z, vI x, vI w8] [vI w7, vI (10 * z + w), .ref (a 20)] h56 0 0 := by
          intro w7 hw6
          refine w_20 C R (10 * z.toNat + w.toNat) dX7_vote_83 (by omega) (by omega) (fun h R => ?_)
          have I := MB_su I 20 (10 * z.toNat + w.toNat) (v := w7) (by show _ ∧ _ ≤ (2 : Int); rcases hx with rfl | rfl <;> simp [hw6])
          rw [show (z : Int) = ((z.toNat : Nat) : Int) by omega]
          refine Z.aload_n C dX7_vote_84 rfl ?_
          refine Z.iload_n C dX7_vote_85 rfl ?_
          refine v_X7_101 C rfl dX7_vote_86 R.1 (c_X7_decide htr R I (p := z.toNat) (by omega)) (by decide) (Nat.le_of_ble_eq_true rfl) (by rw [hR]; exact Nat.le_refl _) (by rw [hR]; exact Nat.le_refl _) (fun w86 h86 q86 => ?_) (fun _ _ q => q.elim)
          obtain ⟨rfl, R⟩ := q86
          refine Z.aload_n C dX7_vote_89 rfl ?_
          refine g_X7_41 C rfl dX7_vote_90 R.1 rfl ?_
          refine Z.iload_n C dX7_vote_93 rfl ?_
          refine b_16 C R z.toNat dX7_vote_94 (by omega) (by omega) (fun v94 e94 => ?_)
          exact Z.iret C E dX7_vote_95 (Nat.le_refl _) (Nat.le_refl _) (mAns.yes (by rw [sVote, ← hw6]; exact R) hw1 (by omega) (by rw [e94, hw6]; rfl))
        refine Z.aload_n C dX7_vote_64 rfl ?_
        refine g_X7_53 C rfl dX7_vote_65 R.1 rfl ?_
        refine Z.bipush C dX7_vote_68 (by decide) ?_
        refine Z.iload_n C dX7_vote_70 rfl ?_
        refine Z.imul C dX7_vote_71 ?_
        refine Z.iload_n C dX7_vote_72 rfl ?_
        refine Z.iadd C dX7_vote_73 ?_
        refine Z.iload_n C dX7_vote_74 rfl ?_
        refine Z.if_eq (tgt := 82) C dX7_vote_75 (by decide) (by omega) (by omega) (fun c75 => ?_) (fun c75 => ?_)
        · refine Z.iconst C dX7_vote_82 ?_
          exact J83 _ (by first | rw [if_pos (by omega)] | rw [if_neg (by omega)])
        · refine Z.iconst C dX7_vote_78 ?_
          refine Z.goto (tgt := 83) C dX7_vote_79 (by decide) ?_
          exact J83 _ (by first | rw [if_pos (by omega)] | rw [if_neg (by omega)])
      · refine Z.iconst C dX7_vote_62 ?_
        exact Z.iret C E dX7_vote_63 (Nat.le_refl _) (Nat.le_refl _) (mAns.no R hw1 (by omega))
    refine Z.aload_n C dX7_vote_23 rfl ?_
    refine Z.iload C dX7_vote_24 rfl ?_
    refine Z.if_ne (tgt := 33) C dX7_vote_26 (by decide) (by omega) (by omega) (fun c26 => ?_) (fun c26 => ?_)
    · refine Z.aload_n C dX7_vote_33 rfl ?_
      refine g_X7_7 C rfl dX7_vote_34 R.1 rfl ?_
      refine Z.iload_n C dX7_vote_37 rfl ?_
      refine a_3 C R I w.toNat dX7_vote_38 (by omega) (by omega) (fun v38 e38 b38 => ?_)
      refine Z.if_eq (tgt := 51) C dX7_vote_39 (by decide) (by omega) (by omega) (fun c39 => ?_) (fun c39 => ?_)
      · refine Z.iconst C dX7_vote_51 ?_
        refine Z.goto (tgt := 56) C dX7_vote_52 (by decide) ?_
        exact J56 _ (by unfold cVote; (repeat' split) <;> omega) (by omega) (by omega)
      · refine Z.aload_n C dX7_vote_42 rfl ?_
        refine g_X7_41 C rfl dX7_vote_43 R.1 rfl ?_
        refine Z.iload_n C dX7_vote_46 rfl ?_
        refine a_16 C R I z.toNat dX7_vote_47 (by omega) (by omega) (fun v47 e47 b47 => ?_)
        refine Z.if_eq (tgt := 55) C dX7_vote_48 (by decide) (by omega) (by omega) (fun c48 => ?_) (fun c48 => ?_)
        · refine Z.iconst C dX7_vote_55 ?_
          exact J56 _ (by unfold cVote; (repeat' split) <;> omega) (by omega) (by omega)
        · refine Z.iconst C dX7_vote_51 ?_
          refine Z.goto (tgt := 56) C dX7_vote_52 (by decide) ?_
          exact J56 _ (by unfold cVote; (repeat' split) <;> omega) (by omega) (by omega)
    · refine Z.iconst C dX7_vote_29 ?_
      refine Z.goto (tgt := 56) C dX7_vote_30 (by decide) ?_
      exact J56 _ (by unfold cVote; (repeat' split) <;> omega) (by omega) (by omega)
  refine Z.aload_n C dX7_vote_0 rfl ?_
  refine Z.iload_n C dX7_vote_1 rfl ?_
  refine v_X7_98 C rfl dX7_vote_2 R.1 (c_X7_isMember htr R I (by omega)) (by decide) (Nat.le_of_ble_eq_true rfl) (by rw [hR]; exact Nat.le_refl _) (by rw [hR]; exact Nat.le_refl _) (fun w2 h2 q2 => ?_) (fun _ _ q => q.elim)
  obtain ⟨rfl, q2⟩ := q2
  replace q2 := q2.symm
  subst q2
  obtain ⟨m2, z2, g2, k2⟩ := mbx (0 ≤ w ∧ w ≤ S 2 0 - 1)
  rw [z2]
  refine Z.if_eq (tgt := 20) C dX7_vote_5 (by decide) (by omega) (by omega) (fun c5 => ?_) (fun c5 => ?_)
  · refine Z.iconst C dX7_vote_20 ?_
    exact J21 _ (by omega) (by omega)
  · refine Z.aload_n C dX7_vote_8 rfl ?_
    refine Z.iload_n C dX7_vote_9 rfl ?_
    refine v_X7_141 C rfl dX7_vote_10 R.1 (c_X7_isProposal htr R I (by omega)) (by decide) (Nat.le_of_ble_eq_true rfl) (by rw [hR]; exact Nat.le_refl _) (by rw [hR]; exact Nat.le_refl _) (fun w10 h10 q10 => ?_) (fun _ _ q => q.elim)
    obtain ⟨rfl, q10⟩ := q10
    replace q10 := q10.symm
    subst q10
    obtain ⟨m10, z10, g10, k10⟩ := mbx (0 ≤ z ∧ z ≤ S 15 0 - 1)
    rw [z10]
    refine Z.if_eq (tgt := 20) C dX7_vote_13 (by decide) (by omega) (by omega) (fun c13 => ?_) (fun c13 => ?_)
    · refine Z.iconst C dX7_vote_20 ?_
      exact J21 _ (by omega) (by omega)
    · refine Z.iconst C dX7_vote_16 ?_
      refine Z.goto (tgt := 21) C dX7_vote_17 (by decide) ?_
      exact J21 _ (by omega) (by omega)

set_option maxRecDepth 100000 in
theorem c_X7_rule {ln : Launch} (htr : ln.stackTraces = false) {G : zG} {a : Nat → Nat} {t : Int} {S : Nat → Nat → Int} {h : zH} (R : MR G a t S h) (I : MB S) {w : Int} (hw : -2147483648 ≤ w ∧ w < 2147483648)  : CT ln G yX7_rule cX7_rule 2 (some .int) 3 (.ref (a 0) :: [vI w]) h 0 0 (mAns G a S (cRule w) (mval S w) (S)) zNo := by
  refine CT.intro htr (by decide) rfl (Nat.le_of_ble_eq_true rfl) ?_
  intro X hln hG hR hN C E
  subst hln
  subst hG
  have b1 : 0 ≤ S 1 0 ∧ S 1 0 ≤ 2000 := I 1 0 (by decide)
  have b2 : 0 ≤ S 2 0 ∧ S 2 0 ≤ 10 := I 2 0 (by decide)
  have b10 : 0 ≤ S 10 0 ∧ S 10 0 ≤ 20 := I 10 0 (by decide)
  have b14 : 0 ≤ S 14 0 ∧ S 14 0 ≤ 300 := I 14 0 (by decide)
  have b15 : 0 ≤ S 15 0 ∧ S 15 0 ≤ 30 := I 15 0 (by decide)
  have J13 : ∀ w9 : Int, w9 = cRule w → (w9 = 0 → 0 ≤ w) → 0 ≤ w9 ∧ w9 ≤ 3 → Z X 13 [.ref (a 0), vI w] [vI w9, .ref (a 0)] h 0 0 := by
    intro w9 hw1 hw2 hw3
    refine v_X7_94 C rfl dX7_rule_13 R.1 (c_X7_refused htr R I (by omega)) (by decide) (Nat.le_of_ble_eq_true rfl) (by rw [hR]; exact Nat.le_refl _) (by rw [hR]; exact Nat.le_refl _) (fun w13 h13 q13 => ?_) (fun _ _ q => q.elim)
    obtain ⟨rfl, R⟩ := q13
    obtain ⟨m13, z13, g13, k13⟩ := mbx (¬ w9 = 0)
    rw [z13]
    refine Z.if_eq (tgt := 23) C dX7_rule_16 (by decide) (by omega) (by omega) (fun c16 => ?_) (fun c16 => ?_)
    · refine Z.aload_n C dX7_rule_23 rfl ?_
      refine Z.iload_n C dX7_rule_24 rfl ?_
      refine v_X7_82 C rfl dX7_rule_25 R.1 (c_X7_valueOf htr R I (by omega)) (by decide) (Nat.le_of_ble_eq_true rfl) (by rw [hR]; exact Nat.le_refl _) (by rw [hR]; exact Nat.le_refl _) (fun w25 h25 q25 => ?_) (fun _ _ q => q.elim)
      obtain ⟨rfl, q25⟩ := q25
      replace q25 := q25.symm
      subst q25
      exact Z.iret C E dX7_rule_28 (Nat.le_refl _) (Nat.le_refl _) (by first | exact mAns.no R hw1 (by omega) | exact mAns.yes R hw1 (by omega) rfl)
    · refine Z.iconst C dX7_rule_19 ?_
      refine Z.goto (tgt := 28) C dX7_rule_20 (by decide) ?_
      exact Z.iret C E dX7_rule_28 (Nat.le_refl _) (Nat.le_refl _) (by first | exact mAns.no R hw1 (by omega) | exact mAns.yes R hw1 (by omega) rfl)
  refine Z.aload_n C dX7_rule_0 rfl ?_
  refine Z.iload_n C dX7_rule_1 rfl ?_
  refine s_X7_138 C rfl dX7_rule_2 (c_X7_isRule htr (by omega)) (by decide) (Nat.le_of_ble_eq_true rfl) (by rw [hR]; exact Nat.le_refl _) (by rw [hR]; exact Nat.le_refl _) (fun w2 h2 q2 => ?_) (fun _ _ q => q.elim)
  obtain ⟨rfl, q2⟩ := q2
  replace q2 := q2.symm
  subst q2
  obtain ⟨m2, z2, g2, k2⟩ := mbx (0 ≤ w ∧ w ≤ 2)
  rw [z2]
  refine Z.if_eq (tgt := 12) C dX7_rule_5 (by decide) (by omega) (by omega) (fun c5 => ?_) (fun c5 => ?_)
  · refine Z.iconst C dX7_rule_12 ?_
    exact J13 _ (by unfold cRule; (repeat' split) <;> omega) (by omega) (by omega)
  · refine Z.iconst C dX7_rule_8 ?_
    refine Z.goto (tgt := 13) C dX7_rule_9 (by decide) ?_
    exact J13 _ (by unfold cRule; (repeat' split) <;> omega) (by omega) (by omega)

set_option maxRecDepth 100000 in
theorem c_X7_has {ln : Launch} (htr : ln.stackTraces = false) {G : zG} {a : Nat → Nat} {t : Int} {S : Nat → Nat → Int} {h : zH} (R : MR G a t S h) (I : MB S) {w z : Int} (hw : -2147483648 ≤ w ∧ w < 2147483648) (hz : -2147483648 ≤ z ∧ z < 2147483648)  : CT ln G yX7_has cX7_has 3 (some .boolean) 3 (.ref (a 0) :: [vI w, vI z]) h 0 0 (mAns G a S (cHas S w z) (if S 13 (20 * w.toNat + z.toNat) = 0 then 0 else 1) (S)) zNo := by
  refine CT.intro htr (by decide) rfl (Nat.le_of_ble_eq_true rfl) ?_
  intro X hln hG hR hN C E
  subst hln
  subst hG
  have b1 : 0 ≤ S 1 0 ∧ S 1 0 ≤ 2000 := I 1 0 (by decide)
  have b2 : 0 ≤ S 2 0 ∧ S 2 0 ≤ 10 := I 2 0 (by decide)
  have b10 : 0 ≤ S 10 0 ∧ S 10 0 ≤ 20 := I 10 0 (by decide)
  have b14 : 0 ≤ S 14 0 ∧ S 14 0 ≤ 300 := I 14 0 (by decide)
  have b15 : 0 ≤ S 15 0 ∧ S 15 0 ≤ 30 := I 15 0 (by decide)
  have J22 : ∀ w9 : Int, w9 = cHas S w z → (w9 = 0 → (0 ≤ w ∧ w ≤ S 2 0 - 1) ∧ 0 ≤ z ∧ z ≤ S 10 0 - 1) → 0 ≤ w9 ∧ w9 ≤ 3 → Z X 22 [.ref (a 0), vI w, vI z] [vI w9, .ref (a 0)] h 0 0 := by
    intro w9 hw1 hw2 hw3
    refine v_X7_94 C rfl dX7_has_22 R.1 (c_X7_refused htr R I (by omega)) (by decide) (Nat.le_of_ble_eq_true rfl) (by rw [hR]; exact Nat.le_refl _) (by rw [hR]; exact Nat.le_refl _) (fun w22 h22 q22 => ?_) (fun _ _ q => q.elim)
    obtain ⟨rfl, R⟩ := q22
    obtain ⟨m22, z22, g22, k22⟩ := mbx (¬ w9 = 0)
    rw [z22]
    refine Z.if_ne (tgt := 46) C dX7_has_25 (by decide) (by omega) (by omega) (fun c25 => ?_) (fun c25 => ?_)
    · refine Z.iconst C dX7_has_46 ?_
      exact Z.zret C E dX7_has_47 (nar_z (by omega)) (Nat.le_refl _) (Nat.le_refl _) (by first | exact mAns.no R hw1 (by omega) | exact mAns.yes R hw1 (by omega) (by first | rw [if_pos (by omega)] | rw [if_neg (by omega)]))
    · have hw2 := hw2 (by omega)
      refine Z.aload_n C dX7_has_28 rfl ?_
      refine g_X7_38 C rfl dX7_has_29 R.1 rfl ?_
      refine Z.bipush C dX7_has_32 (by decide) ?_
      refine Z.iload_n C dX7_has_34 rfl ?_
      refine Z.imul C dX7_has_35 ?_
      refine Z.iload_n C dX7_has_36 rfl ?_
      refine Z.iadd C dX7_has_37 ?_
      refine a_13 C R I (20 * w.toNat + z.toNat) dX7_has_38 (by omega) (by omega) (fun v38 e38 b38 => ?_)
      refine Z.if_eq (tgt := 46) C dX7_has_39 (by decide) (by omega) (by omega) (fun c39 => ?_) (fun c39 => ?_)
      · refine Z.iconst C dX7_has_46 ?_
        exact Z.zret C E dX7_has_47 (nar_z (by omega)) (Nat.le_refl _) (Nat.le_refl _) (by first | exact mAns.no R hw1 (by omega) | exact mAns.yes R hw1 (by omega) (by first | rw [if_pos (by omega)] | rw [if_neg (by omega)]))
      · refine Z.iconst C dX7_has_42 ?_
        refine Z.goto (tgt := 47) C dX7_has_43 (by decide) ?_
        exact Z.zret C E dX7_has_47 (nar_z (by omega)) (Nat.le_refl _) (Nat.le_refl _) (by first | exact mAns.no R hw1 (by omega) | exact mAns.yes R hw1 (by omega) (by first | rw [if_pos (by omega)] | rw [if_neg (by omega)]))
  refine Z.aload_n C dX7_has_0 rfl ?_
  refine Z.aload_n C dX7_has_1 rfl ?_
  refine Z.iload_n C dX7_has_2 rfl ?_
  refine v_X7_98 C rfl dX7_has_3 R.1 (c_X7_isMember htr R I (by omega)) (by decide) (Nat.le_of_ble_eq_true rfl) (by rw [hR]; exact Nat.le_refl _) (by rw [hR]; exact Nat.le_refl _) (fun w3 h3 q3 => ?_) (fun _ _ q => q.elim)
  obtain ⟨rfl, q3⟩ := q3
  replace q3 := q3.symm
  subst q3
  obtain ⟨m3, z3, g3, k3⟩ := mbx (0 ≤ w ∧ w ≤ S 2 0 - 1)
  rw [z3]
  refine Z.if_eq (tgt := 21) C dX7_has_6 (by decide) (by omega) (by omega) (fun c6 => ?_) (fun c6 => ?_)
  · refine Z.iconst C dX7_has_21 ?_
    exact J22 _ (by unfold cHas; (repeat' split) <;> omega) (by omega) (by omega)
  · refine Z.aload_n C dX7_has_9 rfl ?_
    refine Z.iload_n C dX7_has_10 rfl ?_
    refine v_X7_119 C rfl dX7_has_11 R.1 (c_X7_isFilm htr R I (by omega)) (by decide) (Nat.le_of_ble_eq_true rfl) (by rw [hR]; exact Nat.le_refl _) (by rw [hR]; exact Nat.le_refl _) (fun w11 h11 q11 => ?_) (fun _ _ q => q.elim)
    obtain ⟨rfl, q11⟩ := q11
    replace q11 := q11.symm
    subst q11
    obtain ⟨m11, z11, g11, k11⟩ := mbx (0 ≤ z ∧ z ≤ S 10 0 - 1)
    rw [z11]
    refine Z.if_eq (tgt := 21) C dX7_has_14 (by decide) (by omega) (by omega) (fun c14 => ?_) (fun c14 => ?_)
    · refine Z.iconst C dX7_has_21 ?_
      exact J22 _ (by unfold cHas; (repeat' split) <;> omega) (by omega) (by omega)
    · refine Z.iconst C dX7_has_17 ?_
      refine Z.goto (tgt := 22) C dX7_has_18 (by decide) ?_
      exact J22 _ (by unfold cHas; (repeat' split) <;> omega) (by omega) (by omega)

set_option maxRecDepth 100000 in
theorem c_X7_owes {ln : Launch} (htr : ln.stackTraces = false) {G : zG} {a : Nat → Nat} {t : Int} {S : Nat → Nat → Int} {h : zH} (R : MR G a t S h) (I : MB S) {w z : Int} (hw : -2147483648 ≤ w ∧ w < 2147483648) (hz : -2147483648 ≤ z ∧ z < 2147483648)  : CT ln G yX7_owes cX7_owes 3 (some .int) 3 (.ref (a 0) :: [vI w, vI z]) h 0 0 (mAns G a S (cOwes S w z) (S 9 (10 * w.toNat + z.toNat)) (S)) zNo := by
  refine CT.intro htr (by decide) rfl (Nat.le_of_ble_eq_true rfl) ?_
  intro X hln hG hR hN C E
  subst hln
  subst hG
  have b1 : 0 ≤ S 1 0 ∧ S 1 0 ≤ 2000 := I 1 0 (by decide)
  have b2 : 0 ≤ S 2 0 ∧ S 2 0 ≤ 10 := I 2 0 (by decide)
  have b10 : 0 ≤ S 10 0 ∧ S 10 0 ≤ 20 := I 10 0 (by decide)
  have b14 : 0 ≤ S 14 0 ∧ S 14 0 ≤ 300 := I 14 0 (by decide)
  have b15 : 0 ≤ S 15 0 ∧ S 15 0 ≤ 30 := I 15 0 (by decide)
  have J22 : ∀ w9 : Int, w9 = cOwes S w z → (w9 = 0 → (0 ≤ w ∧ w ≤ S 2 0 - 1) ∧ 0 ≤ z ∧ z ≤ S 2 0 - 1) → 0 ≤ w9 ∧ w9 ≤ 3 → Z X 22 [.ref (a 0), vI w, vI z] [vI w9, .ref (a 0)] h 0 0 := by
    intro w9 hw1 hw2 hw3
    refine v_X7_94 C rfl dX7_owes_22 R.1 (c_X7_refused htr R I (by omega)) (by decide) (Nat.le_of_ble_eq_true rfl) (by rw [hR]; exact Nat.le_refl _) (by rw [hR]; exact Nat.le_refl _) (fun w22 h22 q22 => ?_) (fun _ _ q => q.elim)
    obtain ⟨rfl, R⟩ := q22
    obtain ⟨m22, z22, g22, k22⟩ := mbx (¬ w9 = 0)
    rw [z22]
    refine Z.if_eq (tgt := 32) C dX7_owes_25 (by decide) (by omega) (by omega) (fun c25 => ?_) (fun c25 => ?_)
    · have hw2 := hw2 (by omega)
      refine Z.aload_n C dX7_owes_32 rfl ?_
      refine g_X7_29 C rfl dX7_owes_33 R.1 rfl ?_
      refine Z.bipush C dX7_owes_36 (by decide) ?_
      refine Z.iload_n C dX7_owes_38 rfl ?_
      refine Z.imul C dX7_owes_39 ?_
      refine Z.iload_n C dX7_owes_40 rfl ?_
      refine Z.iadd C dX7_owes_41 ?_
      refine a_9 C R I (10 * w.toNat + z.toNat) dX7_owes_42 (by omega) (by omega) (fun v42 e42 b42 => ?_)
      exact Z.iret C E dX7_owes_43 (Nat.le_refl _) (Nat.le_refl _) (by first | exact mAns.no R hw1 (by omega) | exact mAns.yes R hw1 (by omega) e42)
    · refine Z.iconst C dX7_owes_28 ?_
      refine Z.goto (tgt := 43) C dX7_owes_29 (by decide) ?_
      exact Z.iret C E dX7_owes_43 (Nat.le_refl _) (Nat.le_refl _) (by first | exact mAns.no R hw1 (by omega) | exact mAns.yes R hw1 (by omega) e42)
  refine Z.aload_n C dX7_owes_0 rfl ?_
  refine Z.aload_n C dX7_owes_1 rfl ?_
  refine Z.iload_n C dX7_owes_2 rfl ?_
  refine v_X7_98 C rfl dX7_owes_3 R.1 (c_X7_isMember htr R I (by omega)) (by decide) (Nat.le_of_ble_eq_true rfl) (by rw [hR]; exact Nat.le_refl _) (by rw [hR]; exact Nat.le_refl _) (fun w3 h3 q3 => ?_) (fun _ _ q => q.elim)
  obtain ⟨rfl, q3⟩ := q3
  replace q3 := q3.symm
  subst q3
  obtain ⟨m3, z3, g3, k3⟩ := mbx (0 ≤ w ∧ w ≤ S 2 0 - 1)
  rw [z3]
  refine Z.if_eq (tgt := 21) C dX7_owes_6 (by decide) (by omega) (by omega) (fun c6 => ?_) (fun c6 => ?_)
  · refine Z.iconst C dX7_owes_21 ?_
    exact J22 _ (by unfold cOwes; (repeat' split) <;> omega) (by omega) (by omega)
  · refine Z.aload_n C dX7_owes_9 rfl ?_
    refine Z.iload_n C dX7_owes_10 rfl ?_
    refine v_X7_98 C rfl dX7_owes_11 R.1 (c_X7_isMember htr R I (by omega)) (by decide) (Nat.le_of_ble_eq_true rfl) (by rw [hR]; exact Nat.le_refl _) (by rw [hR]; exact Nat.le_refl _) (fun w11 h11 q11 => ?_) (fun _ _ q => q.elim)
    obtain ⟨rfl, q11⟩ := q11
    replace q11 := q11.symm
    subst q11
    obtain ⟨m11, z11, g11, k11⟩ := mbx (0 ≤ z ∧ z ≤ S 2 0 - 1)
    rw [z11]
    refine Z.if_eq (tgt := 21) C dX7_owes_14 (by decide) (by omega) (by omega) (fun c14 => ?_) (fun c14 => ?_)
    · refine Z.iconst C dX7_owes_21 ?_
      exact J22 _ (by unfold cOwes; (repeat' split) <;> omega) (by omega) (by omega)
    · refine Z.iconst C dX7_owes_17 ?_
      refine Z.goto (tgt := 22) C dX7_owes_18 (by decide) ?_
      exact J22 _ (by unfold cOwes; (repeat' split) <;> omega) (by omega) (by omega)

set_option maxRecDepth 100000 in
theorem c_X7_owesAnew {ln : Launch} (htr : ln.stackTraces = false) {G : zG} {a : Nat → Nat} {t : Int} {S : Nat → Nat → Int} {h : zH} (R : MR G a t S h) (I : MB S) {w z : Int} (hw : -2147483648 ≤ w ∧ w < 2147483648) (hz : -2147483648 ≤ z ∧ z < 2147483648)  : CT ln G yX7_owesAnew cX7_owesAnew 3 (some .int) 4 (.ref (a 0) :: [vI w, vI z]) h 0 0 (mAns G a S (cOwes S w z) (S 9 (10 * w.toNat + z.toNat)) (S)) zNo := by
  refine CT.intro htr (by decide) rfl (Nat.le_of_ble_eq_true rfl) ?_
  intro X hln hG hR hN C E
  subst hln
  subst hG
  have b1 : 0 ≤ S 1 0 ∧ S 1 0 ≤ 2000 := I 1 0 (by decide)
  have b2 : 0 ≤ S 2 0 ∧ S 2 0 ≤ 10 := I 2 0 (by decide)
  have b10 : 0 ≤ S 10 0 ∧ S 10 0 ≤ 20 := I 10 0 (by decide)
  have b14 : 0 ≤ S 14 0 ∧ S 14 0 ≤ 300 := I 14 0 (by decide)
  have b15 : 0 ≤ S 15 0 ∧ S 15 0 ≤ 30 := I 15 0 (by decide)
  refine Z.aload_n C dX7_owesAnew_0 rfl ?_
  refine Z.iload_n C dX7_owesAnew_1 rfl ?_
  refine Z.iload_n C dX7_owesAnew_2 rfl ?_
  refine v_X7_144 C rfl dX7_owesAnew_3 R.1 (c_X7_owes htr R I (by omega) (by omega)) (by decide) (Nat.le_of_ble_eq_true rfl) (by rw [hR]; exact Nat.le_refl _) (by rw [hR]; exact Nat.le_refl _) (fun w3 h3 q3 => ?_) (fun _ _ q => q.elim)
  rcases Classical.em (cOwes S w z = 0) with q0 | q0
  · obtain ⟨rfl, R⟩ := q3.2 q0
    exact Z.iret C E dX7_owesAnew_6 (Nat.le_refl _) (Nat.le_refl _) (mAns.yes R q0.symm rfl rfl)
  · obtain ⟨rfl, R⟩ := q3.1 q0
    exact Z.iret C E dX7_owesAnew_6 (Nat.le_refl _) (Nat.le_refl _) (mAns.no R rfl q0)
  

set_option maxRecDepth 100000 in
theorem c_X7_worth {ln : Launch} (htr : ln.stackTraces = false) {G : zG} {a : Nat → Nat} {t : Int} {S : Nat → Nat → Int} {h : zH} (R : MR G a t S h) (I : MB S) {z : Int} (hz : -2147483648 ≤ z ∧ z < 2147483648)  : CT ln G yX7_worth cX7_worth 2 (some .int) 3 (.ref (a 0) :: [vI z]) h 0 0 (mAns G a S (cWorth S z) (S 12 z.toNat) (S)) zNo := by
  refine CT.intro htr (by decide) rfl (Nat.le_of_ble_eq_true rfl) ?_
  intro X hln hG hR hN C E
  subst hln
  subst hG
  have b1 : 0 ≤ S 1 0 ∧ S 1 0 ≤ 2000 := I 1 0 (by decide)
  have b2 : 0 ≤ S 2 0 ∧ S 2 0 ≤ 10 := I 2 0 (by decide)
  have b10 : 0 ≤ S 10 0 ∧ S 10 0 ≤ 20 := I 10 0 (by decide)
  have b14 : 0 ≤ S 14 0 ∧ S 14 0 ≤ 300 := I 14 0 (by decide)
  have b15 : 0 ≤ S 15 0 ∧ S 15 0 ≤ 30 := I 15 0 (by decide)
  have J14 : ∀ w9 : Int, w9 = cWorth S z → (w9 = 0 → 0 ≤ z ∧ z ≤ S 10 0 - 1) → 0 ≤ w9 ∧ w9 ≤ 3 → Z X 14 [.ref (a 0), vI z] [vI w9, .ref (a 0)] h 0 0 := by
    intro w9 hw1 hw2 hw3
    refine v_X7_94 C rfl dX7_worth_14 R.1 (c_X7_refused htr R I (by omega)) (by decide) (Nat.le_of_ble_eq_true rfl) (by rw [hR]; exact Nat.le_refl _) (by rw [hR]; exact Nat.le_refl _) (fun w14 h14 q14 => ?_) (fun _ _ q => q.elim)
    obtain ⟨rfl, R⟩ := q14
    obtain ⟨m14, z14, g14, k14⟩ := mbx (¬ w9 = 0)
    rw [z14]
    refine Z.if_eq (tgt := 24) C dX7_worth_17 (by decide) (by omega) (by omega) (fun c17 => ?_) (fun c17 => ?_)
    · have hw2 := hw2 (by omega)
      refine Z.aload_n C dX7_worth_24 rfl ?_
      refine g_X7_35 C rfl dX7_worth_25 R.1 rfl ?_
      refine Z.iload_n C dX7_worth_28 rfl ?_
      refine a_12 C R I z.toNat dX7_worth_29 (by omega) (by omega) (fun v29 e29 b29 => ?_)
      exact Z.iret C E dX7_worth_30 (Nat.le_refl _) (Nat.le_refl _) (by first | exact mAns.no R hw1 (by omega) | exact mAns.yes R hw1 (by omega) e29)
    · refine Z.iconst C dX7_worth_20 ?_
      refine Z.goto (tgt := 30) C dX7_worth_21 (by decide) ?_
      exact Z.iret C E dX7_worth_30 (Nat.le_refl _) (Nat.le_refl _) (by first | exact mAns.no R hw1 (by omega) | exact mAns.yes R hw1 (by omega) e29)
  refine Z.aload_n C dX7_worth_0 rfl ?_
  refine Z.aload_n C dX7_worth_1 rfl ?_
  refine Z.iload_n C dX7_worth_2 rfl ?_
  refine v_X7_119 C rfl dX7_worth_3 R.1 (c_X7_isFilm htr R I (by omega)) (by decide) (Nat.le_of_ble_eq_true rfl) (by rw [hR]; exact Nat.le_refl _) (by rw [hR]; exact Nat.le_refl _) (fun w3 h3 q3 => ?_) (fun _ _ q => q.elim)
  obtain ⟨rfl, q3⟩ := q3
  replace q3 := q3.symm
  subst q3
  obtain ⟨m3, z3, g3, k3⟩ := mbx (0 ≤ z ∧ z ≤ S 10 0 - 1)
  rw [z3]
  refine Z.if_eq (tgt := 13) C dX7_worth_6 (by decide) (by omega) (by omega) (fun c6 => ?_) (fun c6 => ?_)
  · refine Z.iconst C dX7_worth_13 ?_
    exact J14 _ (by unfold cWorth; (repeat' split) <;> omega) (by omega) (by omega)
  · refine Z.iconst C dX7_worth_9 ?_
    refine Z.goto (tgt := 14) C dX7_worth_10 (by decide) ?_
    exact J14 _ (by unfold cWorth; (repeat' split) <;> omega) (by omega) (by omega)

set_option maxRecDepth 100000 in
theorem c_X7_accountAnew {ln : Launch} (htr : ln.stackTraces = false) {G : zG} {a : Nat → Nat} {t : Int} {S : Nat → Nat → Int} {h : zH} (R : MR G a t S h) (I : MB S) {z : Int} (hz : -2147483648 ≤ z ∧ z < 2147483648)  : CT ln G yX7_accountAnew cX7_accountAnew 2 (some .int) 3 (.ref (a 0) :: [vI z]) h 0 0 (mAns G a S (cAcc S z) (S 7 z.toNat) (S)) zNo := by
  refine CT.intro htr (by decide) rfl (Nat.le_of_ble_eq_true rfl) ?_
  intro X hln hG hR hN C E
  subst hln
  subst hG
  have b1 : 0 ≤ S 1 0 ∧ S 1 0 ≤ 2000 := I 1 0 (by decide)
  have b2 : 0 ≤ S 2 0 ∧ S 2 0 ≤ 10 := I 2 0 (by decide)
  have b10 : 0 ≤ S 10 0 ∧ S 10 0 ≤ 20 := I 10 0 (by decide)
  have b14 : 0 ≤ S 14 0 ∧ S 14 0 ≤ 300 := I 14 0 (by decide)
  have b15 : 0 ≤ S 15 0 ∧ S 15 0 ≤ 30 := I 15 0 (by decide)
  have J14 : ∀ w9 : Int, w9 = cAcc S z → (w9 = 0 → 0 ≤ z ∧ z ≤ S 2 0 - 1) → 0 ≤ w9 ∧ w9 ≤ 3 → Z X 14 [.ref (a 0), vI z] [vI w9, .ref (a 0)] h 0 0 := by
    intro w9 hw1 hw2 hw3
    refine v_X7_94 C rfl dX7_accountAnew_14 R.1 (c_X7_refused htr R I (by omega)) (by decide) (Nat.le_of_ble_eq_true rfl) (by rw [hR]; exact Nat.le_refl _) (by rw [hR]; exact Nat.le_refl _) (fun w14 h14 q14 => ?_) (fun _ _ q => q.elim)
    obtain ⟨rfl, R⟩ := q14
    obtain ⟨m14, z14, g14, k14⟩ := mbx (¬ w9 = 0)
    rw [z14]
    refine Z.if_eq (tgt := 24) C dX7_accountAnew_17 (by decide) (by omega) (by omega) (fun c17 => ?_) (fun c17 => ?_)
    · have hw2 := hw2 (by omega)
      refine Z.aload_n C dX7_accountAnew_24 rfl ?_
      refine g_X7_23 C rfl dX7_accountAnew_25 R.1 rfl ?_
      refine Z.iload_n C dX7_accountAnew_28 rfl ?_
      refine a_7 C R z.toNat dX7_accountAnew_29 (by omega) (by omega) (fun v29 e29 => ?_)
      exact Z.iret C E dX7_accountAnew_30 (Nat.le_refl _) (Nat.le_refl _) (by first | exact mAns.no R hw1 (by omega) | exact mAns.yes R hw1 (by omega) e29)
    · refine Z.iconst C dX7_accountAnew_20 ?_
      refine Z.goto (tgt := 30) C dX7_accountAnew_21 (by decide) ?_
      exact Z.iret C E dX7_accountAnew_30 (Nat.le_refl _) (Nat.le_refl _) (by first | exact mAns.no R hw1 (by omega) | exact mAns.yes R hw1 (by omega) e29)
  refine Z.aload_n C dX7_accountAnew_0 rfl ?_
  refine Z.aload_n C dX7_accountAnew_1 rfl ?_
  refine Z.iload_n C dX7_accountAnew_2 rfl ?_
  refine v_X7_98 C rfl dX7_accountAnew_3 R.1 (c_X7_isMember htr R I (by omega)) (by decide) (Nat.le_of_ble_eq_true rfl) (by rw [hR]; exact Nat.le_refl _) (by rw [hR]; exact Nat.le_refl _) (fun w3 h3 q3 => ?_) (fun _ _ q => q.elim)
  obtain ⟨rfl, q3⟩ := q3
  replace q3 := q3.symm
  subst q3
  obtain ⟨m3, z3, g3, k3⟩ := mbx (0 ≤ z ∧ z ≤ S 2 0 - 1)
  rw [z3]
  refine Z.if_eq (tgt := 13) C dX7_accountAnew_6 (by decide) (by omega) (by omega) (fun c6 => ?_) (fun c6 => ?_)
  · refine Z.iconst C dX7_accountAnew_13 ?_
    exact J14 _ (by unfold cAcc; (repeat' split) <;> omega) (by omega) (by omega)
  · refine Z.iconst C dX7_accountAnew_9 ?_
    refine Z.goto (tgt := 14) C dX7_accountAnew_10 (by decide) ?_
    exact J14 _ (by unfold cAcc; (repeat' split) <;> omega) (by omega) (by omega)

