theorem pk_charI {x : Int} (h : 0 ≤ x ∧ x < 65536) : narrow .char (vI x) = vI x := by
  obtain ⟨q, rfl⟩ := Int.eq_ofNat_of_zero_le h.1
  have := (pk_charN (q := q) (by omega)).1
  unfold vI
  rw [show jI ((q : Nat) : Int) = nI q from jI_nat q]
  exact this
set_option maxRecDepth 100000 in
theorem c_X7_member {ln : Launch} (htr : ln.stackTraces = false) {G : zG} {a : Nat → Nat} {t : Int} {S : Nat → Nat → Int} {h : zH} (R : MR G a t S h) (I : MB S) {w z : Int} (hw : -2147483648 ≤ w ∧ w < 2147483648) (hz : -2147483648 ≤ z ∧ z < 2147483648)  : CT ln G yX7_member cX7_member 3 (some .int) 3 (.ref (a 0) :: [vI w, vI z]) h 0 0 (mAns G a S (cMem S w z) (vMem S w.toNat z) (S)) zNo := by
  refine CT.intro htr (by decide) rfl (Nat.le_of_ble_eq_true rfl) ?_
  intro X hln hG hR hN C E
  subst hln
  subst hG
  have b1 : 0 ≤ S 1 0 ∧ S 1 0 ≤ 2000 := I 1 0 (by decide)
  have b2 : 0 ≤ S 2 0 ∧ S 2 0 ≤ 10 := I 2 0 (by decide)
  have b10 : 0 ≤ S 10 0 ∧ S 10 0 ≤ 20 := I 10 0 (by decide)
  have b14 : 0 ≤ S 14 0 ∧ S 14 0 ≤ 300 := I 14 0 (by decide)
  have b15 : 0 ≤ S 15 0 ∧ S 15 0 ≤ 30 := I 15 0 (by decide)
  have J27 : ∀ w9 : Int, w9 = cMem S w z → (w9 = 0 → (0 ≤ w ∧ w ≤ S 2 0 - 1) ∧ 0 ≤ z ∧ z ≤ 4) → 0 ≤ w9 ∧ w9 ≤ 3 → Z X 27 [.ref (a 0), vI w, vI z] [vI w9, .ref (a 0)] h 0 0 := by
    intro w9 hw1 hw2 hw3
    refine v_X7_94 C rfl dX7_member_27 R.1 (c_X7_refused htr R I (by omega)) (by decide) (Nat.le_of_ble_eq_true rfl) (by rw [hR]; exact Nat.le_refl _) (by rw [hR]; exact Nat.le_refl _) (fun w27 h27 q27 => ?_) (fun _ _ q => q.elim)
    obtain ⟨rfl, R⟩ := q27
    obtain ⟨m27, z27, g27, k27⟩ := mbx (¬ w9 = 0)
    rw [z27]
    refine Z.if_eq (tgt := 35) C dX7_member_30 (by decide) (by omega) (by omega) (fun c30 => ?_) (fun c30 => ?_)
    · have hw2 := hw2 (by omega)
      refine Z.iload_n C dX7_member_35 rfl ?_
      rcases (show z = 0 ∨ z = 1 ∨ z = 2 ∨ z = 3 ∨ z = 4 by omega) with rfl | rfl | rfl | rfl | rfl
      · refine Z.tblIn (tgt := 68) C dX7_member_36 (by decide) (by decide) (by decide) (by decide) rfl (by decide) ?_
        refine Z.aload_n C dX7_member_68 rfl ?_
        refine g_X7_7 C rfl dX7_member_69 R.1 rfl ?_
        refine Z.iload_n C dX7_member_72 rfl ?_
        refine a_3 C R I w.toNat dX7_member_73 (by omega) (by omega) (fun v73 e73 b73 => ?_)
        refine Z.if_eq (tgt := 81) C dX7_member_74 (by decide) (by omega) (by omega) (fun c74 => ?_) (fun c74 => ?_)
        · refine Z.iconst C dX7_member_81 ?_
          exact Z.iret C E dX7_member_82 (Nat.le_refl _) (Nat.le_refl _) (mAns.yes R hw1 (by omega) (by unfold vMem; (repeat' split) <;> omega))
        · refine Z.iconst C dX7_member_77 ?_
          refine Z.goto (tgt := 82) C dX7_member_78 (by decide) ?_
          exact Z.iret C E dX7_member_82 (Nat.le_refl _) (Nat.le_refl _) (mAns.yes R hw1 (by omega) (by unfold vMem; (repeat' split) <;> omega))
      · refine Z.tblIn (tgt := 83) C dX7_member_36 (by decide) (by decide) (by decide) (by decide) rfl (by decide) ?_
        refine Z.aload_n C dX7_member_83 rfl ?_
        refine g_X7_7 C rfl dX7_member_84 R.1 rfl ?_
        refine Z.iload_n C dX7_member_87 rfl ?_
        refine a_3 C R I w.toNat dX7_member_88 (by omega) (by omega) (fun v88 e88 b88 => ?_)
        refine Z.if_eq (tgt := 101) C dX7_member_89 (by decide) (by omega) (by omega) (fun c89 => ?_) (fun c89 => ?_)
        · refine Z.iconst C dX7_member_101 ?_
          exact Z.iret C E dX7_member_102 (Nat.le_refl _) (Nat.le_refl _) (mAns.yes R hw1 (by omega) (by unfold vMem; (repeat' split) <;> omega))
        · refine Z.aload_n C dX7_member_92 rfl ?_
          refine g_X7_17 C rfl dX7_member_93 R.1 rfl ?_
          refine Z.iload_n C dX7_member_96 rfl ?_
          refine a_5 C R I w.toNat dX7_member_97 (by omega) (by omega) (fun v97 e97 b97 => ?_)
          refine Z.goto (tgt := 102) C dX7_member_98 (by decide) ?_
          exact Z.iret C E dX7_member_102 (Nat.le_refl _) (Nat.le_refl _) (mAns.yes R hw1 (by omega) (by unfold vMem; (repeat' split) <;> omega))
      · refine Z.tblIn (tgt := 103) C dX7_member_36 (by decide) (by decide) (by decide) (by decide) rfl (by decide) ?_
        rw [show (w : Int) = ((w.toNat : Nat) : Int) by omega]
        refine Z.aload_n C dX7_member_103 rfl ?_
        refine Z.iload_n C dX7_member_104 rfl ?_
        refine v_X7_112 C rfl dX7_member_105 R.1 (c_X7_used htr R I (o := w.toNat) (by omega)) (by decide) (Nat.le_of_ble_eq_true rfl) (by rw [hR]; exact Nat.le_refl _) (by rw [hR]; exact Nat.le_refl _) (fun w105 h105 q105 => ?_) (fun _ _ q => q.elim)
        obtain ⟨rfl, q105⟩ := q105
        replace q105 := q105.symm
        subst q105
        exact Z.iret C E dX7_member_108 (Nat.le_refl _) (Nat.le_refl _) (mAns.yes R hw1 (by omega) (by unfold vMem; simp))
      · refine Z.tblIn (tgt := 109) C dX7_member_36 (by decide) (by decide) (by decide) (by decide) rfl (by decide) ?_
        refine Z.aload_n C dX7_member_109 rfl ?_
        refine g_X7_23 C rfl dX7_member_110 R.1 rfl ?_
        refine Z.iload_n C dX7_member_113 rfl ?_
        refine a_7 C R w.toNat dX7_member_114 (by omega) (by omega) (fun v114 e114 => ?_)
        exact Z.iret C E dX7_member_115 (Nat.le_refl _) (Nat.le_refl _) (mAns.yes R hw1 (by omega) (by unfold vMem; (repeat' split) <;> omega))
      · refine Z.tblOut (tgt := 116) C dX7_member_36 (by decide) (by decide) (by decide) (by decide) ?_
        refine Z.aload_n C dX7_member_116 rfl ?_
        refine g_X7_26 C rfl dX7_member_117 R.1 rfl ?_
        refine Z.iload_n C dX7_member_120 rfl ?_
        refine a_8 C R I w.toNat dX7_member_121 (by omega) (by omega) (fun v121 e121 b121 => ?_)
        exact Z.iret C E dX7_member_122 (Nat.le_refl _) (Nat.le_refl _) (mAns.yes R hw1 (by omega) (by unfold vMem; (repeat' split) <;> omega))
    · refine Z.iconst C dX7_member_33 ?_
      exact Z.iret C E dX7_member_34 (Nat.le_refl _) (Nat.le_refl _) (mAns.no R hw1 (by omega))
  refine Z.aload_n C dX7_member_0 rfl ?_
  refine Z.aload_n C dX7_member_1 rfl ?_
  refine Z.iload_n C dX7_member_2 rfl ?_
  refine v_X7_98 C rfl dX7_member_3 R.1 (c_X7_isMember htr R I (by omega)) (by decide) (Nat.le_of_ble_eq_true rfl) (by rw [hR]; exact Nat.le_refl _) (by rw [hR]; exact Nat.le_refl _) (fun w3 h3 q3 => ?_) (fun _ _ q => q.elim)
  obtain ⟨rfl, q3⟩ := q3
  replace q3 := q3.symm
  subst q3
  obtain ⟨m3, z3, g3, k3⟩ := mbx (0 ≤ w ∧ w ≤ S 2 0 - 1)
  rw [z3]
  refine Z.if_ne (tgt := 13) C dX7_member_6 (by decide) (by omega) (by omega) (fun c6 => ?_) (fun c6 => ?_)
  · refine Z.iload_n C dX7_member_13 rfl ?_
    refine Z.iconst C dX7_member_14 ?_
    refine Z.iconst C dX7_member_15 ?_
    refine s_X7_69 C rfl dX7_member_16 (c_X7_in htr (by omega) (by omega) (by omega)) (by decide) (Nat.le_of_ble_eq_true rfl) (by rw [hR]; exact Nat.le_refl _) (by rw [hR]; exact Nat.le_refl _) (fun w16 h16 q16 => ?_) (fun _ _ q => q.elim)
    obtain ⟨rfl, q16⟩ := q16
    replace q16 := q16.symm
    subst q16
    obtain ⟨m16, z16, g16, k16⟩ := mbx (0 ≤ z ∧ z ≤ 4)
    rw [z16]
    refine Z.if_ne (tgt := 26) C dX7_member_19 (by decide) (by omega) (by omega) (fun c19 => ?_) (fun c19 => ?_)
    · refine Z.iconst C dX7_member_26 ?_
      exact J27 _ (by unfold cMem; (repeat' split) <;> omega) (by omega) (by omega)
    · refine Z.iconst C dX7_member_22 ?_
      refine Z.goto (tgt := 27) C dX7_member_23 (by decide) ?_
      exact J27 _ (by unfold cMem; (repeat' split) <;> omega) (by omega) (by omega)
  · refine Z.iconst C dX7_member_9 ?_
    refine Z.goto (tgt := 27) C dX7_member_10 (by decide) ?_
    exact J27 _ (by unfold cMem; (repeat' split) <;> omega) (by omega) (by omega)

set_option maxRecDepth 100000 in
theorem c_X7_proposal {ln : Launch} (htr : ln.stackTraces = false) {G : zG} {a : Nat → Nat} {t : Int} {S : Nat → Nat → Int} {h : zH} (R : MR G a t S h) (I : MB S) {w z : Int} (hw : -2147483648 ≤ w ∧ w < 2147483648) (hz : -2147483648 ≤ z ∧ z < 2147483648)  : CT ln G yX7_proposal cX7_proposal 3 (some .int) 4 (.ref (a 0) :: [vI w, vI z]) h 0 0 (mAns G a S (cPpl S w z) (vPpl S w.toNat z) (S)) zNo := by
  refine CT.intro htr (by decide) rfl (Nat.le_of_ble_eq_true rfl) ?_
  intro X hln hG hR hN C E
  subst hln
  subst hG
  have b1 : 0 ≤ S 1 0 ∧ S 1 0 ≤ 2000 := I 1 0 (by decide)
  have b2 : 0 ≤ S 2 0 ∧ S 2 0 ≤ 10 := I 2 0 (by decide)
  have b10 : 0 ≤ S 10 0 ∧ S 10 0 ≤ 20 := I 10 0 (by decide)
  have b14 : 0 ≤ S 14 0 ∧ S 14 0 ≤ 300 := I 14 0 (by decide)
  have b15 : 0 ≤ S 15 0 ∧ S 15 0 ≤ 30 := I 15 0 (by decide)
  have J27 : ∀ w9 : Int, w9 = cPpl S w z → (w9 = 0 → (0 ≤ w ∧ w ≤ S 15 0 - 1) ∧ 0 ≤ z ∧ z ≤ 4) → 0 ≤ w9 ∧ w9 ≤ 3 → Z X 27 [.ref (a 0), vI w, vI z] [vI w9, .ref (a 0)] h 0 0 := by
    intro w9 hw1 hw2 hw3
    refine v_X7_94 C rfl dX7_proposal_27 R.1 (c_X7_refused htr R I (by omega)) (by decide) (Nat.le_of_ble_eq_true rfl) (by rw [hR]; exact Nat.le_refl _) (by rw [hR]; exact Nat.le_refl _) (fun w27 h27 q27 => ?_) (fun _ _ q => q.elim)
    obtain ⟨rfl, R⟩ := q27
    obtain ⟨m27, z27, g27, k27⟩ := mbx (¬ w9 = 0)
    rw [z27]
    refine Z.if_eq (tgt := 35) C dX7_proposal_30 (by decide) (by omega) (by omega) (fun c30 => ?_) (fun c30 => ?_)
    · have hw2 := hw2 (by omega)
      refine Z.iload_n C dX7_proposal_35 rfl ?_
      rcases (show z = 0 ∨ z = 1 ∨ z = 2 ∨ z = 3 ∨ z = 4 by omega) with rfl | rfl | rfl | rfl | rfl
      · refine Z.tblIn (tgt := 68) C dX7_proposal_36 (by decide) (by decide) (by decide) (by decide) rfl (by decide) ?_
        refine Z.aload_n C dX7_proposal_68 rfl ?_
        refine g_X7_41 C rfl dX7_proposal_69 R.1 rfl ?_
        refine Z.iload_n C dX7_proposal_72 rfl ?_
        refine a_16 C R I w.toNat dX7_proposal_73 (by omega) (by omega) (fun v73 e73 b73 => ?_)
        exact Z.iret C E dX7_proposal_74 (Nat.le_refl _) (Nat.le_refl _) (mAns.yes R hw1 (by omega) (by unfold vPpl; (repeat' split) <;> omega))
      · refine Z.tblIn (tgt := 75) C dX7_proposal_36 (by decide) (by decide) (by decide) (by decide) rfl (by decide) ?_
        refine Z.aload_n C dX7_proposal_75 rfl ?_
        refine g_X7_44 C rfl dX7_proposal_76 R.1 rfl ?_
        refine Z.iload_n C dX7_proposal_79 rfl ?_
        refine a_17 C R I w.toNat dX7_proposal_80 (by omega) (by omega) (fun v80 e80 b80 => ?_)
        exact Z.iret C E dX7_proposal_81 (Nat.le_refl _) (Nat.le_refl _) (mAns.yes R hw1 (by omega) (by unfold vPpl; (repeat' split) <;> omega))
      · refine Z.tblIn (tgt := 82) C dX7_proposal_36 (by decide) (by decide) (by decide) (by decide) rfl (by decide) ?_
        refine Z.aload_n C dX7_proposal_82 rfl ?_
        refine g_X7_47 C rfl dX7_proposal_83 R.1 rfl ?_
        refine Z.iload_n C dX7_proposal_86 rfl ?_
        refine a_18 C R I w.toNat dX7_proposal_87 (by omega) (by omega) (fun v87 e87 b87 => ?_)
        exact Z.iret C E dX7_proposal_88 (Nat.le_refl _) (Nat.le_refl _) (mAns.yes R hw1 (by omega) (by unfold vPpl; (repeat' split) <;> omega))
      · refine Z.tblIn (tgt := 89) C dX7_proposal_36 (by decide) (by decide) (by decide) (by decide) rfl (by decide) ?_
        refine Z.aload_n C dX7_proposal_89 rfl ?_
        refine g_X7_41 C rfl dX7_proposal_90 R.1 rfl ?_
        refine Z.iload_n C dX7_proposal_93 rfl ?_
        refine a_16 C R I w.toNat dX7_proposal_94 (by omega) (by omega) (fun v94 e94 b94 => ?_)
        refine Z.if_ne (tgt := 107) C dX7_proposal_95 (by decide) (by omega) (by omega) (fun c95 => ?_) (fun c95 => ?_)
        · refine Z.aload_n C dX7_proposal_107 rfl ?_
          refine g_X7_56 C rfl dX7_proposal_108 R.1 rfl ?_
          refine Z.iload_n C dX7_proposal_111 rfl ?_
          refine a_21 C R I w.toNat dX7_proposal_112 (by omega) (by omega) (fun v112 e112 b112 => ?_)
          exact Z.iret C E dX7_proposal_113 (Nat.le_refl _) (Nat.le_refl _) (mAns.yes R hw1 (by omega) (by unfold vPpl; (repeat' split) <;> omega))
        · rw [show (w : Int) = ((w.toNat : Nat) : Int) by omega]
          refine Z.aload_n C dX7_proposal_98 rfl ?_
          refine Z.iload_n C dX7_proposal_99 rfl ?_
          refine Z.iconst C dX7_proposal_100 ?_
          refine v_X7_86 C rfl dX7_proposal_101 R.1 (c_X7_voted htr R I (p := w.toNat) (by omega) (by decide)) (by decide) (Nat.le_of_ble_eq_true rfl) (by rw [hR]; exact Nat.le_refl _) (by rw [hR]; exact Nat.le_refl _) (fun w101 h101 q101 => ?_) (fun _ _ q => q.elim)
          obtain ⟨rfl, q101⟩ := q101
          replace q101 := q101.symm
          subst q101
          refine Z.goto (tgt := 113) C dX7_proposal_104 (by decide) ?_
          exact Z.iret C E dX7_proposal_113 (Nat.le_refl _) (Nat.le_refl _) (mAns.yes R hw1 (by omega) (by unfold vPpl; (repeat' split) <;> omega))
          
      · refine Z.tblOut (tgt := 114) C dX7_proposal_36 (by decide) (by decide) (by decide) (by decide) ?_
        refine Z.aload_n C dX7_proposal_114 rfl ?_
        refine g_X7_41 C rfl dX7_proposal_115 R.1 rfl ?_
        refine Z.iload_n C dX7_proposal_118 rfl ?_
        refine a_16 C R I w.toNat dX7_proposal_119 (by omega) (by omega) (fun v119 e119 b119 => ?_)
        refine Z.if_ne (tgt := 132) C dX7_proposal_120 (by decide) (by omega) (by omega) (fun c120 => ?_) (fun c120 => ?_)
        · refine Z.aload_n C dX7_proposal_132 rfl ?_
          refine g_X7_59 C rfl dX7_proposal_133 R.1 rfl ?_
          refine Z.iload_n C dX7_proposal_136 rfl ?_
          refine a_22 C R I w.toNat dX7_proposal_137 (by omega) (by omega) (fun v137 e137 b137 => ?_)
          exact Z.iret C E dX7_proposal_138 (Nat.le_refl _) (Nat.le_refl _) (mAns.yes R hw1 (by omega) (by unfold vPpl; (repeat' split) <;> omega))
        · rw [show (w : Int) = ((w.toNat : Nat) : Int) by omega]
          refine Z.aload_n C dX7_proposal_123 rfl ?_
          refine Z.iload_n C dX7_proposal_124 rfl ?_
          refine Z.iconst C dX7_proposal_125 ?_
          refine v_X7_86 C rfl dX7_proposal_126 R.1 (c_X7_voted htr R I (p := w.toNat) (by omega) (by decide)) (by decide) (Nat.le_of_ble_eq_true rfl) (by rw [hR]; exact Nat.le_refl _) (by rw [hR]; exact Nat.le_refl _) (fun w126 h126 q126 => ?_) (fun _ _ q => q.elim)
          obtain ⟨rfl, q126⟩ := q126
          replace q126 := q126.symm
          subst q126
          refine Z.goto (tgt := 138) C dX7_proposal_129 (by decide) ?_
          exact Z.iret C E dX7_proposal_138 (Nat.le_refl _) (Nat.le_refl _) (mAns.yes R hw1 (by omega) (by unfold vPpl; (repeat' split) <;> omega))
          
    · refine Z.iconst C dX7_proposal_33 ?_
      exact Z.iret C E dX7_proposal_34 (Nat.le_refl _) (Nat.le_refl _) (mAns.no R hw1 (by omega))
  refine Z.aload_n C dX7_proposal_0 rfl ?_
  refine Z.aload_n C dX7_proposal_1 rfl ?_
  refine Z.iload_n C dX7_proposal_2 rfl ?_
  refine v_X7_141 C rfl dX7_proposal_3 R.1 (c_X7_isProposal htr R I (by omega)) (by decide) (Nat.le_of_ble_eq_true rfl) (by rw [hR]; exact Nat.le_refl _) (by rw [hR]; exact Nat.le_refl _) (fun w3 h3 q3 => ?_) (fun _ _ q => q.elim)
  obtain ⟨rfl, q3⟩ := q3
  replace q3 := q3.symm
  subst q3
  obtain ⟨m3, z3, g3, k3⟩ := mbx (0 ≤ w ∧ w ≤ S 15 0 - 1)
  rw [z3]
  refine Z.if_ne (tgt := 13) C dX7_proposal_6 (by decide) (by omega) (by omega) (fun c6 => ?_) (fun c6 => ?_)
  · refine Z.iload_n C dX7_proposal_13 rfl ?_
    refine Z.iconst C dX7_proposal_14 ?_
    refine Z.iconst C dX7_proposal_15 ?_
    refine s_X7_69 C rfl dX7_proposal_16 (c_X7_in htr (by omega) (by omega) (by omega)) (by decide) (Nat.le_of_ble_eq_true rfl) (by rw [hR]; exact Nat.le_refl _) (by rw [hR]; exact Nat.le_refl _) (fun w16 h16 q16 => ?_) (fun _ _ q => q.elim)
    obtain ⟨rfl, q16⟩ := q16
    replace q16 := q16.symm
    subst q16
    obtain ⟨m16, z16, g16, k16⟩ := mbx (0 ≤ z ∧ z ≤ 4)
    rw [z16]
    refine Z.if_ne (tgt := 26) C dX7_proposal_19 (by decide) (by omega) (by omega) (fun c19 => ?_) (fun c19 => ?_)
    · refine Z.iconst C dX7_proposal_26 ?_
      exact J27 _ (by unfold cPpl; (repeat' split) <;> omega) (by omega) (by omega)
    · refine Z.iconst C dX7_proposal_22 ?_
      refine Z.goto (tgt := 27) C dX7_proposal_23 (by decide) ?_
      exact J27 _ (by unfold cPpl; (repeat' split) <;> omega) (by omega) (by omega)
  · refine Z.iconst C dX7_proposal_9 ?_
    refine Z.goto (tgt := 27) C dX7_proposal_10 (by decide) ?_
    exact J27 _ (by unfold cPpl; (repeat' split) <;> omega) (by omega) (by omega)

set_option maxRecDepth 100000 in
theorem c_X7_told {ln : Launch} (htr : ln.stackTraces = false) {G : zG} {a : Nat → Nat} {t : Int} {S : Nat → Nat → Int} {h : zH} (R : MR G a t S h) (I : MB S) {w : Int} (hw : -2147483648 ≤ w ∧ w < 2147483648)  : CT ln G yX7_told cX7_told 5 (some .char) 2 (.ref (a 0) :: [vI w]) h 0 0 (mAns G a S (cTold w) (mtold S w) (S)) zNo := by
  refine CT.intro htr (by decide) rfl (Nat.le_of_ble_eq_true rfl) ?_
  intro X hln hG hR hN C E
  subst hln
  subst hG
  have b1 : 0 ≤ S 1 0 ∧ S 1 0 ≤ 2000 := I 1 0 (by decide)
  have b2 : 0 ≤ S 2 0 ∧ S 2 0 ≤ 10 := I 2 0 (by decide)
  have b10 : 0 ≤ S 10 0 ∧ S 10 0 ≤ 20 := I 10 0 (by decide)
  have b14 : 0 ≤ S 14 0 ∧ S 14 0 ≤ 300 := I 14 0 (by decide)
  have b15 : 0 ≤ S 15 0 ∧ S 15 0 ≤ 30 := I 15 0 (by decide)
  have hM : mM S = (S 2 0).toNat := rfl
  have hF : mF S = (S 10 0).toNat := rfl
  have J10 : ∀ w9 : Int, w9 = cTold w → (w9 = 0 → 0 ≤ w) → 0 ≤ w9 ∧ w9 ≤ 3 → Z X 10 [.ref (a 0), vI w] [vI w9, .ref (a 0)] h 0 0 := by
    intro w9 hw1 hw2 hw3
    refine v_X7_94 C rfl dX7_told_10 R.1 (c_X7_refused htr R I (by omega)) (by decide) (Nat.le_of_ble_eq_true rfl) (by rw [hR]; exact Nat.le_refl _) (by rw [hR]; exact Nat.le_refl _) (fun w10 h10 q10 => ?_) (fun _ _ q => q.elim)
    obtain ⟨rfl, R⟩ := q10
    obtain ⟨m10, z10, g10, k10⟩ := mbx (¬ w9 = 0)
    rw [z10]
    refine Z.if_eq (tgt := 18) C dX7_told_13 (by decide) (by omega) (by omega) (fun c13 => ?_) (fun c13 => ?_)
    · have hw2 := hw2 (by omega)
      refine Z.iload_n C dX7_told_18 rfl ?_
      refine Z.istore_n (l' := [_, _, _]) C dX7_told_19 (Nat.le_of_ble_eq_true rfl) (by rw [hN]; decide) rfl ?_
      refine Z.iconst C dX7_told_20 ?_
      refine Z.istore_n (l' := [_, _, _, _]) C dX7_told_21 (Nat.le_of_ble_eq_true rfl) (by rw [hN]; decide) rfl ?_
      have L : ∀ (q i : Nat), i + q = mM S → 0 ≤ mtM S w i → Z X 22 [.ref (a 0), vI w, vI (mtM S w i), vI (i : Int)] [] h10 0 0 := by
        intro q
        induction q with
        | zero =>
          intro i hi hp
          have hl := mtM_le S I w (by omega) i (by omega)
          have hfi := mfigs_b (i : Int)
          refine Z.iload_n C dX7_told_22 rfl ?_
          refine Z.aload_n C dX7_told_23 rfl ?_
          refine g_X7_66 (v := vI (S 2 0)) C rfl dX7_told_24 R.1 rfl ?_
          refine Z.icmp_ge (tgt := 163) C dX7_told_27 (by decide) (by omega) (by omega) (by omega) (by omega) (fun c27 => ?_) (fun c27 => ?_)
          · refine Z.iconst C dX7_told_163 ?_
            exact Z.zret C E dX7_told_164 (by decide) (Nat.le_refl _) (Nat.le_refl _) (mAns.yes R hw1 (by omega) (mtold_0 (by rw [← show i = mM S by omega]; exact hp)).symm)
          · exfalso; omega
        | succ q ih =>
          intro i hi hp
          have hl := mtM_le S I w (by omega) i (by omega)
          have hfi := mfigs_b (i : Int)
          refine Z.iload_n C dX7_told_22 rfl ?_
          refine Z.aload_n C dX7_told_23 rfl ?_
          refine g_X7_66 (v := vI (S 2 0)) C rfl dX7_told_24 R.1 rfl ?_
          refine Z.icmp_ge (tgt := 163) C dX7_told_27 (by decide) (by omega) (by omega) (by omega) (by omega) (fun c27 => ?_) (fun c27 => ?_)
          · exfalso; omega
          · refine Z.aload_n C dX7_told_30 rfl ?_
            refine g_X7_7 C rfl dX7_told_31 R.1 rfl ?_
            refine Z.iload_n C dX7_told_34 rfl ?_
            refine a_3 C R I _ dX7_told_35 rfl (by omega) (fun v35 e35 b35 => ?_)
            refine Z.if_eq (tgt := 157) C dX7_told_36 (by decide) (by omega) (by omega) (fun c36 => ?_) (fun c36 => ?_)
            · refine Z.iinc (l' := [_, _, _, _]) C dX7_told_157 rfl (Nat.le_of_ble_eq_true rfl) (by rw [hN]; decide) rfl ?_
              refine Z.goto (tgt := 22) C dX7_told_160 (by decide) ?_
              refine Z.pre (l' := [_, _, _, _]) 4 rfl ?_
              exact Z.cv (ih (i + 1) (by omega) (by rw [mtM]; first | (rw [if_neg (by omega), if_pos (by omega)]; exact hp) | (rw [if_neg (by omega), if_neg (by omega), if_neg (by omega), mtE, ← show j = mF S by omega, if_neg (by omega), if_neg (by omega)]; omega))) (by rw [mtM]; first | (rw [if_neg (by omega), if_pos (by omega)]; rfl) | (rw [if_neg (by omega), if_neg (by omega), if_neg (by omega), mtE, ← show j = mF S by omega, if_neg (by omega), if_neg (by omega)]; rfl))
            · refine Z.iload_n C dX7_told_39 rfl ?_
              refine Z.iload_n C dX7_told_40 rfl ?_
              refine s_X7_147 C rfl dX7_told_41 (c_X7_figures htr (by omega)) (by decide) (Nat.le_of_ble_eq_true rfl) (by rw [hR]; exact Nat.le_refl _) (by rw [hR]; exact Nat.le_refl _) (fun w41 h41 q41 => ?_) (fun _ _ q => q.elim)
              obtain ⟨rfl, q41⟩ := q41
              replace q41 := q41.symm
              subst q41
              refine Z.icmp_ge (tgt := 54) C dX7_told_44 (by decide) (by omega) (by omega) (by omega) (by omega) (fun c44 => ?_) (fun c44 => ?_)
              · refine Z.iload_n C dX7_told_54 rfl ?_
                refine Z.iload_n C dX7_told_55 rfl ?_
                refine s_X7_147 C rfl dX7_told_56 (c_X7_figures htr (by omega)) (by decide) (Nat.le_of_ble_eq_true rfl) (by rw [hR]; exact Nat.le_refl _) (by rw [hR]; exact Nat.le_refl _) (fun w56 h56 q56 => ?_) (fun _ _ q => q.elim)
                obtain ⟨rfl, q56⟩ := q56
                replace q56 := q56.symm
                subst q56
                refine Z.isub C dX7_told_59 ?_
                refine Z.istore_n (l' := [_, _, _, _]) C dX7_told_60 (Nat.le_of_ble_eq_true rfl) (by rw [hN]; decide) rfl ?_
                refine Z.iconst C dX7_told_61 ?_
                refine Z.istore (l' := [_, _, _, _, _]) C dX7_told_62 (Nat.le_of_ble_eq_true rfl) (by rw [hN]; decide) rfl ?_
                have L2 : ∀ (q j : Nat), j + q = mF S → 0 ≤ mtF S i (mtM S w i - mfigs i) j → Z X 64 [.ref (a 0), vI w, vI (mtF S i (mtM S w i - mfigs i) j), vI (i : Int), vI (j : Int)] [] h10 0 0 := by
                  intro q
                  induction q with
                  | zero =>
                    intro j hj hp2
                    have hl2 := mtF_le S I i (mtM S w i - mfigs i) (by omega) j
                    refine Z.iload C dX7_told_64 rfl ?_
                    refine Z.aload_n C dX7_told_66 rfl ?_
                    refine g_X7_73 (v := vI (S 10 0)) C rfl dX7_told_67 R.1 rfl ?_
                    refine Z.icmp_ge (tgt := 147) C dX7_told_70 (by decide) (by omega) (by omega) (by omega) (by omega) (fun c70 => ?_) (fun c70 => ?_)
                    · refine Z.iload_n C dX7_told_147 rfl ?_
                      refine Z.if_ne (tgt := 154) C dX7_told_148 (by decide) (by omega) (by omega) (fun c148 => ?_) (fun c148 => ?_)
                      · refine Z.iinc (l' := [_, _, _, _, _]) C dX7_told_154 rfl (Nat.le_of_ble_eq_true rfl) (by rw [hN]; decide) rfl ?_
                        refine Z.iinc (l' := [_, _, _, _, _]) C dX7_told_157 rfl (Nat.le_of_ble_eq_true rfl) (by rw [hN]; decide) rfl ?_
                        refine Z.goto (tgt := 22) C dX7_told_160 (by decide) ?_
                        refine Z.pre (l' := [_, _, _, _]) 4 rfl ?_
                        exact Z.cv (ih (i + 1) (by omega) (by rw [mtM]; first | (rw [if_neg (by omega), if_pos (by omega)]; exact hp) | (rw [if_neg (by omega), if_neg (by omega), if_neg (by omega), mtE, ← show j = mF S by omega, if_neg (by omega), if_neg (by omega)]; omega))) (by rw [mtM]; first | (rw [if_neg (by omega), if_pos (by omega)]; rfl) | (rw [if_neg (by omega), if_neg (by omega), if_neg (by omega), mtE, ← show j = mF S by omega, if_neg (by omega), if_neg (by omega)]; rfl))
                      · refine Z.bipush C dX7_told_151 (by decide) ?_
                        exact Z.zret C E dX7_told_153 (by decide) (Nat.le_refl _) (Nat.le_refl _) (mAns.yes R hw1 (by omega) (mtold_of (i := i + 1) (by omega) (by rw [mtM, if_neg (by omega), if_neg (by omega), if_neg (by omega), mtE, ← show j = mF S by omega, if_neg (by omega), if_pos (by omega)]; rfl) (by omega)).symm)
                    · exfalso; omega
                  | succ q ih2 =>
                    intro j hj hp2
                    have hl2 := mtF_le S I i (mtM S w i - mfigs i) (by omega) j
                    refine Z.iload C dX7_told_64 rfl ?_
                    refine Z.aload_n C dX7_told_66 rfl ?_
                    refine g_X7_73 (v := vI (S 10 0)) C rfl dX7_told_67 R.1 rfl ?_
                    refine Z.icmp_ge (tgt := 147) C dX7_told_70 (by decide) (by omega) (by omega) (by omega) (by omega) (fun c70 => ?_) (fun c70 => ?_)
                    · exfalso; omega
                    · refine Z.aload_n C dX7_told_73 rfl ?_
                      refine g_X7_38 C rfl dX7_told_74 R.1 rfl ?_
                      refine Z.bipush C dX7_told_77 (by decide) ?_
                      refine Z.iload_n C dX7_told_79 rfl ?_
                      refine Z.imul C dX7_told_80 ?_
                      refine Z.iload C dX7_told_81 rfl ?_
                      refine Z.iadd C dX7_told_83 ?_
                      refine a_13 C R I (20 * i + j) dX7_told_84 (by omega) (by omega) (fun v84 e84 b84 => ?_)
                      refine Z.if_eq (tgt := 141) C dX7_told_85 (by decide) (by omega) (by omega) (fun c85 => ?_) (fun c85 => ?_)
                      · refine Z.iinc (l' := [_, _, _, _, _]) C dX7_told_141 rfl (Nat.le_of_ble_eq_true rfl) (by rw [hN]; decide) rfl ?_
                        refine Z.goto (tgt := 64) C dX7_told_144 (by decide) ?_
                        exact Z.cv (ih2 (j + 1) (by omega) (by rw [mtF]; first | (rw [if_neg (by omega), if_pos (by omega)]; exact hp2) | (rw [if_neg (by omega), if_neg (by omega), if_neg (by omega)]; omega))) (by rw [mtF]; first | (rw [if_neg (by omega), if_pos (by omega)]; rfl) | (rw [if_neg (by omega), if_neg (by omega), if_neg (by omega)]; rfl))
                      · refine Z.iload_n C dX7_told_88 rfl ?_
                        refine Z.aload_n C dX7_told_89 rfl ?_
                        refine g_X7_32 C rfl dX7_told_90 R.1 rfl ?_
                        refine Z.iload C dX7_told_93 rfl ?_
                        refine a_11 C R I _ dX7_told_95 rfl (by omega) (fun v95 e95 b95 => ?_)
                        subst e95
                        refine s_X7_147 C rfl dX7_told_96 (c_X7_figures htr (by omega)) (by decide) (Nat.le_of_ble_eq_true rfl) (by rw [hR]; exact Nat.le_refl _) (by rw [hR]; exact Nat.le_refl _) (fun w96 h96 q96 => ?_) (fun _ _ q => q.elim)
                        obtain ⟨rfl, q96⟩ := q96
                        replace q96 := q96.symm
                        subst q96
                        have hfj := mfigs_b (S 11 j)
                        refine Z.icmp_gt (tgt := 126) C dX7_told_99 (by decide) (by omega) (by omega) (by omega) (by omega) (fun c99 => ?_) (fun c99 => ?_)
                        · refine Z.iload_n C dX7_told_126 rfl ?_
                          refine Z.iconst C dX7_told_127 ?_
                          refine Z.aload_n C dX7_told_128 rfl ?_
                          refine g_X7_32 C rfl dX7_told_129 R.1 rfl ?_
                          refine Z.iload C dX7_told_132 rfl ?_
                          refine a_11 C R I _ dX7_told_134 rfl (by omega) (fun v134 e134 b134 => ?_)
                          subst e134
                          refine s_X7_147 C rfl dX7_told_135 (c_X7_figures htr (by omega)) (by decide) (Nat.le_of_ble_eq_true rfl) (by rw [hR]; exact Nat.le_refl _) (by rw [hR]; exact Nat.le_refl _) (fun w135 h135 q135 => ?_) (fun _ _ q => q.elim)
                          obtain ⟨rfl, q135⟩ := q135
                          replace q135 := q135.symm
                          subst q135
                          refine Z.iadd C dX7_told_138 ?_
                          refine Z.isub C dX7_told_139 ?_
                          refine Z.istore_n (l' := [_, _, _, _, _]) C dX7_told_140 (Nat.le_of_ble_eq_true rfl) (by rw [hN]; decide) rfl ?_
                          refine Z.iinc (l' := [_, _, _, _, _]) C dX7_told_141 rfl (Nat.le_of_ble_eq_true rfl) (by rw [hN]; decide) rfl ?_
                          refine Z.goto (tgt := 64) C dX7_told_144 (by decide) ?_
                          exact Z.cv (ih2 (j + 1) (by omega) (by rw [mtF]; first | (rw [if_neg (by omega), if_pos (by omega)]; exact hp2) | (rw [if_neg (by omega), if_neg (by omega), if_neg (by omega)]; omega))) (by rw [mtF]; first | (rw [if_neg (by omega), if_pos (by omega)]; rfl) | (rw [if_neg (by omega), if_neg (by omega), if_neg (by omega)]; rfl))
                        · refine Z.iload_n C dX7_told_102 rfl ?_
                          refine Z.if_ne (tgt := 111) C dX7_told_103 (by decide) (by omega) (by omega) (fun c103 => ?_) (fun c103 => ?_)
                          · refine Z.aload_n C dX7_told_111 rfl ?_
                            refine g_X7_32 C rfl dX7_told_112 R.1 rfl ?_
                            refine Z.iload C dX7_told_115 rfl ?_
                            refine a_11 C R I _ dX7_told_117 rfl (by omega) (fun v117 e117 b117 => ?_)
                            subst e117
                            refine Z.iload_n C dX7_told_118 rfl ?_
                            refine Z.iconst C dX7_told_119 ?_
                            refine Z.isub C dX7_told_120 ?_
                            refine s_X7_150 C rfl dX7_told_121 (c_X7_figure htr (by omega) (by omega)) (by decide) (Nat.le_of_ble_eq_true rfl) (by rw [hR]; exact Nat.le_refl _) (by rw [hR]; exact Nat.le_refl _) (fun w121 h121 q121 => ?_) (fun _ _ q => q.elim)
                            obtain ⟨rfl, q121⟩ := q121
                            replace q121 := q121.symm
                            subst q121
                            have hfg := mfig_b (x := S 11 j) (at9 := mtF S i (mtM S w i - mfigs i) j - 1) (by omega)
                            refine Z.i2c C dX7_told_124 (by omega) (by omega) ?_
                            exact Z.zret C E dX7_told_125 (pk_charI (by omega)) (Nat.le_refl _) (Nat.le_refl _) (mAns.yes R hw1 (by omega) (mtold_f (i := i) (j := j + 1) (by omega) (by omega) hp (by omega) (by omega) (by rw [mtF, if_neg (by omega), if_neg (by omega), if_pos (by omega)]; first | rw [if_pos (by omega)] | (rw [if_neg (by omega)])) (by omega)).symm)
                          · refine Z.bipush C dX7_told_106 (by decide) ?_
                            refine Z.goto (tgt := 124) C dX7_told_108 (by decide) ?_
                            refine Z.i2c C dX7_told_124 (by omega) (by omega) ?_
                            exact Z.zret C E dX7_told_125 (pk_charI (by omega)) (Nat.le_refl _) (Nat.le_refl _) (mAns.yes R hw1 (by omega) (mtold_f (i := i) (j := j + 1) (by omega) (by omega) hp (by omega) (by omega) (by rw [mtF, if_neg (by omega), if_neg (by omega), if_pos (by omega)]; first | rw [if_pos (by omega)] | (rw [if_neg (by omega)])) (by omega)).symm)
                exact L2 _ 0 (Nat.zero_add _) (by show 0 ≤ mtM S w i - mfigs i; omega)
              · refine Z.iload_n C dX7_told_47 rfl ?_
                refine Z.iload_n C dX7_told_48 rfl ?_
                refine s_X7_150 C rfl dX7_told_49 (c_X7_figure htr (by omega) (by omega)) (by decide) (Nat.le_of_ble_eq_true rfl) (by rw [hR]; exact Nat.le_refl _) (by rw [hR]; exact Nat.le_refl _) (fun w49 h49 q49 => ?_) (fun _ _ q => q.elim)
                obtain ⟨rfl, q49⟩ := q49
                replace q49 := q49.symm
                subst q49
                have hfg := mfig_b (x := (i : Int)) (at9 := mtM S w i) (by omega)
                refine Z.i2c C dX7_told_52 (by omega) (by omega) ?_
                exact Z.zret C E dX7_told_53 (pk_charI (by omega)) (Nat.le_refl _) (Nat.le_refl _) (mAns.yes R hw1 (by omega) (mtold_of (i := i + 1) (by omega) (by rw [mtM, if_neg (by omega), if_neg (by omega), if_pos (by omega)]) (by omega)).symm)
      exact L _ 0 (Nat.zero_add _) (by show 0 ≤ w; omega)
    · refine Z.iconst C dX7_told_16 ?_
      exact Z.zret C E dX7_told_17 (by decide) (Nat.le_refl _) (Nat.le_refl _) (mAns.no R hw1 (by omega))
  refine Z.aload_n C dX7_told_0 rfl ?_
  refine Z.iload_n C dX7_told_1 rfl ?_
  refine Z.if_ge (tgt := 9) C dX7_told_2 (by decide) (by omega) (by omega) (fun c2 => ?_) (fun c2 => ?_)
  · refine Z.iconst C dX7_told_9 ?_
    exact J10 _ (by unfold cTold; (repeat' split) <;> omega) (by omega) (by omega)
  · refine Z.iconst C dX7_told_5 ?_
    refine Z.goto (tgt := 10) C dX7_told_6 (by decide) ?_
    exact J10 _ (by unfold cTold; (repeat' split) <;> omega) (by omega) (by omega)

