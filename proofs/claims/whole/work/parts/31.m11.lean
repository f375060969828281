theorem moth_nn {S : Nat → Nat → Int} (I : MB S) (o : Nat) : ∀ n : Nat, 0 ≤ moth S o n
  | 0 => by unfold moth; omega
  | n + 1 => by
    have := moth_nn I o n
    have h5 : 0 ≤ S 5 n ∧ S 5 n ≤ 20 := I 5 n (by decide)
    unfold moth
    split <;> omega

set_option maxRecDepth 100000 in
theorem c_X7_bring {ln : Launch} (htr : ln.stackTraces = false) {G : zG} {a : Nat → Nat} {t : Int} {S0 : Nat → Nat → Int} {h : zH} (R : MR G a t S0 h) (I : MB S0) {o f : Nat} (ho : o < 10) (hf : f < 20) (hD : ∀ j, S0 9 j ≤ 6000) (hall : S0 11 f ≤ moth S0 o (mM S0) + S0 5 o) : CT ln G yX7_bring cX7_bring 6 none 5 (.ref (a 0) :: [vI (o : Int), vI (f : Int)]) h 0 0 (fun r9 h9 => r9 = none ∧ MR G a t (mbring S0 o f) h9) zNo := by
  refine CT.intro htr (by decide) rfl (Nat.le_of_ble_eq_true rfl) ?_
  intro X hln hG hR hN C E
  subst hln
  subst hG
  have b5 : 0 ≤ S0 5 o ∧ S0 5 o ≤ 20 := I 5 o (by decide)
  have b11 : 0 ≤ S0 11 f ∧ S0 11 f ≤ 20 := I 11 f (by decide)
  have HB : BI (su S0 5 o (S0 5 o - (if S0 5 o < S0 11 f then S0 5 o else S0 11 f))) o (S0 11 f - (if S0 5 o < S0 11 f then S0 5 o else S0 11 f)) := by
    have hb2 : 0 ≤ (if S0 5 o < S0 11 f then S0 5 o else S0 11 f) ∧ (if S0 5 o < S0 11 f then S0 5 o else S0 11 f) ≤ S0 5 o ∧ (if S0 5 o < S0 11 f then S0 5 o else S0 11 f) ≤ S0 11 f := by split <;> omega
    have hb3 : S0 11 f - (if S0 5 o < S0 11 f then S0 5 o else S0 11 f) ≤ moth S0 o (mM S0) ∨ S0 11 f - (if S0 5 o < S0 11 f then S0 5 o else S0 11 f) = 0 := by split <;> omega
    have hm0 : 0 ≤ moth S0 o (mM S0) := moth_nn I o _
    refine ⟨MB_su I 5 o (by show _ ∧ _ ≤ (20 : Int); omega), by omega, by omega, ?_, fun j => ?_⟩
    · rw [moth_own, show mM (su S0 5 o (S0 5 o - (if S0 5 o < S0 11 f then S0 5 o else S0 11 f))) = mM S0 from rfl]
      omega
    · rw [su_ne _ _ _ (by decide)]
      have := hD j
      omega
  have L : ∀ (q : Nat) (S : Nat → Nat → Int) (h : zH) (r b9 : Int), r ≤ q → BI S o r → MR (zG_of X) a t S h → (∀ h9, MR (zG_of X) a t (mbl o q S r) h9 → MR (zG_of X) a t (mbring S0 o f) h9) → Z X 45 [.ref (a 0), vI (o : Int), vI (f : Int), vI r, vI b9] [] h 0 0 := by
    intro q
    induction q with
    | zero =>
      intro S h r b9 hq hB R hE
      have I := hB.1
      have hB0 := hB.2.1
      have hB1 := hB.2.2.1
      have hMb := mM_b I
      refine Z.iload_n C dX7_bring_45 rfl ?_
      refine Z.if_le (tgt := 110) C dX7_bring_46 (by decide) (by omega) (by omega) (fun c46 => ?_) (fun c46 => ?_)
      · exact Z.vret C E dX7_bring_110 (Nat.le_refl _) (Nat.le_refl _) ⟨rfl, hE h (by rw [show r = 0 by omega, mbl_0]; exact R)⟩
      · exfalso; omega
    | succ q ih =>
      intro S h r b9 hq hB R hE
      have I := hB.1
      have hB0 := hB.2.1
      have hB1 := hB.2.2.1
      have hMb := mM_b I
      refine Z.iload_n C dX7_bring_45 rfl ?_
      refine Z.if_le (tgt := 110) C dX7_bring_46 (by decide) (by omega) (by omega) (fun c46 => ?_) (fun c46 => ?_)
      · exact Z.vret C E dX7_bring_110 (Nat.le_refl _) (Nat.le_refl _) ⟨rfl, hE h (by rw [show r = 0 by omega, mbl_0]; exact R)⟩
      · obtain ⟨s1, s2, s3, s4⟩ := hB.step (by omega)
        have hmb := mmost_b S (o : Int) (-1) (mM S)
        refine Z.aload_n C dX7_bring_49 rfl ?_
        refine Z.iload_n C dX7_bring_50 rfl ?_
        refine Z.iconst C dX7_bring_51 ?_
        refine v_X7_105 C rfl dX7_bring_52 R.1 (c_X7_most htr R I (by omega) (by omega)) (by decide) (Nat.le_of_ble_eq_true rfl) (by rw [hR]; exact Nat.le_refl _) (by rw [hR]; exact Nat.le_refl _) (fun w52 h52 q52 => ?_) (fun _ _ q => q.elim)
        obtain ⟨rfl, q52⟩ := q52
        replace q52 := q52.symm
        subst q52
        refine Z.istore (l' := [_, _, _, _, _, _]) C dX7_bring_55 (Nat.le_of_ble_eq_true rfl) (by rw [hN]; decide) rfl ?_
        have J79 : ∀ w9 : Int, w9 = mby S (mmost S (o : Int) (-1) (mM S)).toNat r → Z X 79 [.ref (a 0), vI (o : Int), vI (f : Int), vI r, vI b9, vI (mmost S (o : Int) (-1) (mM S))] [vI w9] h 0 0 := by
          intro w9 hw9
          subst hw9
          refine Z.istore (l' := [_, _, _, _, _, _]) C dX7_bring_79 (Nat.le_of_ble_eq_true rfl) (by rw [hN]; decide) rfl ?_
          refine Z.aload_n C dX7_bring_81 rfl ?_
          refine g_X7_17 C rfl dX7_bring_82 R.1 rfl ?_
          refine Z.iload C dX7_bring_85 rfl ?_
          refine Z.dup2 C dX7_bring_87 rfl rfl ?_
          refine b_5 C R (mmost S (o : Int) (-1) (mM S)).toNat dX7_bring_88 (by omega) (by omega) (fun v88 e88 => ?_)
          subst e88
          refine Z.iload C dX7_bring_89 rfl ?_
          refine Z.isub C dX7_bring_91 ?_
          refine w_5 C R (mmost S (o : Int) (-1) (mM S)).toNat dX7_bring_92 (by omega) (by omega) (fun h R => ?_)
          have I1 : MB (su S 5 (mmost S (o : Int) (-1) (mM S)).toNat (S 5 (mmost S (o : Int) (-1) (mM S)).toNat - mby S (mmost S (o : Int) (-1) (mM S)).toNat r)) := MB_su I 5 _ (by have h5 : 0 ≤ S 5 (mmost S (o : Int) (-1) (mM S)).toNat ∧ S 5 (mmost S (o : Int) (-1) (mM S)).toNat ≤ 20 := I 5 _ (by decide); have hb2 : mby S (mmost S (o : Int) (-1) (mM S)).toNat r ≤ S 5 (mmost S (o : Int) (-1) (mM S)).toNat := (by unfold mby; split <;> omega); show _ ∧ _ ≤ (20 : Int); omega)
          refine Z.iload_n C dX7_bring_93 rfl ?_
          refine Z.iload C dX7_bring_94 rfl ?_
          refine Z.isub C dX7_bring_96 ?_
          refine Z.istore_n (l' := [_, _, _, _, _, _]) C dX7_bring_97 (Nat.le_of_ble_eq_true rfl) (by rw [hN]; decide) rfl ?_
          rw [show (mmost S (o : Int) (-1) (mM S)) = (((mmost S (o : Int) (-1) (mM S)).toNat : Nat) : Int) by omega]
          simp only [Int.toNat_natCast]
          refine Z.aload_n C dX7_bring_98 rfl ?_
          refine Z.iload_n C dX7_bring_99 rfl ?_
          refine Z.iload C dX7_bring_100 rfl ?_
          refine Z.iload C dX7_bring_102 rfl ?_
          refine v_X7_108 C rfl dX7_bring_104 R.1 (c_X7_owe htr R I1 (o := o) (x := (mmost S (o : Int) (-1) (mM S)).toNat) (by omega) (by omega) (by omega)) (by decide) (Nat.le_of_ble_eq_true rfl) (by rw [hR]; exact Nat.le_refl _) (by rw [hR]; exact Nat.le_refl _) (fun w104 h104 q104 => ?_) (fun _ _ q => q.elim)
          obtain ⟨rfl, R⟩ := q104
          refine Z.goto (tgt := 45) C dX7_bring_107 (by decide) ?_
          refine Z.pre (l' := [_, _, _, _, _]) 5 rfl ?_
          exact ih _ _ _ _ (by omega) s4 R (fun h9 q => hE h9 (by rw [mbl_succ, if_pos (by omega)]; exact q))
        refine Z.aload_n C dX7_bring_57 rfl ?_
        refine g_X7_17 C rfl dX7_bring_58 R.1 rfl ?_
        refine Z.iload C dX7_bring_61 rfl ?_
        refine a_5 C R I (mmost S (o : Int) (-1) (mM S)).toNat dX7_bring_63 (by omega) (by omega) (fun v63 e63 b63 => ?_)
        refine Z.iload_n C dX7_bring_64 rfl ?_
        refine Z.icmp_ge (tgt := 78) C dX7_bring_65 (by decide) (by omega) (by omega) (by omega) (by omega) (fun c65 => ?_) (fun c65 => ?_)
        · refine Z.iload_n C dX7_bring_78 rfl ?_
          exact J79 _ (by unfold mby; first | (rw [if_pos (by omega)]; omega) | (rw [if_neg (by omega)]))
        · refine Z.aload_n C dX7_bring_68 rfl ?_
          refine g_X7_17 C rfl dX7_bring_69 R.1 rfl ?_
          refine Z.iload C dX7_bring_72 rfl ?_
          refine a_5 C R I (mmost S (o : Int) (-1) (mM S)).toNat dX7_bring_74 (by omega) (by omega) (fun v74 e74 b74 => ?_)
          refine Z.goto (tgt := 79) C dX7_bring_75 (by decide) ?_
          exact J79 _ (by unfold mby; first | (rw [if_pos (by omega)]; omega) | (rw [if_neg (by omega)]))
  refine Z.aload_n C dX7_bring_0 rfl ?_
  refine g_X7_32 C rfl dX7_bring_1 R.1 rfl ?_
  refine Z.iload_n C dX7_bring_4 rfl ?_
  refine a_11 C R I f dX7_bring_5 (by omega) (by omega) (fun v5 e5 b5 => ?_)
  subst e5
  refine Z.istore_n (l' := [_, _, _, _]) C dX7_bring_6 (Nat.le_of_ble_eq_true rfl) (by rw [hN]; decide) rfl ?_
  have J27 : ∀ w9 : Int, w9 = (if S0 5 o < S0 11 f then S0 5 o else S0 11 f) → Z X 27 [.ref (a 0), vI (o : Int), vI (f : Int), vI (S0 11 f)] [vI w9] h 0 0 := by
    intro w9 hw9
    refine Z.istore (l' := [_, _, _, _, _]) C dX7_bring_27 (Nat.le_of_ble_eq_true rfl) (by rw [hN]; decide) rfl ?_
    refine Z.aload_n C dX7_bring_29 rfl ?_
    refine g_X7_17 C rfl dX7_bring_30 R.1 rfl ?_
    refine Z.iload_n C dX7_bring_33 rfl ?_
    refine Z.dup2 C dX7_bring_34 rfl rfl ?_
    refine b_5 C R o dX7_bring_35 (by omega) (by omega) (fun v35 e35 => ?_)
    subst e35
    refine Z.iload C dX7_bring_36 rfl ?_
    refine Z.isub C dX7_bring_38 ?_
    refine w_5 C R o dX7_bring_39 (by omega) (by omega) (fun h R => ?_)
    refine Z.iload_n C dX7_bring_40 rfl ?_
    refine Z.iload C dX7_bring_41 rfl ?_
    refine Z.isub C dX7_bring_43 ?_
    refine Z.istore_n (l' := [_, _, _, _, _]) C dX7_bring_44 (Nat.le_of_ble_eq_true rfl) (by rw [hN]; decide) rfl ?_
    subst hw9
    exact L 20 _ h _ _ (by omega) HB R (fun h9 q => by rw [mbring]; exact q)
  refine Z.aload_n C dX7_bring_7 rfl ?_
  refine g_X7_17 C rfl dX7_bring_8 R.1 rfl ?_
  refine Z.iload_n C dX7_bring_11 rfl ?_
  refine a_5 C R I o dX7_bring_12 (by omega) (by omega) (fun v12 e12 b12 => ?_)
  refine Z.iload_n C dX7_bring_13 rfl ?_
  refine Z.icmp_ge (tgt := 26) C dX7_bring_14 (by decide) (by omega) (by omega) (by omega) (by omega) (fun c14 => ?_) (fun c14 => ?_)
  · refine Z.iload_n C dX7_bring_26 rfl ?_
    exact J27 _ (by first | (rw [if_pos (by omega)]; omega) | (rw [if_neg (by omega)]))
  · refine Z.aload_n C dX7_bring_17 rfl ?_
    refine g_X7_17 C rfl dX7_bring_18 R.1 rfl ?_
    refine Z.iload_n C dX7_bring_21 rfl ?_
    refine a_5 C R I o dX7_bring_22 (by omega) (by omega) (fun v22 e22 b22 => ?_)
    refine Z.goto (tgt := 27) C dX7_bring_23 (by decide) ?_
    exact J27 _ (by first | (rw [if_pos (by omega)]; omega) | (rw [if_neg (by omega)]))

