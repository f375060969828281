set_option maxRecDepth 100000 in
theorem c_X7_put {ln : Launch} (htr : ln.stackTraces = false) {G : zG} {a : Nat → Nat} {t : Int} {S : Nat → Nat → Int} {h : zH} (R : MR G a t S h) (I : MB S) {o f : Nat} (ho : o < 10) (hf : f < 20) : CT ln G yX7_put cX7_put 7 none 5 (.ref (a 0) :: [vI (o : Int), vI (f : Int)]) h 0 0 (fun r9 h9 => r9 = none ∧ MR G a t (mput S o f) h9) zNo := by
  refine CT.intro htr (by decide) rfl (Nat.le_of_ble_eq_true rfl) ?_
  intro X hln hG hR hN C E
  subst hln
  subst hG
  have b1 : 0 ≤ S 1 0 ∧ S 1 0 ≤ 2000 := I 1 0 (by decide)
  have b2 : 0 ≤ S 2 0 ∧ S 2 0 ≤ 10 := I 2 0 (by decide)
  have b10 : 0 ≤ S 10 0 ∧ S 10 0 ≤ 20 := I 10 0 (by decide)
  have b14 : 0 ≤ S 14 0 ∧ S 14 0 ≤ 300 := I 14 0 (by decide)
  have b15 : 0 ≤ S 15 0 ∧ S 15 0 ≤ 30 := I 15 0 (by decide)
  have hM : mF S = (S 10 0).toNat := rfl
  have u1 := mused_b I o (mF S)
  have u2 : 0 ≤ S 6 o ∧ S 6 o ≤ 50 := I 6 o (by decide)
  have u3 : 0 ≤ S 11 f ∧ S 11 f ≤ 20 := I 11 f (by decide)
  have u4 : 0 ≤ S 12 f ∧ S 12 f ≤ 300 := I 12 f (by decide)
  have K : ∀ (fr : Int) (m : Nat) (nx : Int), (-400 ≤ fr ∧ fr ≤ 500) → m < 1048576 → mpo S o f 20 (S 6 o - mused S o (mF S)) 0 = (fr, m) → Z X 84 [.ref (a 0), vI (o : Int), vI (f : Int), vI fr, vI (m : Int), vI nx] [] h 0 0 := by
    intro fr m nx hfr hm hE
    refine Z.iload_n C dX7_put_84 rfl ?_
    refine Z.aload_n C dX7_put_85 rfl ?_
    refine g_X7_32 C rfl dX7_put_86 R.1 rfl ?_
    refine Z.iload_n C dX7_put_89 rfl ?_
    refine a_11 C R I f dX7_put_90 (by omega) (by omega) (fun v90 e90 b90 => ?_)
    subst e90
    refine Z.icmp_lt (tgt := 166) C dX7_put_91 (by decide) (by omega) (by omega) (by omega) (by omega) (fun c91 => ?_) (fun c91 => ?_)
    · exact Z.vret C E dX7_put_166 (Nat.le_refl _) (Nat.le_refl _) ⟨rfl, by rw [mput, hE, if_neg (by dsimp only; omega)]; exact R⟩
    · refine Z.iconst C dX7_put_94 ?_
      refine Z.istore (l' := [_, _, _, _, _, _, _]) C dX7_put_95 (Nat.le_of_ble_eq_true rfl) (by rw [hN]; decide) rfl ?_
      have L2 : ∀ (q i : Nat) (h : zH), i + q = mF S → MR (zG_of X) a t (mclr S o m i) h → Z X 97 [.ref (a 0), vI (o : Int), vI (f : Int), vI fr, vI (m : Int), vI nx, vI (i : Int)] [] h 0 0 := by
        intro q
        induction q with
        | zero =>
          intro i h hi R
          have e10 : mclr S o m i 10 0 = S 10 0 := by rw [mclr_ne _ _ _ (by decide)]
          have I9 := MB_clr I o m i
          have hms := Nat.div_le_self m (2 ^ i)
          refine Z.iload C dX7_put_97 rfl ?_
          refine Z.aload_n C dX7_put_99 rfl ?_
          refine g_X7_73 (v := vI (S 10 0)) C rfl dX7_put_100 R.1 (congrArg (fun x => some (vI x)) e10) ?_
          refine Z.icmp_ge (tgt := 154) C dX7_put_103 (by decide) (by omega) (by omega) (by omega) (by omega) (fun c103 => ?_) (fun c103 => ?_)
          · refine Z.aload_n C dX7_put_154 rfl ?_
            refine g_X7_38 C rfl dX7_put_155 R.1 rfl ?_
            refine Z.bipush C dX7_put_158 (by decide) ?_
            refine Z.iload_n C dX7_put_160 rfl ?_
            refine Z.imul C dX7_put_161 ?_
            refine Z.iload_n C dX7_put_162 rfl ?_
            refine Z.iadd C dX7_put_163 ?_
            refine Z.iconst C dX7_put_164 ?_
            refine w_13 C R (20 * o + f) dX7_put_165 (by omega) (by omega) (by omega) (fun h R => ?_)
            exact Z.vret C E dX7_put_166 (Nat.le_refl _) (Nat.le_refl _) ⟨rfl, by rw [mput, hE, if_pos (by dsimp only; omega)]; rw [show i = mF S by omega] at R; exact R⟩
          · exfalso; omega
        | succ q ih =>
          intro i h hi R
          have e10 : mclr S o m i 10 0 = S 10 0 := by rw [mclr_ne _ _ _ (by decide)]
          have I9 := MB_clr I o m i
          have hms := Nat.div_le_self m (2 ^ i)
          refine Z.iload C dX7_put_97 rfl ?_
          refine Z.aload_n C dX7_put_99 rfl ?_
          refine g_X7_73 (v := vI (S 10 0)) C rfl dX7_put_100 R.1 (congrArg (fun x => some (vI x)) e10) ?_
          refine Z.icmp_ge (tgt := 154) C dX7_put_103 (by decide) (by omega) (by omega) (by omega) (by omega) (fun c103 => ?_) (fun c103 => ?_)
          · exfalso; omega
          · refine Z.aload_n C dX7_put_106 rfl ?_
            refine g_X7_38 C rfl dX7_put_107 R.1 rfl ?_
            refine Z.bipush C dX7_put_110 (by decide) ?_
            refine Z.iload_n C dX7_put_112 rfl ?_
            refine Z.imul C dX7_put_113 ?_
            refine Z.iload C dX7_put_114 rfl ?_
            refine Z.iadd C dX7_put_116 ?_
            refine Z.aload_n C dX7_put_117 rfl ?_
            refine g_X7_38 C rfl dX7_put_118 R.1 rfl ?_
            refine Z.bipush C dX7_put_121 (by decide) ?_
            refine Z.iload_n C dX7_put_123 rfl ?_
            refine Z.imul C dX7_put_124 ?_
            refine Z.iload C dX7_put_125 rfl ?_
            refine Z.iadd C dX7_put_127 ?_
            refine a_13 C R I9 (20 * o + i) dX7_put_128 (by omega) (by omega) (fun v128 e128 b128 => ?_)
            refine Z.if_eq (tgt := 146) C dX7_put_129 (by decide) (by omega) (by omega) (fun c129 => ?_) (fun c129 => ?_)
            · refine Z.iconst C dX7_put_146 ?_
              refine w_13 C R (20 * o + i) dX7_put_147 (by omega) (by omega) (by omega) (fun h R => ?_)
              refine Z.iinc (l' := [_, _, _, _, _, _, _]) C dX7_put_148 rfl (Nat.le_of_ble_eq_true rfl) (by rw [hN]; decide) rfl ?_
              refine Z.goto (tgt := 97) C dX7_put_151 (by decide) ?_
              exact ih (i + 1) h (by omega) (by rw [mclr]; first | (rw [if_pos (by omega)]; exact R) | (rw [if_neg (by omega)]; exact R))
            · refine Z.iload C dX7_put_132 rfl ?_
              refine Z.iload C dX7_put_134 rfl ?_
              refine Z.ishr (z := ((m / 2 ^ i : Nat) : Int)) C dX7_put_136  (jI_shr (by omega) (by omega)) ?_
              refine Z.iconst C dX7_put_137 ?_
              refine Z.iand (z := ((m / 2 ^ i % 2 : Nat) : Int)) C dX7_put_138  (jI_and1 (by omega)) ?_
              refine Z.if_ne (tgt := 146) C dX7_put_139 (by decide) (by omega) (by omega) (fun c139 => ?_) (fun c139 => ?_)
              · refine Z.iconst C dX7_put_146 ?_
                refine w_13 C R (20 * o + i) dX7_put_147 (by omega) (by omega) (by omega) (fun h R => ?_)
                refine Z.iinc (l' := [_, _, _, _, _, _, _]) C dX7_put_148 rfl (Nat.le_of_ble_eq_true rfl) (by rw [hN]; decide) rfl ?_
                refine Z.goto (tgt := 97) C dX7_put_151 (by decide) ?_
                exact ih (i + 1) h (by omega) (by rw [mclr]; first | (rw [if_pos (by omega)]; exact R) | (rw [if_neg (by omega)]; exact R))
              · refine Z.iconst C dX7_put_142 ?_
                refine Z.goto (tgt := 147) C dX7_put_143 (by decide) ?_
                refine w_13 C R (20 * o + i) dX7_put_147 (by omega) (by omega) (by omega) (fun h R => ?_)
                refine Z.iinc (l' := [_, _, _, _, _, _, _]) C dX7_put_148 rfl (Nat.le_of_ble_eq_true rfl) (by rw [hN]; decide) rfl ?_
                refine Z.goto (tgt := 97) C dX7_put_151 (by decide) ?_
                exact ih (i + 1) h (by omega) (by rw [mclr]; first | (rw [if_pos (by omega)]; exact R) | (rw [if_neg (by omega)]; exact R))
      exact L2 _ 0 _ (Nat.zero_add _) R
  have L : ∀ (q : Nat) (fr : Int) (m : Nat), cu m 20 ≤ q → m < 1048576 → (-400 ≤ fr ∧ fr ≤ 500 - 20 * (cu m 20 : Int)) → mpo S o f 20 (S 6 o - mused S o (mF S)) 0 = mpo S o f q fr m → Z X 31 [.ref (a 0), vI (o : Int), vI (f : Int), vI fr, vI (m : Int), vI (mleast S o (S 12 f) m (mF S))] [] h 0 0 := by
    intro q
    induction q with
    | zero =>
      intro fr m hq hm hfr hE
      have hfr : -400 ≤ fr ∧ fr ≤ 500 := by omega
      have hl := mleast_b S o (S 12 f) m (mF S)
      have hl11 : 0 ≤ S 11 (mleast S o (S 12 f) m (mF S)).toNat ∧ S 11 (mleast S o (S 12 f) m (mF S)).toNat ≤ 20 := I 11 _ (by decide)
      refine Z.iload_n C dX7_put_31 rfl ?_
      refine Z.aload_n C dX7_put_32 rfl ?_
      refine g_X7_32 C rfl dX7_put_33 R.1 rfl ?_
      refine Z.iload_n C dX7_put_36 rfl ?_
      refine a_11 C R I f dX7_put_37 (by omega) (by omega) (fun v37 e37 b37 => ?_)
      subst e37
      refine Z.icmp_ge (tgt := 84) C dX7_put_38 (by decide) (by omega) (by omega) (by omega) (by omega) (fun c38 => ?_) (fun c38 => ?_)
      · exact K _ _ _ hfr hm (hE.trans (by rfl))
      · refine Z.iload C dX7_put_41 rfl ?_
        refine Z.iconst C dX7_put_43 ?_
        refine Z.icmp_eq (tgt := 84) C dX7_put_44 (by decide) (by omega) (by omega) (by omega) (by omega) (fun c44 => ?_) (fun c44 => ?_)
        · exact K _ _ _ hfr hm (hE.trans (by rfl))
        · exfalso
          have hx := mleast_hit S o (S 12 f) m (mF S) (by omega)
          have hcu := cu_or (m := m) (x := (mleast S o (S 12 f) m (mF S)).toNat) hx.2.1 20
          rw [if_pos (by omega)] at hcu
          omega
    | succ q ih =>
      intro fr m hq hm hfr hE
      have hfr : -400 ≤ fr ∧ fr ≤ 500 := by omega
      have hl := mleast_b S o (S 12 f) m (mF S)
      have hl11 : 0 ≤ S 11 (mleast S o (S 12 f) m (mF S)).toNat ∧ S 11 (mleast S o (S 12 f) m (mF S)).toNat ≤ 20 := I 11 _ (by decide)
      refine Z.iload_n C dX7_put_31 rfl ?_
      refine Z.aload_n C dX7_put_32 rfl ?_
      refine g_X7_32 C rfl dX7_put_33 R.1 rfl ?_
      refine Z.iload_n C dX7_put_36 rfl ?_
      refine a_11 C R I f dX7_put_37 (by omega) (by omega) (fun v37 e37 b37 => ?_)
      subst e37
      refine Z.icmp_ge (tgt := 84) C dX7_put_38 (by decide) (by omega) (by omega) (by omega) (by omega) (fun c38 => ?_) (fun c38 => ?_)
      · exact K _ _ _ hfr hm (hE.trans (by rw [mpo, if_neg (by omega)]))
      · refine Z.iload C dX7_put_41 rfl ?_
        refine Z.iconst C dX7_put_43 ?_
        refine Z.icmp_eq (tgt := 84) C dX7_put_44 (by decide) (by omega) (by omega) (by omega) (by omega) (fun c44 => ?_) (fun c44 => ?_)
        · exact K _ _ _ hfr hm (hE.trans (by rw [mpo, if_neg (by omega)]))
        · have hx := mleast_hit S o (S 12 f) m (mF S) (by omega)
          have hor : m ||| 2 ^ (mleast S o (S 12 f) m (mF S)).toNat < 2 ^ 20 := Nat.or_lt_two_pow (by omega) (Nat.pow_lt_pow_right (by decide) (by omega))
          have hpw : 2 ^ (mleast S o (S 12 f) m (mF S)).toNat < 2 ^ 20 := Nat.pow_lt_pow_right (by decide) (by omega)
          have hcu := cu_or (m := m) (x := (mleast S o (S 12 f) m (mF S)).toNat) hx.2.1 20
          rw [if_pos (by omega)] at hcu
          refine Z.iload C dX7_put_47 rfl ?_
          refine Z.iconst C dX7_put_49 ?_
          refine Z.iload C dX7_put_50 rfl ?_
          rw [show (mleast S o (S 12 f) m (mF S)) = (((mleast S o (S 12 f) m (mF S)).toNat : Nat) : Int) by omega]
          refine Z.ishl (z := ((2 ^ (mleast S o (S 12 f) m (mF S)).toNat : Nat) : Int)) C dX7_put_52  (jI_shl1 (by omega)) ?_
          refine Z.ior (z := ((m ||| 2 ^ (mleast S o (S 12 f) m (mF S)).toNat : Nat) : Int)) C dX7_put_53  (jI_or (by omega) (by omega)) ?_
          refine Z.istore (l' := [_, _, _, _, _, _]) C dX7_put_54 (Nat.le_of_ble_eq_true rfl) (by rw [hN]; decide) rfl ?_
          refine Z.iload_n C dX7_put_56 rfl ?_
          refine Z.aload_n C dX7_put_57 rfl ?_
          refine g_X7_32 C rfl dX7_put_58 R.1 rfl ?_
          refine Z.iload C dX7_put_61 rfl ?_
          refine a_11 C R I (mleast S o (S 12 f) m (mF S)).toNat dX7_put_63 (by omega) (by omega) (fun v63 e63 b63 => ?_)
          subst e63
          refine Z.iadd C dX7_put_64 ?_
          refine Z.istore_n (l' := [_, _, _, _, _, _]) C dX7_put_65 (Nat.le_of_ble_eq_true rfl) (by rw [hN]; decide) rfl ?_
          refine Z.aload_n C dX7_put_66 rfl ?_
          refine Z.iload_n C dX7_put_67 rfl ?_
          refine Z.aload_n C dX7_put_68 rfl ?_
          refine g_X7_35 C rfl dX7_put_69 R.1 rfl ?_
          refine Z.iload_n C dX7_put_72 rfl ?_
          refine a_12 C R I f dX7_put_73 (by omega) (by omega) (fun v73 e73 b73 => ?_)
          subst e73
          refine Z.iload C dX7_put_74 rfl ?_
          refine v_X7_115 C rfl dX7_put_76 R.1 (c_X7_least htr R I ho (m := m ||| 2 ^ (mleast S o (S 12 f) m (mF S)).toNat) (by omega) (by omega)) (by decide) (Nat.le_of_ble_eq_true rfl) (by rw [hR]; exact Nat.le_refl _) (by rw [hR]; exact Nat.le_refl _) (fun w76 h76 q76 => ?_) (fun _ _ q => q.elim)
          obtain ⟨rfl, q76⟩ := q76
          replace q76 := q76.symm
          subst q76
          refine Z.istore (l' := [_, _, _, _, _, _]) C dX7_put_79 (Nat.le_of_ble_eq_true rfl) (by rw [hN]; decide) rfl ?_
          refine Z.goto (tgt := 31) C dX7_put_81 (by decide) ?_
          exact ih _ _ (by omega) hor (by omega) (hE.trans (by rw [mpo, if_pos (by omega)]))
  refine Z.aload_n C dX7_put_0 rfl ?_
  refine g_X7_20 C rfl dX7_put_1 R.1 rfl ?_
  refine Z.iload_n C dX7_put_4 rfl ?_
  refine a_6 C R I o dX7_put_5 (by omega) (by omega) (fun v5 e5 b5 => ?_)
  subst e5
  refine Z.aload_n C dX7_put_6 rfl ?_
  refine Z.iload_n C dX7_put_7 rfl ?_
  refine v_X7_112 C rfl dX7_put_8 R.1 (c_X7_used htr R I ho) (by decide) (Nat.le_of_ble_eq_true rfl) (by rw [hR]; exact Nat.le_refl _) (by rw [hR]; exact Nat.le_refl _) (fun w8 h8 q8 => ?_) (fun _ _ q => q.elim)
  obtain ⟨rfl, q8⟩ := q8
  replace q8 := q8.symm
  subst q8
  refine Z.isub C dX7_put_11 ?_
  refine Z.istore_n (l' := [_, _, _, _]) C dX7_put_12 (Nat.le_of_ble_eq_true rfl) (by rw [hN]; decide) rfl ?_
  refine Z.iconst C dX7_put_13 ?_
  refine Z.istore (l' := [_, _, _, _, _]) C dX7_put_14 (Nat.le_of_ble_eq_true rfl) (by rw [hN]; decide) rfl ?_
  refine Z.aload_n C dX7_put_16 rfl ?_
  refine Z.iload_n C dX7_put_17 rfl ?_
  refine Z.aload_n C dX7_put_18 rfl ?_
  refine g_X7_35 C rfl dX7_put_19 R.1 rfl ?_
  refine Z.iload_n C dX7_put_22 rfl ?_
  refine a_12 C R I f dX7_put_23 (by omega) (by omega) (fun v23 e23 b23 => ?_)
  subst e23
  refine Z.iload C dX7_put_24 rfl ?_
  refine v_X7_115 C rfl dX7_put_26 R.1 (c_X7_least htr R I ho (m := 0) (by decide) (by omega)) (by decide) (Nat.le_of_ble_eq_true rfl) (by rw [hR]; exact Nat.le_refl _) (by rw [hR]; exact Nat.le_refl _) (fun w26 h26 q26 => ?_) (fun _ _ q => q.elim)
  obtain ⟨rfl, q26⟩ := q26
  replace q26 := q26.symm
  subst q26
  refine Z.istore (l' := [_, _, _, _, _, _]) C dX7_put_29 (Nat.le_of_ble_eq_true rfl) (by rw [hN]; decide) rfl ?_
  exact L 20 _ 0 (cu_le 0 20) (by decide) (by have := cu_le 0 20; omega) rfl

set_option maxRecDepth 100000 in
theorem c_X7_leave {ln : Launch} (htr : ln.stackTraces = false) {G : zG} {a : Nat → Nat} {t : Int} {S : Nat → Nat → Int} {h : zH} (R : MR G a t S h) (I : MB S) {w : Int} (hw : -2147483648 ≤ w ∧ w < 2147483648) : CT ln G yX7_leave cX7_leave 5 (some .int) 3 (.ref (a 0) :: [vI w]) h 0 0 (mAns G a S (cLeave S w) (sLeave S w.toNat 7 w.toNat) (sLeave S w.toNat)) zNo := by
  refine CT.intro htr (by decide) rfl (Nat.le_of_ble_eq_true rfl) ?_
  intro X hln hG hR hN C E
  subst hln
  subst hG
  have b1 : 0 ≤ S 1 0 ∧ S 1 0 ≤ 2000 := I 1 0 (by decide)
  have b2 : 0 ≤ S 2 0 ∧ S 2 0 ≤ 10 := I 2 0 (by decide)
  have b10 : 0 ≤ S 10 0 ∧ S 10 0 ≤ 20 := I 10 0 (by decide)
  have b14 : 0 ≤ S 14 0 ∧ S 14 0 ≤ 300 := I 14 0 (by decide)
  have b15 : 0 ≤ S 15 0 ∧ S 15 0 ≤ 30 := I 15 0 (by decide)
  have hM : mM S = (S 2 0).toNat := rfl
  have hP : mP S = (S 15 0).toNat := rfl
  refine Z.aload_n C dX7_leave_0 rfl ?_
  refine Z.iload_n C dX7_leave_1 rfl ?_
  refine v_X7_98 C rfl dX7_leave_2 R.1 (c_X7_isMember htr R I (by omega)) (by decide) (Nat.le_of_ble_eq_true rfl) (by rw [hR]; exact Nat.le_refl _) (by rw [hR]; exact Nat.le_refl _) (fun w2 h2 q2 => ?_) (fun _ _ q => q.elim)
  obtain ⟨rfl, q2⟩ := q2
  replace q2 := q2.symm
  subst q2
  obtain ⟨m2, z2, g2, k2⟩ := mbx (0 ≤ w ∧ w ≤ S 2 0 - 1)
  rw [z2]
  refine Z.istore_n (l' := [_, _, _]) C dX7_leave_5 (Nat.le_of_ble_eq_true rfl) (by rw [hN]; decide) rfl ?_
  have J29 : ∀ w9 : Int, w9 = cLeave S w → (w9 = 0 → (0 ≤ w ∧ w ≤ S 2 0 - 1) ∧ ¬ S 3 w.toNat = 0) → 0 ≤ w9 ∧ w9 ≤ 3 → Z X 29 [.ref (a 0), vI w, vI m2] [vI w9, .ref (a 0)] h 0 0 := by
    intro w9 hw1 hw2 hw3
    refine v_X7_94 C rfl dX7_leave_29 R.1 (c_X7_refused htr R I (by omega)) (by decide) (Nat.le_of_ble_eq_true rfl) (by rw [hR]; exact Nat.le_refl _) (by rw [hR]; exact Nat.le_refl _) (fun w29 h29 q29 => ?_) (fun _ _ q => q.elim)
    obtain ⟨rfl, R⟩ := q29
    obtain ⟨m29, z29, g29, k29⟩ := mbx (¬ w9 = 0)
    rw [z29]
    refine Z.if_eq (tgt := 37) C dX7_leave_32 (by decide) (by omega) (by omega) (fun c32 => ?_) (fun c32 => ?_)
    · have hw2 := hw2 (by omega)
      obtain ⟨o, rfl⟩ : ∃ o : Nat, w = (o : Int) := ⟨w.toNat, by omega⟩
      simp only [Int.toNat_natCast] at hw2
      refine Z.aload_n C dX7_leave_37 rfl ?_
      refine g_X7_7 C rfl dX7_leave_38 R.1 rfl ?_
      refine Z.iload_n C dX7_leave_41 rfl ?_
      refine Z.iconst C dX7_leave_42 ?_
      refine w_3 C R o dX7_leave_43 (by omega) (by omega) (Or.inl rfl) (fun h R => ?_)
      refine Z.iconst C dX7_leave_44 ?_
      refine Z.istore_n (l' := [_, _, _, _]) C dX7_leave_45 (Nat.le_of_ble_eq_true rfl) (by rw [hN]; decide) rfl ?_
      have L : ∀ (q i : Nat) (h : zH) (b9 : Int), i + q = mM S → MR (zG_of X) a w9 (ml1 (su S 3 o 0) o i) h → Z X 46 [.ref (a 0), vI (o : Int), vI m2, vI (i : Int)] [] h 0 0 := by
        intro q
        induction q with
        | zero =>
          intro i h b9 hi R
          have e2 : ml1 (su S 3 o 0) o i 2 0 = S 2 0 := by rw [ml1_ne _ _ (by decide) (by decide)]; rfl
          refine Z.iload_n C dX7_leave_46 rfl ?_
          refine Z.aload_n C dX7_leave_47 rfl ?_
          refine g_X7_66 (v := vI (S 2 0)) C rfl dX7_leave_48 R.1 (congrArg (fun x => some (vI x)) e2) ?_
          refine Z.icmp_ge (tgt := 131) C dX7_leave_51 (by decide) (by omega) (by omega) (by omega) (by omega) (fun c51 => ?_) (fun c51 => ?_)
          · refine Z.iconst C dX7_leave_131 ?_
            refine Z.istore_n (l' := [_, _, _, _]) C dX7_leave_132 (Nat.le_of_ble_eq_true rfl) (by rw [hN]; decide) rfl ?_
            have L2 : ∀ (q j : Nat) (h : zH), j + q = 20 → MR (zG_of X) a w9 (ml2 (ml1 (su S 3 o 0) o (mM S)) o j) h → Z X 133 [.ref (a 0), vI (o : Int), vI m2, vI (j : Int)] [] h 0 0 := by
              intro q
              induction q with
              | zero =>
                intro j h hj R
                refine Z.iload_n C dX7_leave_133 rfl ?_
                refine Z.bipush C dX7_leave_134 (by decide) ?_
                refine Z.icmp_ge (tgt := 157) C dX7_leave_136 (by decide) (by omega) (by omega) (by omega) (by omega) (fun c136 => ?_) (fun c136 => ?_)
                · refine Z.iconst C dX7_leave_157 ?_
                  refine Z.istore_n (l' := [_, _, _, _]) C dX7_leave_158 (Nat.le_of_ble_eq_true rfl) (by rw [hN]; decide) rfl ?_
                  have L3 : ∀ (q p : Nat) (h : zH), p + q = mP S → MR (zG_of X) a w9 (ml3 (sLv2 S o) o p) h → Z X 159 [.ref (a 0), vI (o : Int), vI m2, vI (p : Int)] [] h 0 0 := by
                    intro q
                    induction q with
                    | zero =>
                      intro p h hp R
                      have I3 : MB (ml3 (sLv2 S o) o p) := MB_l3 (MB_l2 (MB_l1 (MB_su I 3 o (v := 0) (by decide)) o _) o _) o p
                      have e15 : ml3 (sLv2 S o) o p 15 0 = S 15 0 := by rw [ml3_ne _ _ (by decide) (by decide) (by decide) (by decide) (by decide), sLv2, ml2_ne _ _ (by decide), ml1_ne _ _ (by decide) (by decide)]; rfl
                      refine Z.iload_n C dX7_leave_159 rfl ?_
                      refine Z.aload_n C dX7_leave_160 rfl ?_
                      refine g_X7_76 (v := vI (S 15 0)) C rfl dX7_leave_161 R.1 (congrArg (fun x => some (vI x)) e15) ?_
                      refine Z.icmp_ge (tgt := 199) C dX7_leave_164 (by decide) (by omega) (by omega) (by omega) (by omega) (fun c164 => ?_) (fun c164 => ?_)
                      · refine Z.aload_n C dX7_leave_199 rfl ?_
                        refine g_X7_23 C rfl dX7_leave_200 R.1 rfl ?_
                        refine Z.iload_n C dX7_leave_203 rfl ?_
                        refine a_7 C R o dX7_leave_204 (by omega) (by omega) (fun v204 e204 => ?_)
                        subst e204
                        exact Z.iret C E dX7_leave_205 (Nat.le_refl _) (Nat.le_refl _) (mAns.yes (by rw [Int.toNat_natCast, sLeave, ← show p = mP S by omega]; exact R) hw1 (by omega) (by rw [Int.toNat_natCast, sLeave, ← show p = mP S by omega]))
                      · exfalso; omega
                    | succ q ih3 =>
                      intro p h hp R
                      have I3 : MB (ml3 (sLv2 S o) o p) := MB_l3 (MB_l2 (MB_l1 (MB_su I 3 o (v := 0) (by decide)) o _) o _) o p
                      have e15 : ml3 (sLv2 S o) o p 15 0 = S 15 0 := by rw [ml3_ne _ _ (by decide) (by decide) (by decide) (by decide) (by decide), sLv2, ml2_ne _ _ (by decide), ml1_ne _ _ (by decide) (by decide)]; rfl
                      refine Z.iload_n C dX7_leave_159 rfl ?_
                      refine Z.aload_n C dX7_leave_160 rfl ?_
                      refine g_X7_76 (v := vI (S 15 0)) C rfl dX7_leave_161 R.1 (congrArg (fun x => some (vI x)) e15) ?_
                      refine Z.icmp_ge (tgt := 199) C dX7_leave_164 (by decide) (by omega) (by omega) (by omega) (by omega) (fun c164 => ?_) (fun c164 => ?_)
                      · exfalso; omega
                      · refine Z.aload_n C dX7_leave_167 rfl ?_
                        refine g_X7_41 C rfl dX7_leave_168 R.1 rfl ?_
                        refine Z.iload_n C dX7_leave_171 rfl ?_
                        refine a_16 C R I3 p dX7_leave_172 (by omega) (by omega) (fun v172 e172 b172 => ?_)
                        refine Z.if_ne (tgt := 193) C dX7_leave_173 (by decide) (by omega) (by omega) (fun c173 => ?_) (fun c173 => ?_)
                        · refine Z.iinc (l' := [_, _, _, _]) C dX7_leave_193 rfl (Nat.le_of_ble_eq_true rfl) (by rw [hN]; decide) rfl ?_
                          refine Z.goto (tgt := 159) C dX7_leave_196 (by decide) ?_
                          exact ih3 (p + 1) _ (by omega) (by rw [ml3]; first | (rw [if_neg (by omega)]; exact R) | (rw [if_pos (by omega)]; exact R))
                        · refine Z.aload_n C dX7_leave_176 rfl ?_
                          refine g_X7_53 C rfl dX7_leave_177 R.1 rfl ?_
                          refine Z.bipush C dX7_leave_180 (by decide) ?_
                          refine Z.iload_n C dX7_leave_182 rfl ?_
                          refine Z.imul C dX7_leave_183 ?_
                          refine Z.iload_n C dX7_leave_184 rfl ?_
                          refine Z.iadd C dX7_leave_185 ?_
                          refine Z.iconst C dX7_leave_186 ?_
                          refine w_20 C R (10 * p + o) dX7_leave_187 (by omega) (by omega) (fun h R => ?_)
                          have I4 := MB_su I3 20 (10 * p + o) (v := 0) (by decide)
                          refine Z.aload_n C dX7_leave_188 rfl ?_
                          refine Z.iload_n C dX7_leave_189 rfl ?_
                          refine v_X7_101 C rfl dX7_leave_190 R.1 (c_X7_decide htr R I4 (by omega)) (by decide) (Nat.le_of_ble_eq_true rfl) (by rw [hR]; exact Nat.le_refl _) (by rw [hR]; exact Nat.le_refl _) (fun w190 h190 q190 => ?_) (fun _ _ q => q.elim)
                          obtain ⟨rfl, R⟩ := q190
                          refine Z.iinc (l' := [_, _, _, _]) C dX7_leave_193 rfl (Nat.le_of_ble_eq_true rfl) (by rw [hN]; decide) rfl ?_
                          refine Z.goto (tgt := 159) C dX7_leave_196 (by decide) ?_
                          exact ih3 (p + 1) _ (by omega) (by rw [ml3]; first | (rw [if_neg (by omega)]; exact R) | (rw [if_pos (by omega)]; exact R))
                  exact L3 _ 0 _ (Nat.zero_add _) (by rw [show (j : Nat) = 20 by omega] at R; exact R)
                · exfalso; omega
              | succ q ih2 =>
                intro j h hj R
                refine Z.iload_n C dX7_leave_133 rfl ?_
                refine Z.bipush C dX7_leave_134 (by decide) ?_
                refine Z.icmp_ge (tgt := 157) C dX7_leave_136 (by decide) (by omega) (by omega) (by omega) (by omega) (fun c136 => ?_) (fun c136 => ?_)
                · exfalso; omega
                · refine Z.aload_n C dX7_leave_139 rfl ?_
                  refine g_X7_38 C rfl dX7_leave_140 R.1 rfl ?_
                  refine Z.bipush C dX7_leave_143 (by decide) ?_
                  refine Z.iload_n C dX7_leave_145 rfl ?_
                  refine Z.imul C dX7_leave_146 ?_
                  refine Z.iload_n C dX7_leave_147 rfl ?_
                  refine Z.iadd C dX7_leave_148 ?_
                  refine Z.iconst C dX7_leave_149 ?_
                  refine w_13 C R (20 * o + j) dX7_leave_150 (by omega) (by omega) (Or.inl rfl) (fun h R => ?_)
                  refine Z.iinc (l' := [_, _, _, _]) C dX7_leave_151 rfl (Nat.le_of_ble_eq_true rfl) (by rw [hN]; decide) rfl ?_
                  refine Z.goto (tgt := 133) C dX7_leave_154 (by decide) ?_
                  exact ih2 (j + 1) h (by omega) (by rw [ml2]; exact R)
            exact L2 20 0 _ rfl (by rw [← show i = mM S by omega]; exact R)
          · exfalso; omega
        | succ q ih =>
          intro i h b9 hi R
          have e2 : ml1 (su S 3 o 0) o i 2 0 = S 2 0 := by rw [ml1_ne _ _ (by decide) (by decide)]; rfl
          refine Z.iload_n C dX7_leave_46 rfl ?_
          refine Z.aload_n C dX7_leave_47 rfl ?_
          refine g_X7_66 (v := vI (S 2 0)) C rfl dX7_leave_48 R.1 (congrArg (fun x => some (vI x)) e2) ?_
          refine Z.icmp_ge (tgt := 131) C dX7_leave_51 (by decide) (by omega) (by omega) (by omega) (by omega) (fun c51 => ?_) (fun c51 => ?_)
          · exfalso; omega
          · refine Z.aload_n C dX7_leave_54 rfl ?_
            refine g_X7_29 C rfl dX7_leave_55 R.1 rfl ?_
            refine Z.bipush C dX7_leave_58 (by decide) ?_
            refine Z.iload_n C dX7_leave_60 rfl ?_
            refine Z.imul C dX7_leave_61 ?_
            refine Z.iload_n C dX7_leave_62 rfl ?_
            refine Z.iadd C dX7_leave_63 ?_
            refine b_9 C R (10 * o + i) dX7_leave_64 (by omega) (by omega) (fun v64 e64 => ?_)
            subst e64
            refine Z.aload_n C dX7_leave_65 rfl ?_
            refine g_X7_29 C rfl dX7_leave_66 R.1 rfl ?_
            refine Z.bipush C dX7_leave_69 (by decide) ?_
            refine Z.iload_n C dX7_leave_71 rfl ?_
            refine Z.imul C dX7_leave_72 ?_
            refine Z.iload_n C dX7_leave_73 rfl ?_
            refine Z.iadd C dX7_leave_74 ?_
            refine b_9 C R (10 * i + o) dX7_leave_75 (by omega) (by omega) (fun v75 e75 => ?_)
            subst e75
            refine Z.isub C dX7_leave_76 ?_
            refine Z.istore (l' := [_, _, _, _, _]) C dX7_leave_77 (Nat.le_of_ble_eq_true rfl) (by rw [hN]; decide) rfl ?_
            refine Z.aload_n C dX7_leave_79 rfl ?_
            refine g_X7_23 C rfl dX7_leave_80 R.1 rfl ?_
            refine Z.iload_n C dX7_leave_83 rfl ?_
            refine Z.dup2 C dX7_leave_84 rfl rfl ?_
            refine a_7 C R o dX7_leave_85 (by omega) (by omega) (fun v85 e85 => ?_)
            subst e85
            refine Z.iload C dX7_leave_86 rfl ?_
            refine Z.isub C dX7_leave_88 ?_
            refine w_7 C R o dX7_leave_89 (by omega) (by omega) (fun h R => ?_)
            refine Z.aload_n C dX7_leave_90 rfl ?_
            refine g_X7_23 C rfl dX7_leave_91 R.1 rfl ?_
            refine Z.iload_n C dX7_leave_94 rfl ?_
            refine Z.dup2 C dX7_leave_95 rfl rfl ?_
            refine a_7 C R i dX7_leave_96 (by omega) (by omega) (fun v96 e96 => ?_)
            subst e96
            refine Z.iload C dX7_leave_97 rfl ?_
            refine Z.iadd C dX7_leave_99 ?_
            refine w_7 C R i dX7_leave_100 (by omega) (by omega) (fun h R => ?_)
            refine Z.aload_n C dX7_leave_101 rfl ?_
            refine g_X7_29 C rfl dX7_leave_102 R.1 rfl ?_
            refine Z.bipush C dX7_leave_105 (by decide) ?_
            refine Z.iload_n C dX7_leave_107 rfl ?_
            refine Z.imul C dX7_leave_108 ?_
            refine Z.iload_n C dX7_leave_109 rfl ?_
            refine Z.iadd C dX7_leave_110 ?_
            refine Z.iconst C dX7_leave_111 ?_
            refine w_9 C R (10 * o + i) dX7_leave_112 (by omega) (by omega) (fun h R => ?_)
            refine Z.aload_n C dX7_leave_113 rfl ?_
            refine g_X7_29 C rfl dX7_leave_114 R.1 rfl ?_
            refine Z.bipush C dX7_leave_117 (by decide) ?_
            refine Z.iload_n C dX7_leave_119 rfl ?_
            refine Z.imul C dX7_leave_120 ?_
            refine Z.iload_n C dX7_leave_121 rfl ?_
            refine Z.iadd C dX7_leave_122 ?_
            refine Z.iconst C dX7_leave_123 ?_
            refine w_9 C R (10 * i + o) dX7_leave_124 (by omega) (by omega) (fun h R => ?_)
            refine Z.iinc (l' := [_, _, _, _, _]) C dX7_leave_125 rfl (Nat.le_of_ble_eq_true rfl) (by rw [hN]; decide) rfl ?_
            refine Z.goto (tgt := 46) C dX7_leave_128 (by decide) ?_
            refine Z.pre (l' := [_, _, _, _]) 4 rfl ?_
            exact ih (i + 1) h 0 (by omega) (by rw [ml1]; exact R)
      exact L _ 0 _ 0 (Nat.zero_add _) R
    · refine Z.iconst C dX7_leave_35 ?_
      exact Z.iret C E dX7_leave_36 (Nat.le_refl _) (Nat.le_refl _) (mAns.no R hw1 (by omega))
  refine Z.aload_n C dX7_leave_6 rfl ?_
  refine Z.iload_n C dX7_leave_7 rfl ?_
  refine Z.if_ne (tgt := 15) C dX7_leave_8 (by decide) (by omega) (by omega) (fun c8 => ?_) (fun c8 => ?_)
  · refine Z.aload_n C dX7_leave_15 rfl ?_
    refine g_X7_7 C rfl dX7_leave_16 R.1 rfl ?_
    refine Z.iload_n C dX7_leave_19 rfl ?_
    refine a_3 C R I w.toNat dX7_leave_20 (by omega) (by omega) (fun v20 e20 b20 => ?_)
    refine Z.if_ne (tgt := 28) C dX7_leave_21 (by decide) (by omega) (by omega) (fun c21 => ?_) (fun c21 => ?_)
    · refine Z.iconst C dX7_leave_28 ?_
      exact J29 _ (by unfold cLeave; (repeat' split) <;> omega) (by omega) (by omega)
    · refine Z.iconst C dX7_leave_24 ?_
      refine Z.goto (tgt := 29) C dX7_leave_25 (by decide) ?_
      exact J29 _ (by unfold cLeave; (repeat' split) <;> omega) (by omega) (by omega)
  · refine Z.iconst C dX7_leave_11 ?_
    refine Z.goto (tgt := 29) C dX7_leave_12 (by decide) ?_
    exact J29 _ (by unfold cLeave; (repeat' split) <;> omega) (by omega) (by omega)

