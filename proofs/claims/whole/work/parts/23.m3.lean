set_option maxRecDepth 100000 in
theorem c_X7_many {ln : Launch} (htr : ln.stackTraces = false) {G : zG} {a : Nat → Nat} {t : Int} {S : Nat → Nat → Int} {h : zH} (R : MR G a t S h) (I : MB S)  : CT ln G yX7_many cX7_many 3 (some .int) 1 (.ref (a 0) :: []) h 0 0 (fun r9 h9 => r9 = some (vI (mmany S (mM S))) ∧ h9 = h) zNo := by
  refine CT.intro htr (by decide) rfl (Nat.le_of_ble_eq_true rfl) ?_
  intro X hln hG hR hN C E
  subst hln
  subst hG
  have b1 : 0 ≤ S 1 0 ∧ S 1 0 ≤ 2000 := I 1 0 (by decide)
  have b2 : 0 ≤ S 2 0 ∧ S 2 0 ≤ 10 := I 2 0 (by decide)
  have b10 : 0 ≤ S 10 0 ∧ S 10 0 ≤ 20 := I 10 0 (by decide)
  have b14 : 0 ≤ S 14 0 ∧ S 14 0 ≤ 300 := I 14 0 (by decide)
  have b15 : 0 ≤ S 15 0 ∧ S 15 0 ≤ 30 := I 15 0 (by decide)
  have hM : mM S = (S 2 0).toNat := rfl
  refine Z.iconst C dX7_many_0 ?_
  refine Z.istore_n (l' := [_, _]) C dX7_many_1 (Nat.le_of_ble_eq_true rfl) (by rw [hN]; decide) rfl ?_
  refine Z.iconst C dX7_many_2 ?_
  refine Z.istore_n (l' := [_, _, _]) C dX7_many_3 (Nat.le_of_ble_eq_true rfl) (by rw [hN]; decide) rfl ?_
  have L : ∀ (q i : Nat), i + q = mM S → Z X 4 [.ref (a 0), vI (mmany S i), vI (i : Int)] [] h 0 0 := by
    intro q
    induction q with
    | zero =>
      intro i hi
      have hM : mM S = (S 2 0).toNat := rfl
      have ab := mmany_b S i
      refine Z.iload_n C dX7_many_4 rfl ?_
      refine Z.aload_n C dX7_many_5 rfl ?_
      refine g_X7_66 (v := vI (S 2 0)) C rfl dX7_many_6 R.1 rfl ?_
      refine Z.icmp_ge (tgt := 35) C dX7_many_9 (by decide) (by omega) (by omega) (by omega) (by omega) (fun c9 => ?_) (fun c9 => ?_)
      · refine Z.iload_n C dX7_many_35 rfl ?_
        exact Z.iret C E dX7_many_36 (Nat.le_refl _) (Nat.le_refl _) ⟨by rw [show i = mM S by omega], rfl⟩
      · exfalso; omega
    | succ q ih =>
      intro i hi
      have hM : mM S = (S 2 0).toNat := rfl
      have ab := mmany_b S i
      refine Z.iload_n C dX7_many_4 rfl ?_
      refine Z.aload_n C dX7_many_5 rfl ?_
      refine g_X7_66 (v := vI (S 2 0)) C rfl dX7_many_6 R.1 rfl ?_
      refine Z.icmp_ge (tgt := 35) C dX7_many_9 (by decide) (by omega) (by omega) (by omega) (by omega) (fun c9 => ?_) (fun c9 => ?_)
      · exfalso; omega
      · refine Z.iload_n C dX7_many_12 rfl ?_
        refine Z.aload_n C dX7_many_13 rfl ?_
        refine g_X7_7 C rfl dX7_many_14 R.1 rfl ?_
        refine Z.iload_n C dX7_many_17 rfl ?_
        refine a_3 C R I _ dX7_many_18 rfl (by omega) (fun v18 e18 b18 => ?_)
        refine Z.if_eq (tgt := 26) C dX7_many_19 (by decide) (by omega) (by omega) (fun c19 => ?_) (fun c19 => ?_)
        · refine Z.iconst C dX7_many_26 ?_
          refine Z.iadd C dX7_many_27 ?_
          refine Z.istore_n (l' := [_, _, _]) C dX7_many_28 (Nat.le_of_ble_eq_true rfl) (by rw [hN]; decide) rfl ?_
          refine Z.iinc (l' := [_, _, _]) C dX7_many_29 rfl (Nat.le_of_ble_eq_true rfl) (by rw [hN]; decide) rfl ?_
          refine Z.goto (tgt := 4) C dX7_many_32 (by decide) ?_
          exact Z.cv (ih (i + 1) (by omega)) (by rw [mmany]; first | rw [if_pos (by omega)]; rfl | rw [if_neg (by omega)]; rfl)
        · refine Z.iconst C dX7_many_22 ?_
          refine Z.goto (tgt := 27) C dX7_many_23 (by decide) ?_
          refine Z.iadd C dX7_many_27 ?_
          refine Z.istore_n (l' := [_, _, _]) C dX7_many_28 (Nat.le_of_ble_eq_true rfl) (by rw [hN]; decide) rfl ?_
          refine Z.iinc (l' := [_, _, _]) C dX7_many_29 rfl (Nat.le_of_ble_eq_true rfl) (by rw [hN]; decide) rfl ?_
          refine Z.goto (tgt := 4) C dX7_many_32 (by decide) ?_
          exact Z.cv (ih (i + 1) (by omega)) (by rw [mmany]; first | rw [if_pos (by omega)]; rfl | rw [if_neg (by omega)]; rfl)
  exact L _ 0 (Nat.zero_add _)

set_option maxRecDepth 100000 in
theorem c_X7_voted {ln : Launch} (htr : ln.stackTraces = false) {G : zG} {a : Nat → Nat} {t : Int} {S : Nat → Nat → Int} {h : zH} (R : MR G a t S h) (I : MB S) {p : Nat} {w : Int} (hp : p < 30) (h1 : -2147483648 ≤ w ∧ w < 2147483648) : CT ln G yX7_voted cX7_voted 5 (some .int) 1 (.ref (a 0) :: [vI (p : Int), vI w]) h 0 0 (fun r9 h9 => r9 = some (vI (mvoted S p w (mM S))) ∧ h9 = h) zNo := by
  refine CT.intro htr (by decide) rfl (Nat.le_of_ble_eq_true rfl) ?_
  intro X hln hG hR hN C E
  subst hln
  subst hG
  have b1 : 0 ≤ S 1 0 ∧ S 1 0 ≤ 2000 := I 1 0 (by decide)
  have b2 : 0 ≤ S 2 0 ∧ S 2 0 ≤ 10 := I 2 0 (by decide)
  have b10 : 0 ≤ S 10 0 ∧ S 10 0 ≤ 20 := I 10 0 (by decide)
  have b14 : 0 ≤ S 14 0 ∧ S 14 0 ≤ 300 := I 14 0 (by decide)
  have b15 : 0 ≤ S 15 0 ∧ S 15 0 ≤ 30 := I 15 0 (by decide)
  have hM : mM S = (S 2 0).toNat := rfl
  refine Z.iconst C dX7_voted_0 ?_
  refine Z.istore_n (l' := [_, _, _, _]) C dX7_voted_1 (Nat.le_of_ble_eq_true rfl) (by rw [hN]; decide) rfl ?_
  refine Z.iconst C dX7_voted_2 ?_
  refine Z.istore (l' := [_, _, _, _, _]) C dX7_voted_3 (Nat.le_of_ble_eq_true rfl) (by rw [hN]; decide) rfl ?_
  have L : ∀ (q i : Nat), i + q = mM S → Z X 5 [.ref (a 0), vI (p : Int), vI w, vI (mvoted S p w i), vI (i : Int)] [] h 0 0 := by
    intro q
    induction q with
    | zero =>
      intro i hi
      have ab := mvoted_b S p w i
      refine Z.iload C dX7_voted_5 rfl ?_
      refine Z.aload_n C dX7_voted_7 rfl ?_
      refine g_X7_66 (v := vI (S 2 0)) C rfl dX7_voted_8 R.1 rfl ?_
      refine Z.icmp_ge (tgt := 54) C dX7_voted_11 (by decide) (by omega) (by omega) (by omega) (by omega) (fun c11 => ?_) (fun c11 => ?_)
      · refine Z.iload_n C dX7_voted_54 rfl ?_
        exact Z.iret C E dX7_voted_55 (Nat.le_refl _) (Nat.le_refl _) ⟨by rw [show i = mM S by omega], rfl⟩
      · exfalso; omega
    | succ q ih =>
      intro i hi
      have ab := mvoted_b S p w i
      refine Z.iload C dX7_voted_5 rfl ?_
      refine Z.aload_n C dX7_voted_7 rfl ?_
      refine g_X7_66 (v := vI (S 2 0)) C rfl dX7_voted_8 R.1 rfl ?_
      refine Z.icmp_ge (tgt := 54) C dX7_voted_11 (by decide) (by omega) (by omega) (by omega) (by omega) (fun c11 => ?_) (fun c11 => ?_)
      · exfalso; omega
      · refine Z.iload_n C dX7_voted_14 rfl ?_
        refine Z.aload_n C dX7_voted_15 rfl ?_
        refine g_X7_7 C rfl dX7_voted_16 R.1 rfl ?_
        refine Z.iload C dX7_voted_19 rfl ?_
        refine a_3 C R I _ dX7_voted_21 rfl (by omega) (fun v21 e21 b21 => ?_)
        refine Z.if_eq (tgt := 45) C dX7_voted_22 (by decide) (by omega) (by omega) (fun c22 => ?_) (fun c22 => ?_)
        · refine Z.iconst C dX7_voted_45 ?_
          refine Z.iadd C dX7_voted_46 ?_
          refine Z.istore_n (l' := [_, _, _, _, _]) C dX7_voted_47 (Nat.le_of_ble_eq_true rfl) (by rw [hN]; decide) rfl ?_
          refine Z.iinc (l' := [_, _, _, _, _]) C dX7_voted_48 rfl (Nat.le_of_ble_eq_true rfl) (by rw [hN]; decide) rfl ?_
          refine Z.goto (tgt := 5) C dX7_voted_51 (by decide) ?_
          exact Z.cv (ih (i + 1) (by omega)) (by rw [mvoted]; first | rw [if_pos (by omega)]; rfl | rw [if_neg (by omega)]; rfl)
        · refine Z.aload_n C dX7_voted_25 rfl ?_
          refine g_X7_53 C rfl dX7_voted_26 R.1 rfl ?_
          refine Z.bipush C dX7_voted_29 (by decide) ?_
          refine Z.iload_n C dX7_voted_31 rfl ?_
          refine Z.imul C dX7_voted_32 ?_
          refine Z.iload C dX7_voted_33 rfl ?_
          refine Z.iadd C dX7_voted_35 ?_
          refine a_20 C R I (10 * p + i) dX7_voted_36 (by omega) (by omega) (fun v36 e36 b36 => ?_)
          refine Z.iload_n C dX7_voted_37 rfl ?_
          refine Z.icmp_ne (tgt := 45) C dX7_voted_38 (by decide) (by omega) (by omega) (by omega) (by omega) (fun c38 => ?_) (fun c38 => ?_)
          · refine Z.iconst C dX7_voted_45 ?_
            refine Z.iadd C dX7_voted_46 ?_
            refine Z.istore_n (l' := [_, _, _, _, _]) C dX7_voted_47 (Nat.le_of_ble_eq_true rfl) (by rw [hN]; decide) rfl ?_
            refine Z.iinc (l' := [_, _, _, _, _]) C dX7_voted_48 rfl (Nat.le_of_ble_eq_true rfl) (by rw [hN]; decide) rfl ?_
            refine Z.goto (tgt := 5) C dX7_voted_51 (by decide) ?_
            exact Z.cv (ih (i + 1) (by omega)) (by rw [mvoted]; first | rw [if_pos (by omega)]; rfl | rw [if_neg (by omega)]; rfl)
          · refine Z.iconst C dX7_voted_41 ?_
            refine Z.goto (tgt := 46) C dX7_voted_42 (by decide) ?_
            refine Z.iadd C dX7_voted_46 ?_
            refine Z.istore_n (l' := [_, _, _, _, _]) C dX7_voted_47 (Nat.le_of_ble_eq_true rfl) (by rw [hN]; decide) rfl ?_
            refine Z.iinc (l' := [_, _, _, _, _]) C dX7_voted_48 rfl (Nat.le_of_ble_eq_true rfl) (by rw [hN]; decide) rfl ?_
            refine Z.goto (tgt := 5) C dX7_voted_51 (by decide) ?_
            exact Z.cv (ih (i + 1) (by omega)) (by rw [mvoted]; first | rw [if_pos (by omega)]; rfl | rw [if_neg (by omega)]; rfl)
  exact L _ 0 (Nat.zero_add _)

set_option maxRecDepth 100000 in
theorem c_X7_used {ln : Launch} (htr : ln.stackTraces = false) {G : zG} {a : Nat → Nat} {t : Int} {S : Nat → Nat → Int} {h : zH} (R : MR G a t S h) (I : MB S) {o : Nat} (ho : o < 10) : CT ln G yX7_used cX7_used 4 (some .int) 1 (.ref (a 0) :: [vI (o : Int)]) h 0 0 (fun r9 h9 => r9 = some (vI (mused S o (mF S))) ∧ h9 = h) zNo := by
  refine CT.intro htr (by decide) rfl (Nat.le_of_ble_eq_true rfl) ?_
  intro X hln hG hR hN C E
  subst hln
  subst hG
  have b1 : 0 ≤ S 1 0 ∧ S 1 0 ≤ 2000 := I 1 0 (by decide)
  have b2 : 0 ≤ S 2 0 ∧ S 2 0 ≤ 10 := I 2 0 (by decide)
  have b10 : 0 ≤ S 10 0 ∧ S 10 0 ≤ 20 := I 10 0 (by decide)
  have b14 : 0 ≤ S 14 0 ∧ S 14 0 ≤ 300 := I 14 0 (by decide)
  have b15 : 0 ≤ S 15 0 ∧ S 15 0 ≤ 30 := I 15 0 (by decide)
  have hM : mF S = (S 10 0).toNat := rfl
  refine Z.iconst C dX7_used_0 ?_
  refine Z.istore_n (l' := [_, _, _]) C dX7_used_1 (Nat.le_of_ble_eq_true rfl) (by rw [hN]; decide) rfl ?_
  refine Z.iconst C dX7_used_2 ?_
  refine Z.istore_n (l' := [_, _, _, _]) C dX7_used_3 (Nat.le_of_ble_eq_true rfl) (by rw [hN]; decide) rfl ?_
  have L : ∀ (q i : Nat), i + q = mF S → Z X 4 [.ref (a 0), vI (o : Int), vI (mused S o i), vI (i : Int)] [] h 0 0 := by
    intro q
    induction q with
    | zero =>
      intro i hi
      have ab := mused_b I o i
      refine Z.iload_n C dX7_used_4 rfl ?_
      refine Z.aload_n C dX7_used_5 rfl ?_
      refine g_X7_73 (v := vI (S 10 0)) C rfl dX7_used_6 R.1 rfl ?_
      refine Z.icmp_ge (tgt := 45) C dX7_used_9 (by decide) (by omega) (by omega) (by omega) (by omega) (fun c9 => ?_) (fun c9 => ?_)
      · refine Z.iload_n C dX7_used_45 rfl ?_
        exact Z.iret C E dX7_used_46 (Nat.le_refl _) (Nat.le_refl _) ⟨by rw [show i = mF S by omega], rfl⟩
      · exfalso; omega
    | succ q ih =>
      intro i hi
      have ab := mused_b I o i
      refine Z.iload_n C dX7_used_4 rfl ?_
      refine Z.aload_n C dX7_used_5 rfl ?_
      refine g_X7_73 (v := vI (S 10 0)) C rfl dX7_used_6 R.1 rfl ?_
      refine Z.icmp_ge (tgt := 45) C dX7_used_9 (by decide) (by omega) (by omega) (by omega) (by omega) (fun c9 => ?_) (fun c9 => ?_)
      · exfalso; omega
      · refine Z.iload_n C dX7_used_12 rfl ?_
        refine Z.aload_n C dX7_used_13 rfl ?_
        refine g_X7_38 C rfl dX7_used_14 R.1 rfl ?_
        refine Z.bipush C dX7_used_17 (by decide) ?_
        refine Z.iload_n C dX7_used_19 rfl ?_
        refine Z.imul C dX7_used_20 ?_
        refine Z.iload_n C dX7_used_21 rfl ?_
        refine Z.iadd C dX7_used_22 ?_
        refine a_13 C R I (20 * o + i) dX7_used_23 (by omega) (by omega) (fun v23 e23 b23 => ?_)
        refine Z.if_eq (tgt := 36) C dX7_used_24 (by decide) (by omega) (by omega) (fun c24 => ?_) (fun c24 => ?_)
        · refine Z.iconst C dX7_used_36 ?_
          refine Z.iadd C dX7_used_37 ?_
          refine Z.istore_n (l' := [_, _, _, _]) C dX7_used_38 (Nat.le_of_ble_eq_true rfl) (by rw [hN]; decide) rfl ?_
          refine Z.iinc (l' := [_, _, _, _]) C dX7_used_39 rfl (Nat.le_of_ble_eq_true rfl) (by rw [hN]; decide) rfl ?_
          refine Z.goto (tgt := 4) C dX7_used_42 (by decide) ?_
          exact Z.cv (ih (i + 1) (by omega)) (by rw [mused]; first | (rw [if_pos (by omega)]; rfl) | (rw [if_neg (by omega), ← e32]; rfl))
        · refine Z.aload_n C dX7_used_27 rfl ?_
          refine g_X7_32 C rfl dX7_used_28 R.1 rfl ?_
          refine Z.iload_n C dX7_used_31 rfl ?_
          refine a_11 C R I _ dX7_used_32 rfl (by omega) (fun v32 e32 b32 => ?_)
          refine Z.goto (tgt := 37) C dX7_used_33 (by decide) ?_
          refine Z.iadd C dX7_used_37 ?_
          refine Z.istore_n (l' := [_, _, _, _]) C dX7_used_38 (Nat.le_of_ble_eq_true rfl) (by rw [hN]; decide) rfl ?_
          refine Z.iinc (l' := [_, _, _, _]) C dX7_used_39 rfl (Nat.le_of_ble_eq_true rfl) (by rw [hN]; decide) rfl ?_
          refine Z.goto (tgt := 4) C dX7_used_42 (by decide) ?_
          exact Z.cv (ih (i + 1) (by omega)) (by rw [mused]; first | (rw [if_pos (by omega)]; rfl) | (rw [if_neg (by omega), ← e32]; rfl))
  exact L _ 0 (Nat.zero_add _)

set_option maxRecDepth 100000 in
theorem c_X7_all {ln : Launch} (htr : ln.stackTraces = false) {G : zG} {a : Nat → Nat} {t : Int} {S : Nat → Nat → Int} {h : zH} (R : MR G a t S h) (I : MB S)  : CT ln G yX7_all cX7_all 3 (some .int) 1 (.ref (a 0) :: []) h 0 0 (fun r9 h9 => r9 = some (vI (mall S (mM S))) ∧ h9 = h) zNo := by
  refine CT.intro htr (by decide) rfl (Nat.le_of_ble_eq_true rfl) ?_
  intro X hln hG hR hN C E
  subst hln
  subst hG
  have b1 : 0 ≤ S 1 0 ∧ S 1 0 ≤ 2000 := I 1 0 (by decide)
  have b2 : 0 ≤ S 2 0 ∧ S 2 0 ≤ 10 := I 2 0 (by decide)
  have b10 : 0 ≤ S 10 0 ∧ S 10 0 ≤ 20 := I 10 0 (by decide)
  have b14 : 0 ≤ S 14 0 ∧ S 14 0 ≤ 300 := I 14 0 (by decide)
  have b15 : 0 ≤ S 15 0 ∧ S 15 0 ≤ 30 := I 15 0 (by decide)
  have hM : mM S = (S 2 0).toNat := rfl
  refine Z.iconst C dX7_all_0 ?_
  refine Z.istore_n (l' := [_, _]) C dX7_all_1 (Nat.le_of_ble_eq_true rfl) (by rw [hN]; decide) rfl ?_
  refine Z.iconst C dX7_all_2 ?_
  refine Z.istore_n (l' := [_, _, _]) C dX7_all_3 (Nat.le_of_ble_eq_true rfl) (by rw [hN]; decide) rfl ?_
  have L : ∀ (q i : Nat), i + q = mM S → Z X 4 [.ref (a 0), vI (mall S i), vI (i : Int)] [] h 0 0 := by
    intro q
    induction q with
    | zero =>
      intro i hi
      have ab := mall_b I i
      refine Z.iload_n C dX7_all_4 rfl ?_
      refine Z.aload_n C dX7_all_5 rfl ?_
      refine g_X7_66 (v := vI (S 2 0)) C rfl dX7_all_6 R.1 rfl ?_
      refine Z.icmp_ge (tgt := 40) C dX7_all_9 (by decide) (by omega) (by omega) (by omega) (by omega) (fun c9 => ?_) (fun c9 => ?_)
      · refine Z.iload_n C dX7_all_40 rfl ?_
        exact Z.iret C E dX7_all_41 (Nat.le_refl _) (Nat.le_refl _) ⟨by rw [show i = mM S by omega], rfl⟩
      · exfalso; omega
    | succ q ih =>
      intro i hi
      have ab := mall_b I i
      refine Z.iload_n C dX7_all_4 rfl ?_
      refine Z.aload_n C dX7_all_5 rfl ?_
      refine g_X7_66 (v := vI (S 2 0)) C rfl dX7_all_6 R.1 rfl ?_
      refine Z.icmp_ge (tgt := 40) C dX7_all_9 (by decide) (by omega) (by omega) (by omega) (by omega) (fun c9 => ?_) (fun c9 => ?_)
      · exfalso; omega
      · refine Z.iload_n C dX7_all_12 rfl ?_
        refine Z.aload_n C dX7_all_13 rfl ?_
        refine g_X7_7 C rfl dX7_all_14 R.1 rfl ?_
        refine Z.iload_n C dX7_all_17 rfl ?_
        refine a_3 C R I _ dX7_all_18 rfl (by omega) (fun v18 e18 b18 => ?_)
        refine Z.if_eq (tgt := 31) C dX7_all_19 (by decide) (by omega) (by omega) (fun c19 => ?_) (fun c19 => ?_)
        · refine Z.iconst C dX7_all_31 ?_
          refine Z.iadd C dX7_all_32 ?_
          refine Z.istore_n (l' := [_, _, _]) C dX7_all_33 (Nat.le_of_ble_eq_true rfl) (by rw [hN]; decide) rfl ?_
          refine Z.iinc (l' := [_, _, _]) C dX7_all_34 rfl (Nat.le_of_ble_eq_true rfl) (by rw [hN]; decide) rfl ?_
          refine Z.goto (tgt := 4) C dX7_all_37 (by decide) ?_
          exact Z.cv (ih (i + 1) (by omega)) (by rw [mall]; first | (rw [if_pos (by omega)]; rfl) | (rw [if_neg (by omega), ← e27]; rfl))
        · refine Z.aload_n C dX7_all_22 rfl ?_
          refine g_X7_17 C rfl dX7_all_23 R.1 rfl ?_
          refine Z.iload_n C dX7_all_26 rfl ?_
          refine a_5 C R I _ dX7_all_27 rfl (by omega) (fun v27 e27 b27 => ?_)
          refine Z.goto (tgt := 32) C dX7_all_28 (by decide) ?_
          refine Z.iadd C dX7_all_32 ?_
          refine Z.istore_n (l' := [_, _, _]) C dX7_all_33 (Nat.le_of_ble_eq_true rfl) (by rw [hN]; decide) rfl ?_
          refine Z.iinc (l' := [_, _, _]) C dX7_all_34 rfl (Nat.le_of_ble_eq_true rfl) (by rw [hN]; decide) rfl ?_
          refine Z.goto (tgt := 4) C dX7_all_37 (by decide) ?_
          exact Z.cv (ih (i + 1) (by omega)) (by rw [mall]; first | (rw [if_pos (by omega)]; rfl) | (rw [if_neg (by omega), ← e27]; rfl))
  exact L _ 0 (Nat.zero_add _)

set_option maxRecDepth 100000 in
theorem c_X7_valueOf {ln : Launch} (htr : ln.stackTraces = false) {G : zG} {a : Nat → Nat} {t : Int} {S : Nat → Nat → Int} {h : zH} (R : MR G a t S h) (I : MB S) {w : Int} (h1 : -2147483648 ≤ w ∧ w < 2147483648) : CT ln G yX7_valueOf cX7_valueOf 5 (some .int) 1 (.ref (a 0) :: [vI w]) h 0 0 (fun r9 h9 => r9 = some (vI (mval S w)) ∧ h9 = h) zNo := by
  refine CT.intro htr (by decide) rfl (Nat.le_of_ble_eq_true rfl) ?_
  intro X hln hG hR hN C E
  subst hln
  subst hG
  have b1 : 0 ≤ S 1 0 ∧ S 1 0 ≤ 2000 := I 1 0 (by decide)
  have b2 : 0 ≤ S 2 0 ∧ S 2 0 ≤ 10 := I 2 0 (by decide)
  have b10 : 0 ≤ S 10 0 ∧ S 10 0 ≤ 20 := I 10 0 (by decide)
  have b14 : 0 ≤ S 14 0 ∧ S 14 0 ≤ 300 := I 14 0 (by decide)
  have b15 : 0 ≤ S 15 0 ∧ S 15 0 ≤ 30 := I 15 0 (by decide)
  have hM : mP S = (S 15 0).toNat := rfl
  refine Z.iconst C dX7_valueOf_0 ?_
  refine Z.istore_n (l' := [_, _, _]) C dX7_valueOf_1 (Nat.le_of_ble_eq_true rfl) (by rw [hN]; decide) rfl ?_
  refine Z.iconst C dX7_valueOf_2 ?_
  refine Z.istore_n (l' := [_, _, _, _]) C dX7_valueOf_3 (Nat.le_of_ble_eq_true rfl) (by rw [hN]; decide) rfl ?_
  have L : ∀ (q i : Nat), i + q = mP S → Z X 4 [.ref (a 0), vI w, vI (mvF S w i), vI (i : Int)] [] h 0 0 := by
    intro q
    induction q with
    | zero =>
      intro i hi
      have fb := mvF_b S w i
      refine Z.iload_n C dX7_valueOf_4 rfl ?_
      refine Z.aload_n C dX7_valueOf_5 rfl ?_
      refine g_X7_76 (v := vI (S 15 0)) C rfl dX7_valueOf_6 R.1 rfl ?_
      refine Z.icmp_ge (tgt := 89) C dX7_valueOf_9 (by decide) (by omega) (by omega) (by omega) (by omega) (fun c9 => ?_) (fun c9 => ?_)
      · refine Z.iload_n C dX7_valueOf_89 rfl ?_
        refine Z.iconst C dX7_valueOf_90 ?_
        refine Z.icmp_eq (tgt := 103) C dX7_valueOf_91 (by decide) (by omega) (by omega) (by omega) (by omega) (fun c91 => ?_) (fun c91 => ?_)
        · refine Z.iload_n C dX7_valueOf_103 rfl ?_
          refine Z.if_ne (tgt := 111) C dX7_valueOf_104 (by decide) (by omega) (by omega) (fun c104 => ?_) (fun c104 => ?_)
          · refine Z.iload_n C dX7_valueOf_111 rfl ?_
            refine Z.iconst C dX7_valueOf_112 ?_
            refine Z.icmp_ne (tgt := 120) C dX7_valueOf_113 (by decide) (by omega) (by omega) (by omega) (by omega) (fun c113 => ?_) (fun c113 => ?_)
            · refine Z.iconst C dX7_valueOf_120 ?_
              exact Z.iret C E dX7_valueOf_121 (Nat.le_refl _) (Nat.le_refl _) ⟨congrArg (fun z => some (vI z)) (by rw [show i = (S 15 0).toNat by omega] at *; unfold mval; (repeat' split) <;> omega), rfl⟩
            · refine Z.iconst C dX7_valueOf_116 ?_
              refine Z.goto (tgt := 121) C dX7_valueOf_117 (by decide) ?_
              exact Z.iret C E dX7_valueOf_121 (Nat.le_refl _) (Nat.le_refl _) ⟨congrArg (fun z => some (vI z)) (by rw [show i = (S 15 0).toNat by omega] at *; unfold mval; (repeat' split) <;> omega), rfl⟩
          · refine Z.iconst C dX7_valueOf_107 ?_
            refine Z.goto (tgt := 121) C dX7_valueOf_108 (by decide) ?_
            exact Z.iret C E dX7_valueOf_121 (Nat.le_refl _) (Nat.le_refl _) ⟨congrArg (fun z => some (vI z)) (by rw [show i = (S 15 0).toNat by omega] at *; unfold mval; (repeat' split) <;> omega), rfl⟩
        · refine Z.aload_n C dX7_valueOf_94 rfl ?_
          refine g_X7_47 C rfl dX7_valueOf_95 R.1 rfl ?_
          refine Z.iload_n C dX7_valueOf_98 rfl ?_
          refine a_18 C R I (mvF S w i).toNat dX7_valueOf_99 (by omega) (by omega) (fun v99 e99 b99 => ?_)
          refine Z.goto (tgt := 121) C dX7_valueOf_100 (by decide) ?_
          exact Z.iret C E dX7_valueOf_121 (Nat.le_refl _) (Nat.le_refl _) ⟨congrArg (fun z => some (vI z)) (by rw [show i = (S 15 0).toNat by omega] at *; unfold mval; (repeat' split) <;> omega), rfl⟩
      · exfalso; omega
    | succ q ih =>
      intro i hi
      have fb := mvF_b S w i
      refine Z.iload_n C dX7_valueOf_4 rfl ?_
      refine Z.aload_n C dX7_valueOf_5 rfl ?_
      refine g_X7_76 (v := vI (S 15 0)) C rfl dX7_valueOf_6 R.1 rfl ?_
      refine Z.icmp_ge (tgt := 89) C dX7_valueOf_9 (by decide) (by omega) (by omega) (by omega) (by omega) (fun c9 => ?_) (fun c9 => ?_)
      · exfalso; omega
      · have J50 : ∀ w9 : Int, 0 ≤ w9 ∧ w9 ≤ 1 → (w9 = 0 ↔ ¬ (S 16 i = 1 ∧ S 17 i = w ∧ S 19 i ≤ S 1 0)) → Z X 50 [.ref (a 0), vI w, vI (mvF S w i), vI (i : Int)] [vI w9] h 0 0 := by
          intro w9 hw1 hw2
          refine Z.istore (l' := [_, _, _, _, _]) C dX7_valueOf_50 (Nat.le_of_ble_eq_true rfl) (by rw [hN]; decide) rfl ?_
          refine Z.iload C dX7_valueOf_52 rfl ?_
          refine Z.if_eq (tgt := 81) C dX7_valueOf_54 (by decide) (by omega) (by omega) (fun c54 => ?_) (fun c54 => ?_)
          · refine Z.iload_n C dX7_valueOf_81 rfl ?_
            refine Z.istore_n (l' := [_, _, _, _, _]) C dX7_valueOf_82 (Nat.le_of_ble_eq_true rfl) (by rw [hN]; decide) rfl ?_
            refine Z.iinc (l' := [_, _, _, _, _]) C dX7_valueOf_83 rfl (Nat.le_of_ble_eq_true rfl) (by rw [hN]; decide) rfl ?_
            refine Z.goto (tgt := 4) C dX7_valueOf_86 (by decide) ?_
            refine Z.pre (l' := [_, _, _, _]) 4 rfl ?_
            exact Z.cv (ih (i + 1) (by omega)) (by rw [mvF]; first | (rw [if_pos (by omega)]; rfl) | (rw [if_neg (by omega)]; rfl))
          · refine Z.iload_n C dX7_valueOf_57 rfl ?_
            refine Z.iconst C dX7_valueOf_58 ?_
            refine Z.icmp_eq (tgt := 77) C dX7_valueOf_59 (by decide) (by omega) (by omega) (by omega) (by omega) (fun c59 => ?_) (fun c59 => ?_)
            · refine Z.iload_n C dX7_valueOf_77 rfl ?_
              refine Z.goto (tgt := 82) C dX7_valueOf_78 (by decide) ?_
              refine Z.istore_n (l' := [_, _, _, _, _]) C dX7_valueOf_82 (Nat.le_of_ble_eq_true rfl) (by rw [hN]; decide) rfl ?_
              refine Z.iinc (l' := [_, _, _, _, _]) C dX7_valueOf_83 rfl (Nat.le_of_ble_eq_true rfl) (by rw [hN]; decide) rfl ?_
              refine Z.goto (tgt := 4) C dX7_valueOf_86 (by decide) ?_
              refine Z.pre (l' := [_, _, _, _]) 4 rfl ?_
              exact Z.cv (ih (i + 1) (by omega)) (by rw [mvF]; first | (rw [if_pos (by omega)]; rfl) | (rw [if_neg (by omega)]; rfl))
            · refine Z.aload_n C dX7_valueOf_62 rfl ?_
              refine g_X7_50 C rfl dX7_valueOf_63 R.1 rfl ?_
              refine Z.iload_n C dX7_valueOf_66 rfl ?_
              refine a_19 C R I _ dX7_valueOf_67 rfl (by omega) (fun v67 e67 b67 => ?_)
              refine Z.aload_n C dX7_valueOf_68 rfl ?_
              refine g_X7_50 C rfl dX7_valueOf_69 R.1 rfl ?_
              refine Z.iload_n C dX7_valueOf_72 rfl ?_
              refine a_19 C R I (mvF S w i).toNat dX7_valueOf_73 (by omega) (by omega) (fun v73 e73 b73 => ?_)
              refine Z.icmp_lt (tgt := 81) C dX7_valueOf_74 (by decide) (by omega) (by omega) (by omega) (by omega) (fun c74 => ?_) (fun c74 => ?_)
              · refine Z.iload_n C dX7_valueOf_81 rfl ?_
                refine Z.istore_n (l' := [_, _, _, _, _]) C dX7_valueOf_82 (Nat.le_of_ble_eq_true rfl) (by rw [hN]; decide) rfl ?_
                refine Z.iinc (l' := [_, _, _, _, _]) C dX7_valueOf_83 rfl (Nat.le_of_ble_eq_true rfl) (by rw [hN]; decide) rfl ?_
                refine Z.goto (tgt := 4) C dX7_valueOf_86 (by decide) ?_
                refine Z.pre (l' := [_, _, _, _]) 4 rfl ?_
                exact Z.cv (ih (i + 1) (by omega)) (by rw [mvF]; first | (rw [if_pos (by omega)]; rfl) | (rw [if_neg (by omega)]; rfl))
              · refine Z.iload_n C dX7_valueOf_77 rfl ?_
                refine Z.goto (tgt := 82) C dX7_valueOf_78 (by decide) ?_
                refine Z.istore_n (l' := [_, _, _, _, _]) C dX7_valueOf_82 (Nat.le_of_ble_eq_true rfl) (by rw [hN]; decide) rfl ?_
                refine Z.iinc (l' := [_, _, _, _, _]) C dX7_valueOf_83 rfl (Nat.le_of_ble_eq_true rfl) (by rw [hN]; decide) rfl ?_
                refine Z.goto (tgt := 4) C dX7_valueOf_86 (by decide) ?_
                refine Z.pre (l' := [_, _, _, _]) 4 rfl ?_
                exact Z.cv (ih (i + 1) (by omega)) (by rw [mvF]; first | (rw [if_pos (by omega)]; rfl) | (rw [if_neg (by omega)]; rfl))
        refine Z.aload_n C dX7_valueOf_12 rfl ?_
        refine g_X7_41 C rfl dX7_valueOf_13 R.1 rfl ?_
        refine Z.iload_n C dX7_valueOf_16 rfl ?_
        refine a_16 C R I _ dX7_valueOf_17 rfl (by omega) (fun v17 e17 b17 => ?_)
        refine Z.iconst C dX7_valueOf_18 ?_
        refine Z.icmp_ne (tgt := 49) C dX7_valueOf_19 (by decide) (by omega) (by omega) (by omega) (by omega) (fun c19 => ?_) (fun c19 => ?_)
        · refine Z.iconst C dX7_valueOf_49 ?_
          exact J50 _ (by omega) (by omega)
        · refine Z.aload_n C dX7_valueOf_22 rfl ?_
          refine g_X7_44 C rfl dX7_valueOf_23 R.1 rfl ?_
          refine Z.iload_n C dX7_valueOf_26 rfl ?_
          refine a_17 C R I _ dX7_valueOf_27 rfl (by omega) (fun v27 e27 b27 => ?_)
          refine Z.iload_n C dX7_valueOf_28 rfl ?_
          refine Z.icmp_ne (tgt := 49) C dX7_valueOf_29 (by decide) (by omega) (by omega) (by omega) (by omega) (fun c29 => ?_) (fun c29 => ?_)
          · refine Z.iconst C dX7_valueOf_49 ?_
            exact J50 _ (by omega) (by omega)
          · refine Z.aload_n C dX7_valueOf_32 rfl ?_
            refine g_X7_50 C rfl dX7_valueOf_33 R.1 rfl ?_
            refine Z.iload_n C dX7_valueOf_36 rfl ?_
            refine a_19 C R I _ dX7_valueOf_37 rfl (by omega) (fun v37 e37 b37 => ?_)
            refine Z.aload_n C dX7_valueOf_38 rfl ?_
            refine g_X7_79 (v := vI (S 1 0)) C rfl dX7_valueOf_39 R.1 rfl ?_
            refine Z.icmp_gt (tgt := 49) C dX7_valueOf_42 (by decide) (by omega) (by omega) (by omega) (by omega) (fun c42 => ?_) (fun c42 => ?_)
            · refine Z.iconst C dX7_valueOf_49 ?_
              exact J50 _ (by omega) (by omega)
            · refine Z.iconst C dX7_valueOf_45 ?_
              refine Z.goto (tgt := 50) C dX7_valueOf_46 (by decide) ?_
              exact J50 _ (by omega) (by omega)
  exact L _ 0 (Nat.zero_add _)

