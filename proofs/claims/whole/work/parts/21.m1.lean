def mb (p : Prop) [Decidable p] : Int := if p then 1 else 0
theorem mb_t {p : Prop} [Decidable p] (h : p) : mb p = 1 := if_pos h
theorem mb_f {p : Prop} [Decidable p] (h : ¬ p) : mb p = 0 := if_neg h
theorem mb_01 (p : Prop) [Decidable p] : mb p = 0 ∨ mb p = 1 := by
  by_cases h : p
  · exact Or.inr (mb_t h)
  · exact Or.inl (mb_f h)
theorem mb_b (p : Prop) [Decidable p] : 0 ≤ mb p ∧ mb p ≤ 1 := by rcases mb_01 p with h | h <;> omega
theorem mb_0 {p : Prop} [Decidable p] : mb p = 0 ↔ ¬ p := ⟨fun h q => absurd ((mb_t q).symm.trans h) (by decide), fun h => mb_f h⟩
theorem mb_n0 {p : Prop} [Decidable p] : ¬ mb p = 0 ↔ p := ⟨fun h => Classical.byContradiction fun q => h (mb_f q), fun h q => absurd ((mb_t h).symm.trans q) (by decide)⟩
theorem nar_z {x : Int} (h : x = 0 ∨ x = 1) : narrow .boolean (vI x) = vI x := by rcases h with rfl | rfl <;> decide

set_option maxRecDepth 100000 in
theorem c_X7_in {ln : Launch} (htr : ln.stackTraces = false) {G : zG} {h : zH} {v lo hi : Int} (h1 : -2147483648 ≤ v ∧ v < 2147483648) (h2 : -2147483648 ≤ lo ∧ lo < 2147483648) (h3 : -2147483648 ≤ hi ∧ hi < 2147483648) : CT ln G yX7_in cX7_in 3 (some .boolean) 1 ([vI v, vI lo, vI hi]) h 0 0 (fun r9 h9 => r9 = some (vI (mb (lo ≤ v ∧ v ≤ hi))) ∧ h9 = h) zNo := by
  refine CT.intro htr (by decide) rfl (Nat.le_of_ble_eq_true rfl) ?_
  intro X hln hG hR hN C E
  subst hln
  subst hG
  refine Z.iload_n C dX7_in_0 rfl ?_
  refine Z.iload_n C dX7_in_1 rfl ?_
  refine Z.icmp_lt (tgt := 14) C dX7_in_2 (by decide) (by omega) (by omega) (by omega) (by omega) (fun c2 => ?_) (fun c2 => ?_)
  · refine Z.iconst C dX7_in_14 ?_
    exact Z.zret C E dX7_in_15 (nar_z (by omega)) (Nat.le_refl _) (Nat.le_refl _) ⟨by first | rw [mb_t (by omega)] | rw [mb_f (by omega)], rfl⟩
  · refine Z.iload_n C dX7_in_5 rfl ?_
    refine Z.iload_n C dX7_in_6 rfl ?_
    refine Z.icmp_gt (tgt := 14) C dX7_in_7 (by decide) (by omega) (by omega) (by omega) (by omega) (fun c7 => ?_) (fun c7 => ?_)
    · refine Z.iconst C dX7_in_14 ?_
      exact Z.zret C E dX7_in_15 (nar_z (by omega)) (Nat.le_refl _) (Nat.le_refl _) ⟨by first | rw [mb_t (by omega)] | rw [mb_f (by omega)], rfl⟩
    · refine Z.iconst C dX7_in_10 ?_
      refine Z.goto (tgt := 15) C dX7_in_11 (by decide) ?_
      exact Z.zret C E dX7_in_15 (nar_z (by omega)) (Nat.le_refl _) (Nat.le_refl _) ⟨by first | rw [mb_t (by omega)] | rw [mb_f (by omega)], rfl⟩

set_option maxRecDepth 100000 in
theorem c_X7_refused {ln : Launch} (htr : ln.stackTraces = false) {G : zG} {a : Nat → Nat} {t : Int} {S : Nat → Nat → Int} {h : zH} (R : MR G a t S h) (I : MB S) {w : Int} (h1 : -2147483648 ≤ w ∧ w < 2147483648) : CT ln G yX7_refused cX7_refused 2 (some .boolean) 1 (.ref (a 0) :: [vI w]) h 0 0 (fun r9 h9 => r9 = some (vI (mb (¬ w = 0))) ∧ MR G a w (S) h9) zNo := by
  refine CT.intro htr (by decide) rfl (Nat.le_of_ble_eq_true rfl) ?_
  intro X hln hG hR hN C E
  subst hln
  subst hG
  have b1 : 0 ≤ S 1 0 ∧ S 1 0 ≤ 2000 := I 1 0 (by decide)
  have b2 : 0 ≤ S 2 0 ∧ S 2 0 ≤ 10 := I 2 0 (by decide)
  have b10 : 0 ≤ S 10 0 ∧ S 10 0 ≤ 20 := I 10 0 (by decide)
  have b14 : 0 ≤ S 14 0 ∧ S 14 0 ≤ 300 := I 14 0 (by decide)
  have b15 : 0 ≤ S 15 0 ∧ S 15 0 ≤ 30 := I 15 0 (by decide)
  refine Z.aload_n C dX7_refused_0 rfl ?_
  refine Z.iload_n C dX7_refused_1 rfl ?_
  refine w_0 C R rfl dX7_refused_2 (fun h R => ?_)
  refine Z.iload_n C dX7_refused_5 rfl ?_
  refine Z.if_eq (tgt := 13) C dX7_refused_6 (by decide) (by omega) (by omega) (fun c6 => ?_) (fun c6 => ?_)
  · refine Z.iconst C dX7_refused_13 ?_
    exact Z.zret C E dX7_refused_14 (nar_z (by omega)) (Nat.le_refl _) (Nat.le_refl _) ⟨by first | rw [mb_t (by omega)] | rw [mb_f (by omega)], R⟩
  · refine Z.iconst C dX7_refused_9 ?_
    refine Z.goto (tgt := 14) C dX7_refused_10 (by decide) ?_
    exact Z.zret C E dX7_refused_14 (nar_z (by omega)) (Nat.le_refl _) (Nat.le_refl _) ⟨by first | rw [mb_t (by omega)] | rw [mb_f (by omega)], R⟩

set_option maxRecDepth 100000 in
theorem c_X7_isMember {ln : Launch} (htr : ln.stackTraces = false) {G : zG} {a : Nat → Nat} {t : Int} {S : Nat → Nat → Int} {h : zH} (R : MR G a t S h) (I : MB S) {w : Int} (h1 : -2147483648 ≤ w ∧ w < 2147483648) : CT ln G yX7_isMember cX7_isMember 2 (some .boolean) 2 (.ref (a 0) :: [vI w]) h 0 0 (fun r9 h9 => r9 = some (vI (mb (0 ≤ w ∧ w ≤ S 2 0 - 1))) ∧ h9 = h) zNo := by
  refine CT.intro htr (by decide) rfl (Nat.le_of_ble_eq_true rfl) ?_
  intro X hln hG hR hN C E
  subst hln
  subst hG
  have b1 : 0 ≤ S 1 0 ∧ S 1 0 ≤ 2000 := I 1 0 (by decide)
  have b2 : 0 ≤ S 2 0 ∧ S 2 0 ≤ 10 := I 2 0 (by decide)
  have b10 : 0 ≤ S 10 0 ∧ S 10 0 ≤ 20 := I 10 0 (by decide)
  have b14 : 0 ≤ S 14 0 ∧ S 14 0 ≤ 300 := I 14 0 (by decide)
  have b15 : 0 ≤ S 15 0 ∧ S 15 0 ≤ 30 := I 15 0 (by decide)
  refine Z.iload_n C dX7_isMember_0 rfl ?_
  refine Z.iconst C dX7_isMember_1 ?_
  refine Z.aload_n C dX7_isMember_2 rfl ?_
  refine g_X7_66 (v := vI (S 2 0)) C rfl dX7_isMember_3 R.1 rfl ?_
  refine Z.iconst C dX7_isMember_6 ?_
  refine Z.isub C dX7_isMember_7 ?_
  refine s_X7_69 C rfl dX7_isMember_8 (c_X7_in htr h1 (by omega) (by omega)) (by decide) (Nat.le_of_ble_eq_true rfl) (by rw [hR]; exact Nat.le_refl _) (by rw [hR]; exact Nat.le_refl _) (fun w8 h8 q8 => ?_) (fun _ _ q => q.elim)
  obtain ⟨rfl, q8⟩ := q8
  replace q8 := q8.symm
  subst q8
  exact Z.zret C E dX7_isMember_11 (nar_z (mb_01 _)) (Nat.le_refl _) (Nat.le_refl _) ⟨rfl, rfl⟩

set_option maxRecDepth 100000 in
theorem c_X7_isFilm {ln : Launch} (htr : ln.stackTraces = false) {G : zG} {a : Nat → Nat} {t : Int} {S : Nat → Nat → Int} {h : zH} (R : MR G a t S h) (I : MB S) {w : Int} (h1 : -2147483648 ≤ w ∧ w < 2147483648) : CT ln G yX7_isFilm cX7_isFilm 2 (some .boolean) 2 (.ref (a 0) :: [vI w]) h 0 0 (fun r9 h9 => r9 = some (vI (mb (0 ≤ w ∧ w ≤ S 10 0 - 1))) ∧ h9 = h) zNo := by
  refine CT.intro htr (by decide) rfl (Nat.le_of_ble_eq_true rfl) ?_
  intro X hln hG hR hN C E
  subst hln
  subst hG
  have b1 : 0 ≤ S 1 0 ∧ S 1 0 ≤ 2000 := I 1 0 (by decide)
  have b2 : 0 ≤ S 2 0 ∧ S 2 0 ≤ 10 := I 2 0 (by decide)
  have b10 : 0 ≤ S 10 0 ∧ S 10 0 ≤ 20 := I 10 0 (by decide)
  have b14 : 0 ≤ S 14 0 ∧ S 14 0 ≤ 300 := I 14 0 (by decide)
  have b15 : 0 ≤ S 15 0 ∧ S 15 0 ≤ 30 := I 15 0 (by decide)
  refine Z.iload_n C dX7_isFilm_0 rfl ?_
  refine Z.iconst C dX7_isFilm_1 ?_
  refine Z.aload_n C dX7_isFilm_2 rfl ?_
  refine g_X7_73 (v := vI (S 10 0)) C rfl dX7_isFilm_3 R.1 rfl ?_
  refine Z.iconst C dX7_isFilm_6 ?_
  refine Z.isub C dX7_isFilm_7 ?_
  refine s_X7_69 C rfl dX7_isFilm_8 (c_X7_in htr h1 (by omega) (by omega)) (by decide) (Nat.le_of_ble_eq_true rfl) (by rw [hR]; exact Nat.le_refl _) (by rw [hR]; exact Nat.le_refl _) (fun w8 h8 q8 => ?_) (fun _ _ q => q.elim)
  obtain ⟨rfl, q8⟩ := q8
  replace q8 := q8.symm
  subst q8
  exact Z.zret C E dX7_isFilm_11 (nar_z (mb_01 _)) (Nat.le_refl _) (Nat.le_refl _) ⟨rfl, rfl⟩

set_option maxRecDepth 100000 in
theorem c_X7_isProposal {ln : Launch} (htr : ln.stackTraces = false) {G : zG} {a : Nat → Nat} {t : Int} {S : Nat → Nat → Int} {h : zH} (R : MR G a t S h) (I : MB S) {w : Int} (h1 : -2147483648 ≤ w ∧ w < 2147483648) : CT ln G yX7_isProposal cX7_isProposal 2 (some .boolean) 2 (.ref (a 0) :: [vI w]) h 0 0 (fun r9 h9 => r9 = some (vI (mb (0 ≤ w ∧ w ≤ S 15 0 - 1))) ∧ h9 = h) zNo := by
  refine CT.intro htr (by decide) rfl (Nat.le_of_ble_eq_true rfl) ?_
  intro X hln hG hR hN C E
  subst hln
  subst hG
  have b1 : 0 ≤ S 1 0 ∧ S 1 0 ≤ 2000 := I 1 0 (by decide)
  have b2 : 0 ≤ S 2 0 ∧ S 2 0 ≤ 10 := I 2 0 (by decide)
  have b10 : 0 ≤ S 10 0 ∧ S 10 0 ≤ 20 := I 10 0 (by decide)
  have b14 : 0 ≤ S 14 0 ∧ S 14 0 ≤ 300 := I 14 0 (by decide)
  have b15 : 0 ≤ S 15 0 ∧ S 15 0 ≤ 30 := I 15 0 (by decide)
  refine Z.iload_n C dX7_isProposal_0 rfl ?_
  refine Z.iconst C dX7_isProposal_1 ?_
  refine Z.aload_n C dX7_isProposal_2 rfl ?_
  refine g_X7_76 (v := vI (S 15 0)) C rfl dX7_isProposal_3 R.1 rfl ?_
  refine Z.iconst C dX7_isProposal_6 ?_
  refine Z.isub C dX7_isProposal_7 ?_
  refine s_X7_69 C rfl dX7_isProposal_8 (c_X7_in htr h1 (by omega) (by omega)) (by decide) (Nat.le_of_ble_eq_true rfl) (by rw [hR]; exact Nat.le_refl _) (by rw [hR]; exact Nat.le_refl _) (fun w8 h8 q8 => ?_) (fun _ _ q => q.elim)
  obtain ⟨rfl, q8⟩ := q8
  replace q8 := q8.symm
  subst q8
  exact Z.zret C E dX7_isProposal_11 (nar_z (mb_01 _)) (Nat.le_refl _) (Nat.le_refl _) ⟨rfl, rfl⟩

set_option maxRecDepth 100000 in
theorem c_X7_isRule {ln : Launch} (htr : ln.stackTraces = false) {G : zG} {h : zH} {w : Int} (h1 : -2147483648 ≤ w ∧ w < 2147483648) : CT ln G yX7_isRule cX7_isRule 1 (some .boolean) 2 ([vI w]) h 0 0 (fun r9 h9 => r9 = some (vI (mb (0 ≤ w ∧ w ≤ 2))) ∧ h9 = h) zNo := by
  refine CT.intro htr (by decide) rfl (Nat.le_of_ble_eq_true rfl) ?_
  intro X hln hG hR hN C E
  subst hln
  subst hG
  refine Z.iload_n C dX7_isRule_0 rfl ?_
  refine Z.iconst C dX7_isRule_1 ?_
  refine Z.iconst C dX7_isRule_2 ?_
  refine s_X7_69 C rfl dX7_isRule_3 (c_X7_in htr h1 (by omega) (by omega)) (by decide) (Nat.le_of_ble_eq_true rfl) (by rw [hR]; exact Nat.le_refl _) (by rw [hR]; exact Nat.le_refl _) (fun w3 h3 q3 => ?_) (fun _ _ q => q.elim)
  obtain ⟨rfl, q3⟩ := q3
  replace q3 := q3.symm
  subst q3
  exact Z.zret C E dX7_isRule_6 (nar_z (mb_01 _)) (Nat.le_refl _) (Nat.le_refl _) ⟨rfl, rfl⟩

