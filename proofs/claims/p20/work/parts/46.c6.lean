theorem zx_max : Cond.methodLink RX6 216 Lib.Math.max.name ∈ zW := zW_of 679 (by decide +kernel) (by decide +kernel)
theorem zx_min : Cond.methodLink RX6 290 Lib.Math.min.name ∈ zW := zW_of 548 (by decide +kernel) (by decide +kernel)
theorem jI_rng (x : Int32) : ∃ i : Int, (-2147483648 ≤ i ∧ i < 2147483648) ∧ jI i = x := ⟨x.toInt, ⟨Int32.le_toInt x, Int32.toInt_lt x⟩, Int32.ofInt_toInt x⟩

set_option maxRecDepth 100000 in
theorem c_X6_rule_ok {ln : Launch} (htr : ln.stackTraces = false) {G : zG} {h : zH} {ad : Nat → Nat → Nat} {el : Nat → Nat} {T : Nat → Nat → Int} (R : CR G ad el T h) (I : TB T) {r : Int} (h1 : 0 ≤ r ∧ r < 3) : CT ln G yX6_rule cX6_rule 2 (some .int) 7 ([.ref (ad 0 0), vI r]) h 1 6 (fun r9 h9 => r9 = some (vI (cval T r (T 1 0))) ∧ h9 = h) zNo := by
  refine CT.intro htr (by decide) rfl (Nat.le_of_ble_eq_true rfl) ?_
  intro X hln hG hR hN C E
  subst hln
  subst hG
  have hn9 := I.n
  have h1t : 0 ≤ T 1 0 ∧ T 1 0 ≤ thi 1 := I.1 1 0 (by decide) (by decide) (by decide)
  simp only [thi] at h1t
  refine Z.aload_n C dX6_rule_0 rfl ?_
  refine Z.iload_n C dX6_rule_1 rfl ?_
  refine v_X6_166 C rfl dX6_rule_2 (R.club) (c_X6_checkRule_ok htr h1) (by decide) (Nat.le_of_ble_eq_true rfl) (by rw [hR]; exact Nat.le_of_ble_eq_true rfl) (by rw [hR]; exact Nat.le_of_ble_eq_true rfl) (fun w2 h2 q2 => ?_) (fun _ _ q => q.elim)
  obtain ⟨rfl, q2⟩ := q2
  replace q2 := q2.symm
  subst q2
  refine Z.aload_n C dX6_rule_5 rfl ?_
  refine Z.iload_n C dX6_rule_6 rfl ?_
  refine Z.aload_n C dX6_rule_7 rfl ?_
  refine g_X6_25  C rfl dX6_rule_8 (R.club) rfl ?_
  refine v_X6_181 C rfl dX6_rule_11 (R.club) (c_X6_valueIn htr R I h1 (by omega)) (by decide) (Nat.le_of_ble_eq_true rfl) (by rw [hR]; exact Nat.le_of_ble_eq_true rfl) (by rw [hR]; exact Nat.le_of_ble_eq_true rfl) (fun w11 h11 q11 => ?_) (fun _ _ q => q.elim)
  obtain ⟨rfl, q11⟩ := q11
  replace q11 := q11.symm
  subst q11
  exact Z.iret C E dX6_rule_14 (by decide) (by decide) ⟨rfl, rfl⟩

set_option maxRecDepth 100000 in
theorem c_X6_rule_x1 {ln : Launch} (htr : ln.stackTraces = false) {G : zG} {h : zH} {ad : Nat → Nat → Nat} {el : Nat → Nat} {T : Nat → Nat → Int} (R : CR G ad el T h) (I : TB T) {r : Int} (hr : -2147483648 ≤ r ∧ r < 2147483648) (h1 : ¬ (0 ≤ r ∧ r < 3)) : CT ln G yX6_rule cX6_rule 2 (some .int) 7 ([.ref (ad 0 0), vI r]) h 1 6 (fun _ _ => False) (fun E9 h9 => E9 = "java/lang/IndexOutOfBoundsException" ∧ h9 = h) := by
  refine CT.intro htr (by decide) rfl (Nat.le_of_ble_eq_true rfl) ?_
  intro X hln hG hR hN C E
  subst hln
  subst hG
  have hn9 := I.n
  refine Z.aload_n C dX6_rule_0 rfl ?_
  refine Z.iload_n C dX6_rule_1 rfl ?_
  refine v_X6_166 C rfl dX6_rule_2 (R.club) (c_X6_checkRule_no htr hr h1) (by decide) (Nat.le_of_ble_eq_true rfl) (by rw [hR]; exact Nat.le_of_ble_eq_true rfl) (by rw [hR]; exact Nat.le_of_ble_eq_true rfl) (fun w2 h2 q2 => ?_) (fun E9 h9 q9 => by obtain ⟨rfl, rfl⟩ := q9; exact ZT.out C E (by decide) (by decide) ⟨rfl, rfl⟩)
  exact q2.elim
  

set_option maxRecDepth 100000 in
theorem c_X6_worth_ok {ln : Launch} (htr : ln.stackTraces = false) {G : zG} {h : zH} {ad : Nat → Nat → Nat} {el : Nat → Nat} {T : Nat → Nat → Int} (R : CR G ad el T h) (I : TB T) {f : Nat} (hf : f < cN T 1) : CT ln G yX6_worth cX6_worth 2 (some .int) 7 ([.ref (ad 0 0), vI (f : Int)]) h 1 6 (fun r9 h9 => r9 = some (vI (T 12 f)) ∧ h9 = h) zNo := by
  refine CT.intro htr (by decide) rfl (Nat.le_of_ble_eq_true rfl) ?_
  intro X hln hG hR hN C E
  subst hln
  subst hG
  have hn9 := I.n
  refine Z.aload_n C dX6_worth_0 rfl ?_
  refine Z.iload_n C dX6_worth_1 rfl ?_
  refine v_X6_118 C rfl dX6_worth_2 (R.club) (c_X6_filmAt_ok htr R I hf) (by decide) (Nat.le_of_ble_eq_true rfl) (by rw [hR]; exact Nat.le_of_ble_eq_true rfl) (by rw [hR]; exact Nat.le_of_ble_eq_true rfl) (fun w2 h2 q2 => ?_) (fun _ _ q => q.elim)
  obtain ⟨rfl, q2⟩ := q2
  replace q2 := q2.symm
  subst q2
  refine g_X6_139  C rfl dX6_worth_5 (R.fil hf) rfl ?_
  exact Z.iret C E dX6_worth_8 (by decide) (by decide) ⟨rfl, rfl⟩

set_option maxRecDepth 100000 in
theorem c_X6_worth_x1 {ln : Launch} (htr : ln.stackTraces = false) {G : zG} {h : zH} {ad : Nat → Nat → Nat} {el : Nat → Nat} {T : Nat → Nat → Int} (R : CR G ad el T h) (I : TB T) {f : Int} (hr : -2147483648 ≤ f ∧ f < 2147483648) (hf : ¬ (0 ≤ f ∧ f < cN T 1)) : CT ln G yX6_worth cX6_worth 2 (some .int) 7 ([.ref (ad 0 0), vI f]) h 1 6 (fun _ _ => False) (fun E9 h9 => E9 = "java/lang/IndexOutOfBoundsException" ∧ h9 = h) := by
  refine CT.intro htr (by decide) rfl (Nat.le_of_ble_eq_true rfl) ?_
  intro X hln hG hR hN C E
  subst hln
  subst hG
  have hn9 := I.n
  refine Z.aload_n C dX6_worth_0 rfl ?_
  refine Z.iload_n C dX6_worth_1 rfl ?_
  refine v_X6_118 C rfl dX6_worth_2 (R.club) (c_X6_filmAt_no htr R I hr hf) (by decide) (Nat.le_of_ble_eq_true rfl) (by rw [hR]; exact Nat.le_of_ble_eq_true rfl) (by rw [hR]; exact Nat.le_of_ble_eq_true rfl) (fun w2 h2 q2 => ?_) (fun E9 h9 q9 => by obtain ⟨rfl, rfl⟩ := q9; exact ZT.out C E (by decide) (by decide) ⟨rfl, rfl⟩)
  exact q2.elim
  

set_option maxRecDepth 100000 in
theorem c_X6_has_ok {ln : Launch} (htr : ln.stackTraces = false) {G : zG} {h : zH} {ad : Nat → Nat → Nat} {el : Nat → Nat} {T : Nat → Nat → Int} (R : CR G ad el T h) (I : TB T) {m f : Nat} (hm : m < cN T 0) (hf : f < cN T 1) : CT ln G yX6_has cX6_has 4 (some .boolean) 7 ([.ref (ad 0 0), vI (m : Int), vI (f : Int)]) h 1 6 (fun r9 h9 => r9 = some (vI (T 13 (20 * m + f))) ∧ h9 = h) zNo := by
  refine CT.intro htr (by decide) rfl (Nat.le_of_ble_eq_true rfl) ?_
  intro X hln hG hR hN C E
  subst hln
  subst hG
  have hn9 := I.n
  have h13 : 0 ≤ T 13 (20 * m + f) ∧ T 13 (20 * m + f) ≤ thi 13 := I.1 13 (20 * m + f) (by decide) (by decide) (by decide)
  simp only [thi] at h13
  have h13z : T 13 (20 * m + f) = 0 ∨ T 13 (20 * m + f) = 1 := by omega
  refine Z.aload_n C dX6_has_0 rfl ?_
  refine Z.iload_n C dX6_has_1 rfl ?_
  refine v_X6_163 C rfl dX6_has_2 (R.club) (c_X6_memberAt_ok htr R I hm) (by decide) (Nat.le_of_ble_eq_true rfl) (by rw [hR]; exact Nat.le_of_ble_eq_true rfl) (by rw [hR]; exact Nat.le_of_ble_eq_true rfl) (fun w2 h2 q2 => ?_) (fun _ _ q => q.elim)
  obtain ⟨rfl, q2⟩ := q2
  replace q2 := q2.symm
  subst q2
  refine Z.astore_n (l' := [_, _, _, _]) C dX6_has_5 (Nat.le_of_ble_eq_true rfl) (by rw [hN]; decide) rfl ?_
  refine Z.aload_n C dX6_has_6 rfl ?_
  refine Z.iload_n C dX6_has_7 rfl ?_
  refine v_X6_118 C rfl dX6_has_8 (R.club) (c_X6_filmAt_ok htr R I hf) (by decide) (Nat.le_of_ble_eq_true rfl) (by rw [hR]; exact Nat.le_of_ble_eq_true rfl) (by rw [hR]; exact Nat.le_of_ble_eq_true rfl) (fun w8 h8 q8 => ?_) (fun _ _ q => q.elim)
  obtain ⟨rfl, q8⟩ := q8
  replace q8 := q8.symm
  subst q8
  refine Z.pop C dX6_has_11 rfl ?_
  refine Z.aload_n C dX6_has_12 rfl ?_
  refine Z.iload_n C dX6_has_13 rfl ?_
  refine v_X6_209 C rfl dX6_has_14 (R.mem hm) (c_X3_holds htr (R.mem hm) (R.held hm) (i := f) (by omega) (by rw [row_at _ _ _ _ (by omega)]; omega)) (by decide) (Nat.le_of_ble_eq_true rfl) (by rw [hR]; exact Nat.le_of_ble_eq_true rfl) (by rw [hR]; exact Nat.le_of_ble_eq_true rfl) (fun w14 h14 q14 => ?_) (fun _ _ q => q.elim)
  obtain ⟨rfl, q14⟩ := q14
  replace q14 := q14.symm
  subst q14
  rw [row_at _ _ _ _ (by omega)]
  exact Z.zret C E dX6_has_17 (by rcases h13z with h | h <;> rw [h] <;> rfl) (by decide) (by decide) ⟨rfl, rfl⟩

set_option maxRecDepth 100000 in
theorem c_X6_has_x1 {ln : Launch} (htr : ln.stackTraces = false) {G : zG} {h : zH} {ad : Nat → Nat → Nat} {el : Nat → Nat} {T : Nat → Nat → Int} (R : CR G ad el T h) (I : TB T) {m f : Int} (hr : -2147483648 ≤ m ∧ m < 2147483648) (hm : ¬ (0 ≤ m ∧ m < cN T 0)) : CT ln G yX6_has cX6_has 4 (some .boolean) 7 ([.ref (ad 0 0), vI m, vI f]) h 1 6 (fun _ _ => False) (fun E9 h9 => E9 = "java/lang/IndexOutOfBoundsException" ∧ h9 = h) := by
  refine CT.intro htr (by decide) rfl (Nat.le_of_ble_eq_true rfl) ?_
  intro X hln hG hR hN C E
  subst hln
  subst hG
  have hn9 := I.n
  refine Z.aload_n C dX6_has_0 rfl ?_
  refine Z.iload_n C dX6_has_1 rfl ?_
  refine v_X6_163 C rfl dX6_has_2 (R.club) (c_X6_memberAt_no htr R I hr hm) (by decide) (Nat.le_of_ble_eq_true rfl) (by rw [hR]; exact Nat.le_of_ble_eq_true rfl) (by rw [hR]; exact Nat.le_of_ble_eq_true rfl) (fun w2 h2 q2 => ?_) (fun E9 h9 q9 => by obtain ⟨rfl, rfl⟩ := q9; exact ZT.out C E (by decide) (by decide) ⟨rfl, rfl⟩)
  exact q2.elim
  

set_option maxRecDepth 100000 in
theorem c_X6_has_x2 {ln : Launch} (htr : ln.stackTraces = false) {G : zG} {h : zH} {ad : Nat → Nat → Nat} {el : Nat → Nat} {T : Nat → Nat → Int} (R : CR G ad el T h) (I : TB T) {m : Nat} {f : Int} (hm : m < cN T 0) (hr : -2147483648 ≤ f ∧ f < 2147483648) (hf : ¬ (0 ≤ f ∧ f < cN T 1)) : CT ln G yX6_has cX6_has 4 (some .boolean) 7 ([.ref (ad 0 0), vI (m : Int), vI f]) h 1 6 (fun _ _ => False) (fun E9 h9 => E9 = "java/lang/IndexOutOfBoundsException" ∧ h9 = h) := by
  refine CT.intro htr (by decide) rfl (Nat.le_of_ble_eq_true rfl) ?_
  intro X hln hG hR hN C E
  subst hln
  subst hG
  have hn9 := I.n
  refine Z.aload_n C dX6_has_0 rfl ?_
  refine Z.iload_n C dX6_has_1 rfl ?_
  refine v_X6_163 C rfl dX6_has_2 (R.club) (c_X6_memberAt_ok htr R I hm) (by decide) (Nat.le_of_ble_eq_true rfl) (by rw [hR]; exact Nat.le_of_ble_eq_true rfl) (by rw [hR]; exact Nat.le_of_ble_eq_true rfl) (fun w2 h2 q2 => ?_) (fun _ _ q => q.elim)
  obtain ⟨rfl, q2⟩ := q2
  replace q2 := q2.symm
  subst q2
  refine Z.astore_n (l' := [_, _, _, _]) C dX6_has_5 (Nat.le_of_ble_eq_true rfl) (by rw [hN]; decide) rfl ?_
  refine Z.aload_n C dX6_has_6 rfl ?_
  refine Z.iload_n C dX6_has_7 rfl ?_
  refine v_X6_118 C rfl dX6_has_8 (R.club) (c_X6_filmAt_no htr R I hr hf) (by decide) (Nat.le_of_ble_eq_true rfl) (by rw [hR]; exact Nat.le_of_ble_eq_true rfl) (by rw [hR]; exact Nat.le_of_ble_eq_true rfl) (fun w8 h8 q8 => ?_) (fun E9 h9 q9 => by obtain ⟨rfl, rfl⟩ := q9; exact ZT.out C E (by decide) (by decide) ⟨rfl, rfl⟩)
  exact q8.elim
  

set_option maxRecDepth 100000 in
theorem c_X6_owes_ok {ln : Launch} (htr : ln.stackTraces = false) {G : zG} {h : zH} {ad : Nat → Nat → Nat} {el : Nat → Nat} {T : Nat → Nat → Int} (R : CR G ad el T h) (I : TB T) {m x : Nat} (hm : m < cN T 0) (hx : x < cN T 0) (hb : -10000 ≤ T 30 (10 * m + x) ∧ T 30 (10 * m + x) ≤ 10000) : CT ln G yX6_owes cX6_owes 4 (some .int) 7 ([.ref (ad 0 0), vI (m : Int), vI (x : Int)]) h 1 6 (fun r9 h9 => r9 = some (vI (if T 30 (10 * m + x) < 0 then 0 else T 30 (10 * m + x))) ∧ h9 = h) zNo := by
  refine CT.intro htr (by decide) rfl (Nat.le_of_ble_eq_true rfl) ?_
  intro X hln hG hR hN C E
  subst hln
  subst hG
  have hn9 := I.n
  refine Z.aload_n C dX6_owes_0 rfl ?_
  refine Z.iload_n C dX6_owes_1 rfl ?_
  refine v_X6_163 C rfl dX6_owes_2 (R.club) (c_X6_memberAt_ok htr R I hm) (by decide) (Nat.le_of_ble_eq_true rfl) (by rw [hR]; exact Nat.le_of_ble_eq_true rfl) (by rw [hR]; exact Nat.le_of_ble_eq_true rfl) (fun w2 h2 q2 => ?_) (fun _ _ q => q.elim)
  obtain ⟨rfl, q2⟩ := q2
  replace q2 := q2.symm
  subst q2
  refine Z.astore_n (l' := [_, _, _, _]) C dX6_owes_5 (Nat.le_of_ble_eq_true rfl) (by rw [hN]; decide) rfl ?_
  refine Z.aload_n C dX6_owes_6 rfl ?_
  refine Z.iload_n C dX6_owes_7 rfl ?_
  refine v_X6_163 C rfl dX6_owes_8 (R.club) (c_X6_memberAt_ok htr R I hx) (by decide) (Nat.le_of_ble_eq_true rfl) (by rw [hR]; exact Nat.le_of_ble_eq_true rfl) (by rw [hR]; exact Nat.le_of_ble_eq_true rfl) (fun w8 h8 q8 => ?_) (fun _ _ q => q.elim)
  obtain ⟨rfl, q8⟩ := q8
  replace q8 := q8.symm
  subst q8
  refine Z.pop C dX6_owes_11 rfl ?_
  refine Z.aload_n C dX6_owes_12 rfl ?_
  refine g_X6_100  C rfl dX6_owes_13 (R.mem hm) rfl ?_
  refine Z.iload_n C dX6_owes_16 rfl ?_
  refine v_X6_213 C rfl dX6_owes_17 (R.book hm) (c_X0_balanceWith htr (R.book hm) (R.bal hm) (by omega)) (by decide) (Nat.le_of_ble_eq_true rfl) (by rw [hR]; exact Nat.le_of_ble_eq_true rfl) (by rw [hR]; exact Nat.le_of_ble_eq_true rfl) (fun w17 h17 q17 => ?_) (fun _ _ q => q.elim)
  obtain ⟨rfl, q17⟩ := q17
  replace q17 := q17.symm
  subst q17
  rw [row_at _ _ _ _ (by omega)]
  refine Z.iconst C dX6_owes_20 ?_
  refine Z.mmax C zx_max zj_maxs zj_mathi zj_maxc dX6_owes_21 (by decide) (Nat.le_of_ble_eq_true rfl) (by rw [hR]; exact Nat.zero_le _) (by rw [hR]; exact Nat.zero_le _) (by omega) (by omega) (by omega) (by omega) ?_
  exact Z.iret C E dX6_owes_24 (by decide) (by decide) ⟨rfl, rfl⟩

set_option maxRecDepth 100000 in
theorem c_X6_owes_x1 {ln : Launch} (htr : ln.stackTraces = false) {G : zG} {h : zH} {ad : Nat → Nat → Nat} {el : Nat → Nat} {T : Nat → Nat → Int} (R : CR G ad el T h) (I : TB T) {m x : Int} (hr : -2147483648 ≤ m ∧ m < 2147483648) (hm : ¬ (0 ≤ m ∧ m < cN T 0)) : CT ln G yX6_owes cX6_owes 4 (some .int) 7 ([.ref (ad 0 0), vI m, vI x]) h 1 6 (fun _ _ => False) (fun E9 h9 => E9 = "java/lang/IndexOutOfBoundsException" ∧ h9 = h) := by
  refine CT.intro htr (by decide) rfl (Nat.le_of_ble_eq_true rfl) ?_
  intro X hln hG hR hN C E
  subst hln
  subst hG
  have hn9 := I.n
  refine Z.aload_n C dX6_owes_0 rfl ?_
  refine Z.iload_n C dX6_owes_1 rfl ?_
  refine v_X6_163 C rfl dX6_owes_2 (R.club) (c_X6_memberAt_no htr R I hr hm) (by decide) (Nat.le_of_ble_eq_true rfl) (by rw [hR]; exact Nat.le_of_ble_eq_true rfl) (by rw [hR]; exact Nat.le_of_ble_eq_true rfl) (fun w2 h2 q2 => ?_) (fun E9 h9 q9 => by obtain ⟨rfl, rfl⟩ := q9; exact ZT.out C E (by decide) (by decide) ⟨rfl, rfl⟩)
  exact q2.elim
  

set_option maxRecDepth 100000 in
theorem c_X6_owes_x2 {ln : Launch} (htr : ln.stackTraces = false) {G : zG} {h : zH} {ad : Nat → Nat → Nat} {el : Nat → Nat} {T : Nat → Nat → Int} (R : CR G ad el T h) (I : TB T) {m : Nat} {x : Int} (hm : m < cN T 0) (hr : -2147483648 ≤ x ∧ x < 2147483648) (hx : ¬ (0 ≤ x ∧ x < cN T 0)) : CT ln G yX6_owes cX6_owes 4 (some .int) 7 ([.ref (ad 0 0), vI (m : Int), vI x]) h 1 6 (fun _ _ => False) (fun E9 h9 => E9 = "java/lang/IndexOutOfBoundsException" ∧ h9 = h) := by
  refine CT.intro htr (by decide) rfl (Nat.le_of_ble_eq_true rfl) ?_
  intro X hln hG hR hN C E
  subst hln
  subst hG
  have hn9 := I.n
  refine Z.aload_n C dX6_owes_0 rfl ?_
  refine Z.iload_n C dX6_owes_1 rfl ?_
  refine v_X6_163 C rfl dX6_owes_2 (R.club) (c_X6_memberAt_ok htr R I hm) (by decide) (Nat.le_of_ble_eq_true rfl) (by rw [hR]; exact Nat.le_of_ble_eq_true rfl) (by rw [hR]; exact Nat.le_of_ble_eq_true rfl) (fun w2 h2 q2 => ?_) (fun _ _ q => q.elim)
  obtain ⟨rfl, q2⟩ := q2
  replace q2 := q2.symm
  subst q2
  refine Z.astore_n (l' := [_, _, _, _]) C dX6_owes_5 (Nat.le_of_ble_eq_true rfl) (by rw [hN]; decide) rfl ?_
  refine Z.aload_n C dX6_owes_6 rfl ?_
  refine Z.iload_n C dX6_owes_7 rfl ?_
  refine v_X6_163 C rfl dX6_owes_8 (R.club) (c_X6_memberAt_no htr R I hr hx) (by decide) (Nat.le_of_ble_eq_true rfl) (by rw [hR]; exact Nat.le_of_ble_eq_true rfl) (by rw [hR]; exact Nat.le_of_ble_eq_true rfl) (fun w8 h8 q8 => ?_) (fun E9 h9 q9 => by obtain ⟨rfl, rfl⟩ := q9; exact ZT.out C E (by decide) (by decide) ⟨rfl, rfl⟩)
  exact q8.elim
  

set_option maxRecDepth 100000 in
theorem c_X6_member_ok0 {ln : Launch} (htr : ln.stackTraces = false) {G : zG} {h : zH} {ad : Nat → Nat → Nat} {el : Nat → Nat} {T : Nat → Nat → Int} (R : CR G ad el T h) (I : TB T) {m : Nat} (hm : m < cN T 0) : CT ln G yX6_member cX6_member 4 (some .int) 7 ([.ref (ad 0 0), vI (m : Int), vI 0]) h 1 6 (fun r9 h9 => r9 = some (vI (T 3 m)) ∧ h9 = h) zNo := by
  refine CT.intro htr (by decide) rfl (Nat.le_of_ble_eq_true rfl) ?_
  intro X hln hG hR hN C E
  subst hln
  subst hG
  have hn9 := I.n
  have h3 : 0 ≤ T 3 m ∧ T 3 m ≤ thi 3 := I.1 3 m (by decide) (by decide) (by decide)
  simp only [thi] at h3
  refine Z.aload_n C dX6_member_0 rfl ?_
  refine Z.iload_n C dX6_member_1 rfl ?_
  refine v_X6_163 C rfl dX6_member_2 (R.club) (c_X6_memberAt_ok htr R I hm) (by decide) (Nat.le_of_ble_eq_true rfl) (by rw [hR]; exact Nat.le_of_ble_eq_true rfl) (by rw [hR]; exact Nat.le_of_ble_eq_true rfl) (fun w2 h2 q2 => ?_) (fun _ _ q => q.elim)
  obtain ⟨rfl, q2⟩ := q2
  replace q2 := q2.symm
  subst q2
  refine Z.astore_n (l' := [_, _, _, _]) C dX6_member_5 (Nat.le_of_ble_eq_true rfl) (by rw [hN]; decide) rfl ?_
  refine Z.aload_n C dX6_member_6 rfl ?_
  refine Z.iload_n C dX6_member_7 rfl ?_
  refine v_X6_185 C rfl dX6_member_8 (R.club) (c_X6_checkWhat_ok htr (by decide)) (by decide) (Nat.le_of_ble_eq_true rfl) (by rw [hR]; exact Nat.le_of_ble_eq_true rfl) (by rw [hR]; exact Nat.le_of_ble_eq_true rfl) (fun w8 h8 q8 => ?_) (fun _ _ q => q.elim)
  obtain ⟨rfl, q8⟩ := q8
  replace q8 := q8.symm
  subst q8
  refine Z.iload_n C dX6_member_11 rfl ?_
  refine Z.tblIn (tgt := 44) C dX6_member_12 (by decide) (by decide) (by decide) (by decide) rfl (by decide) ?_
  refine Z.aload_n C dX6_member_44 rfl ?_
  refine g_X6_198  C rfl dX6_member_45 (R.mem hm) rfl ?_
  refine Z.if_eq (tgt := 55) C dX6_member_48 (by decide) (by omega) (by omega) (fun c48 => ?_) (fun c48 => ?_)
  · refine Z.iconst C dX6_member_55 ?_
    exact Z.iret C E dX6_member_56 (by decide) (by decide) ⟨by first | (rw [show T 3 m = 1 by omega]; done) | rw [show T 3 m = 0 by omega], rfl⟩
  · refine Z.iconst C dX6_member_51 ?_
    refine Z.goto (tgt := 56) C dX6_member_52 (by decide) ?_
    exact Z.iret C E dX6_member_56 (by decide) (by decide) ⟨by first | (rw [show T 3 m = 1 by omega]; done) | rw [show T 3 m = 0 by omega], rfl⟩

set_option maxRecDepth 100000 in
theorem c_X6_member_ok1 {ln : Launch} (htr : ln.stackTraces = false) {G : zG} {h : zH} {ad : Nat → Nat → Nat} {el : Nat → Nat} {T : Nat → Nat → Int} (R : CR G ad el T h) (I : TB T) {m : Nat} (hm : m < cN T 0) : CT ln G yX6_member cX6_member 4 (some .int) 7 ([.ref (ad 0 0), vI (m : Int), vI 1]) h 1 6 (fun r9 h9 => r9 = some (vI (T 5 m)) ∧ h9 = h) zNo := by
  refine CT.intro htr (by decide) rfl (Nat.le_of_ble_eq_true rfl) ?_
  intro X hln hG hR hN C E
  subst hln
  subst hG
  have hn9 := I.n
  have h3 : 0 ≤ T 3 m ∧ T 3 m ≤ thi 3 := I.1 3 m (by decide) (by decide) (by decide)
  simp only [thi] at h3
  refine Z.aload_n C dX6_member_0 rfl ?_
  refine Z.iload_n C dX6_member_1 rfl ?_
  refine v_X6_163 C rfl dX6_member_2 (R.club) (c_X6_memberAt_ok htr R I hm) (by decide) (Nat.le_of_ble_eq_true rfl) (by rw [hR]; exact Nat.le_of_ble_eq_true rfl) (by rw [hR]; exact Nat.le_of_ble_eq_true rfl) (fun w2 h2 q2 => ?_) (fun _ _ q => q.elim)
  obtain ⟨rfl, q2⟩ := q2
  replace q2 := q2.symm
  subst q2
  refine Z.astore_n (l' := [_, _, _, _]) C dX6_member_5 (Nat.le_of_ble_eq_true rfl) (by rw [hN]; decide) rfl ?_
  refine Z.aload_n C dX6_member_6 rfl ?_
  refine Z.iload_n C dX6_member_7 rfl ?_
  refine v_X6_185 C rfl dX6_member_8 (R.club) (c_X6_checkWhat_ok htr (by decide)) (by decide) (Nat.le_of_ble_eq_true rfl) (by rw [hR]; exact Nat.le_of_ble_eq_true rfl) (by rw [hR]; exact Nat.le_of_ble_eq_true rfl) (fun w8 h8 q8 => ?_) (fun _ _ q => q.elim)
  obtain ⟨rfl, q8⟩ := q8
  replace q8 := q8.symm
  subst q8
  refine Z.iload_n C dX6_member_11 rfl ?_
  refine Z.tblIn (tgt := 57) C dX6_member_12 (by decide) (by decide) (by decide) (by decide) rfl (by decide) ?_
  refine Z.aload_n C dX6_member_57 rfl ?_
  refine g_X6_202  C rfl dX6_member_58 (R.mem hm) rfl ?_
  exact Z.iret C E dX6_member_61 (by decide) (by decide) ⟨rfl, rfl⟩

set_option maxRecDepth 100000 in
theorem c_X6_member_ok2 {ln : Launch} (htr : ln.stackTraces = false) {G : zG} {h : zH} {ad : Nat → Nat → Nat} {el : Nat → Nat} {T : Nat → Nat → Int} (R : CR G ad el T h) (I : TB T) {m : Nat} (hm : m < cN T 0) : CT ln G yX6_member cX6_member 4 (some .int) 7 ([.ref (ad 0 0), vI (m : Int), vI 2]) h 1 6 (fun r9 h9 => r9 = some (vI (cU T m 0 (cN T 1))) ∧ h9 = h) zNo := by
  refine CT.intro htr (by decide) rfl (Nat.le_of_ble_eq_true rfl) ?_
  intro X hln hG hR hN C E
  subst hln
  subst hG
  have hn9 := I.n
  have h3 : 0 ≤ T 3 m ∧ T 3 m ≤ thi 3 := I.1 3 m (by decide) (by decide) (by decide)
  simp only [thi] at h3
  refine Z.aload_n C dX6_member_0 rfl ?_
  refine Z.iload_n C dX6_member_1 rfl ?_
  refine v_X6_163 C rfl dX6_member_2 (R.club) (c_X6_memberAt_ok htr R I hm) (by decide) (Nat.le_of_ble_eq_true rfl) (by rw [hR]; exact Nat.le_of_ble_eq_true rfl) (by rw [hR]; exact Nat.le_of_ble_eq_true rfl) (fun w2 h2 q2 => ?_) (fun _ _ q => q.elim)
  obtain ⟨rfl, q2⟩ := q2
  replace q2 := q2.symm
  subst q2
  refine Z.astore_n (l' := [_, _, _, _]) C dX6_member_5 (Nat.le_of_ble_eq_true rfl) (by rw [hN]; decide) rfl ?_
  refine Z.aload_n C dX6_member_6 rfl ?_
  refine Z.iload_n C dX6_member_7 rfl ?_
  refine v_X6_185 C rfl dX6_member_8 (R.club) (c_X6_checkWhat_ok htr (by decide)) (by decide) (Nat.le_of_ble_eq_true rfl) (by rw [hR]; exact Nat.le_of_ble_eq_true rfl) (by rw [hR]; exact Nat.le_of_ble_eq_true rfl) (fun w8 h8 q8 => ?_) (fun _ _ q => q.elim)
  obtain ⟨rfl, q8⟩ := q8
  replace q8 := q8.symm
  subst q8
  refine Z.iload_n C dX6_member_11 rfl ?_
  refine Z.tblIn (tgt := 62) C dX6_member_12 (by decide) (by decide) (by decide) (by decide) rfl (by decide) ?_
  refine Z.aload_n C dX6_member_62 rfl ?_
  refine Z.aload_n C dX6_member_63 rfl ?_
  refine Z.iconst C dX6_member_64 ?_
  refine v_X6_205 C rfl dX6_member_65 (R.club) (c_X6_cachedUnits htr R I hm (by decide)) (by decide) (Nat.le_of_ble_eq_true rfl) (by rw [hR]; exact Nat.le_of_ble_eq_true rfl) (by rw [hR]; exact Nat.le_of_ble_eq_true rfl) (fun w65 h65 q65 => ?_) (fun _ _ q => q.elim)
  obtain ⟨rfl, q65⟩ := q65
  replace q65 := q65.symm
  subst q65
  exact Z.iret C E dX6_member_68 (by decide) (by decide) ⟨rfl, rfl⟩

set_option maxRecDepth 100000 in
theorem c_X6_member_ok3 {ln : Launch} (htr : ln.stackTraces = false) {G : zG} {h : zH} {ad : Nat → Nat → Nat} {el : Nat → Nat} {T : Nat → Nat → Int} (R : CR G ad el T h) (I : TB T) {m : Nat} (hm : m < cN T 0) : CT ln G yX6_member cX6_member 4 (some .int) 7 ([.ref (ad 0 0), vI (m : Int), vI 3]) h 1 6 (fun r9 h9 => r9 = some (vI (T 7 m)) ∧ h9 = h) zNo := by
  refine CT.intro htr (by decide) rfl (Nat.le_of_ble_eq_true rfl) ?_
  intro X hln hG hR hN C E
  subst hln
  subst hG
  have hn9 := I.n
  have h3 : 0 ≤ T 3 m ∧ T 3 m ≤ thi 3 := I.1 3 m (by decide) (by decide) (by decide)
  simp only [thi] at h3
  refine Z.aload_n C dX6_member_0 rfl ?_
  refine Z.iload_n C dX6_member_1 rfl ?_
  refine v_X6_163 C rfl dX6_member_2 (R.club) (c_X6_memberAt_ok htr R I hm) (by decide) (Nat.le_of_ble_eq_true rfl) (by rw [hR]; exact Nat.le_of_ble_eq_true rfl) (by rw [hR]; exact Nat.le_of_ble_eq_true rfl) (fun w2 h2 q2 => ?_) (fun _ _ q => q.elim)
  obtain ⟨rfl, q2⟩ := q2
  replace q2 := q2.symm
  subst q2
  refine Z.astore_n (l' := [_, _, _, _]) C dX6_member_5 (Nat.le_of_ble_eq_true rfl) (by rw [hN]; decide) rfl ?_
  refine Z.aload_n C dX6_member_6 rfl ?_
  refine Z.iload_n C dX6_member_7 rfl ?_
  refine v_X6_185 C rfl dX6_member_8 (R.club) (c_X6_checkWhat_ok htr (by decide)) (by decide) (Nat.le_of_ble_eq_true rfl) (by rw [hR]; exact Nat.le_of_ble_eq_true rfl) (by rw [hR]; exact Nat.le_of_ble_eq_true rfl) (fun w8 h8 q8 => ?_) (fun _ _ q => q.elim)
  obtain ⟨rfl, q8⟩ := q8
  replace q8 := q8.symm
  subst q8
  refine Z.iload_n C dX6_member_11 rfl ?_
  refine Z.tblIn (tgt := 69) C dX6_member_12 (by decide) (by decide) (by decide) (by decide) rfl (by decide) ?_
  refine Z.aload_n C dX6_member_69 rfl ?_
  refine g_X6_100  C rfl dX6_member_70 (R.mem hm) rfl ?_
  refine g_X6_104  C rfl dX6_member_73 (R.book hm) rfl ?_
  exact Z.iret C E dX6_member_76 (by decide) (by decide) ⟨rfl, rfl⟩

set_option maxRecDepth 100000 in
theorem c_X6_member_ok4 {ln : Launch} (htr : ln.stackTraces = false) {G : zG} {h : zH} {ad : Nat → Nat → Nat} {el : Nat → Nat} {T : Nat → Nat → Int} (R : CR G ad el T h) (I : TB T) {m : Nat} (hm : m < cN T 0) : CT ln G yX6_member cX6_member 4 (some .int) 7 ([.ref (ad 0 0), vI (m : Int), vI 4]) h 1 6 (fun r9 h9 => r9 = some (vI (T 8 m)) ∧ h9 = h) zNo := by
  refine CT.intro htr (by decide) rfl (Nat.le_of_ble_eq_true rfl) ?_
  intro X hln hG hR hN C E
  subst hln
  subst hG
  have hn9 := I.n
  have h3 : 0 ≤ T 3 m ∧ T 3 m ≤ thi 3 := I.1 3 m (by decide) (by decide) (by decide)
  simp only [thi] at h3
  refine Z.aload_n C dX6_member_0 rfl ?_
  refine Z.iload_n C dX6_member_1 rfl ?_
  refine v_X6_163 C rfl dX6_member_2 (R.club) (c_X6_memberAt_ok htr R I hm) (by decide) (Nat.le_of_ble_eq_true rfl) (by rw [hR]; exact Nat.le_of_ble_eq_true rfl) (by rw [hR]; exact Nat.le_of_ble_eq_true rfl) (fun w2 h2 q2 => ?_) (fun _ _ q => q.elim)
  obtain ⟨rfl, q2⟩ := q2
  replace q2 := q2.symm
  subst q2
  refine Z.astore_n (l' := [_, _, _, _]) C dX6_member_5 (Nat.le_of_ble_eq_true rfl) (by rw [hN]; decide) rfl ?_
  refine Z.aload_n C dX6_member_6 rfl ?_
  refine Z.iload_n C dX6_member_7 rfl ?_
  refine v_X6_185 C rfl dX6_member_8 (R.club) (c_X6_checkWhat_ok htr (by decide)) (by decide) (Nat.le_of_ble_eq_true rfl) (by rw [hR]; exact Nat.le_of_ble_eq_true rfl) (by rw [hR]; exact Nat.le_of_ble_eq_true rfl) (fun w8 h8 q8 => ?_) (fun _ _ q => q.elim)
  obtain ⟨rfl, q8⟩ := q8
  replace q8 := q8.symm
  subst q8
  refine Z.iload_n C dX6_member_11 rfl ?_
  refine Z.tblOut (tgt := 77) C dX6_member_12 (by decide) (by decide) (by decide) (by decide) ?_
  refine Z.aload_n C dX6_member_77 rfl ?_
  refine g_X6_138  C rfl dX6_member_78 (R.mem hm) rfl ?_
  exact Z.iret C E dX6_member_81 (by decide) (by decide) ⟨rfl, rfl⟩

set_option maxRecDepth 100000 in
theorem c_X6_member_x1 {ln : Launch} (htr : ln.stackTraces = false) {G : zG} {h : zH} {ad : Nat → Nat → Nat} {el : Nat → Nat} {T : Nat → Nat → Int} (R : CR G ad el T h) (I : TB T) {m w : Int} (hr : -2147483648 ≤ m ∧ m < 2147483648) (hm : ¬ (0 ≤ m ∧ m < cN T 0)) : CT ln G yX6_member cX6_member 4 (some .int) 7 ([.ref (ad 0 0), vI m, vI w]) h 1 6 (fun _ _ => False) (fun E9 h9 => E9 = "java/lang/IndexOutOfBoundsException" ∧ h9 = h) := by
  refine CT.intro htr (by decide) rfl (Nat.le_of_ble_eq_true rfl) ?_
  intro X hln hG hR hN C E
  subst hln
  subst hG
  have hn9 := I.n
  refine Z.aload_n C dX6_member_0 rfl ?_
  refine Z.iload_n C dX6_member_1 rfl ?_
  refine v_X6_163 C rfl dX6_member_2 (R.club) (c_X6_memberAt_no htr R I hr hm) (by decide) (Nat.le_of_ble_eq_true rfl) (by rw [hR]; exact Nat.le_of_ble_eq_true rfl) (by rw [hR]; exact Nat.le_of_ble_eq_true rfl) (fun w2 h2 q2 => ?_) (fun E9 h9 q9 => by obtain ⟨rfl, rfl⟩ := q9; exact ZT.out C E (by decide) (by decide) ⟨rfl, rfl⟩)
  exact q2.elim
  

set_option maxRecDepth 100000 in
theorem c_X6_member_x2 {ln : Launch} (htr : ln.stackTraces = false) {G : zG} {h : zH} {ad : Nat → Nat → Nat} {el : Nat → Nat} {T : Nat → Nat → Int} (R : CR G ad el T h) (I : TB T) {m : Nat} {w : Int} (hm : m < cN T 0) (hr : -2147483648 ≤ w ∧ w < 2147483648) (hw : ¬ (0 ≤ w ∧ w ≤ 4)) : CT ln G yX6_member cX6_member 4 (some .int) 7 ([.ref (ad 0 0), vI (m : Int), vI w]) h 1 6 (fun _ _ => False) (fun E9 h9 => E9 = "java/lang/IllegalArgumentException" ∧ h9 = h) := by
  refine CT.intro htr (by decide) rfl (Nat.le_of_ble_eq_true rfl) ?_
  intro X hln hG hR hN C E
  subst hln
  subst hG
  have hn9 := I.n
  refine Z.aload_n C dX6_member_0 rfl ?_
  refine Z.iload_n C dX6_member_1 rfl ?_
  refine v_X6_163 C rfl dX6_member_2 (R.club) (c_X6_memberAt_ok htr R I hm) (by decide) (Nat.le_of_ble_eq_true rfl) (by rw [hR]; exact Nat.le_of_ble_eq_true rfl) (by rw [hR]; exact Nat.le_of_ble_eq_true rfl) (fun w2 h2 q2 => ?_) (fun _ _ q => q.elim)
  obtain ⟨rfl, q2⟩ := q2
  replace q2 := q2.symm
  subst q2
  refine Z.astore_n (l' := [_, _, _, _]) C dX6_member_5 (Nat.le_of_ble_eq_true rfl) (by rw [hN]; decide) rfl ?_
  refine Z.aload_n C dX6_member_6 rfl ?_
  refine Z.iload_n C dX6_member_7 rfl ?_
  refine v_X6_185 C rfl dX6_member_8 (R.club) (c_X6_checkWhat_no htr hr hw) (by decide) (Nat.le_of_ble_eq_true rfl) (by rw [hR]; exact Nat.le_of_ble_eq_true rfl) (by rw [hR]; exact Nat.le_of_ble_eq_true rfl) (fun w8 h8 q8 => ?_) (fun E9 h9 q9 => by obtain ⟨rfl, rfl⟩ := q9; exact ZT.out C E (by decide) (by decide) ⟨rfl, rfl⟩)
  exact q8.elim
  

theorem row_b {T : Nat → Nat → Int} (I : TB T) {p : Nat} : ∀ j, 0 ≤ row T 20 10 p j ∧ row T 20 10 p j ≤ 2 := by
  intro j
  unfold row
  split
  · exact I.1 20 _ (by decide) (by decide) (by decide)
  · decide

set_option maxRecDepth 100000 in
theorem c_X6_proposal_ok0 {ln : Launch} (htr : ln.stackTraces = false) {G : zG} {h : zH} {ad : Nat → Nat → Nat} {el : Nat → Nat} {T : Nat → Nat → Int} (R : CR G ad el T h) (I : TB T) {p : Nat} (hp : p < cN T 2) : CT ln G yX6_proposal cX6_proposal 4 (some .int) 7 ([.ref (ad 0 0), vI (p : Int), vI 0]) h 1 6 (fun r9 h9 => r9 = some (vI (T 16 p)) ∧ h9 = h) zNo := by
  refine CT.intro htr (by decide) rfl (Nat.le_of_ble_eq_true rfl) ?_
  intro X hln hG hR hN C E
  subst hln
  subst hG
  have hn9 := I.n
  refine Z.aload_n C dX6_proposal_0 rfl ?_
  refine Z.iload_n C dX6_proposal_1 rfl ?_
  refine v_X6_175 C rfl dX6_proposal_2 (R.club) (c_X6_proposalAt_ok htr R I hp) (by decide) (Nat.le_of_ble_eq_true rfl) (by rw [hR]; exact Nat.le_of_ble_eq_true rfl) (by rw [hR]; exact Nat.le_of_ble_eq_true rfl) (fun w2 h2 q2 => ?_) (fun _ _ q => q.elim)
  obtain ⟨rfl, q2⟩ := q2
  replace q2 := q2.symm
  subst q2
  refine Z.astore_n (l' := [_, _, _, _]) C dX6_proposal_5 (Nat.le_of_ble_eq_true rfl) (by rw [hN]; decide) rfl ?_
  refine Z.aload_n C dX6_proposal_6 rfl ?_
  refine Z.iload_n C dX6_proposal_7 rfl ?_
  refine v_X6_185 C rfl dX6_proposal_8 (R.club) (c_X6_checkWhat_ok htr (by decide)) (by decide) (Nat.le_of_ble_eq_true rfl) (by rw [hR]; exact Nat.le_of_ble_eq_true rfl) (by rw [hR]; exact Nat.le_of_ble_eq_true rfl) (fun w8 h8 q8 => ?_) (fun _ _ q => q.elim)
  obtain ⟨rfl, q8⟩ := q8
  replace q8 := q8.symm
  subst q8
  refine Z.iload_n C dX6_proposal_11 rfl ?_
  refine Z.tblIn (tgt := 44) C dX6_proposal_12 (by decide) (by decide) (by decide) (by decide) rfl (by decide) ?_
  refine Z.aload_n C dX6_proposal_44 rfl ?_
  refine g_X6_90  C rfl dX6_proposal_45 (R.pro hp) rfl ?_
  exact Z.iret C E dX6_proposal_48 (by decide) (by decide) ⟨rfl, rfl⟩

set_option maxRecDepth 100000 in
theorem c_X6_proposal_ok1 {ln : Launch} (htr : ln.stackTraces = false) {G : zG} {h : zH} {ad : Nat → Nat → Nat} {el : Nat → Nat} {T : Nat → Nat → Int} (R : CR G ad el T h) (I : TB T) {p : Nat} (hp : p < cN T 2) : CT ln G yX6_proposal cX6_proposal 4 (some .int) 7 ([.ref (ad 0 0), vI (p : Int), vI 1]) h 1 6 (fun r9 h9 => r9 = some (vI (T 17 p)) ∧ h9 = h) zNo := by
  refine CT.intro htr (by decide) rfl (Nat.le_of_ble_eq_true rfl) ?_
  intro X hln hG hR hN C E
  subst hln
  subst hG
  have hn9 := I.n
  refine Z.aload_n C dX6_proposal_0 rfl ?_
  refine Z.iload_n C dX6_proposal_1 rfl ?_
  refine v_X6_175 C rfl dX6_proposal_2 (R.club) (c_X6_proposalAt_ok htr R I hp) (by decide) (Nat.le_of_ble_eq_true rfl) (by rw [hR]; exact Nat.le_of_ble_eq_true rfl) (by rw [hR]; exact Nat.le_of_ble_eq_true rfl) (fun w2 h2 q2 => ?_) (fun _ _ q => q.elim)
  obtain ⟨rfl, q2⟩ := q2
  replace q2 := q2.symm
  subst q2
  refine Z.astore_n (l' := [_, _, _, _]) C dX6_proposal_5 (Nat.le_of_ble_eq_true rfl) (by rw [hN]; decide) rfl ?_
  refine Z.aload_n C dX6_proposal_6 rfl ?_
  refine Z.iload_n C dX6_proposal_7 rfl ?_
  refine v_X6_185 C rfl dX6_proposal_8 (R.club) (c_X6_checkWhat_ok htr (by decide)) (by decide) (Nat.le_of_ble_eq_true rfl) (by rw [hR]; exact Nat.le_of_ble_eq_true rfl) (by rw [hR]; exact Nat.le_of_ble_eq_true rfl) (fun w8 h8 q8 => ?_) (fun _ _ q => q.elim)
  obtain ⟨rfl, q8⟩ := q8
  replace q8 := q8.symm
  subst q8
  refine Z.iload_n C dX6_proposal_11 rfl ?_
  refine Z.tblIn (tgt := 49) C dX6_proposal_12 (by decide) (by decide) (by decide) (by decide) rfl (by decide) ?_
  refine Z.aload_n C dX6_proposal_49 rfl ?_
  refine g_X6_188  C rfl dX6_proposal_50 (R.pro hp) rfl ?_
  exact Z.iret C E dX6_proposal_53 (by decide) (by decide) ⟨rfl, rfl⟩

set_option maxRecDepth 100000 in
theorem c_X6_proposal_ok2 {ln : Launch} (htr : ln.stackTraces = false) {G : zG} {h : zH} {ad : Nat → Nat → Nat} {el : Nat → Nat} {T : Nat → Nat → Int} (R : CR G ad el T h) (I : TB T) {p : Nat} (hp : p < cN T 2) : CT ln G yX6_proposal cX6_proposal 4 (some .int) 7 ([.ref (ad 0 0), vI (p : Int), vI 2]) h 1 6 (fun r9 h9 => r9 = some (vI (T 18 p)) ∧ h9 = h) zNo := by
  refine CT.intro htr (by decide) rfl (Nat.le_of_ble_eq_true rfl) ?_
  intro X hln hG hR hN C E
  subst hln
  subst hG
  have hn9 := I.n
  refine Z.aload_n C dX6_proposal_0 rfl ?_
  refine Z.iload_n C dX6_proposal_1 rfl ?_
  refine v_X6_175 C rfl dX6_proposal_2 (R.club) (c_X6_proposalAt_ok htr R I hp) (by decide) (Nat.le_of_ble_eq_true rfl) (by rw [hR]; exact Nat.le_of_ble_eq_true rfl) (by rw [hR]; exact Nat.le_of_ble_eq_true rfl) (fun w2 h2 q2 => ?_) (fun _ _ q => q.elim)
  obtain ⟨rfl, q2⟩ := q2
  replace q2 := q2.symm
  subst q2
  refine Z.astore_n (l' := [_, _, _, _]) C dX6_proposal_5 (Nat.le_of_ble_eq_true rfl) (by rw [hN]; decide) rfl ?_
  refine Z.aload_n C dX6_proposal_6 rfl ?_
  refine Z.iload_n C dX6_proposal_7 rfl ?_
  refine v_X6_185 C rfl dX6_proposal_8 (R.club) (c_X6_checkWhat_ok htr (by decide)) (by decide) (Nat.le_of_ble_eq_true rfl) (by rw [hR]; exact Nat.le_of_ble_eq_true rfl) (by rw [hR]; exact Nat.le_of_ble_eq_true rfl) (fun w8 h8 q8 => ?_) (fun _ _ q => q.elim)
  obtain ⟨rfl, q8⟩ := q8
  replace q8 := q8.symm
  subst q8
  refine Z.iload_n C dX6_proposal_11 rfl ?_
  refine Z.tblIn (tgt := 54) C dX6_proposal_12 (by decide) (by decide) (by decide) (by decide) rfl (by decide) ?_
  refine Z.aload_n C dX6_proposal_54 rfl ?_
  refine g_X6_191  C rfl dX6_proposal_55 (R.pro hp) rfl ?_
  exact Z.iret C E dX6_proposal_58 (by decide) (by decide) ⟨rfl, rfl⟩

set_option maxRecDepth 100000 in
theorem c_X6_proposal_ok3 {ln : Launch} (htr : ln.stackTraces = false) {G : zG} {h : zH} {ad : Nat → Nat → Nat} {el : Nat → Nat} {T : Nat → Nat → Int} (R : CR G ad el T h) (I : TB T) {p : Nat} (hp : p < cN T 2) : CT ln G yX6_proposal cX6_proposal 4 (some .int) 7 ([.ref (ad 0 0), vI (p : Int), vI 3]) h 1 6 (fun r9 h9 => r9 = some (vI (cV (row T 20 10 p) 1 10)) ∧ h9 = h) zNo := by
  refine CT.intro htr (by decide) rfl (Nat.le_of_ble_eq_true rfl) ?_
  intro X hln hG hR hN C E
  subst hln
  subst hG
  have hn9 := I.n
  refine Z.aload_n C dX6_proposal_0 rfl ?_
  refine Z.iload_n C dX6_proposal_1 rfl ?_
  refine v_X6_175 C rfl dX6_proposal_2 (R.club) (c_X6_proposalAt_ok htr R I hp) (by decide) (Nat.le_of_ble_eq_true rfl) (by rw [hR]; exact Nat.le_of_ble_eq_true rfl) (by rw [hR]; exact Nat.le_of_ble_eq_true rfl) (fun w2 h2 q2 => ?_) (fun _ _ q => q.elim)
  obtain ⟨rfl, q2⟩ := q2
  replace q2 := q2.symm
  subst q2
  refine Z.astore_n (l' := [_, _, _, _]) C dX6_proposal_5 (Nat.le_of_ble_eq_true rfl) (by rw [hN]; decide) rfl ?_
  refine Z.aload_n C dX6_proposal_6 rfl ?_
  refine Z.iload_n C dX6_proposal_7 rfl ?_
  refine v_X6_185 C rfl dX6_proposal_8 (R.club) (c_X6_checkWhat_ok htr (by decide)) (by decide) (Nat.le_of_ble_eq_true rfl) (by rw [hR]; exact Nat.le_of_ble_eq_true rfl) (by rw [hR]; exact Nat.le_of_ble_eq_true rfl) (fun w8 h8 q8 => ?_) (fun _ _ q => q.elim)
  obtain ⟨rfl, q8⟩ := q8
  replace q8 := q8.symm
  subst q8
  refine Z.iload_n C dX6_proposal_11 rfl ?_
  refine Z.tblIn (tgt := 59) C dX6_proposal_12 (by decide) (by decide) (by decide) (by decide) rfl (by decide) ?_
  refine Z.aload_n C dX6_proposal_59 rfl ?_
  refine Z.iconst C dX6_proposal_60 ?_
  refine v_X6_194 C rfl dX6_proposal_61 (R.pro hp) (c_X4_countVotes htr (R.pro hp) (R.vot hp) (row_b I) (by decide)) (by decide) (Nat.le_of_ble_eq_true rfl) (by rw [hR]; exact Nat.le_of_ble_eq_true rfl) (by rw [hR]; exact Nat.le_of_ble_eq_true rfl) (fun w61 h61 q61 => ?_) (fun _ _ q => q.elim)
  obtain ⟨rfl, q61⟩ := q61
  replace q61 := q61.symm
  subst q61
  exact Z.iret C E dX6_proposal_64 (by decide) (by decide) ⟨rfl, rfl⟩

set_option maxRecDepth 100000 in
theorem c_X6_proposal_ok4 {ln : Launch} (htr : ln.stackTraces = false) {G : zG} {h : zH} {ad : Nat → Nat → Nat} {el : Nat → Nat} {T : Nat → Nat → Int} (R : CR G ad el T h) (I : TB T) {p : Nat} (hp : p < cN T 2) : CT ln G yX6_proposal cX6_proposal 4 (some .int) 7 ([.ref (ad 0 0), vI (p : Int), vI 4]) h 1 6 (fun r9 h9 => r9 = some (vI (cV (row T 20 10 p) 2 10)) ∧ h9 = h) zNo := by
  refine CT.intro htr (by decide) rfl (Nat.le_of_ble_eq_true rfl) ?_
  intro X hln hG hR hN C E
  subst hln
  subst hG
  have hn9 := I.n
  refine Z.aload_n C dX6_proposal_0 rfl ?_
  refine Z.iload_n C dX6_proposal_1 rfl ?_
  refine v_X6_175 C rfl dX6_proposal_2 (R.club) (c_X6_proposalAt_ok htr R I hp) (by decide) (Nat.le_of_ble_eq_true rfl) (by rw [hR]; exact Nat.le_of_ble_eq_true rfl) (by rw [hR]; exact Nat.le_of_ble_eq_true rfl) (fun w2 h2 q2 => ?_) (fun _ _ q => q.elim)
  obtain ⟨rfl, q2⟩ := q2
  replace q2 := q2.symm
  subst q2
  refine Z.astore_n (l' := [_, _, _, _]) C dX6_proposal_5 (Nat.le_of_ble_eq_true rfl) (by rw [hN]; decide) rfl ?_
  refine Z.aload_n C dX6_proposal_6 rfl ?_
  refine Z.iload_n C dX6_proposal_7 rfl ?_
  refine v_X6_185 C rfl dX6_proposal_8 (R.club) (c_X6_checkWhat_ok htr (by decide)) (by decide) (Nat.le_of_ble_eq_true rfl) (by rw [hR]; exact Nat.le_of_ble_eq_true rfl) (by rw [hR]; exact Nat.le_of_ble_eq_true rfl) (fun w8 h8 q8 => ?_) (fun _ _ q => q.elim)
  obtain ⟨rfl, q8⟩ := q8
  replace q8 := q8.symm
  subst q8
  refine Z.iload_n C dX6_proposal_11 rfl ?_
  refine Z.tblOut (tgt := 65) C dX6_proposal_12 (by decide) (by decide) (by decide) (by decide) ?_
  refine Z.aload_n C dX6_proposal_65 rfl ?_
  refine Z.iconst C dX6_proposal_66 ?_
  refine v_X6_194 C rfl dX6_proposal_67 (R.pro hp) (c_X4_countVotes htr (R.pro hp) (R.vot hp) (row_b I) (by decide)) (by decide) (Nat.le_of_ble_eq_true rfl) (by rw [hR]; exact Nat.le_of_ble_eq_true rfl) (by rw [hR]; exact Nat.le_of_ble_eq_true rfl) (fun w67 h67 q67 => ?_) (fun _ _ q => q.elim)
  obtain ⟨rfl, q67⟩ := q67
  replace q67 := q67.symm
  subst q67
  exact Z.iret C E dX6_proposal_70 (by decide) (by decide) ⟨rfl, rfl⟩

set_option maxRecDepth 100000 in
theorem c_X6_proposal_x1 {ln : Launch} (htr : ln.stackTraces = false) {G : zG} {h : zH} {ad : Nat → Nat → Nat} {el : Nat → Nat} {T : Nat → Nat → Int} (R : CR G ad el T h) (I : TB T) {p w : Int} (hr : -2147483648 ≤ p ∧ p < 2147483648) (hp : ¬ (0 ≤ p ∧ p < cN T 2)) : CT ln G yX6_proposal cX6_proposal 4 (some .int) 7 ([.ref (ad 0 0), vI p, vI w]) h 1 6 (fun _ _ => False) (fun E9 h9 => E9 = "java/lang/IndexOutOfBoundsException" ∧ h9 = h) := by
  refine CT.intro htr (by decide) rfl (Nat.le_of_ble_eq_true rfl) ?_
  intro X hln hG hR hN C E
  subst hln
  subst hG
  have hn9 := I.n
  refine Z.aload_n C dX6_proposal_0 rfl ?_
  refine Z.iload_n C dX6_proposal_1 rfl ?_
  refine v_X6_175 C rfl dX6_proposal_2 (R.club) (c_X6_proposalAt_no htr R I hr hp) (by decide) (Nat.le_of_ble_eq_true rfl) (by rw [hR]; exact Nat.le_of_ble_eq_true rfl) (by rw [hR]; exact Nat.le_of_ble_eq_true rfl) (fun w2 h2 q2 => ?_) (fun E9 h9 q9 => by obtain ⟨rfl, rfl⟩ := q9; exact ZT.out C E (by decide) (by decide) ⟨rfl, rfl⟩)
  exact q2.elim
  

set_option maxRecDepth 100000 in
theorem c_X6_proposal_x2 {ln : Launch} (htr : ln.stackTraces = false) {G : zG} {h : zH} {ad : Nat → Nat → Nat} {el : Nat → Nat} {T : Nat → Nat → Int} (R : CR G ad el T h) (I : TB T) {p : Nat} {w : Int} (hp : p < cN T 2) (hr : -2147483648 ≤ w ∧ w < 2147483648) (hw : ¬ (0 ≤ w ∧ w ≤ 4)) : CT ln G yX6_proposal cX6_proposal 4 (some .int) 7 ([.ref (ad 0 0), vI (p : Int), vI w]) h 1 6 (fun _ _ => False) (fun E9 h9 => E9 = "java/lang/IllegalArgumentException" ∧ h9 = h) := by
  refine CT.intro htr (by decide) rfl (Nat.le_of_ble_eq_true rfl) ?_
  intro X hln hG hR hN C E
  subst hln
  subst hG
  have hn9 := I.n
  refine Z.aload_n C dX6_proposal_0 rfl ?_
  refine Z.iload_n C dX6_proposal_1 rfl ?_
  refine v_X6_175 C rfl dX6_proposal_2 (R.club) (c_X6_proposalAt_ok htr R I hp) (by decide) (Nat.le_of_ble_eq_true rfl) (by rw [hR]; exact Nat.le_of_ble_eq_true rfl) (by rw [hR]; exact Nat.le_of_ble_eq_true rfl) (fun w2 h2 q2 => ?_) (fun _ _ q => q.elim)
  obtain ⟨rfl, q2⟩ := q2
  replace q2 := q2.symm
  subst q2
  refine Z.astore_n (l' := [_, _, _, _]) C dX6_proposal_5 (Nat.le_of_ble_eq_true rfl) (by rw [hN]; decide) rfl ?_
  refine Z.aload_n C dX6_proposal_6 rfl ?_
  refine Z.iload_n C dX6_proposal_7 rfl ?_
  refine v_X6_185 C rfl dX6_proposal_8 (R.club) (c_X6_checkWhat_no htr hr hw) (by decide) (Nat.le_of_ble_eq_true rfl) (by rw [hR]; exact Nat.le_of_ble_eq_true rfl) (by rw [hR]; exact Nat.le_of_ble_eq_true rfl) (fun w8 h8 q8 => ?_) (fun E9 h9 q9 => by obtain ⟨rfl, rfl⟩ := q9; exact ZT.out C E (by decide) (by decide) ⟨rfl, rfl⟩)
  exact q8.elim
  

