/-! bookAnew, accountAnew, owesAnew -/
/-- the book of m from the first e entries: account, balances -/
def bA (T : Nat → Nat → Int) (m : Nat) : Nat → Int × (Nat → Int)
  | 0 => (0, fun _ => 0)
  | e + 1 => (enA T e m (bA T m e).2 (bA T m e).1, enF T e m (bA T m e).2)

set_option maxRecDepth 100000 in
theorem c_X6_bookAnew_ok {ln : Launch} (htr : ln.stackTraces = false) {G : zG} {h : zH} {ad : Nat → Nat → Nat} {el : Nat → Nat} {T : Nat → Nat → Int} (R : CR G ad el T h) (I : TB T) {m : Nat} (hm : m < 10) : CT ln G yX6_bookAnew cX6_bookAnew 4 (some (.object "Bandwidthclub$Book")) 7 ([.ref (ad 0 0), vI (m : Int)]) h 2 13 (fun r9 h9 => ∃ a1 b1, r9 = some (.ref a1) ∧ h a1 = none ∧ h b1 = none ∧ b1 ≠ a1 ∧ h9 a1 = some (eO 2 [vI (m : Int), .ref b1, vI (bA T m (cN T 3)).1]) ∧ h9 b1 = some (eI (G.2.1 0) 10 (bA T m (cN T 3)).2) ∧ CR G ad el T h9) zNo := by
  refine CT.intro htr (by decide) rfl (Nat.le_of_ble_eq_true rfl) ?_
  intro X hln hG hR hN C E
  subst hln
  subst hG
  have hn9 := I.n
  refine n_X6_105 C rfl dX6_bookAnew_0 (by rw [hR]; exact Nat.le_of_ble_eq_true rfl) (by rw [hR]; exact Nat.le_of_ble_eq_true rfl) (fun a1 na => ?_)
  have hna := R.new na
  refine Z.dup C dX6_bookAnew_3 rfl ?_
  refine Z.iload_n C dX6_bookAnew_4 rfl ?_
  refine i_X6_314 C rfl dX6_bookAnew_5 (c_X0_init htr (zput_same _ _ _)) (by decide) (Nat.le_of_ble_eq_true rfl) (by rw [hR]; exact Nat.le_of_ble_eq_true rfl) (by rw [hR]; exact Nat.le_of_ble_eq_true rfl) (fun w5 h5 q5 => ?_)
  obtain ⟨rfl, b1, nb0, hba, p1, p2, p3⟩ := q5
  have nb : h b1 = none := by rw [zput_ne _ _ hba] at nb0; exact nb0
  have hnb := R.new nb
  have R1 := R.keep (h9 := h5) (fun q hq => (p3 q (fun z => R.own hq (by rw [z]; exact na)) (fun z => R.own hq (by rw [z]; exact nb))).trans (zput_ne _ _ (fun z => R.own hq (by rw [z]; exact na))))
  refine Z.astore_n (l' := [_, _, _]) C dX6_bookAnew_8 (Nat.le_of_ble_eq_true rfl) (by rw [hN]; decide) rfl ?_
  refine Z.iconst C dX6_bookAnew_9 ?_
  refine Z.istore_n (l' := [_, _, _, _]) C dX6_bookAnew_10 (Nat.le_of_ble_eq_true rfl) (by rw [hN]; decide) rfl ?_
  have L : ∀ (q i : Nat) (h : zH), i + q = cN T 3 → CR (zG_of X) ad el T h → h a1 = some (eO 2 [vI (m : Int), .ref b1, vI (bA T m i).1]) → h b1 = some (eI ((zG_of X).2.1 0) 10 (bA T m i).2) → Z X 11 [.ref (ad 0 0), vI (m : Int), .ref a1, vI (i : Int)] [] h 2 13 := by
    intro q
    induction q with
    | zero =>
      intro i h hi R p1 p2
      refine Z.iload_n C dX6_bookAnew_11 rfl ?_
      refine Z.aload_n C dX6_bookAnew_12 rfl ?_
      refine g_X6_22  C rfl dX6_bookAnew_13 (R.club) rfl ?_
      refine v_X6_41 C rfl dX6_bookAnew_16 (R.lEo.choose_spec) (c_size htr R.lE) (by decide) (Nat.le_of_ble_eq_true rfl) (by rw [hR]; exact Nat.le_of_ble_eq_true rfl) (by rw [hR]; exact Nat.le_of_ble_eq_true rfl) (fun w16 h16 q16 => ?_) (fun _ _ q => q.elim)
      obtain ⟨rfl, q16⟩ := q16
      replace q16 := q16.symm
      subst q16
      refine Z.icmp_ge (tgt := 44) C dX6_bookAnew_19 (by decide) (by omega) (by omega) (by omega) (by omega) (fun c19 => ?_) (fun c19 => ?_)
      · refine Z.aload_n C dX6_bookAnew_44 rfl ?_
        exact Z.aret C E (Or.inl ⟨_, rfl⟩) dX6_bookAnew_45 (by decide) (by decide) ⟨a1, b1, rfl, na, nb, hba, by rw [show cN T 3 = i by omega]; exact p1, by rw [show cN T 3 = i by omega]; exact p2, R⟩
      · exfalso; omega
    | succ q ih =>
      intro i h hi R p1 p2
      refine Z.iload_n C dX6_bookAnew_11 rfl ?_
      refine Z.aload_n C dX6_bookAnew_12 rfl ?_
      refine g_X6_22  C rfl dX6_bookAnew_13 (R.club) rfl ?_
      refine v_X6_41 C rfl dX6_bookAnew_16 (R.lEo.choose_spec) (c_size htr R.lE) (by decide) (Nat.le_of_ble_eq_true rfl) (by rw [hR]; exact Nat.le_of_ble_eq_true rfl) (by rw [hR]; exact Nat.le_of_ble_eq_true rfl) (fun w16 h16 q16 => ?_) (fun _ _ q => q.elim)
      obtain ⟨rfl, q16⟩ := q16
      replace q16 := q16.symm
      subst q16
      refine Z.icmp_ge (tgt := 44) C dX6_bookAnew_19 (by decide) (by omega) (by omega) (by omega) (by omega) (fun c19 => ?_) (fun c19 => ?_)
      · exfalso; omega
      · refine Z.aload_n C dX6_bookAnew_22 rfl ?_
        refine Z.aload_n C dX6_bookAnew_23 rfl ?_
        refine g_X6_22  C rfl dX6_bookAnew_24 (R.club) rfl ?_
        refine Z.iload_n C dX6_bookAnew_27 rfl ?_
        refine v_X6_84 C rfl dX6_bookAnew_28 (R.lEo.choose_spec) (c_getN htr R.lE (by omega)) (by decide) (Nat.le_of_ble_eq_true rfl) (by rw [hR]; exact Nat.le_of_ble_eq_true rfl) (by rw [hR]; exact Nat.le_of_ble_eq_true rfl) (fun w28 h28 q28 => ?_) (fun _ _ q => q.elim)
        obtain ⟨rfl, q28⟩ := q28
        replace q28 := q28.symm
        subst q28
        refine k_X6_66 C rfl dX6_bookAnew_31 (R.ent (by omega)) ?_
        refine Z.aload_n C dX6_bookAnew_34 rfl ?_
        refine v_X6_310 C rfl dX6_bookAnew_35 (R.club) (c_X6_enter_ok htr R I (e := i) (by omega) p1 p2 (fun z => hnb (Or.inl ⟨9, i, (show i < cN T 3 by omega), z.symm⟩)) hm) (by decide) (Nat.le_of_ble_eq_true rfl) (by rw [hR]; exact Nat.le_of_ble_eq_true rfl) (by rw [hR]; exact Nat.le_of_ble_eq_true rfl) (fun w35 h35 q35 => ?_) (fun _ _ q => q.elim)
        obtain ⟨rfl, q35⟩ := q35
        replace q35 := q35.symm
        subst q35
        refine Z.iinc (l' := [_, _, _, _]) C dX6_bookAnew_38 rfl (Nat.le_of_ble_eq_true rfl) (by rw [hN]; decide) rfl ?_
        refine Z.goto (tgt := 11) C dX6_bookAnew_41 (by decide) ?_
        refine ih (i + 1) _ (by omega) ((R.out hna _).out hnb _) ?_ ?_
        · exact (zput_ne _ _ hba.symm).trans (zput_same _ _ _)
        · exact zput_same _ _ _
  refine L _ 0 _ (Nat.zero_add _) R1 ?_ ?_
  · exact p1
  · exact p2

set_option maxRecDepth 100000 in
theorem c_X6_accountAnew_ok {ln : Launch} (htr : ln.stackTraces = false) {G : zG} {h : zH} {ad : Nat → Nat → Nat} {el : Nat → Nat} {T : Nat → Nat → Int} (R : CR G ad el T h) (I : TB T) {m : Nat} (hm : m < cN T 0) : CT ln G yX6_accountAnew cX6_accountAnew 2 (some .int) 8 ([.ref (ad 0 0), vI (m : Int)]) h 2 13 (fun r9 h9 => r9 = some (vI (bA T m (cN T 3)).1) ∧ CK G (ad 0 0) T h9) zNo := by
  refine CT.intro htr (by decide) rfl (Nat.le_of_ble_eq_true rfl) ?_
  intro X hln hG hR hN C E
  subst hln
  subst hG
  have hn9 := I.n
  refine Z.aload_n C dX6_accountAnew_0 rfl ?_
  refine Z.iload_n C dX6_accountAnew_1 rfl ?_
  refine v_X6_163 C rfl dX6_accountAnew_2 (R.club) (c_X6_memberAt_ok htr R I hm) (by decide) (Nat.le_of_ble_eq_true rfl) (by rw [hR]; exact Nat.le_of_ble_eq_true rfl) (by rw [hR]; exact Nat.le_of_ble_eq_true rfl) (fun w2 h2 q2 => ?_) (fun _ _ q => q.elim)
  obtain ⟨rfl, q2⟩ := q2
  replace q2 := q2.symm
  subst q2
  refine Z.pop C dX6_accountAnew_5 rfl ?_
  refine Z.aload_n C dX6_accountAnew_6 rfl ?_
  refine Z.iload_n C dX6_accountAnew_7 rfl ?_
  refine v_X6_221 C rfl dX6_accountAnew_8 (R.club) (c_X6_bookAnew_ok htr R I (m := m) (by omega)) (by decide) (Nat.le_of_ble_eq_true rfl) (by rw [hR]; exact Nat.le_of_ble_eq_true rfl) (by rw [hR]; exact Nat.le_of_ble_eq_true rfl) (fun w8 h8 q8 => ?_) (fun _ _ q => q.elim)
  obtain ⟨a1, b1, rfl, na, nb, hba, p1, p2, R1⟩ := q8
  refine g_X6_104  C rfl dX6_accountAnew_11 (p1) rfl ?_
  exact Z.iret C E dX6_accountAnew_14 (by decide) (by decide) ⟨rfl, ad, el, rfl, R1⟩

set_option maxRecDepth 100000 in
theorem c_X6_accountAnew_x1 {ln : Launch} (htr : ln.stackTraces = false) {G : zG} {h : zH} {ad : Nat → Nat → Nat} {el : Nat → Nat} {T : Nat → Nat → Int} (R : CR G ad el T h) (I : TB T) {m : Int} (hr : -2147483648 ≤ m ∧ m < 2147483648) (hm : ¬ (0 ≤ m ∧ m < cN T 0)) : CT ln G yX6_accountAnew cX6_accountAnew 2 (some .int) 8 ([.ref (ad 0 0), vI m]) h 2 13 (fun _ _ => False) (fun E9 h9 => E9 = "java/lang/IndexOutOfBoundsException" ∧ h9 = h) := by
  refine CT.intro htr (by decide) rfl (Nat.le_of_ble_eq_true rfl) ?_
  intro X hln hG hR hN C E
  subst hln
  subst hG
  have hn9 := I.n
  refine Z.aload_n C dX6_accountAnew_0 rfl ?_
  refine Z.iload_n C dX6_accountAnew_1 rfl ?_
  refine v_X6_163 C rfl dX6_accountAnew_2 (R.club) (c_X6_memberAt_no htr R I hr hm) (by decide) (Nat.le_of_ble_eq_true rfl) (by rw [hR]; exact Nat.le_of_ble_eq_true rfl) (by rw [hR]; exact Nat.le_of_ble_eq_true rfl) (fun w2 h2 q2 => ?_) (fun E9 h9 q9 => by obtain ⟨rfl, rfl⟩ := q9; exact ZT.out C E (by decide) (by decide) ⟨rfl, rfl⟩)
  exact q2.elim
  

set_option maxRecDepth 100000 in
theorem c_X6_owesAnew_ok {ln : Launch} (htr : ln.stackTraces = false) {G : zG} {h : zH} {ad : Nat → Nat → Nat} {el : Nat → Nat} {T : Nat → Nat → Int} (R : CR G ad el T h) (I : TB T) {m x : Nat} (hm : m < cN T 0) (hx : x < cN T 0) (hb : -10000 ≤ (bA T m (cN T 3)).2 x ∧ (bA T m (cN T 3)).2 x ≤ 10000) : CT ln G yX6_owesAnew cX6_owesAnew 3 (some .int) 8 ([.ref (ad 0 0), vI (m : Int), vI (x : Int)]) h 2 13 (fun r9 h9 => r9 = some (vI (if (bA T m (cN T 3)).2 x < 0 then 0 else (bA T m (cN T 3)).2 x)) ∧ CK G (ad 0 0) T h9) zNo := by
  refine CT.intro htr (by decide) rfl (Nat.le_of_ble_eq_true rfl) ?_
  intro X hln hG hR hN C E
  subst hln
  subst hG
  have hn9 := I.n
  refine Z.aload_n C dX6_owesAnew_0 rfl ?_
  refine Z.iload_n C dX6_owesAnew_1 rfl ?_
  refine v_X6_163 C rfl dX6_owesAnew_2 (R.club) (c_X6_memberAt_ok htr R I hm) (by decide) (Nat.le_of_ble_eq_true rfl) (by rw [hR]; exact Nat.le_of_ble_eq_true rfl) (by rw [hR]; exact Nat.le_of_ble_eq_true rfl) (fun w2 h2 q2 => ?_) (fun _ _ q => q.elim)
  obtain ⟨rfl, q2⟩ := q2
  replace q2 := q2.symm
  subst q2
  refine Z.pop C dX6_owesAnew_5 rfl ?_
  refine Z.aload_n C dX6_owesAnew_6 rfl ?_
  refine Z.iload_n C dX6_owesAnew_7 rfl ?_
  refine v_X6_163 C rfl dX6_owesAnew_8 (R.club) (c_X6_memberAt_ok htr R I hx) (by decide) (Nat.le_of_ble_eq_true rfl) (by rw [hR]; exact Nat.le_of_ble_eq_true rfl) (by rw [hR]; exact Nat.le_of_ble_eq_true rfl) (fun w8 h8 q8 => ?_) (fun _ _ q => q.elim)
  obtain ⟨rfl, q8⟩ := q8
  replace q8 := q8.symm
  subst q8
  refine Z.pop C dX6_owesAnew_11 rfl ?_
  refine Z.aload_n C dX6_owesAnew_12 rfl ?_
  refine Z.iload_n C dX6_owesAnew_13 rfl ?_
  refine v_X6_221 C rfl dX6_owesAnew_14 (R.club) (c_X6_bookAnew_ok htr R I (m := m) (by omega)) (by decide) (Nat.le_of_ble_eq_true rfl) (by rw [hR]; exact Nat.le_of_ble_eq_true rfl) (by rw [hR]; exact Nat.le_of_ble_eq_true rfl) (fun w14 h14 q14 => ?_) (fun _ _ q => q.elim)
  obtain ⟨a1, b1, rfl, na, nb, hba, p1, p2, R1⟩ := q14
  refine Z.iload_n C dX6_owesAnew_17 rfl ?_
  refine v_X6_213 C rfl dX6_owesAnew_18 (p1) (c_X0_balanceWith htr p1 p2 (by omega)) (by decide) (Nat.le_of_ble_eq_true rfl) (by rw [hR]; exact Nat.le_of_ble_eq_true rfl) (by rw [hR]; exact Nat.le_of_ble_eq_true rfl) (fun w18 h18 q18 => ?_) (fun _ _ q => q.elim)
  obtain ⟨rfl, q18⟩ := q18
  replace q18 := q18.symm
  subst q18
  refine Z.iconst C dX6_owesAnew_21 ?_
  refine Z.mmax C zx_max zj_maxs zj_mathi zj_maxc dX6_owesAnew_22 (by decide) (Nat.le_of_ble_eq_true rfl) (by rw [hR]; exact Nat.le_of_ble_eq_true rfl) (by rw [hR]; exact Nat.le_of_ble_eq_true rfl) (by omega) (by omega) (by omega) (by omega) ?_
  exact Z.iret C E dX6_owesAnew_25 (by decide) (by decide) ⟨rfl, ad, el, rfl, R1⟩

set_option maxRecDepth 100000 in
theorem c_X6_owesAnew_x1 {ln : Launch} (htr : ln.stackTraces = false) {G : zG} {h : zH} {ad : Nat → Nat → Nat} {el : Nat → Nat} {T : Nat → Nat → Int} (R : CR G ad el T h) (I : TB T) {m x : Int} (hr : -2147483648 ≤ m ∧ m < 2147483648) (hm : ¬ (0 ≤ m ∧ m < cN T 0)) : CT ln G yX6_owesAnew cX6_owesAnew 3 (some .int) 8 ([.ref (ad 0 0), vI m, vI x]) h 2 13 (fun _ _ => False) (fun E9 h9 => E9 = "java/lang/IndexOutOfBoundsException" ∧ h9 = h) := by
  refine CT.intro htr (by decide) rfl (Nat.le_of_ble_eq_true rfl) ?_
  intro X hln hG hR hN C E
  subst hln
  subst hG
  have hn9 := I.n
  refine Z.aload_n C dX6_owesAnew_0 rfl ?_
  refine Z.iload_n C dX6_owesAnew_1 rfl ?_
  refine v_X6_163 C rfl dX6_owesAnew_2 (R.club) (c_X6_memberAt_no htr R I hr hm) (by decide) (Nat.le_of_ble_eq_true rfl) (by rw [hR]; exact Nat.le_of_ble_eq_true rfl) (by rw [hR]; exact Nat.le_of_ble_eq_true rfl) (fun w2 h2 q2 => ?_) (fun E9 h9 q9 => by obtain ⟨rfl, rfl⟩ := q9; exact ZT.out C E (by decide) (by decide) ⟨rfl, rfl⟩)
  exact q2.elim
  

set_option maxRecDepth 100000 in
theorem c_X6_owesAnew_x2 {ln : Launch} (htr : ln.stackTraces = false) {G : zG} {h : zH} {ad : Nat → Nat → Nat} {el : Nat → Nat} {T : Nat → Nat → Int} (R : CR G ad el T h) (I : TB T) {m : Nat} {x : Int} (hm : m < cN T 0) (hr : -2147483648 ≤ x ∧ x < 2147483648) (hx : ¬ (0 ≤ x ∧ x < cN T 0)) : CT ln G yX6_owesAnew cX6_owesAnew 3 (some .int) 8 ([.ref (ad 0 0), vI (m : Int), vI x]) h 2 13 (fun _ _ => False) (fun E9 h9 => E9 = "java/lang/IndexOutOfBoundsException" ∧ h9 = h) := by
  refine CT.intro htr (by decide) rfl (Nat.le_of_ble_eq_true rfl) ?_
  intro X hln hG hR hN C E
  subst hln
  subst hG
  have hn9 := I.n
  refine Z.aload_n C dX6_owesAnew_0 rfl ?_
  refine Z.iload_n C dX6_owesAnew_1 rfl ?_
  refine v_X6_163 C rfl dX6_owesAnew_2 (R.club) (c_X6_memberAt_ok htr R I hm) (by decide) (Nat.le_of_ble_eq_true rfl) (by rw [hR]; exact Nat.le_of_ble_eq_true rfl) (by rw [hR]; exact Nat.le_of_ble_eq_true rfl) (fun w2 h2 q2 => ?_) (fun _ _ q => q.elim)
  obtain ⟨rfl, q2⟩ := q2
  replace q2 := q2.symm
  subst q2
  refine Z.pop C dX6_owesAnew_5 rfl ?_
  refine Z.aload_n C dX6_owesAnew_6 rfl ?_
  refine Z.iload_n C dX6_owesAnew_7 rfl ?_
  refine v_X6_163 C rfl dX6_owesAnew_8 (R.club) (c_X6_memberAt_no htr R I hr hx) (by decide) (Nat.le_of_ble_eq_true rfl) (by rw [hR]; exact Nat.le_of_ble_eq_true rfl) (by rw [hR]; exact Nat.le_of_ble_eq_true rfl) (fun w8 h8 q8 => ?_) (fun E9 h9 q9 => by obtain ⟨rfl, rfl⟩ := q9; exact ZT.out C E (by decide) (by decide) ⟨rfl, rfl⟩)
  exact q8.elim
  

