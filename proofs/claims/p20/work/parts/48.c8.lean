/-! vote, pass -/
def CK (G : zG) (b : Nat) (T : Nat → Nat → Int) (h : zH) : Prop := ∃ ad el, ad 0 0 = b ∧ CR G ad el T h
theorem TB_su {T : Nat → Nat → Int} (I : TB T) (k i : Nat) {v : Int} (h36 : k ≠ 36) (hv : 0 ≤ v ∧ v ≤ thi k) : TB (su T k i v) := by
  refine ⟨fun g j h1 h2 h3 => ?_, fun j => by rw [su_ne T i v (Ne.symm h36)]; exact I.2 j⟩
  rw [su_at]
  split
  · rename_i e
    rw [e.1]
    exact hv
  · exact I.1 g j h1 h2 h3
def cDec (T : Nat → Nat → Int) (p : Nat) (ic : Int) : Nat → Nat → Int := su (su T 16 p (if 2 * cV (row T 20 10 p) 1 10 > ic then 1 else if ic > 0 ∧ 2 * cV (row T 20 10 p) 2 10 ≥ ic then 2 else T 16 p)) 19 p (if 2 * cV (row T 20 10 p) 1 10 > ic then T 1 0 + 1 else T 19 p)
theorem CR.dec {G : zG} {ad : Nat → Nat → Nat} {el : Nat → Nat} {T : Nat → Nat → Int} {h : zH} (R : CR G ad el T h) {p : Nat} (hp : p < cN T 2) (ic : Int) : CR G ad el (cDec T p ic) (zput h (ad 6 p) (eO 6 [vI (T 17 p), vI (T 18 p), .ref (ad 7 p), vI (if 2 * cV (row T 20 10 p) 1 10 > ic then 1 else if ic > 0 ∧ 2 * cV (row T 20 10 p) 2 10 ≥ ic then 2 else T 16 p), vI (if 2 * cV (row T 20 10 p) 1 10 > ic then T 1 0 + 1 else T 19 p)])) := by
  unfold cDec
  generalize (if 2 * cV (row T 20 10 p) 1 10 > ic then 1 else if ic > 0 ∧ 2 * cV (row T 20 10 p) 2 10 ≥ ic then 2 else T 16 p) = v1
  generalize (if 2 * cV (row T 20 10 p) 1 10 > ic then T 1 0 + 1 else T 19 p) = v2
  have R1 := (R.st16 hp v1).st19 (j := p) (by rw [cN_su T p v1 (by decide) (by decide) (by decide) (by decide)]; exact hp) v2
  rw [zput_zput] at R1
  have e : su T 16 p v1 16 p = v1 := by rw [su_at, if_pos ⟨rfl, rfl⟩]
  rw [e] at R1
  exact R1
theorem TB_dec {T : Nat → Nat → Int} (I : TB T) (p : Nat) (ic : Int) : TB (cDec T p ic) := by
  have h1 : 0 ≤ T 1 0 ∧ T 1 0 ≤ 2000 := I.1 1 0 (by decide) (by decide) (by decide)
  have h2 : 0 ≤ T 19 p ∧ T 19 p ≤ 2001 := I.1 19 p (by decide) (by decide) (by decide)
  have h3 : 0 ≤ T 16 p ∧ T 16 p ≤ 2 := I.1 16 p (by decide) (by decide) (by decide)
  refine TB_su (TB_su I 16 p (by decide) ?_) 19 p (by decide) ?_
  · show 0 ≤ _ ∧ _ ≤ (2 : Int)
    split
    · decide
    · split
      · decide
      · exact h3
  · show 0 ≤ _ ∧ _ ≤ (2001 : Int)
    split
    · omega
    · exact h2
def cVot (T : Nat → Nat → Int) (m p : Nat) (u : Int) : Nat → Nat → Int := cDec (su T 20 (10 * p + m) u) p (mmany (su T 20 (10 * p + m) u) (cN T 0))
def cPl (T : Nat → Nat → Int) : Nat → (Nat → Nat → Int)
  | 0 => T
  | n + 1 => su (cPl T n) 5 n (if T 3 n = 0 then cPl T n 5 n else T 4 n)
theorem cPl_ne (T : Nat → Nat → Int) {g : Nat} (hg : g ≠ 5) : ∀ n, cPl T n g = T g
  | 0 => rfl
  | n + 1 => by rw [cPl, su_ne _ _ _ hg]; exact cPl_ne T hg n
theorem cPl_cN (T : Nat → Nat → Int) (n g : Nat) : cN (cPl T n) g = cN T g := by
  unfold cN
  split <;> first | rfl | rw [cPl_ne T (by decide)]
theorem TB_pl {T : Nat → Nat → Int} (I : TB T) : ∀ n, TB (cPl T n)
  | 0 => I
  | n + 1 => by
    rw [cPl]
    refine TB_su (TB_pl I n) 5 n (by decide) ?_
    split
    · exact (TB_pl I n).1 5 n (by decide) (by decide) (by decide)
    · exact I.1 4 n (by decide) (by decide) (by decide)

set_option maxRecDepth 100000 in
theorem c_X6_vote_ok {ln : Launch} (htr : ln.stackTraces = false) {G : zG} {h : zH} {ad : Nat → Nat → Nat} {el : Nat → Nat} {T : Nat → Nat → Int} (R : CR G ad el T h) (I : TB T) {m p : Nat} {fz : Int} (hm : m < cN T 0) (hp : p < cN T 2) (h3 : ¬ T 3 m = 0) (h0 : T 16 p = 0) (hz : fz = 0 ∨ fz = 1) : CT ln G yX6_vote cX6_vote 5 (some .int) 8 ([.ref (ad 0 0), vI (m : Int), vI (p : Int), vI fz]) h 1 6 (fun r9 h9 => r9 = some (vI (cVot T m p (if fz = 0 then 2 else 1) 16 p)) ∧ CK G (ad 0 0) (cVot T m p (if fz = 0 then 2 else 1)) h9) zNo := by
  refine CT.intro htr (by decide) rfl (Nat.le_of_ble_eq_true rfl) ?_
  intro X hln hG hR hN C E
  subst hln
  subst hG
  have hn9 := I.n
  have h16 : 0 ≤ T 16 p ∧ T 16 p ≤ thi 16 := I.1 16 p (by decide) (by decide) (by decide)
  simp only [thi] at h16
  refine Z.aload_n C dX6_vote_0 rfl ?_
  refine Z.iload_n C dX6_vote_1 rfl ?_
  refine v_X6_175 C rfl dX6_vote_2 (R.club) (c_X6_proposalAt_ok htr R I hp) (by decide) (Nat.le_of_ble_eq_true rfl) (by rw [hR]; exact Nat.le_of_ble_eq_true rfl) (by rw [hR]; exact Nat.le_of_ble_eq_true rfl) (fun w2 h2 q2 => ?_) (fun _ _ q => q.elim)
  obtain ⟨rfl, q2⟩ := q2
  replace q2 := q2.symm
  subst q2
  refine Z.astore (l' := [_, _, _, _, _]) C dX6_vote_5 (Nat.le_of_ble_eq_true rfl) (by rw [hN]; decide) rfl ?_
  refine Z.aload_n C dX6_vote_7 rfl ?_
  refine Z.iload_n C dX6_vote_8 rfl ?_
  refine v_X6_59 C rfl dX6_vote_9 (R.club) (c_X6_memberInClub_ok htr R I hm h3) (by decide) (Nat.le_of_ble_eq_true rfl) (by rw [hR]; exact Nat.le_of_ble_eq_true rfl) (by rw [hR]; exact Nat.le_of_ble_eq_true rfl) (fun w9 h9 q9 => ?_) (fun _ _ q => q.elim)
  obtain ⟨rfl, q9⟩ := q9
  replace q9 := q9.symm
  subst q9
  refine Z.pop C dX6_vote_12 rfl ?_
  refine Z.aload C dX6_vote_13 rfl ?_
  refine g_X6_90  C rfl dX6_vote_15 (R.pro hp) rfl ?_
  refine Z.if_eq (tgt := 31) C dX6_vote_18 (by decide) (by omega) (by omega) (fun c18 => ?_) (fun c18 => ?_)
  · have J43 : ∀ u : Int, u = (if fz = 0 then 2 else 1) → Z X 43 [.ref (ad 0 0), vI (m : Int), vI (p : Int), vI fz, .ref (ad 6 p)] [vI u, vI (m : Int), .ref (ad 6 p)] h 0 0 := by
      intro u hu
      rw [← hu] at E
      have hu2 : 0 ≤ u ∧ u ≤ 2 := by rw [hu]; split <;> decide
      clear hu
      refine v_X6_93 C rfl dX6_vote_43 (R.pro hp) (c_X4_setVote htr (R.pro hp) (R.vot hp) (i := m) (by omega)) (by decide) (Nat.le_of_ble_eq_true rfl) (by rw [hR]; exact Nat.le_of_ble_eq_true rfl) (by rw [hR]; exact Nat.le_of_ble_eq_true rfl) (fun w43 h43 q43 => ?_) (fun _ _ q => q.elim)
      obtain ⟨rfl, rfl⟩ := q43
      have R1 := R.sr20 hp (show m < 10 by omega) u
      have I1 := TB_su I 20 (10 * p + m) (v := u) (by decide) hu2
      have e1 : ∀ g, cN (su T 20 (10 * p + m) u) g = cN T g := cN_su T (10 * p + m) u (by decide) (by decide) (by decide) (by decide)
      have hp1 : p < cN (su T 20 (10 * p + m) u) 2 := by rw [e1]; exact hp
      have hmy := mmany_b (su T 20 (10 * p + m) u) (cN T 0)
      refine Z.aload C dX6_vote_46 rfl ?_
      refine Z.aload_n C dX6_vote_48 rfl ?_
      refine v_X6_81 C rfl dX6_vote_49 (R1.club) (c_X6_countInClub htr R1 I1) (by decide) (Nat.le_of_ble_eq_true rfl) (by rw [hR]; exact Nat.le_of_ble_eq_true rfl) (by rw [hR]; exact Nat.le_of_ble_eq_true rfl) (fun w49 h49 q49 => ?_) (fun _ _ q => q.elim)
      obtain ⟨rfl, q49⟩ := q49
      replace q49 := q49.symm
      subst q49
      rw [e1]
      refine Z.aload_n C dX6_vote_52 rfl ?_
      refine g_X6_25  C rfl dX6_vote_53 (R1.club) rfl ?_
      refine v_X6_97 C rfl dX6_vote_56 (R1.pro hp1) (c_X4_decide htr (R1.pro hp1) (R1.vot hp1) (row_b I1) (by omega)) (by decide) (Nat.le_of_ble_eq_true rfl) (by rw [hR]; exact Nat.le_of_ble_eq_true rfl) (by rw [hR]; exact Nat.le_of_ble_eq_true rfl) (fun w56 h56 q56 => ?_) (fun _ _ q => q.elim)
      obtain ⟨rfl, rfl⟩ := q56
      have R2 := R1.dec hp1 (mmany (su T 20 (10 * p + m) u) (cN T 0))
      have hp2 : p < cN (cDec (su T 20 (10 * p + m) u) p (mmany (su T 20 (10 * p + m) u) (cN T 0))) 2 := by unfold cDec; rw [cN_su _ p _ (by decide) (by decide) (by decide) (by decide), cN_su _ p _ (by decide) (by decide) (by decide) (by decide)]; exact hp1
      refine Z.aload C dX6_vote_59 rfl ?_
      refine g_X6_90  C rfl dX6_vote_61 (R2.pro hp2) rfl ?_
      exact Z.iret C E dX6_vote_64 (by decide) (by decide) ⟨rfl, ad, el, rfl, R2⟩
    refine Z.aload C dX6_vote_31 rfl ?_
    refine Z.iload_n C dX6_vote_33 rfl ?_
    refine Z.iload_n C dX6_vote_34 rfl ?_
    refine Z.if_eq (tgt := 42) C dX6_vote_35 (by decide) (by omega) (by omega) (fun c35 => ?_) (fun c35 => ?_)
    · refine Z.iconst C dX6_vote_42 ?_
      exact J43 _ (by first | (rw [if_pos (by omega)]; done) | (rw [if_neg (by omega)]; done))
    · refine Z.iconst C dX6_vote_38 ?_
      refine Z.goto (tgt := 43) C dX6_vote_39 (by decide) ?_
      exact J43 _ (by first | (rw [if_pos (by omega)]; done) | (rw [if_neg (by omega)]; done))
  · exfalso; omega

set_option maxRecDepth 100000 in
theorem c_X6_vote_x1 {ln : Launch} (htr : ln.stackTraces = false) {G : zG} {h : zH} {ad : Nat → Nat → Nat} {el : Nat → Nat} {T : Nat → Nat → Int} (R : CR G ad el T h) (I : TB T) {m p fz : Int} (hr : -2147483648 ≤ p ∧ p < 2147483648) (hp : ¬ (0 ≤ p ∧ p < cN T 2)) : CT ln G yX6_vote cX6_vote 5 (some .int) 8 ([.ref (ad 0 0), vI m, vI p, vI fz]) h 1 6 (fun _ _ => False) (fun E9 h9 => E9 = "java/lang/IndexOutOfBoundsException" ∧ h9 = h) := by
  refine CT.intro htr (by decide) rfl (Nat.le_of_ble_eq_true rfl) ?_
  intro X hln hG hR hN C E
  subst hln
  subst hG
  have hn9 := I.n
  refine Z.aload_n C dX6_vote_0 rfl ?_
  refine Z.iload_n C dX6_vote_1 rfl ?_
  refine v_X6_175 C rfl dX6_vote_2 (R.club) (c_X6_proposalAt_no htr R I hr hp) (by decide) (Nat.le_of_ble_eq_true rfl) (by rw [hR]; exact Nat.le_of_ble_eq_true rfl) (by rw [hR]; exact Nat.le_of_ble_eq_true rfl) (fun w2 h2 q2 => ?_) (fun E9 h9 q9 => by obtain ⟨rfl, rfl⟩ := q9; exact ZT.out C E (by decide) (by decide) ⟨rfl, rfl⟩)
  exact q2.elim
  

set_option maxRecDepth 100000 in
theorem c_X6_vote_x2 {ln : Launch} (htr : ln.stackTraces = false) {G : zG} {h : zH} {ad : Nat → Nat → Nat} {el : Nat → Nat} {T : Nat → Nat → Int} (R : CR G ad el T h) (I : TB T) {p : Nat} {m fz : Int} (hp : p < cN T 2) (hr : -2147483648 ≤ m ∧ m < 2147483648) (hm : ¬ (0 ≤ m ∧ m < cN T 0)) : CT ln G yX6_vote cX6_vote 5 (some .int) 8 ([.ref (ad 0 0), vI m, vI (p : Int), vI fz]) h 1 6 (fun _ _ => False) (fun E9 h9 => E9 = "java/lang/IndexOutOfBoundsException" ∧ h9 = h) := by
  refine CT.intro htr (by decide) rfl (Nat.le_of_ble_eq_true rfl) ?_
  intro X hln hG hR hN C E
  subst hln
  subst hG
  have hn9 := I.n
  refine Z.aload_n C dX6_vote_0 rfl ?_
  refine Z.iload_n C dX6_vote_1 rfl ?_
  refine v_X6_175 C rfl dX6_vote_2 (R.club) (c_X6_proposalAt_ok htr R I hp) (by decide) (Nat.le_of_ble_eq_true rfl) (by rw [hR]; exact Nat.le_of_ble_eq_true rfl) (by rw [hR]; exact Nat.le_of_ble_eq_true rfl) (fun w2 h2 q2 => ?_) (fun _ _ q => q.elim)
  obtain ⟨rfl, q2⟩ := q2
  replace q2 := q2.symm
  subst q2
  refine Z.astore (l' := [_, _, _, _, _]) C dX6_vote_5 (Nat.le_of_ble_eq_true rfl) (by rw [hN]; decide) rfl ?_
  refine Z.aload_n C dX6_vote_7 rfl ?_
  refine Z.iload_n C dX6_vote_8 rfl ?_
  refine v_X6_59 C rfl dX6_vote_9 (R.club) (c_X6_memberInClub_no htr R I hr hm) (by decide) (Nat.le_of_ble_eq_true rfl) (by rw [hR]; exact Nat.le_of_ble_eq_true rfl) (by rw [hR]; exact Nat.le_of_ble_eq_true rfl) (fun w9 h9 q9 => ?_) (fun E9 h9 q9 => by obtain ⟨rfl, rfl⟩ := q9; exact ZT.out C E (by decide) (by decide) ⟨rfl, rfl⟩)
  exact q9.elim
  

set_option maxRecDepth 100000 in
theorem c_X6_vote_x3 {ln : Launch} (htr : ln.stackTraces = false) {G : zG} {h : zH} {ad : Nat → Nat → Nat} {el : Nat → Nat} {T : Nat → Nat → Int} (R : CR G ad el T h) (I : TB T) {p m : Nat} {fz : Int} (hp : p < cN T 2) (hm : m < cN T 0) (h3 : T 3 m = 0) : CT ln G yX6_vote cX6_vote 5 (some .int) 8 ([.ref (ad 0 0), vI (m : Int), vI (p : Int), vI fz]) h 1 6 (fun _ _ => False) (fun E9 h9 => E9 = "java/lang/IllegalStateException" ∧ h9 = h) := by
  refine CT.intro htr (by decide) rfl (Nat.le_of_ble_eq_true rfl) ?_
  intro X hln hG hR hN C E
  subst hln
  subst hG
  have hn9 := I.n
  refine Z.aload_n C dX6_vote_0 rfl ?_
  refine Z.iload_n C dX6_vote_1 rfl ?_
  refine v_X6_175 C rfl dX6_vote_2 (R.club) (c_X6_proposalAt_ok htr R I hp) (by decide) (Nat.le_of_ble_eq_true rfl) (by rw [hR]; exact Nat.le_of_ble_eq_true rfl) (by rw [hR]; exact Nat.le_of_ble_eq_true rfl) (fun w2 h2 q2 => ?_) (fun _ _ q => q.elim)
  obtain ⟨rfl, q2⟩ := q2
  replace q2 := q2.symm
  subst q2
  refine Z.astore (l' := [_, _, _, _, _]) C dX6_vote_5 (Nat.le_of_ble_eq_true rfl) (by rw [hN]; decide) rfl ?_
  refine Z.aload_n C dX6_vote_7 rfl ?_
  refine Z.iload_n C dX6_vote_8 rfl ?_
  refine v_X6_59 C rfl dX6_vote_9 (R.club) (c_X6_memberInClub_out htr R I hm h3) (by decide) (Nat.le_of_ble_eq_true rfl) (by rw [hR]; exact Nat.le_of_ble_eq_true rfl) (by rw [hR]; exact Nat.le_of_ble_eq_true rfl) (fun w9 h9 q9 => ?_) (fun E9 h9 q9 => by obtain ⟨rfl, rfl⟩ := q9; exact ZT.out C E (by decide) (by decide) ⟨rfl, rfl⟩)
  exact q9.elim
  

set_option maxRecDepth 100000 in
theorem c_X6_vote_x4 {ln : Launch} (htr : ln.stackTraces = false) {G : zG} {h : zH} {ad : Nat → Nat → Nat} {el : Nat → Nat} {T : Nat → Nat → Int} (R : CR G ad el T h) (I : TB T) {p m : Nat} {fz : Int} (hp : p < cN T 2) (hm : m < cN T 0) (h3 : ¬ T 3 m = 0) (h0 : ¬ T 16 p = 0) : CT ln G yX6_vote cX6_vote 5 (some .int) 8 ([.ref (ad 0 0), vI (m : Int), vI (p : Int), vI fz]) h 1 6 (fun _ _ => False) (fun E9 h9 => E9 = "java/lang/IllegalStateException" ∧ h9 = h) := by
  refine CT.intro htr (by decide) rfl (Nat.le_of_ble_eq_true rfl) ?_
  intro X hln hG hR hN C E
  subst hln
  subst hG
  have hn9 := I.n
  have h16 : 0 ≤ T 16 p ∧ T 16 p ≤ thi 16 := I.1 16 p (by decide) (by decide) (by decide)
  simp only [thi] at h16
  refine Z.aload_n C dX6_vote_0 rfl ?_
  refine Z.iload_n C dX6_vote_1 rfl ?_
  refine v_X6_175 C rfl dX6_vote_2 (R.club) (c_X6_proposalAt_ok htr R I hp) (by decide) (Nat.le_of_ble_eq_true rfl) (by rw [hR]; exact Nat.le_of_ble_eq_true rfl) (by rw [hR]; exact Nat.le_of_ble_eq_true rfl) (fun w2 h2 q2 => ?_) (fun _ _ q => q.elim)
  obtain ⟨rfl, q2⟩ := q2
  replace q2 := q2.symm
  subst q2
  refine Z.astore (l' := [_, _, _, _, _]) C dX6_vote_5 (Nat.le_of_ble_eq_true rfl) (by rw [hN]; decide) rfl ?_
  refine Z.aload_n C dX6_vote_7 rfl ?_
  refine Z.iload_n C dX6_vote_8 rfl ?_
  refine v_X6_59 C rfl dX6_vote_9 (R.club) (c_X6_memberInClub_ok htr R I hm h3) (by decide) (Nat.le_of_ble_eq_true rfl) (by rw [hR]; exact Nat.le_of_ble_eq_true rfl) (by rw [hR]; exact Nat.le_of_ble_eq_true rfl) (fun w9 h9 q9 => ?_) (fun _ _ q => q.elim)
  obtain ⟨rfl, q9⟩ := q9
  replace q9 := q9.symm
  subst q9
  refine Z.pop C dX6_vote_12 rfl ?_
  refine Z.aload C dX6_vote_13 rfl ?_
  refine g_X6_90  C rfl dX6_vote_15 (R.pro hp) rfl ?_
  refine Z.if_eq (tgt := 31) C dX6_vote_18 (by decide) (by omega) (by omega) (fun c18 => ?_) (fun c18 => ?_)
  · exfalso; omega
  · exact Z.xISE C E rfl (by decide +kernel : (RX6, 179, "the proposal is decided") ∈ zTexts) dX6_vote_21 dX6_vote_24 dX6_vote_25 dX6_vote_27 dX6_vote_30 (by decide) (Nat.le_of_ble_eq_true rfl) (by decide) (by decide) (by rw [hR]; exact Nat.le_of_ble_eq_true rfl) (by rw [hR]; exact Nat.le_of_ble_eq_true rfl) ⟨rfl, rfl⟩

set_option maxRecDepth 100000 in
theorem c_X6_pass_ok {ln : Launch} (htr : ln.stackTraces = false) {G : zG} {h : zH} {ad : Nat → Nat → Nat} {el : Nat → Nat} {T : Nat → Nat → Int} (R : CR G ad el T h) (I : TB T) {w : Int} (h1 : 1 ≤ w ∧ w ≤ 100) (h2 : T 1 0 + w ≤ 2000) : CT ln G yX6_pass cX6_pass 3 (some .int) 6 ([.ref (ad 0 0), vI w]) h 1 6 (fun r9 h9 => r9 = some (vI (T 1 0 + w)) ∧ CK G (ad 0 0) (cPl (su T 1 0 (T 1 0 + w)) (cN T 0)) h9) zNo := by
  refine CT.intro htr (by decide) rfl (Nat.le_of_ble_eq_true rfl) ?_
  intro X hln hG hR hN C E
  subst hln
  subst hG
  have hn9 := I.n
  have h1t : 0 ≤ T 1 0 ∧ T 1 0 ≤ thi 1 := I.1 1 0 (by decide) (by decide) (by decide)
  simp only [thi] at h1t
  refine Z.iload_n C dX6_pass_0 rfl ?_
  refine Z.iconst C dX6_pass_1 ?_
  refine Z.icmp_lt (tgt := 11) C dX6_pass_2 (by decide) (by omega) (by omega) (by omega) (by omega) (fun c2 => ?_) (fun c2 => ?_)
  · exfalso; omega
  · refine Z.iload_n C dX6_pass_5 rfl ?_
    refine Z.bipush C dX6_pass_6 (by decide) ?_
    refine Z.icmp_le (tgt := 21) C dX6_pass_8 (by decide) (by omega) (by omega) (by omega) (by omega) (fun c8 => ?_) (fun c8 => ?_)
    · refine Z.aload_n C dX6_pass_21 rfl ?_
      refine g_X6_25  C rfl dX6_pass_22 (R.club) rfl ?_
      refine Z.iload_n C dX6_pass_25 rfl ?_
      refine Z.iadd C dX6_pass_26 ?_
      refine Z.sipush C dX6_pass_27 (by decide) ?_
      refine Z.icmp_le (tgt := 43) C dX6_pass_30 (by decide) (by omega) (by omega) (by omega) (by omega) (fun c30 => ?_) (fun c30 => ?_)
      · refine Z.aload_n C dX6_pass_43 rfl ?_
        refine Z.dup C dX6_pass_44 rfl ?_
        refine g_X6_25  C rfl dX6_pass_45 (R.club) rfl ?_
        refine Z.iload_n C dX6_pass_48 rfl ?_
        refine Z.iadd C dX6_pass_49 ?_
        refine p_X6_25 (fs' := [.ref (ad 10 0), .ref (ad 10 1), .ref (ad 10 2), .ref (ad 10 3), vI (T 1 0 + w), vI (T 14 0)]) C rfl  dX6_pass_50  (R.club) (Nat.le_of_ble_eq_true rfl) rfl ?_
        have R1 := R.st1 (T 1 0 + w)
        refine Z.iconst C dX6_pass_53 ?_
        refine Z.istore_n (l' := [_, _, _]) C dX6_pass_54 (Nat.le_of_ble_eq_true rfl) (by rw [hN]; decide) rfl ?_
        have L : ∀ (q i : Nat) (h : zH), i + q = cN T 0 → CR (zG_of X) ad el (cPl (su T 1 0 (T 1 0 + w)) i) h → Z X 55 [.ref (ad 0 0), vI w, vI (i : Int)] [] h 0 0 := by
          intro q
          induction q with
          | zero =>
            intro i h hi R
            have I1 : TB (cPl (su T 1 0 (T 1 0 + w)) i) := TB_pl (TB_su I 1 0 (by decide) (show 0 ≤ T 1 0 + w ∧ T 1 0 + w ≤ (2000 : Int) by omega)) i
            have hn1 := I1.n
            have e0 : ∀ g, cN (cPl (su T 1 0 (T 1 0 + w)) i) g = cN T g := fun g => by rw [cPl_cN, cN_su T 0 _ (by decide) (by decide) (by decide) (by decide)]
            have e00 := e0 0
            have h39 : 0 ≤ (cPl (su T 1 0 (T 1 0 + w)) i) 3 i ∧ (cPl (su T 1 0 (T 1 0 + w)) i) 3 i ≤ 1 := I1.1 3 i (by decide) (by decide) (by decide)
            refine Z.iload_n C dX6_pass_55 rfl ?_
            refine Z.aload_n C dX6_pass_56 rfl ?_
            refine g_X6_10  C rfl dX6_pass_57 (R.club) rfl ?_
            refine v_X6_41 C rfl dX6_pass_60 (R.lMo.choose_spec) (c_size htr R.lM) (by decide) (Nat.le_of_ble_eq_true rfl) (by rw [hR]; exact Nat.le_of_ble_eq_true rfl) (by rw [hR]; exact Nat.le_of_ble_eq_true rfl) (fun w60 h60 q60 => ?_) (fun _ _ q => q.elim)
            obtain ⟨rfl, q60⟩ := q60
            replace q60 := q60.symm
            subst q60
            refine Z.icmp_ge (tgt := 86) C dX6_pass_63 (by decide) (by omega) (by omega) (by omega) (by omega) (fun c63 => ?_) (fun c63 => ?_)
            · refine Z.aload_n C dX6_pass_86 rfl ?_
              refine g_X6_25  C rfl dX6_pass_87 (R.club) rfl ?_
              exact Z.iret C E dX6_pass_90 (by decide) (by decide) ⟨by rw [cPl_ne (su T 1 0 (T 1 0 + w)) (by decide), su_at, if_pos ⟨rfl, rfl⟩], ad, el, rfl, by rw [show i = cN T 0 by omega] at R; exact R⟩
            · exfalso; omega
          | succ q ih =>
            intro i h hi R
            have I1 : TB (cPl (su T 1 0 (T 1 0 + w)) i) := TB_pl (TB_su I 1 0 (by decide) (show 0 ≤ T 1 0 + w ∧ T 1 0 + w ≤ (2000 : Int) by omega)) i
            have hn1 := I1.n
            have e0 : ∀ g, cN (cPl (su T 1 0 (T 1 0 + w)) i) g = cN T g := fun g => by rw [cPl_cN, cN_su T 0 _ (by decide) (by decide) (by decide) (by decide)]
            have e00 := e0 0
            have h39 : 0 ≤ (cPl (su T 1 0 (T 1 0 + w)) i) 3 i ∧ (cPl (su T 1 0 (T 1 0 + w)) i) 3 i ≤ 1 := I1.1 3 i (by decide) (by decide) (by decide)
            refine Z.iload_n C dX6_pass_55 rfl ?_
            refine Z.aload_n C dX6_pass_56 rfl ?_
            refine g_X6_10  C rfl dX6_pass_57 (R.club) rfl ?_
            refine v_X6_41 C rfl dX6_pass_60 (R.lMo.choose_spec) (c_size htr R.lM) (by decide) (Nat.le_of_ble_eq_true rfl) (by rw [hR]; exact Nat.le_of_ble_eq_true rfl) (by rw [hR]; exact Nat.le_of_ble_eq_true rfl) (fun w60 h60 q60 => ?_) (fun _ _ q => q.elim)
            obtain ⟨rfl, q60⟩ := q60
            replace q60 := q60.symm
            subst q60
            refine Z.icmp_ge (tgt := 86) C dX6_pass_63 (by decide) (by omega) (by omega) (by omega) (by omega) (fun c63 => ?_) (fun c63 => ?_)
            · exfalso; omega
            · refine Z.aload_n C dX6_pass_66 rfl ?_
              refine g_X6_10  C rfl dX6_pass_67 (R.club) rfl ?_
              refine Z.iload_n C dX6_pass_70 rfl ?_
              refine v_X6_84 C rfl dX6_pass_71 (R.lMo.choose_spec) (c_getN htr R.lM (by omega)) (by decide) (Nat.le_of_ble_eq_true rfl) (by rw [hR]; exact Nat.le_of_ble_eq_true rfl) (by rw [hR]; exact Nat.le_of_ble_eq_true rfl) (fun w71 h71 q71 => ?_) (fun _ _ q => q.elim)
              obtain ⟨rfl, q71⟩ := q71
              replace q71 := q71.symm
              subst q71
              refine k_X6_50 C rfl dX6_pass_74 (R.mem (by omega)) ?_
              refine v_X6_160 C rfl dX6_pass_77 (R.mem (by omega)) (c_X3_makeLineWhole htr (R.mem (by omega)) (by omega)) (by decide) (Nat.le_of_ble_eq_true rfl) (by rw [hR]; exact Nat.le_of_ble_eq_true rfl) (by rw [hR]; exact Nat.le_of_ble_eq_true rfl) (fun w77 h77 q77 => ?_) (fun _ _ q => q.elim)
              obtain ⟨rfl, rfl⟩ := q77
              have R9 := R.st5 (j := i) (by omega) (if (cPl (su T 1 0 (T 1 0 + w)) i) 3 i = 0 then (cPl (su T 1 0 (T 1 0 + w)) i) 5 i else (cPl (su T 1 0 (T 1 0 + w)) i) 4 i)
              refine Z.iinc (l' := [_, _, _]) C dX6_pass_80 rfl (Nat.le_of_ble_eq_true rfl) (by rw [hN]; decide) rfl ?_
              refine Z.goto (tgt := 55) C dX6_pass_83 (by decide) ?_
              refine ih (i + 1) _ (by omega) ?_
              rw [cPl, show (su T 1 0 (T 1 0 + w)) 3 i = (cPl (su T 1 0 (T 1 0 + w)) i) 3 i from (congrFun (cPl_ne (su T 1 0 (T 1 0 + w)) (by decide) i) i).symm, show (su T 1 0 (T 1 0 + w)) 4 i = (cPl (su T 1 0 (T 1 0 + w)) i) 4 i from (congrFun (cPl_ne (su T 1 0 (T 1 0 + w)) (by decide) i) i).symm]
              exact R9
        exact L _ 0 _ (Nat.zero_add _) R1
      · exfalso; omega
    · exfalso; omega

set_option maxRecDepth 100000 in
theorem c_X6_pass_x1 {ln : Launch} (htr : ln.stackTraces = false) {G : zG} {h : zH} {ad : Nat → Nat → Nat} {el : Nat → Nat} {T : Nat → Nat → Int} (R : CR G ad el T h) (I : TB T) {w : Int} (hr : -2147483648 ≤ w ∧ w < 2147483648) (h1 : ¬ (1 ≤ w ∧ w ≤ 100)) : CT ln G yX6_pass cX6_pass 3 (some .int) 6 ([.ref (ad 0 0), vI w]) h 1 6 (fun _ _ => False) (fun E9 h9 => E9 = "java/lang/IllegalArgumentException" ∧ h9 = h) := by
  refine CT.intro htr (by decide) rfl (Nat.le_of_ble_eq_true rfl) ?_
  intro X hln hG hR hN C E
  subst hln
  subst hG
  have hn9 := I.n
  refine Z.iload_n C dX6_pass_0 rfl ?_
  refine Z.iconst C dX6_pass_1 ?_
  refine Z.icmp_lt (tgt := 11) C dX6_pass_2 (by decide) (by omega) (by omega) (by omega) (by omega) (fun c2 => ?_) (fun c2 => ?_)
  · exact Z.xIAE C E rfl (by decide +kernel : (RX6, 156, "hours are out of range") ∈ zTexts) dX6_pass_11 dX6_pass_14 dX6_pass_15 dX6_pass_17 dX6_pass_20 (by decide) (Nat.le_of_ble_eq_true rfl) (by decide) (by decide) (by rw [hR]; exact Nat.le_of_ble_eq_true rfl) (by rw [hR]; exact Nat.le_of_ble_eq_true rfl) ⟨rfl, rfl⟩
  · refine Z.iload_n C dX6_pass_5 rfl ?_
    refine Z.bipush C dX6_pass_6 (by decide) ?_
    refine Z.icmp_le (tgt := 21) C dX6_pass_8 (by decide) (by omega) (by omega) (by omega) (by omega) (fun c8 => ?_) (fun c8 => ?_)
    · exfalso; omega
    · exact Z.xIAE C E rfl (by decide +kernel : (RX6, 156, "hours are out of range") ∈ zTexts) dX6_pass_11 dX6_pass_14 dX6_pass_15 dX6_pass_17 dX6_pass_20 (by decide) (Nat.le_of_ble_eq_true rfl) (by decide) (by decide) (by rw [hR]; exact Nat.le_of_ble_eq_true rfl) (by rw [hR]; exact Nat.le_of_ble_eq_true rfl) ⟨rfl, rfl⟩

set_option maxRecDepth 100000 in
theorem c_X6_pass_x2 {ln : Launch} (htr : ln.stackTraces = false) {G : zG} {h : zH} {ad : Nat → Nat → Nat} {el : Nat → Nat} {T : Nat → Nat → Int} (R : CR G ad el T h) (I : TB T) {w : Int} (h1 : 1 ≤ w ∧ w ≤ 100) (h2 : ¬ T 1 0 + w ≤ 2000) : CT ln G yX6_pass cX6_pass 3 (some .int) 6 ([.ref (ad 0 0), vI w]) h 1 6 (fun _ _ => False) (fun E9 h9 => E9 = "java/lang/IllegalStateException" ∧ h9 = h) := by
  refine CT.intro htr (by decide) rfl (Nat.le_of_ble_eq_true rfl) ?_
  intro X hln hG hR hN C E
  subst hln
  subst hG
  have hn9 := I.n
  have h1t : 0 ≤ T 1 0 ∧ T 1 0 ≤ thi 1 := I.1 1 0 (by decide) (by decide) (by decide)
  simp only [thi] at h1t
  refine Z.iload_n C dX6_pass_0 rfl ?_
  refine Z.iconst C dX6_pass_1 ?_
  refine Z.icmp_lt (tgt := 11) C dX6_pass_2 (by decide) (by omega) (by omega) (by omega) (by omega) (fun c2 => ?_) (fun c2 => ?_)
  · exfalso; omega
  · refine Z.iload_n C dX6_pass_5 rfl ?_
    refine Z.bipush C dX6_pass_6 (by decide) ?_
    refine Z.icmp_le (tgt := 21) C dX6_pass_8 (by decide) (by omega) (by omega) (by omega) (by omega) (fun c8 => ?_) (fun c8 => ?_)
    · refine Z.aload_n C dX6_pass_21 rfl ?_
      refine g_X6_25  C rfl dX6_pass_22 (R.club) rfl ?_
      refine Z.iload_n C dX6_pass_25 rfl ?_
      refine Z.iadd C dX6_pass_26 ?_
      refine Z.sipush C dX6_pass_27 (by decide) ?_
      refine Z.icmp_le (tgt := 43) C dX6_pass_30 (by decide) (by omega) (by omega) (by omega) (by omega) (fun c30 => ?_) (fun c30 => ?_)
      · exfalso; omega
      · exact Z.xISE C E rfl (by decide +kernel : (RX6, 158, "the hour would be above 2000") ∈ zTexts) dX6_pass_33 dX6_pass_36 dX6_pass_37 dX6_pass_39 dX6_pass_42 (by decide) (Nat.le_of_ble_eq_true rfl) (by decide) (by decide) (by rw [hR]; exact Nat.le_of_ble_eq_true rfl) (by rw [hR]; exact Nat.le_of_ble_eq_true rfl) ⟨rfl, rfl⟩
    · exfalso; omega

