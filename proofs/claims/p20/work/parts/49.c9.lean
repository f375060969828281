/-! film, propose, join -/
theorem cG_i {k : Nat} : (cG k = 0 → k = 1 ∨ k = 2 ∨ k = 3 ∨ k = 4) ∧ (cG k = 1 → k = 5) ∧ (cG k = 2 → k = 6 ∨ k = 7) ∧ (cG k = 3 → k = 8 ∨ k = 9) := by
  unfold cG
  split <;> simp
theorem cN_4 {T T' : Nat → Nat → Int} {g : Nat} (hg : 4 ≤ g) : cN T' g = cN T g := by
  unfold cN
  split <;> first | omega | rfl
theorem cnt_of {T T' : Nat → Nat → Int} {g0 : Nat} (h4 : g0 < 4) (h0 : cN T' 0 = cN T 0 + if 0 = g0 then 1 else 0) (h1 : cN T' 1 = cN T 1 + if 1 = g0 then 1 else 0) (h2 : cN T' 2 = cN T 2 + if 2 = g0 then 1 else 0) (h3 : cN T' 3 = cN T 3 + if 3 = g0 then 1 else 0) : ∀ g, cN T' g = cN T g + if g = g0 then 1 else 0 := by
  intro g
  rcases Nat.lt_or_ge g 4 with z | z
  · have : g = 0 ∨ g = 1 ∨ g = 2 ∨ g = 3 := by omega
    rcases this with rfl | rfl | rfl | rfl <;> assumption
  · rw [cN_4 (T := T) z, if_neg (by omega)]
    rfl

theorem CR.addF {G : zG} {ad : Nat → Nat → Nat} {el : Nat → Nat} {T : Nat → Nat → Int} {h : zH} (R : CR G ad el T h) {h9 : zH} {a : Nat} {z : Int} (ha : ¬ cOwn ad el T a) (h1 : h a = some (eO 4 [vI z, vI 0])) (hz : T 12 (cN T 1) = 0) (hb : 0 ≤ T 10 0) (hp : LPost G h h9 (ad 10 1) (el 1) (cN T 1) a (ad 5)) : ∃ el', CR G (adN ad 1 (cN T 1) (fun _ => a)) el' (su (su T 11 (cN T 1) z) 10 0 (T 10 0 + 1)) h9 := by
  refine R.add (g := 1) (by decide) (fun _ => a) (cnt_of (by decide) rfl ?_ rfl rfl) (fun k i hi => ?_) (fun _ _ => ha) (fun k hk => ?_) (fun k k' h2 h3 _ => (cG_i.2.1 h2).trans (cG_i.2.1 h3).symm) hp
  · show ((su (su T 11 (cN T 1) z) 10 0 (T 10 0 + 1)) 10 0).toNat = (T 10 0).toNat + 1
    rw [su_at, if_pos ⟨rfl, rfl⟩]
    omega
  · unfold cel
    split
    all_goals first
      | rfl
      | (have e : (su (su T 11 (cN T 1) z) 10 0 (T 10 0 + 1)) 11 i = T 11 i := by rw [su_ne _ _ _ (by decide), su_at, if_neg (fun q => by have hi2 : i < cN T 1 := hi; omega)]
         rw [e] <;> rfl)
  · obtain rfl := cG_i.2.1 hk
    have e1 : (su (su T 11 (cN T 1) z) 10 0 (T 10 0 + 1)) 11 (cN T 1) = z := by rw [su_ne _ _ _ (by decide), su_at, if_pos ⟨rfl, rfl⟩]
    have e2 : (su (su T 11 (cN T 1) z) 10 0 (T 10 0 + 1)) 12 (cN T 1) = 0 := by rw [su_ne _ _ _ (by decide), su_ne _ _ _ (by decide)]; exact hz
    rw [h1]
    show _ = some (eO 4 [vI ((su (su T 11 (cN T 1) z) 10 0 (T 10 0 + 1)) 11 (cN T 1)), vI ((su (su T 11 (cN T 1) z) 10 0 (T 10 0 + 1)) 12 (cN T 1))])
    rw [e1, e2]

set_option maxRecDepth 100000 in
theorem c_X6_film_ok {ln : Launch} (htr : ln.stackTraces = false) {G : zG} {h : zH} {ad : Nat → Nat → Nat} {el : Nat → Nat} {T : Nat → Nat → Int} (R : CR G ad el T h) (I : TB T) {z : Int} (h1 : 1 ≤ z ∧ z ≤ 20) (h2 : cN T 1 < 20) (hz : T 12 (cN T 1) = 0) : CT ln G yX6_film cX6_film 2 (some .int) 9 ([.ref (ad 0 0), vI z]) h 2 482 (fun r9 h9 => r9 = some (vI ((cN T 1 : Int))) ∧ CK G (ad 0 0) (su (su T 11 (cN T 1) z) 10 0 (T 10 0 + 1)) h9) zNo := by
  refine CT.intro htr (by decide) rfl (Nat.le_of_ble_eq_true rfl) ?_
  intro X hln hG hR hN C E
  subst hln
  subst hG
  have hn9 := I.n
  refine Z.iload_n C dX6_film_0 rfl ?_
  refine Z.iconst C dX6_film_1 ?_
  refine Z.icmp_lt (tgt := 11) C dX6_film_2 (by decide) (by omega) (by omega) (by omega) (by omega) (fun c2 => ?_) (fun c2 => ?_)
  · exfalso; omega
  · refine Z.iload_n C dX6_film_5 rfl ?_
    refine Z.bipush C dX6_film_6 (by decide) ?_
    refine Z.icmp_le (tgt := 21) C dX6_film_8 (by decide) (by omega) (by omega) (by omega) (by omega) (fun c8 => ?_) (fun c8 => ?_)
    · refine Z.aload_n C dX6_film_21 rfl ?_
      refine g_X6_16  C rfl dX6_film_22 (R.club) rfl ?_
      refine v_X6_41 C rfl dX6_film_25 (R.lFo.choose_spec) (c_size htr R.lF) (by decide) (Nat.le_of_ble_eq_true rfl) (by rw [hR]; exact Nat.le_of_ble_eq_true rfl) (by rw [hR]; exact Nat.le_of_ble_eq_true rfl) (fun w25 h25 q25 => ?_) (fun _ _ q => q.elim)
      obtain ⟨rfl, q25⟩ := q25
      replace q25 := q25.symm
      subst q25
      refine Z.bipush C dX6_film_28 (by decide) ?_
      refine Z.icmp_lt (tgt := 43) C dX6_film_30 (by decide) (by omega) (by omega) (by omega) (by omega) (fun c30 => ?_) (fun c30 => ?_)
      · refine Z.aload_n C dX6_film_43 rfl ?_
        refine g_X6_16  C rfl dX6_film_44 (R.club) rfl ?_
        refine n_X6_113 C rfl dX6_film_47 (by rw [hR]; exact Nat.le_of_ble_eq_true rfl) (by rw [hR]; exact Nat.le_of_ble_eq_true rfl) (fun a1 na => ?_)
        have hna := R.new na
        refine Z.dup C dX6_film_50 rfl ?_
        refine Z.iload_n C dX6_film_51 rfl ?_
        refine i_X6_115 C rfl dX6_film_52 (c_X2_init htr (zput_same _ _ _)) (by decide) (Nat.le_of_ble_eq_true rfl) (by rw [hR]; exact Nat.le_of_ble_eq_true rfl) (by rw [hR]; exact Nat.le_of_ble_eq_true rfl) (fun w52 h52 q52 => ?_)
        obtain ⟨rfl, p1, p2⟩ := q52
        have R1 := R.keep (h9 := h52) (fun q hq => (p2 q (fun z => R.own hq (by rw [z]; exact na))).trans (zput_ne _ _ (fun z => R.own hq (by rw [z]; exact na))))
        refine v_X6_55 C rfl dX6_film_55 (R1.lFo.choose_spec) (c_Jx4a65c_add_9ea2d htr (ci := 4) (by decide) rfl (by decide +kernel) R1.lF (by omega) p1 (fun j hj => ⟨_, R1.fil hj⟩) (fun z => hna (Or.inr ⟨1, by decide, Or.inl z⟩))) (by decide) (Nat.le_of_ble_eq_true rfl) (by rw [hR]; exact Nat.le_of_ble_eq_true rfl) (by rw [hR]; exact Nat.le_of_ble_eq_true rfl) (fun w55 h55 q55 => ?_) (fun _ _ q => q.elim)
        obtain ⟨rfl, hp⟩ := q55
        obtain ⟨el9, R9⟩ := R1.addF hna p1 hz (by omega) hp
        have Rc : h55 (ad 0 0) = some (eO 7 [.ref (ad 10 0), .ref (ad 10 1), .ref (ad 10 2), .ref (ad 10 3), vI (T 1 0), vI (T 14 0)]) := R9.club
        obtain ⟨e9, L9, -, -⟩ := hp
        refine Z.pop C dX6_film_58 rfl ?_
        refine Z.aload_n C dX6_film_59 rfl ?_
        refine g_X6_16  C rfl dX6_film_60 (Rc) rfl ?_
        refine v_X6_41 C rfl dX6_film_63 (L9.1.choose_spec) (c_size htr L9) (by decide) (Nat.le_of_ble_eq_true rfl) (by rw [hR]; exact Nat.le_of_ble_eq_true rfl) (by rw [hR]; exact Nat.le_of_ble_eq_true rfl) (fun w63 h63 q63 => ?_) (fun _ _ q => q.elim)
        obtain ⟨rfl, q63⟩ := q63
        replace q63 := q63.symm
        subst q63
        refine Z.iconst C dX6_film_66 ?_
        refine Z.isub C dX6_film_67 ?_
        exact Z.iret C E dX6_film_68 (by decide) (by decide) ⟨by rw [show ((cN T 1 + 1 : Nat) : Int) - 1 = (cN T 1 : Int) by omega], adN ad 1 (cN T 1) (fun _ => a1), el9, rfl, R9⟩
      · exfalso; omega
    · exfalso; omega

set_option maxRecDepth 100000 in
theorem c_X6_film_x1 {ln : Launch} (htr : ln.stackTraces = false) {G : zG} {h : zH} {ad : Nat → Nat → Nat} {el : Nat → Nat} {T : Nat → Nat → Int} (R : CR G ad el T h) (I : TB T) {z : Int} (hr : -2147483648 ≤ z ∧ z < 2147483648) (h1 : ¬ (1 ≤ z ∧ z ≤ 20)) : CT ln G yX6_film cX6_film 2 (some .int) 9 ([.ref (ad 0 0), vI z]) h 2 482 (fun _ _ => False) (fun E9 h9 => E9 = "java/lang/IllegalArgumentException" ∧ h9 = h) := by
  refine CT.intro htr (by decide) rfl (Nat.le_of_ble_eq_true rfl) ?_
  intro X hln hG hR hN C E
  subst hln
  subst hG
  have hn9 := I.n
  refine Z.iload_n C dX6_film_0 rfl ?_
  refine Z.iconst C dX6_film_1 ?_
  refine Z.icmp_lt (tgt := 11) C dX6_film_2 (by decide) (by omega) (by omega) (by omega) (by omega) (fun c2 => ?_) (fun c2 => ?_)
  · exact Z.xIAE C E rfl (by decide +kernel : (RX6, 109, "size is out of range") ∈ zTexts) dX6_film_11 dX6_film_14 dX6_film_15 dX6_film_17 dX6_film_20 (by decide) (Nat.le_of_ble_eq_true rfl) (by decide) (by decide) (by rw [hR]; exact Nat.le_of_ble_eq_true rfl) (by rw [hR]; exact Nat.le_of_ble_eq_true rfl) ⟨rfl, rfl⟩
  · refine Z.iload_n C dX6_film_5 rfl ?_
    refine Z.bipush C dX6_film_6 (by decide) ?_
    refine Z.icmp_le (tgt := 21) C dX6_film_8 (by decide) (by omega) (by omega) (by omega) (by omega) (fun c8 => ?_) (fun c8 => ?_)
    · exfalso; omega
    · exact Z.xIAE C E rfl (by decide +kernel : (RX6, 109, "size is out of range") ∈ zTexts) dX6_film_11 dX6_film_14 dX6_film_15 dX6_film_17 dX6_film_20 (by decide) (Nat.le_of_ble_eq_true rfl) (by decide) (by decide) (by rw [hR]; exact Nat.le_of_ble_eq_true rfl) (by rw [hR]; exact Nat.le_of_ble_eq_true rfl) ⟨rfl, rfl⟩

set_option maxRecDepth 100000 in
theorem c_X6_film_x2 {ln : Launch} (htr : ln.stackTraces = false) {G : zG} {h : zH} {ad : Nat → Nat → Nat} {el : Nat → Nat} {T : Nat → Nat → Int} (R : CR G ad el T h) (I : TB T) {z : Int} (h1 : 1 ≤ z ∧ z ≤ 20) (h2 : ¬ cN T 1 < 20) : CT ln G yX6_film cX6_film 2 (some .int) 9 ([.ref (ad 0 0), vI z]) h 2 482 (fun _ _ => False) (fun E9 h9 => E9 = "java/lang/IllegalStateException" ∧ h9 = h) := by
  refine CT.intro htr (by decide) rfl (Nat.le_of_ble_eq_true rfl) ?_
  intro X hln hG hR hN C E
  subst hln
  subst hG
  have hn9 := I.n
  refine Z.iload_n C dX6_film_0 rfl ?_
  refine Z.iconst C dX6_film_1 ?_
  refine Z.icmp_lt (tgt := 11) C dX6_film_2 (by decide) (by omega) (by omega) (by omega) (by omega) (fun c2 => ?_) (fun c2 => ?_)
  · exfalso; omega
  · refine Z.iload_n C dX6_film_5 rfl ?_
    refine Z.bipush C dX6_film_6 (by decide) ?_
    refine Z.icmp_le (tgt := 21) C dX6_film_8 (by decide) (by omega) (by omega) (by omega) (by omega) (fun c8 => ?_) (fun c8 => ?_)
    · refine Z.aload_n C dX6_film_21 rfl ?_
      refine g_X6_16  C rfl dX6_film_22 (R.club) rfl ?_
      refine v_X6_41 C rfl dX6_film_25 (R.lFo.choose_spec) (c_size htr R.lF) (by decide) (Nat.le_of_ble_eq_true rfl) (by rw [hR]; exact Nat.le_of_ble_eq_true rfl) (by rw [hR]; exact Nat.le_of_ble_eq_true rfl) (fun w25 h25 q25 => ?_) (fun _ _ q => q.elim)
      obtain ⟨rfl, q25⟩ := q25
      replace q25 := q25.symm
      subst q25
      refine Z.bipush C dX6_film_28 (by decide) ?_
      refine Z.icmp_lt (tgt := 43) C dX6_film_30 (by decide) (by omega) (by omega) (by omega) (by omega) (fun c30 => ?_) (fun c30 => ?_)
      · exfalso; omega
      · exact Z.xISE C E rfl (by decide +kernel : (RX6, 111, "there are 20 films") ∈ zTexts) dX6_film_33 dX6_film_36 dX6_film_37 dX6_film_39 dX6_film_42 (by decide) (Nat.le_of_ble_eq_true rfl) (by decide) (by decide) (by rw [hR]; exact Nat.le_of_ble_eq_true rfl) (by rw [hR]; exact Nat.le_of_ble_eq_true rfl) ⟨rfl, rfl⟩
    · exfalso; omega

theorem CR.addP {G : zG} {ad : Nat → Nat → Nat} {el : Nat → Nat} {T : Nat → Nat → Int} {h : zH} (R : CR G ad el T h) {h9 : zH} {a b : Nat} {r v : Int} (ha : ¬ cOwn ad el T a) (hb : ¬ cOwn ad el T b) (hab : b ≠ a) (h1 : h a = some (eO 6 [vI r, vI v, .ref b, vI 0, vI 0])) (h2 : h b = some (eI (G.2.1 0) 10 (fun _ => 0))) (hz : T 16 (cN T 2) = 0 ∧ T 19 (cN T 2) = 0 ∧ ∀ j, j < 10 → T 20 (10 * cN T 2 + j) = 0) (hb : 0 ≤ T 15 0) (hp : LPost G h h9 (ad 10 2) (el 2) (cN T 2) a (ad 6)) : ∃ el', CR G (adN ad 2 (cN T 2) (fun k => if k = 6 then a else b)) el' (su (su (su T 17 (cN T 2) r) 18 (cN T 2) v) 15 0 (T 15 0 + 1)) h9 := by
  refine R.add (g := 2) (by decide) (fun k => if k = 6 then a else b) (cnt_of (by decide) rfl rfl ?_ rfl) (fun k i hi => ?_) (fun k _ => ?_) (fun k hk => ?_) (fun k k' h2 h3 he => ?_) hp
  · show ((su (su (su T 17 (cN T 2) r) 18 (cN T 2) v) 15 0 (T 15 0 + 1)) 15 0).toNat = (T 15 0).toNat + 1
    rw [su_at, if_pos ⟨rfl, rfl⟩]
    omega
  · unfold cel
    split
    all_goals first
      | rfl
      | (have hi2 : i < cN T 2 := hi
         have e : (su (su (su T 17 (cN T 2) r) 18 (cN T 2) v) 15 0 (T 15 0 + 1)) 17 i = T 17 i := by rw [su_ne _ _ _ (by decide), su_ne _ _ _ (by decide), su_at, if_neg (fun q => by omega)]
         have e2 : (su (su (su T 17 (cN T 2) r) 18 (cN T 2) v) 15 0 (T 15 0 + 1)) 18 i = T 18 i := by rw [su_ne _ _ _ (by decide), su_at, if_neg (fun q => by omega), su_ne _ _ _ (by decide)]
         have e3 : adN ad 2 (cN T 2) (fun k => if k = 6 then a else b) 7 i = ad 7 i := by unfold adN; rw [if_neg (fun q => by omega)]
         rw [e, e2, e3] <;> rfl)
  · try dsimp only
    split <;> assumption
  · have e1 : (su (su (su T 17 (cN T 2) r) 18 (cN T 2) v) 15 0 (T 15 0 + 1)) 17 (cN T 2) = r := by rw [su_ne _ _ _ (by decide), su_ne _ _ _ (by decide), su_at, if_pos ⟨rfl, rfl⟩]
    have e2 : (su (su (su T 17 (cN T 2) r) 18 (cN T 2) v) 15 0 (T 15 0 + 1)) 18 (cN T 2) = v := by rw [su_ne _ _ _ (by decide), su_at, if_pos ⟨rfl, rfl⟩]
    have e3 : (su (su (su T 17 (cN T 2) r) 18 (cN T 2) v) 15 0 (T 15 0 + 1)) 16 (cN T 2) = 0 := hz.1
    have e4 : (su (su (su T 17 (cN T 2) r) 18 (cN T 2) v) 15 0 (T 15 0 + 1)) 19 (cN T 2) = 0 := hz.2.1
    have e5 : adN ad 2 (cN T 2) (fun k => if k = 6 then a else b) 7 (cN T 2) = b := by unfold adN; rw [if_pos ⟨rfl, rfl⟩]; rfl
    have e6 : row (su (su (su T 17 (cN T 2) r) 18 (cN T 2) v) 15 0 (T 15 0 + 1)) 20 10 (cN T 2) = fun _ => 0 := by
      funext j
      unfold row
      by_cases c : j < 10
      · rw [if_pos c]; exact hz.2.2 j c
      · rw [if_neg c]
    rcases cG_i.2.2.1 hk with rfl | rfl
    · rw [if_pos rfl, h1]
      show _ = some (eO 6 [vI ((su (su (su T 17 (cN T 2) r) 18 (cN T 2) v) 15 0 (T 15 0 + 1)) 17 (cN T 2)), vI ((su (su (su T 17 (cN T 2) r) 18 (cN T 2) v) 15 0 (T 15 0 + 1)) 18 (cN T 2)), .ref (adN ad 2 (cN T 2) (fun k => if k = 6 then a else b) 7 (cN T 2)), vI ((su (su (su T 17 (cN T 2) r) 18 (cN T 2) v) 15 0 (T 15 0 + 1)) 16 (cN T 2)), vI ((su (su (su T 17 (cN T 2) r) 18 (cN T 2) v) 15 0 (T 15 0 + 1)) 19 (cN T 2))])
      rw [e1, e2, e3, e4, e5]
    · rw [if_neg (by decide), h2]
      show _ = some (eI (G.2.1 0) 10 (row (su (su (su T 17 (cN T 2) r) 18 (cN T 2) v) 15 0 (T 15 0 + 1)) 20 10 (cN T 2)))
      rw [e6]
  · try dsimp only at he
    rcases cG_i.2.2.1 h2 with rfl | rfl <;> rcases cG_i.2.2.1 h3 with rfl | rfl
    · rfl
    · rw [if_pos rfl, if_neg (by decide)] at he; exact absurd he.symm hab
    · rw [if_pos rfl, if_neg (by decide)] at he; exact absurd he hab
    · rfl

set_option maxRecDepth 100000 in
theorem c_X6_propose_ok {ln : Launch} (htr : ln.stackTraces = false) {G : zG} {h : zH} {ad : Nat → Nat → Nat} {el : Nat → Nat} {T : Nat → Nat → Int} (R : CR G ad el T h) (I : TB T) {m : Nat} {r v : Int} (hm : m < cN T 0) (h1 : 0 ≤ r ∧ r < 3) (h2 : 0 ≤ v ∧ v ≤ 9) (h3 : ¬ T 3 m = 0) (h4 : cN T 2 < 30) (hz : T 16 (cN T 2) = 0 ∧ T 19 (cN T 2) = 0 ∧ ∀ j, j < 10 → T 20 (10 * cN T 2 + j) = 0) : CT ln G yX6_propose cX6_propose 4 (some .int) 9 ([.ref (ad 0 0), vI (m : Int), vI r, vI v]) h 3 495 (fun r9 h9 => r9 = some (vI ((cN T 2 : Int))) ∧ CK G (ad 0 0) (su (su (su T 17 (cN T 2) r) 18 (cN T 2) v) 15 0 (T 15 0 + 1)) h9) zNo := by
  refine CT.intro htr (by decide) rfl (Nat.le_of_ble_eq_true rfl) ?_
  intro X hln hG hR hN C E
  subst hln
  subst hG
  have hn9 := I.n
  refine Z.aload_n C dX6_propose_0 rfl ?_
  refine Z.iload_n C dX6_propose_1 rfl ?_
  refine v_X6_163 C rfl dX6_propose_2 (R.club) (c_X6_memberAt_ok htr R I hm) (by decide) (Nat.le_of_ble_eq_true rfl) (by rw [hR]; exact Nat.le_of_ble_eq_true rfl) (by rw [hR]; exact Nat.le_of_ble_eq_true rfl) (fun w2 h2 q2 => ?_) (fun _ _ q => q.elim)
  obtain ⟨rfl, q2⟩ := q2
  replace q2 := q2.symm
  subst q2
  refine Z.pop C dX6_propose_5 rfl ?_
  refine Z.aload_n C dX6_propose_6 rfl ?_
  refine Z.iload_n C dX6_propose_7 rfl ?_
  refine v_X6_166 C rfl dX6_propose_8 (R.club) (c_X6_checkRule_ok htr h1) (by decide) (Nat.le_of_ble_eq_true rfl) (by rw [hR]; exact Nat.le_of_ble_eq_true rfl) (by rw [hR]; exact Nat.le_of_ble_eq_true rfl) (fun w8 h8 q8 => ?_) (fun _ _ q => q.elim)
  obtain ⟨rfl, q8⟩ := q8
  replace q8 := q8.symm
  subst q8
  refine Z.iload_n C dX6_propose_11 rfl ?_
  refine Z.if_lt (tgt := 21) C dX6_propose_12 (by decide) (by omega) (by omega) (fun c12 => ?_) (fun c12 => ?_)
  · exfalso; omega
  · refine Z.iload_n C dX6_propose_15 rfl ?_
    refine Z.bipush C dX6_propose_16 (by decide) ?_
    refine Z.icmp_le (tgt := 31) C dX6_propose_18 (by decide) (by omega) (by omega) (by omega) (by omega) (fun c18 => ?_) (fun c18 => ?_)
    · refine Z.aload_n C dX6_propose_31 rfl ?_
      refine Z.iload_n C dX6_propose_32 rfl ?_
      refine v_X6_59 C rfl dX6_propose_33 (R.club) (c_X6_memberInClub_ok htr R I hm h3) (by decide) (Nat.le_of_ble_eq_true rfl) (by rw [hR]; exact Nat.le_of_ble_eq_true rfl) (by rw [hR]; exact Nat.le_of_ble_eq_true rfl) (fun w33 h33 q33 => ?_) (fun _ _ q => q.elim)
      obtain ⟨rfl, q33⟩ := q33
      replace q33 := q33.symm
      subst q33
      refine Z.pop C dX6_propose_36 rfl ?_
      refine Z.aload_n C dX6_propose_37 rfl ?_
      refine g_X6_19  C rfl dX6_propose_38 (R.club) rfl ?_
      refine v_X6_41 C rfl dX6_propose_41 (R.lPo.choose_spec) (c_size htr R.lP) (by decide) (Nat.le_of_ble_eq_true rfl) (by rw [hR]; exact Nat.le_of_ble_eq_true rfl) (by rw [hR]; exact Nat.le_of_ble_eq_true rfl) (fun w41 h41 q41 => ?_) (fun _ _ q => q.elim)
      obtain ⟨rfl, q41⟩ := q41
      replace q41 := q41.symm
      subst q41
      refine Z.bipush C dX6_propose_44 (by decide) ?_
      refine Z.icmp_lt (tgt := 59) C dX6_propose_46 (by decide) (by omega) (by omega) (by omega) (by omega) (fun c46 => ?_) (fun c46 => ?_)
      · refine Z.aload_n C dX6_propose_59 rfl ?_
        refine g_X6_19  C rfl dX6_propose_60 (R.club) rfl ?_
        refine n_X6_88 C rfl dX6_propose_63 (by rw [hR]; exact Nat.le_of_ble_eq_true rfl) (by rw [hR]; exact Nat.le_of_ble_eq_true rfl) (fun a1 na => ?_)
        have hna := R.new na
        refine Z.dup C dX6_propose_66 rfl ?_
        refine Z.iload_n C dX6_propose_67 rfl ?_
        refine Z.iload_n C dX6_propose_68 rfl ?_
        refine i_X6_173 C rfl dX6_propose_69 (c_X4_init htr (zput_same _ _ _)) (by decide) (Nat.le_of_ble_eq_true rfl) (by rw [hR]; exact Nat.le_of_ble_eq_true rfl) (by rw [hR]; exact Nat.le_of_ble_eq_true rfl) (fun w69 h69 q69 => ?_)
        obtain ⟨rfl, b1, nb0, hba, p1, p2, p3⟩ := q69
        have nb : h b1 = none := by rw [zput_ne _ _ hba] at nb0; exact nb0
        have hnb := R.new nb
        have R1 := R.keep (h9 := h69) (fun q hq => (p3 q (fun z => R.own hq (by rw [z]; exact na)) (fun z => R.own hq (by rw [z]; exact nb))).trans (zput_ne _ _ (fun z => R.own hq (by rw [z]; exact na))))
        refine v_X6_55 C rfl dX6_propose_72 (R1.lPo.choose_spec) (c_Jx4a65c_add_9ea2d htr (ci := 6) (by decide) rfl (by decide +kernel) R1.lP (by omega) p1 (fun j hj => ⟨_, R1.pro hj⟩) (fun z => hna (Or.inr ⟨2, by decide, Or.inl z⟩))) (by decide) (Nat.le_of_ble_eq_true rfl) (by rw [hR]; exact Nat.le_of_ble_eq_true rfl) (by rw [hR]; exact Nat.le_of_ble_eq_true rfl) (fun w72 h72 q72 => ?_) (fun _ _ q => q.elim)
        obtain ⟨rfl, hp⟩ := q72
        obtain ⟨el9, R9⟩ := R1.addP hna hnb hba p1 p2 hz (by omega) hp
        have Rc : h72 (ad 0 0) = some (eO 7 [.ref (ad 10 0), .ref (ad 10 1), .ref (ad 10 2), .ref (ad 10 3), vI (T 1 0), vI (T 14 0)]) := R9.club
        obtain ⟨e9, L9, -, -⟩ := hp
        refine Z.pop C dX6_propose_75 rfl ?_
        refine Z.aload_n C dX6_propose_76 rfl ?_
        refine g_X6_19  C rfl dX6_propose_77 (Rc) rfl ?_
        refine v_X6_41 C rfl dX6_propose_80 (L9.1.choose_spec) (c_size htr L9) (by decide) (Nat.le_of_ble_eq_true rfl) (by rw [hR]; exact Nat.le_of_ble_eq_true rfl) (by rw [hR]; exact Nat.le_of_ble_eq_true rfl) (fun w80 h80 q80 => ?_) (fun _ _ q => q.elim)
        obtain ⟨rfl, q80⟩ := q80
        replace q80 := q80.symm
        subst q80
        refine Z.iconst C dX6_propose_83 ?_
        refine Z.isub C dX6_propose_84 ?_
        exact Z.iret C E dX6_propose_85 (by decide) (by decide) ⟨by rw [show ((cN T 2 + 1 : Nat) : Int) - 1 = (cN T 2 : Int) by omega], adN ad 2 (cN T 2) (fun k => if k = 6 then a1 else b1), el9, rfl, R9⟩
      · exfalso; omega
    · exfalso; omega

set_option maxRecDepth 100000 in
theorem c_X6_propose_x1 {ln : Launch} (htr : ln.stackTraces = false) {G : zG} {h : zH} {ad : Nat → Nat → Nat} {el : Nat → Nat} {T : Nat → Nat → Int} (R : CR G ad el T h) (I : TB T) {m r v : Int} (hr : -2147483648 ≤ m ∧ m < 2147483648) (hm : ¬ (0 ≤ m ∧ m < cN T 0)) : CT ln G yX6_propose cX6_propose 4 (some .int) 9 ([.ref (ad 0 0), vI m, vI r, vI v]) h 3 495 (fun _ _ => False) (fun E9 h9 => E9 = "java/lang/IndexOutOfBoundsException" ∧ h9 = h) := by
  refine CT.intro htr (by decide) rfl (Nat.le_of_ble_eq_true rfl) ?_
  intro X hln hG hR hN C E
  subst hln
  subst hG
  have hn9 := I.n
  refine Z.aload_n C dX6_propose_0 rfl ?_
  refine Z.iload_n C dX6_propose_1 rfl ?_
  refine v_X6_163 C rfl dX6_propose_2 (R.club) (c_X6_memberAt_no htr R I hr hm) (by decide) (Nat.le_of_ble_eq_true rfl) (by rw [hR]; exact Nat.le_of_ble_eq_true rfl) (by rw [hR]; exact Nat.le_of_ble_eq_true rfl) (fun w2 h2 q2 => ?_) (fun E9 h9 q9 => by obtain ⟨rfl, rfl⟩ := q9; exact ZT.out C E (by decide) (by decide) ⟨rfl, rfl⟩)
  exact q2.elim
  

set_option maxRecDepth 100000 in
theorem c_X6_propose_x2 {ln : Launch} (htr : ln.stackTraces = false) {G : zG} {h : zH} {ad : Nat → Nat → Nat} {el : Nat → Nat} {T : Nat → Nat → Int} (R : CR G ad el T h) (I : TB T) {m : Nat} {r v : Int} (hm : m < cN T 0) (hr : -2147483648 ≤ r ∧ r < 2147483648) (h1 : ¬ (0 ≤ r ∧ r < 3)) : CT ln G yX6_propose cX6_propose 4 (some .int) 9 ([.ref (ad 0 0), vI (m : Int), vI r, vI v]) h 3 495 (fun _ _ => False) (fun E9 h9 => E9 = "java/lang/IndexOutOfBoundsException" ∧ h9 = h) := by
  refine CT.intro htr (by decide) rfl (Nat.le_of_ble_eq_true rfl) ?_
  intro X hln hG hR hN C E
  subst hln
  subst hG
  have hn9 := I.n
  refine Z.aload_n C dX6_propose_0 rfl ?_
  refine Z.iload_n C dX6_propose_1 rfl ?_
  refine v_X6_163 C rfl dX6_propose_2 (R.club) (c_X6_memberAt_ok htr R I hm) (by decide) (Nat.le_of_ble_eq_true rfl) (by rw [hR]; exact Nat.le_of_ble_eq_true rfl) (by rw [hR]; exact Nat.le_of_ble_eq_true rfl) (fun w2 h2 q2 => ?_) (fun _ _ q => q.elim)
  obtain ⟨rfl, q2⟩ := q2
  replace q2 := q2.symm
  subst q2
  refine Z.pop C dX6_propose_5 rfl ?_
  refine Z.aload_n C dX6_propose_6 rfl ?_
  refine Z.iload_n C dX6_propose_7 rfl ?_
  refine v_X6_166 C rfl dX6_propose_8 (R.club) (c_X6_checkRule_no htr hr h1) (by decide) (Nat.le_of_ble_eq_true rfl) (by rw [hR]; exact Nat.le_of_ble_eq_true rfl) (by rw [hR]; exact Nat.le_of_ble_eq_true rfl) (fun w8 h8 q8 => ?_) (fun E9 h9 q9 => by obtain ⟨rfl, rfl⟩ := q9; exact ZT.out C E (by decide) (by decide) ⟨rfl, rfl⟩)
  exact q8.elim
  

set_option maxRecDepth 100000 in
theorem c_X6_propose_x3 {ln : Launch} (htr : ln.stackTraces = false) {G : zG} {h : zH} {ad : Nat → Nat → Nat} {el : Nat → Nat} {T : Nat → Nat → Int} (R : CR G ad el T h) (I : TB T) {m : Nat} {r v : Int} (hm : m < cN T 0) (hr : -2147483648 ≤ v ∧ v < 2147483648) (h1 : 0 ≤ r ∧ r < 3) (h2 : ¬ (0 ≤ v ∧ v ≤ 9)) : CT ln G yX6_propose cX6_propose 4 (some .int) 9 ([.ref (ad 0 0), vI (m : Int), vI r, vI v]) h 3 495 (fun _ _ => False) (fun E9 h9 => E9 = "java/lang/IllegalArgumentException" ∧ h9 = h) := by
  refine CT.intro htr (by decide) rfl (Nat.le_of_ble_eq_true rfl) ?_
  intro X hln hG hR hN C E
  subst hln
  subst hG
  have hn9 := I.n
  refine Z.aload_n C dX6_propose_0 rfl ?_
  refine Z.iload_n C dX6_propose_1 rfl ?_
  refine v_X6_163 C rfl dX6_propose_2 (R.club) (c_X6_memberAt_ok htr R I hm) (by decide) (Nat.le_of_ble_eq_true rfl) (by rw [hR]; exact Nat.le_of_ble_eq_true rfl) (by rw [hR]; exact Nat.le_of_ble_eq_true rfl) (fun w2 h2 q2 => ?_) (fun _ _ q => q.elim)
  obtain ⟨rfl, q2⟩ := q2
  replace q2 := q2.symm
  subst q2
  refine Z.pop C dX6_propose_5 rfl ?_
  refine Z.aload_n C dX6_propose_6 rfl ?_
  refine Z.iload_n C dX6_propose_7 rfl ?_
  refine v_X6_166 C rfl dX6_propose_8 (R.club) (c_X6_checkRule_ok htr h1) (by decide) (Nat.le_of_ble_eq_true rfl) (by rw [hR]; exact Nat.le_of_ble_eq_true rfl) (by rw [hR]; exact Nat.le_of_ble_eq_true rfl) (fun w8 h8 q8 => ?_) (fun _ _ q => q.elim)
  obtain ⟨rfl, q8⟩ := q8
  replace q8 := q8.symm
  subst q8
  refine Z.iload_n C dX6_propose_11 rfl ?_
  refine Z.if_lt (tgt := 21) C dX6_propose_12 (by decide) (by omega) (by omega) (fun c12 => ?_) (fun c12 => ?_)
  · exact Z.xIAE C E rfl (by decide +kernel : (RX6, 169, "value is out of range") ∈ zTexts) dX6_propose_21 dX6_propose_24 dX6_propose_25 dX6_propose_27 dX6_propose_30 (by decide) (Nat.le_of_ble_eq_true rfl) (by decide) (by decide) (by rw [hR]; exact Nat.le_of_ble_eq_true rfl) (by rw [hR]; exact Nat.le_of_ble_eq_true rfl) ⟨rfl, rfl⟩
  · refine Z.iload_n C dX6_propose_15 rfl ?_
    refine Z.bipush C dX6_propose_16 (by decide) ?_
    refine Z.icmp_le (tgt := 31) C dX6_propose_18 (by decide) (by omega) (by omega) (by omega) (by omega) (fun c18 => ?_) (fun c18 => ?_)
    · exfalso; omega
    · exact Z.xIAE C E rfl (by decide +kernel : (RX6, 169, "value is out of range") ∈ zTexts) dX6_propose_21 dX6_propose_24 dX6_propose_25 dX6_propose_27 dX6_propose_30 (by decide) (Nat.le_of_ble_eq_true rfl) (by decide) (by decide) (by rw [hR]; exact Nat.le_of_ble_eq_true rfl) (by rw [hR]; exact Nat.le_of_ble_eq_true rfl) ⟨rfl, rfl⟩

set_option maxRecDepth 100000 in
theorem c_X6_propose_x4 {ln : Launch} (htr : ln.stackTraces = false) {G : zG} {h : zH} {ad : Nat → Nat → Nat} {el : Nat → Nat} {T : Nat → Nat → Int} (R : CR G ad el T h) (I : TB T) {m : Nat} {r v : Int} (hm : m < cN T 0) (h1 : 0 ≤ r ∧ r < 3) (h2 : 0 ≤ v ∧ v ≤ 9) (h3 : T 3 m = 0) : CT ln G yX6_propose cX6_propose 4 (some .int) 9 ([.ref (ad 0 0), vI (m : Int), vI r, vI v]) h 3 495 (fun _ _ => False) (fun E9 h9 => E9 = "java/lang/IllegalStateException" ∧ h9 = h) := by
  refine CT.intro htr (by decide) rfl (Nat.le_of_ble_eq_true rfl) ?_
  intro X hln hG hR hN C E
  subst hln
  subst hG
  have hn9 := I.n
  refine Z.aload_n C dX6_propose_0 rfl ?_
  refine Z.iload_n C dX6_propose_1 rfl ?_
  refine v_X6_163 C rfl dX6_propose_2 (R.club) (c_X6_memberAt_ok htr R I hm) (by decide) (Nat.le_of_ble_eq_true rfl) (by rw [hR]; exact Nat.le_of_ble_eq_true rfl) (by rw [hR]; exact Nat.le_of_ble_eq_true rfl) (fun w2 h2 q2 => ?_) (fun _ _ q => q.elim)
  obtain ⟨rfl, q2⟩ := q2
  replace q2 := q2.symm
  subst q2
  refine Z.pop C dX6_propose_5 rfl ?_
  refine Z.aload_n C dX6_propose_6 rfl ?_
  refine Z.iload_n C dX6_propose_7 rfl ?_
  refine v_X6_166 C rfl dX6_propose_8 (R.club) (c_X6_checkRule_ok htr h1) (by decide) (Nat.le_of_ble_eq_true rfl) (by rw [hR]; exact Nat.le_of_ble_eq_true rfl) (by rw [hR]; exact Nat.le_of_ble_eq_true rfl) (fun w8 h8 q8 => ?_) (fun _ _ q => q.elim)
  obtain ⟨rfl, q8⟩ := q8
  replace q8 := q8.symm
  subst q8
  refine Z.iload_n C dX6_propose_11 rfl ?_
  refine Z.if_lt (tgt := 21) C dX6_propose_12 (by decide) (by omega) (by omega) (fun c12 => ?_) (fun c12 => ?_)
  · exfalso; omega
  · refine Z.iload_n C dX6_propose_15 rfl ?_
    refine Z.bipush C dX6_propose_16 (by decide) ?_
    refine Z.icmp_le (tgt := 31) C dX6_propose_18 (by decide) (by omega) (by omega) (by omega) (by omega) (fun c18 => ?_) (fun c18 => ?_)
    · refine Z.aload_n C dX6_propose_31 rfl ?_
      refine Z.iload_n C dX6_propose_32 rfl ?_
      refine v_X6_59 C rfl dX6_propose_33 (R.club) (c_X6_memberInClub_out htr R I hm h3) (by decide) (Nat.le_of_ble_eq_true rfl) (by rw [hR]; exact Nat.le_of_ble_eq_true rfl) (by rw [hR]; exact Nat.le_of_ble_eq_true rfl) (fun w33 h33 q33 => ?_) (fun E9 h9 q9 => by obtain ⟨rfl, rfl⟩ := q9; exact ZT.out C E (by decide) (by decide) ⟨rfl, rfl⟩)
      exact q33.elim
      
    · exfalso; omega

set_option maxRecDepth 100000 in
theorem c_X6_propose_x5 {ln : Launch} (htr : ln.stackTraces = false) {G : zG} {h : zH} {ad : Nat → Nat → Nat} {el : Nat → Nat} {T : Nat → Nat → Int} (R : CR G ad el T h) (I : TB T) {m : Nat} {r v : Int} (hm : m < cN T 0) (h1 : 0 ≤ r ∧ r < 3) (h2 : 0 ≤ v ∧ v ≤ 9) (h3 : ¬ T 3 m = 0) (h4 : ¬ cN T 2 < 30) : CT ln G yX6_propose cX6_propose 4 (some .int) 9 ([.ref (ad 0 0), vI (m : Int), vI r, vI v]) h 3 495 (fun _ _ => False) (fun E9 h9 => E9 = "java/lang/IllegalStateException" ∧ h9 = h) := by
  refine CT.intro htr (by decide) rfl (Nat.le_of_ble_eq_true rfl) ?_
  intro X hln hG hR hN C E
  subst hln
  subst hG
  have hn9 := I.n
  refine Z.aload_n C dX6_propose_0 rfl ?_
  refine Z.iload_n C dX6_propose_1 rfl ?_
  refine v_X6_163 C rfl dX6_propose_2 (R.club) (c_X6_memberAt_ok htr R I hm) (by decide) (Nat.le_of_ble_eq_true rfl) (by rw [hR]; exact Nat.le_of_ble_eq_true rfl) (by rw [hR]; exact Nat.le_of_ble_eq_true rfl) (fun w2 h2 q2 => ?_) (fun _ _ q => q.elim)
  obtain ⟨rfl, q2⟩ := q2
  replace q2 := q2.symm
  subst q2
  refine Z.pop C dX6_propose_5 rfl ?_
  refine Z.aload_n C dX6_propose_6 rfl ?_
  refine Z.iload_n C dX6_propose_7 rfl ?_
  refine v_X6_166 C rfl dX6_propose_8 (R.club) (c_X6_checkRule_ok htr h1) (by decide) (Nat.le_of_ble_eq_true rfl) (by rw [hR]; exact Nat.le_of_ble_eq_true rfl) (by rw [hR]; exact Nat.le_of_ble_eq_true rfl) (fun w8 h8 q8 => ?_) (fun _ _ q => q.elim)
  obtain ⟨rfl, q8⟩ := q8
  replace q8 := q8.symm
  subst q8
  refine Z.iload_n C dX6_propose_11 rfl ?_
  refine Z.if_lt (tgt := 21) C dX6_propose_12 (by decide) (by omega) (by omega) (fun c12 => ?_) (fun c12 => ?_)
  · exfalso; omega
  · refine Z.iload_n C dX6_propose_15 rfl ?_
    refine Z.bipush C dX6_propose_16 (by decide) ?_
    refine Z.icmp_le (tgt := 31) C dX6_propose_18 (by decide) (by omega) (by omega) (by omega) (by omega) (fun c18 => ?_) (fun c18 => ?_)
    · refine Z.aload_n C dX6_propose_31 rfl ?_
      refine Z.iload_n C dX6_propose_32 rfl ?_
      refine v_X6_59 C rfl dX6_propose_33 (R.club) (c_X6_memberInClub_ok htr R I hm h3) (by decide) (Nat.le_of_ble_eq_true rfl) (by rw [hR]; exact Nat.le_of_ble_eq_true rfl) (by rw [hR]; exact Nat.le_of_ble_eq_true rfl) (fun w33 h33 q33 => ?_) (fun _ _ q => q.elim)
      obtain ⟨rfl, q33⟩ := q33
      replace q33 := q33.symm
      subst q33
      refine Z.pop C dX6_propose_36 rfl ?_
      refine Z.aload_n C dX6_propose_37 rfl ?_
      refine g_X6_19  C rfl dX6_propose_38 (R.club) rfl ?_
      refine v_X6_41 C rfl dX6_propose_41 (R.lPo.choose_spec) (c_size htr R.lP) (by decide) (Nat.le_of_ble_eq_true rfl) (by rw [hR]; exact Nat.le_of_ble_eq_true rfl) (by rw [hR]; exact Nat.le_of_ble_eq_true rfl) (fun w41 h41 q41 => ?_) (fun _ _ q => q.elim)
      obtain ⟨rfl, q41⟩ := q41
      replace q41 := q41.symm
      subst q41
      refine Z.bipush C dX6_propose_44 (by decide) ?_
      refine Z.icmp_lt (tgt := 59) C dX6_propose_46 (by decide) (by omega) (by omega) (by omega) (by omega) (fun c46 => ?_) (fun c46 => ?_)
      · exfalso; omega
      · exact Z.xISE C E rfl (by decide +kernel : (RX6, 171, "there are 30 proposals") ∈ zTexts) dX6_propose_49 dX6_propose_52 dX6_propose_53 dX6_propose_55 dX6_propose_58 (by decide) (Nat.le_of_ble_eq_true rfl) (by decide) (by decide) (by rw [hR]; exact Nat.le_of_ble_eq_true rfl) (by rw [hR]; exact Nat.le_of_ble_eq_true rfl) ⟨rfl, rfl⟩
    · exfalso; omega

