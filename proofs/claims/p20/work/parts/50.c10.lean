/-! join -/
theorem CR.addM {G : zG} {ad : Nat → Nat → Nat} {el : Nat → Nat} {T : Nat → Nat → Int} {h : zH} (R : CR G ad el T h) {h9 : zH} {a b1 b2 b3 : Nat} {u r : Int} (ha : ¬ cOwn ad el T a) (hb1 : ¬ cOwn ad el T b1) (hb2 : ¬ cOwn ad el T b2) (hb3 : ¬ cOwn ad el T b3) (hd : b1 ≠ a ∧ b2 ≠ a ∧ b3 ≠ a ∧ b2 ≠ b1 ∧ b3 ≠ b1 ∧ b3 ≠ b2)
    (h1 : h a = some (eO 5 [vI (cN T 0 : Int), vI u, vI r, .ref b2, .ref b1, vI 1, vI u, vI 0])) (h2 : h b1 = some (eI (G.2.1 1) 20 (fun _ => 0))) (h3 : h b2 = some (eO 2 [vI (cN T 0 : Int), .ref b3, vI 0])) (h4 : h b3 = some (eI (G.2.1 0) 10 (fun _ => 0)))
    (hz : T 7 (cN T 0) = 0 ∧ T 8 (cN T 0) = 0 ∧ (∀ j, j < 20 → T 13 (20 * cN T 0 + j) = 0) ∧ ∀ j, j < 10 → T 30 (10 * cN T 0 + j) = 0) (hb : 0 ≤ T 2 0) (hp : LPost G h h9 (ad 10 0) (el 0) (cN T 0) a (ad 1)) : ∃ el', CR G (adN ad 0 (cN T 0) (fun k => if k = 1 then a else if k = 2 then b1 else if k = 3 then b2 else b3)) el' (su (su (su (su (su T 3 (cN T 0) 1) 4 (cN T 0) u) 5 (cN T 0) u) 6 (cN T 0) r) 2 0 (T 2 0 + 1)) h9 := by
  obtain ⟨d1, d2, d3, d4, d5, d6⟩ := hd
  refine R.add (g := 0) (by decide) (fun k => if k = 1 then a else if k = 2 then b1 else if k = 3 then b2 else b3) (cnt_of (by decide) ?_ rfl rfl rfl) (fun k i hi => ?_) (fun k _ => ?_) (fun k hk => ?_) (fun k k' h2 h3 he => ?_) hp
  · show ((su (su (su (su (su T 3 (cN T 0) 1) 4 (cN T 0) u) 5 (cN T 0) u) 6 (cN T 0) r) 2 0 (T 2 0 + 1)) 2 0).toNat = (T 2 0).toNat + 1
    rw [su_at, if_pos ⟨rfl, rfl⟩]
    omega
  · unfold cel
    split
    all_goals first
      | rfl
      | (have hi2 : i < cN T 0 := hi
         have e3 : (su (su (su (su (su T 3 (cN T 0) 1) 4 (cN T 0) u) 5 (cN T 0) u) 6 (cN T 0) r) 2 0 (T 2 0 + 1)) 3 i = T 3 i := by rw [su_ne _ _ _ (by decide), su_ne _ _ _ (by decide), su_ne _ _ _ (by decide), su_ne _ _ _ (by decide), su_at, if_neg (fun q => by omega)]
         have e4 : (su (su (su (su (su T 3 (cN T 0) 1) 4 (cN T 0) u) 5 (cN T 0) u) 6 (cN T 0) r) 2 0 (T 2 0 + 1)) 4 i = T 4 i := by rw [su_ne _ _ _ (by decide), su_ne _ _ _ (by decide), su_ne _ _ _ (by decide), su_at, if_neg (fun q => by omega), su_ne _ _ _ (by decide)]
         have e5 : (su (su (su (su (su T 3 (cN T 0) 1) 4 (cN T 0) u) 5 (cN T 0) u) 6 (cN T 0) r) 2 0 (T 2 0 + 1)) 5 i = T 5 i := by rw [su_ne _ _ _ (by decide), su_ne _ _ _ (by decide), su_at, if_neg (fun q => by omega), su_ne _ _ _ (by decide), su_ne _ _ _ (by decide)]
         have e6 : (su (su (su (su (su T 3 (cN T 0) 1) 4 (cN T 0) u) 5 (cN T 0) u) 6 (cN T 0) r) 2 0 (T 2 0 + 1)) 6 i = T 6 i := by rw [su_ne _ _ _ (by decide), su_at, if_neg (fun q => by omega), su_ne _ _ _ (by decide), su_ne _ _ _ (by decide), su_ne _ _ _ (by decide)]
         have a2 : (adN ad 0 (cN T 0) (fun k => if k = 1 then a else if k = 2 then b1 else if k = 3 then b2 else b3)) 2 i = ad 2 i := by unfold adN; rw [if_neg (fun q => by omega)]
         have a3 : (adN ad 0 (cN T 0) (fun k => if k = 1 then a else if k = 2 then b1 else if k = 3 then b2 else b3)) 3 i = ad 3 i := by unfold adN; rw [if_neg (fun q => by omega)]
         rw [e3, e4, e5, e6, a2, a3] <;> rfl)
      | (have hi2 : i < cN T 0 := hi
         have a4 : (adN ad 0 (cN T 0) (fun k => if k = 1 then a else if k = 2 then b1 else if k = 3 then b2 else b3)) 4 i = ad 4 i := by unfold adN; rw [if_neg (fun q => by omega)]
         rw [a4] <;> rfl)
  · try dsimp only
    split
    · assumption
    · split
      · assumption
      · split <;> assumption
  · 
    have e3 : (su (su (su (su (su T 3 (cN T 0) 1) 4 (cN T 0) u) 5 (cN T 0) u) 6 (cN T 0) r) 2 0 (T 2 0 + 1)) 3 (cN T 0) = 1 := by rw [su_ne _ _ _ (by decide), su_ne _ _ _ (by decide), su_ne _ _ _ (by decide), su_ne _ _ _ (by decide), su_at, if_pos ⟨rfl, rfl⟩]
    have e4 : (su (su (su (su (su T 3 (cN T 0) 1) 4 (cN T 0) u) 5 (cN T 0) u) 6 (cN T 0) r) 2 0 (T 2 0 + 1)) 4 (cN T 0) = u := by rw [su_ne _ _ _ (by decide), su_ne _ _ _ (by decide), su_ne _ _ _ (by decide), su_at, if_pos ⟨rfl, rfl⟩]
    have e5 : (su (su (su (su (su T 3 (cN T 0) 1) 4 (cN T 0) u) 5 (cN T 0) u) 6 (cN T 0) r) 2 0 (T 2 0 + 1)) 5 (cN T 0) = u := by rw [su_ne _ _ _ (by decide), su_ne _ _ _ (by decide), su_at, if_pos ⟨rfl, rfl⟩]
    have e6 : (su (su (su (su (su T 3 (cN T 0) 1) 4 (cN T 0) u) 5 (cN T 0) u) 6 (cN T 0) r) 2 0 (T 2 0 + 1)) 6 (cN T 0) = r := by rw [su_ne _ _ _ (by decide), su_at, if_pos ⟨rfl, rfl⟩]
    have z7 : (su (su (su (su (su T 3 (cN T 0) 1) 4 (cN T 0) u) 5 (cN T 0) u) 6 (cN T 0) r) 2 0 (T 2 0 + 1)) 7 (cN T 0) = 0 := hz.1
    have z8 : (su (su (su (su (su T 3 (cN T 0) 1) 4 (cN T 0) u) 5 (cN T 0) u) 6 (cN T 0) r) 2 0 (T 2 0 + 1)) 8 (cN T 0) = 0 := hz.2.1
    have a2 : (adN ad 0 (cN T 0) (fun k => if k = 1 then a else if k = 2 then b1 else if k = 3 then b2 else b3)) 2 (cN T 0) = b1 := by unfold adN; rw [if_pos ⟨rfl, rfl⟩]; rfl
    have a3 : (adN ad 0 (cN T 0) (fun k => if k = 1 then a else if k = 2 then b1 else if k = 3 then b2 else b3)) 3 (cN T 0) = b2 := by unfold adN; rw [if_pos ⟨rfl, rfl⟩]; rfl
    have a4 : (adN ad 0 (cN T 0) (fun k => if k = 1 then a else if k = 2 then b1 else if k = 3 then b2 else b3)) 4 (cN T 0) = b3 := by unfold adN; rw [if_pos ⟨rfl, rfl⟩]; rfl
    have r13 : row (su (su (su (su (su T 3 (cN T 0) 1) 4 (cN T 0) u) 5 (cN T 0) u) 6 (cN T 0) r) 2 0 (T 2 0 + 1)) 13 20 (cN T 0) = fun _ => 0 := by
      funext j
      unfold row
      by_cases c : j < 20
      · rw [if_pos c]; exact hz.2.2.1 j c
      · rw [if_neg c]
    have r30 : row (su (su (su (su (su T 3 (cN T 0) 1) 4 (cN T 0) u) 5 (cN T 0) u) 6 (cN T 0) r) 2 0 (T 2 0 + 1)) 30 10 (cN T 0) = fun _ => 0 := by
      funext j
      unfold row
      by_cases c : j < 10
      · rw [if_pos c]; exact hz.2.2.2 j c
      · rw [if_neg c]
    rcases cG_i.1 hk with rfl | rfl | rfl | rfl
    · show h a = some (eO 5 [vI (cN T 0 : Int), vI ((su (su (su (su (su T 3 (cN T 0) 1) 4 (cN T 0) u) 5 (cN T 0) u) 6 (cN T 0) r) 2 0 (T 2 0 + 1)) 4 (cN T 0)), vI ((su (su (su (su (su T 3 (cN T 0) 1) 4 (cN T 0) u) 5 (cN T 0) u) 6 (cN T 0) r) 2 0 (T 2 0 + 1)) 6 (cN T 0)), .ref ((adN ad 0 (cN T 0) (fun k => if k = 1 then a else if k = 2 then b1 else if k = 3 then b2 else b3)) 3 (cN T 0)), .ref ((adN ad 0 (cN T 0) (fun k => if k = 1 then a else if k = 2 then b1 else if k = 3 then b2 else b3)) 2 (cN T 0)), vI ((su (su (su (su (su T 3 (cN T 0) 1) 4 (cN T 0) u) 5 (cN T 0) u) 6 (cN T 0) r) 2 0 (T 2 0 + 1)) 3 (cN T 0)), vI ((su (su (su (su (su T 3 (cN T 0) 1) 4 (cN T 0) u) 5 (cN T 0) u) 6 (cN T 0) r) 2 0 (T 2 0 + 1)) 5 (cN T 0)), vI ((su (su (su (su (su T 3 (cN T 0) 1) 4 (cN T 0) u) 5 (cN T 0) u) 6 (cN T 0) r) 2 0 (T 2 0 + 1)) 8 (cN T 0))])
      rw [h1, e3, e4, e5, e6, z8, a2, a3]
    · show h b1 = some (eI (G.2.1 1) 20 (row (su (su (su (su (su T 3 (cN T 0) 1) 4 (cN T 0) u) 5 (cN T 0) u) 6 (cN T 0) r) 2 0 (T 2 0 + 1)) 13 20 (cN T 0)))
      rw [h2, r13]
    · show h b2 = some (eO 2 [vI (cN T 0 : Int), .ref ((adN ad 0 (cN T 0) (fun k => if k = 1 then a else if k = 2 then b1 else if k = 3 then b2 else b3)) 4 (cN T 0)), vI ((su (su (su (su (su T 3 (cN T 0) 1) 4 (cN T 0) u) 5 (cN T 0) u) 6 (cN T 0) r) 2 0 (T 2 0 + 1)) 7 (cN T 0))])
      rw [h3, z7, a4]
    · show h b3 = some (eI (G.2.1 0) 10 (row (su (su (su (su (su T 3 (cN T 0) 1) 4 (cN T 0) u) 5 (cN T 0) u) 6 (cN T 0) r) 2 0 (T 2 0 + 1)) 30 10 (cN T 0)))
      rw [h4, r30]
  · rcases cG_i.1 h2 with rfl | rfl | rfl | rfl <;> rcases cG_i.1 h3 with rfl | rfl | rfl | rfl
    all_goals first
      | rfl
      | (exfalso; first | exact d1 he | exact d2 he | exact d3 he | exact d4 he | exact d5 he | exact d6 he | exact d1 he.symm | exact d2 he.symm | exact d3 he.symm | exact d4 he.symm | exact d5 he.symm | exact d6 he.symm)

set_option maxRecDepth 100000 in
theorem c_X6_join_ok {ln : Launch} (htr : ln.stackTraces = false) {G : zG} {h : zH} {ad : Nat → Nat → Nat} {el : Nat → Nat} {T : Nat → Nat → Int} (R : CR G ad el T h) (I : TB T) {u r : Int} (h1 : 1 ≤ u ∧ u ≤ 20) (h2 : 0 ≤ r ∧ r ≤ 50) (h3 : cN T 0 < 10) (hz : T 7 (cN T 0) = 0 ∧ T 8 (cN T 0) = 0 ∧ (∀ j, j < 20 → T 13 (20 * cN T 0 + j) = 0) ∧ ∀ j, j < 10 → T 30 (10 * cN T 0 + j) = 0) : CT ln G yX6_join cX6_join 4 (some .int) 9 ([.ref (ad 0 0), vI u, vI r]) h 5 521 (fun r9 h9 => r9 = some (vI ((cN T 0 : Int))) ∧ CK G (ad 0 0) ((su (su (su (su (su T 3 (cN T 0) 1) 4 (cN T 0) u) 5 (cN T 0) u) 6 (cN T 0) r) 2 0 (T 2 0 + 1))) h9) zNo := by
  refine CT.intro htr (by decide) rfl (Nat.le_of_ble_eq_true rfl) ?_
  intro X hln hG hR hN C E
  subst hln
  subst hG
  have hn9 := I.n
  refine Z.iload_n C dX6_join_0 rfl ?_
  refine Z.iconst C dX6_join_1 ?_
  refine Z.icmp_lt (tgt := 11) C dX6_join_2 (by decide) (by omega) (by omega) (by omega) (by omega) (fun c2 => ?_) (fun c2 => ?_)
  · exfalso; omega
  · refine Z.iload_n C dX6_join_5 rfl ?_
    refine Z.bipush C dX6_join_6 (by decide) ?_
    refine Z.icmp_le (tgt := 21) C dX6_join_8 (by decide) (by omega) (by omega) (by omega) (by omega) (fun c8 => ?_) (fun c8 => ?_)
    · refine Z.iload_n C dX6_join_21 rfl ?_
      refine Z.if_lt (tgt := 31) C dX6_join_22 (by decide) (by omega) (by omega) (fun c22 => ?_) (fun c22 => ?_)
      · exfalso; omega
      · refine Z.iload_n C dX6_join_25 rfl ?_
        refine Z.bipush C dX6_join_26 (by decide) ?_
        refine Z.icmp_le (tgt := 41) C dX6_join_28 (by decide) (by omega) (by omega) (by omega) (by omega) (fun c28 => ?_) (fun c28 => ?_)
        · refine Z.aload_n C dX6_join_41 rfl ?_
          refine g_X6_10  C rfl dX6_join_42 (R.club) rfl ?_
          refine v_X6_41 C rfl dX6_join_45 (R.lMo.choose_spec) (c_size htr R.lM) (by decide) (Nat.le_of_ble_eq_true rfl) (by rw [hR]; exact Nat.le_of_ble_eq_true rfl) (by rw [hR]; exact Nat.le_of_ble_eq_true rfl) (fun w45 h45 q45 => ?_) (fun _ _ q => q.elim)
          obtain ⟨rfl, q45⟩ := q45
          replace q45 := q45.symm
          subst q45
          refine Z.bipush C dX6_join_48 (by decide) ?_
          refine Z.icmp_lt (tgt := 63) C dX6_join_50 (by decide) (by omega) (by omega) (by omega) (by omega) (fun c50 => ?_) (fun c50 => ?_)
          · refine Z.aload_n C dX6_join_63 rfl ?_
            refine g_X6_10  C rfl dX6_join_64 (R.club) rfl ?_
            refine v_X6_41 C rfl dX6_join_67 (R.lMo.choose_spec) (c_size htr R.lM) (by decide) (Nat.le_of_ble_eq_true rfl) (by rw [hR]; exact Nat.le_of_ble_eq_true rfl) (by rw [hR]; exact Nat.le_of_ble_eq_true rfl) (fun w67 h67 q67 => ?_) (fun _ _ q => q.elim)
            obtain ⟨rfl, q67⟩ := q67
            replace q67 := q67.symm
            subst q67
            refine Z.istore_n (l' := [_, _, _, _]) C dX6_join_70 (Nat.le_of_ble_eq_true rfl) (by rw [hN]; decide) rfl ?_
            refine Z.aload_n C dX6_join_71 rfl ?_
            refine g_X6_10  C rfl dX6_join_72 (R.club) rfl ?_
            refine n_X6_50 C rfl dX6_join_75 (by rw [hR]; exact Nat.le_of_ble_eq_true rfl) (by rw [hR]; exact Nat.le_of_ble_eq_true rfl) (fun a1 na => ?_)
            have hna := R.new na
            refine Z.dup C dX6_join_78 rfl ?_
            refine Z.iload_n C dX6_join_79 rfl ?_
            refine Z.iload_n C dX6_join_80 rfl ?_
            refine Z.iload_n C dX6_join_81 rfl ?_
            refine i_X6_52 C rfl dX6_join_82 (c_X3_init htr (zput_same _ _ _)) (by decide) (Nat.le_of_ble_eq_true rfl) (by rw [hR]; exact Nat.le_of_ble_eq_true rfl) (by rw [hR]; exact Nat.le_of_ble_eq_true rfl) (fun w82 h82 q82 => ?_)
            obtain ⟨rfl, b1, b2, b3, ⟨n1, n2, n3⟩, hd, p1, p2, p3, p4, p5⟩ := q82
            obtain ⟨d1, d2, d3, d4, d5, d6⟩ := id hd
            have m1 : h b1 = none := by rw [zput_ne _ _ d1] at n1; exact n1
            have m2 : h b2 = none := by rw [zput_ne _ _ d2] at n2; exact n2
            have m3 : h b3 = none := by rw [zput_ne _ _ d3] at n3; exact n3
            have R1 := R.keep (h9 := h82) (fun q hq => (p5 q (fun z => R.own hq (by rw [z]; exact na)) (fun z => R.own hq (by rw [z]; exact m1)) (fun z => R.own hq (by rw [z]; exact m2)) (fun z => R.own hq (by rw [z]; exact m3))).trans (zput_ne _ _ (fun z => R.own hq (by rw [z]; exact na))))
            refine v_X6_55 C rfl dX6_join_85 (R1.lMo.choose_spec) (c_Jx4a65c_add_9ea2d htr (ci := 5) (by decide) rfl (by decide +kernel) R1.lM (by omega) p1 (fun j hj => ⟨_, R1.mem hj⟩) (fun z => hna (Or.inr ⟨0, by decide, Or.inl z⟩))) (by decide) (Nat.le_of_ble_eq_true rfl) (by rw [hR]; exact Nat.le_of_ble_eq_true rfl) (by rw [hR]; exact Nat.le_of_ble_eq_true rfl) (fun w85 h85 q85 => ?_) (fun _ _ q => q.elim)
            obtain ⟨rfl, hp⟩ := q85
            obtain ⟨el9, R9⟩ := R1.addM hna (R.new m1) (R.new m2) (R.new m3) hd p1 p2 p3 p4 hz (by omega) hp
            refine Z.pop C dX6_join_88 rfl ?_
            refine Z.iload_n C dX6_join_89 rfl ?_
            exact Z.iret C E dX6_join_90 (by decide) (by decide) ⟨rfl, adN ad 0 (cN T 0) (fun k => if k = 1 then a1 else if k = 2 then b1 else if k = 3 then b2 else b3), el9, rfl, R9⟩
          · exfalso; omega
        · exfalso; omega
    · exfalso; omega

set_option maxRecDepth 100000 in
theorem c_X6_join_x1 {ln : Launch} (htr : ln.stackTraces = false) {G : zG} {h : zH} {ad : Nat → Nat → Nat} {el : Nat → Nat} {T : Nat → Nat → Int} (R : CR G ad el T h) (I : TB T) {u r : Int} (hr : -2147483648 ≤ u ∧ u < 2147483648) (h1 : ¬ (1 ≤ u ∧ u ≤ 20)) : CT ln G yX6_join cX6_join 4 (some .int) 9 ([.ref (ad 0 0), vI u, vI r]) h 5 521 (fun _ _ => False) (fun E9 h9 => E9 = "java/lang/IllegalArgumentException" ∧ h9 = h) := by
  refine CT.intro htr (by decide) rfl (Nat.le_of_ble_eq_true rfl) ?_
  intro X hln hG hR hN C E
  subst hln
  subst hG
  have hn9 := I.n
  refine Z.iload_n C dX6_join_0 rfl ?_
  refine Z.iconst C dX6_join_1 ?_
  refine Z.icmp_lt (tgt := 11) C dX6_join_2 (by decide) (by omega) (by omega) (by omega) (by omega) (fun c2 => ?_) (fun c2 => ?_)
  · exact Z.xIAE C E rfl (by decide +kernel : (RX6, 34, "units are out of range") ∈ zTexts) dX6_join_11 dX6_join_14 dX6_join_15 dX6_join_17 dX6_join_20 (by decide) (Nat.le_of_ble_eq_true rfl) (by decide) (by decide) (by rw [hR]; exact Nat.le_of_ble_eq_true rfl) (by rw [hR]; exact Nat.le_of_ble_eq_true rfl) ⟨rfl, rfl⟩
  · refine Z.iload_n C dX6_join_5 rfl ?_
    refine Z.bipush C dX6_join_6 (by decide) ?_
    refine Z.icmp_le (tgt := 21) C dX6_join_8 (by decide) (by omega) (by omega) (by omega) (by omega) (fun c8 => ?_) (fun c8 => ?_)
    · exfalso; omega
    · exact Z.xIAE C E rfl (by decide +kernel : (RX6, 34, "units are out of range") ∈ zTexts) dX6_join_11 dX6_join_14 dX6_join_15 dX6_join_17 dX6_join_20 (by decide) (Nat.le_of_ble_eq_true rfl) (by decide) (by decide) (by rw [hR]; exact Nat.le_of_ble_eq_true rfl) (by rw [hR]; exact Nat.le_of_ble_eq_true rfl) ⟨rfl, rfl⟩

set_option maxRecDepth 100000 in
theorem c_X6_join_x2 {ln : Launch} (htr : ln.stackTraces = false) {G : zG} {h : zH} {ad : Nat → Nat → Nat} {el : Nat → Nat} {T : Nat → Nat → Int} (R : CR G ad el T h) (I : TB T) {u r : Int} (hr : -2147483648 ≤ r ∧ r < 2147483648) (h1 : 1 ≤ u ∧ u ≤ 20) (h2 : ¬ (0 ≤ r ∧ r ≤ 50)) : CT ln G yX6_join cX6_join 4 (some .int) 9 ([.ref (ad 0 0), vI u, vI r]) h 5 521 (fun _ _ => False) (fun E9 h9 => E9 = "java/lang/IllegalArgumentException" ∧ h9 = h) := by
  refine CT.intro htr (by decide) rfl (Nat.le_of_ble_eq_true rfl) ?_
  intro X hln hG hR hN C E
  subst hln
  subst hG
  have hn9 := I.n
  refine Z.iload_n C dX6_join_0 rfl ?_
  refine Z.iconst C dX6_join_1 ?_
  refine Z.icmp_lt (tgt := 11) C dX6_join_2 (by decide) (by omega) (by omega) (by omega) (by omega) (fun c2 => ?_) (fun c2 => ?_)
  · exfalso; omega
  · refine Z.iload_n C dX6_join_5 rfl ?_
    refine Z.bipush C dX6_join_6 (by decide) ?_
    refine Z.icmp_le (tgt := 21) C dX6_join_8 (by decide) (by omega) (by omega) (by omega) (by omega) (fun c8 => ?_) (fun c8 => ?_)
    · refine Z.iload_n C dX6_join_21 rfl ?_
      refine Z.if_lt (tgt := 31) C dX6_join_22 (by decide) (by omega) (by omega) (fun c22 => ?_) (fun c22 => ?_)
      · exact Z.xIAE C E rfl (by decide +kernel : (RX6, 39, "room is out of range") ∈ zTexts) dX6_join_31 dX6_join_34 dX6_join_35 dX6_join_37 dX6_join_40 (by decide) (Nat.le_of_ble_eq_true rfl) (by decide) (by decide) (by rw [hR]; exact Nat.le_of_ble_eq_true rfl) (by rw [hR]; exact Nat.le_of_ble_eq_true rfl) ⟨rfl, rfl⟩
      · refine Z.iload_n C dX6_join_25 rfl ?_
        refine Z.bipush C dX6_join_26 (by decide) ?_
        refine Z.icmp_le (tgt := 41) C dX6_join_28 (by decide) (by omega) (by omega) (by omega) (by omega) (fun c28 => ?_) (fun c28 => ?_)
        · exfalso; omega
        · exact Z.xIAE C E rfl (by decide +kernel : (RX6, 39, "room is out of range") ∈ zTexts) dX6_join_31 dX6_join_34 dX6_join_35 dX6_join_37 dX6_join_40 (by decide) (Nat.le_of_ble_eq_true rfl) (by decide) (by decide) (by rw [hR]; exact Nat.le_of_ble_eq_true rfl) (by rw [hR]; exact Nat.le_of_ble_eq_true rfl) ⟨rfl, rfl⟩
    · exfalso; omega

set_option maxRecDepth 100000 in
theorem c_X6_join_x3 {ln : Launch} (htr : ln.stackTraces = false) {G : zG} {h : zH} {ad : Nat → Nat → Nat} {el : Nat → Nat} {T : Nat → Nat → Int} (R : CR G ad el T h) (I : TB T) {u r : Int} (h1 : 1 ≤ u ∧ u ≤ 20) (h2 : 0 ≤ r ∧ r ≤ 50) (h3 : ¬ cN T 0 < 10) : CT ln G yX6_join cX6_join 4 (some .int) 9 ([.ref (ad 0 0), vI u, vI r]) h 5 521 (fun _ _ => False) (fun E9 h9 => E9 = "java/lang/IllegalStateException" ∧ h9 = h) := by
  refine CT.intro htr (by decide) rfl (Nat.le_of_ble_eq_true rfl) ?_
  intro X hln hG hR hN C E
  subst hln
  subst hG
  have hn9 := I.n
  refine Z.iload_n C dX6_join_0 rfl ?_
  refine Z.iconst C dX6_join_1 ?_
  refine Z.icmp_lt (tgt := 11) C dX6_join_2 (by decide) (by omega) (by omega) (by omega) (by omega) (fun c2 => ?_) (fun c2 => ?_)
  · exfalso; omega
  · refine Z.iload_n C dX6_join_5 rfl ?_
    refine Z.bipush C dX6_join_6 (by decide) ?_
    refine Z.icmp_le (tgt := 21) C dX6_join_8 (by decide) (by omega) (by omega) (by omega) (by omega) (fun c8 => ?_) (fun c8 => ?_)
    · refine Z.iload_n C dX6_join_21 rfl ?_
      refine Z.if_lt (tgt := 31) C dX6_join_22 (by decide) (by omega) (by omega) (fun c22 => ?_) (fun c22 => ?_)
      · exfalso; omega
      · refine Z.iload_n C dX6_join_25 rfl ?_
        refine Z.bipush C dX6_join_26 (by decide) ?_
        refine Z.icmp_le (tgt := 41) C dX6_join_28 (by decide) (by omega) (by omega) (by omega) (by omega) (fun c28 => ?_) (fun c28 => ?_)
        · refine Z.aload_n C dX6_join_41 rfl ?_
          refine g_X6_10  C rfl dX6_join_42 (R.club) rfl ?_
          refine v_X6_41 C rfl dX6_join_45 (R.lMo.choose_spec) (c_size htr R.lM) (by decide) (Nat.le_of_ble_eq_true rfl) (by rw [hR]; exact Nat.le_of_ble_eq_true rfl) (by rw [hR]; exact Nat.le_of_ble_eq_true rfl) (fun w45 h45 q45 => ?_) (fun _ _ q => q.elim)
          obtain ⟨rfl, q45⟩ := q45
          replace q45 := q45.symm
          subst q45
          refine Z.bipush C dX6_join_48 (by decide) ?_
          refine Z.icmp_lt (tgt := 63) C dX6_join_50 (by decide) (by omega) (by omega) (by omega) (by omega) (fun c50 => ?_) (fun c50 => ?_)
          · exfalso; omega
          · exact Z.xISE C E rfl (by decide +kernel : (RX6, 47, "there were 10 members") ∈ zTexts) dX6_join_53 dX6_join_56 dX6_join_57 dX6_join_59 dX6_join_62 (by decide) (Nat.le_of_ble_eq_true rfl) (by decide) (by decide) (by rw [hR]; exact Nat.le_of_ble_eq_true rfl) (by rw [hR]; exact Nat.le_of_ble_eq_true rfl) ⟨rfl, rfl⟩
        · exfalso; omega
    · exfalso; omega

