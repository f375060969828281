/-! THE CLUB'S OWN METHODS: bounds, readers -/
def thi (k : Nat) : Int := match k with
  | 1 => 2000
  | 2 => 10
  | 3 => 1
  | 4 => 20
  | 5 => 20
  | 6 => 50
  | 8 => 300
  | 10 => 20
  | 11 => 20
  | 12 => 300
  | 13 => 1
  | 14 => 300
  | 15 => 30
  | 16 => 2
  | 17 => 2
  | 18 => 9
  | 19 => 2001
  | 20 => 2
  | 31 => 310
  | 32 => 3
  | 33 => 2000
  | 34 => 9
  | 35 => 20
  | 37 => 20
  | _ => 1000000
def TB (T : Nat → Nat → Int) : Prop := (∀ k j, k ≠ 7 → k ≠ 30 → k ≠ 36 → 0 ≤ T k j ∧ T k j ≤ thi k) ∧ ∀ j, -1 ≤ T 36 j ∧ T 36 j ≤ 9
theorem TB.n {T : Nat → Nat → Int} (I : TB T) : (cN T 0 ≤ 10 ∧ ((cN T 0 : Nat) : Int) = T 2 0) ∧ (cN T 1 ≤ 20 ∧ ((cN T 1 : Nat) : Int) = T 10 0) ∧ (cN T 2 ≤ 30 ∧ ((cN T 2 : Nat) : Int) = T 15 0) ∧ (cN T 3 ≤ 310 ∧ ((cN T 3 : Nat) : Int) = T 31 0) := by
  have h0 : 0 ≤ T 2 0 ∧ T 2 0 ≤ 10 := I.1 2 0 (by decide) (by decide) (by decide)
  have h1 : 0 ≤ T 10 0 ∧ T 10 0 ≤ 20 := I.1 10 0 (by decide) (by decide) (by decide)
  have h2 : 0 ≤ T 15 0 ∧ T 15 0 ≤ 30 := I.1 15 0 (by decide) (by decide) (by decide)
  have h3 : 0 ≤ T 31 0 ∧ T 31 0 ≤ 310 := I.1 31 0 (by decide) (by decide) (by decide)
  have e0 : cN T 0 = (T 2 0).toNat := rfl
  have e1 : cN T 1 = (T 10 0).toNat := rfl
  have e2 : cN T 2 = (T 15 0).toNat := rfl
  have e3 : cN T 3 = (T 31 0).toNat := rfl
  omega
theorem TB.n0 {T : Nat → Nat → Int} (I : TB T) : cN T 0 ≤ 10 := I.n.1.1
theorem TB.n1 {T : Nat → Nat → Int} (I : TB T) : cN T 1 ≤ 20 := I.n.2.1.1
theorem TB.n2 {T : Nat → Nat → Int} (I : TB T) : cN T 2 ≤ 30 := I.n.2.2.1.1
theorem TB.n3 {T : Nat → Nat → Int} (I : TB T) : cN T 3 ≤ 310 := I.n.2.2.2.1

theorem CR.club {G : zG} {ad : Nat → Nat → Nat} {el : Nat → Nat} {T : Nat → Nat → Int} {h : zH} (R : CR G ad el T h) : h (ad 0 0) = some (eO 7 [.ref (ad 10 0), .ref (ad 10 1), .ref (ad 10 2), .ref (ad 10 3), vI (T 1 0), vI (T 14 0)]) := R.1 0 0 (Nat.lt_succ_self 0)
theorem CR.mem {G : zG} {ad : Nat → Nat → Nat} {el : Nat → Nat} {T : Nat → Nat → Int} {h : zH} (R : CR G ad el T h) {i : Nat} (hi : i < cN T 0) : h (ad 1 i) = some (eO 5 [vI (i : Int), vI (T 4 i), vI (T 6 i), .ref (ad 3 i), .ref (ad 2 i), vI (T 3 i), vI (T 5 i), vI (T 8 i)]) := R.1 1 i hi
theorem CR.held {G : zG} {ad : Nat → Nat → Nat} {el : Nat → Nat} {T : Nat → Nat → Int} {h : zH} (R : CR G ad el T h) {i : Nat} (hi : i < cN T 0) : h (ad 2 i) = some (eI (G.2.1 1) 20 (row T 13 20 i)) := R.1 2 i hi
theorem CR.book {G : zG} {ad : Nat → Nat → Nat} {el : Nat → Nat} {T : Nat → Nat → Int} {h : zH} (R : CR G ad el T h) {i : Nat} (hi : i < cN T 0) : h (ad 3 i) = some (eO 2 [vI (i : Int), .ref (ad 4 i), vI (T 7 i)]) := R.1 3 i hi
theorem CR.bal {G : zG} {ad : Nat → Nat → Nat} {el : Nat → Nat} {T : Nat → Nat → Int} {h : zH} (R : CR G ad el T h) {i : Nat} (hi : i < cN T 0) : h (ad 4 i) = some (eI (G.2.1 0) 10 (row T 30 10 i)) := R.1 4 i hi
theorem CR.fil {G : zG} {ad : Nat → Nat → Nat} {el : Nat → Nat} {T : Nat → Nat → Int} {h : zH} (R : CR G ad el T h) {i : Nat} (hi : i < cN T 1) : h (ad 5 i) = some (eO 4 [vI (T 11 i), vI (T 12 i)]) := R.1 5 i hi
theorem CR.pro {G : zG} {ad : Nat → Nat → Nat} {el : Nat → Nat} {T : Nat → Nat → Int} {h : zH} (R : CR G ad el T h) {i : Nat} (hi : i < cN T 2) : h (ad 6 i) = some (eO 6 [vI (T 17 i), vI (T 18 i), .ref (ad 7 i), vI (T 16 i), vI (T 19 i)]) := R.1 6 i hi
theorem CR.vot {G : zG} {ad : Nat → Nat → Nat} {el : Nat → Nat} {T : Nat → Nat → Int} {h : zH} (R : CR G ad el T h) {i : Nat} (hi : i < cN T 2) : h (ad 7 i) = some (eI (G.2.1 0) 10 (row T 20 10 i)) := R.1 7 i hi
theorem CR.ent {G : zG} {ad : Nat → Nat → Nat} {el : Nat → Nat} {T : Nat → Nat → Int} {h : zH} (R : CR G ad el T h) {i : Nat} (hi : i < cN T 3) : h (ad 8 i) = some (eO 3 [.ref (G.2.2 (T 32 i).toNat), vI (T 33 i), vI (T 34 i), vI (T 35 i), .ref (ad 9 i), vI (T 36 i)]) := R.1 8 i hi
theorem CR.lin {G : zG} {ad : Nat → Nat → Nat} {el : Nat → Nat} {T : Nat → Nat → Int} {h : zH} (R : CR G ad el T h) {i : Nat} (hi : i < cN T 3) : h (ad 9 i) = some (eI (G.2.1 0) 10 (row T 37 10 i)) := R.1 9 i hi
theorem CR.lM {G : zG} {ad : Nat → Nat → Nat} {el : Nat → Nat} {T : Nat → Nat → Int} {h : zH} (R : CR G ad el T h) : LL G h (ad 10 0) (el 0) (cN T 0) (ad 1) := R.2.2.1 0 (by decide)
theorem CR.lMo {G : zG} {ad : Nat → Nat → Nat} {el : Nat → Nat} {T : Nat → Nat → Int} {h : zH} (R : CR G ad el T h) : ∃ m : Int, h (ad 10 0) = some (eO 1 [vI m, .ref (el 0), vI (cN T 0 : Int)]) := (R.2.2.1 0 (by decide)).1
theorem CR.lF {G : zG} {ad : Nat → Nat → Nat} {el : Nat → Nat} {T : Nat → Nat → Int} {h : zH} (R : CR G ad el T h) : LL G h (ad 10 1) (el 1) (cN T 1) (ad 5) := R.2.2.1 1 (by decide)
theorem CR.lFo {G : zG} {ad : Nat → Nat → Nat} {el : Nat → Nat} {T : Nat → Nat → Int} {h : zH} (R : CR G ad el T h) : ∃ m : Int, h (ad 10 1) = some (eO 1 [vI m, .ref (el 1), vI (cN T 1 : Int)]) := (R.2.2.1 1 (by decide)).1
theorem CR.lP {G : zG} {ad : Nat → Nat → Nat} {el : Nat → Nat} {T : Nat → Nat → Int} {h : zH} (R : CR G ad el T h) : LL G h (ad 10 2) (el 2) (cN T 2) (ad 6) := R.2.2.1 2 (by decide)
theorem CR.lPo {G : zG} {ad : Nat → Nat → Nat} {el : Nat → Nat} {T : Nat → Nat → Int} {h : zH} (R : CR G ad el T h) : ∃ m : Int, h (ad 10 2) = some (eO 1 [vI m, .ref (el 2), vI (cN T 2 : Int)]) := (R.2.2.1 2 (by decide)).1
theorem CR.lE {G : zG} {ad : Nat → Nat → Nat} {el : Nat → Nat} {T : Nat → Nat → Int} {h : zH} (R : CR G ad el T h) : LL G h (ad 10 3) (el 3) (cN T 3) (ad 8) := R.2.2.1 3 (by decide)
theorem CR.lEo {G : zG} {ad : Nat → Nat → Nat} {el : Nat → Nat} {T : Nat → Nat → Int} {h : zH} (R : CR G ad el T h) : ∃ m : Int, h (ad 10 3) = some (eO 1 [vI m, .ref (el 3), vI (cN T 3 : Int)]) := (R.2.2.1 3 (by decide)).1
theorem c_getN {ln : Launch} (htr : ln.stackTraces = false) {G : zG} {h : zH} {b el n : Nat} {g : Nat → Nat} {i : Nat} (hl : LL G h b el n g) (h1 : i < n) : CT ln G yJx4a65c_get_915e3 cJx4a65c_get_915e3 2 (some (.object "java/lang/Object")) 3 [.ref b, vI (i : Int)] h 0 0 (fun r9 h9 => r9 = some (.ref (g i)) ∧ h9 = h) zNo := by
  have q := c_get htr hl (i := (i : Int)) ⟨by omega, by omega⟩
  rw [Int.toNat_natCast] at q
  exact q

set_option maxRecDepth 100000 in
theorem c_X6_memberAt_ok {ln : Launch} (htr : ln.stackTraces = false) {G : zG} {h : zH} {ad : Nat → Nat → Nat} {el : Nat → Nat} {T : Nat → Nat → Int} (R : CR G ad el T h) (I : TB T) {i : Nat} (hi : i < cN T 0) : CT ln G yX6_memberAt cX6_memberAt 2 (some (.object "Bandwidthclub$Member")) 6 ([.ref (ad 0 0), vI (i : Int)]) h 0 0 (fun r9 h9 => r9 = some (.ref (ad 1 i)) ∧ h9 = h) zNo := by
  refine CT.intro htr (by decide) rfl (Nat.le_of_ble_eq_true rfl) ?_
  intro X hln hG hR hN C E
  subst hln
  subst hG
  have hn9 := I.n0
  refine Z.iload_n C dX6_memberAt_0 rfl ?_
  refine Z.if_lt (tgt := 15) C dX6_memberAt_1 (by decide) (by omega) (by omega) (fun c1 => ?_) (fun c1 => ?_)
  · exfalso; omega
  · refine Z.iload_n C dX6_memberAt_4 rfl ?_
    refine Z.aload_n C dX6_memberAt_5 rfl ?_
    refine g_X6_10  C rfl dX6_memberAt_6 (R.club) rfl ?_
    refine v_X6_41 C rfl dX6_memberAt_9 (R.lMo.choose_spec) (c_size htr R.lM) (by decide) (Nat.le_of_ble_eq_true rfl) (by rw [hR]; exact Nat.le_of_ble_eq_true rfl) (by rw [hR]; exact Nat.le_of_ble_eq_true rfl) (fun w9 h9 q9 => ?_) (fun _ _ q => q.elim)
    obtain ⟨rfl, q9⟩ := q9
    replace q9 := q9.symm
    subst q9
    refine Z.icmp_lt (tgt := 25) C dX6_memberAt_12 (by decide) (by omega) (by omega) (by omega) (by omega) (fun c12 => ?_) (fun c12 => ?_)
    · refine Z.aload_n C dX6_memberAt_25 rfl ?_
      refine g_X6_10  C rfl dX6_memberAt_26 (R.club) rfl ?_
      refine Z.iload_n C dX6_memberAt_29 rfl ?_
      refine v_X6_84 C rfl dX6_memberAt_30 (R.lMo.choose_spec) (c_getN htr R.lM hi) (by decide) (Nat.le_of_ble_eq_true rfl) (by rw [hR]; exact Nat.le_of_ble_eq_true rfl) (by rw [hR]; exact Nat.le_of_ble_eq_true rfl) (fun w30 h30 q30 => ?_) (fun _ _ q => q.elim)
      obtain ⟨rfl, q30⟩ := q30
      replace q30 := q30.symm
      subst q30
      refine k_X6_50 C rfl dX6_memberAt_33 (R.mem hi) ?_
      exact Z.aret C E (Or.inl ⟨_, rfl⟩) dX6_memberAt_36 (by decide) (by decide) ⟨rfl, rfl⟩
    · exfalso; omega

set_option maxRecDepth 100000 in
theorem c_X6_memberAt_no {ln : Launch} (htr : ln.stackTraces = false) {G : zG} {h : zH} {ad : Nat → Nat → Nat} {el : Nat → Nat} {T : Nat → Nat → Int} (R : CR G ad el T h) (I : TB T) {i : Int} (hr : -2147483648 ≤ i ∧ i < 2147483648) (hi : ¬ (0 ≤ i ∧ i < cN T 0)) : CT ln G yX6_memberAt cX6_memberAt 2 (some (.object "Bandwidthclub$Member")) 6 ([.ref (ad 0 0), vI i]) h 1 6 (fun _ _ => False) (fun E9 h9 => E9 = "java/lang/IndexOutOfBoundsException" ∧ h9 = h) := by
  refine CT.intro htr (by decide) rfl (Nat.le_of_ble_eq_true rfl) ?_
  intro X hln hG hR hN C E
  subst hln
  subst hG
  have hn9 := I.n0
  refine Z.iload_n C dX6_memberAt_0 rfl ?_
  refine Z.if_lt (tgt := 15) C dX6_memberAt_1 (by decide) (by omega) (by omega) (fun c1 => ?_) (fun c1 => ?_)
  · exact Z.xIOO C E rfl (by decide +kernel : (RX6, 244, "no such member") ∈ zTexts) dX6_memberAt_15 dX6_memberAt_18 dX6_memberAt_19 dX6_memberAt_21 dX6_memberAt_24 (by decide) (Nat.le_of_ble_eq_true rfl) (by decide) (by decide) (by rw [hR]; exact Nat.le_of_ble_eq_true rfl) (by rw [hR]; exact Nat.le_of_ble_eq_true rfl) ⟨rfl, rfl⟩
  · refine Z.iload_n C dX6_memberAt_4 rfl ?_
    refine Z.aload_n C dX6_memberAt_5 rfl ?_
    refine g_X6_10  C rfl dX6_memberAt_6 (R.club) rfl ?_
    refine v_X6_41 C rfl dX6_memberAt_9 (R.lMo.choose_spec) (c_size htr R.lM) (by decide) (Nat.le_of_ble_eq_true rfl) (by rw [hR]; exact Nat.le_of_ble_eq_true rfl) (by rw [hR]; exact Nat.le_of_ble_eq_true rfl) (fun w9 h9 q9 => ?_) (fun _ _ q => q.elim)
    obtain ⟨rfl, q9⟩ := q9
    replace q9 := q9.symm
    subst q9
    refine Z.icmp_lt (tgt := 25) C dX6_memberAt_12 (by decide) (by omega) (by omega) (by omega) (by omega) (fun c12 => ?_) (fun c12 => ?_)
    · exfalso; omega
    · exact Z.xIOO C E rfl (by decide +kernel : (RX6, 244, "no such member") ∈ zTexts) dX6_memberAt_15 dX6_memberAt_18 dX6_memberAt_19 dX6_memberAt_21 dX6_memberAt_24 (by decide) (Nat.le_of_ble_eq_true rfl) (by decide) (by decide) (by rw [hR]; exact Nat.le_of_ble_eq_true rfl) (by rw [hR]; exact Nat.le_of_ble_eq_true rfl) ⟨rfl, rfl⟩

set_option maxRecDepth 100000 in
theorem c_X6_filmAt_ok {ln : Launch} (htr : ln.stackTraces = false) {G : zG} {h : zH} {ad : Nat → Nat → Nat} {el : Nat → Nat} {T : Nat → Nat → Int} (R : CR G ad el T h) (I : TB T) {i : Nat} (hi : i < cN T 1) : CT ln G yX6_filmAt cX6_filmAt 2 (some (.object "Bandwidthclub$Film")) 6 ([.ref (ad 0 0), vI (i : Int)]) h 0 0 (fun r9 h9 => r9 = some (.ref (ad 5 i)) ∧ h9 = h) zNo := by
  refine CT.intro htr (by decide) rfl (Nat.le_of_ble_eq_true rfl) ?_
  intro X hln hG hR hN C E
  subst hln
  subst hG
  have hn9 := I.n1
  refine Z.iload_n C dX6_filmAt_0 rfl ?_
  refine Z.if_lt (tgt := 15) C dX6_filmAt_1 (by decide) (by omega) (by omega) (fun c1 => ?_) (fun c1 => ?_)
  · exfalso; omega
  · refine Z.iload_n C dX6_filmAt_4 rfl ?_
    refine Z.aload_n C dX6_filmAt_5 rfl ?_
    refine g_X6_16  C rfl dX6_filmAt_6 (R.club) rfl ?_
    refine v_X6_41 C rfl dX6_filmAt_9 (R.lFo.choose_spec) (c_size htr R.lF) (by decide) (Nat.le_of_ble_eq_true rfl) (by rw [hR]; exact Nat.le_of_ble_eq_true rfl) (by rw [hR]; exact Nat.le_of_ble_eq_true rfl) (fun w9 h9 q9 => ?_) (fun _ _ q => q.elim)
    obtain ⟨rfl, q9⟩ := q9
    replace q9 := q9.symm
    subst q9
    refine Z.icmp_lt (tgt := 25) C dX6_filmAt_12 (by decide) (by omega) (by omega) (by omega) (by omega) (fun c12 => ?_) (fun c12 => ?_)
    · refine Z.aload_n C dX6_filmAt_25 rfl ?_
      refine g_X6_16  C rfl dX6_filmAt_26 (R.club) rfl ?_
      refine Z.iload_n C dX6_filmAt_29 rfl ?_
      refine v_X6_84 C rfl dX6_filmAt_30 (R.lFo.choose_spec) (c_getN htr R.lF hi) (by decide) (Nat.le_of_ble_eq_true rfl) (by rw [hR]; exact Nat.le_of_ble_eq_true rfl) (by rw [hR]; exact Nat.le_of_ble_eq_true rfl) (fun w30 h30 q30 => ?_) (fun _ _ q => q.elim)
      obtain ⟨rfl, q30⟩ := q30
      replace q30 := q30.symm
      subst q30
      refine k_X6_113 C rfl dX6_filmAt_33 (R.fil hi) ?_
      exact Z.aret C E (Or.inl ⟨_, rfl⟩) dX6_filmAt_36 (by decide) (by decide) ⟨rfl, rfl⟩
    · exfalso; omega

set_option maxRecDepth 100000 in
theorem c_X6_filmAt_no {ln : Launch} (htr : ln.stackTraces = false) {G : zG} {h : zH} {ad : Nat → Nat → Nat} {el : Nat → Nat} {T : Nat → Nat → Int} (R : CR G ad el T h) (I : TB T) {i : Int} (hr : -2147483648 ≤ i ∧ i < 2147483648) (hi : ¬ (0 ≤ i ∧ i < cN T 1)) : CT ln G yX6_filmAt cX6_filmAt 2 (some (.object "Bandwidthclub$Film")) 6 ([.ref (ad 0 0), vI i]) h 1 6 (fun _ _ => False) (fun E9 h9 => E9 = "java/lang/IndexOutOfBoundsException" ∧ h9 = h) := by
  refine CT.intro htr (by decide) rfl (Nat.le_of_ble_eq_true rfl) ?_
  intro X hln hG hR hN C E
  subst hln
  subst hG
  have hn9 := I.n1
  refine Z.iload_n C dX6_filmAt_0 rfl ?_
  refine Z.if_lt (tgt := 15) C dX6_filmAt_1 (by decide) (by omega) (by omega) (fun c1 => ?_) (fun c1 => ?_)
  · exact Z.xIOO C E rfl (by decide +kernel : (RX6, 248, "no such film") ∈ zTexts) dX6_filmAt_15 dX6_filmAt_18 dX6_filmAt_19 dX6_filmAt_21 dX6_filmAt_24 (by decide) (Nat.le_of_ble_eq_true rfl) (by decide) (by decide) (by rw [hR]; exact Nat.le_of_ble_eq_true rfl) (by rw [hR]; exact Nat.le_of_ble_eq_true rfl) ⟨rfl, rfl⟩
  · refine Z.iload_n C dX6_filmAt_4 rfl ?_
    refine Z.aload_n C dX6_filmAt_5 rfl ?_
    refine g_X6_16  C rfl dX6_filmAt_6 (R.club) rfl ?_
    refine v_X6_41 C rfl dX6_filmAt_9 (R.lFo.choose_spec) (c_size htr R.lF) (by decide) (Nat.le_of_ble_eq_true rfl) (by rw [hR]; exact Nat.le_of_ble_eq_true rfl) (by rw [hR]; exact Nat.le_of_ble_eq_true rfl) (fun w9 h9 q9 => ?_) (fun _ _ q => q.elim)
    obtain ⟨rfl, q9⟩ := q9
    replace q9 := q9.symm
    subst q9
    refine Z.icmp_lt (tgt := 25) C dX6_filmAt_12 (by decide) (by omega) (by omega) (by omega) (by omega) (fun c12 => ?_) (fun c12 => ?_)
    · exfalso; omega
    · exact Z.xIOO C E rfl (by decide +kernel : (RX6, 248, "no such film") ∈ zTexts) dX6_filmAt_15 dX6_filmAt_18 dX6_filmAt_19 dX6_filmAt_21 dX6_filmAt_24 (by decide) (Nat.le_of_ble_eq_true rfl) (by decide) (by decide) (by rw [hR]; exact Nat.le_of_ble_eq_true rfl) (by rw [hR]; exact Nat.le_of_ble_eq_true rfl) ⟨rfl, rfl⟩

set_option maxRecDepth 100000 in
theorem c_X6_proposalAt_ok {ln : Launch} (htr : ln.stackTraces = false) {G : zG} {h : zH} {ad : Nat → Nat → Nat} {el : Nat → Nat} {T : Nat → Nat → Int} (R : CR G ad el T h) (I : TB T) {i : Nat} (hi : i < cN T 2) : CT ln G yX6_proposalAt cX6_proposalAt 2 (some (.object "Bandwidthclub$Proposal")) 6 ([.ref (ad 0 0), vI (i : Int)]) h 0 0 (fun r9 h9 => r9 = some (.ref (ad 6 i)) ∧ h9 = h) zNo := by
  refine CT.intro htr (by decide) rfl (Nat.le_of_ble_eq_true rfl) ?_
  intro X hln hG hR hN C E
  subst hln
  subst hG
  have hn9 := I.n2
  refine Z.iload_n C dX6_proposalAt_0 rfl ?_
  refine Z.if_lt (tgt := 15) C dX6_proposalAt_1 (by decide) (by omega) (by omega) (fun c1 => ?_) (fun c1 => ?_)
  · exfalso; omega
  · refine Z.iload_n C dX6_proposalAt_4 rfl ?_
    refine Z.aload_n C dX6_proposalAt_5 rfl ?_
    refine g_X6_19  C rfl dX6_proposalAt_6 (R.club) rfl ?_
    refine v_X6_41 C rfl dX6_proposalAt_9 (R.lPo.choose_spec) (c_size htr R.lP) (by decide) (Nat.le_of_ble_eq_true rfl) (by rw [hR]; exact Nat.le_of_ble_eq_true rfl) (by rw [hR]; exact Nat.le_of_ble_eq_true rfl) (fun w9 h9 q9 => ?_) (fun _ _ q => q.elim)
    obtain ⟨rfl, q9⟩ := q9
    replace q9 := q9.symm
    subst q9
    refine Z.icmp_lt (tgt := 25) C dX6_proposalAt_12 (by decide) (by omega) (by omega) (by omega) (by omega) (fun c12 => ?_) (fun c12 => ?_)
    · refine Z.aload_n C dX6_proposalAt_25 rfl ?_
      refine g_X6_19  C rfl dX6_proposalAt_26 (R.club) rfl ?_
      refine Z.iload_n C dX6_proposalAt_29 rfl ?_
      refine v_X6_84 C rfl dX6_proposalAt_30 (R.lPo.choose_spec) (c_getN htr R.lP hi) (by decide) (Nat.le_of_ble_eq_true rfl) (by rw [hR]; exact Nat.le_of_ble_eq_true rfl) (by rw [hR]; exact Nat.le_of_ble_eq_true rfl) (fun w30 h30 q30 => ?_) (fun _ _ q => q.elim)
      obtain ⟨rfl, q30⟩ := q30
      replace q30 := q30.symm
      subst q30
      refine k_X6_88 C rfl dX6_proposalAt_33 (R.pro hi) ?_
      exact Z.aret C E (Or.inl ⟨_, rfl⟩) dX6_proposalAt_36 (by decide) (by decide) ⟨rfl, rfl⟩
    · exfalso; omega

set_option maxRecDepth 100000 in
theorem c_X6_proposalAt_no {ln : Launch} (htr : ln.stackTraces = false) {G : zG} {h : zH} {ad : Nat → Nat → Nat} {el : Nat → Nat} {T : Nat → Nat → Int} (R : CR G ad el T h) (I : TB T) {i : Int} (hr : -2147483648 ≤ i ∧ i < 2147483648) (hi : ¬ (0 ≤ i ∧ i < cN T 2)) : CT ln G yX6_proposalAt cX6_proposalAt 2 (some (.object "Bandwidthclub$Proposal")) 6 ([.ref (ad 0 0), vI i]) h 1 6 (fun _ _ => False) (fun E9 h9 => E9 = "java/lang/IndexOutOfBoundsException" ∧ h9 = h) := by
  refine CT.intro htr (by decide) rfl (Nat.le_of_ble_eq_true rfl) ?_
  intro X hln hG hR hN C E
  subst hln
  subst hG
  have hn9 := I.n2
  refine Z.iload_n C dX6_proposalAt_0 rfl ?_
  refine Z.if_lt (tgt := 15) C dX6_proposalAt_1 (by decide) (by omega) (by omega) (fun c1 => ?_) (fun c1 => ?_)
  · exact Z.xIOO C E rfl (by decide +kernel : (RX6, 250, "no such proposal") ∈ zTexts) dX6_proposalAt_15 dX6_proposalAt_18 dX6_proposalAt_19 dX6_proposalAt_21 dX6_proposalAt_24 (by decide) (Nat.le_of_ble_eq_true rfl) (by decide) (by decide) (by rw [hR]; exact Nat.le_of_ble_eq_true rfl) (by rw [hR]; exact Nat.le_of_ble_eq_true rfl) ⟨rfl, rfl⟩
  · refine Z.iload_n C dX6_proposalAt_4 rfl ?_
    refine Z.aload_n C dX6_proposalAt_5 rfl ?_
    refine g_X6_19  C rfl dX6_proposalAt_6 (R.club) rfl ?_
    refine v_X6_41 C rfl dX6_proposalAt_9 (R.lPo.choose_spec) (c_size htr R.lP) (by decide) (Nat.le_of_ble_eq_true rfl) (by rw [hR]; exact Nat.le_of_ble_eq_true rfl) (by rw [hR]; exact Nat.le_of_ble_eq_true rfl) (fun w9 h9 q9 => ?_) (fun _ _ q => q.elim)
    obtain ⟨rfl, q9⟩ := q9
    replace q9 := q9.symm
    subst q9
    refine Z.icmp_lt (tgt := 25) C dX6_proposalAt_12 (by decide) (by omega) (by omega) (by omega) (by omega) (fun c12 => ?_) (fun c12 => ?_)
    · exfalso; omega
    · exact Z.xIOO C E rfl (by decide +kernel : (RX6, 250, "no such proposal") ∈ zTexts) dX6_proposalAt_15 dX6_proposalAt_18 dX6_proposalAt_19 dX6_proposalAt_21 dX6_proposalAt_24 (by decide) (Nat.le_of_ble_eq_true rfl) (by decide) (by decide) (by rw [hR]; exact Nat.le_of_ble_eq_true rfl) (by rw [hR]; exact Nat.le_of_ble_eq_true rfl) ⟨rfl, rfl⟩

set_option maxRecDepth 100000 in
theorem c_X6_memberInClub_ok {ln : Launch} (htr : ln.stackTraces = false) {G : zG} {h : zH} {ad : Nat → Nat → Nat} {el : Nat → Nat} {T : Nat → Nat → Int} (R : CR G ad el T h) (I : TB T) {i : Nat} (hi : i < cN T 0) (h3 : ¬ T 3 i = 0) : CT ln G yX6_memberInClub cX6_memberInClub 3 (some (.object "Bandwidthclub$Member")) 7 ([.ref (ad 0 0), vI (i : Int)]) h 0 0 (fun r9 h9 => r9 = some (.ref (ad 1 i)) ∧ h9 = h) zNo := by
  refine CT.intro htr (by decide) rfl (Nat.le_of_ble_eq_true rfl) ?_
  intro X hln hG hR hN C E
  subst hln
  subst hG
  have h39 : 0 ≤ T 3 i ∧ T 3 i ≤ 1 := I.1 3 i (by decide) (by decide) (by decide)
  refine Z.aload_n C dX6_memberInClub_0 rfl ?_
  refine Z.iload_n C dX6_memberInClub_1 rfl ?_
  refine v_X6_163 C rfl dX6_memberInClub_2 (R.club) (c_X6_memberAt_ok htr R I hi) (by decide) (Nat.le_of_ble_eq_true rfl) (by rw [hR]; exact Nat.le_of_ble_eq_true rfl) (by rw [hR]; exact Nat.le_of_ble_eq_true rfl) (fun w2 h2 q2 => ?_) (fun _ _ q => q.elim)
  obtain ⟨rfl, q2⟩ := q2
  replace q2 := q2.symm
  subst q2
  refine Z.astore_n (l' := [_, _, _]) C dX6_memberInClub_5 (Nat.le_of_ble_eq_true rfl) (by rw [hN]; decide) rfl ?_
  refine Z.aload_n C dX6_memberInClub_6 rfl ?_
  refine g_X6_198  C rfl dX6_memberInClub_7 (R.mem hi) rfl ?_
  refine Z.if_ne (tgt := 23) C dX6_memberInClub_10 (by decide) (by omega) (by omega) (fun c10 => ?_) (fun c10 => ?_)
  · refine Z.aload_n C dX6_memberInClub_23 rfl ?_
    exact Z.aret C E (Or.inl ⟨_, rfl⟩) dX6_memberInClub_24 (by decide) (by decide) ⟨rfl, rfl⟩
  · exfalso; omega

set_option maxRecDepth 100000 in
theorem c_X6_memberInClub_out {ln : Launch} (htr : ln.stackTraces = false) {G : zG} {h : zH} {ad : Nat → Nat → Nat} {el : Nat → Nat} {T : Nat → Nat → Int} (R : CR G ad el T h) (I : TB T) {i : Nat} (hi : i < cN T 0) (h3 : T 3 i = 0) : CT ln G yX6_memberInClub cX6_memberInClub 3 (some (.object "Bandwidthclub$Member")) 7 ([.ref (ad 0 0), vI (i : Int)]) h 1 6 (fun _ _ => False) (fun E9 h9 => E9 = "java/lang/IllegalStateException" ∧ h9 = h) := by
  refine CT.intro htr (by decide) rfl (Nat.le_of_ble_eq_true rfl) ?_
  intro X hln hG hR hN C E
  subst hln
  subst hG
  refine Z.aload_n C dX6_memberInClub_0 rfl ?_
  refine Z.iload_n C dX6_memberInClub_1 rfl ?_
  refine v_X6_163 C rfl dX6_memberInClub_2 (R.club) (c_X6_memberAt_ok htr R I hi) (by decide) (Nat.le_of_ble_eq_true rfl) (by rw [hR]; exact Nat.le_of_ble_eq_true rfl) (by rw [hR]; exact Nat.le_of_ble_eq_true rfl) (fun w2 h2 q2 => ?_) (fun _ _ q => q.elim)
  obtain ⟨rfl, q2⟩ := q2
  replace q2 := q2.symm
  subst q2
  refine Z.astore_n (l' := [_, _, _]) C dX6_memberInClub_5 (Nat.le_of_ble_eq_true rfl) (by rw [hN]; decide) rfl ?_
  refine Z.aload_n C dX6_memberInClub_6 rfl ?_
  refine g_X6_198  C rfl dX6_memberInClub_7 (R.mem hi) rfl ?_
  refine Z.if_ne (tgt := 23) C dX6_memberInClub_10 (by decide) (by omega) (by omega) (fun c10 => ?_) (fun c10 => ?_)
  · exfalso; omega
  · exact Z.xISE C E rfl (by decide +kernel : (RX6, 246, "the member is not in the club") ∈ zTexts) dX6_memberInClub_13 dX6_memberInClub_16 dX6_memberInClub_17 dX6_memberInClub_19 dX6_memberInClub_22 (by decide) (Nat.le_of_ble_eq_true rfl) (by decide) (by decide) (by rw [hR]; exact Nat.le_of_ble_eq_true rfl) (by rw [hR]; exact Nat.le_of_ble_eq_true rfl) ⟨rfl, rfl⟩

set_option maxRecDepth 100000 in
theorem c_X6_memberInClub_no {ln : Launch} (htr : ln.stackTraces = false) {G : zG} {h : zH} {ad : Nat → Nat → Nat} {el : Nat → Nat} {T : Nat → Nat → Int} (R : CR G ad el T h) (I : TB T) {i : Int} (hr : -2147483648 ≤ i ∧ i < 2147483648) (hi : ¬ (0 ≤ i ∧ i < cN T 0)) : CT ln G yX6_memberInClub cX6_memberInClub 3 (some (.object "Bandwidthclub$Member")) 7 ([.ref (ad 0 0), vI i]) h 1 6 (fun _ _ => False) (fun E9 h9 => E9 = "java/lang/IndexOutOfBoundsException" ∧ h9 = h) := by
  refine CT.intro htr (by decide) rfl (Nat.le_of_ble_eq_true rfl) ?_
  intro X hln hG hR hN C E
  subst hln
  subst hG
  refine Z.aload_n C dX6_memberInClub_0 rfl ?_
  refine Z.iload_n C dX6_memberInClub_1 rfl ?_
  refine v_X6_163 C rfl dX6_memberInClub_2 (R.club) (c_X6_memberAt_no htr R I hr hi) (by decide) (Nat.le_of_ble_eq_true rfl) (by rw [hR]; exact Nat.le_of_ble_eq_true rfl) (by rw [hR]; exact Nat.le_of_ble_eq_true rfl) (fun w2 h2 q2 => ?_) (fun E9 h9 q9 => by obtain ⟨rfl, rfl⟩ := q9; exact ZT.out C E (by decide) (by decide) ⟨rfl, rfl⟩)
  exact q2.elim
  

theorem zx_first : Cond.fieldLink RX6 252 "Bandwidthclub" "FIRST_VALUES" "[I" ∈ zW := zW_of 435 (by decide +kernel) (by decide +kernel)
set_option maxRecDepth 100000 in
theorem c_X6_checkRule_ok {ln : Launch} (htr : ln.stackTraces = false) {G : zG} {h : zH} {a : Nat} {i : Int} (hi : 0 ≤ i ∧ i < 3) : CT ln G yX6_checkRule cX6_checkRule 2 none 6 ([.ref a, vI i]) h 0 0 (fun r9 h9 => r9 = none ∧ h9 = h) zNo := by
  refine CT.intro htr (by decide) rfl (Nat.le_of_ble_eq_true rfl) ?_
  intro X hln hG hR hN C E
  subst hln
  subst hG
  refine Z.iload_n C dX6_checkRule_0 rfl ?_
  refine Z.if_lt (tgt := 12) C dX6_checkRule_1 (by decide) (by omega) (by omega) (fun c1 => ?_) (fun c1 => ?_)
  · exfalso; omega
  · refine Z.iload_n C dX6_checkRule_4 rfl ?_
    refine Z.first C zx_first dX6_checkRule_5 ?_
    refine Z.firstLen C dX6_checkRule_8 ?_
    refine Z.icmp_lt (tgt := 22) C dX6_checkRule_9 (by decide) (by omega) (by omega) (by omega) (by omega) (fun c9 => ?_) (fun c9 => ?_)
    · exact Z.vret C E dX6_checkRule_22 (by decide) (by decide) ⟨rfl, rfl⟩
    · exfalso; omega

set_option maxRecDepth 100000 in
theorem c_X6_checkRule_no {ln : Launch} (htr : ln.stackTraces = false) {G : zG} {h : zH} {a : Nat} {i : Int} (hr : -2147483648 ≤ i ∧ i < 2147483648) (hi : ¬ (0 ≤ i ∧ i < 3)) : CT ln G yX6_checkRule cX6_checkRule 2 none 6 ([.ref a, vI i]) h 1 6 (fun _ _ => False) (fun E9 h9 => E9 = "java/lang/IndexOutOfBoundsException" ∧ h9 = h) := by
  refine CT.intro htr (by decide) rfl (Nat.le_of_ble_eq_true rfl) ?_
  intro X hln hG hR hN C E
  subst hln
  subst hG
  refine Z.iload_n C dX6_checkRule_0 rfl ?_
  refine Z.if_lt (tgt := 12) C dX6_checkRule_1 (by decide) (by omega) (by omega) (fun c1 => ?_) (fun c1 => ?_)
  · exact Z.xIOO C E rfl (by decide +kernel : (RX6, 255, "no such rule") ∈ zTexts) dX6_checkRule_12 dX6_checkRule_15 dX6_checkRule_16 dX6_checkRule_18 dX6_checkRule_21 (by decide) (Nat.le_of_ble_eq_true rfl) (by decide) (by decide) (by rw [hR]; exact Nat.le_of_ble_eq_true rfl) (by rw [hR]; exact Nat.le_of_ble_eq_true rfl) ⟨rfl, rfl⟩
  · refine Z.iload_n C dX6_checkRule_4 rfl ?_
    refine Z.first C zx_first dX6_checkRule_5 ?_
    refine Z.firstLen C dX6_checkRule_8 ?_
    refine Z.icmp_lt (tgt := 22) C dX6_checkRule_9 (by decide) (by omega) (by omega) (by omega) (by omega) (fun c9 => ?_) (fun c9 => ?_)
    · exfalso; omega
    · exact Z.xIOO C E rfl (by decide +kernel : (RX6, 255, "no such rule") ∈ zTexts) dX6_checkRule_12 dX6_checkRule_15 dX6_checkRule_16 dX6_checkRule_18 dX6_checkRule_21 (by decide) (Nat.le_of_ble_eq_true rfl) (by decide) (by decide) (by rw [hR]; exact Nat.le_of_ble_eq_true rfl) (by rw [hR]; exact Nat.le_of_ble_eq_true rfl) ⟨rfl, rfl⟩

set_option maxRecDepth 100000 in
theorem c_X6_checkWhat_ok {ln : Launch} (htr : ln.stackTraces = false) {G : zG} {h : zH} {a : Nat} {i : Int} (hi : 0 ≤ i ∧ i ≤ 4) : CT ln G yX6_checkWhat cX6_checkWhat 2 none 6 ([.ref a, vI i]) h 0 0 (fun r9 h9 => r9 = none ∧ h9 = h) zNo := by
  refine CT.intro htr (by decide) rfl (Nat.le_of_ble_eq_true rfl) ?_
  intro X hln hG hR hN C E
  subst hln
  subst hG
  refine Z.iload_n C dX6_checkWhat_0 rfl ?_
  refine Z.if_lt (tgt := 9) C dX6_checkWhat_1 (by decide) (by omega) (by omega) (fun c1 => ?_) (fun c1 => ?_)
  · exfalso; omega
  · refine Z.iload_n C dX6_checkWhat_4 rfl ?_
    refine Z.iconst C dX6_checkWhat_5 ?_
    refine Z.icmp_le (tgt := 20) C dX6_checkWhat_6 (by decide) (by omega) (by omega) (by omega) (by omega) (fun c6 => ?_) (fun c6 => ?_)
    · exact Z.vret C E dX6_checkWhat_20 (by decide) (by decide) ⟨rfl, rfl⟩
    · exfalso; omega

set_option maxRecDepth 100000 in
theorem c_X6_checkWhat_no {ln : Launch} (htr : ln.stackTraces = false) {G : zG} {h : zH} {a : Nat} {i : Int} (hr : -2147483648 ≤ i ∧ i < 2147483648) (hi : ¬ (0 ≤ i ∧ i ≤ 4)) : CT ln G yX6_checkWhat cX6_checkWhat 2 none 6 ([.ref a, vI i]) h 1 6 (fun _ _ => False) (fun E9 h9 => E9 = "java/lang/IllegalArgumentException" ∧ h9 = h) := by
  refine CT.intro htr (by decide) rfl (Nat.le_of_ble_eq_true rfl) ?_
  intro X hln hG hR hN C E
  subst hln
  subst hG
  refine Z.iload_n C dX6_checkWhat_0 rfl ?_
  refine Z.if_lt (tgt := 9) C dX6_checkWhat_1 (by decide) (by omega) (by omega) (fun c1 => ?_) (fun c1 => ?_)
  · exact Z.xIAEW C E rfl (by decide +kernel : (RX6, 257, "what is out of range") ∈ zTexts) dX6_checkWhat_9 dX6_checkWhat_12 dX6_checkWhat_13 dX6_checkWhat_16 dX6_checkWhat_19 (by decide) (Nat.le_of_ble_eq_true rfl) (by decide) (by decide) (by rw [hR]; exact Nat.le_of_ble_eq_true rfl) (by rw [hR]; exact Nat.le_of_ble_eq_true rfl) ⟨rfl, rfl⟩
  · refine Z.iload_n C dX6_checkWhat_4 rfl ?_
    refine Z.iconst C dX6_checkWhat_5 ?_
    refine Z.icmp_le (tgt := 20) C dX6_checkWhat_6 (by decide) (by omega) (by omega) (by omega) (by omega) (fun c6 => ?_) (fun c6 => ?_)
    · exfalso; omega
    · exact Z.xIAEW C E rfl (by decide +kernel : (RX6, 257, "what is out of range") ∈ zTexts) dX6_checkWhat_9 dX6_checkWhat_12 dX6_checkWhat_13 dX6_checkWhat_16 dX6_checkWhat_19 (by decide) (Nat.le_of_ble_eq_true rfl) (by decide) (by decide) (by rw [hR]; exact Nat.le_of_ble_eq_true rfl) (by rw [hR]; exact Nat.le_of_ble_eq_true rfl) ⟨rfl, rfl⟩

set_option maxRecDepth 100000 in
theorem c_X6_hour {ln : Launch} (htr : ln.stackTraces = false) {G : zG} {h : zH} {ad : Nat → Nat → Nat} {el : Nat → Nat} {T : Nat → Nat → Int} (R : CR G ad el T h) (I : TB T) : CT ln G yX6_hour cX6_hour 1 (some .int) 1 ([.ref (ad 0 0)]) h 0 0 (fun r9 h9 => r9 = some (vI (T 1 0)) ∧ h9 = h) zNo := by
  refine CT.intro htr (by decide) rfl (Nat.le_of_ble_eq_true rfl) ?_
  intro X hln hG hR hN C E
  subst hln
  subst hG
  refine Z.aload_n C dX6_hour_0 rfl ?_
  refine g_X6_25  C rfl dX6_hour_1 (R.club) rfl ?_
  exact Z.iret C E dX6_hour_4 (by decide) (by decide) ⟨rfl, rfl⟩

