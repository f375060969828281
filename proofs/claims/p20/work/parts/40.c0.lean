/-! THE CLASS: its small objects, methods that touch one or two cells -/
theorem zput_zput (h : zH) (a : Nat) (x y : va_E) : zput (zput h a x) a y = zput h a y := by
  funext q
  unfold zput
  split <;> rfl
theorem zput_self {h : zH} {a : Nat} {x : va_E} (ha : h a = some x) : zput h a x = h := by
  funext q
  unfold zput
  split
  · rename_i e; rw [e, ha]
  · rfl
theorem zput_comm (h : zH) {a b : Nat} (x y : va_E) (hab : a ≠ b) : zput (zput h a x) b y = zput (zput h b y) a x := by
  funext q
  unfold zput
  by_cases c : q = a
  · by_cases c2 : q = b
    · exact absurd (c.symm.trans c2) hab
    · simp only [if_neg c2, if_pos c]
  · simp only [if_neg c]
theorem zput_back (h : zH) {a b : Nat} (x x' y : va_E) (hab : a ≠ b) : zput (zput (zput h a x) b y) a x' = zput (zput h a x') b y := by
  rw [zput_comm (zput h a x) y x' (Ne.symm hab), zput_zput]
theorem zne {h : zH} {a b : Nat} {x y : va_E} (ha : h a = some x) (hb : h b = some y) (hxy : x ≠ y) : a ≠ b := fun e => by rw [e, hb] at ha; exact hxy (Option.some.inj ha).symm
theorem eO_eI {ci : Nat} {fs : List Value} {cA : ClassId} {n : Nat} {f : Nat → Int} : eO ci fs ≠ eI cA n f := fun e => by cases e
theorem eO_eR {ci : Nat} {fs : List Value} {cA : ClassId} {n : Nat} {f : Nat → Option Nat} : eO ci fs ≠ eR cA n f := fun e => by cases e
/-- how many of the first n are v -/
def cV (f : Nat → Int) (v : Int) : Nat → Int
  | 0 => 0
  | n + 1 => cV f v n + if f n = v then 1 else 0
theorem cV_b (f : Nat → Int) (v : Int) (n : Nat) : 0 ≤ cV f v n ∧ cV f v n ≤ n := by
  induction n with
  | zero => exact ⟨Int.le_refl _, Int.le_refl _⟩
  | succ n ih => unfold cV; split <;> omega
/-- what a settling takes off the account -/
def sV (f : Nat → Int) (ow lv : Nat) : Nat → Int
  | 0 => 0
  | n + 1 => sV f ow lv n + if n = lv ∨ ow = lv then f n else 0

set_option maxRecDepth 100000 in
theorem c_X0_balanceWith {ln : Launch} (htr : ln.stackTraces = false) {G : zG} {h : zH} {b bl ow i : Nat} {ac : Int} {f : Nat → Int} (ho : h b = some (eO 2 [vI (ow : Int), .ref bl, vI ac])) (hb : h bl = some (eI (G.2.1 0) 10 f)) (hi : i < 10) : CT ln G yX0_balanceWith cX0_balanceWith 2 (some .int) 1 ([.ref b, vI (i : Int)]) h 0 0 (fun r9 h9 => r9 = some (vI (f i)) ∧ h9 = h) zNo := by
  refine CT.intro htr (by decide) rfl (Nat.le_of_ble_eq_true rfl) ?_
  intro X hln hG hR hN C E
  subst hln
  subst hG
  refine Z.iload_n C dX0_balanceWith_0 rfl ?_
  refine Z.if_lt (tgt := 22) C dX0_balanceWith_1 (by decide) (by omega) (by omega) (fun c1 => ?_) (fun c1 => ?_)
  · exfalso; omega
  · refine Z.iload_n C dX0_balanceWith_4 rfl ?_
    refine Z.aload_n C dX0_balanceWith_5 rfl ?_
    refine g_X0_9  C rfl dX0_balanceWith_6 (ho) rfl ?_
    refine Z.alenI C dX0_balanceWith_9 hb ?_
    refine Z.icmp_ge (tgt := 22) C dX0_balanceWith_10 (by decide) (by omega) (by omega) (by omega) (by omega) (fun c10 => ?_) (fun c10 => ?_)
    · exfalso; omega
    · refine Z.aload_n C dX0_balanceWith_13 rfl ?_
      refine g_X0_9  C rfl dX0_balanceWith_14 (ho) rfl ?_
      refine Z.iload_n C dX0_balanceWith_17 rfl ?_
      refine Z.iaload C dX0_balanceWith_18 hb (by omega) (by omega) (by omega) ?_
      refine Z.goto (tgt := 23) C dX0_balanceWith_19 (by decide) ?_
      exact Z.iret C E dX0_balanceWith_23 (by decide) (by decide) ⟨rfl, rfl⟩

set_option maxRecDepth 100000 in
theorem c_X1_unitsOver {ln : Launch} (htr : ln.stackTraces = false) {G : zG} {h : zH} {b wy wh bl i : Nat} {hr un hd : Int} {f : Nat → Int} (ho : h b = some (eO 3 [.ref wy, vI hr, vI (wh : Int), vI un, .ref bl, vI hd])) (hb : h bl = some (eI (G.2.1 0) 10 f)) (hi : i < 10) : CT ln G yX1_unitsOver cX1_unitsOver 2 (some .int) 1 ([.ref b, vI (i : Int)]) h 0 0 (fun r9 h9 => r9 = some (vI (f i)) ∧ h9 = h) zNo := by
  refine CT.intro htr (by decide) rfl (Nat.le_of_ble_eq_true rfl) ?_
  intro X hln hG hR hN C E
  subst hln
  subst hG
  refine Z.iload_n C dX1_unitsOver_0 rfl ?_
  refine Z.if_lt (tgt := 22) C dX1_unitsOver_1 (by decide) (by omega) (by omega) (fun c1 => ?_) (fun c1 => ?_)
  · exfalso; omega
  · refine Z.iload_n C dX1_unitsOver_4 rfl ?_
    refine Z.aload_n C dX1_unitsOver_5 rfl ?_
    refine g_X1_9  C rfl dX1_unitsOver_6 (ho) rfl ?_
    refine Z.alenI C dX1_unitsOver_9 hb ?_
    refine Z.icmp_ge (tgt := 22) C dX1_unitsOver_10 (by decide) (by omega) (by omega) (by omega) (by omega) (fun c10 => ?_) (fun c10 => ?_)
    · exfalso; omega
    · refine Z.aload_n C dX1_unitsOver_13 rfl ?_
      refine g_X1_9  C rfl dX1_unitsOver_14 (ho) rfl ?_
      refine Z.iload_n C dX1_unitsOver_17 rfl ?_
      refine Z.iaload C dX1_unitsOver_18 hb (by omega) (by omega) (by omega) ?_
      refine Z.goto (tgt := 23) C dX1_unitsOver_19 (by decide) ?_
      exact Z.iret C E dX1_unitsOver_23 (by decide) (by decide) ⟨rfl, rfl⟩

set_option maxRecDepth 100000 in
theorem c_X0_changeBalance {ln : Launch} (htr : ln.stackTraces = false) {G : zG} {h : zH} {b bl ow i : Nat} {ac u : Int} {f : Nat → Int} (ho : h b = some (eO 2 [vI (ow : Int), .ref bl, vI ac])) (hb : h bl = some (eI (G.2.1 0) 10 f)) (hi : i < 10) : CT ln G yX0_changeBalance cX0_changeBalance 3 none 1 ([.ref b, vI (i : Int), vI u]) h 0 0 (fun r9 h9 => r9 = none ∧ h9 = zput h bl (eI (G.2.1 0) 10 (va_up f i (f i + u)))) zNo := by
  refine CT.intro htr (by decide) rfl (Nat.le_of_ble_eq_true rfl) ?_
  intro X hln hG hR hN C E
  subst hln
  subst hG
  refine Z.iload_n C dX0_changeBalance_0 rfl ?_
  refine Z.if_lt (tgt := 23) C dX0_changeBalance_1 (by decide) (by omega) (by omega) (fun c1 => ?_) (fun c1 => ?_)
  · exfalso; omega
  · refine Z.iload_n C dX0_changeBalance_4 rfl ?_
    refine Z.aload_n C dX0_changeBalance_5 rfl ?_
    refine g_X0_9  C rfl dX0_changeBalance_6 (ho) rfl ?_
    refine Z.alenI C dX0_changeBalance_9 hb ?_
    refine Z.icmp_ge (tgt := 23) C dX0_changeBalance_10 (by decide) (by omega) (by omega) (by omega) (by omega) (fun c10 => ?_) (fun c10 => ?_)
    · exfalso; omega
    · refine Z.aload_n C dX0_changeBalance_13 rfl ?_
      refine g_X0_9  C rfl dX0_changeBalance_14 (ho) rfl ?_
      refine Z.iload_n C dX0_changeBalance_17 rfl ?_
      refine Z.dup2 C dX0_changeBalance_18 rfl rfl ?_
      refine Z.iaload C dX0_changeBalance_19 hb (by omega) (by omega) (by omega) ?_
      refine Z.iload_n C dX0_changeBalance_20 rfl ?_
      refine Z.iadd C dX0_changeBalance_21 ?_
      refine Z.iastore C dX0_changeBalance_22 hb (by omega) (by omega) (by omega) ?_
      exact Z.vret C E dX0_changeBalance_23 (by decide) (by decide) ⟨rfl, rfl⟩

set_option maxRecDepth 100000 in
theorem c_X1_addLine {ln : Launch} (htr : ln.stackTraces = false) {G : zG} {h : zH} {b wy wh bl i : Nat} {hr un hd u : Int} {f : Nat → Int} (ho : h b = some (eO 3 [.ref wy, vI hr, vI (wh : Int), vI un, .ref bl, vI hd])) (hb : h bl = some (eI (G.2.1 0) 10 f)) (hi : i < 10) : CT ln G yX1_addLine cX1_addLine 3 none 1 ([.ref b, vI (i : Int), vI u]) h 0 0 (fun r9 h9 => r9 = none ∧ h9 = zput h bl (eI (G.2.1 0) 10 (va_up f i (f i + u)))) zNo := by
  refine CT.intro htr (by decide) rfl (Nat.le_of_ble_eq_true rfl) ?_
  intro X hln hG hR hN C E
  subst hln
  subst hG
  refine Z.iload_n C dX1_addLine_0 rfl ?_
  refine Z.if_lt (tgt := 23) C dX1_addLine_1 (by decide) (by omega) (by omega) (fun c1 => ?_) (fun c1 => ?_)
  · exfalso; omega
  · refine Z.iload_n C dX1_addLine_4 rfl ?_
    refine Z.aload_n C dX1_addLine_5 rfl ?_
    refine g_X1_9  C rfl dX1_addLine_6 (ho) rfl ?_
    refine Z.alenI C dX1_addLine_9 hb ?_
    refine Z.icmp_ge (tgt := 23) C dX1_addLine_10 (by decide) (by omega) (by omega) (by omega) (by omega) (fun c10 => ?_) (fun c10 => ?_)
    · exfalso; omega
    · refine Z.aload_n C dX1_addLine_13 rfl ?_
      refine g_X1_9  C rfl dX1_addLine_14 (ho) rfl ?_
      refine Z.iload_n C dX1_addLine_17 rfl ?_
      refine Z.dup2 C dX1_addLine_18 rfl rfl ?_
      refine Z.iaload C dX1_addLine_19 hb (by omega) (by omega) (by omega) ?_
      refine Z.iload_n C dX1_addLine_20 rfl ?_
      refine Z.iadd C dX1_addLine_21 ?_
      refine Z.iastore C dX1_addLine_22 hb (by omega) (by omega) (by omega) ?_
      exact Z.vret C E dX1_addLine_23 (by decide) (by decide) ⟨rfl, rfl⟩

set_option maxRecDepth 100000 in
theorem c_X4_setVote {ln : Launch} (htr : ln.stackTraces = false) {G : zG} {h : zH} {b bl i : Nat} {ru va st fo u : Int} {f : Nat → Int} (ho : h b = some (eO 6 [vI ru, vI va, .ref bl, vI st, vI fo])) (hb : h bl = some (eI (G.2.1 0) 10 f)) (hi : i < 10) : CT ln G yX4_setVote cX4_setVote 3 none 1 ([.ref b, vI (i : Int), vI u]) h 0 0 (fun r9 h9 => r9 = none ∧ h9 = zput h bl (eI (G.2.1 0) 10 (va_up f i u))) zNo := by
  refine CT.intro htr (by decide) rfl (Nat.le_of_ble_eq_true rfl) ?_
  intro X hln hG hR hN C E
  subst hln
  subst hG
  refine Z.iload_n C dX4_setVote_0 rfl ?_
  refine Z.if_lt (tgt := 20) C dX4_setVote_1 (by decide) (by omega) (by omega) (fun c1 => ?_) (fun c1 => ?_)
  · exfalso; omega
  · refine Z.iload_n C dX4_setVote_4 rfl ?_
    refine Z.aload_n C dX4_setVote_5 rfl ?_
    refine g_X4_9  C rfl dX4_setVote_6 (ho) rfl ?_
    refine Z.alenI C dX4_setVote_9 hb ?_
    refine Z.icmp_ge (tgt := 20) C dX4_setVote_10 (by decide) (by omega) (by omega) (by omega) (by omega) (fun c10 => ?_) (fun c10 => ?_)
    · exfalso; omega
    · refine Z.aload_n C dX4_setVote_13 rfl ?_
      refine g_X4_9  C rfl dX4_setVote_14 (ho) rfl ?_
      refine Z.iload_n C dX4_setVote_17 rfl ?_
      refine Z.iload_n C dX4_setVote_18 rfl ?_
      refine Z.iastore C dX4_setVote_19 hb (by omega) (by omega) (by omega) ?_
      exact Z.vret C E dX4_setVote_20 (by decide) (by decide) ⟨rfl, rfl⟩

set_option maxRecDepth 100000 in
theorem c_X3_setHeld {ln : Launch} (htr : ln.stackTraces = false) {G : zG} {h : zH} {b bl i : Nat} {v1 v3 v4 v8 : Value} {un is lf u : Int} {f : Nat → Int} (ho : h b = some (eO 5 [v1, vI un, v3, v4, .ref bl, vI is, vI lf, v8])) (hb : h bl = some (eI (G.2.1 1) 20 f)) (hi : i < 20) (hz : u = 0 ∨ u = 1) : CT ln G yX3_setHeld cX3_setHeld 3 none 1 ([.ref b, vI (i : Int), vI u]) h 0 0 (fun r9 h9 => r9 = none ∧ h9 = zput h bl (eI (G.2.1 1) 20 (va_up f i u))) zNo := by
  refine CT.intro htr (by decide) rfl (Nat.le_of_ble_eq_true rfl) ?_
  intro X hln hG hR hN C E
  subst hln
  subst hG
  refine Z.iload_n C dX3_setHeld_0 rfl ?_
  refine Z.if_lt (tgt := 20) C dX3_setHeld_1 (by decide) (by omega) (by omega) (fun c1 => ?_) (fun c1 => ?_)
  · exfalso; omega
  · refine Z.iload_n C dX3_setHeld_4 rfl ?_
    refine Z.aload_n C dX3_setHeld_5 rfl ?_
    refine g_X3_9  C rfl dX3_setHeld_6 (ho) rfl ?_
    refine Z.alenZ C dX3_setHeld_9 hb ?_
    refine Z.icmp_ge (tgt := 20) C dX3_setHeld_10 (by decide) (by omega) (by omega) (by omega) (by omega) (fun c10 => ?_) (fun c10 => ?_)
    · exfalso; omega
    · refine Z.aload_n C dX3_setHeld_13 rfl ?_
      refine g_X3_9  C rfl dX3_setHeld_14 (ho) rfl ?_
      refine Z.iload_n C dX3_setHeld_17 rfl ?_
      refine Z.iload_n C dX3_setHeld_18 rfl ?_
      refine Z.zastore C dX3_setHeld_19 hb (by omega) (by omega) (by omega) hz ?_
      exact Z.vret C E dX3_setHeld_20 (by decide) (by decide) ⟨rfl, rfl⟩

set_option maxRecDepth 100000 in
theorem c_X3_holds {ln : Launch} (htr : ln.stackTraces = false) {G : zG} {h : zH} {b bl i : Nat} {v1 v3 v4 v8 : Value} {un is lf : Int} {f : Nat → Int} (ho : h b = some (eO 5 [v1, vI un, v3, v4, .ref bl, vI is, vI lf, v8])) (hb : h bl = some (eI (G.2.1 1) 20 f)) (hi : i < 20) (hz : f i = 0 ∨ f i = 1) : CT ln G yX3_holds cX3_holds 2 (some .boolean) 1 ([.ref b, vI (i : Int)]) h 0 0 (fun r9 h9 => r9 = some (vI (f i)) ∧ h9 = h) zNo := by
  refine CT.intro htr (by decide) rfl (Nat.le_of_ble_eq_true rfl) ?_
  intro X hln hG hR hN C E
  subst hln
  subst hG
  refine Z.iload_n C dX3_holds_0 rfl ?_
  refine Z.if_lt (tgt := 26) C dX3_holds_1 (by decide) (by omega) (by omega) (fun c1 => ?_) (fun c1 => ?_)
  · exfalso; omega
  · refine Z.iload_n C dX3_holds_4 rfl ?_
    refine Z.aload_n C dX3_holds_5 rfl ?_
    refine g_X3_9  C rfl dX3_holds_6 (ho) rfl ?_
    refine Z.alenZ C dX3_holds_9 hb ?_
    refine Z.icmp_ge (tgt := 26) C dX3_holds_10 (by decide) (by omega) (by omega) (by omega) (by omega) (fun c10 => ?_) (fun c10 => ?_)
    · exfalso; omega
    · refine Z.aload_n C dX3_holds_13 rfl ?_
      refine g_X3_9  C rfl dX3_holds_14 (ho) rfl ?_
      refine Z.iload_n C dX3_holds_17 rfl ?_
      refine Z.zaload C dX3_holds_18 hb (by omega) (by omega) (by omega) ?_
      rw [Int.toNat_natCast]
      refine Z.if_eq (tgt := 26) C dX3_holds_19 (by decide) (by omega) (by omega) (fun c19 => ?_) (fun c19 => ?_)
      · refine Z.iconst C dX3_holds_26 ?_
        exact Z.zret C E dX3_holds_27 rfl (by decide) (by decide) ⟨by rcases hz with hz | hz <;> first | (rw [hz]; done) | (exfalso; omega) | rw [hz], rfl⟩
      · refine Z.iconst C dX3_holds_22 ?_
        refine Z.goto (tgt := 27) C dX3_holds_23 (by decide) ?_
        exact Z.zret C E dX3_holds_27 rfl (by decide) (by decide) ⟨by rcases hz with hz | hz <;> first | (rw [hz]; done) | (exfalso; omega) | rw [hz], rfl⟩

set_option maxRecDepth 100000 in
theorem c_X3_makeLineWhole {ln : Launch} (htr : ln.stackTraces = false) {G : zG} {h : zH} {b bl : Nat} {v1 v3 v4 v8 : Value} {un is lf : Int} (ho : h b = some (eO 5 [v1, vI un, v3, v4, .ref bl, vI is, vI lf, v8])) (hz : is = 0 ∨ is = 1) : CT ln G yX3_makeLineWhole cX3_makeLineWhole 1 none 1 ([.ref b]) h 0 0 (fun r9 h9 => r9 = none ∧ h9 = zput h b (eO 5 [v1, vI un, v3, v4, .ref bl, vI is, vI (if is = 0 then lf else un), v8])) zNo := by
  refine CT.intro htr (by decide) rfl (Nat.le_of_ble_eq_true rfl) ?_
  intro X hln hG hR hN C E
  subst hln
  subst hG
  refine Z.aload_n C dX3_makeLineWhole_0 rfl ?_
  refine g_X3_15  C rfl dX3_makeLineWhole_1 (ho) rfl ?_
  refine Z.if_eq (tgt := 15) C dX3_makeLineWhole_4 (by decide) (by omega) (by omega) (fun c4 => ?_) (fun c4 => ?_)
  · exact Z.vret C E dX3_makeLineWhole_15 (by decide) (by decide) ⟨rfl, by rw [if_pos (by omega)]; exact (zput_self ho).symm⟩
  · refine Z.aload_n C dX3_makeLineWhole_7 rfl ?_
    refine Z.aload_n C dX3_makeLineWhole_8 rfl ?_
    refine g_X3_26  C rfl dX3_makeLineWhole_9 (ho) rfl ?_
    refine p_X3_32 (fs' := [v1, vI un, v3, v4, .ref bl, vI is, vI un, v8]) C rfl  dX3_makeLineWhole_12  (ho) (Nat.le_of_ble_eq_true rfl) rfl ?_
    exact Z.vret C E dX3_makeLineWhole_15 (by decide) (by decide) ⟨rfl, by rw [if_neg (by omega)]⟩

set_option maxRecDepth 100000 in
theorem c_X4_countVotes {ln : Launch} (htr : ln.stackTraces = false) {G : zG} {h : zH} {b bl : Nat} {ru va st fo u : Int} {f : Nat → Int} (ho : h b = some (eO 6 [vI ru, vI va, .ref bl, vI st, vI fo])) (hb : h bl = some (eI (G.2.1 0) 10 f)) (hf : ∀ j, 0 ≤ f j ∧ f j ≤ 2) (hu : 0 ≤ u ∧ u ≤ 2) : CT ln G yX4_countVotes cX4_countVotes 4 (some .int) 1 ([.ref b, vI u]) h 0 0 (fun r9 h9 => r9 = some (vI (cV f u 10)) ∧ h9 = h) zNo := by
  refine CT.intro htr (by decide) rfl (Nat.le_of_ble_eq_true rfl) ?_
  intro X hln hG hR hN C E
  subst hln
  subst hG
  refine Z.iconst C dX4_countVotes_0 ?_
  refine Z.istore_n (l' := [_, _, _]) C dX4_countVotes_1 (Nat.le_of_ble_eq_true rfl) (by rw [hN]; decide) rfl ?_
  refine Z.iconst C dX4_countVotes_2 ?_
  refine Z.istore_n (l' := [_, _, _, _]) C dX4_countVotes_3 (Nat.le_of_ble_eq_true rfl) (by rw [hN]; decide) rfl ?_
  have L : ∀ (q i : Nat), i + q = 10 → Z X 4 [.ref b, vI u, vI (cV f u i), vI (i : Int)] [] h 0 0 := by
    intro q
    induction q with
    | zero =>
      intro i hi
      have hfi := hf i
      have hcb := cV_b f u i
      refine Z.iload_n C dX4_countVotes_4 rfl ?_
      refine Z.aload_n C dX4_countVotes_5 rfl ?_
      refine g_X4_9  C rfl dX4_countVotes_6 (ho) rfl ?_
      refine Z.alenI C dX4_countVotes_9 hb ?_
      refine Z.icmp_ge (tgt := 32) C dX4_countVotes_10 (by decide) (by omega) (by omega) (by omega) (by omega) (fun c10 => ?_) (fun c10 => ?_)
      · refine Z.iload_n C dX4_countVotes_32 rfl ?_
        exact Z.iret C E dX4_countVotes_33 (by decide) (by decide) ⟨by rw [show i = 10 by omega], rfl⟩
      · exfalso; omega
    | succ q ih =>
      intro i hi
      have hfi := hf i
      have hcb := cV_b f u i
      refine Z.iload_n C dX4_countVotes_4 rfl ?_
      refine Z.aload_n C dX4_countVotes_5 rfl ?_
      refine g_X4_9  C rfl dX4_countVotes_6 (ho) rfl ?_
      refine Z.alenI C dX4_countVotes_9 hb ?_
      refine Z.icmp_ge (tgt := 32) C dX4_countVotes_10 (by decide) (by omega) (by omega) (by omega) (by omega) (fun c10 => ?_) (fun c10 => ?_)
      · exfalso; omega
      · refine Z.aload_n C dX4_countVotes_13 rfl ?_
        refine g_X4_9  C rfl dX4_countVotes_14 (ho) rfl ?_
        refine Z.iload_n C dX4_countVotes_17 rfl ?_
        refine Z.iaload C dX4_countVotes_18 hb (by omega) (by omega) (by omega) ?_
        rw [Int.toNat_natCast]
        refine Z.iload_n C dX4_countVotes_19 rfl ?_
        refine Z.icmp_ne (tgt := 26) C dX4_countVotes_20 (by decide) (by omega) (by omega) (by omega) (by omega) (fun c20 => ?_) (fun c20 => ?_)
        · refine Z.iinc (l' := [_, _, _, _]) C dX4_countVotes_26 rfl (Nat.le_of_ble_eq_true rfl) (by rw [hN]; decide) rfl ?_
          refine Z.goto (tgt := 4) C dX4_countVotes_29 (by decide) ?_
          have e9 := ih (i + 1) (by omega)
          simp only [cV] at e9
          first | (rw [if_pos (by omega)] at e9; exact e9) | (rw [if_neg (by omega), Int.add_zero] at e9; exact e9)
        · refine Z.iinc (l' := [_, _, _, _]) C dX4_countVotes_23 rfl (Nat.le_of_ble_eq_true rfl) (by rw [hN]; decide) rfl ?_
          refine Z.iinc (l' := [_, _, _, _]) C dX4_countVotes_26 rfl (Nat.le_of_ble_eq_true rfl) (by rw [hN]; decide) rfl ?_
          refine Z.goto (tgt := 4) C dX4_countVotes_29 (by decide) ?_
          have e9 := ih (i + 1) (by omega)
          simp only [cV] at e9
          first | (rw [if_pos (by omega)] at e9; exact e9) | (rw [if_neg (by omega), Int.add_zero] at e9; exact e9)
  exact L 10 0 rfl

set_option maxRecDepth 100000 in
theorem c_X4_decide {ln : Launch} (htr : ln.stackTraces = false) {G : zG} {h : zH} {b bl : Nat} {ru va st fo ic hr : Int} {f : Nat → Int} (ho : h b = some (eO 6 [vI ru, vI va, .ref bl, vI st, vI fo])) (hb : h bl = some (eI (G.2.1 0) 10 f)) (hf : ∀ j, 0 ≤ f j ∧ f j ≤ 2) (hic : 0 ≤ ic ∧ ic ≤ 10) : CT ln G yX4_decide cX4_decide 3 none 2 ([.ref b, vI ic, vI hr]) h 0 0 (fun r9 h9 => r9 = none ∧ h9 = zput h b (eO 6 [vI ru, vI va, .ref bl, vI (if 2 * cV f 1 10 > ic then 1 else if ic > 0 ∧ 2 * cV f 2 10 ≥ ic then 2 else st), vI (if 2 * cV f 1 10 > ic then hr + 1 else fo)])) zNo := by
  refine CT.intro htr (by decide) rfl (Nat.le_of_ble_eq_true rfl) ?_
  intro X hln hG hR hN C E
  subst hln
  subst hG
  have hcb1 := cV_b f 1 10
  have hcb2 := cV_b f 2 10
  refine Z.iconst C dX4_decide_0 ?_
  refine Z.aload_n C dX4_decide_1 rfl ?_
  refine Z.iconst C dX4_decide_2 ?_
  refine v_X4_28 C rfl dX4_decide_3 (ho) (c_X4_countVotes htr ho hb hf (by omega)) (by decide) (Nat.le_of_ble_eq_true rfl) (by rw [hR]; exact Nat.le_of_ble_eq_true rfl) (by rw [hR]; exact Nat.le_of_ble_eq_true rfl) (fun w3 h3 q3 => ?_) (fun _ _ q => q.elim)
  obtain ⟨rfl, q3⟩ := q3
  replace q3 := q3.symm
  subst q3
  refine Z.imul C dX4_decide_6 ?_
  refine Z.iload_n C dX4_decide_7 rfl ?_
  refine Z.icmp_le (tgt := 26) C dX4_decide_8 (by decide) (by omega) (by omega) (by omega) (by omega) (fun c8 => ?_) (fun c8 => ?_)
  · refine Z.iload_n C dX4_decide_26 rfl ?_
    refine Z.if_le (tgt := 46) C dX4_decide_27 (by decide) (by omega) (by omega) (fun c27 => ?_) (fun c27 => ?_)
    · exact Z.vret C E dX4_decide_46 (by decide) (by decide) ⟨rfl, by first | (rw [if_pos (by omega), if_pos (by omega), zput_zput]; done) | (rw [if_neg (by omega), if_pos (by omega), if_neg (by omega)]; done) | (rw [if_neg (by omega), if_neg (by omega), if_neg (by omega)]; exact (zput_self ho).symm)⟩
    · refine Z.iconst C dX4_decide_30 ?_
      refine Z.aload_n C dX4_decide_31 rfl ?_
      refine Z.iconst C dX4_decide_32 ?_
      refine v_X4_28 C rfl dX4_decide_33 (ho) (c_X4_countVotes htr ho hb hf (by omega)) (by decide) (Nat.le_of_ble_eq_true rfl) (by rw [hR]; exact Nat.le_of_ble_eq_true rfl) (by rw [hR]; exact Nat.le_of_ble_eq_true rfl) (fun w33 h33 q33 => ?_) (fun _ _ q => q.elim)
      obtain ⟨rfl, q33⟩ := q33
      replace q33 := q33.symm
      subst q33
      refine Z.imul C dX4_decide_36 ?_
      refine Z.iload_n C dX4_decide_37 rfl ?_
      refine Z.icmp_lt (tgt := 46) C dX4_decide_38 (by decide) (by omega) (by omega) (by omega) (by omega) (fun c38 => ?_) (fun c38 => ?_)
      · exact Z.vret C E dX4_decide_46 (by decide) (by decide) ⟨rfl, by first | (rw [if_pos (by omega), if_pos (by omega), zput_zput]; done) | (rw [if_neg (by omega), if_pos (by omega), if_neg (by omega)]; done) | (rw [if_neg (by omega), if_neg (by omega), if_neg (by omega)]; exact (zput_self ho).symm)⟩
      · refine Z.aload_n C dX4_decide_41 rfl ?_
        refine Z.iconst C dX4_decide_42 ?_
        refine p_X4_15 (fs' := [vI ru, vI va, .ref bl, vI 2, vI fo]) C rfl  dX4_decide_43  (ho) (Nat.le_of_ble_eq_true rfl) rfl ?_
        exact Z.vret C E dX4_decide_46 (by decide) (by decide) ⟨rfl, by first | (rw [if_pos (by omega), if_pos (by omega), zput_zput]; done) | (rw [if_neg (by omega), if_pos (by omega), if_neg (by omega)]; done) | (rw [if_neg (by omega), if_neg (by omega), if_neg (by omega)]; exact (zput_self ho).symm)⟩
  · refine Z.aload_n C dX4_decide_11 rfl ?_
    refine Z.iconst C dX4_decide_12 ?_
    refine p_X4_15 (fs' := [vI ru, vI va, .ref bl, vI 1, vI fo]) C rfl  dX4_decide_13  (ho) (Nat.le_of_ble_eq_true rfl) rfl ?_
    refine Z.aload_n C dX4_decide_16 rfl ?_
    refine Z.iload_n C dX4_decide_17 rfl ?_
    refine Z.iconst C dX4_decide_18 ?_
    refine Z.iadd C dX4_decide_19 ?_
    refine p_X4_19 (fs' := [vI ru, vI va, .ref bl, vI 1, vI (hr + 1)]) C rfl  dX4_decide_20  (zput_same _ _ _) (Nat.le_of_ble_eq_true rfl) rfl ?_
    refine Z.goto (tgt := 46) C dX4_decide_23 (by decide) ?_
    exact Z.vret C E dX4_decide_46 (by decide) (by decide) ⟨rfl, by first | (rw [if_pos (by omega), if_pos (by omega), zput_zput]; done) | (rw [if_neg (by omega), if_pos (by omega), if_neg (by omega)]; done) | (rw [if_neg (by omega), if_neg (by omega), if_neg (by omega)]; exact (zput_self ho).symm)⟩

set_option maxRecDepth 100000 in
theorem c_X4_isInForce {ln : Launch} (htr : ln.stackTraces = false) {G : zG} {h : zH} {b bl : Nat} {ru va st fo hr : Int} (ho : h b = some (eO 6 [vI ru, vI va, .ref bl, vI st, vI fo])) (hst : 0 ≤ st ∧ st ≤ 2) (hfo : 0 ≤ fo ∧ fo ≤ 3000) (hhr : 0 ≤ hr ∧ hr ≤ 3000) : CT ln G yX4_isInForce cX4_isInForce 2 (some .boolean) 1 ([.ref b, vI hr]) h 0 0 (fun r9 h9 => r9 = some (vI (if st = 1 ∧ fo ≤ hr then 1 else 0)) ∧ h9 = h) zNo := by
  refine CT.intro htr (by decide) rfl (Nat.le_of_ble_eq_true rfl) ?_
  intro X hln hG hR hN C E
  subst hln
  subst hG
  refine Z.aload_n C dX4_isInForce_0 rfl ?_
  refine g_X4_15  C rfl dX4_isInForce_1 (ho) rfl ?_
  refine Z.iconst C dX4_isInForce_4 ?_
  refine Z.icmp_ne (tgt := 20) C dX4_isInForce_5 (by decide) (by omega) (by omega) (by omega) (by omega) (fun c5 => ?_) (fun c5 => ?_)
  · refine Z.iconst C dX4_isInForce_20 ?_
    exact Z.zret C E dX4_isInForce_21 rfl (by decide) (by decide) ⟨by first | (rw [if_pos (by omega)]; done) | rw [if_neg (by omega)], rfl⟩
  · refine Z.aload_n C dX4_isInForce_8 rfl ?_
    refine g_X4_19  C rfl dX4_isInForce_9 (ho) rfl ?_
    refine Z.iload_n C dX4_isInForce_12 rfl ?_
    refine Z.icmp_gt (tgt := 20) C dX4_isInForce_13 (by decide) (by omega) (by omega) (by omega) (by omega) (fun c13 => ?_) (fun c13 => ?_)
    · refine Z.iconst C dX4_isInForce_20 ?_
      exact Z.zret C E dX4_isInForce_21 rfl (by decide) (by decide) ⟨by first | (rw [if_pos (by omega)]; done) | rw [if_neg (by omega)], rfl⟩
    · refine Z.iconst C dX4_isInForce_16 ?_
      refine Z.goto (tgt := 21) C dX4_isInForce_17 (by decide) ?_
      exact Z.zret C E dX4_isInForce_21 rfl (by decide) (by decide) ⟨by first | (rw [if_pos (by omega)]; done) | rw [if_neg (by omega)], rfl⟩

set_option maxRecDepth 100000 in
theorem c_X2_init {ln : Launch} (htr : ln.stackTraces = false) {G : zG} {h : zH} {b : Nat} {x1 x2 sz : Int} (ho : h b = some (eO 4 [vI x1, vI x2])) : CT ln G yX2_init cX2_init 2 none 2 ([.ref b, vI sz]) h 0 0 (fun r9 h9 => r9 = none ∧ h9 b = some (eO 4 [vI sz, vI 0]) ∧ ∀ q, q ≠ b → h9 q = h q) zNo := by
  refine CT.intro htr (by decide) rfl (Nat.le_of_ble_eq_true rfl) ?_
  intro X hln hG hR hN C E
  subst hln
  subst hG
  refine Z.aload_n C dX2_init_0 rfl ?_
  refine o_X2_1 C rfl dX2_init_1 (by decide) (Nat.le_of_ble_eq_true rfl) ?_
  refine Z.aload_n C dX2_init_4 rfl ?_
  refine Z.iconst C dX2_init_5 ?_
  refine p_X2_7 (fs' := [vI x1, vI 0]) C rfl  dX2_init_6  (ho) (Nat.le_of_ble_eq_true rfl) rfl ?_
  refine Z.aload_n C dX2_init_9 rfl ?_
  refine Z.iload_n C dX2_init_10 rfl ?_
  refine p_X2_13 (fs' := [vI sz, vI 0]) C rfl rfl dX2_init_11  (zput_same _ _ _) (Nat.le_of_ble_eq_true rfl) rfl ?_
  exact Z.vret C E dX2_init_14 (by decide) (by decide) ⟨rfl, zput_same _ _ _, fun q q1 => by rw [zput_ne _ _ q1, zput_ne _ _ q1]⟩

set_option maxRecDepth 100000 in
theorem c_X0_init {ln : Launch} (htr : ln.stackTraces = false) {G : zG} {h : zH} {b : Nat} {x1 x3 : Int} {ow : Nat} (ho : h b = some (eO 2 [vI x1, .null, vI x3])) : CT ln G yX0_init cX0_init 2 none 2 ([.ref b, vI (ow : Int)]) h 1 10 (fun r9 h9 => r9 = none ∧ ∃ a1, h a1 = none ∧ a1 ≠ b ∧ h9 b = some (eO 2 [vI (ow : Int), .ref a1, vI 0]) ∧ h9 a1 = some (eI (G.2.1 0) 10 (fun _ => 0)) ∧ ∀ q, q ≠ b → q ≠ a1 → h9 q = h q) zNo := by
  refine CT.intro htr (by decide) rfl (Nat.le_of_ble_eq_true rfl) ?_
  intro X hln hG hR hN C E
  subst hln
  subst hG
  refine Z.aload_n C dX0_init_0 rfl ?_
  refine o_X0_3 C rfl dX0_init_1 (by decide) (Nat.le_of_ble_eq_true rfl) ?_
  refine Z.aload_n C dX0_init_4 rfl ?_
  refine Z.bipush C dX0_init_5 (by decide) ?_
  refine Z.newI (N := 10) C zw_arrI dX0_init_7 rfl (by decide) (by rw [hR]; exact Nat.le_of_ble_eq_true rfl) (by rw [hR]; exact Nat.le_of_ble_eq_true rfl) (fun a1 na1 => ?_)
  have nba1 : a1 ≠ b := fun q => by rw [q, ho] at na1; cases na1
  refine p_X0_9 (fs' := [vI x1, .ref a1, vI x3]) C rfl rfl dX0_init_9  (zput_ne' h _ na1 ho) (Nat.le_of_ble_eq_true rfl) rfl ?_
  refine Z.aload_n C dX0_init_12 rfl ?_
  refine Z.iconst C dX0_init_13 ?_
  refine p_X0_15 (fs' := [vI x1, .ref a1, vI 0]) C rfl  dX0_init_14  (zput_same _ _ _) (Nat.le_of_ble_eq_true rfl) rfl ?_
  refine Z.aload_n C dX0_init_17 rfl ?_
  refine Z.iload_n C dX0_init_18 rfl ?_
  refine p_X0_19 (fs' := [vI (ow : Int), .ref a1, vI 0]) C rfl rfl dX0_init_19  (zput_same _ _ _) (Nat.le_of_ble_eq_true rfl) rfl ?_
  exact Z.vret C E dX0_init_22 (by decide) (by decide) ⟨rfl, a1, na1, nba1, by simp [zput, nba1, Ne.symm nba1], by simp [zput, nba1, Ne.symm nba1], fun q q1 q2 => by simp [zput, q1, q2]⟩

set_option maxRecDepth 100000 in
theorem c_X4_init {ln : Launch} (htr : ln.stackTraces = false) {G : zG} {h : zH} {b : Nat} {x1 x2 x4 x5 ru va : Int} (ho : h b = some (eO 6 [vI x1, vI x2, .null, vI x4, vI x5])) : CT ln G yX4_init cX4_init 3 none 2 ([.ref b, vI ru, vI va]) h 1 10 (fun r9 h9 => r9 = none ∧ ∃ a1, h a1 = none ∧ a1 ≠ b ∧ h9 b = some (eO 6 [vI ru, vI va, .ref a1, vI 0, vI 0]) ∧ h9 a1 = some (eI (G.2.1 0) 10 (fun _ => 0)) ∧ ∀ q, q ≠ b → q ≠ a1 → h9 q = h q) zNo := by
  refine CT.intro htr (by decide) rfl (Nat.le_of_ble_eq_true rfl) ?_
  intro X hln hG hR hN C E
  subst hln
  subst hG
  refine Z.aload_n C dX4_init_0 rfl ?_
  refine o_X4_3 C rfl dX4_init_1 (by decide) (Nat.le_of_ble_eq_true rfl) ?_
  refine Z.aload_n C dX4_init_4 rfl ?_
  refine Z.bipush C dX4_init_5 (by decide) ?_
  refine Z.newI (N := 10) C zw_arrI dX4_init_7 rfl (by decide) (by rw [hR]; exact Nat.le_of_ble_eq_true rfl) (by rw [hR]; exact Nat.le_of_ble_eq_true rfl) (fun a1 na1 => ?_)
  have nba1 : a1 ≠ b := fun q => by rw [q, ho] at na1; cases na1
  refine p_X4_9 (fs' := [vI x1, vI x2, .ref a1, vI x4, vI x5]) C rfl rfl dX4_init_9  (zput_ne' h _ na1 ho) (Nat.le_of_ble_eq_true rfl) rfl ?_
  refine Z.aload_n C dX4_init_12 rfl ?_
  refine Z.iconst C dX4_init_13 ?_
  refine p_X4_15 (fs' := [vI x1, vI x2, .ref a1, vI 0, vI x5]) C rfl  dX4_init_14  (zput_same _ _ _) (Nat.le_of_ble_eq_true rfl) rfl ?_
  refine Z.aload_n C dX4_init_17 rfl ?_
  refine Z.iconst C dX4_init_18 ?_
  refine p_X4_19 (fs' := [vI x1, vI x2, .ref a1, vI 0, vI 0]) C rfl  dX4_init_19  (zput_same _ _ _) (Nat.le_of_ble_eq_true rfl) rfl ?_
  refine Z.aload_n C dX4_init_22 rfl ?_
  refine Z.iload_n C dX4_init_23 rfl ?_
  refine p_X4_22 (fs' := [vI ru, vI x2, .ref a1, vI 0, vI 0]) C rfl rfl dX4_init_24  (zput_same _ _ _) (Nat.le_of_ble_eq_true rfl) rfl ?_
  refine Z.aload_n C dX4_init_27 rfl ?_
  refine Z.iload_n C dX4_init_28 rfl ?_
  refine p_X4_25 (fs' := [vI ru, vI va, .ref a1, vI 0, vI 0]) C rfl rfl dX4_init_29  (zput_same _ _ _) (Nat.le_of_ble_eq_true rfl) rfl ?_
  exact Z.vret C E dX4_init_32 (by decide) (by decide) ⟨rfl, a1, na1, nba1, by simp [zput, nba1, Ne.symm nba1], by simp [zput, nba1, Ne.symm nba1], fun q q1 q2 => by simp [zput, q1, q2]⟩

set_option maxRecDepth 100000 in
theorem c_X1_init {ln : Launch} (htr : ln.stackTraces = false) {G : zG} {h : zH} {b wy : Nat} {x2 x3 x4 x6 hr wh un : Int} (ho : h b = some (eO 3 [.null, vI x2, vI x3, vI x4, .null, vI x6])) : CT ln G yX1_init cX1_init 5 none 2 ([.ref b, .ref wy, vI hr, vI wh, vI un]) h 1 10 (fun r9 h9 => r9 = none ∧ ∃ a1, h a1 = none ∧ a1 ≠ b ∧ h9 b = some (eO 3 [.ref wy, vI hr, vI wh, vI un, .ref a1, vI (-1)]) ∧ h9 a1 = some (eI (G.2.1 0) 10 (fun _ => 0)) ∧ ∀ q, q ≠ b → q ≠ a1 → h9 q = h q) zNo := by
  refine CT.intro htr (by decide) rfl (Nat.le_of_ble_eq_true rfl) ?_
  intro X hln hG hR hN C E
  subst hln
  subst hG
  refine Z.aload_n C dX1_init_0 rfl ?_
  refine o_X1_3 C rfl dX1_init_1 (by decide) (Nat.le_of_ble_eq_true rfl) ?_
  refine Z.aload_n C dX1_init_4 rfl ?_
  refine Z.bipush C dX1_init_5 (by decide) ?_
  refine Z.newI (N := 10) C zw_arrI dX1_init_7 rfl (by decide) (by rw [hR]; exact Nat.le_of_ble_eq_true rfl) (by rw [hR]; exact Nat.le_of_ble_eq_true rfl) (fun a1 na1 => ?_)
  have nba1 : a1 ≠ b := fun q => by rw [q, ho] at na1; cases na1
  refine p_X1_9 (fs' := [.null, vI x2, vI x3, vI x4, .ref a1, vI x6]) C rfl rfl dX1_init_9  (zput_ne' h _ na1 ho) (Nat.le_of_ble_eq_true rfl) rfl ?_
  refine Z.aload_n C dX1_init_12 rfl ?_
  refine Z.iconst C dX1_init_13 ?_
  refine p_X1_15 (fs' := [.null, vI x2, vI x3, vI x4, .ref a1, vI (-1)]) C rfl  dX1_init_14  (zput_same _ _ _) (Nat.le_of_ble_eq_true rfl) rfl ?_
  refine Z.aload_n C dX1_init_17 rfl ?_
  refine Z.aload_n C dX1_init_18 rfl ?_
  refine p_X1_19 (fs' := [.ref wy, vI x2, vI x3, vI x4, .ref a1, vI (-1)]) C rfl rfl dX1_init_19  (zput_same _ _ _) (Nat.le_of_ble_eq_true rfl) rfl ?_
  refine Z.aload_n C dX1_init_22 rfl ?_
  refine Z.iload_n C dX1_init_23 rfl ?_
  refine p_X1_23 (fs' := [.ref wy, vI hr, vI x3, vI x4, .ref a1, vI (-1)]) C rfl rfl dX1_init_24  (zput_same _ _ _) (Nat.le_of_ble_eq_true rfl) rfl ?_
  refine Z.aload_n C dX1_init_27 rfl ?_
  refine Z.iload_n C dX1_init_28 rfl ?_
  refine p_X1_26 (fs' := [.ref wy, vI hr, vI wh, vI x4, .ref a1, vI (-1)]) C rfl rfl dX1_init_29  (zput_same _ _ _) (Nat.le_of_ble_eq_true rfl) rfl ?_
  refine Z.aload_n C dX1_init_32 rfl ?_
  refine Z.iload C dX1_init_33 rfl ?_
  refine p_X1_29 (fs' := [.ref wy, vI hr, vI wh, vI un, .ref a1, vI (-1)]) C rfl rfl dX1_init_35  (zput_same _ _ _) (Nat.le_of_ble_eq_true rfl) rfl ?_
  exact Z.vret C E dX1_init_38 (by decide) (by decide) ⟨rfl, a1, na1, nba1, by simp [zput, nba1, Ne.symm nba1], by simp [zput, nba1, Ne.symm nba1], fun q q1 q2 => by simp [zput, q1, q2]⟩

set_option maxRecDepth 100000 in
theorem c_X3_init {ln : Launch} (htr : ln.stackTraces = false) {G : zG} {h : zH} {b nu : Nat} {x1 x2 x3 x6 x7 x8 un ro : Int} (ho : h b = some (eO 5 [vI x1, vI x2, vI x3, .null, .null, vI x6, vI x7, vI x8])) : CT ln G yX3_init cX3_init 4 none 3 ([.ref b, vI (nu : Int), vI un, vI ro]) h 3 33 (fun r9 h9 => r9 = none ∧ ∃ a1 a2 a3, (h a1 = none ∧ h a2 = none ∧ h a3 = none) ∧ (a1 ≠ b ∧ a2 ≠ b ∧ a3 ≠ b ∧ a2 ≠ a1 ∧ a3 ≠ a1 ∧ a3 ≠ a2) ∧ h9 b = some (eO 5 [vI (nu : Int), vI un, vI ro, .ref a2, .ref a1, vI 1, vI un, vI 0]) ∧ h9 a1 = some (eI (G.2.1 1) 20 (fun _ => 0)) ∧ h9 a2 = some (eO 2 [vI (nu : Int), .ref a3, vI 0]) ∧ h9 a3 = some (eI (G.2.1 0) 10 (fun _ => 0)) ∧ ∀ q, q ≠ b → q ≠ a1 → q ≠ a2 → q ≠ a3 → h9 q = h q) zNo := by
  refine CT.intro htr (by decide) rfl (Nat.le_of_ble_eq_true rfl) ?_
  intro X hln hG hR hN C E
  subst hln
  subst hG
  refine Z.aload_n C dX3_init_0 rfl ?_
  refine o_X3_3 C rfl dX3_init_1 (by decide) (Nat.le_of_ble_eq_true rfl) ?_
  refine Z.aload_n C dX3_init_4 rfl ?_
  refine Z.bipush C dX3_init_5 (by decide) ?_
  refine Z.newZ (N := 20) C zw_arrZ dX3_init_7 rfl (by decide) (by rw [hR]; exact Nat.le_of_ble_eq_true rfl) (by rw [hR]; exact Nat.le_of_ble_eq_true rfl) (fun a1 na1 => ?_)
  have nba1 : a1 ≠ b := fun q => by rw [q, ho] at na1; cases na1
  refine p_X3_9 (fs' := [vI x1, vI x2, vI x3, .null, .ref a1, vI x6, vI x7, vI x8]) C rfl rfl dX3_init_9  (zput_ne' h _ na1 ho) (Nat.le_of_ble_eq_true rfl) rfl ?_
  refine Z.aload_n C dX3_init_12 rfl ?_
  refine Z.iconst C dX3_init_13 ?_
  refine p_X3_15 (fs' := [vI x1, vI x2, vI x3, .null, .ref a1, vI 1, vI x7, vI x8]) C rfl  dX3_init_14 (Or.inr rfl) (zput_same _ _ _) (Nat.le_of_ble_eq_true rfl) rfl ?_
  refine Z.aload_n C dX3_init_17 rfl ?_
  refine Z.iconst C dX3_init_18 ?_
  refine p_X3_19 (fs' := [vI x1, vI x2, vI x3, .null, .ref a1, vI 1, vI x7, vI 0]) C rfl  dX3_init_19  (zput_same _ _ _) (Nat.le_of_ble_eq_true rfl) rfl ?_
  refine Z.aload_n C dX3_init_22 rfl ?_
  refine Z.iload_n C dX3_init_23 rfl ?_
  refine p_X3_23 (fs' := [vI (nu : Int), vI x2, vI x3, .null, .ref a1, vI 1, vI x7, vI 0]) C rfl rfl dX3_init_24  (zput_same _ _ _) (Nat.le_of_ble_eq_true rfl) rfl ?_
  refine Z.aload_n C dX3_init_27 rfl ?_
  refine Z.iload_n C dX3_init_28 rfl ?_
  refine p_X3_26 (fs' := [vI (nu : Int), vI un, vI x3, .null, .ref a1, vI 1, vI x7, vI 0]) C rfl rfl dX3_init_29  (zput_same _ _ _) (Nat.le_of_ble_eq_true rfl) rfl ?_
  refine Z.aload_n C dX3_init_32 rfl ?_
  refine Z.iload_n C dX3_init_33 rfl ?_
  refine p_X3_29 (fs' := [vI (nu : Int), vI un, vI ro, .null, .ref a1, vI 1, vI x7, vI 0]) C rfl rfl dX3_init_34  (zput_same _ _ _) (Nat.le_of_ble_eq_true rfl) rfl ?_
  refine Z.aload_n C dX3_init_37 rfl ?_
  refine Z.iload_n C dX3_init_38 rfl ?_
  refine p_X3_32 (fs' := [vI (nu : Int), vI un, vI ro, .null, .ref a1, vI 1, vI un, vI 0]) C rfl  dX3_init_39  (zput_same _ _ _) (Nat.le_of_ble_eq_true rfl) rfl ?_
  refine Z.aload_n C dX3_init_42 rfl ?_
  refine n_X3_35 C rfl dX3_init_43 (by rw [hR]; exact Nat.le_of_ble_eq_true rfl) (by rw [hR]; exact Nat.le_of_ble_eq_true rfl) (fun a2 na2 => ?_)
  have nba2 : a2 ≠ b := fun q => by rw [q, zput_same] at na2; cases na2
  have nb21 : a2 ≠ a1 := fun q => by rw [q] at na2; simp [zput, nba1] at na2
  have na2h : h a2 = none := by simpa [zput, nba2, nb21] using na2
  refine Z.dup C dX3_init_46 rfl ?_
  refine Z.iload_n C dX3_init_47 rfl ?_
  refine i_X3_37 C rfl dX3_init_48 (c_X0_init htr (x1 := 0) (x3 := 0) (zput_same _ _ _)) (by decide) (Nat.le_of_ble_eq_true rfl) (by rw [hR]; exact Nat.le_of_ble_eq_true rfl) (by rw [hR]; exact Nat.le_of_ble_eq_true rfl) (fun w48 h48 q48 => ?_)
  obtain ⟨rfl, a3, na3, nb32, p1, p2, p3⟩ := q48
  have nba3 : a3 ≠ b := fun q => by rw [q] at na3; simp [zput, Ne.symm nba2] at na3
  have nb31 : a3 ≠ a1 := fun q => by rw [q] at na3; simp [zput, nba1, Ne.symm nb21] at na3
  have na3h : h a3 = none := by simpa [zput, nba3, nb31, nb32] using na3
  refine p_X3_40 (fs' := [vI (nu : Int), vI un, vI ro, .ref a2, .ref a1, vI 1, vI un, vI 0]) C rfl rfl dX3_init_51  (by rw [p3 b (Ne.symm nba2) (Ne.symm nba3)]; simp [zput, nba1, Ne.symm nba1, nba2, Ne.symm nba2]; rfl) (Nat.le_of_ble_eq_true rfl) rfl ?_
  exact Z.vret C E dX3_init_54 (by decide) (by decide) ⟨rfl, a1, a2, a3, ⟨na1, na2h, na3h⟩, ⟨nba1, nba2, nba3, nb21, nb31, nb32⟩, zput_same _ _ _, by rw [zput_ne _ _ nba1, p3 a1 (Ne.symm nb21) (Ne.symm nb31)]; simp [zput, nba1, Ne.symm nb21], by rw [zput_ne _ _ nba2]; exact p1, by rw [zput_ne _ _ nba3]; exact p2, fun q q1 q2 q3 q4 => by rw [zput_ne _ _ q1, p3 q q3 q4]; simp [zput, q1, q2, q3]⟩

set_option maxRecDepth 100000 in
theorem c_X3_goAway {ln : Launch} (htr : ln.stackTraces = false) {G : zG} {h : zH} {b bl : Nat} {v1 v3 v4 v8 : Value} {un is lf : Int} {f : Nat → Int} (ho : h b = some (eO 5 [v1, vI un, v3, v4, .ref bl, vI is, vI lf, v8])) (hb : h bl = some (eI (G.2.1 1) 20 f)) : CT ln G yX3_goAway cX3_goAway 2 none 1 ([.ref b]) h 0 0 (fun r9 h9 => r9 = none ∧ h9 = zput (zput h b (eO 5 [v1, vI un, v3, v4, .ref bl, vI 0, vI 0, v8])) bl (eI (G.2.1 1) 20 (fun j => if j < 20 then 0 else f j))) zNo := by
  refine CT.intro htr (by decide) rfl (Nat.le_of_ble_eq_true rfl) ?_
  intro X hln hG hR hN C E
  subst hln
  subst hG
  have hne : b ≠ bl := zne ho hb eO_eI
  refine Z.aload_n C dX3_goAway_0 rfl ?_
  refine Z.iconst C dX3_goAway_1 ?_
  refine p_X3_15 (fs' := [v1, vI un, v3, v4, .ref bl, vI 0, vI lf, v8]) C rfl  dX3_goAway_2 (Or.inl rfl) (ho) (Nat.le_of_ble_eq_true rfl) rfl ?_
  refine Z.aload_n C dX3_goAway_5 rfl ?_
  refine Z.iconst C dX3_goAway_6 ?_
  refine p_X3_32 (fs' := [v1, vI un, v3, v4, .ref bl, vI 0, vI 0, v8]) C rfl  dX3_goAway_7  (zput_same _ _ _) (Nat.le_of_ble_eq_true rfl) rfl ?_
  rw [zput_zput]
  refine Z.iconst C dX3_goAway_10 ?_
  refine Z.istore_n (l' := [_, _]) C dX3_goAway_11 (Nat.le_of_ble_eq_true rfl) (by rw [hN]; decide) rfl ?_
  have L : ∀ (q i : Nat), i + q = 20 → Z X 12 [.ref b, vI (i : Int)] [] (zput (zput h b (eO 5 [v1, vI un, v3, v4, .ref bl, vI 0, vI 0, v8])) bl (eI ((zG_of X).2.1 1) 20 (fun j => if j < i then 0 else f j))) 0 0 := by
    intro q
    induction q with
    | zero =>
      intro i hi
      have ho2 : zput (zput h b (eO 5 [v1, vI un, v3, v4, .ref bl, vI 0, vI 0, v8])) bl (eI ((zG_of X).2.1 1) 20 (fun j => if j < i then 0 else f j)) b = some (eO 5 [v1, vI un, v3, v4, .ref bl, vI 0, vI 0, v8]) := by rw [zput_ne _ _ hne, zput_same]
      refine Z.iload_n C dX3_goAway_12 rfl ?_
      refine Z.aload_n C dX3_goAway_13 rfl ?_
      refine g_X3_9  C rfl dX3_goAway_14 (ho2) rfl ?_
      refine Z.alenZ C dX3_goAway_17 (zput_same _ _ _) ?_
      refine Z.icmp_ge (tgt := 34) C dX3_goAway_18 (by decide) (by omega) (by omega) (by omega) (by omega) (fun c18 => ?_) (fun c18 => ?_)
      · exact Z.vret C E dX3_goAway_34 (by decide) (by decide) ⟨rfl, by rw [show i = 20 by omega]⟩
      · exfalso; omega
    | succ q ih =>
      intro i hi
      have ho2 : zput (zput h b (eO 5 [v1, vI un, v3, v4, .ref bl, vI 0, vI 0, v8])) bl (eI ((zG_of X).2.1 1) 20 (fun j => if j < i then 0 else f j)) b = some (eO 5 [v1, vI un, v3, v4, .ref bl, vI 0, vI 0, v8]) := by rw [zput_ne _ _ hne, zput_same]
      refine Z.iload_n C dX3_goAway_12 rfl ?_
      refine Z.aload_n C dX3_goAway_13 rfl ?_
      refine g_X3_9  C rfl dX3_goAway_14 (ho2) rfl ?_
      refine Z.alenZ C dX3_goAway_17 (zput_same _ _ _) ?_
      refine Z.icmp_ge (tgt := 34) C dX3_goAway_18 (by decide) (by omega) (by omega) (by omega) (by omega) (fun c18 => ?_) (fun c18 => ?_)
      · exfalso; omega
      · refine Z.aload_n C dX3_goAway_21 rfl ?_
        refine g_X3_9  C rfl dX3_goAway_22 (ho2) rfl ?_
        refine Z.iload_n C dX3_goAway_25 rfl ?_
        refine Z.iconst C dX3_goAway_26 ?_
        refine Z.zastore C dX3_goAway_27 (zput_same _ _ _) (by omega) (by omega) (by omega) (Or.inl rfl) ?_
        refine Z.iinc (l' := [_, _]) C dX3_goAway_28 rfl (Nat.le_of_ble_eq_true rfl) (by rw [hN]; decide) rfl ?_
        refine Z.goto (tgt := 12) C dX3_goAway_31 (by decide) ?_
        rw [zput_zput]
        have e9 : va_up (fun j => if j < i then 0 else f j) ((i : Int).toNat) 0 = fun j => if j < i + 1 then 0 else f j := by
          funext j
          unfold va_up
          rw [Int.toNat_natCast]
          split
          · rw [if_pos (by omega)]
          · dsimp only
            by_cases c : j < i
            · rw [if_pos c, if_pos (by omega)]
            · rw [if_neg c, if_neg (by omega)]
        rw [e9]
        exact ih (i + 1) (by omega)
  have e9 : (fun j => if j < 0 then 0 else f j) = f := by
    funext j
    rw [if_neg (by omega)]
  have L0 := L 20 0 rfl
  rw [e9] at L0
  have e8 : zput (zput h b (eO 5 [v1, vI un, v3, v4, .ref bl, vI 0, vI 0, v8])) bl (eI ((zG_of X).2.1 1) 20 f) = zput h b (eO 5 [v1, vI un, v3, v4, .ref bl, vI 0, vI 0, v8]) := zput_self (by rw [zput_ne _ _ (Ne.symm hne)]; exact hb)
  rw [e8] at L0
  exact L0

