/-! told -/
theorem SP.tr {G : zG} {h h1 h2 : zH} {b v v1 c1 c2 : Nat} {g1 g2 : Nat → Int} (hs1 : SB G h1 b v1 c1 g1) (hv1 : h v1 = none ∨ v1 = v) (hk1 : ∀ q, q ≠ b → q ≠ v → h q ≠ none → h1 q = h q) (P : SP G h1 h2 b v1 c2 g2) : SP G h h2 b v c2 g2 := by
  obtain ⟨v2, hs2, hv2, hk2⟩ := P
  refine ⟨v2, hs2, ?_, fun q q1 q2 q3 => ?_⟩
  · rcases hv2 with hv2 | rfl
    · by_cases c : v2 = v
      · exact Or.inr c
      · refine Or.inl ?_
        cases e : h v2 with
        | none => rfl
        | some x =>
          have := hk1 v2 hs2.1 c (by rw [e]; exact fun z => by cases z)
          rw [hv2, e] at this
          cases this
    · exact hv1
  · have e1 := hk1 q q1 q2 q3
    have n1 : q ≠ v1 := fun z => by
      rcases hv1 with w | w
      · exact q3 (by rw [z]; exact w)
      · exact q2 (z.trans w)
    exact (hk2 q q1 n1 (by rw [e1]; exact q3)).trans e1
theorem SP.cr {G : zG} {ad : Nat → Nat → Nat} {el : Nat → Nat} {T : Nat → Nat → Int} {h h1 : zH} {b v c : Nat} {g : Nat → Int} (R : CR G ad el T h) (hb : ¬ cOwn ad el T b) (hv : ¬ cOwn ad el T v) (P : SP G h h1 b v c g) : CR G ad el T h1 := by
  obtain ⟨v1, -, -, hk⟩ := P
  exact R.keep (fun q hq => hk q (fun z => hb (by rw [← z]; exact hq)) (fun z => hv (by rw [← z]; exact hq)) (R.own hq))
abbrev tX : Type := Nat × (Nat → Int)
def txA (t : tX) (x : Int) : tX := (t.1 + 1, fun j => if j = t.1 then x else t.2 j)
def txN (t : tX) (n : Int) : tX := if 10 ≤ n then txA (txA t (48 + n / 10)) (48 + n % 10) else txA t (48 + n % 10)
def txF (T : Nat → Nat → Int) (m : Nat) (t : tX) : Nat → tX
  | 0 => t
  | f + 1 => if T 13 (20 * m + f) = 0 then txF T m t f else txN (txA (txF T m t f) 44) (T 11 f)
def txM (T : Nat → Nat → Int) (m : Nat) (t : tX) : tX := txA (txF T m (txN t (m : Int)) (cN T 1)) 59
def txT (T : Nat → Nat → Int) (w : Int) : Nat → tX
  | 0 => (0, fun _ => 0)
  | m + 1 => if ((txT T w m).1 : Int) ≤ w ∧ ¬ T 3 m = 0 then txM T m (txT T w m) else txT T w m
def ctold (T : Nat → Nat → Int) (w : Int) : Int := if w < ((txT T w (cN T 0)).1 : Int) then (txT T w (cN T 0)).2 w.toNat else 0
theorem txN_b (t : tX) (n : Int) : t.1 + 1 ≤ (txN t n).1 ∧ (txN t n).1 ≤ t.1 + 2 := by
  unfold txN
  split
  · show t.1 + 1 ≤ t.1 + 1 + 1 ∧ t.1 + 1 + 1 ≤ t.1 + 2
    omega
  · show t.1 + 1 ≤ t.1 + 1 ∧ t.1 + 1 ≤ t.1 + 2
    omega
theorem txF_b (T : Nat → Nat → Int) (m : Nat) (t : tX) : ∀ i, t.1 ≤ (txF T m t i).1 ∧ (txF T m t i).1 ≤ t.1 + 3 * i
  | 0 => ⟨Nat.le_refl _, Nat.le_refl _⟩
  | i + 1 => by
    have h1 := txF_b T m t i
    have h2 := txN_b (txA (txF T m t i) 44) (T 11 i)
    have h3 : (txA (txF T m t i) 44).1 = (txF T m t i).1 + 1 := rfl
    rw [txF]
    split <;> omega
theorem txM_b (T : Nat → Nat → Int) (m : Nat) (t : tX) (h : cN T 1 ≤ 20) : t.1 ≤ (txM T m t).1 ∧ (txM T m t).1 ≤ t.1 + 63 := by
  have h1 := txF_b T m (txN t (m : Int)) (cN T 1)
  have h2 := txN_b t (m : Int)
  have h3 : (txM T m t).1 = (txF T m (txN t (m : Int)) (cN T 1)).1 + 1 := rfl
  omega
theorem txT_b (T : Nat → Nat → Int) (w : Int) (h : cN T 1 ≤ 20) : ∀ i, (txT T w i).1 ≤ 63 * i
  | 0 => Nat.le_refl _
  | i + 1 => by
    have h1 := txT_b T w h i
    have h2 := txM_b T i (txT T w i) h
    rw [txT]
    split <;> omega
theorem txT_stop (T : Nat → Nat → Int) (w : Int) {i : Nat} (h : w < ((txT T w i).1 : Int)) : ∀ j, txT T w (i + j) = txT T w i
  | 0 => rfl
  | j + 1 => by
    have h1 := txT_stop T w h j
    rw [← Nat.add_assoc, txT, h1, if_neg (by omega)]
theorem Z.sep {X : zX} {cc : ByteArray} {y : MethodName} {d pc k n : Nat} {l st : List Value} {h : zH} (C : ZC X cc y d) (kk : (∀ q, h q ≠ none → q ≠ (zG_of X).2.2 5) → Z X pc l st h k n) : Z X pc l st h k n := by
  obtain ⟨p, ln, e, R, s, m, args, below, meth, c, G, A, nL, Q⟩ := X
  obtain ⟨hx, hb, hml, hown, hts, hK, hBG, hA, hlk, hnm, hfr, hlo, htr⟩ := C
  intro H locs ls hP hS hdom hl
  obtain ⟨cell, -, -, -, -, -, -, hnA⟩ := hBG.2.2.2.2.2.1
  exact kk (fun q hq e => hnA (by have e9 : q = G.2.2 5 := e; rw [← e9]; exact hdom q hq)) H locs ls hP hS hdom hl

set_option maxRecDepth 100000 in
theorem c_X6_tellNumber_lo {ln : Launch} (htr : ln.stackTraces = false) {G : zG} {h : zH} {b v : Nat} {t : tX} (hs : SB G h b v t.1 t.2) {n : Int} (h1 : 0 ≤ n ∧ n < 10) (hc : t.1 ≤ 990) : CT ln G yX6_tellNumber cX6_tellNumber 2 none 7 ([vI n, .ref b]) h (sbK (txA t (48 + n % 10)).1 - sbK t.1) (sbS (txA t (48 + n % 10)).1 - sbS t.1) (fun r9 h9 => r9 = none ∧ SP G h h9 b v (txA t (48 + n % 10)).1 (txA t (48 + n % 10)).2) zNo := by
  refine CT.intro htr (by decide) rfl (Nat.le_of_ble_eq_true rfl) ?_
  intro X hln hG hR hN C E
  subst hln
  subst hG
  have hl1 := l_mono (show t.1 ≤ t.1 + 1 by omega)
  have e1 : (txA t (48 + n % 10)).1 = t.1 + 1 := rfl
  have k1 : sbK (txA t (48 + n % 10)).1 = sbK (t.1 + 1) := rfl
  have k2 : sbS (txA t (48 + n % 10)).1 = sbS (t.1 + 1) := rfl
  refine Z.iload_n C dX6_tellNumber_0 rfl ?_
  refine Z.bipush C dX6_tellNumber_1 (by decide) ?_
  refine Z.icmp_lt (tgt := 19) C dX6_tellNumber_3 (by decide) (by omega) (by omega) (by omega) (by omega) (fun c3 => ?_) (fun c3 => ?_)
  · refine Z.aload_n C dX6_tellNumber_19 rfl ?_
    refine Z.bipush C dX6_tellNumber_20 (by decide) ?_
    refine Z.iload_n C dX6_tellNumber_22 rfl ?_
    refine Z.bipush C dX6_tellNumber_23 (by decide) ?_
    refine Z.irem (z := (n % 10)) C dX6_tellNumber_25 (by decide) (jI_rem10 (by omega) (by omega) 10 (by decide) (by decide)) ?_
    refine Z.iadd C dX6_tellNumber_26 ?_
    refine Z.i2c C dX6_tellNumber_27 (by omega) (by omega) ?_
    refine v_X6_340 C rfl dX6_tellNumber_28 (hs.2.choose_spec.1) (c_app htr hs (by omega) (by omega)) (by decide) (Nat.le_of_ble_eq_true rfl) (by rw [hR]; show _ ≤ sbK (txA t (48 + n % 10)).1 - sbK t.1; omega) (by rw [hR]; show _ ≤ sbS (txA t (48 + n % 10)).1 - sbS t.1; omega) (fun w28 h28 q28 => ?_) (fun _ _ q => q.elim)
    obtain ⟨rfl, P1⟩ := q28
    refine Z.pop C dX6_tellNumber_31 rfl ?_
    exact Z.vret C E dX6_tellNumber_32 (by show _ ≤ sbK (txA t (48 + n % 10)).1 - sbK t.1; omega) (by show _ ≤ sbS (txA t (48 + n % 10)).1 - sbS t.1; omega) ⟨rfl, P1⟩
  · exfalso; omega

set_option maxRecDepth 100000 in
theorem c_X6_tellNumber_hi {ln : Launch} (htr : ln.stackTraces = false) {G : zG} {h : zH} {b v : Nat} {t : tX} (hs : SB G h b v t.1 t.2) {n : Int} (h1 : 10 ≤ n ∧ n < 100) (hc : t.1 ≤ 990) : CT ln G yX6_tellNumber cX6_tellNumber 2 none 7 ([vI n, .ref b]) h (sbK (txA (txA t (48 + n / 10)) (48 + n % 10)).1 - sbK t.1) (sbS (txA (txA t (48 + n / 10)) (48 + n % 10)).1 - sbS t.1) (fun r9 h9 => r9 = none ∧ SP G h h9 b v (txA (txA t (48 + n / 10)) (48 + n % 10)).1 (txA (txA t (48 + n / 10)) (48 + n % 10)).2) zNo := by
  refine CT.intro htr (by decide) rfl (Nat.le_of_ble_eq_true rfl) ?_
  intro X hln hG hR hN C E
  subst hln
  subst hG
  have hl1 := l_mono (show t.1 ≤ t.1 + 1 by omega)
  have hl2 := l_mono (show t.1 + 1 ≤ t.1 + 1 + 1 by omega)
  have e1 : (txA (txA t (48 + n / 10)) (48 + n % 10)).1 = t.1 + 1 + 1 := rfl
  have k1 : sbK (txA (txA t (48 + n / 10)) (48 + n % 10)).1 = sbK (t.1 + 1 + 1) := rfl
  have k2 : sbS (txA (txA t (48 + n / 10)) (48 + n % 10)).1 = sbS (t.1 + 1 + 1) := rfl
  refine Z.iload_n C dX6_tellNumber_0 rfl ?_
  refine Z.bipush C dX6_tellNumber_1 (by decide) ?_
  refine Z.icmp_lt (tgt := 19) C dX6_tellNumber_3 (by decide) (by omega) (by omega) (by omega) (by omega) (fun c3 => ?_) (fun c3 => ?_)
  · exfalso; omega
  · refine Z.aload_n C dX6_tellNumber_6 rfl ?_
    refine Z.bipush C dX6_tellNumber_7 (by decide) ?_
    refine Z.iload_n C dX6_tellNumber_9 rfl ?_
    refine Z.bipush C dX6_tellNumber_10 (by decide) ?_
    refine Z.idiv (z := (n / 10)) C dX6_tellNumber_12 (by decide) (jI_div10 (by omega) (by omega) 10 (by decide) (by decide)) ?_
    refine Z.iadd C dX6_tellNumber_13 ?_
    refine Z.i2c C dX6_tellNumber_14 (by omega) (by omega) ?_
    refine v_X6_340 C rfl dX6_tellNumber_15 (hs.2.choose_spec.1) (c_app htr hs (by omega) (by omega)) (by decide) (Nat.le_of_ble_eq_true rfl) (by rw [hR]; show _ ≤ sbK (txA (txA t (48 + n / 10)) (48 + n % 10)).1 - sbK t.1; omega) (by rw [hR]; show _ ≤ sbS (txA (txA t (48 + n / 10)) (48 + n % 10)).1 - sbS t.1; omega) (fun w15 h15 q15 => ?_) (fun _ _ q => q.elim)
    obtain ⟨rfl, v1, hs1, hv1, hk1⟩ := q15
    refine Z.pop C dX6_tellNumber_18 rfl ?_
    refine Z.aload_n C dX6_tellNumber_19 rfl ?_
    refine Z.bipush C dX6_tellNumber_20 (by decide) ?_
    refine Z.iload_n C dX6_tellNumber_22 rfl ?_
    refine Z.bipush C dX6_tellNumber_23 (by decide) ?_
    refine Z.irem (z := (n % 10)) C dX6_tellNumber_25 (by decide) (jI_rem10 (by omega) (by omega) 10 (by decide) (by decide)) ?_
    refine Z.iadd C dX6_tellNumber_26 ?_
    refine Z.i2c C dX6_tellNumber_27 (by omega) (by omega) ?_
    refine v_X6_340 C rfl dX6_tellNumber_28 (hs1.2.choose_spec.1) (c_app htr hs1 (by omega) (by omega)) (by decide) (Nat.le_of_ble_eq_true rfl) (by rw [hR]; show _ ≤ sbK (txA (txA t (48 + n / 10)) (48 + n % 10)).1 - sbK t.1; omega) (by rw [hR]; show _ ≤ sbS (txA (txA t (48 + n / 10)) (48 + n % 10)).1 - sbS t.1; omega) (fun w28 h28 q28 => ?_) (fun _ _ q => q.elim)
    obtain ⟨rfl, P1⟩ := q28
    have P2 := SP.tr hs1 hv1 hk1 P1
    refine Z.pop C dX6_tellNumber_31 rfl ?_
    exact Z.vret C E dX6_tellNumber_32 (by show _ ≤ sbK (txA (txA t (48 + n / 10)) (48 + n % 10)).1 - sbK t.1; omega) (by show _ ≤ sbS (txA (txA t (48 + n / 10)) (48 + n % 10)).1 - sbS t.1; omega) ⟨rfl, P2⟩

theorem c_X6_tellNumber {ln : Launch} (htr : ln.stackTraces = false) {G : zG} {h : zH} {b v : Nat} {t : tX} (hs : SB G h b v t.1 t.2) {n : Int} (h1 : 0 ≤ n ∧ n < 100) (hc : t.1 ≤ 990) : CT ln G yX6_tellNumber cX6_tellNumber 2 none 7 [vI n, .ref b] h (sbK (txN t n).1 - sbK t.1) (sbS (txN t n).1 - sbS t.1) (fun r9 h9 => r9 = none ∧ SP G h h9 b v (txN t n).1 (txN t n).2) zNo := by
  by_cases c : 10 ≤ n
  · rw [show txN t n = txA (txA t (48 + n / 10)) (48 + n % 10) from if_pos c]
    exact c_X6_tellNumber_hi htr hs ⟨c, h1.2⟩ hc
  · rw [show txN t n = txA t (48 + n % 10) from if_neg c]
    exact c_X6_tellNumber_lo htr hs ⟨h1.1, by omega⟩ hc

theorem txF_le (T : Nat → Nat → Int) (m : Nat) (t : tX) {i n : Nat} (h : i ≤ n) : (txF T m t i).1 ≤ (txF T m t n).1 := by
  obtain ⟨k, rfl⟩ : ∃ k, n = i + k := ⟨n - i, by omega⟩
  clear h
  induction k with
  | zero => exact Nat.le_refl _
  | succ k ih =>
    have h2 := txN_b (txA (txF T m t (i + k)) 44) (T 11 (i + k))
    have h3 : (txA (txF T m t (i + k)) 44).1 = (txF T m t (i + k)).1 + 1 := rfl
    rw [← Nat.add_assoc, txF]
    split <;> omega

set_option maxRecDepth 100000 in
theorem c_X6_tellMember_ok {ln : Launch} (htr : ln.stackTraces = false) {G : zG} {h : zH} {ad : Nat → Nat → Nat} {el : Nat → Nat} {T : Nat → Nat → Int} (R : CR G ad el T h) (I : TB T) {b v : Nat} {t : tX} (hs : SB G h b v t.1 t.2) {m : Nat} (hm : m < cN T 0) (hob : ¬ cOwn ad el T b) (hov : ¬ cOwn ad el T v) (hc : t.1 ≤ 900) : CT ln G yX6_tellMember cX6_tellMember 4 none 8 ([.ref (ad 0 0), .ref (ad 1 m), .ref b]) h (sbK (txM T m t).1 - sbK t.1) (sbS (txM T m t).1 - sbS t.1) (fun r9 h9 => r9 = none ∧ SP G h h9 b v (txM T m t).1 (txM T m t).2) zNo := by
  refine CT.intro htr (by decide) rfl (Nat.le_of_ble_eq_true rfl) ?_
  intro X hln hG hR hN C E
  subst hln
  subst hG
  have hn9 := I.n
  have hb0 := txN_b t (m : Int)
  have hbM := txM_b T m t I.n1
  have hbF0 := txF_b T m (txN t (m : Int)) (cN T 1)
  have e90 : (txM T m t).1 = (txF T m (txN t (m : Int)) (cN T 1)).1 + 1 := rfl
  have hmo0 := l_mono (show (txN t (m : Int)).1 ≤ (txM T m t).1 by omega)
  have hmo00 := l_mono (show t.1 ≤ (txN t (m : Int)).1 by omega)
  refine Z.aload_n C dX6_tellMember_0 rfl ?_
  refine g_X6_262  C rfl dX6_tellMember_1 (R.mem hm) rfl ?_
  refine Z.aload_n C dX6_tellMember_4 rfl ?_
  refine s_X6_336 C rfl dX6_tellMember_5 (c_X6_tellNumber htr hs (n := (m : Int)) (by omega) (by omega)) (by decide) (Nat.le_of_ble_eq_true rfl) (by rw [hR]; show _ ≤ sbK (txM T m t).1 - sbK t.1; omega) (by rw [hR]; show _ ≤ sbS (txM T m t).1 - sbS t.1; omega) (fun w5 h5 q5 => ?_) (fun _ _ q => q.elim)
  obtain ⟨rfl, P1⟩ := q5
  refine Z.iconst C dX6_tellMember_8 ?_
  refine Z.istore_n (l' := [_, _, _, _]) C dX6_tellMember_9 (Nat.le_of_ble_eq_true rfl) (by rw [hN]; decide) rfl ?_
  have L : ∀ (q i : Nat) (tt : tX) (hh : zH), i + q = cN T 1 → tt = txF T m (txN t (m : Int)) i → SP (zG_of X) h hh b v tt.1 tt.2 → Z X 10 [.ref (ad 0 0), .ref (ad 1 m), .ref b, vI (i : Int)] [] hh (sbK tt.1 - sbK t.1) (sbS tt.1 - sbS t.1) := by
    intro q
    induction q with
    | zero =>
      intro i tt hh hi htt P
      have hR := hR
      have R1 := SP.cr R hob hov P
      have hb1 := txF_b T m (txN t (m : Int)) i
      rw [← htt] at hb1
      obtain ⟨v1, hs1, hv1, hk1⟩ := id P
      have hfin : ∀ t2 : tX, t2 = txF T m (txN t (m : Int)) (cN T 1) → (txM T m t).1 = t2.1 + 1 := fun t2 e => by rw [e]; rfl
      have hbF := txF_b T m (txN t (m : Int)) (cN T 1)
      have e9 : (txM T m t).1 = (txF T m (txN t (m : Int)) (cN T 1)).1 + 1 := rfl
      have hle := txF_le T m (txN t (m : Int)) (show i ≤ cN T 1 by omega)
      rw [← htt] at hle
      have hmo5 := l_mono (show tt.1 ≤ (txM T m t).1 by omega)
      have hmo1 := l_mono (show t.1 ≤ tt.1 by omega)
      have hmo2 := l_mono (show tt.1 ≤ tt.1 + 1 by omega)
      refine Z.iload_n C dX6_tellMember_10 rfl ?_
      refine Z.aload_n C dX6_tellMember_11 rfl ?_
      refine g_X6_16  C rfl dX6_tellMember_12 (R1.club) rfl ?_
      refine v_X6_41 C rfl dX6_tellMember_15 (R1.lFo.choose_spec) (c_size htr R1.lF) (by decide) (Nat.le_of_ble_eq_true rfl) (by rw [hR]; show _ ≤ sbK (txM T m t).1 - sbK t.1; omega) (by rw [hR]; show _ ≤ sbS (txM T m t).1 - sbS t.1; omega) (fun w15 h15 q15 => ?_) (fun _ _ q => q.elim)
      obtain ⟨rfl, q15⟩ := q15
      replace q15 := q15.symm
      subst q15
      refine Z.icmp_ge (tgt := 60) C dX6_tellMember_18 (by decide) (by omega) (by omega) (by omega) (by omega) (fun c18 => ?_) (fun c18 => ?_)
      · refine Z.aload_n C dX6_tellMember_60 rfl ?_
        refine Z.bipush C dX6_tellMember_61 (by decide) ?_
        have hie : i = cN T 1 := by omega
        have e6 : (txM T m t).1 = tt.1 + 1 := hfin tt (by rw [htt, hie])
        have e5 : txM T m t = txA tt 59 := by unfold txM; rw [htt, hie]
        have k6 : sbK (txM T m t).1 = sbK (tt.1 + 1) := by rw [e6]
        have k9 : sbS (txM T m t).1 = sbS (tt.1 + 1) := by rw [e6]
        refine v_X6_340 C rfl dX6_tellMember_63 (hs1.2.choose_spec.1) (c_app htr hs1 (x := 59) (by omega) (by decide)) (by decide) (Nat.le_of_ble_eq_true rfl) (by rw [hR]; show _ ≤ sbK (txM T m t).1 - sbK t.1; omega) (by rw [hR]; show _ ≤ sbS (txM T m t).1 - sbS t.1; omega) (fun w63 h63 q63 => ?_) (fun _ _ q => q.elim)
        obtain ⟨rfl, P2⟩ := q63
        have P3 : SP (zG_of X) h h63 b v (txA tt 59).1 (txA tt 59).2 := SP.tr hs1 hv1 hk1 P2
        refine Z.pop C dX6_tellMember_66 rfl ?_
        exact Z.vret C E dX6_tellMember_67 (by show _ ≤ sbK (txM T m t).1 - sbK t.1; omega) (by show _ ≤ sbS (txM T m t).1 - sbS t.1; omega) ⟨rfl, by rw [e5]; exact P3⟩
      · exfalso; omega
    | succ q ih =>
      intro i tt hh hi htt P
      have hR := hR
      have R1 := SP.cr R hob hov P
      have hb1 := txF_b T m (txN t (m : Int)) i
      rw [← htt] at hb1
      obtain ⟨v1, hs1, hv1, hk1⟩ := id P
      have hfin : ∀ t2 : tX, t2 = txF T m (txN t (m : Int)) (cN T 1) → (txM T m t).1 = t2.1 + 1 := fun t2 e => by rw [e]; rfl
      have hbF := txF_b T m (txN t (m : Int)) (cN T 1)
      have e9 : (txM T m t).1 = (txF T m (txN t (m : Int)) (cN T 1)).1 + 1 := rfl
      have hle := txF_le T m (txN t (m : Int)) (show i ≤ cN T 1 by omega)
      rw [← htt] at hle
      have hmo5 := l_mono (show tt.1 ≤ (txM T m t).1 by omega)
      have hmo1 := l_mono (show t.1 ≤ tt.1 by omega)
      have hmo2 := l_mono (show tt.1 ≤ tt.1 + 1 by omega)
      refine Z.iload_n C dX6_tellMember_10 rfl ?_
      refine Z.aload_n C dX6_tellMember_11 rfl ?_
      refine g_X6_16  C rfl dX6_tellMember_12 (R1.club) rfl ?_
      refine v_X6_41 C rfl dX6_tellMember_15 (R1.lFo.choose_spec) (c_size htr R1.lF) (by decide) (Nat.le_of_ble_eq_true rfl) (by rw [hR]; show _ ≤ sbK (txM T m t).1 - sbK t.1; omega) (by rw [hR]; show _ ≤ sbS (txM T m t).1 - sbS t.1; omega) (fun w15 h15 q15 => ?_) (fun _ _ q => q.elim)
      obtain ⟨rfl, q15⟩ := q15
      replace q15 := q15.symm
      subst q15
      refine Z.icmp_ge (tgt := 60) C dX6_tellMember_18 (by decide) (by omega) (by omega) (by omega) (by omega) (fun c18 => ?_) (fun c18 => ?_)
      · exfalso; omega
      · refine Z.aload_n C dX6_tellMember_21 rfl ?_
        refine Z.iload_n C dX6_tellMember_22 rfl ?_
        have h13 : 0 ≤ T 13 (20 * m + i) ∧ T 13 (20 * m + i) ≤ 1 := I.1 13 (20 * m + i) (by decide) (by decide) (by decide)
        have hstep := txF_le T m (txN t (m : Int)) (show i + 1 ≤ cN T 1 by omega)
        refine v_X6_209 C rfl dX6_tellMember_23 (R1.mem hm) (c_X3_holds htr (R1.mem hm) (R1.held hm) (i := i) (by omega) (by rw [row_at _ _ _ _ (by omega)]; omega)) (by decide) (Nat.le_of_ble_eq_true rfl) (by rw [hR]; show _ ≤ sbK (txM T m t).1 - sbK t.1; omega) (by rw [hR]; show _ ≤ sbS (txM T m t).1 - sbS t.1; omega) (fun w23 h23 q23 => ?_) (fun _ _ q => q.elim)
        obtain ⟨rfl, q23⟩ := q23
        replace q23 := q23.symm
        subst q23
        rw [row_at _ _ _ _ (by omega)]
        refine Z.if_eq (tgt := 54) C dX6_tellMember_26 (by decide) (by omega) (by omega) (fun c26 => ?_) (fun c26 => ?_)
        · refine Z.iinc (l' := [_, _, _, _]) C dX6_tellMember_54 rfl (Nat.le_of_ble_eq_true rfl) (by rw [hN]; decide) rfl ?_
          refine Z.goto (tgt := 10) C dX6_tellMember_57 (by decide) ?_
          refine Z.widen (k' := sbK tt.1 - sbK t.1) (n' := sbS tt.1 - sbS t.1) (by omega) (by omega) ?_
          exact ih (i + 1) tt _ (by omega) (by rw [txF, if_pos (by omega)]; exact htt) P
        · have e8 : txF T m (txN t (m : Int)) (i + 1) = txN (txA tt 44) (T 11 i) := by rw [txF, if_neg (by omega), ← htt]
          have h11 : 0 ≤ T 11 i ∧ T 11 i ≤ 20 := I.1 11 i (by decide) (by decide) (by decide)
          have hb2 := txN_b (txA tt 44) (T 11 i)
          have e7 : (txA tt 44).1 = tt.1 + 1 := rfl
          have hmo3 := l_mono (show (txA tt 44).1 ≤ (txN (txA tt 44) (T 11 i)).1 by omega)
          rw [e8] at hstep
          have hmo4 := l_mono (show (txN (txA tt 44) (T 11 i)).1 ≤ (txM T m t).1 by omega)
          rw [e7] at hmo3
          have k7 : sbK (txA tt 44).1 = sbK (tt.1 + 1) := rfl
          have k8 : sbS (txA tt 44).1 = sbS (tt.1 + 1) := rfl
          refine Z.aload_n C dX6_tellMember_29 rfl ?_
          refine Z.bipush C dX6_tellMember_30 (by decide) ?_
          refine v_X6_340 C rfl dX6_tellMember_32 (hs1.2.choose_spec.1) (c_app htr hs1 (x := 44) (by omega) (by decide)) (by decide) (Nat.le_of_ble_eq_true rfl) (by rw [hR]; show _ ≤ sbK (txM T m t).1 - sbK t.1; omega) (by rw [hR]; show _ ≤ sbS (txM T m t).1 - sbS t.1; omega) (fun w32 h32 q32 => ?_) (fun _ _ q => q.elim)
          obtain ⟨rfl, P2⟩ := q32
          have P3 : SP (zG_of X) h h32 b v (txA tt 44).1 (txA tt 44).2 := SP.tr hs1 hv1 hk1 P2
          have R2 := SP.cr R hob hov P3
          obtain ⟨v2, hs2, hv2, hk2⟩ := id P3
          refine Z.pop C dX6_tellMember_35 rfl ?_
          refine Z.aload_n C dX6_tellMember_36 rfl ?_
          refine g_X6_16  C rfl dX6_tellMember_37 (R2.club) rfl ?_
          refine Z.iload_n C dX6_tellMember_40 rfl ?_
          refine v_X6_84 C rfl dX6_tellMember_41 (R2.lFo.choose_spec) (c_getN htr R2.lF (i := i) (by omega)) (by decide) (Nat.le_of_ble_eq_true rfl) (by rw [hR]; show _ ≤ sbK (txM T m t).1 - sbK t.1; omega) (by rw [hR]; show _ ≤ sbS (txM T m t).1 - sbS t.1; omega) (fun w41 h41 q41 => ?_) (fun _ _ q => q.elim)
          obtain ⟨rfl, q41⟩ := q41
          replace q41 := q41.symm
          subst q41
          refine k_X6_113 C rfl dX6_tellMember_44 (R2.fil (i := i) (by omega)) ?_
          refine g_X6_124  C rfl dX6_tellMember_47 (R2.fil (i := i) (by omega)) rfl ?_
          refine Z.aload_n C dX6_tellMember_50 rfl ?_
          refine s_X6_336 C rfl dX6_tellMember_51 (c_X6_tellNumber htr hs2 (n := T 11 i) (by omega) (by omega)) (by decide) (Nat.le_of_ble_eq_true rfl) (by rw [hR]; show _ ≤ sbK (txM T m t).1 - sbK t.1; omega) (by rw [hR]; show _ ≤ sbS (txM T m t).1 - sbS t.1; omega) (fun w51 h51 q51 => ?_) (fun _ _ q => q.elim)
          obtain ⟨rfl, P4⟩ := q51
          have P5 := SP.tr hs2 hv2 hk2 P4
          refine Z.widen (k' := sbK (txN (txA tt 44) (T 11 i)).1 - sbK t.1) (n' := sbS (txN (txA tt 44) (T 11 i)).1 - sbS t.1) (by rw [e7]; omega) (by rw [e7]; omega) ?_
          refine Z.iinc (l' := [_, _, _, _]) C dX6_tellMember_54 rfl (Nat.le_of_ble_eq_true rfl) (by rw [hN]; decide) rfl ?_
          refine Z.goto (tgt := 10) C dX6_tellMember_57 (by decide) ?_
          exact ih (i + 1) _ _ (by omega) e8.symm P5
  refine Z.widen (k' := sbK (txN t (m : Int)).1 - sbK t.1) (n' := sbS (txN t (m : Int)).1 - sbS t.1) (by omega) (by omega) ?_
  exact L _ 0 _ _ (Nat.zero_add _) rfl P1

set_option maxRecDepth 100000 in
theorem c_X6_told_ok {ln : Launch} (htr : ln.stackTraces = false) {G : zG} {h : zH} {ad : Nat → Nat → Nat} {el : Nat → Nat} {T : Nat → Nat → Int} (R : CR G ad el T h) (I : TB T) {w : Int} (hw : 0 ≤ w ∧ w < 2147483648) : CT ln G yX6_told cX6_told 4 (some .char) 9 ([.ref (ad 0 0), vI w]) h 8 2276 (fun r9 h9 => r9 = some (vI (ctold T w)) ∧ CK G (ad 0 0) T h9) zNo := by
  refine CT.intro htr (by decide) rfl (Nat.le_of_ble_eq_true rfl) ?_
  intro X hln hG hR hN C E
  subst hln
  subst hG
  have hn9 := I.n
  refine Z.iload_n C dX6_told_0 rfl ?_
  refine Z.if_ge (tgt := 14) C dX6_told_1 (by decide) (by omega) (by omega) (fun c1 => ?_) (fun c1 => ?_)
  · refine n_X6_230 C rfl dX6_told_14 (by rw [hR]; exact Nat.le_of_ble_eq_true rfl) (by rw [hR]; exact Nat.le_of_ble_eq_true rfl) (fun b na => ?_)
    have hob := R.new na
    have Rn := R.out hob (eO 0 [.null, vI 0, vI 0, vI 0])
    refine Z.dup C dX6_told_17 rfl ?_
    refine i_X6_232 C rfl dX6_told_18 (c_sbnew htr (zput_same _ _ _)) (by decide) (Nat.le_of_ble_eq_true rfl) (by rw [hR]; exact Nat.le_of_ble_eq_true rfl) (by rw [hR]; exact Nat.le_of_ble_eq_true rfl) (fun w18 h18 q18 => ?_)
    obtain ⟨rfl, v, nv, hs0, hk0⟩ := q18
    have hov := Rn.new nv
    have R0 : CR (zG_of X) ad el T h18 := Rn.keep (fun q hq => hk0 q (fun z => hob (by rw [← z]; exact hq)) (Rn.own hq))
    have P0 : SP (zG_of X) h18 h18 b v (txT T w 0).1 (txT T w 0).2 := ⟨v, hs0, Or.inr rfl, fun _ _ _ _ => rfl⟩
    refine Z.astore_n (l' := [_, _, _]) C dX6_told_21 (Nat.le_of_ble_eq_true rfl) (by rw [hN]; decide) rfl ?_
    have J82 : ∀ (tt : tX) (hh : zH), txT T w (cN T 0) = tt → SP (zG_of X) h18 hh b v tt.1 tt.2 → Z X 82 [.ref (ad 0 0), vI w, .ref b] [] hh 8 2276 := by
      intro tt hh hfin P
      have hR := hR
      have R1 := SP.cr R0 hob hov P
      obtain ⟨v1, hs1, hv1, hk1⟩ := id P
      have hlen := txT_b T w I.n1 (cN T 0)
      rw [hfin] at hlen
      refine Z.iload_n C dX6_told_82 rfl ?_
      refine Z.aload_n C dX6_told_83 rfl ?_
      refine v_X6_233 C rfl dX6_told_84 (hs1.2.choose_spec.1) (c_len htr hs1) (by decide) (Nat.le_of_ble_eq_true rfl) (by rw [hR]; show _ ≤ 8; omega) (by rw [hR]; show _ ≤ 2276; omega) (fun w84 h84 q84 => ?_) (fun _ _ q => q.elim)
      obtain ⟨rfl, q84⟩ := q84
      replace q84 := q84.symm
      subst q84
      refine Z.icmp_ge (tgt := 98) C dX6_told_87 (by decide) (by omega) (by omega) (by omega) (by omega) (fun c87 => ?_) (fun c87 => ?_)
      · refine Z.iconst C dX6_told_98 ?_
        exact Z.zret C E dX6_told_99 (by first | exact (vI_narrowB hch).2.2 | decide) (by decide) (by decide) ⟨by unfold ctold; rw [hfin]; first | (rw [if_pos (by omega)]; done) | (rw [if_neg (by omega)]; done), ad, el, rfl, R1⟩
      · refine Z.aload_n C dX6_told_90 rfl ?_
        refine Z.iload_n C dX6_told_91 rfl ?_
        refine v_X6_240 C rfl dX6_told_92 (hs1.2.choose_spec.1) (c_charAt htr hs1 (i := w) (by omega) (by omega)) (by decide) (Nat.le_of_ble_eq_true rfl) (by rw [hR]; show _ ≤ 8; omega) (by rw [hR]; show _ ≤ 2276; omega) (fun w92 h92 q92 => ?_) (fun _ _ q => q.elim)
        obtain ⟨rfl, q92⟩ := q92
        replace q92 := q92.symm
        subst q92
        have hch : 0 ≤ tt.2 w.toNat ∧ tt.2 w.toNat < 128 := by
          obtain ⟨-, f, -, -, hf, hg⟩ := hs1
          rw [← hg w.toNat (by omega)]
          exact hf _
        refine Z.goto (tgt := 99) C dX6_told_95 (by decide) ?_
        exact Z.zret C E dX6_told_99 (by first | exact (vI_narrowB hch).2.2 | decide) (by decide) (by decide) ⟨by unfold ctold; rw [hfin]; first | (rw [if_pos (by omega)]; done) | (rw [if_neg (by omega)]; done), ad, el, rfl, R1⟩
    refine Z.iconst C dX6_told_22 ?_
    refine Z.istore_n (l' := [_, _, _, _]) C dX6_told_23 (Nat.le_of_ble_eq_true rfl) (by rw [hN]; decide) rfl ?_
    have L : ∀ (q i : Nat) (tt : tX) (hh : zH), i + q = cN T 0 → tt = txT T w i → SP (zG_of X) h18 hh b v tt.1 tt.2 → Z X 24 [.ref (ad 0 0), vI w, .ref b, vI (i : Int)] [] hh (2 + sbK tt.1) (20 + sbS tt.1) := by
      intro q
      induction q with
      | zero =>
        intro i tt hh hi htt P
        have hR := hR
        have R1 := SP.cr R0 hob hov P
        have hb1 := txT_b T w I.n1 i
        rw [← htt] at hb1
        obtain ⟨v1, hs1, hv1, hk1⟩ := id P
        have htop := l_top tt.1
        have hstop : w < (tt.1 : Int) → txT T w (cN T 0) = tt := fun z => by
          rw [htt] at z ⊢
          have := txT_stop T w z (cN T 0 - i)
          rw [show i + (cN T 0 - i) = cN T 0 by omega] at this
          exact this
        refine Z.iload_n C dX6_told_24 rfl ?_
        refine Z.aload_n C dX6_told_25 rfl ?_
        refine g_X6_10  C rfl dX6_told_26 (R1.club) rfl ?_
        refine v_X6_41 C rfl dX6_told_29 (R1.lMo.choose_spec) (c_size htr R1.lM) (by decide) (Nat.le_of_ble_eq_true rfl) (by rw [hR]; show _ ≤ 8; omega) (by rw [hR]; show _ ≤ 2276; omega) (fun w29 h29 q29 => ?_) (fun _ _ q => q.elim)
        obtain ⟨rfl, q29⟩ := q29
        replace q29 := q29.symm
        subst q29
        refine Z.icmp_ge (tgt := 82) C dX6_told_32 (by decide) (by omega) (by omega) (by omega) (by omega) (fun c32 => ?_) (fun c32 => ?_)
        · have hie : i = cN T 0 := by omega
          refine Z.widen (k' := 8) (n' := 2276) (by omega) (by omega) ?_
          refine Z.pre (l' := [_, _, _]) 3 rfl ?_
          exact J82 tt _ (by first | (rw [← hie]; exact htt.symm) | exact hstop (by omega)) P
        · exfalso; omega
      | succ q ih =>
        intro i tt hh hi htt P
        have hR := hR
        have R1 := SP.cr R0 hob hov P
        have hb1 := txT_b T w I.n1 i
        rw [← htt] at hb1
        obtain ⟨v1, hs1, hv1, hk1⟩ := id P
        have htop := l_top tt.1
        have hstop : w < (tt.1 : Int) → txT T w (cN T 0) = tt := fun z => by
          rw [htt] at z ⊢
          have := txT_stop T w z (cN T 0 - i)
          rw [show i + (cN T 0 - i) = cN T 0 by omega] at this
          exact this
        refine Z.iload_n C dX6_told_24 rfl ?_
        refine Z.aload_n C dX6_told_25 rfl ?_
        refine g_X6_10  C rfl dX6_told_26 (R1.club) rfl ?_
        refine v_X6_41 C rfl dX6_told_29 (R1.lMo.choose_spec) (c_size htr R1.lM) (by decide) (Nat.le_of_ble_eq_true rfl) (by rw [hR]; show _ ≤ 8; omega) (by rw [hR]; show _ ≤ 2276; omega) (fun w29 h29 q29 => ?_) (fun _ _ q => q.elim)
        obtain ⟨rfl, q29⟩ := q29
        replace q29 := q29.symm
        subst q29
        refine Z.icmp_ge (tgt := 82) C dX6_told_32 (by decide) (by omega) (by omega) (by omega) (by omega) (fun c32 => ?_) (fun c32 => ?_)
        · exfalso; omega
        · refine Z.aload_n C dX6_told_35 rfl ?_
          refine v_X6_233 C rfl dX6_told_36 (hs1.2.choose_spec.1) (c_len htr hs1) (by decide) (Nat.le_of_ble_eq_true rfl) (by rw [hR]; show _ ≤ 8; omega) (by rw [hR]; show _ ≤ 2276; omega) (fun w36 h36 q36 => ?_) (fun _ _ q => q.elim)
          obtain ⟨rfl, q36⟩ := q36
          replace q36 := q36.symm
          subst q36
          refine Z.iload_n C dX6_told_39 rfl ?_
          refine Z.icmp_gt (tgt := 82) C dX6_told_40 (by decide) (by omega) (by omega) (by omega) (by omega) (fun c40 => ?_) (fun c40 => ?_)
          · refine Z.widen (k' := 8) (n' := 2276) (by omega) (by omega) ?_
            refine Z.pre (l' := [_, _, _]) 3 rfl ?_
            exact J82 tt _ (by first | (rw [← hie]; exact htt.symm) | exact hstop (by omega)) P
          · refine Z.aload_n C dX6_told_43 rfl ?_
            refine g_X6_10  C rfl dX6_told_44 (R1.club) rfl ?_
            refine Z.iload_n C dX6_told_47 rfl ?_
            refine v_X6_84 C rfl dX6_told_48 (R1.lMo.choose_spec) (c_getN htr R1.lM (i := i) (by omega)) (by decide) (Nat.le_of_ble_eq_true rfl) (by rw [hR]; show _ ≤ 8; omega) (by rw [hR]; show _ ≤ 2276; omega) (fun w48 h48 q48 => ?_) (fun _ _ q => q.elim)
            obtain ⟨rfl, q48⟩ := q48
            replace q48 := q48.symm
            subst q48
            refine k_X6_50 C rfl dX6_told_51 (R1.mem (i := i) (by omega)) ?_
            have hov1 : ¬ cOwn ad el T v1 := fun z => by
              rcases hv1 with y | y
              · exact R0.own z y
              · exact hov (by rw [← y]; exact z)
            have h3i : 0 ≤ T 3 i ∧ T 3 i ≤ 1 := I.1 3 i (by decide) (by decide) (by decide)
            refine g_X6_198  C rfl dX6_told_54 (R1.mem (i := i) (by omega)) rfl ?_
            refine Z.if_eq (tgt := 76) C dX6_told_57 (by decide) (by omega) (by omega) (fun c57 => ?_) (fun c57 => ?_)
            · refine Z.iinc (l' := [_, _, _, _]) C dX6_told_76 rfl (Nat.le_of_ble_eq_true rfl) (by rw [hN]; decide) rfl ?_
              refine Z.goto (tgt := 24) C dX6_told_79 (by decide) ?_
              refine Z.widen (k' := 2 + sbK tt.1) (n' := 20 + sbS tt.1) (by omega) (by omega) ?_
              exact ih (i + 1) tt _ (by omega) (by rw [txT, if_neg (fun z => z.2 c57)]; exact htt) P
            · have e8 : txT T w (i + 1) = txM T i tt := by rw [txT, ← htt, if_pos ⟨by omega, c57⟩]
              have hbm := txM_b T i tt I.n1
              have hmo := l_mono hbm.1
              have htop2 := l_top (txM T i tt).1
              refine Z.aload_n C dX6_told_60 rfl ?_
              refine Z.aload_n C dX6_told_61 rfl ?_
              refine g_X6_10  C rfl dX6_told_62 (R1.club) rfl ?_
              refine Z.iload_n C dX6_told_65 rfl ?_
              refine v_X6_84 C rfl dX6_told_66 (R1.lMo.choose_spec) (c_getN htr R1.lM (i := i) (by omega)) (by decide) (Nat.le_of_ble_eq_true rfl) (by rw [hR]; show _ ≤ 8; omega) (by rw [hR]; show _ ≤ 2276; omega) (fun w66 h66 q66 => ?_) (fun _ _ q => q.elim)
              obtain ⟨rfl, q66⟩ := q66
              replace q66 := q66.symm
              subst q66
              refine k_X6_50 C rfl dX6_told_69 (R1.mem (i := i) (by omega)) ?_
              refine Z.aload_n C dX6_told_72 rfl ?_
              refine v_X6_236 C rfl dX6_told_73 (R1.club) (c_X6_tellMember_ok htr R1 I hs1 (m := i) (by omega) hob hov1 (by omega)) (by decide) (Nat.le_of_ble_eq_true rfl) (by rw [hR]; show _ ≤ 8; omega) (by rw [hR]; show _ ≤ 2276; omega) (fun w73 h73 q73 => ?_) (fun _ _ q => q.elim)
              obtain ⟨rfl, P2⟩ := q73
              have P3 := SP.tr hs1 hv1 hk1 P2
              refine Z.widen (k' := 2 + sbK (txM T i tt).1) (n' := 20 + sbS (txM T i tt).1) (by omega) (by omega) ?_
              refine Z.iinc (l' := [_, _, _, _]) C dX6_told_76 rfl (Nat.le_of_ble_eq_true rfl) (by rw [hN]; decide) rfl ?_
              refine Z.goto (tgt := 24) C dX6_told_79 (by decide) ?_
              exact ih (i + 1) _ _ (by omega) e8.symm P3
    refine Z.widen (k' := 2 + sbK (txT T w 0).1) (n' := 20 + sbS (txT T w 0).1) (Nat.le_of_ble_eq_true rfl) (Nat.le_of_ble_eq_true rfl) ?_
    exact L _ 0 _ _ (Nat.zero_add _) rfl P0
  · exfalso; omega

set_option maxRecDepth 100000 in
theorem c_X6_told_x1 {ln : Launch} (htr : ln.stackTraces = false) {G : zG} {h : zH} {ad : Nat → Nat → Nat} {el : Nat → Nat} {T : Nat → Nat → Int} (R : CR G ad el T h) (I : TB T) {w : Int} (hr : -2147483648 ≤ w ∧ w < 2147483648) (h1 : w < 0) : CT ln G yX6_told cX6_told 4 (some .char) 9 ([.ref (ad 0 0), vI w]) h 8 2276 (fun _ _ => False) (fun E9 h9 => E9 = "java/lang/IndexOutOfBoundsException" ∧ h9 = h) := by
  refine CT.intro htr (by decide) rfl (Nat.le_of_ble_eq_true rfl) ?_
  intro X hln hG hR hN C E
  subst hln
  subst hG
  have hn9 := I.n
  refine Z.iload_n C dX6_told_0 rfl ?_
  refine Z.if_ge (tgt := 14) C dX6_told_1 (by decide) (by omega) (by omega) (fun c1 => ?_) (fun c1 => ?_)
  · exfalso; omega
  · exact Z.xIOO C E rfl (by decide +kernel : (RX6, 227, "at is below 0") ∈ zTexts) dX6_told_4 dX6_told_7 dX6_told_8 dX6_told_10 dX6_told_13 (by decide) (Nat.le_of_ble_eq_true rfl) (by decide) (by decide) (by rw [hR]; exact Nat.le_of_ble_eq_true rfl) (by rw [hR]; exact Nat.le_of_ble_eq_true rfl) ⟨rfl, rfl⟩

