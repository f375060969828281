/-! one call of the script, method by method -/
def OPC_join (ln : Launch) (G : zG) (JJ : JT) (b : Nat) : Prop := ∀ (T S : Nat → Nat → Int) (hC : zH) (p0 p1 : Int), JJ T S → CK G b T hC → (-2147483648 ≤ p0 ∧ p0 < 2147483648) → (-2147483648 ≤ p1 ∧ p1 < 2147483648) → CT ln G yX6_join cX6_join 4 (some .int) 9 [.ref b, vI p0, vI p1] hC 5 521 (fun r9 h9 => ∃ v, r9 = some (vI v) ∧ QKf JJ G b (cJoin S p0 p1) (S 2 0) (sJoin S p0 p1) v h9) (fun E9 h9 => (E9 = "java/lang/IllegalArgumentException" ∧ QXf G b (cJoin S p0 p1) T 1 h9) ∨ (E9 = "java/lang/IllegalStateException" ∧ QXf G b (cJoin S p0 p1) T 2 h9))
def OPC_leave (ln : Launch) (G : zG) (JJ : JT) (b : Nat) : Prop := ∀ (T S : Nat → Nat → Int) (hC : zH) (p0 : Int), JJ T S → CK G b T hC → (-2147483648 ≤ p0 ∧ p0 < 2147483648) → CT ln G yX6_leave cX6_leave 6 (some .int) 10 [.ref b, vI p0] hC 3 502 (fun r9 h9 => ∃ v, r9 = some (vI v) ∧ QKf JJ G b (cLeave S p0) (sLeave S p0.toNat 7 p0.toNat) (sLeave S p0.toNat) v h9) (fun E9 h9 => (E9 = "java/lang/IndexOutOfBoundsException" ∧ QXf G b (cLeave S p0) T 1 h9) ∨ (E9 = "java/lang/IllegalStateException" ∧ QXf G b (cLeave S p0) T 2 h9))
def OPC_film (ln : Launch) (G : zG) (JJ : JT) (b : Nat) : Prop := ∀ (T S : Nat → Nat → Int) (hC : zH) (p0 : Int), JJ T S → CK G b T hC → (-2147483648 ≤ p0 ∧ p0 < 2147483648) → CT ln G yX6_film cX6_film 2 (some .int) 9 [.ref b, vI p0] hC 2 482 (fun r9 h9 => ∃ v, r9 = some (vI v) ∧ QKf JJ G b (cFilm S p0) (S 10 0) (sFilm S p0) v h9) (fun E9 h9 => (E9 = "java/lang/IllegalArgumentException" ∧ QXf G b (cFilm S p0) T 1 h9) ∨ (E9 = "java/lang/IllegalStateException" ∧ QXf G b (cFilm S p0) T 2 h9))
def OPC_fetch (ln : Launch) (G : zG) (JJ : JT) (b : Nat) : Prop := ∀ (T S : Nat → Nat → Int) (hC : zH) (p0 p1 : Int), JJ T S → CK G b T hC → (-2147483648 ≤ p0 ∧ p0 < 2147483648) → (-2147483648 ≤ p1 ∧ p1 < 2147483648) → CT ln G yX6_fetch cX6_fetch 6 (some .int) 10 [.ref b, vI p0, vI p1] hC 6 518 (fun r9 h9 => ∃ v, r9 = some (vI v) ∧ QKf JJ G b (cFetch S p0 p1) (fPays S p0.toNat p1.toNat) (sFetch S p0.toNat p1.toNat) v h9) (fun E9 h9 => (E9 = "java/lang/IndexOutOfBoundsException" ∧ QXf G b (cFetch S p0 p1) T 1 h9) ∨ (E9 = "java/lang/IllegalStateException" ∧ QXf G b (cFetch S p0 p1) T 2 h9))
def OPC_pass (ln : Launch) (G : zG) (JJ : JT) (b : Nat) : Prop := ∀ (T S : Nat → Nat → Int) (hC : zH) (p0 : Int), JJ T S → CK G b T hC → (-2147483648 ≤ p0 ∧ p0 < 2147483648) → CT ln G yX6_pass cX6_pass 3 (some .int) 6 [.ref b, vI p0] hC 1 6 (fun r9 h9 => ∃ v, r9 = some (vI v) ∧ QKf JJ G b (cPass S p0) (S 1 0 + p0) (sPass S p0) v h9) (fun E9 h9 => (E9 = "java/lang/IllegalArgumentException" ∧ QXf G b (cPass S p0) T 1 h9) ∨ (E9 = "java/lang/IllegalStateException" ∧ QXf G b (cPass S p0) T 2 h9))
def OPC_propose (ln : Launch) (G : zG) (JJ : JT) (b : Nat) : Prop := ∀ (T S : Nat → Nat → Int) (hC : zH) (p0 p1 p2 : Int), JJ T S → CK G b T hC → (-2147483648 ≤ p0 ∧ p0 < 2147483648) → (-2147483648 ≤ p1 ∧ p1 < 2147483648) → (-2147483648 ≤ p2 ∧ p2 < 2147483648) → CT ln G yX6_propose cX6_propose 4 (some .int) 9 [.ref b, vI p0, vI p1, vI p2] hC 3 495 (fun r9 h9 => ∃ v, r9 = some (vI v) ∧ QKf JJ G b (cProp S p0 p1 p2) (S 15 0) (sProp S p1 p2) v h9) (fun E9 h9 => (E9 = "java/lang/IndexOutOfBoundsException" ∧ QXf G b (cProp S p0 p1 p2) T 1 h9) ∨ (E9 = "java/lang/IllegalArgumentException" ∧ QXf G b (cProp S p0 p1 p2) T 2 h9) ∨ (E9 = "java/lang/IllegalStateException" ∧ QXf G b (cProp S p0 p1 p2) T 3 h9))
def OPC_vote (ln : Launch) (G : zG) (JJ : JT) (b : Nat) : Prop := ∀ (T S : Nat → Nat → Int) (hC : zH) (p0 p1 p2 : Int), JJ T S → CK G b T hC → (-2147483648 ≤ p0 ∧ p0 < 2147483648) → (-2147483648 ≤ p1 ∧ p1 < 2147483648) → (p2 = 0 ∨ p2 = 1) → CT ln G yX6_vote cX6_vote 5 (some .int) 8 [.ref b, vI p0, vI p1, vI p2] hC 1 6 (fun r9 h9 => ∃ v, r9 = some (vI v) ∧ QKf JJ G b (cVote S p0 p1) (sVote S p0 p1 p2 16 p1.toNat) (sVote S p0 p1 p2) v h9) (fun E9 h9 => (E9 = "java/lang/IndexOutOfBoundsException" ∧ QXf G b (cVote S p0 p1) T 1 h9) ∨ (E9 = "java/lang/IllegalStateException" ∧ QXf G b (cVote S p0 p1) T 2 h9))
def OPC_rule (ln : Launch) (G : zG) (JJ : JT) (b : Nat) : Prop := ∀ (T S : Nat → Nat → Int) (hC : zH) (p0 : Int), JJ T S → CK G b T hC → (-2147483648 ≤ p0 ∧ p0 < 2147483648) → CT ln G yX6_rule cX6_rule 2 (some .int) 7 [.ref b, vI p0] hC 1 6 (fun r9 h9 => ∃ v, r9 = some (vI v) ∧ QKf JJ G b (cRule p0) (mval S p0) (S) v h9) (fun E9 h9 => (E9 = "java/lang/IndexOutOfBoundsException" ∧ QXf G b (cRule p0) T 1 h9))
def OPC_proposal (ln : Launch) (G : zG) (JJ : JT) (b : Nat) : Prop := ∀ (T S : Nat → Nat → Int) (hC : zH) (p0 p1 : Int), JJ T S → CK G b T hC → (-2147483648 ≤ p0 ∧ p0 < 2147483648) → (-2147483648 ≤ p1 ∧ p1 < 2147483648) → CT ln G yX6_proposal cX6_proposal 4 (some .int) 7 [.ref b, vI p0, vI p1] hC 1 6 (fun r9 h9 => ∃ v, r9 = some (vI v) ∧ QKf JJ G b (cPpl S p0 p1) (vPpl S p0.toNat p1) (S) v h9) (fun E9 h9 => (E9 = "java/lang/IndexOutOfBoundsException" ∧ QXf G b (cPpl S p0 p1) T 1 h9) ∨ (E9 = "java/lang/IllegalArgumentException" ∧ QXf G b (cPpl S p0 p1) T 2 h9))
def OPC_member (ln : Launch) (G : zG) (JJ : JT) (b : Nat) : Prop := ∀ (T S : Nat → Nat → Int) (hC : zH) (p0 p1 : Int), JJ T S → CK G b T hC → (-2147483648 ≤ p0 ∧ p0 < 2147483648) → (-2147483648 ≤ p1 ∧ p1 < 2147483648) → CT ln G yX6_member cX6_member 4 (some .int) 7 [.ref b, vI p0, vI p1] hC 1 6 (fun r9 h9 => ∃ v, r9 = some (vI v) ∧ QKf JJ G b (cMem S p0 p1) (vMem S p0.toNat p1) (S) v h9) (fun E9 h9 => (E9 = "java/lang/IndexOutOfBoundsException" ∧ QXf G b (cMem S p0 p1) T 1 h9) ∨ (E9 = "java/lang/IllegalArgumentException" ∧ QXf G b (cMem S p0 p1) T 2 h9))
def OPC_has (ln : Launch) (G : zG) (JJ : JT) (b : Nat) : Prop := ∀ (T S : Nat → Nat → Int) (hC : zH) (p0 p1 : Int), JJ T S → CK G b T hC → (-2147483648 ≤ p0 ∧ p0 < 2147483648) → (-2147483648 ≤ p1 ∧ p1 < 2147483648) → CT ln G yX6_has cX6_has 4 (some .boolean) 7 [.ref b, vI p0, vI p1] hC 1 6 (fun r9 h9 => ∃ v, r9 = some (vI v) ∧ QKf JJ G b (cHas S p0 p1) (if S 13 (20 * p0.toNat + p1.toNat) = 0 then 0 else 1) (S) v h9) (fun E9 h9 => (E9 = "java/lang/IndexOutOfBoundsException" ∧ QXf G b (cHas S p0 p1) T 1 h9))
def OPC_owes (ln : Launch) (G : zG) (JJ : JT) (b : Nat) : Prop := ∀ (T S : Nat → Nat → Int) (hC : zH) (p0 p1 : Int), JJ T S → CK G b T hC → (-2147483648 ≤ p0 ∧ p0 < 2147483648) → (-2147483648 ≤ p1 ∧ p1 < 2147483648) → CT ln G yX6_owes cX6_owes 4 (some .int) 7 [.ref b, vI p0, vI p1] hC 1 6 (fun r9 h9 => ∃ v, r9 = some (vI v) ∧ QKf JJ G b (cOwes S p0 p1) (S 9 (10 * p0.toNat + p1.toNat)) (S) v h9) (fun E9 h9 => (E9 = "java/lang/IndexOutOfBoundsException" ∧ QXf G b (cOwes S p0 p1) T 1 h9))
def OPC_worth (ln : Launch) (G : zG) (JJ : JT) (b : Nat) : Prop := ∀ (T S : Nat → Nat → Int) (hC : zH) (p0 : Int), JJ T S → CK G b T hC → (-2147483648 ≤ p0 ∧ p0 < 2147483648) → CT ln G yX6_worth cX6_worth 2 (some .int) 7 [.ref b, vI p0] hC 1 6 (fun r9 h9 => ∃ v, r9 = some (vI v) ∧ QKf JJ G b (cWorth S p0) (S 12 p0.toNat) (S) v h9) (fun E9 h9 => (E9 = "java/lang/IndexOutOfBoundsException" ∧ QXf G b (cWorth S p0) T 1 h9))
def OPC_accountAnew (ln : Launch) (G : zG) (JJ : JT) (b : Nat) : Prop := ∀ (T S : Nat → Nat → Int) (hC : zH) (p0 : Int), JJ T S → CK G b T hC → (-2147483648 ≤ p0 ∧ p0 < 2147483648) → CT ln G yX6_accountAnew cX6_accountAnew 2 (some .int) 8 [.ref b, vI p0] hC 2 13 (fun r9 h9 => ∃ v, r9 = some (vI v) ∧ QKf JJ G b (cAcc S p0) (S 7 p0.toNat) (S) v h9) (fun E9 h9 => (E9 = "java/lang/IndexOutOfBoundsException" ∧ QXf G b (cAcc S p0) T 1 h9))
def OPC_owesAnew (ln : Launch) (G : zG) (JJ : JT) (b : Nat) : Prop := ∀ (T S : Nat → Nat → Int) (hC : zH) (p0 p1 : Int), JJ T S → CK G b T hC → (-2147483648 ≤ p0 ∧ p0 < 2147483648) → (-2147483648 ≤ p1 ∧ p1 < 2147483648) → CT ln G yX6_owesAnew cX6_owesAnew 3 (some .int) 8 [.ref b, vI p0, vI p1] hC 2 13 (fun r9 h9 => ∃ v, r9 = some (vI v) ∧ QKf JJ G b (cOwes S p0 p1) (S 9 (10 * p0.toNat + p1.toNat)) (S) v h9) (fun E9 h9 => (E9 = "java/lang/IndexOutOfBoundsException" ∧ QXf G b (cOwes S p0 p1) T 1 h9))
def OPC_told (ln : Launch) (G : zG) (JJ : JT) (b : Nat) : Prop := ∀ (T S : Nat → Nat → Int) (hC : zH) (p0 : Int), JJ T S → CK G b T hC → (-2147483648 ≤ p0 ∧ p0 < 2147483648) → CT ln G yX6_told cX6_told 4 (some .char) 9 [.ref b, vI p0] hC 8 2276 (fun r9 h9 => ∃ v, r9 = some (vI v) ∧ QKf JJ G b (cTold p0) (mtold S p0) (S) v h9) (fun E9 h9 => (E9 = "java/lang/IndexOutOfBoundsException" ∧ QXf G b (cTold p0) T 1 h9))
set_option maxRecDepth 100000 in
theorem blk_join {X : zX} {y : MethodName} (hy : y.cls = RL) (C : ZC X cL_law y 12) (htr : (zLn X).stackTraces = false) (hN : zN X = 7) {sc L : Nat} {xi : Nat → Int} (hxi : ∀ j, -2147483648 ≤ xi j ∧ xi j < 2147483648) (SC : ZS X sc L xi) (hL : L ≤ 2048) {JJ : JT} (hJM : ∀ T S, JJ T S → (MB S ∧ (∀ j, S 9 j ≤ 6000) ∧ (∀ j, S 12 j ≤ S 14 0) ∧ ∀ j, S 8 j ≤ S 14 0) ∧ TB T ∧ T 1 0 = S 1 0) {b o : Nat} {a : Nat → Nat} (hop : OPC_join (zLn X) (zG_of X) JJ b) {T S : Nat → Nat → Int} {t : Int} {f : Nat → Int64} {h : zH} {k n i : Nat} (hi : i + 4 ≤ L) (hj : JJ T S) (hls : LSx (zG_of X) b a o T S t f h) (hk : k + 10 ≤ (zR_of X).cells) (hn : n + 2600 ≤ (zR_of X).slots) (kk : ∀ (T S : Nat → Nat → Int) (t : Int) (f : Nat → Int64) (h : zH), JJ T S → LSx (zG_of X) b a o T S t f h → Z X 1184 [.ref sc, .ref b, .ref (a 0), .ref o, vI (i : Int)] [] h (k + 10) (n + 2600)) : Z X 120 [.ref sc, .ref b, .ref (a 0), .ref o, vI (i : Int)] [] h k n := by
  have I := (hJM T S hj).1.1
  obtain ⟨hC, hM, kC, kM, sC, sM, dj, ho, oC, oM⟩ := hls
  have hb7 : ∃ fs, h b = some (eO 7 fs) := by
    obtain ⟨ad, el, e0, R⟩ := kC
    have := sC _ _ R.club
    rw [e0] at this
    exact ⟨_, this⟩
  obtain ⟨fs, hb7⟩ := hb7
  have hop2 : CT (zLn X) (zG_of X) yX6_join cX6_join 4 (some .int) 9 [.ref b, vI (xi (i + 1)), vI (xi (i + 2))] h 5 521 (fun r9 h9 => ∃ v, r9 = some (vI v) ∧ fQ hC h (QKf JJ (zG_of X) b (cJoin S (xi (i + 1)) (xi (i + 2))) (S 2 0) (sJoin S (xi (i + 1)) (xi (i + 2)))) v h9) (fun E9 h9 => (E9 = "java/lang/IllegalArgumentException" ∧ fQ hC h (QXf (zG_of X) b (cJoin S (xi (i + 1)) (xi (i + 2))) T) 1 h9) ∨ (E9 = "java/lang/IllegalStateException" ∧ fQ hC h (QXf (zG_of X) b (cJoin S (xi (i + 1)) (xi (i + 2))) T) 2 h9)) :=
    CT.mono (CT.frame sC (hop T S hC (xi (i + 1)) (xi (i + 2)) hj kC (hxi _) (hxi _))) (fun r9 h9 z => by
        obtain ⟨hm9, ⟨v0, e, q⟩, fr⟩ := z
        exact ⟨v0, e, hm9, q, fr⟩) (fun E9 h9 z => by
        obtain ⟨hm9, z, fr⟩ := z
        rcases z with ⟨e, q⟩ | ⟨e, q⟩
        · exact Or.inl ⟨e, hm9, q, fr⟩
        · exact Or.inr ⟨e, hm9, q, fr⟩)
  have hh := c_L_join htr hb7 hop2 (fun v h9 q => by
      obtain ⟨hm9, -, fr⟩ := q
      exact ⟨f, fr.2.1 o _ oC ho⟩)
  refine Z.aload_n C dL_law_120 rfl ?_
  refine Z.aload_n C dL_law_121 rfl ?_
  refine Z.iload C dL_law_122 rfl ?_
  refine Z.iconst C dL_law_124 ?_
  refine Z.iadd C dL_law_125 ?_
  refine Z.sld (j := i + 1) C SC dL_law_126 (by omega) (by omega) ?_
  refine Z.aload_n C dL_law_127 rfl ?_
  refine Z.iload C dL_law_128 rfl ?_
  refine Z.iconst C dL_law_130 ?_
  refine Z.iadd C dL_law_131 ?_
  refine Z.sld (j := i + 2) C SC dL_law_132 (by omega) (by omega) ?_
  refine Z.aload_n C dL_law_133 rfl ?_
  refine h_L_73 C hy dL_law_134 hh (by decide) (Nat.le_of_ble_eq_true rfl) (by omega) (by omega) (fun w1 h1 q1 => ?_)
  obtain ⟨T1, g1, rfl, hc03, R1, hj1, hg⟩ := LS.helped hj kM sC sM dj ho oC oM q1
  refine Z.istore (l' := [_, _, _, _, _, _]) C dL_law_137 (Nat.le_of_ble_eq_true rfl) (by rw [hN]; decide) rfl ?_
  obtain ⟨hC1, hM1, kC1, kM1, sC1, sM1, dj1, ho1, oC1, oM1⟩ := R1
  refine Z.aload_n C dL_law_139 rfl ?_
  refine Z.aload_n C dL_law_140 rfl ?_
  refine Z.iload C dL_law_141 rfl ?_
  refine Z.iconst C dL_law_143 ?_
  refine Z.iadd C dL_law_144 ?_
  refine Z.sld (j := i + 1) C SC dL_law_145 (by omega) (by omega) ?_
  refine Z.aload_n C dL_law_146 rfl ?_
  refine Z.iload C dL_law_147 rfl ?_
  refine Z.iconst C dL_law_149 ?_
  refine Z.iadd C dL_law_150 ?_
  refine Z.sld (j := i + 2) C SC dL_law_151 (by omega) (by omega) ?_
  refine v_L_78 C hy dL_law_152 (sM1 _ _ kM1.1) (CT.frame sM1 (c_X7_join htr kM1 I (hxi _) (hxi _))) (by decide) (Nat.le_of_ble_eq_true rfl) (by omega) (by omega) (fun w2 h2 q2 => ?_) (fun _ _ q => by obtain ⟨_, q, _⟩ := q; exact q.elim)
  obtain ⟨b9, rfl, R2, hv⟩ := LS.modded kC1 sC1 dj1 ho1 oC1 oM1 q2
  obtain ⟨hC2, hM2, kC2, kM2, sC2, sM2, dj2, ho2, oC2, oM2⟩ := R2
  refine Z.istore (l' := [_, _, _, _, _, _, _]) C dL_law_155 (Nat.le_of_ble_eq_true rfl) (by rw [hN]; decide) rfl ?_
  refine Z.aload_n C dL_law_157 rfl ?_
  refine v_L_79 C hy dL_law_158 (sM2 _ _ kM2.1) (CT.frame sM2 (c_X7_thrown htr kM2 (hJM _ _ hj1).1.1)) (by decide) (Nat.le_of_ble_eq_true rfl) (by omega) (by omega) (fun w3 h3 q3 => ?_) (fun _ _ q => by obtain ⟨_, q, _⟩ := q; exact q.elim)
  obtain ⟨hm3, ⟨rfl, e3⟩, fr3⟩ := q3
  subst e3
  have R3 := fr3.mod kC2 kM2 sC2 dj2 ho2 oC2 oM2
  refine Z.iload C dL_law_161 rfl ?_
  refine Z.icmp_eq (tgt := 168) C dL_law_163 (by decide) (by omega) (by omega) (by omega) (by omega) (fun _ => ?_) (fun z => absurd rfl z)
  refine Z.iload C dL_law_168 rfl ?_
  refine Z.if_ne (tgt := 185) C dL_law_170 (by decide) (by omega) (by omega) (fun c1 => ?_) (fun c1 => ?_)
  · refine Z.goto (tgt := 1184) C dL_law_185 (by decide) ?_
    refine Z.pre (l' := [_, _, _, _, _]) 5 rfl ?_
    refine Z.widen (k' := k + 10) (n' := n + 2600) (by omega) (by omega) ?_
    exact kk _ _ _ _ _ hj1 R3
  · refine Z.aload_n C dL_law_173 rfl ?_
    refine Z.iconst C dL_law_174 ?_
    have ho3 : h3 o = some (eL ((zG_of X).2.1 4) 1 g1) := by
      obtain ⟨_, _, _, _, _, _, _, q, _, _⟩ := R3
      exact q
    refine Z.laload C dL_law_175 ho3 (by decide) (by decide) (by decide) ?_
    have eg : g1 (0 : Int).toNat = (jI b9).toInt64 := by
      rw [hv c1]
      exact hg c1
    rw [eg]
    refine Z.iload C dL_law_176 rfl ?_
    refine Z.i2l C dL_law_178 ?_
    refine Z.lcmp C dL_law_179 ?_
    rw [lg_self]
    refine Z.if_eq (tgt := 185) C dL_law_180 (by decide) (by decide) (by decide) (fun _ => ?_) (fun z => absurd rfl z)
    refine Z.goto (tgt := 1184) C dL_law_185 (by decide) ?_
    refine Z.pre (l' := [_, _, _, _, _]) 5 rfl ?_
    refine Z.widen (k' := k + 10) (n' := n + 2600) (by omega) (by omega) ?_
    exact kk _ _ _ _ _ hj1 R3

set_option maxRecDepth 100000 in
theorem blk_vote {X : zX} {y : MethodName} (hy : y.cls = RL) (C : ZC X cL_law y 12) (htr : (zLn X).stackTraces = false) (hN : zN X = 7) {sc L : Nat} {xi : Nat → Int} (hxi : ∀ j, -2147483648 ≤ xi j ∧ xi j < 2147483648) (SC : ZS X sc L xi) (hL : L ≤ 2048) {JJ : JT} (hJM : ∀ T S, JJ T S → (MB S ∧ (∀ j, S 9 j ≤ 6000) ∧ (∀ j, S 12 j ≤ S 14 0) ∧ ∀ j, S 8 j ≤ S 14 0) ∧ TB T ∧ T 1 0 = S 1 0) {b o : Nat} {a : Nat → Nat} (hop : OPC_vote (zLn X) (zG_of X) JJ b) {T S : Nat → Nat → Int} {t : Int} {f : Nat → Int64} {h : zH} {k n i : Nat} (hi : i + 4 ≤ L) (hj : JJ T S) (hls : LSx (zG_of X) b a o T S t f h) (hk : k + 10 ≤ (zR_of X).cells) (hn : n + 2600 ≤ (zR_of X).slots) (kk : ∀ (T S : Nat → Nat → Int) (t : Int) (f : Nat → Int64) (h : zH), JJ T S → LSx (zG_of X) b a o T S t f h → Z X 1184 [.ref sc, .ref b, .ref (a 0), .ref o, vI (i : Int)] [] h (k + 10) (n + 2600)) : Z X 504 [.ref sc, .ref b, .ref (a 0), .ref o, vI (i : Int)] [] h k n := by
  have I := (hJM T S hj).1.1
  obtain ⟨hC, hM, kC, kM, sC, sM, dj, ho, oC, oM⟩ := hls
  have hb7 : ∃ fs, h b = some (eO 7 fs) := by
    obtain ⟨ad, el, e0, R⟩ := kC
    have := sC _ _ R.club
    rw [e0] at this
    exact ⟨_, this⟩
  obtain ⟨fs, hb7⟩ := hb7
  obtain ⟨pz, hpz⟩ : ∃ pz : Int, pz = (if xi (i + 3) = 0 then 0 else 1) := ⟨_, rfl⟩
  have hpz1 : pz = 0 ∨ pz = 1 := by
    rw [hpz]
    split
    · exact Or.inl rfl
    · exact Or.inr rfl
  have hx3 := hxi (i + 3)
  have hop2 : CT (zLn X) (zG_of X) yX6_vote cX6_vote 5 (some .int) 8 [.ref b, vI (xi (i + 1)), vI (xi (i + 2)), vI pz] h 1 6 (fun r9 h9 => ∃ v, r9 = some (vI v) ∧ fQ hC h (QKf JJ (zG_of X) b (cVote S (xi (i + 1)) (xi (i + 2))) (sVote S (xi (i + 1)) (xi (i + 2)) pz 16 (xi (i + 2)).toNat) (sVote S (xi (i + 1)) (xi (i + 2)) pz)) v h9) (fun E9 h9 => (E9 = "java/lang/IndexOutOfBoundsException" ∧ fQ hC h (QXf (zG_of X) b (cVote S (xi (i + 1)) (xi (i + 2))) T) 1 h9) ∨ (E9 = "java/lang/IllegalStateException" ∧ fQ hC h (QXf (zG_of X) b (cVote S (xi (i + 1)) (xi (i + 2))) T) 2 h9)) :=
    CT.mono (CT.frame sC (hop T S hC (xi (i + 1)) (xi (i + 2)) pz hj kC (hxi _) (hxi _) hpz1)) (fun r9 h9 z => by
        obtain ⟨hm9, ⟨v0, e, q⟩, fr⟩ := z
        exact ⟨v0, e, hm9, q, fr⟩) (fun E9 h9 z => by
        obtain ⟨hm9, z, fr⟩ := z
        rcases z with ⟨e, q⟩ | ⟨e, q⟩
        · exact Or.inl ⟨e, hm9, q, fr⟩
        · exact Or.inr ⟨e, hm9, q, fr⟩)
  have hh := c_L_vote htr hb7 hop2 (fun v h9 q => by
      obtain ⟨hm9, -, fr⟩ := q
      exact ⟨f, fr.2.1 o _ oC ho⟩)
  refine Z.aload_n C dL_law_504 rfl ?_
  refine Z.aload_n C dL_law_505 rfl ?_
  refine Z.iload C dL_law_506 rfl ?_
  refine Z.iconst C dL_law_508 ?_
  refine Z.iadd C dL_law_509 ?_
  refine Z.sld (j := i + 1) C SC dL_law_510 (by omega) (by omega) ?_
  refine Z.aload_n C dL_law_511 rfl ?_
  refine Z.iload C dL_law_512 rfl ?_
  refine Z.iconst C dL_law_514 ?_
  refine Z.iadd C dL_law_515 ?_
  refine Z.sld (j := i + 2) C SC dL_law_516 (by omega) (by omega) ?_
  refine Z.aload_n C dL_law_517 rfl ?_
  refine Z.iload C dL_law_518 rfl ?_
  refine Z.iconst C dL_law_520 ?_
  refine Z.iadd C dL_law_521 ?_
  refine Z.sld (j := i + 3) C SC dL_law_522 (by omega) (by omega) ?_
  suffices J531 : Z X 531 [.ref sc, .ref b, .ref (a 0), .ref o, vI (i : Int)] [vI pz, vI (xi (i + 2)), vI (xi (i + 1)), .ref b] h k n by
    refine Z.if_eq (tgt := 530) C dL_law_523 (by decide) (by omega) (by omega) (fun c9 => ?_) (fun c9 => ?_)
    · rw [show pz = 0 by rw [hpz, if_pos c9]] at J531
      refine Z.iconst C dL_law_530 ?_
      exact J531
    · rw [show pz = 1 by rw [hpz, if_neg c9]] at J531
      refine Z.iconst C dL_law_526 ?_
      refine Z.goto (tgt := 531) C dL_law_527 (by decide) ?_
      exact J531
  refine Z.aload_n C dL_law_531 rfl ?_
  refine h_L_100 C hy dL_law_532 hh (by decide) (Nat.le_of_ble_eq_true rfl) (by omega) (by omega) (fun w1 h1 q1 => ?_)
  obtain ⟨T1, g1, rfl, hc03, R1, hj1, hg⟩ := LS.helped hj kM sC sM dj ho oC oM q1
  refine Z.istore (l' := [_, _, _, _, _, _]) C dL_law_535 (Nat.le_of_ble_eq_true rfl) (by rw [hN]; decide) rfl ?_
  obtain ⟨hC1, hM1, kC1, kM1, sC1, sM1, dj1, ho1, oC1, oM1⟩ := R1
  refine Z.aload_n C dL_law_537 rfl ?_
  refine Z.aload_n C dL_law_538 rfl ?_
  refine Z.iload C dL_law_539 rfl ?_
  refine Z.iconst C dL_law_541 ?_
  refine Z.iadd C dL_law_542 ?_
  refine Z.sld (j := i + 1) C SC dL_law_543 (by omega) (by omega) ?_
  refine Z.aload_n C dL_law_544 rfl ?_
  refine Z.iload C dL_law_545 rfl ?_
  refine Z.iconst C dL_law_547 ?_
  refine Z.iadd C dL_law_548 ?_
  refine Z.sld (j := i + 2) C SC dL_law_549 (by omega) (by omega) ?_
  refine Z.aload_n C dL_law_550 rfl ?_
  refine Z.iload C dL_law_551 rfl ?_
  refine Z.iconst C dL_law_553 ?_
  refine Z.iadd C dL_law_554 ?_
  refine Z.sld (j := i + 3) C SC dL_law_555 (by omega) (by omega) ?_
  suffices J564 : Z X 564 [.ref sc, .ref b, .ref (a 0), .ref o, vI (i : Int), vI (cVote S (xi (i + 1)) (xi (i + 2)))] [vI pz, vI (xi (i + 2)), vI (xi (i + 1)), .ref (a 0)] h1 (k + 1) (n + 6) by
    refine Z.if_eq (tgt := 563) C dL_law_556 (by decide) (by omega) (by omega) (fun c9 => ?_) (fun c9 => ?_)
    · rw [show pz = 0 by rw [hpz, if_pos c9]] at J564
      refine Z.iconst C dL_law_563 ?_
      exact J564
    · rw [show pz = 1 by rw [hpz, if_neg c9]] at J564
      refine Z.iconst C dL_law_559 ?_
      refine Z.goto (tgt := 564) C dL_law_560 (by decide) ?_
      exact J564
  refine v_L_103 C hy dL_law_564 (sM1 _ _ kM1.1) (CT.frame sM1 (c_X7_vote htr kM1 I (hxi _) (hxi _) hpz1)) (by decide) (Nat.le_of_ble_eq_true rfl) (by omega) (by omega) (fun w2 h2 q2 => ?_) (fun _ _ q => by obtain ⟨_, q, _⟩ := q; exact q.elim)
  obtain ⟨b9, rfl, R2, hv⟩ := LS.modded kC1 sC1 dj1 ho1 oC1 oM1 q2
  obtain ⟨hC2, hM2, kC2, kM2, sC2, sM2, dj2, ho2, oC2, oM2⟩ := R2
  refine Z.istore (l' := [_, _, _, _, _, _, _]) C dL_law_567 (Nat.le_of_ble_eq_true rfl) (by rw [hN]; decide) rfl ?_
  refine Z.aload_n C dL_law_569 rfl ?_
  refine v_L_79 C hy dL_law_570 (sM2 _ _ kM2.1) (CT.frame sM2 (c_X7_thrown htr kM2 (hJM _ _ hj1).1.1)) (by decide) (Nat.le_of_ble_eq_true rfl) (by omega) (by omega) (fun w3 h3 q3 => ?_) (fun _ _ q => by obtain ⟨_, q, _⟩ := q; exact q.elim)
  obtain ⟨hm3, ⟨rfl, e3⟩, fr3⟩ := q3
  subst e3
  have R3 := fr3.mod kC2 kM2 sC2 dj2 ho2 oC2 oM2
  refine Z.iload C dL_law_573 rfl ?_
  refine Z.icmp_eq (tgt := 580) C dL_law_575 (by decide) (by omega) (by omega) (by omega) (by omega) (fun _ => ?_) (fun z => absurd rfl z)
  refine Z.iload C dL_law_580 rfl ?_
  refine Z.if_ne (tgt := 597) C dL_law_582 (by decide) (by omega) (by omega) (fun c1 => ?_) (fun c1 => ?_)
  · refine Z.goto (tgt := 1184) C dL_law_597 (by decide) ?_
    refine Z.pre (l' := [_, _, _, _, _]) 5 rfl ?_
    refine Z.widen (k' := k + 10) (n' := n + 2600) (by omega) (by omega) ?_
    exact kk _ _ _ _ _ hj1 R3
  · refine Z.aload_n C dL_law_585 rfl ?_
    refine Z.iconst C dL_law_586 ?_
    have ho3 : h3 o = some (eL ((zG_of X).2.1 4) 1 g1) := by
      obtain ⟨_, _, _, _, _, _, _, q, _, _⟩ := R3
      exact q
    refine Z.laload C dL_law_587 ho3 (by decide) (by decide) (by decide) ?_
    have eg : g1 (0 : Int).toNat = (jI b9).toInt64 := by
      rw [hv c1]
      exact hg c1
    rw [eg]
    refine Z.iload C dL_law_588 rfl ?_
    refine Z.i2l C dL_law_590 ?_
    refine Z.lcmp C dL_law_591 ?_
    rw [lg_self]
    refine Z.if_eq (tgt := 597) C dL_law_592 (by decide) (by decide) (by decide) (fun _ => ?_) (fun z => absurd rfl z)
    refine Z.goto (tgt := 1184) C dL_law_597 (by decide) ?_
    refine Z.pre (l' := [_, _, _, _, _]) 5 rfl ?_
    refine Z.widen (k' := k + 10) (n' := n + 2600) (by omega) (by omega) ?_
    exact kk _ _ _ _ _ hj1 R3

set_option maxRecDepth 100000 in
theorem blk_has {X : zX} {y : MethodName} (hy : y.cls = RL) (C : ZC X cL_law y 12) (htr : (zLn X).stackTraces = false) (hN : zN X = 7) {sc L : Nat} {xi : Nat → Int} (hxi : ∀ j, -2147483648 ≤ xi j ∧ xi j < 2147483648) (SC : ZS X sc L xi) (hL : L ≤ 2048) {JJ : JT} (hJM : ∀ T S, JJ T S → (MB S ∧ (∀ j, S 9 j ≤ 6000) ∧ (∀ j, S 12 j ≤ S 14 0) ∧ ∀ j, S 8 j ≤ S 14 0) ∧ TB T ∧ T 1 0 = S 1 0) {b o : Nat} {a : Nat → Nat} (hop : OPC_has (zLn X) (zG_of X) JJ b) {T S : Nat → Nat → Int} {t : Int} {f : Nat → Int64} {h : zH} {k n i : Nat} (hi : i + 4 ≤ L) (hj : JJ T S) (hls : LSx (zG_of X) b a o T S t f h) (hk : k + 10 ≤ (zR_of X).cells) (hn : n + 2600 ≤ (zR_of X).slots) (kk : ∀ (T S : Nat → Nat → Int) (t : Int) (f : Nat → Int64) (h : zH), JJ T S → LSx (zG_of X) b a o T S t f h → Z X 1184 [.ref sc, .ref b, .ref (a 0), .ref o, vI (i : Int)] [] h (k + 10) (n + 2600)) : Z X 805 [.ref sc, .ref b, .ref (a 0), .ref o, vI (i : Int)] [] h k n := by
  have I := (hJM T S hj).1.1
  obtain ⟨hC, hM, kC, kM, sC, sM, dj, ho, oC, oM⟩ := hls
  have hb7 : ∃ fs, h b = some (eO 7 fs) := by
    obtain ⟨ad, el, e0, R⟩ := kC
    have := sC _ _ R.club
    rw [e0] at this
    exact ⟨_, this⟩
  obtain ⟨fs, hb7⟩ := hb7
  have hop2 : CT (zLn X) (zG_of X) yX6_has cX6_has 4 (some .boolean) 7 [.ref b, vI (xi (i + 1)), vI (xi (i + 2))] h 1 6 (fun r9 h9 => ∃ v, r9 = some (vI v) ∧ fQ hC h (QKf JJ (zG_of X) b (cHas S (xi (i + 1)) (xi (i + 2))) (if S 13 (20 * (xi (i + 1)).toNat + (xi (i + 2)).toNat) = 0 then 0 else 1) (S)) v h9) (fun E9 h9 => (E9 = "java/lang/IndexOutOfBoundsException" ∧ fQ hC h (QXf (zG_of X) b (cHas S (xi (i + 1)) (xi (i + 2))) T) 1 h9)) :=
    CT.mono (CT.frame sC (hop T S hC (xi (i + 1)) (xi (i + 2)) hj kC (hxi _) (hxi _))) (fun r9 h9 z => by
        obtain ⟨hm9, ⟨v0, e, q⟩, fr⟩ := z
        exact ⟨v0, e, hm9, q, fr⟩) (fun E9 h9 z => by
        obtain ⟨hm9, ⟨e, q⟩, fr⟩ := z
        exact ⟨e, hm9, q, fr⟩)
  have hh := c_L_has htr hb7 hop2 (fun v h9 q => by
      obtain ⟨hm9, -, fr⟩ := q
      exact ⟨f, fr.2.1 o _ oC ho⟩) (fun v h9 q => by
      obtain ⟨hm9, ⟨-, e, -⟩, -⟩ := q
      rw [e]
      split
      · exact Or.inl rfl
      · exact Or.inr rfl)
  refine Z.aload_n C dL_law_805 rfl ?_
  refine Z.aload_n C dL_law_806 rfl ?_
  refine Z.iload C dL_law_807 rfl ?_
  refine Z.iconst C dL_law_809 ?_
  refine Z.iadd C dL_law_810 ?_
  refine Z.sld (j := i + 1) C SC dL_law_811 (by omega) (by omega) ?_
  refine Z.aload_n C dL_law_812 rfl ?_
  refine Z.iload C dL_law_813 rfl ?_
  refine Z.iconst C dL_law_815 ?_
  refine Z.iadd C dL_law_816 ?_
  refine Z.sld (j := i + 2) C SC dL_law_817 (by omega) (by omega) ?_
  refine Z.aload_n C dL_law_818 rfl ?_
  refine h_L_117 C hy dL_law_819 hh (by decide) (Nat.le_of_ble_eq_true rfl) (by omega) (by omega) (fun w1 h1 q1 => ?_)
  obtain ⟨T1, g1, rfl, hc03, R1, hj1, hg⟩ := LS.helped hj kM sC sM dj ho oC oM q1
  refine Z.istore (l' := [_, _, _, _, _, _]) C dL_law_822 (Nat.le_of_ble_eq_true rfl) (by rw [hN]; decide) rfl ?_
  obtain ⟨hC1, hM1, kC1, kM1, sC1, sM1, dj1, ho1, oC1, oM1⟩ := R1
  refine Z.aload_n C dL_law_824 rfl ?_
  refine Z.aload_n C dL_law_825 rfl ?_
  refine Z.iload C dL_law_826 rfl ?_
  refine Z.iconst C dL_law_828 ?_
  refine Z.iadd C dL_law_829 ?_
  refine Z.sld (j := i + 1) C SC dL_law_830 (by omega) (by omega) ?_
  refine Z.aload_n C dL_law_831 rfl ?_
  refine Z.iload C dL_law_832 rfl ?_
  refine Z.iconst C dL_law_834 ?_
  refine Z.iadd C dL_law_835 ?_
  refine Z.sld (j := i + 2) C SC dL_law_836 (by omega) (by omega) ?_
  refine v_L_119 C hy dL_law_837 (sM1 _ _ kM1.1) (CT.frame sM1 (c_X7_has htr kM1 I (hxi _) (hxi _))) (by decide) (Nat.le_of_ble_eq_true rfl) (by omega) (by omega) (fun w2 h2 q2 => ?_) (fun _ _ q => by obtain ⟨_, q, _⟩ := q; exact q.elim)
  obtain ⟨b9, rfl, R2, hv⟩ := LS.modded kC1 sC1 dj1 ho1 oC1 oM1 q2
  obtain ⟨hC2, hM2, kC2, kM2, sC2, sM2, dj2, ho2, oC2, oM2⟩ := R2
  refine Z.istore (l' := [_, _, _, _, _, _, _]) C dL_law_840 (Nat.le_of_ble_eq_true rfl) (by rw [hN]; decide) rfl ?_
  refine Z.aload_n C dL_law_842 rfl ?_
  refine v_L_79 C hy dL_law_843 (sM2 _ _ kM2.1) (CT.frame sM2 (c_X7_thrown htr kM2 (hJM _ _ hj1).1.1)) (by decide) (Nat.le_of_ble_eq_true rfl) (by omega) (by omega) (fun w3 h3 q3 => ?_) (fun _ _ q => by obtain ⟨_, q, _⟩ := q; exact q.elim)
  obtain ⟨hm3, ⟨rfl, e3⟩, fr3⟩ := q3
  subst e3
  have R3 := fr3.mod kC2 kM2 sC2 dj2 ho2 oC2 oM2
  refine Z.iload C dL_law_846 rfl ?_
  refine Z.icmp_eq (tgt := 853) C dL_law_848 (by decide) (by omega) (by omega) (by omega) (by omega) (fun _ => ?_) (fun z => absurd rfl z)
  refine Z.iload C dL_law_853 rfl ?_
  refine Z.if_ne (tgt := 877) C dL_law_855 (by decide) (by omega) (by omega) (fun c1 => ?_) (fun c1 => ?_)
  · refine Z.goto (tgt := 1184) C dL_law_877 (by decide) ?_
    refine Z.pre (l' := [_, _, _, _, _]) 5 rfl ?_
    refine Z.widen (k' := k + 10) (n' := n + 2600) (by omega) (by omega) ?_
    exact kk _ _ _ _ _ hj1 R3
  · refine Z.aload_n C dL_law_858 rfl ?_
    refine Z.iconst C dL_law_859 ?_
    have ho3 : h3 o = some (eL ((zG_of X).2.1 4) 1 g1) := by
      obtain ⟨_, _, _, _, _, _, _, q, _, _⟩ := R3
      exact q
    refine Z.laload C dL_law_860 ho3 (by decide) (by decide) (by decide) ?_
    have eg : g1 (0 : Int).toNat = (jI b9).toInt64 := by
      rw [hv c1]
      exact hg c1
    rw [eg]
    refine Z.iload C dL_law_861 rfl ?_
    have hb01 : b9 = 0 ∨ b9 = 1 := by
      rw [hv c1]
      split
      · exact Or.inl rfl
      · exact Or.inr rfl
    
    refine Z.if_eq (tgt := 870) C dL_law_863 (by decide) (by omega) (by omega) (fun c2 => ?_) (fun c2 => ?_)
    · have e9 : (jI b9).toInt64 = Int64.ofNat ((0 : Fin 2) : Nat) := by
        rw [show b9 = 0 by omega]
        decide
      rw [e9]
      refine Z.lconst C dL_law_870 ?_
      refine Z.lcmp C dL_law_871 ?_
      rw [lg_self]
      refine Z.if_eq (tgt := 877) C dL_law_872 (by decide) (by decide) (by decide) (fun _ => ?_) (fun z => absurd rfl z)
      refine Z.goto (tgt := 1184) C dL_law_877 (by decide) ?_
      refine Z.pre (l' := [_, _, _, _, _]) 5 rfl ?_
      refine Z.widen (k' := k + 10) (n' := n + 2600) (by omega) (by omega) ?_
      exact kk _ _ _ _ _ hj1 R3
    · have e9 : (jI b9).toInt64 = Int64.ofNat ((1 : Fin 2) : Nat) := by
        rw [show b9 = 1 by omega]
        decide
      rw [e9]
      refine Z.lconst C dL_law_866 ?_
      refine Z.goto (tgt := 871) C dL_law_867 (by decide) ?_
      refine Z.lcmp C dL_law_871 ?_
      rw [lg_self]
      refine Z.if_eq (tgt := 877) C dL_law_872 (by decide) (by decide) (by decide) (fun _ => ?_) (fun z => absurd rfl z)
      refine Z.goto (tgt := 1184) C dL_law_877 (by decide) ?_
      refine Z.pre (l' := [_, _, _, _, _]) 5 rfl ?_
      refine Z.widen (k' := k + 10) (n' := n + 2600) (by omega) (by omega) ?_
      exact kk _ _ _ _ _ hj1 R3

set_option maxRecDepth 100000 in
theorem blk_fetch {X : zX} {y : MethodName} (hy : y.cls = RL) (C : ZC X cL_law y 12) (htr : (zLn X).stackTraces = false) (hN : zN X = 7) {sc L : Nat} {xi : Nat → Int} (hxi : ∀ j, -2147483648 ≤ xi j ∧ xi j < 2147483648) (SC : ZS X sc L xi) (hL : L ≤ 2048) {JJ : JT} (hJM : ∀ T S, JJ T S → (MB S ∧ (∀ j, S 9 j ≤ 6000) ∧ (∀ j, S 12 j ≤ S 14 0) ∧ ∀ j, S 8 j ≤ S 14 0) ∧ TB T ∧ T 1 0 = S 1 0) {b o : Nat} {a : Nat → Nat} (hop : OPC_fetch (zLn X) (zG_of X) JJ b) {T S : Nat → Nat → Int} {t : Int} {f : Nat → Int64} {h : zH} {k n i : Nat} (hi : i + 4 ≤ L) (hj : JJ T S) (hls : LSx (zG_of X) b a o T S t f h) (hk : k + 10 ≤ (zR_of X).cells) (hn : n + 2600 ≤ (zR_of X).slots) (kk : ∀ (T S : Nat → Nat → Int) (t : Int) (f : Nat → Int64) (h : zH), JJ T S → LSx (zG_of X) b a o T S t f h → Z X 1184 [.ref sc, .ref b, .ref (a 0), .ref o, vI (i : Int)] [] h (k + 10) (n + 2600)) : Z X 300 [.ref sc, .ref b, .ref (a 0), .ref o, vI (i : Int)] [] h k n := by
  have I := (hJM T S hj).1.1
  obtain ⟨hC, hM, kC, kM, sC, sM, dj, ho, oC, oM⟩ := hls
  have hb7 : ∃ fs, h b = some (eO 7 fs) := by
    obtain ⟨ad, el, e0, R⟩ := kC
    have := sC _ _ R.club
    rw [e0] at this
    exact ⟨_, this⟩
  obtain ⟨fs, hb7⟩ := hb7
  have hop2 : CT (zLn X) (zG_of X) yX6_fetch cX6_fetch 6 (some .int) 10 [.ref b, vI (xi (i + 1)), vI (xi (i + 2))] h 6 518 (fun r9 h9 => ∃ v, r9 = some (vI v) ∧ fQ hC h (QKf JJ (zG_of X) b (cFetch S (xi (i + 1)) (xi (i + 2))) (fPays S (xi (i + 1)).toNat (xi (i + 2)).toNat) (sFetch S (xi (i + 1)).toNat (xi (i + 2)).toNat)) v h9) (fun E9 h9 => (E9 = "java/lang/IndexOutOfBoundsException" ∧ fQ hC h (QXf (zG_of X) b (cFetch S (xi (i + 1)) (xi (i + 2))) T) 1 h9) ∨ (E9 = "java/lang/IllegalStateException" ∧ fQ hC h (QXf (zG_of X) b (cFetch S (xi (i + 1)) (xi (i + 2))) T) 2 h9)) :=
    CT.mono (CT.frame sC (hop T S hC (xi (i + 1)) (xi (i + 2)) hj kC (hxi _) (hxi _))) (fun r9 h9 z => by
        obtain ⟨hm9, ⟨v0, e, q⟩, fr⟩ := z
        exact ⟨v0, e, hm9, q, fr⟩) (fun E9 h9 z => by
        obtain ⟨hm9, z, fr⟩ := z
        rcases z with ⟨e, q⟩ | ⟨e, q⟩
        · exact Or.inl ⟨e, hm9, q, fr⟩
        · exact Or.inr ⟨e, hm9, q, fr⟩)
  have hh := c_L_fetch htr hb7 hop2 (fun v h9 q => by
      obtain ⟨hm9, -, fr⟩ := q
      exact ⟨f, fr.2.1 o _ oC ho⟩)
  refine Z.aload_n C dL_law_300 rfl ?_
  refine Z.aload_n C dL_law_301 rfl ?_
  refine Z.iload C dL_law_302 rfl ?_
  refine Z.iconst C dL_law_304 ?_
  refine Z.iadd C dL_law_305 ?_
  refine Z.sld (j := i + 1) C SC dL_law_306 (by omega) (by omega) ?_
  refine Z.aload_n C dL_law_307 rfl ?_
  refine Z.iload C dL_law_308 rfl ?_
  refine Z.iconst C dL_law_310 ?_
  refine Z.iadd C dL_law_311 ?_
  refine Z.sld (j := i + 2) C SC dL_law_312 (by omega) (by omega) ?_
  refine Z.aload_n C dL_law_313 rfl ?_
  refine h_L_90 C hy dL_law_314 hh (by decide) (Nat.le_of_ble_eq_true rfl) (by omega) (by omega) (fun w1 h1 q1 => ?_)
  obtain ⟨T1, g1, rfl, hc03, R1, hj1, hg⟩ := LS.helped hj kM sC sM dj ho oC oM q1
  refine Z.istore (l' := [_, _, _, _, _, _]) C dL_law_317 (Nat.le_of_ble_eq_true rfl) (by rw [hN]; decide) rfl ?_
  obtain ⟨hC1, hM1, kC1, kM1, sC1, sM1, dj1, ho1, oC1, oM1⟩ := R1
  refine Z.aload_n C dL_law_319 rfl ?_
  refine Z.aload_n C dL_law_320 rfl ?_
  refine Z.iload C dL_law_321 rfl ?_
  refine Z.iconst C dL_law_323 ?_
  refine Z.iadd C dL_law_324 ?_
  refine Z.sld (j := i + 1) C SC dL_law_325 (by omega) (by omega) ?_
  refine Z.aload_n C dL_law_326 rfl ?_
  refine Z.iload C dL_law_327 rfl ?_
  refine Z.iconst C dL_law_329 ?_
  refine Z.iadd C dL_law_330 ?_
  refine Z.sld (j := i + 2) C SC dL_law_331 (by omega) (by omega) ?_
  refine v_L_92 C hy dL_law_332 (sM1 _ _ kM1.1) (CT.frame sM1 (c_X7_fetch htr kM1 I (hJM T S hj).1.2.1 (hJM T S hj).1.2.2.1 (hJM T S hj).1.2.2.2 (hxi _) (hxi _))) (by decide) (Nat.le_of_ble_eq_true rfl) (by omega) (by omega) (fun w2 h2 q2 => ?_) (fun _ _ q => by obtain ⟨_, q, _⟩ := q; exact q.elim)
  obtain ⟨b9, rfl, R2, hv⟩ := LS.modded kC1 sC1 dj1 ho1 oC1 oM1 q2
  obtain ⟨hC2, hM2, kC2, kM2, sC2, sM2, dj2, ho2, oC2, oM2⟩ := R2
  refine Z.istore (l' := [_, _, _, _, _, _, _]) C dL_law_335 (Nat.le_of_ble_eq_true rfl) (by rw [hN]; decide) rfl ?_
  refine Z.aload_n C dL_law_337 rfl ?_
  refine v_L_79 C hy dL_law_338 (sM2 _ _ kM2.1) (CT.frame sM2 (c_X7_thrown htr kM2 (hJM _ _ hj1).1.1)) (by decide) (Nat.le_of_ble_eq_true rfl) (by omega) (by omega) (fun w3 h3 q3 => ?_) (fun _ _ q => by obtain ⟨_, q, _⟩ := q; exact q.elim)
  obtain ⟨hm3, ⟨rfl, e3⟩, fr3⟩ := q3
  subst e3
  have R3 := fr3.mod kC2 kM2 sC2 dj2 ho2 oC2 oM2
  refine Z.iload C dL_law_341 rfl ?_
  refine Z.icmp_eq (tgt := 348) C dL_law_343 (by decide) (by omega) (by omega) (by omega) (by omega) (fun _ => ?_) (fun z => absurd rfl z)
  refine Z.iload C dL_law_348 rfl ?_
  refine Z.if_ne (tgt := 365) C dL_law_350 (by decide) (by omega) (by omega) (fun c1 => ?_) (fun c1 => ?_)
  · refine Z.goto (tgt := 1184) C dL_law_365 (by decide) ?_
    refine Z.pre (l' := [_, _, _, _, _]) 5 rfl ?_
    refine Z.widen (k' := k + 10) (n' := n + 2600) (by omega) (by omega) ?_
    exact kk _ _ _ _ _ hj1 R3
  · refine Z.aload_n C dL_law_353 rfl ?_
    refine Z.iconst C dL_law_354 ?_
    have ho3 : h3 o = some (eL ((zG_of X).2.1 4) 1 g1) := by
      obtain ⟨_, _, _, _, _, _, _, q, _, _⟩ := R3
      exact q
    refine Z.laload C dL_law_355 ho3 (by decide) (by decide) (by decide) ?_
    have eg : g1 (0 : Int).toNat = (jI b9).toInt64 := by
      rw [hv c1]
      exact hg c1
    rw [eg]
    refine Z.iload C dL_law_356 rfl ?_
    refine Z.i2l C dL_law_358 ?_
    refine Z.lcmp C dL_law_359 ?_
    rw [lg_self]
    refine Z.if_eq (tgt := 365) C dL_law_360 (by decide) (by decide) (by decide) (fun _ => ?_) (fun z => absurd rfl z)
    refine Z.goto (tgt := 1184) C dL_law_365 (by decide) ?_
    refine Z.pre (l' := [_, _, _, _, _]) 5 rfl ?_
    refine Z.widen (k' := k + 10) (n' := n + 2600) (by omega) (by omega) ?_
    exact kk _ _ _ _ _ hj1 R3

set_option maxRecDepth 100000 in
theorem blk_propose {X : zX} {y : MethodName} (hy : y.cls = RL) (C : ZC X cL_law y 12) (htr : (zLn X).stackTraces = false) (hN : zN X = 7) {sc L : Nat} {xi : Nat → Int} (hxi : ∀ j, -2147483648 ≤ xi j ∧ xi j < 2147483648) (SC : ZS X sc L xi) (hL : L ≤ 2048) {JJ : JT} (hJM : ∀ T S, JJ T S → (MB S ∧ (∀ j, S 9 j ≤ 6000) ∧ (∀ j, S 12 j ≤ S 14 0) ∧ ∀ j, S 8 j ≤ S 14 0) ∧ TB T ∧ T 1 0 = S 1 0) {b o : Nat} {a : Nat → Nat} (hop : OPC_propose (zLn X) (zG_of X) JJ b) {T S : Nat → Nat → Int} {t : Int} {f : Nat → Int64} {h : zH} {k n i : Nat} (hi : i + 4 ≤ L) (hj : JJ T S) (hls : LSx (zG_of X) b a o T S t f h) (hk : k + 10 ≤ (zR_of X).cells) (hn : n + 2600 ≤ (zR_of X).slots) (kk : ∀ (T S : Nat → Nat → Int) (t : Int) (f : Nat → Int64) (h : zH), JJ T S → LSx (zG_of X) b a o T S t f h → Z X 1184 [.ref sc, .ref b, .ref (a 0), .ref o, vI (i : Int)] [] h (k + 10) (n + 2600)) : Z X 424 [.ref sc, .ref b, .ref (a 0), .ref o, vI (i : Int)] [] h k n := by
  have I := (hJM T S hj).1.1
  obtain ⟨hC, hM, kC, kM, sC, sM, dj, ho, oC, oM⟩ := hls
  have hb7 : ∃ fs, h b = some (eO 7 fs) := by
    obtain ⟨ad, el, e0, R⟩ := kC
    have := sC _ _ R.club
    rw [e0] at this
    exact ⟨_, this⟩
  obtain ⟨fs, hb7⟩ := hb7
  have hop2 : CT (zLn X) (zG_of X) yX6_propose cX6_propose 4 (some .int) 9 [.ref b, vI (xi (i + 1)), vI (xi (i + 2)), vI (xi (i + 3))] h 3 495 (fun r9 h9 => ∃ v, r9 = some (vI v) ∧ fQ hC h (QKf JJ (zG_of X) b (cProp S (xi (i + 1)) (xi (i + 2)) (xi (i + 3))) (S 15 0) (sProp S (xi (i + 2)) (xi (i + 3)))) v h9) (fun E9 h9 => (E9 = "java/lang/IndexOutOfBoundsException" ∧ fQ hC h (QXf (zG_of X) b (cProp S (xi (i + 1)) (xi (i + 2)) (xi (i + 3))) T) 1 h9) ∨ (E9 = "java/lang/IllegalArgumentException" ∧ fQ hC h (QXf (zG_of X) b (cProp S (xi (i + 1)) (xi (i + 2)) (xi (i + 3))) T) 2 h9) ∨ (E9 = "java/lang/IllegalStateException" ∧ fQ hC h (QXf (zG_of X) b (cProp S (xi (i + 1)) (xi (i + 2)) (xi (i + 3))) T) 3 h9)) :=
    CT.mono (CT.frame sC (hop T S hC (xi (i + 1)) (xi (i + 2)) (xi (i + 3)) hj kC (hxi _) (hxi _) (hxi _))) (fun r9 h9 z => by
        obtain ⟨hm9, ⟨v0, e, q⟩, fr⟩ := z
        exact ⟨v0, e, hm9, q, fr⟩) (fun E9 h9 z => by
        obtain ⟨hm9, z, fr⟩ := z
        rcases z with ⟨e, q⟩ | ⟨e, q⟩ | ⟨e, q⟩
        · exact Or.inl ⟨e, hm9, q, fr⟩
        · exact Or.inr (Or.inl ⟨e, hm9, q, fr⟩)
        · exact Or.inr (Or.inr ⟨e, hm9, q, fr⟩))
  have hh := c_L_propose htr hb7 hop2 (fun v h9 q => by
      obtain ⟨hm9, -, fr⟩ := q
      exact ⟨f, fr.2.1 o _ oC ho⟩)
  refine Z.aload_n C dL_law_424 rfl ?_
  refine Z.aload_n C dL_law_425 rfl ?_
  refine Z.iload C dL_law_426 rfl ?_
  refine Z.iconst C dL_law_428 ?_
  refine Z.iadd C dL_law_429 ?_
  refine Z.sld (j := i + 1) C SC dL_law_430 (by omega) (by omega) ?_
  refine Z.aload_n C dL_law_431 rfl ?_
  refine Z.iload C dL_law_432 rfl ?_
  refine Z.iconst C dL_law_434 ?_
  refine Z.iadd C dL_law_435 ?_
  refine Z.sld (j := i + 2) C SC dL_law_436 (by omega) (by omega) ?_
  refine Z.aload_n C dL_law_437 rfl ?_
  refine Z.iload C dL_law_438 rfl ?_
  refine Z.iconst C dL_law_440 ?_
  refine Z.iadd C dL_law_441 ?_
  refine Z.sld (j := i + 3) C SC dL_law_442 (by omega) (by omega) ?_
  refine Z.aload_n C dL_law_443 rfl ?_
  refine h_L_96 C hy dL_law_444 hh (by decide) (Nat.le_of_ble_eq_true rfl) (by omega) (by omega) (fun w1 h1 q1 => ?_)
  obtain ⟨T1, g1, rfl, hc03, R1, hj1, hg⟩ := LS.helped hj kM sC sM dj ho oC oM q1
  refine Z.istore (l' := [_, _, _, _, _, _]) C dL_law_447 (Nat.le_of_ble_eq_true rfl) (by rw [hN]; decide) rfl ?_
  obtain ⟨hC1, hM1, kC1, kM1, sC1, sM1, dj1, ho1, oC1, oM1⟩ := R1
  refine Z.aload_n C dL_law_449 rfl ?_
  refine Z.aload_n C dL_law_450 rfl ?_
  refine Z.iload C dL_law_451 rfl ?_
  refine Z.iconst C dL_law_453 ?_
  refine Z.iadd C dL_law_454 ?_
  refine Z.sld (j := i + 1) C SC dL_law_455 (by omega) (by omega) ?_
  refine Z.aload_n C dL_law_456 rfl ?_
  refine Z.iload C dL_law_457 rfl ?_
  refine Z.iconst C dL_law_459 ?_
  refine Z.iadd C dL_law_460 ?_
  refine Z.sld (j := i + 2) C SC dL_law_461 (by omega) (by omega) ?_
  refine Z.aload_n C dL_law_462 rfl ?_
  refine Z.iload C dL_law_463 rfl ?_
  refine Z.iconst C dL_law_465 ?_
  refine Z.iadd C dL_law_466 ?_
  refine Z.sld (j := i + 3) C SC dL_law_467 (by omega) (by omega) ?_
  refine v_L_99 C hy dL_law_468 (sM1 _ _ kM1.1) (CT.frame sM1 (c_X7_propose htr kM1 I (hxi _) (hxi _) (hxi _))) (by decide) (Nat.le_of_ble_eq_true rfl) (by omega) (by omega) (fun w2 h2 q2 => ?_) (fun _ _ q => by obtain ⟨_, q, _⟩ := q; exact q.elim)
  obtain ⟨b9, rfl, R2, hv⟩ := LS.modded kC1 sC1 dj1 ho1 oC1 oM1 q2
  obtain ⟨hC2, hM2, kC2, kM2, sC2, sM2, dj2, ho2, oC2, oM2⟩ := R2
  refine Z.istore (l' := [_, _, _, _, _, _, _]) C dL_law_471 (Nat.le_of_ble_eq_true rfl) (by rw [hN]; decide) rfl ?_
  refine Z.aload_n C dL_law_473 rfl ?_
  refine v_L_79 C hy dL_law_474 (sM2 _ _ kM2.1) (CT.frame sM2 (c_X7_thrown htr kM2 (hJM _ _ hj1).1.1)) (by decide) (Nat.le_of_ble_eq_true rfl) (by omega) (by omega) (fun w3 h3 q3 => ?_) (fun _ _ q => by obtain ⟨_, q, _⟩ := q; exact q.elim)
  obtain ⟨hm3, ⟨rfl, e3⟩, fr3⟩ := q3
  subst e3
  have R3 := fr3.mod kC2 kM2 sC2 dj2 ho2 oC2 oM2
  refine Z.iload C dL_law_477 rfl ?_
  refine Z.icmp_eq (tgt := 484) C dL_law_479 (by decide) (by omega) (by omega) (by omega) (by omega) (fun _ => ?_) (fun z => absurd rfl z)
  refine Z.iload C dL_law_484 rfl ?_
  refine Z.if_ne (tgt := 501) C dL_law_486 (by decide) (by omega) (by omega) (fun c1 => ?_) (fun c1 => ?_)
  · refine Z.goto (tgt := 1184) C dL_law_501 (by decide) ?_
    refine Z.pre (l' := [_, _, _, _, _]) 5 rfl ?_
    refine Z.widen (k' := k + 10) (n' := n + 2600) (by omega) (by omega) ?_
    exact kk _ _ _ _ _ hj1 R3
  · refine Z.aload_n C dL_law_489 rfl ?_
    refine Z.iconst C dL_law_490 ?_
    have ho3 : h3 o = some (eL ((zG_of X).2.1 4) 1 g1) := by
      obtain ⟨_, _, _, _, _, _, _, q, _, _⟩ := R3
      exact q
    refine Z.laload C dL_law_491 ho3 (by decide) (by decide) (by decide) ?_
    have eg : g1 (0 : Int).toNat = (jI b9).toInt64 := by
      rw [hv c1]
      exact hg c1
    rw [eg]
    refine Z.iload C dL_law_492 rfl ?_
    refine Z.i2l C dL_law_494 ?_
    refine Z.lcmp C dL_law_495 ?_
    rw [lg_self]
    refine Z.if_eq (tgt := 501) C dL_law_496 (by decide) (by decide) (by decide) (fun _ => ?_) (fun z => absurd rfl z)
    refine Z.goto (tgt := 1184) C dL_law_501 (by decide) ?_
    refine Z.pre (l' := [_, _, _, _, _]) 5 rfl ?_
    refine Z.widen (k' := k + 10) (n' := n + 2600) (by omega) (by omega) ?_
    exact kk _ _ _ _ _ hj1 R3

