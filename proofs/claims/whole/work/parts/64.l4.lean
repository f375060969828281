set_option maxRecDepth 100000 in
theorem blk_leave {X : zX} {y : MethodName} (hy : y.cls = RL) (C : ZC X cL_law y 12) (htr : (zLn X).stackTraces = false) (hN : zN X = 7) {sc L : Nat} {xi : Nat → Int} (hxi : ∀ j, -2147483648 ≤ xi j ∧ xi j < 2147483648) (SC : ZS X sc L xi) (hL : L ≤ 2048) {JJ : JT} (hJM : ∀ T S, JJ T S → (MB S ∧ (∀ j, S 9 j ≤ 6000) ∧ (∀ j, S 12 j ≤ S 14 0) ∧ ∀ j, S 8 j ≤ S 14 0) ∧ TB T ∧ T 1 0 = S 1 0) {b o : Nat} {a : Nat → Nat} (hop : OPC_leave (zLn X) (zG_of X) JJ b) {T S : Nat → Nat → Int} {t : Int} {f : Nat → Int64} {h : zH} {k n i : Nat} (hi : i + 4 ≤ L) (hj : JJ T S) (hls : LSx (zG_of X) b a o T S t f h) (hk : k + 10 ≤ (zR_of X).cells) (hn : n + 2600 ≤ (zR_of X).slots) (kk : ∀ (T S : Nat → Nat → Int) (t : Int) (f : Nat → Int64) (h : zH), JJ T S → LSx (zG_of X) b a o T S t f h → Z X 1184 [.ref sc, .ref b, .ref (a 0), .ref o, vI (i : Int)] [] h (k + 10) (n + 2600)) : Z X 188 [.ref sc, .ref b, .ref (a 0), .ref o, vI (i : Int)] [] h k n := by
  have I := (hJM T S hj).1.1
  obtain ⟨hC, hM, kC, kM, sC, sM, dj, ho, oC, oM⟩ := hls
  have hb7 : ∃ fs, h b = some (eO 7 fs) := by
    obtain ⟨ad, el, e0, R⟩ := kC
    have := sC _ _ R.club
    rw [e0] at this
    exact ⟨_, this⟩
  obtain ⟨fs, hb7⟩ := hb7
  have hop2 : CT (zLn X) (zG_of X) yX6_leave cX6_leave 6 (some .int) 10 [.ref b, vI (xi (i + 1))] h 3 502 (fun r9 h9 => ∃ v, r9 = some (vI v) ∧ fQ hC h (QKf JJ (zG_of X) b (cLeave S (xi (i + 1))) (sLeave S (xi (i + 1)).toNat 7 (xi (i + 1)).toNat) (sLeave S (xi (i + 1)).toNat)) v h9) (fun E9 h9 => (E9 = "java/lang/IndexOutOfBoundsException" ∧ fQ hC h (QXf (zG_of X) b (cLeave S (xi (i + 1))) T) 1 h9) ∨ (E9 = "java/lang/IllegalStateException" ∧ fQ hC h (QXf (zG_of X) b (cLeave S (xi (i + 1))) T) 2 h9)) :=
    CT.mono (CT.frame sC (hop T S hC (xi (i + 1)) hj kC (hxi _))) (fun r9 h9 z => by
        obtain ⟨hm9, ⟨v0, e, q⟩, fr⟩ := z
        exact ⟨v0, e, hm9, q, fr⟩) (fun E9 h9 z => by
        obtain ⟨hm9, z, fr⟩ := z
        rcases z with ⟨e, q⟩ | ⟨e, q⟩
        · exact Or.inl ⟨e, hm9, q, fr⟩
        · exact Or.inr ⟨e, hm9, q, fr⟩)
  have hh := c_L_leave htr hb7 hop2 (fun v h9 q => by
      obtain ⟨hm9, -, fr⟩ := q
      exact ⟨f, fr.2.1 o _ oC ho⟩)
  refine Z.aload_n C dL_law_188 rfl ?_
  refine Z.aload_n C dL_law_189 rfl ?_
  refine Z.iload C dL_law_190 rfl ?_
  refine Z.iconst C dL_law_192 ?_
  refine Z.iadd C dL_law_193 ?_
  refine Z.sld (j := i + 1) C SC dL_law_194 (by omega) (by omega) ?_
  refine Z.aload_n C dL_law_195 rfl ?_
  refine h_L_83 C hy dL_law_196 hh (by decide) (Nat.le_of_ble_eq_true rfl) (by omega) (by omega) (fun w1 h1 q1 => ?_)
  obtain ⟨T1, g1, rfl, hc03, R1, hj1, hg⟩ := LS.helped hj kM sC sM dj ho oC oM q1
  refine Z.istore (l' := [_, _, _, _, _, _]) C dL_law_199 (Nat.le_of_ble_eq_true rfl) (by rw [hN]; decide) rfl ?_
  obtain ⟨hC1, hM1, kC1, kM1, sC1, sM1, dj1, ho1, oC1, oM1⟩ := R1
  refine Z.aload_n C dL_law_201 rfl ?_
  refine Z.aload_n C dL_law_202 rfl ?_
  refine Z.iload C dL_law_203 rfl ?_
  refine Z.iconst C dL_law_205 ?_
  refine Z.iadd C dL_law_206 ?_
  refine Z.sld (j := i + 1) C SC dL_law_207 (by omega) (by omega) ?_
  refine v_L_86 C hy dL_law_208 (sM1 _ _ kM1.1) (CT.frame sM1 (c_X7_leave htr kM1 I (hxi _))) (by decide) (Nat.le_of_ble_eq_true rfl) (by omega) (by omega) (fun w2 h2 q2 => ?_) (fun _ _ q => by obtain ⟨_, q, _⟩ := q; exact q.elim)
  obtain ⟨b9, rfl, R2, hv⟩ := LS.modded kC1 sC1 dj1 ho1 oC1 oM1 q2
  obtain ⟨hC2, hM2, kC2, kM2, sC2, sM2, dj2, ho2, oC2, oM2⟩ := R2
  refine Z.istore (l' := [_, _, _, _, _, _, _]) C dL_law_211 (Nat.le_of_ble_eq_true rfl) (by rw [hN]; decide) rfl ?_
  refine Z.aload_n C dL_law_213 rfl ?_
  refine v_L_79 C hy dL_law_214 (sM2 _ _ kM2.1) (CT.frame sM2 (c_X7_thrown htr kM2 (hJM _ _ hj1).1.1)) (by decide) (Nat.le_of_ble_eq_true rfl) (by omega) (by omega) (fun w3 h3 q3 => ?_) (fun _ _ q => by obtain ⟨_, q, _⟩ := q; exact q.elim)
  obtain ⟨hm3, ⟨rfl, e3⟩, fr3⟩ := q3
  subst e3
  have R3 := fr3.mod kC2 kM2 sC2 dj2 ho2 oC2 oM2
  refine Z.iload C dL_law_217 rfl ?_
  refine Z.icmp_eq (tgt := 224) C dL_law_219 (by decide) (by omega) (by omega) (by omega) (by omega) (fun _ => ?_) (fun z => absurd rfl z)
  refine Z.iload C dL_law_224 rfl ?_
  refine Z.if_ne (tgt := 241) C dL_law_226 (by decide) (by omega) (by omega) (fun c1 => ?_) (fun c1 => ?_)
  · refine Z.goto (tgt := 1184) C dL_law_241 (by decide) ?_
    refine Z.pre (l' := [_, _, _, _, _]) 5 rfl ?_
    refine Z.widen (k' := k + 10) (n' := n + 2600) (by omega) (by omega) ?_
    exact kk _ _ _ _ _ hj1 R3
  · refine Z.aload_n C dL_law_229 rfl ?_
    refine Z.iconst C dL_law_230 ?_
    have ho3 : h3 o = some (eL ((zG_of X).2.1 4) 1 g1) := by
      obtain ⟨_, _, _, _, _, _, _, q, _, _⟩ := R3
      exact q
    refine Z.laload C dL_law_231 ho3 (by decide) (by decide) (by decide) ?_
    have eg : g1 (0 : Int).toNat = (jI b9).toInt64 := by
      rw [hv c1]
      exact hg c1
    rw [eg]
    refine Z.iload C dL_law_232 rfl ?_
    refine Z.i2l C dL_law_234 ?_
    refine Z.lcmp C dL_law_235 ?_
    rw [lg_self]
    refine Z.if_eq (tgt := 241) C dL_law_236 (by decide) (by decide) (by decide) (fun _ => ?_) (fun z => absurd rfl z)
    refine Z.goto (tgt := 1184) C dL_law_241 (by decide) ?_
    refine Z.pre (l' := [_, _, _, _, _]) 5 rfl ?_
    refine Z.widen (k' := k + 10) (n' := n + 2600) (by omega) (by omega) ?_
    exact kk _ _ _ _ _ hj1 R3

set_option maxRecDepth 100000 in
theorem blk_film {X : zX} {y : MethodName} (hy : y.cls = RL) (C : ZC X cL_law y 12) (htr : (zLn X).stackTraces = false) (hN : zN X = 7) {sc L : Nat} {xi : Nat → Int} (hxi : ∀ j, -2147483648 ≤ xi j ∧ xi j < 2147483648) (SC : ZS X sc L xi) (hL : L ≤ 2048) {JJ : JT} (hJM : ∀ T S, JJ T S → (MB S ∧ (∀ j, S 9 j ≤ 6000) ∧ (∀ j, S 12 j ≤ S 14 0) ∧ ∀ j, S 8 j ≤ S 14 0) ∧ TB T ∧ T 1 0 = S 1 0) {b o : Nat} {a : Nat → Nat} (hop : OPC_film (zLn X) (zG_of X) JJ b) {T S : Nat → Nat → Int} {t : Int} {f : Nat → Int64} {h : zH} {k n i : Nat} (hi : i + 4 ≤ L) (hj : JJ T S) (hls : LSx (zG_of X) b a o T S t f h) (hk : k + 10 ≤ (zR_of X).cells) (hn : n + 2600 ≤ (zR_of X).slots) (kk : ∀ (T S : Nat → Nat → Int) (t : Int) (f : Nat → Int64) (h : zH), JJ T S → LSx (zG_of X) b a o T S t f h → Z X 1184 [.ref sc, .ref b, .ref (a 0), .ref o, vI (i : Int)] [] h (k + 10) (n + 2600)) : Z X 244 [.ref sc, .ref b, .ref (a 0), .ref o, vI (i : Int)] [] h k n := by
  have I := (hJM T S hj).1.1
  obtain ⟨hC, hM, kC, kM, sC, sM, dj, ho, oC, oM⟩ := hls
  have hb7 : ∃ fs, h b = some (eO 7 fs) := by
    obtain ⟨ad, el, e0, R⟩ := kC
    have := sC _ _ R.club
    rw [e0] at this
    exact ⟨_, this⟩
  obtain ⟨fs, hb7⟩ := hb7
  have hop2 : CT (zLn X) (zG_of X) yX6_film cX6_film 2 (some .int) 9 [.ref b, vI (xi (i + 1))] h 2 482 (fun r9 h9 => ∃ v, r9 = some (vI v) ∧ fQ hC h (QKf JJ (zG_of X) b (cFilm S (xi (i + 1))) (S 10 0) (sFilm S (xi (i + 1)))) v h9) (fun E9 h9 => (E9 = "java/lang/IllegalArgumentException" ∧ fQ hC h (QXf (zG_of X) b (cFilm S (xi (i + 1))) T) 1 h9) ∨ (E9 = "java/lang/IllegalStateException" ∧ fQ hC h (QXf (zG_of X) b (cFilm S (xi (i + 1))) T) 2 h9)) :=
    CT.mono (CT.frame sC (hop T S hC (xi (i + 1)) hj kC (hxi _))) (fun r9 h9 z => by
        obtain ⟨hm9, ⟨v0, e, q⟩, fr⟩ := z
        exact ⟨v0, e, hm9, q, fr⟩) (fun E9 h9 z => by
        obtain ⟨hm9, z, fr⟩ := z
        rcases z with ⟨e, q⟩ | ⟨e, q⟩
        · exact Or.inl ⟨e, hm9, q, fr⟩
        · exact Or.inr ⟨e, hm9, q, fr⟩)
  have hh := c_L_film htr hb7 hop2 (fun v h9 q => by
      obtain ⟨hm9, -, fr⟩ := q
      exact ⟨f, fr.2.1 o _ oC ho⟩)
  refine Z.aload_n C dL_law_244 rfl ?_
  refine Z.aload_n C dL_law_245 rfl ?_
  refine Z.iload C dL_law_246 rfl ?_
  refine Z.iconst C dL_law_248 ?_
  refine Z.iadd C dL_law_249 ?_
  refine Z.sld (j := i + 1) C SC dL_law_250 (by omega) (by omega) ?_
  refine Z.aload_n C dL_law_251 rfl ?_
  refine h_L_87 C hy dL_law_252 hh (by decide) (Nat.le_of_ble_eq_true rfl) (by omega) (by omega) (fun w1 h1 q1 => ?_)
  obtain ⟨T1, g1, rfl, hc03, R1, hj1, hg⟩ := LS.helped hj kM sC sM dj ho oC oM q1
  refine Z.istore (l' := [_, _, _, _, _, _]) C dL_law_255 (Nat.le_of_ble_eq_true rfl) (by rw [hN]; decide) rfl ?_
  obtain ⟨hC1, hM1, kC1, kM1, sC1, sM1, dj1, ho1, oC1, oM1⟩ := R1
  refine Z.aload_n C dL_law_257 rfl ?_
  refine Z.aload_n C dL_law_258 rfl ?_
  refine Z.iload C dL_law_259 rfl ?_
  refine Z.iconst C dL_law_261 ?_
  refine Z.iadd C dL_law_262 ?_
  refine Z.sld (j := i + 1) C SC dL_law_263 (by omega) (by omega) ?_
  refine v_L_89 C hy dL_law_264 (sM1 _ _ kM1.1) (CT.frame sM1 (c_X7_film htr kM1 I (hxi _))) (by decide) (Nat.le_of_ble_eq_true rfl) (by omega) (by omega) (fun w2 h2 q2 => ?_) (fun _ _ q => by obtain ⟨_, q, _⟩ := q; exact q.elim)
  obtain ⟨b9, rfl, R2, hv⟩ := LS.modded kC1 sC1 dj1 ho1 oC1 oM1 q2
  obtain ⟨hC2, hM2, kC2, kM2, sC2, sM2, dj2, ho2, oC2, oM2⟩ := R2
  refine Z.istore (l' := [_, _, _, _, _, _, _]) C dL_law_267 (Nat.le_of_ble_eq_true rfl) (by rw [hN]; decide) rfl ?_
  refine Z.aload_n C dL_law_269 rfl ?_
  refine v_L_79 C hy dL_law_270 (sM2 _ _ kM2.1) (CT.frame sM2 (c_X7_thrown htr kM2 (hJM _ _ hj1).1.1)) (by decide) (Nat.le_of_ble_eq_true rfl) (by omega) (by omega) (fun w3 h3 q3 => ?_) (fun _ _ q => by obtain ⟨_, q, _⟩ := q; exact q.elim)
  obtain ⟨hm3, ⟨rfl, e3⟩, fr3⟩ := q3
  subst e3
  have R3 := fr3.mod kC2 kM2 sC2 dj2 ho2 oC2 oM2
  refine Z.iload C dL_law_273 rfl ?_
  refine Z.icmp_eq (tgt := 280) C dL_law_275 (by decide) (by omega) (by omega) (by omega) (by omega) (fun _ => ?_) (fun z => absurd rfl z)
  refine Z.iload C dL_law_280 rfl ?_
  refine Z.if_ne (tgt := 297) C dL_law_282 (by decide) (by omega) (by omega) (fun c1 => ?_) (fun c1 => ?_)
  · refine Z.goto (tgt := 1184) C dL_law_297 (by decide) ?_
    refine Z.pre (l' := [_, _, _, _, _]) 5 rfl ?_
    refine Z.widen (k' := k + 10) (n' := n + 2600) (by omega) (by omega) ?_
    exact kk _ _ _ _ _ hj1 R3
  · refine Z.aload_n C dL_law_285 rfl ?_
    refine Z.iconst C dL_law_286 ?_
    have ho3 : h3 o = some (eL ((zG_of X).2.1 4) 1 g1) := by
      obtain ⟨_, _, _, _, _, _, _, q, _, _⟩ := R3
      exact q
    refine Z.laload C dL_law_287 ho3 (by decide) (by decide) (by decide) ?_
    have eg : g1 (0 : Int).toNat = (jI b9).toInt64 := by
      rw [hv c1]
      exact hg c1
    rw [eg]
    refine Z.iload C dL_law_288 rfl ?_
    refine Z.i2l C dL_law_290 ?_
    refine Z.lcmp C dL_law_291 ?_
    rw [lg_self]
    refine Z.if_eq (tgt := 297) C dL_law_292 (by decide) (by decide) (by decide) (fun _ => ?_) (fun z => absurd rfl z)
    refine Z.goto (tgt := 1184) C dL_law_297 (by decide) ?_
    refine Z.pre (l' := [_, _, _, _, _]) 5 rfl ?_
    refine Z.widen (k' := k + 10) (n' := n + 2600) (by omega) (by omega) ?_
    exact kk _ _ _ _ _ hj1 R3

set_option maxRecDepth 100000 in
theorem blk_pass {X : zX} {y : MethodName} (hy : y.cls = RL) (C : ZC X cL_law y 12) (htr : (zLn X).stackTraces = false) (hN : zN X = 7) {sc L : Nat} {xi : Nat → Int} (hxi : ∀ j, -2147483648 ≤ xi j ∧ xi j < 2147483648) (SC : ZS X sc L xi) (hL : L ≤ 2048) {JJ : JT} (hJM : ∀ T S, JJ T S → (MB S ∧ (∀ j, S 9 j ≤ 6000) ∧ (∀ j, S 12 j ≤ S 14 0) ∧ ∀ j, S 8 j ≤ S 14 0) ∧ TB T ∧ T 1 0 = S 1 0) {b o : Nat} {a : Nat → Nat} (hop : OPC_pass (zLn X) (zG_of X) JJ b) {T S : Nat → Nat → Int} {t : Int} {f : Nat → Int64} {h : zH} {k n i : Nat} (hi : i + 4 ≤ L) (hj : JJ T S) (hls : LSx (zG_of X) b a o T S t f h) (hk : k + 10 ≤ (zR_of X).cells) (hn : n + 2600 ≤ (zR_of X).slots) (kk : ∀ (T S : Nat → Nat → Int) (t : Int) (f : Nat → Int64) (h : zH), JJ T S → LSx (zG_of X) b a o T S t f h → Z X 1184 [.ref sc, .ref b, .ref (a 0), .ref o, vI (i : Int)] [] h (k + 10) (n + 2600)) : Z X 368 [.ref sc, .ref b, .ref (a 0), .ref o, vI (i : Int)] [] h k n := by
  have I := (hJM T S hj).1.1
  obtain ⟨hC, hM, kC, kM, sC, sM, dj, ho, oC, oM⟩ := hls
  have hb7 : ∃ fs, h b = some (eO 7 fs) := by
    obtain ⟨ad, el, e0, R⟩ := kC
    have := sC _ _ R.club
    rw [e0] at this
    exact ⟨_, this⟩
  obtain ⟨fs, hb7⟩ := hb7
  have hop2 : CT (zLn X) (zG_of X) yX6_pass cX6_pass 3 (some .int) 6 [.ref b, vI (xi (i + 1))] h 1 6 (fun r9 h9 => ∃ v, r9 = some (vI v) ∧ fQ hC h (QKf JJ (zG_of X) b (cPass S (xi (i + 1))) (S 1 0 + (xi (i + 1))) (sPass S (xi (i + 1)))) v h9) (fun E9 h9 => (E9 = "java/lang/IllegalArgumentException" ∧ fQ hC h (QXf (zG_of X) b (cPass S (xi (i + 1))) T) 1 h9) ∨ (E9 = "java/lang/IllegalStateException" ∧ fQ hC h (QXf (zG_of X) b (cPass S (xi (i + 1))) T) 2 h9)) :=
    CT.mono (CT.frame sC (hop T S hC (xi (i + 1)) hj kC (hxi _))) (fun r9 h9 z => by
        obtain ⟨hm9, ⟨v0, e, q⟩, fr⟩ := z
        exact ⟨v0, e, hm9, q, fr⟩) (fun E9 h9 z => by
        obtain ⟨hm9, z, fr⟩ := z
        rcases z with ⟨e, q⟩ | ⟨e, q⟩
        · exact Or.inl ⟨e, hm9, q, fr⟩
        · exact Or.inr ⟨e, hm9, q, fr⟩)
  have hh := c_L_pass htr hb7 hop2 (fun v h9 q => by
      obtain ⟨hm9, -, fr⟩ := q
      exact ⟨f, fr.2.1 o _ oC ho⟩)
  refine Z.aload_n C dL_law_368 rfl ?_
  refine Z.aload_n C dL_law_369 rfl ?_
  refine Z.iload C dL_law_370 rfl ?_
  refine Z.iconst C dL_law_372 ?_
  refine Z.iadd C dL_law_373 ?_
  refine Z.sld (j := i + 1) C SC dL_law_374 (by omega) (by omega) ?_
  refine Z.aload_n C dL_law_375 rfl ?_
  refine h_L_93 C hy dL_law_376 hh (by decide) (Nat.le_of_ble_eq_true rfl) (by omega) (by omega) (fun w1 h1 q1 => ?_)
  obtain ⟨T1, g1, rfl, hc03, R1, hj1, hg⟩ := LS.helped hj kM sC sM dj ho oC oM q1
  refine Z.istore (l' := [_, _, _, _, _, _]) C dL_law_379 (Nat.le_of_ble_eq_true rfl) (by rw [hN]; decide) rfl ?_
  obtain ⟨hC1, hM1, kC1, kM1, sC1, sM1, dj1, ho1, oC1, oM1⟩ := R1
  refine Z.aload_n C dL_law_381 rfl ?_
  refine Z.aload_n C dL_law_382 rfl ?_
  refine Z.iload C dL_law_383 rfl ?_
  refine Z.iconst C dL_law_385 ?_
  refine Z.iadd C dL_law_386 ?_
  refine Z.sld (j := i + 1) C SC dL_law_387 (by omega) (by omega) ?_
  refine v_L_95 C hy dL_law_388 (sM1 _ _ kM1.1) (CT.frame sM1 (c_X7_pass htr kM1 I (hxi _))) (by decide) (Nat.le_of_ble_eq_true rfl) (by omega) (by omega) (fun w2 h2 q2 => ?_) (fun _ _ q => by obtain ⟨_, q, _⟩ := q; exact q.elim)
  obtain ⟨b9, rfl, R2, hv⟩ := LS.modded kC1 sC1 dj1 ho1 oC1 oM1 q2
  obtain ⟨hC2, hM2, kC2, kM2, sC2, sM2, dj2, ho2, oC2, oM2⟩ := R2
  refine Z.istore (l' := [_, _, _, _, _, _, _]) C dL_law_391 (Nat.le_of_ble_eq_true rfl) (by rw [hN]; decide) rfl ?_
  refine Z.aload_n C dL_law_393 rfl ?_
  refine v_L_79 C hy dL_law_394 (sM2 _ _ kM2.1) (CT.frame sM2 (c_X7_thrown htr kM2 (hJM _ _ hj1).1.1)) (by decide) (Nat.le_of_ble_eq_true rfl) (by omega) (by omega) (fun w3 h3 q3 => ?_) (fun _ _ q => by obtain ⟨_, q, _⟩ := q; exact q.elim)
  obtain ⟨hm3, ⟨rfl, e3⟩, fr3⟩ := q3
  subst e3
  have R3 := fr3.mod kC2 kM2 sC2 dj2 ho2 oC2 oM2
  refine Z.iload C dL_law_397 rfl ?_
  refine Z.icmp_eq (tgt := 404) C dL_law_399 (by decide) (by omega) (by omega) (by omega) (by omega) (fun _ => ?_) (fun z => absurd rfl z)
  refine Z.iload C dL_law_404 rfl ?_
  refine Z.if_ne (tgt := 421) C dL_law_406 (by decide) (by omega) (by omega) (fun c1 => ?_) (fun c1 => ?_)
  · refine Z.goto (tgt := 1184) C dL_law_421 (by decide) ?_
    refine Z.pre (l' := [_, _, _, _, _]) 5 rfl ?_
    refine Z.widen (k' := k + 10) (n' := n + 2600) (by omega) (by omega) ?_
    exact kk _ _ _ _ _ hj1 R3
  · refine Z.aload_n C dL_law_409 rfl ?_
    refine Z.iconst C dL_law_410 ?_
    have ho3 : h3 o = some (eL ((zG_of X).2.1 4) 1 g1) := by
      obtain ⟨_, _, _, _, _, _, _, q, _, _⟩ := R3
      exact q
    refine Z.laload C dL_law_411 ho3 (by decide) (by decide) (by decide) ?_
    have eg : g1 (0 : Int).toNat = (jI b9).toInt64 := by
      rw [hv c1]
      exact hg c1
    rw [eg]
    refine Z.iload C dL_law_412 rfl ?_
    refine Z.i2l C dL_law_414 ?_
    refine Z.lcmp C dL_law_415 ?_
    rw [lg_self]
    refine Z.if_eq (tgt := 421) C dL_law_416 (by decide) (by decide) (by decide) (fun _ => ?_) (fun z => absurd rfl z)
    refine Z.goto (tgt := 1184) C dL_law_421 (by decide) ?_
    refine Z.pre (l' := [_, _, _, _, _]) 5 rfl ?_
    refine Z.widen (k' := k + 10) (n' := n + 2600) (by omega) (by omega) ?_
    exact kk _ _ _ _ _ hj1 R3

set_option maxRecDepth 100000 in
theorem blk_rule {X : zX} {y : MethodName} (hy : y.cls = RL) (C : ZC X cL_law y 12) (htr : (zLn X).stackTraces = false) (hN : zN X = 7) {sc L : Nat} {xi : Nat → Int} (hxi : ∀ j, -2147483648 ≤ xi j ∧ xi j < 2147483648) (SC : ZS X sc L xi) (hL : L ≤ 2048) {JJ : JT} (hJM : ∀ T S, JJ T S → (MB S ∧ (∀ j, S 9 j ≤ 6000) ∧ (∀ j, S 12 j ≤ S 14 0) ∧ ∀ j, S 8 j ≤ S 14 0) ∧ TB T ∧ T 1 0 = S 1 0) {b o : Nat} {a : Nat → Nat} (hop : OPC_rule (zLn X) (zG_of X) JJ b) {T S : Nat → Nat → Int} {t : Int} {f : Nat → Int64} {h : zH} {k n i : Nat} (hi : i + 4 ≤ L) (hj : JJ T S) (hls : LSx (zG_of X) b a o T S t f h) (hk : k + 10 ≤ (zR_of X).cells) (hn : n + 2600 ≤ (zR_of X).slots) (kk : ∀ (T S : Nat → Nat → Int) (t : Int) (f : Nat → Int64) (h : zH), JJ T S → LSx (zG_of X) b a o T S t f h → Z X 1184 [.ref sc, .ref b, .ref (a 0), .ref o, vI (i : Int)] [] h (k + 10) (n + 2600)) : Z X 600 [.ref sc, .ref b, .ref (a 0), .ref o, vI (i : Int)] [] h k n := by
  have I := (hJM T S hj).1.1
  obtain ⟨hC, hM, kC, kM, sC, sM, dj, ho, oC, oM⟩ := hls
  have hb7 : ∃ fs, h b = some (eO 7 fs) := by
    obtain ⟨ad, el, e0, R⟩ := kC
    have := sC _ _ R.club
    rw [e0] at this
    exact ⟨_, this⟩
  obtain ⟨fs, hb7⟩ := hb7
  have hop2 : CT (zLn X) (zG_of X) yX6_rule cX6_rule 2 (some .int) 7 [.ref b, vI (xi (i + 1))] h 1 6 (fun r9 h9 => ∃ v, r9 = some (vI v) ∧ fQ hC h (QKf JJ (zG_of X) b (cRule (xi (i + 1))) (mval S (xi (i + 1))) (S)) v h9) (fun E9 h9 => (E9 = "java/lang/IndexOutOfBoundsException" ∧ fQ hC h (QXf (zG_of X) b (cRule (xi (i + 1))) T) 1 h9)) :=
    CT.mono (CT.frame sC (hop T S hC (xi (i + 1)) hj kC (hxi _))) (fun r9 h9 z => by
        obtain ⟨hm9, ⟨v0, e, q⟩, fr⟩ := z
        exact ⟨v0, e, hm9, q, fr⟩) (fun E9 h9 z => by
        obtain ⟨hm9, ⟨e, q⟩, fr⟩ := z
        exact ⟨e, hm9, q, fr⟩)
  have hh := c_L_rule htr hb7 hop2 (fun v h9 q => by
      obtain ⟨hm9, -, fr⟩ := q
      exact ⟨f, fr.2.1 o _ oC ho⟩)
  refine Z.aload_n C dL_law_600 rfl ?_
  refine Z.aload_n C dL_law_601 rfl ?_
  refine Z.iload C dL_law_602 rfl ?_
  refine Z.iconst C dL_law_604 ?_
  refine Z.iadd C dL_law_605 ?_
  refine Z.sld (j := i + 1) C SC dL_law_606 (by omega) (by omega) ?_
  refine Z.aload_n C dL_law_607 rfl ?_
  refine h_L_104 C hy dL_law_608 hh (by decide) (Nat.le_of_ble_eq_true rfl) (by omega) (by omega) (fun w1 h1 q1 => ?_)
  obtain ⟨T1, g1, rfl, hc03, R1, hj1, hg⟩ := LS.helped hj kM sC sM dj ho oC oM q1
  refine Z.istore (l' := [_, _, _, _, _, _]) C dL_law_611 (Nat.le_of_ble_eq_true rfl) (by rw [hN]; decide) rfl ?_
  obtain ⟨hC1, hM1, kC1, kM1, sC1, sM1, dj1, ho1, oC1, oM1⟩ := R1
  refine Z.aload_n C dL_law_613 rfl ?_
  refine Z.aload_n C dL_law_614 rfl ?_
  refine Z.iload C dL_law_615 rfl ?_
  refine Z.iconst C dL_law_617 ?_
  refine Z.iadd C dL_law_618 ?_
  refine Z.sld (j := i + 1) C SC dL_law_619 (by omega) (by omega) ?_
  refine v_L_106 C hy dL_law_620 (sM1 _ _ kM1.1) (CT.frame sM1 (c_X7_rule htr kM1 I (hxi _))) (by decide) (Nat.le_of_ble_eq_true rfl) (by omega) (by omega) (fun w2 h2 q2 => ?_) (fun _ _ q => by obtain ⟨_, q, _⟩ := q; exact q.elim)
  obtain ⟨b9, rfl, R2, hv⟩ := LS.modded kC1 sC1 dj1 ho1 oC1 oM1 q2
  obtain ⟨hC2, hM2, kC2, kM2, sC2, sM2, dj2, ho2, oC2, oM2⟩ := R2
  refine Z.istore (l' := [_, _, _, _, _, _, _]) C dL_law_623 (Nat.le_of_ble_eq_true rfl) (by rw [hN]; decide) rfl ?_
  refine Z.aload_n C dL_law_625 rfl ?_
  refine v_L_79 C hy dL_law_626 (sM2 _ _ kM2.1) (CT.frame sM2 (c_X7_thrown htr kM2 (hJM _ _ hj1).1.1)) (by decide) (Nat.le_of_ble_eq_true rfl) (by omega) (by omega) (fun w3 h3 q3 => ?_) (fun _ _ q => by obtain ⟨_, q, _⟩ := q; exact q.elim)
  obtain ⟨hm3, ⟨rfl, e3⟩, fr3⟩ := q3
  subst e3
  have R3 := fr3.mod kC2 kM2 sC2 dj2 ho2 oC2 oM2
  refine Z.iload C dL_law_629 rfl ?_
  refine Z.icmp_eq (tgt := 636) C dL_law_631 (by decide) (by omega) (by omega) (by omega) (by omega) (fun _ => ?_) (fun z => absurd rfl z)
  refine Z.iload C dL_law_636 rfl ?_
  refine Z.if_ne (tgt := 653) C dL_law_638 (by decide) (by omega) (by omega) (fun c1 => ?_) (fun c1 => ?_)
  · refine Z.goto (tgt := 1184) C dL_law_653 (by decide) ?_
    refine Z.pre (l' := [_, _, _, _, _]) 5 rfl ?_
    refine Z.widen (k' := k + 10) (n' := n + 2600) (by omega) (by omega) ?_
    exact kk _ _ _ _ _ hj1 R3
  · refine Z.aload_n C dL_law_641 rfl ?_
    refine Z.iconst C dL_law_642 ?_
    have ho3 : h3 o = some (eL ((zG_of X).2.1 4) 1 g1) := by
      obtain ⟨_, _, _, _, _, _, _, q, _, _⟩ := R3
      exact q
    refine Z.laload C dL_law_643 ho3 (by decide) (by decide) (by decide) ?_
    have eg : g1 (0 : Int).toNat = (jI b9).toInt64 := by
      rw [hv c1]
      exact hg c1
    rw [eg]
    refine Z.iload C dL_law_644 rfl ?_
    refine Z.i2l C dL_law_646 ?_
    refine Z.lcmp C dL_law_647 ?_
    rw [lg_self]
    refine Z.if_eq (tgt := 653) C dL_law_648 (by decide) (by decide) (by decide) (fun _ => ?_) (fun z => absurd rfl z)
    refine Z.goto (tgt := 1184) C dL_law_653 (by decide) ?_
    refine Z.pre (l' := [_, _, _, _, _]) 5 rfl ?_
    refine Z.widen (k' := k + 10) (n' := n + 2600) (by omega) (by omega) ?_
    exact kk _ _ _ _ _ hj1 R3

set_option maxRecDepth 100000 in
theorem blk_proposal {X : zX} {y : MethodName} (hy : y.cls = RL) (C : ZC X cL_law y 12) (htr : (zLn X).stackTraces = false) (hN : zN X = 7) {sc L : Nat} {xi : Nat → Int} (hxi : ∀ j, -2147483648 ≤ xi j ∧ xi j < 2147483648) (SC : ZS X sc L xi) (hL : L ≤ 2048) {JJ : JT} (hJM : ∀ T S, JJ T S → (MB S ∧ (∀ j, S 9 j ≤ 6000) ∧ (∀ j, S 12 j ≤ S 14 0) ∧ ∀ j, S 8 j ≤ S 14 0) ∧ TB T ∧ T 1 0 = S 1 0) {b o : Nat} {a : Nat → Nat} (hop : OPC_proposal (zLn X) (zG_of X) JJ b) {T S : Nat → Nat → Int} {t : Int} {f : Nat → Int64} {h : zH} {k n i : Nat} (hi : i + 4 ≤ L) (hj : JJ T S) (hls : LSx (zG_of X) b a o T S t f h) (hk : k + 10 ≤ (zR_of X).cells) (hn : n + 2600 ≤ (zR_of X).slots) (kk : ∀ (T S : Nat → Nat → Int) (t : Int) (f : Nat → Int64) (h : zH), JJ T S → LSx (zG_of X) b a o T S t f h → Z X 1184 [.ref sc, .ref b, .ref (a 0), .ref o, vI (i : Int)] [] h (k + 10) (n + 2600)) : Z X 656 [.ref sc, .ref b, .ref (a 0), .ref o, vI (i : Int)] [] h k n := by
  have I := (hJM T S hj).1.1
  obtain ⟨hC, hM, kC, kM, sC, sM, dj, ho, oC, oM⟩ := hls
  have hb7 : ∃ fs, h b = some (eO 7 fs) := by
    obtain ⟨ad, el, e0, R⟩ := kC
    have := sC _ _ R.club
    rw [e0] at this
    exact ⟨_, this⟩
  obtain ⟨fs, hb7⟩ := hb7
  have hop2 : CT (zLn X) (zG_of X) yX6_proposal cX6_proposal 4 (some .int) 7 [.ref b, vI (xi (i + 1)), vI (xi (i + 2))] h 1 6 (fun r9 h9 => ∃ v, r9 = some (vI v) ∧ fQ hC h (QKf JJ (zG_of X) b (cPpl S (xi (i + 1)) (xi (i + 2))) (vPpl S (xi (i + 1)).toNat (xi (i + 2))) (S)) v h9) (fun E9 h9 => (E9 = "java/lang/IndexOutOfBoundsException" ∧ fQ hC h (QXf (zG_of X) b (cPpl S (xi (i + 1)) (xi (i + 2))) T) 1 h9) ∨ (E9 = "java/lang/IllegalArgumentException" ∧ fQ hC h (QXf (zG_of X) b (cPpl S (xi (i + 1)) (xi (i + 2))) T) 2 h9)) :=
    CT.mono (CT.frame sC (hop T S hC (xi (i + 1)) (xi (i + 2)) hj kC (hxi _) (hxi _))) (fun r9 h9 z => by
        obtain ⟨hm9, ⟨v0, e, q⟩, fr⟩ := z
        exact ⟨v0, e, hm9, q, fr⟩) (fun E9 h9 z => by
        obtain ⟨hm9, z, fr⟩ := z
        rcases z with ⟨e, q⟩ | ⟨e, q⟩
        · exact Or.inl ⟨e, hm9, q, fr⟩
        · exact Or.inr ⟨e, hm9, q, fr⟩)
  have hh := c_L_proposal htr hb7 hop2 (fun v h9 q => by
      obtain ⟨hm9, -, fr⟩ := q
      exact ⟨f, fr.2.1 o _ oC ho⟩)
  refine Z.aload_n C dL_law_656 rfl ?_
  refine Z.aload_n C dL_law_657 rfl ?_
  refine Z.iload C dL_law_658 rfl ?_
  refine Z.iconst C dL_law_660 ?_
  refine Z.iadd C dL_law_661 ?_
  refine Z.sld (j := i + 1) C SC dL_law_662 (by omega) (by omega) ?_
  refine Z.aload_n C dL_law_663 rfl ?_
  refine Z.iload C dL_law_664 rfl ?_
  refine Z.iconst C dL_law_666 ?_
  refine Z.iadd C dL_law_667 ?_
  refine Z.sld (j := i + 2) C SC dL_law_668 (by omega) (by omega) ?_
  refine Z.aload_n C dL_law_669 rfl ?_
  refine h_L_107 C hy dL_law_670 hh (by decide) (Nat.le_of_ble_eq_true rfl) (by omega) (by omega) (fun w1 h1 q1 => ?_)
  obtain ⟨T1, g1, rfl, hc03, R1, hj1, hg⟩ := LS.helped hj kM sC sM dj ho oC oM q1
  refine Z.istore (l' := [_, _, _, _, _, _]) C dL_law_673 (Nat.le_of_ble_eq_true rfl) (by rw [hN]; decide) rfl ?_
  obtain ⟨hC1, hM1, kC1, kM1, sC1, sM1, dj1, ho1, oC1, oM1⟩ := R1
  refine Z.aload_n C dL_law_675 rfl ?_
  refine Z.aload_n C dL_law_676 rfl ?_
  refine Z.iload C dL_law_677 rfl ?_
  refine Z.iconst C dL_law_679 ?_
  refine Z.iadd C dL_law_680 ?_
  refine Z.sld (j := i + 1) C SC dL_law_681 (by omega) (by omega) ?_
  refine Z.aload_n C dL_law_682 rfl ?_
  refine Z.iload C dL_law_683 rfl ?_
  refine Z.iconst C dL_law_685 ?_
  refine Z.iadd C dL_law_686 ?_
  refine Z.sld (j := i + 2) C SC dL_law_687 (by omega) (by omega) ?_
  refine v_L_109 C hy dL_law_688 (sM1 _ _ kM1.1) (CT.frame sM1 (c_X7_proposal htr kM1 I (hxi _) (hxi _))) (by decide) (Nat.le_of_ble_eq_true rfl) (by omega) (by omega) (fun w2 h2 q2 => ?_) (fun _ _ q => by obtain ⟨_, q, _⟩ := q; exact q.elim)
  obtain ⟨b9, rfl, R2, hv⟩ := LS.modded kC1 sC1 dj1 ho1 oC1 oM1 q2
  obtain ⟨hC2, hM2, kC2, kM2, sC2, sM2, dj2, ho2, oC2, oM2⟩ := R2
  refine Z.istore (l' := [_, _, _, _, _, _, _]) C dL_law_691 (Nat.le_of_ble_eq_true rfl) (by rw [hN]; decide) rfl ?_
  refine Z.aload_n C dL_law_693 rfl ?_
  refine v_L_79 C hy dL_law_694 (sM2 _ _ kM2.1) (CT.frame sM2 (c_X7_thrown htr kM2 (hJM _ _ hj1).1.1)) (by decide) (Nat.le_of_ble_eq_true rfl) (by omega) (by omega) (fun w3 h3 q3 => ?_) (fun _ _ q => by obtain ⟨_, q, _⟩ := q; exact q.elim)
  obtain ⟨hm3, ⟨rfl, e3⟩, fr3⟩ := q3
  subst e3
  have R3 := fr3.mod kC2 kM2 sC2 dj2 ho2 oC2 oM2
  refine Z.iload C dL_law_697 rfl ?_
  refine Z.icmp_eq (tgt := 704) C dL_law_699 (by decide) (by omega) (by omega) (by omega) (by omega) (fun _ => ?_) (fun z => absurd rfl z)
  refine Z.iload C dL_law_704 rfl ?_
  refine Z.if_ne (tgt := 721) C dL_law_706 (by decide) (by omega) (by omega) (fun c1 => ?_) (fun c1 => ?_)
  · refine Z.goto (tgt := 1184) C dL_law_721 (by decide) ?_
    refine Z.pre (l' := [_, _, _, _, _]) 5 rfl ?_
    refine Z.widen (k' := k + 10) (n' := n + 2600) (by omega) (by omega) ?_
    exact kk _ _ _ _ _ hj1 R3
  · refine Z.aload_n C dL_law_709 rfl ?_
    refine Z.iconst C dL_law_710 ?_
    have ho3 : h3 o = some (eL ((zG_of X).2.1 4) 1 g1) := by
      obtain ⟨_, _, _, _, _, _, _, q, _, _⟩ := R3
      exact q
    refine Z.laload C dL_law_711 ho3 (by decide) (by decide) (by decide) ?_
    have eg : g1 (0 : Int).toNat = (jI b9).toInt64 := by
      rw [hv c1]
      exact hg c1
    rw [eg]
    refine Z.iload C dL_law_712 rfl ?_
    refine Z.i2l C dL_law_714 ?_
    refine Z.lcmp C dL_law_715 ?_
    rw [lg_self]
    refine Z.if_eq (tgt := 721) C dL_law_716 (by decide) (by decide) (by decide) (fun _ => ?_) (fun z => absurd rfl z)
    refine Z.goto (tgt := 1184) C dL_law_721 (by decide) ?_
    refine Z.pre (l' := [_, _, _, _, _]) 5 rfl ?_
    refine Z.widen (k' := k + 10) (n' := n + 2600) (by omega) (by omega) ?_
    exact kk _ _ _ _ _ hj1 R3

set_option maxRecDepth 100000 in
theorem blk_member {X : zX} {y : MethodName} (hy : y.cls = RL) (C : ZC X cL_law y 12) (htr : (zLn X).stackTraces = false) (hN : zN X = 7) {sc L : Nat} {xi : Nat → Int} (hxi : ∀ j, -2147483648 ≤ xi j ∧ xi j < 2147483648) (SC : ZS X sc L xi) (hL : L ≤ 2048) {JJ : JT} (hJM : ∀ T S, JJ T S → (MB S ∧ (∀ j, S 9 j ≤ 6000) ∧ (∀ j, S 12 j ≤ S 14 0) ∧ ∀ j, S 8 j ≤ S 14 0) ∧ TB T ∧ T 1 0 = S 1 0) {b o : Nat} {a : Nat → Nat} (hop : OPC_member (zLn X) (zG_of X) JJ b) {T S : Nat → Nat → Int} {t : Int} {f : Nat → Int64} {h : zH} {k n i : Nat} (hi : i + 4 ≤ L) (hj : JJ T S) (hls : LSx (zG_of X) b a o T S t f h) (hk : k + 10 ≤ (zR_of X).cells) (hn : n + 2600 ≤ (zR_of X).slots) (kk : ∀ (T S : Nat → Nat → Int) (t : Int) (f : Nat → Int64) (h : zH), JJ T S → LSx (zG_of X) b a o T S t f h → Z X 1184 [.ref sc, .ref b, .ref (a 0), .ref o, vI (i : Int)] [] h (k + 10) (n + 2600)) : Z X 737 [.ref sc, .ref b, .ref (a 0), .ref o, vI (i : Int)] [] h k n := by
  have I := (hJM T S hj).1.1
  obtain ⟨hC, hM, kC, kM, sC, sM, dj, ho, oC, oM⟩ := hls
  have hb7 : ∃ fs, h b = some (eO 7 fs) := by
    obtain ⟨ad, el, e0, R⟩ := kC
    have := sC _ _ R.club
    rw [e0] at this
    exact ⟨_, this⟩
  obtain ⟨fs, hb7⟩ := hb7
  have hop2 : CT (zLn X) (zG_of X) yX6_member cX6_member 4 (some .int) 7 [.ref b, vI (xi (i + 1)), vI (xi (i + 2))] h 1 6 (fun r9 h9 => ∃ v, r9 = some (vI v) ∧ fQ hC h (QKf JJ (zG_of X) b (cMem S (xi (i + 1)) (xi (i + 2))) (vMem S (xi (i + 1)).toNat (xi (i + 2))) (S)) v h9) (fun E9 h9 => (E9 = "java/lang/IndexOutOfBoundsException" ∧ fQ hC h (QXf (zG_of X) b (cMem S (xi (i + 1)) (xi (i + 2))) T) 1 h9) ∨ (E9 = "java/lang/IllegalArgumentException" ∧ fQ hC h (QXf (zG_of X) b (cMem S (xi (i + 1)) (xi (i + 2))) T) 2 h9)) :=
    CT.mono (CT.frame sC (hop T S hC (xi (i + 1)) (xi (i + 2)) hj kC (hxi _) (hxi _))) (fun r9 h9 z => by
        obtain ⟨hm9, ⟨v0, e, q⟩, fr⟩ := z
        exact ⟨v0, e, hm9, q, fr⟩) (fun E9 h9 z => by
        obtain ⟨hm9, z, fr⟩ := z
        rcases z with ⟨e, q⟩ | ⟨e, q⟩
        · exact Or.inl ⟨e, hm9, q, fr⟩
        · exact Or.inr ⟨e, hm9, q, fr⟩)
  have hh := c_L_member htr hb7 hop2 (fun v h9 q => by
      obtain ⟨hm9, -, fr⟩ := q
      exact ⟨f, fr.2.1 o _ oC ho⟩)
  refine Z.aload_n C dL_law_737 rfl ?_
  refine Z.aload_n C dL_law_738 rfl ?_
  refine Z.iload C dL_law_739 rfl ?_
  refine Z.iconst C dL_law_741 ?_
  refine Z.iadd C dL_law_742 ?_
  refine Z.sld (j := i + 1) C SC dL_law_743 (by omega) (by omega) ?_
  refine Z.aload_n C dL_law_744 rfl ?_
  refine Z.iload C dL_law_745 rfl ?_
  refine Z.iconst C dL_law_747 ?_
  refine Z.iadd C dL_law_748 ?_
  refine Z.sld (j := i + 2) C SC dL_law_749 (by omega) (by omega) ?_
  refine Z.aload_n C dL_law_750 rfl ?_
  refine h_L_114 C hy dL_law_751 hh (by decide) (Nat.le_of_ble_eq_true rfl) (by omega) (by omega) (fun w1 h1 q1 => ?_)
  obtain ⟨T1, g1, rfl, hc03, R1, hj1, hg⟩ := LS.helped hj kM sC sM dj ho oC oM q1
  refine Z.istore (l' := [_, _, _, _, _, _]) C dL_law_754 (Nat.le_of_ble_eq_true rfl) (by rw [hN]; decide) rfl ?_
  obtain ⟨hC1, hM1, kC1, kM1, sC1, sM1, dj1, ho1, oC1, oM1⟩ := R1
  refine Z.aload_n C dL_law_756 rfl ?_
  refine Z.aload_n C dL_law_757 rfl ?_
  refine Z.iload C dL_law_758 rfl ?_
  refine Z.iconst C dL_law_760 ?_
  refine Z.iadd C dL_law_761 ?_
  refine Z.sld (j := i + 1) C SC dL_law_762 (by omega) (by omega) ?_
  refine Z.aload_n C dL_law_763 rfl ?_
  refine Z.iload C dL_law_764 rfl ?_
  refine Z.iconst C dL_law_766 ?_
  refine Z.iadd C dL_law_767 ?_
  refine Z.sld (j := i + 2) C SC dL_law_768 (by omega) (by omega) ?_
  refine v_L_116 C hy dL_law_769 (sM1 _ _ kM1.1) (CT.frame sM1 (c_X7_member htr kM1 I (hxi _) (hxi _))) (by decide) (Nat.le_of_ble_eq_true rfl) (by omega) (by omega) (fun w2 h2 q2 => ?_) (fun _ _ q => by obtain ⟨_, q, _⟩ := q; exact q.elim)
  obtain ⟨b9, rfl, R2, hv⟩ := LS.modded kC1 sC1 dj1 ho1 oC1 oM1 q2
  obtain ⟨hC2, hM2, kC2, kM2, sC2, sM2, dj2, ho2, oC2, oM2⟩ := R2
  refine Z.istore (l' := [_, _, _, _, _, _, _]) C dL_law_772 (Nat.le_of_ble_eq_true rfl) (by rw [hN]; decide) rfl ?_
  refine Z.aload_n C dL_law_774 rfl ?_
  refine v_L_79 C hy dL_law_775 (sM2 _ _ kM2.1) (CT.frame sM2 (c_X7_thrown htr kM2 (hJM _ _ hj1).1.1)) (by decide) (Nat.le_of_ble_eq_true rfl) (by omega) (by omega) (fun w3 h3 q3 => ?_) (fun _ _ q => by obtain ⟨_, q, _⟩ := q; exact q.elim)
  obtain ⟨hm3, ⟨rfl, e3⟩, fr3⟩ := q3
  subst e3
  have R3 := fr3.mod kC2 kM2 sC2 dj2 ho2 oC2 oM2
  refine Z.iload C dL_law_778 rfl ?_
  refine Z.icmp_eq (tgt := 785) C dL_law_780 (by decide) (by omega) (by omega) (by omega) (by omega) (fun _ => ?_) (fun z => absurd rfl z)
  refine Z.iload C dL_law_785 rfl ?_
  refine Z.if_ne (tgt := 802) C dL_law_787 (by decide) (by omega) (by omega) (fun c1 => ?_) (fun c1 => ?_)
  · refine Z.goto (tgt := 1184) C dL_law_802 (by decide) ?_
    refine Z.pre (l' := [_, _, _, _, _]) 5 rfl ?_
    refine Z.widen (k' := k + 10) (n' := n + 2600) (by omega) (by omega) ?_
    exact kk _ _ _ _ _ hj1 R3
  · refine Z.aload_n C dL_law_790 rfl ?_
    refine Z.iconst C dL_law_791 ?_
    have ho3 : h3 o = some (eL ((zG_of X).2.1 4) 1 g1) := by
      obtain ⟨_, _, _, _, _, _, _, q, _, _⟩ := R3
      exact q
    refine Z.laload C dL_law_792 ho3 (by decide) (by decide) (by decide) ?_
    have eg : g1 (0 : Int).toNat = (jI b9).toInt64 := by
      rw [hv c1]
      exact hg c1
    rw [eg]
    refine Z.iload C dL_law_793 rfl ?_
    refine Z.i2l C dL_law_795 ?_
    refine Z.lcmp C dL_law_796 ?_
    rw [lg_self]
    refine Z.if_eq (tgt := 802) C dL_law_797 (by decide) (by decide) (by decide) (fun _ => ?_) (fun z => absurd rfl z)
    refine Z.goto (tgt := 1184) C dL_law_802 (by decide) ?_
    refine Z.pre (l' := [_, _, _, _, _]) 5 rfl ?_
    refine Z.widen (k' := k + 10) (n' := n + 2600) (by omega) (by omega) ?_
    exact kk _ _ _ _ _ hj1 R3

set_option maxRecDepth 100000 in
theorem blk_owes {X : zX} {y : MethodName} (hy : y.cls = RL) (C : ZC X cL_law y 12) (htr : (zLn X).stackTraces = false) (hN : zN X = 7) {sc L : Nat} {xi : Nat → Int} (hxi : ∀ j, -2147483648 ≤ xi j ∧ xi j < 2147483648) (SC : ZS X sc L xi) (hL : L ≤ 2048) {JJ : JT} (hJM : ∀ T S, JJ T S → (MB S ∧ (∀ j, S 9 j ≤ 6000) ∧ (∀ j, S 12 j ≤ S 14 0) ∧ ∀ j, S 8 j ≤ S 14 0) ∧ TB T ∧ T 1 0 = S 1 0) {b o : Nat} {a : Nat → Nat} (hop : OPC_owes (zLn X) (zG_of X) JJ b) {T S : Nat → Nat → Int} {t : Int} {f : Nat → Int64} {h : zH} {k n i : Nat} (hi : i + 4 ≤ L) (hj : JJ T S) (hls : LSx (zG_of X) b a o T S t f h) (hk : k + 10 ≤ (zR_of X).cells) (hn : n + 2600 ≤ (zR_of X).slots) (kk : ∀ (T S : Nat → Nat → Int) (t : Int) (f : Nat → Int64) (h : zH), JJ T S → LSx (zG_of X) b a o T S t f h → Z X 1184 [.ref sc, .ref b, .ref (a 0), .ref o, vI (i : Int)] [] h (k + 10) (n + 2600)) : Z X 880 [.ref sc, .ref b, .ref (a 0), .ref o, vI (i : Int)] [] h k n := by
  have I := (hJM T S hj).1.1
  obtain ⟨hC, hM, kC, kM, sC, sM, dj, ho, oC, oM⟩ := hls
  have hb7 : ∃ fs, h b = some (eO 7 fs) := by
    obtain ⟨ad, el, e0, R⟩ := kC
    have := sC _ _ R.club
    rw [e0] at this
    exact ⟨_, this⟩
  obtain ⟨fs, hb7⟩ := hb7
  have hop2 : CT (zLn X) (zG_of X) yX6_owes cX6_owes 4 (some .int) 7 [.ref b, vI (xi (i + 1)), vI (xi (i + 2))] h 1 6 (fun r9 h9 => ∃ v, r9 = some (vI v) ∧ fQ hC h (QKf JJ (zG_of X) b (cOwes S (xi (i + 1)) (xi (i + 2))) (S 9 (10 * (xi (i + 1)).toNat + (xi (i + 2)).toNat)) (S)) v h9) (fun E9 h9 => (E9 = "java/lang/IndexOutOfBoundsException" ∧ fQ hC h (QXf (zG_of X) b (cOwes S (xi (i + 1)) (xi (i + 2))) T) 1 h9)) :=
    CT.mono (CT.frame sC (hop T S hC (xi (i + 1)) (xi (i + 2)) hj kC (hxi _) (hxi _))) (fun r9 h9 z => by
        obtain ⟨hm9, ⟨v0, e, q⟩, fr⟩ := z
        exact ⟨v0, e, hm9, q, fr⟩) (fun E9 h9 z => by
        obtain ⟨hm9, ⟨e, q⟩, fr⟩ := z
        exact ⟨e, hm9, q, fr⟩)
  have hh := c_L_owes htr hb7 hop2 (fun v h9 q => by
      obtain ⟨hm9, -, fr⟩ := q
      exact ⟨f, fr.2.1 o _ oC ho⟩)
  refine Z.aload_n C dL_law_880 rfl ?_
  refine Z.aload_n C dL_law_881 rfl ?_
  refine Z.iload C dL_law_882 rfl ?_
  refine Z.iconst C dL_law_884 ?_
  refine Z.iadd C dL_law_885 ?_
  refine Z.sld (j := i + 1) C SC dL_law_886 (by omega) (by omega) ?_
  refine Z.aload_n C dL_law_887 rfl ?_
  refine Z.iload C dL_law_888 rfl ?_
  refine Z.iconst C dL_law_890 ?_
  refine Z.iadd C dL_law_891 ?_
  refine Z.sld (j := i + 2) C SC dL_law_892 (by omega) (by omega) ?_
  refine Z.aload_n C dL_law_893 rfl ?_
  refine h_L_120 C hy dL_law_894 hh (by decide) (Nat.le_of_ble_eq_true rfl) (by omega) (by omega) (fun w1 h1 q1 => ?_)
  obtain ⟨T1, g1, rfl, hc03, R1, hj1, hg⟩ := LS.helped hj kM sC sM dj ho oC oM q1
  refine Z.istore (l' := [_, _, _, _, _, _]) C dL_law_897 (Nat.le_of_ble_eq_true rfl) (by rw [hN]; decide) rfl ?_
  obtain ⟨hC1, hM1, kC1, kM1, sC1, sM1, dj1, ho1, oC1, oM1⟩ := R1
  refine Z.aload_n C dL_law_899 rfl ?_
  refine Z.aload_n C dL_law_900 rfl ?_
  refine Z.iload C dL_law_901 rfl ?_
  refine Z.iconst C dL_law_903 ?_
  refine Z.iadd C dL_law_904 ?_
  refine Z.sld (j := i + 1) C SC dL_law_905 (by omega) (by omega) ?_
  refine Z.aload_n C dL_law_906 rfl ?_
  refine Z.iload C dL_law_907 rfl ?_
  refine Z.iconst C dL_law_909 ?_
  refine Z.iadd C dL_law_910 ?_
  refine Z.sld (j := i + 2) C SC dL_law_911 (by omega) (by omega) ?_
  refine v_L_122 C hy dL_law_912 (sM1 _ _ kM1.1) (CT.frame sM1 (c_X7_owes htr kM1 I (hxi _) (hxi _))) (by decide) (Nat.le_of_ble_eq_true rfl) (by omega) (by omega) (fun w2 h2 q2 => ?_) (fun _ _ q => by obtain ⟨_, q, _⟩ := q; exact q.elim)
  obtain ⟨b9, rfl, R2, hv⟩ := LS.modded kC1 sC1 dj1 ho1 oC1 oM1 q2
  obtain ⟨hC2, hM2, kC2, kM2, sC2, sM2, dj2, ho2, oC2, oM2⟩ := R2
  refine Z.istore (l' := [_, _, _, _, _, _, _]) C dL_law_915 (Nat.le_of_ble_eq_true rfl) (by rw [hN]; decide) rfl ?_
  refine Z.aload_n C dL_law_917 rfl ?_
  refine v_L_79 C hy dL_law_918 (sM2 _ _ kM2.1) (CT.frame sM2 (c_X7_thrown htr kM2 (hJM _ _ hj1).1.1)) (by decide) (Nat.le_of_ble_eq_true rfl) (by omega) (by omega) (fun w3 h3 q3 => ?_) (fun _ _ q => by obtain ⟨_, q, _⟩ := q; exact q.elim)
  obtain ⟨hm3, ⟨rfl, e3⟩, fr3⟩ := q3
  subst e3
  have R3 := fr3.mod kC2 kM2 sC2 dj2 ho2 oC2 oM2
  refine Z.iload C dL_law_921 rfl ?_
  refine Z.icmp_eq (tgt := 928) C dL_law_923 (by decide) (by omega) (by omega) (by omega) (by omega) (fun _ => ?_) (fun z => absurd rfl z)
  refine Z.iload C dL_law_928 rfl ?_
  refine Z.if_ne (tgt := 945) C dL_law_930 (by decide) (by omega) (by omega) (fun c1 => ?_) (fun c1 => ?_)
  · refine Z.goto (tgt := 1184) C dL_law_945 (by decide) ?_
    refine Z.pre (l' := [_, _, _, _, _]) 5 rfl ?_
    refine Z.widen (k' := k + 10) (n' := n + 2600) (by omega) (by omega) ?_
    exact kk _ _ _ _ _ hj1 R3
  · refine Z.aload_n C dL_law_933 rfl ?_
    refine Z.iconst C dL_law_934 ?_
    have ho3 : h3 o = some (eL ((zG_of X).2.1 4) 1 g1) := by
      obtain ⟨_, _, _, _, _, _, _, q, _, _⟩ := R3
      exact q
    refine Z.laload C dL_law_935 ho3 (by decide) (by decide) (by decide) ?_
    have eg : g1 (0 : Int).toNat = (jI b9).toInt64 := by
      rw [hv c1]
      exact hg c1
    rw [eg]
    refine Z.iload C dL_law_936 rfl ?_
    refine Z.i2l C dL_law_938 ?_
    refine Z.lcmp C dL_law_939 ?_
    rw [lg_self]
    refine Z.if_eq (tgt := 945) C dL_law_940 (by decide) (by decide) (by decide) (fun _ => ?_) (fun z => absurd rfl z)
    refine Z.goto (tgt := 1184) C dL_law_945 (by decide) ?_
    refine Z.pre (l' := [_, _, _, _, _]) 5 rfl ?_
    refine Z.widen (k' := k + 10) (n' := n + 2600) (by omega) (by omega) ?_
    exact kk _ _ _ _ _ hj1 R3

set_option maxRecDepth 100000 in
theorem blk_worth {X : zX} {y : MethodName} (hy : y.cls = RL) (C : ZC X cL_law y 12) (htr : (zLn X).stackTraces = false) (hN : zN X = 7) {sc L : Nat} {xi : Nat → Int} (hxi : ∀ j, -2147483648 ≤ xi j ∧ xi j < 2147483648) (SC : ZS X sc L xi) (hL : L ≤ 2048) {JJ : JT} (hJM : ∀ T S, JJ T S → (MB S ∧ (∀ j, S 9 j ≤ 6000) ∧ (∀ j, S 12 j ≤ S 14 0) ∧ ∀ j, S 8 j ≤ S 14 0) ∧ TB T ∧ T 1 0 = S 1 0) {b o : Nat} {a : Nat → Nat} (hop : OPC_worth (zLn X) (zG_of X) JJ b) {T S : Nat → Nat → Int} {t : Int} {f : Nat → Int64} {h : zH} {k n i : Nat} (hi : i + 4 ≤ L) (hj : JJ T S) (hls : LSx (zG_of X) b a o T S t f h) (hk : k + 10 ≤ (zR_of X).cells) (hn : n + 2600 ≤ (zR_of X).slots) (kk : ∀ (T S : Nat → Nat → Int) (t : Int) (f : Nat → Int64) (h : zH), JJ T S → LSx (zG_of X) b a o T S t f h → Z X 1184 [.ref sc, .ref b, .ref (a 0), .ref o, vI (i : Int)] [] h (k + 10) (n + 2600)) : Z X 948 [.ref sc, .ref b, .ref (a 0), .ref o, vI (i : Int)] [] h k n := by
  have I := (hJM T S hj).1.1
  obtain ⟨hC, hM, kC, kM, sC, sM, dj, ho, oC, oM⟩ := hls
  have hb7 : ∃ fs, h b = some (eO 7 fs) := by
    obtain ⟨ad, el, e0, R⟩ := kC
    have := sC _ _ R.club
    rw [e0] at this
    exact ⟨_, this⟩
  obtain ⟨fs, hb7⟩ := hb7
  have hop2 : CT (zLn X) (zG_of X) yX6_worth cX6_worth 2 (some .int) 7 [.ref b, vI (xi (i + 1))] h 1 6 (fun r9 h9 => ∃ v, r9 = some (vI v) ∧ fQ hC h (QKf JJ (zG_of X) b (cWorth S (xi (i + 1))) (S 12 (xi (i + 1)).toNat) (S)) v h9) (fun E9 h9 => (E9 = "java/lang/IndexOutOfBoundsException" ∧ fQ hC h (QXf (zG_of X) b (cWorth S (xi (i + 1))) T) 1 h9)) :=
    CT.mono (CT.frame sC (hop T S hC (xi (i + 1)) hj kC (hxi _))) (fun r9 h9 z => by
        obtain ⟨hm9, ⟨v0, e, q⟩, fr⟩ := z
        exact ⟨v0, e, hm9, q, fr⟩) (fun E9 h9 z => by
        obtain ⟨hm9, ⟨e, q⟩, fr⟩ := z
        exact ⟨e, hm9, q, fr⟩)
  have hh := c_L_worth htr hb7 hop2 (fun v h9 q => by
      obtain ⟨hm9, -, fr⟩ := q
      exact ⟨f, fr.2.1 o _ oC ho⟩)
  refine Z.aload_n C dL_law_948 rfl ?_
  refine Z.aload_n C dL_law_949 rfl ?_
  refine Z.iload C dL_law_950 rfl ?_
  refine Z.iconst C dL_law_952 ?_
  refine Z.iadd C dL_law_953 ?_
  refine Z.sld (j := i + 1) C SC dL_law_954 (by omega) (by omega) ?_
  refine Z.aload_n C dL_law_955 rfl ?_
  refine h_L_123 C hy dL_law_956 hh (by decide) (Nat.le_of_ble_eq_true rfl) (by omega) (by omega) (fun w1 h1 q1 => ?_)
  obtain ⟨T1, g1, rfl, hc03, R1, hj1, hg⟩ := LS.helped hj kM sC sM dj ho oC oM q1
  refine Z.istore (l' := [_, _, _, _, _, _]) C dL_law_959 (Nat.le_of_ble_eq_true rfl) (by rw [hN]; decide) rfl ?_
  obtain ⟨hC1, hM1, kC1, kM1, sC1, sM1, dj1, ho1, oC1, oM1⟩ := R1
  refine Z.aload_n C dL_law_961 rfl ?_
  refine Z.aload_n C dL_law_962 rfl ?_
  refine Z.iload C dL_law_963 rfl ?_
  refine Z.iconst C dL_law_965 ?_
  refine Z.iadd C dL_law_966 ?_
  refine Z.sld (j := i + 1) C SC dL_law_967 (by omega) (by omega) ?_
  refine v_L_125 C hy dL_law_968 (sM1 _ _ kM1.1) (CT.frame sM1 (c_X7_worth htr kM1 I (hxi _))) (by decide) (Nat.le_of_ble_eq_true rfl) (by omega) (by omega) (fun w2 h2 q2 => ?_) (fun _ _ q => by obtain ⟨_, q, _⟩ := q; exact q.elim)
  obtain ⟨b9, rfl, R2, hv⟩ := LS.modded kC1 sC1 dj1 ho1 oC1 oM1 q2
  obtain ⟨hC2, hM2, kC2, kM2, sC2, sM2, dj2, ho2, oC2, oM2⟩ := R2
  refine Z.istore (l' := [_, _, _, _, _, _, _]) C dL_law_971 (Nat.le_of_ble_eq_true rfl) (by rw [hN]; decide) rfl ?_
  refine Z.aload_n C dL_law_973 rfl ?_
  refine v_L_79 C hy dL_law_974 (sM2 _ _ kM2.1) (CT.frame sM2 (c_X7_thrown htr kM2 (hJM _ _ hj1).1.1)) (by decide) (Nat.le_of_ble_eq_true rfl) (by omega) (by omega) (fun w3 h3 q3 => ?_) (fun _ _ q => by obtain ⟨_, q, _⟩ := q; exact q.elim)
  obtain ⟨hm3, ⟨rfl, e3⟩, fr3⟩ := q3
  subst e3
  have R3 := fr3.mod kC2 kM2 sC2 dj2 ho2 oC2 oM2
  refine Z.iload C dL_law_977 rfl ?_
  refine Z.icmp_eq (tgt := 984) C dL_law_979 (by decide) (by omega) (by omega) (by omega) (by omega) (fun _ => ?_) (fun z => absurd rfl z)
  refine Z.iload C dL_law_984 rfl ?_
  refine Z.if_ne (tgt := 1001) C dL_law_986 (by decide) (by omega) (by omega) (fun c1 => ?_) (fun c1 => ?_)
  · refine Z.goto (tgt := 1184) C dL_law_1001 (by decide) ?_
    refine Z.pre (l' := [_, _, _, _, _]) 5 rfl ?_
    refine Z.widen (k' := k + 10) (n' := n + 2600) (by omega) (by omega) ?_
    exact kk _ _ _ _ _ hj1 R3
  · refine Z.aload_n C dL_law_989 rfl ?_
    refine Z.iconst C dL_law_990 ?_
    have ho3 : h3 o = some (eL ((zG_of X).2.1 4) 1 g1) := by
      obtain ⟨_, _, _, _, _, _, _, q, _, _⟩ := R3
      exact q
    refine Z.laload C dL_law_991 ho3 (by decide) (by decide) (by decide) ?_
    have eg : g1 (0 : Int).toNat = (jI b9).toInt64 := by
      rw [hv c1]
      exact hg c1
    rw [eg]
    refine Z.iload C dL_law_992 rfl ?_
    refine Z.i2l C dL_law_994 ?_
    refine Z.lcmp C dL_law_995 ?_
    rw [lg_self]
    refine Z.if_eq (tgt := 1001) C dL_law_996 (by decide) (by decide) (by decide) (fun _ => ?_) (fun z => absurd rfl z)
    refine Z.goto (tgt := 1184) C dL_law_1001 (by decide) ?_
    refine Z.pre (l' := [_, _, _, _, _]) 5 rfl ?_
    refine Z.widen (k' := k + 10) (n' := n + 2600) (by omega) (by omega) ?_
    exact kk _ _ _ _ _ hj1 R3

set_option maxRecDepth 100000 in
theorem blk_accountAnew {X : zX} {y : MethodName} (hy : y.cls = RL) (C : ZC X cL_law y 12) (htr : (zLn X).stackTraces = false) (hN : zN X = 7) {sc L : Nat} {xi : Nat → Int} (hxi : ∀ j, -2147483648 ≤ xi j ∧ xi j < 2147483648) (SC : ZS X sc L xi) (hL : L ≤ 2048) {JJ : JT} (hJM : ∀ T S, JJ T S → (MB S ∧ (∀ j, S 9 j ≤ 6000) ∧ (∀ j, S 12 j ≤ S 14 0) ∧ ∀ j, S 8 j ≤ S 14 0) ∧ TB T ∧ T 1 0 = S 1 0) {b o : Nat} {a : Nat → Nat} (hop : OPC_accountAnew (zLn X) (zG_of X) JJ b) {T S : Nat → Nat → Int} {t : Int} {f : Nat → Int64} {h : zH} {k n i : Nat} (hi : i + 4 ≤ L) (hj : JJ T S) (hls : LSx (zG_of X) b a o T S t f h) (hk : k + 10 ≤ (zR_of X).cells) (hn : n + 2600 ≤ (zR_of X).slots) (kk : ∀ (T S : Nat → Nat → Int) (t : Int) (f : Nat → Int64) (h : zH), JJ T S → LSx (zG_of X) b a o T S t f h → Z X 1184 [.ref sc, .ref b, .ref (a 0), .ref o, vI (i : Int)] [] h (k + 10) (n + 2600)) : Z X 1004 [.ref sc, .ref b, .ref (a 0), .ref o, vI (i : Int)] [] h k n := by
  have I := (hJM T S hj).1.1
  obtain ⟨hC, hM, kC, kM, sC, sM, dj, ho, oC, oM⟩ := hls
  have hb7 : ∃ fs, h b = some (eO 7 fs) := by
    obtain ⟨ad, el, e0, R⟩ := kC
    have := sC _ _ R.club
    rw [e0] at this
    exact ⟨_, this⟩
  obtain ⟨fs, hb7⟩ := hb7
  have hop2 : CT (zLn X) (zG_of X) yX6_accountAnew cX6_accountAnew 2 (some .int) 8 [.ref b, vI (xi (i + 1))] h 2 13 (fun r9 h9 => ∃ v, r9 = some (vI v) ∧ fQ hC h (QKf JJ (zG_of X) b (cAcc S (xi (i + 1))) (S 7 (xi (i + 1)).toNat) (S)) v h9) (fun E9 h9 => (E9 = "java/lang/IndexOutOfBoundsException" ∧ fQ hC h (QXf (zG_of X) b (cAcc S (xi (i + 1))) T) 1 h9)) :=
    CT.mono (CT.frame sC (hop T S hC (xi (i + 1)) hj kC (hxi _))) (fun r9 h9 z => by
        obtain ⟨hm9, ⟨v0, e, q⟩, fr⟩ := z
        exact ⟨v0, e, hm9, q, fr⟩) (fun E9 h9 z => by
        obtain ⟨hm9, ⟨e, q⟩, fr⟩ := z
        exact ⟨e, hm9, q, fr⟩)
  have hh := c_L_accountAnew htr hb7 hop2 (fun v h9 q => by
      obtain ⟨hm9, -, fr⟩ := q
      exact ⟨f, fr.2.1 o _ oC ho⟩)
  refine Z.aload_n C dL_law_1004 rfl ?_
  refine Z.aload_n C dL_law_1005 rfl ?_
  refine Z.iload C dL_law_1006 rfl ?_
  refine Z.iconst C dL_law_1008 ?_
  refine Z.iadd C dL_law_1009 ?_
  refine Z.sld (j := i + 1) C SC dL_law_1010 (by omega) (by omega) ?_
  refine Z.aload_n C dL_law_1011 rfl ?_
  refine h_L_126 C hy dL_law_1012 hh (by decide) (Nat.le_of_ble_eq_true rfl) (by omega) (by omega) (fun w1 h1 q1 => ?_)
  obtain ⟨T1, g1, rfl, hc03, R1, hj1, hg⟩ := LS.helped hj kM sC sM dj ho oC oM q1
  refine Z.istore (l' := [_, _, _, _, _, _]) C dL_law_1015 (Nat.le_of_ble_eq_true rfl) (by rw [hN]; decide) rfl ?_
  obtain ⟨hC1, hM1, kC1, kM1, sC1, sM1, dj1, ho1, oC1, oM1⟩ := R1
  refine Z.aload_n C dL_law_1017 rfl ?_
  refine Z.aload_n C dL_law_1018 rfl ?_
  refine Z.iload C dL_law_1019 rfl ?_
  refine Z.iconst C dL_law_1021 ?_
  refine Z.iadd C dL_law_1022 ?_
  refine Z.sld (j := i + 1) C SC dL_law_1023 (by omega) (by omega) ?_
  refine v_L_128 C hy dL_law_1024 (sM1 _ _ kM1.1) (CT.frame sM1 (c_X7_accountAnew htr kM1 I (hxi _))) (by decide) (Nat.le_of_ble_eq_true rfl) (by omega) (by omega) (fun w2 h2 q2 => ?_) (fun _ _ q => by obtain ⟨_, q, _⟩ := q; exact q.elim)
  obtain ⟨b9, rfl, R2, hv⟩ := LS.modded kC1 sC1 dj1 ho1 oC1 oM1 q2
  obtain ⟨hC2, hM2, kC2, kM2, sC2, sM2, dj2, ho2, oC2, oM2⟩ := R2
  refine Z.istore (l' := [_, _, _, _, _, _, _]) C dL_law_1027 (Nat.le_of_ble_eq_true rfl) (by rw [hN]; decide) rfl ?_
  refine Z.aload_n C dL_law_1029 rfl ?_
  refine v_L_79 C hy dL_law_1030 (sM2 _ _ kM2.1) (CT.frame sM2 (c_X7_thrown htr kM2 (hJM _ _ hj1).1.1)) (by decide) (Nat.le_of_ble_eq_true rfl) (by omega) (by omega) (fun w3 h3 q3 => ?_) (fun _ _ q => by obtain ⟨_, q, _⟩ := q; exact q.elim)
  obtain ⟨hm3, ⟨rfl, e3⟩, fr3⟩ := q3
  subst e3
  have R3 := fr3.mod kC2 kM2 sC2 dj2 ho2 oC2 oM2
  refine Z.iload C dL_law_1033 rfl ?_
  refine Z.icmp_eq (tgt := 1040) C dL_law_1035 (by decide) (by omega) (by omega) (by omega) (by omega) (fun _ => ?_) (fun z => absurd rfl z)
  refine Z.iload C dL_law_1040 rfl ?_
  refine Z.if_ne (tgt := 1057) C dL_law_1042 (by decide) (by omega) (by omega) (fun c1 => ?_) (fun c1 => ?_)
  · refine Z.goto (tgt := 1184) C dL_law_1057 (by decide) ?_
    refine Z.pre (l' := [_, _, _, _, _]) 5 rfl ?_
    refine Z.widen (k' := k + 10) (n' := n + 2600) (by omega) (by omega) ?_
    exact kk _ _ _ _ _ hj1 R3
  · refine Z.aload_n C dL_law_1045 rfl ?_
    refine Z.iconst C dL_law_1046 ?_
    have ho3 : h3 o = some (eL ((zG_of X).2.1 4) 1 g1) := by
      obtain ⟨_, _, _, _, _, _, _, q, _, _⟩ := R3
      exact q
    refine Z.laload C dL_law_1047 ho3 (by decide) (by decide) (by decide) ?_
    have eg : g1 (0 : Int).toNat = (jI b9).toInt64 := by
      rw [hv c1]
      exact hg c1
    rw [eg]
    refine Z.iload C dL_law_1048 rfl ?_
    refine Z.i2l C dL_law_1050 ?_
    refine Z.lcmp C dL_law_1051 ?_
    rw [lg_self]
    refine Z.if_eq (tgt := 1057) C dL_law_1052 (by decide) (by decide) (by decide) (fun _ => ?_) (fun z => absurd rfl z)
    refine Z.goto (tgt := 1184) C dL_law_1057 (by decide) ?_
    refine Z.pre (l' := [_, _, _, _, _]) 5 rfl ?_
    refine Z.widen (k' := k + 10) (n' := n + 2600) (by omega) (by omega) ?_
    exact kk _ _ _ _ _ hj1 R3

set_option maxRecDepth 100000 in
theorem blk_owesAnew {X : zX} {y : MethodName} (hy : y.cls = RL) (C : ZC X cL_law y 12) (htr : (zLn X).stackTraces = false) (hN : zN X = 7) {sc L : Nat} {xi : Nat → Int} (hxi : ∀ j, -2147483648 ≤ xi j ∧ xi j < 2147483648) (SC : ZS X sc L xi) (hL : L ≤ 2048) {JJ : JT} (hJM : ∀ T S, JJ T S → (MB S ∧ (∀ j, S 9 j ≤ 6000) ∧ (∀ j, S 12 j ≤ S 14 0) ∧ ∀ j, S 8 j ≤ S 14 0) ∧ TB T ∧ T 1 0 = S 1 0) {b o : Nat} {a : Nat → Nat} (hop : OPC_owesAnew (zLn X) (zG_of X) JJ b) {T S : Nat → Nat → Int} {t : Int} {f : Nat → Int64} {h : zH} {k n i : Nat} (hi : i + 4 ≤ L) (hj : JJ T S) (hls : LSx (zG_of X) b a o T S t f h) (hk : k + 10 ≤ (zR_of X).cells) (hn : n + 2600 ≤ (zR_of X).slots) (kk : ∀ (T S : Nat → Nat → Int) (t : Int) (f : Nat → Int64) (h : zH), JJ T S → LSx (zG_of X) b a o T S t f h → Z X 1184 [.ref sc, .ref b, .ref (a 0), .ref o, vI (i : Int)] [] h (k + 10) (n + 2600)) : Z X 1060 [.ref sc, .ref b, .ref (a 0), .ref o, vI (i : Int)] [] h k n := by
  have I := (hJM T S hj).1.1
  obtain ⟨hC, hM, kC, kM, sC, sM, dj, ho, oC, oM⟩ := hls
  have hb7 : ∃ fs, h b = some (eO 7 fs) := by
    obtain ⟨ad, el, e0, R⟩ := kC
    have := sC _ _ R.club
    rw [e0] at this
    exact ⟨_, this⟩
  obtain ⟨fs, hb7⟩ := hb7
  have hop2 : CT (zLn X) (zG_of X) yX6_owesAnew cX6_owesAnew 3 (some .int) 8 [.ref b, vI (xi (i + 1)), vI (xi (i + 2))] h 2 13 (fun r9 h9 => ∃ v, r9 = some (vI v) ∧ fQ hC h (QKf JJ (zG_of X) b (cOwes S (xi (i + 1)) (xi (i + 2))) (S 9 (10 * (xi (i + 1)).toNat + (xi (i + 2)).toNat)) (S)) v h9) (fun E9 h9 => (E9 = "java/lang/IndexOutOfBoundsException" ∧ fQ hC h (QXf (zG_of X) b (cOwes S (xi (i + 1)) (xi (i + 2))) T) 1 h9)) :=
    CT.mono (CT.frame sC (hop T S hC (xi (i + 1)) (xi (i + 2)) hj kC (hxi _) (hxi _))) (fun r9 h9 z => by
        obtain ⟨hm9, ⟨v0, e, q⟩, fr⟩ := z
        exact ⟨v0, e, hm9, q, fr⟩) (fun E9 h9 z => by
        obtain ⟨hm9, ⟨e, q⟩, fr⟩ := z
        exact ⟨e, hm9, q, fr⟩)
  have hh := c_L_owesAnew htr hb7 hop2 (fun v h9 q => by
      obtain ⟨hm9, -, fr⟩ := q
      exact ⟨f, fr.2.1 o _ oC ho⟩)
  refine Z.aload_n C dL_law_1060 rfl ?_
  refine Z.aload_n C dL_law_1061 rfl ?_
  refine Z.iload C dL_law_1062 rfl ?_
  refine Z.iconst C dL_law_1064 ?_
  refine Z.iadd C dL_law_1065 ?_
  refine Z.sld (j := i + 1) C SC dL_law_1066 (by omega) (by omega) ?_
  refine Z.aload_n C dL_law_1067 rfl ?_
  refine Z.iload C dL_law_1068 rfl ?_
  refine Z.iconst C dL_law_1070 ?_
  refine Z.iadd C dL_law_1071 ?_
  refine Z.sld (j := i + 2) C SC dL_law_1072 (by omega) (by omega) ?_
  refine Z.aload_n C dL_law_1073 rfl ?_
  refine h_L_129 C hy dL_law_1074 hh (by decide) (Nat.le_of_ble_eq_true rfl) (by omega) (by omega) (fun w1 h1 q1 => ?_)
  obtain ⟨T1, g1, rfl, hc03, R1, hj1, hg⟩ := LS.helped hj kM sC sM dj ho oC oM q1
  refine Z.istore (l' := [_, _, _, _, _, _]) C dL_law_1077 (Nat.le_of_ble_eq_true rfl) (by rw [hN]; decide) rfl ?_
  obtain ⟨hC1, hM1, kC1, kM1, sC1, sM1, dj1, ho1, oC1, oM1⟩ := R1
  refine Z.aload_n C dL_law_1079 rfl ?_
  refine Z.aload_n C dL_law_1080 rfl ?_
  refine Z.iload C dL_law_1081 rfl ?_
  refine Z.iconst C dL_law_1083 ?_
  refine Z.iadd C dL_law_1084 ?_
  refine Z.sld (j := i + 1) C SC dL_law_1085 (by omega) (by omega) ?_
  refine Z.aload_n C dL_law_1086 rfl ?_
  refine Z.iload C dL_law_1087 rfl ?_
  refine Z.iconst C dL_law_1089 ?_
  refine Z.iadd C dL_law_1090 ?_
  refine Z.sld (j := i + 2) C SC dL_law_1091 (by omega) (by omega) ?_
  refine v_L_131 C hy dL_law_1092 (sM1 _ _ kM1.1) (CT.frame sM1 (c_X7_owesAnew htr kM1 I (hxi _) (hxi _))) (by decide) (Nat.le_of_ble_eq_true rfl) (by omega) (by omega) (fun w2 h2 q2 => ?_) (fun _ _ q => by obtain ⟨_, q, _⟩ := q; exact q.elim)
  obtain ⟨b9, rfl, R2, hv⟩ := LS.modded kC1 sC1 dj1 ho1 oC1 oM1 q2
  obtain ⟨hC2, hM2, kC2, kM2, sC2, sM2, dj2, ho2, oC2, oM2⟩ := R2
  refine Z.istore (l' := [_, _, _, _, _, _, _]) C dL_law_1095 (Nat.le_of_ble_eq_true rfl) (by rw [hN]; decide) rfl ?_
  refine Z.aload_n C dL_law_1097 rfl ?_
  refine v_L_79 C hy dL_law_1098 (sM2 _ _ kM2.1) (CT.frame sM2 (c_X7_thrown htr kM2 (hJM _ _ hj1).1.1)) (by decide) (Nat.le_of_ble_eq_true rfl) (by omega) (by omega) (fun w3 h3 q3 => ?_) (fun _ _ q => by obtain ⟨_, q, _⟩ := q; exact q.elim)
  obtain ⟨hm3, ⟨rfl, e3⟩, fr3⟩ := q3
  subst e3
  have R3 := fr3.mod kC2 kM2 sC2 dj2 ho2 oC2 oM2
  refine Z.iload C dL_law_1101 rfl ?_
  refine Z.icmp_eq (tgt := 1108) C dL_law_1103 (by decide) (by omega) (by omega) (by omega) (by omega) (fun _ => ?_) (fun z => absurd rfl z)
  refine Z.iload C dL_law_1108 rfl ?_
  refine Z.if_ne (tgt := 1125) C dL_law_1110 (by decide) (by omega) (by omega) (fun c1 => ?_) (fun c1 => ?_)
  · refine Z.goto (tgt := 1184) C dL_law_1125 (by decide) ?_
    refine Z.pre (l' := [_, _, _, _, _]) 5 rfl ?_
    refine Z.widen (k' := k + 10) (n' := n + 2600) (by omega) (by omega) ?_
    exact kk _ _ _ _ _ hj1 R3
  · refine Z.aload_n C dL_law_1113 rfl ?_
    refine Z.iconst C dL_law_1114 ?_
    have ho3 : h3 o = some (eL ((zG_of X).2.1 4) 1 g1) := by
      obtain ⟨_, _, _, _, _, _, _, q, _, _⟩ := R3
      exact q
    refine Z.laload C dL_law_1115 ho3 (by decide) (by decide) (by decide) ?_
    have eg : g1 (0 : Int).toNat = (jI b9).toInt64 := by
      rw [hv c1]
      exact hg c1
    rw [eg]
    refine Z.iload C dL_law_1116 rfl ?_
    refine Z.i2l C dL_law_1118 ?_
    refine Z.lcmp C dL_law_1119 ?_
    rw [lg_self]
    refine Z.if_eq (tgt := 1125) C dL_law_1120 (by decide) (by decide) (by decide) (fun _ => ?_) (fun z => absurd rfl z)
    refine Z.goto (tgt := 1184) C dL_law_1125 (by decide) ?_
    refine Z.pre (l' := [_, _, _, _, _]) 5 rfl ?_
    refine Z.widen (k' := k + 10) (n' := n + 2600) (by omega) (by omega) ?_
    exact kk _ _ _ _ _ hj1 R3

set_option maxRecDepth 100000 in
theorem blk_told {X : zX} {y : MethodName} (hy : y.cls = RL) (C : ZC X cL_law y 12) (htr : (zLn X).stackTraces = false) (hN : zN X = 7) {sc L : Nat} {xi : Nat → Int} (hxi : ∀ j, -2147483648 ≤ xi j ∧ xi j < 2147483648) (SC : ZS X sc L xi) (hL : L ≤ 2048) {JJ : JT} (hJM : ∀ T S, JJ T S → (MB S ∧ (∀ j, S 9 j ≤ 6000) ∧ (∀ j, S 12 j ≤ S 14 0) ∧ ∀ j, S 8 j ≤ S 14 0) ∧ TB T ∧ T 1 0 = S 1 0) {b o : Nat} {a : Nat → Nat} (hop : OPC_told (zLn X) (zG_of X) JJ b) {T S : Nat → Nat → Int} {t : Int} {f : Nat → Int64} {h : zH} {k n i : Nat} (hi : i + 4 ≤ L) (hj : JJ T S) (hls : LSx (zG_of X) b a o T S t f h) (hk : k + 10 ≤ (zR_of X).cells) (hn : n + 2600 ≤ (zR_of X).slots) (kk : ∀ (T S : Nat → Nat → Int) (t : Int) (f : Nat → Int64) (h : zH), JJ T S → LSx (zG_of X) b a o T S t f h → Z X 1184 [.ref sc, .ref b, .ref (a 0), .ref o, vI (i : Int)] [] h (k + 10) (n + 2600)) : Z X 1128 [.ref sc, .ref b, .ref (a 0), .ref o, vI (i : Int)] [] h k n := by
  have I := (hJM T S hj).1.1
  obtain ⟨hC, hM, kC, kM, sC, sM, dj, ho, oC, oM⟩ := hls
  have hb7 : ∃ fs, h b = some (eO 7 fs) := by
    obtain ⟨ad, el, e0, R⟩ := kC
    have := sC _ _ R.club
    rw [e0] at this
    exact ⟨_, this⟩
  obtain ⟨fs, hb7⟩ := hb7
  have hop2 : CT (zLn X) (zG_of X) yX6_told cX6_told 4 (some .char) 9 [.ref b, vI (xi (i + 1))] h 8 2276 (fun r9 h9 => ∃ v, r9 = some (vI v) ∧ fQ hC h (QKf JJ (zG_of X) b (cTold (xi (i + 1))) (mtold S (xi (i + 1))) (S)) v h9) (fun E9 h9 => (E9 = "java/lang/IndexOutOfBoundsException" ∧ fQ hC h (QXf (zG_of X) b (cTold (xi (i + 1))) T) 1 h9)) :=
    CT.mono (CT.frame sC (hop T S hC (xi (i + 1)) hj kC (hxi _))) (fun r9 h9 z => by
        obtain ⟨hm9, ⟨v0, e, q⟩, fr⟩ := z
        exact ⟨v0, e, hm9, q, fr⟩) (fun E9 h9 z => by
        obtain ⟨hm9, ⟨e, q⟩, fr⟩ := z
        exact ⟨e, hm9, q, fr⟩)
  have hh := c_L_told htr hb7 hop2 (fun v h9 q => by
      obtain ⟨hm9, -, fr⟩ := q
      exact ⟨f, fr.2.1 o _ oC ho⟩)
  refine Z.aload_n C dL_law_1128 rfl ?_
  refine Z.aload_n C dL_law_1129 rfl ?_
  refine Z.iload C dL_law_1130 rfl ?_
  refine Z.iconst C dL_law_1132 ?_
  refine Z.iadd C dL_law_1133 ?_
  refine Z.sld (j := i + 1) C SC dL_law_1134 (by omega) (by omega) ?_
  refine Z.aload_n C dL_law_1135 rfl ?_
  refine h_L_132 C hy dL_law_1136 hh (by decide) (Nat.le_of_ble_eq_true rfl) (by omega) (by omega) (fun w1 h1 q1 => ?_)
  obtain ⟨T1, g1, rfl, hc03, R1, hj1, hg⟩ := LS.helped hj kM sC sM dj ho oC oM q1
  refine Z.istore (l' := [_, _, _, _, _, _]) C dL_law_1139 (Nat.le_of_ble_eq_true rfl) (by rw [hN]; decide) rfl ?_
  obtain ⟨hC1, hM1, kC1, kM1, sC1, sM1, dj1, ho1, oC1, oM1⟩ := R1
  refine Z.aload_n C dL_law_1141 rfl ?_
  refine Z.aload_n C dL_law_1142 rfl ?_
  refine Z.iload C dL_law_1143 rfl ?_
  refine Z.iconst C dL_law_1145 ?_
  refine Z.iadd C dL_law_1146 ?_
  refine Z.sld (j := i + 1) C SC dL_law_1147 (by omega) (by omega) ?_
  refine v_L_134 C hy dL_law_1148 (sM1 _ _ kM1.1) (CT.frame sM1 (c_X7_told htr kM1 I (hxi _))) (by decide) (Nat.le_of_ble_eq_true rfl) (by omega) (by omega) (fun w2 h2 q2 => ?_) (fun _ _ q => by obtain ⟨_, q, _⟩ := q; exact q.elim)
  obtain ⟨b9, rfl, R2, hv⟩ := LS.modded kC1 sC1 dj1 ho1 oC1 oM1 q2
  obtain ⟨hC2, hM2, kC2, kM2, sC2, sM2, dj2, ho2, oC2, oM2⟩ := R2
  refine Z.istore (l' := [_, _, _, _, _, _, _]) C dL_law_1151 (Nat.le_of_ble_eq_true rfl) (by rw [hN]; decide) rfl ?_
  refine Z.aload_n C dL_law_1153 rfl ?_
  refine v_L_79 C hy dL_law_1154 (sM2 _ _ kM2.1) (CT.frame sM2 (c_X7_thrown htr kM2 (hJM _ _ hj1).1.1)) (by decide) (Nat.le_of_ble_eq_true rfl) (by omega) (by omega) (fun w3 h3 q3 => ?_) (fun _ _ q => by obtain ⟨_, q, _⟩ := q; exact q.elim)
  obtain ⟨hm3, ⟨rfl, e3⟩, fr3⟩ := q3
  subst e3
  have R3 := fr3.mod kC2 kM2 sC2 dj2 ho2 oC2 oM2
  refine Z.iload C dL_law_1157 rfl ?_
  refine Z.icmp_eq (tgt := 1164) C dL_law_1159 (by decide) (by omega) (by omega) (by omega) (by omega) (fun _ => ?_) (fun z => absurd rfl z)
  refine Z.iload C dL_law_1164 rfl ?_
  refine Z.if_ne (tgt := 1181) C dL_law_1166 (by decide) (by omega) (by omega) (fun c1 => ?_) (fun c1 => ?_)
  · refine Z.goto (tgt := 1184) C dL_law_1181 (by decide) ?_
    refine Z.pre (l' := [_, _, _, _, _]) 5 rfl ?_
    refine Z.widen (k' := k + 10) (n' := n + 2600) (by omega) (by omega) ?_
    exact kk _ _ _ _ _ hj1 R3
  · refine Z.aload_n C dL_law_1169 rfl ?_
    refine Z.iconst C dL_law_1170 ?_
    have ho3 : h3 o = some (eL ((zG_of X).2.1 4) 1 g1) := by
      obtain ⟨_, _, _, _, _, _, _, q, _, _⟩ := R3
      exact q
    refine Z.laload C dL_law_1171 ho3 (by decide) (by decide) (by decide) ?_
    have eg : g1 (0 : Int).toNat = (jI b9).toInt64 := by
      rw [hv c1]
      exact hg c1
    rw [eg]
    refine Z.iload C dL_law_1172 rfl ?_
    refine Z.i2l C dL_law_1174 ?_
    refine Z.lcmp C dL_law_1175 ?_
    rw [lg_self]
    refine Z.if_eq (tgt := 1181) C dL_law_1176 (by decide) (by decide) (by decide) (fun _ => ?_) (fun z => absurd rfl z)
    refine Z.goto (tgt := 1184) C dL_law_1181 (by decide) ?_
    refine Z.pre (l' := [_, _, _, _, _]) 5 rfl ?_
    refine Z.widen (k' := k + 10) (n' := n + 2600) (by omega) (by omega) ?_
    exact kk _ _ _ _ _ hj1 R3

set_option maxRecDepth 100000 in
theorem blk_hour {X : zX} {y : MethodName} (hy : y.cls = RL) (C : ZC X cL_law y 12) (htr : (zLn X).stackTraces = false) (hN : zN X = 7) {sc L : Nat} {xi : Nat → Int} (hxi : ∀ j, -2147483648 ≤ xi j ∧ xi j < 2147483648) (SC : ZS X sc L xi) (hL : L ≤ 2048) {JJ : JT} (hJM : ∀ T S, JJ T S → (MB S ∧ (∀ j, S 9 j ≤ 6000) ∧ (∀ j, S 12 j ≤ S 14 0) ∧ ∀ j, S 8 j ≤ S 14 0) ∧ TB T ∧ T 1 0 = S 1 0) {b o : Nat} {a : Nat → Nat} {T S : Nat → Nat → Int} {t : Int} {f : Nat → Int64} {h : zH} {k n i : Nat} (hi : i + 4 ≤ L) (hj : JJ T S) (hls : LSx (zG_of X) b a o T S t f h) (hk : k + 10 ≤ (zR_of X).cells) (hn : n + 2600 ≤ (zR_of X).slots) (kk : ∀ (T S : Nat → Nat → Int) (t : Int) (f : Nat → Int64) (h : zH), JJ T S → LSx (zG_of X) b a o T S t f h → Z X 1184 [.ref sc, .ref b, .ref (a 0), .ref o, vI (i : Int)] [] h (k + 10) (n + 2600)) : Z X 724 [.ref sc, .ref b, .ref (a 0), .ref o, vI (i : Int)] [] h k n := by
  have hJ := hJM T S hj
  have b1 : 0 ≤ S 1 0 ∧ S 1 0 ≤ 2000 := hJ.1.1 1 0 (by decide)
  obtain ⟨hC, hM, kC, kM, sC, sM, dj, ho, oC, oM⟩ := hls
  obtain ⟨ad, el, e0, R⟩ := id kC
  subst e0
  refine Z.aload_n C dL_law_724 rfl ?_
  refine v_L_110 C hy dL_law_725 (sC _ _ R.club) (CT.frame sC (c_X6_hour htr R hJ.2.1)) (by decide) (Nat.le_of_ble_eq_true rfl) (by omega) (by omega) (fun w1 h1 q1 => ?_) (fun _ _ q => by obtain ⟨_, q, _⟩ := q; exact q.elim)
  obtain ⟨hm1, ⟨rfl, e1⟩, fr1⟩ := q1
  subst e1
  obtain ⟨hC1, hM1, kC1, kM1, sC1, sM1, dj1, ho1, oC1, oM1⟩ := fr1.cls kC kM sC sM dj ho oC oM
  refine Z.aload_n C dL_law_728 rfl ?_
  refine v_L_113 C hy dL_law_729 (sM1 _ _ kM1.1) (CT.frame sM1 (c_X7_hour htr kM1 hJ.1.1)) (by decide) (Nat.le_of_ble_eq_true rfl) (by omega) (by omega) (fun w2 h2 q2 => ?_) (fun _ _ q => by obtain ⟨_, q, _⟩ := q; exact q.elim)
  obtain ⟨hm2, ⟨rfl, kM2⟩, fr2⟩ := q2
  have R3 := fr2.mod kC1 kM2 sC1 dj1 ho1 oC1 oM1
  have e5 := hJ.2.2
  refine Z.icmp_eq (tgt := 1184) C dL_law_732 (by decide) (by omega) (by omega) (by omega) (by omega) (fun _ => ?_) (fun z => absurd e5 z)
  refine Z.widen (k' := k + 10) (n' := n + 2600) (by omega) (by omega) ?_
  exact kk _ _ _ _ _ hj R3

set_option maxRecDepth 100000 in
theorem law_loop {X : zX} {y : MethodName} (hy : y.cls = RL) (C : ZC X cL_law y 12) (htr : (zLn X).stackTraces = false) (hN : zN X = 7) {sc L : Nat} {xi : Nat → Int} (hxi : ∀ j, -2147483648 ≤ xi j ∧ xi j < 2147483648) (SC : ZS X sc L xi) (hL : L ≤ 2048) {JJ : JT} (hJM : ∀ T S, JJ T S → (MB S ∧ (∀ j, S 9 j ≤ 6000) ∧ (∀ j, S 12 j ≤ S 14 0) ∧ ∀ j, S 8 j ≤ S 14 0) ∧ TB T ∧ T 1 0 = S 1 0) {b o : Nat} {a : Nat → Nat} (h_join : OPC_join (zLn X) (zG_of X) JJ b) (h_leave : OPC_leave (zLn X) (zG_of X) JJ b) (h_film : OPC_film (zLn X) (zG_of X) JJ b) (h_fetch : OPC_fetch (zLn X) (zG_of X) JJ b) (h_pass : OPC_pass (zLn X) (zG_of X) JJ b) (h_propose : OPC_propose (zLn X) (zG_of X) JJ b) (h_vote : OPC_vote (zLn X) (zG_of X) JJ b) (h_rule : OPC_rule (zLn X) (zG_of X) JJ b) (h_proposal : OPC_proposal (zLn X) (zG_of X) JJ b) (h_member : OPC_member (zLn X) (zG_of X) JJ b) (h_has : OPC_has (zLn X) (zG_of X) JJ b) (h_owes : OPC_owes (zLn X) (zG_of X) JJ b) (h_worth : OPC_worth (zLn X) (zG_of X) JJ b) (h_accountAnew : OPC_accountAnew (zLn X) (zG_of X) JJ b) (h_owesAnew : OPC_owesAnew (zLn X) (zG_of X) JJ b) (h_told : OPC_told (zLn X) (zG_of X) JJ b) (hRc : (zR_of X).cells = 601024) (hRs : (zR_of X).slots = 7293034) (hend : ∀ (l : List Value) (h : zH) (k n : Nat), k ≤ 601024 → n ≤ 7293034 → Z X 1191 l [vI 1] h k n) : ∀ (q i k n : Nat) (T S : Nat → Nat → Int) (t : Int) (f : Nat → Int64) (h : zH), L ≤ i + 4 * q → k + 10 * q ≤ 601024 → n + 2600 * q ≤ 7293034 → JJ T S → LSx (zG_of X) b a o T S t f h → i ≤ 2052 → Z X 23 [.ref sc, .ref b, .ref (a 0), .ref o, vI (i : Int)] [] h k n := by
  intro q
  induction q with
  | zero =>
    intro i k n T S t f h hq hk hn hj hls hi2
    refine Z.iload C dL_law_23 rfl ?_
    refine Z.aload_n C dL_law_25 rfl ?_
    refine Z.slen C SC dL_law_26 ?_
    refine Z.iconst C dL_law_27 ?_
    refine Z.isub C dL_law_28 ?_
    refine Z.icmp_gt (tgt := 1190) C dL_law_29 (by decide) (by omega) (by omega) (by omega) (by omega) (fun c29 => ?_) (fun c29 => ?_)
    · refine Z.iconst C dL_law_1190 ?_
      exact hend _ _ _ _ (by omega) (by omega)
    · exfalso; omega
  | succ q ih =>
    intro i k n T S t f h hq hk hn hj hls hi2
    refine Z.iload C dL_law_23 rfl ?_
    refine Z.aload_n C dL_law_25 rfl ?_
    refine Z.slen C SC dL_law_26 ?_
    refine Z.iconst C dL_law_27 ?_
    refine Z.isub C dL_law_28 ?_
    refine Z.icmp_gt (tgt := 1190) C dL_law_29 (by decide) (by omega) (by omega) (by omega) (by omega) (fun c29 => ?_) (fun c29 => ?_)
    · refine Z.iconst C dL_law_1190 ?_
      exact hend _ _ _ _ (by omega) (by omega)
    · have hi : i + 4 ≤ L := by omega
      have hkc : k + 10 ≤ (zR_of X).cells := by rw [hRc]; omega
      have hnc : n + 2600 ≤ (zR_of X).slots := by rw [hRs]; omega
      have kk : ∀ (T S : Nat → Nat → Int) (t : Int) (f : Nat → Int64) (h : zH), JJ T S → LSx (zG_of X) b a o T S t f h → Z X 1184 [.ref sc, .ref b, .ref (a 0), .ref o, vI (i : Int)] [] h (k + 10) (n + 2600) := by
        intro T S t f h hj hls
        refine Z.iinc (l' := [_, _, _, _, _]) C dL_law_1184 rfl (Nat.le_of_ble_eq_true rfl) (by rw [hN]; decide) rfl ?_
        refine Z.goto (tgt := 23) C dL_law_1187 (by decide) ?_
        exact ih (i + 4) _ _ T S t f h (by omega) (by omega) (by omega) hj hls (by omega)
      refine Z.aload_n C dL_law_32 rfl ?_
      refine Z.iload C dL_law_33 rfl ?_
      refine Z.sld (j := i) C SC dL_law_35 (by omega) (by omega) ?_
      refine Z.bipush C dL_law_36 (by decide) ?_
      obtain ⟨z, hz, ez⟩ := and31 (jI (xi i))
      refine Z.iand (z := z) C dL_law_38 ez ?_
      have hz17 : z = 0 ∨ z = 1 ∨ z = 2 ∨ z = 3 ∨ z = 4 ∨ z = 5 ∨ z = 6 ∨ z = 7 ∨ z = 8 ∨ z = 9 ∨ z = 10 ∨ z = 11 ∨ z = 12 ∨ z = 13 ∨ z = 14 ∨ z = 15 ∨ z = 16 ∨ 17 ≤ z := by omega
      rcases hz17 with rfl | rfl | rfl | rfl | rfl | rfl | rfl | rfl | rfl | rfl | rfl | rfl | rfl | rfl | rfl | rfl | rfl | hz17
      · refine Z.tblIn (off := 81) (tgt := 120) C dL_law_39 (by decide) (by decide) (by decide) (by decide) rfl (by decide) ?_
        exact blk_join hy C htr hN hxi SC hL hJM h_join hi hj hls hkc hnc kk
      · refine Z.tblIn (off := 149) (tgt := 188) C dL_law_39 (by decide) (by decide) (by decide) (by decide) rfl (by decide) ?_
        exact blk_leave hy C htr hN hxi SC hL hJM h_leave hi hj hls hkc hnc kk
      · refine Z.tblIn (off := 205) (tgt := 244) C dL_law_39 (by decide) (by decide) (by decide) (by decide) rfl (by decide) ?_
        exact blk_film hy C htr hN hxi SC hL hJM h_film hi hj hls hkc hnc kk
      · refine Z.tblIn (off := 261) (tgt := 300) C dL_law_39 (by decide) (by decide) (by decide) (by decide) rfl (by decide) ?_
        exact blk_fetch hy C htr hN hxi SC hL hJM h_fetch hi hj hls hkc hnc kk
      · refine Z.tblIn (off := 329) (tgt := 368) C dL_law_39 (by decide) (by decide) (by decide) (by decide) rfl (by decide) ?_
        exact blk_pass hy C htr hN hxi SC hL hJM h_pass hi hj hls hkc hnc kk
      · refine Z.tblIn (off := 385) (tgt := 424) C dL_law_39 (by decide) (by decide) (by decide) (by decide) rfl (by decide) ?_
        exact blk_propose hy C htr hN hxi SC hL hJM h_propose hi hj hls hkc hnc kk
      · refine Z.tblIn (off := 465) (tgt := 504) C dL_law_39 (by decide) (by decide) (by decide) (by decide) rfl (by decide) ?_
        exact blk_vote hy C htr hN hxi SC hL hJM h_vote hi hj hls hkc hnc kk
      · refine Z.tblIn (off := 561) (tgt := 600) C dL_law_39 (by decide) (by decide) (by decide) (by decide) rfl (by decide) ?_
        exact blk_rule hy C htr hN hxi SC hL hJM h_rule hi hj hls hkc hnc kk
      · refine Z.tblIn (off := 617) (tgt := 656) C dL_law_39 (by decide) (by decide) (by decide) (by decide) rfl (by decide) ?_
        exact blk_proposal hy C htr hN hxi SC hL hJM h_proposal hi hj hls hkc hnc kk
      · refine Z.tblIn (off := 685) (tgt := 724) C dL_law_39 (by decide) (by decide) (by decide) (by decide) rfl (by decide) ?_
        exact blk_hour hy C htr hN hxi SC hL hJM hi hj hls hkc hnc kk
      · refine Z.tblIn (off := 698) (tgt := 737) C dL_law_39 (by decide) (by decide) (by decide) (by decide) rfl (by decide) ?_
        exact blk_member hy C htr hN hxi SC hL hJM h_member hi hj hls hkc hnc kk
      · refine Z.tblIn (off := 766) (tgt := 805) C dL_law_39 (by decide) (by decide) (by decide) (by decide) rfl (by decide) ?_
        exact blk_has hy C htr hN hxi SC hL hJM h_has hi hj hls hkc hnc kk
      · refine Z.tblIn (off := 841) (tgt := 880) C dL_law_39 (by decide) (by decide) (by decide) (by decide) rfl (by decide) ?_
        exact blk_owes hy C htr hN hxi SC hL hJM h_owes hi hj hls hkc hnc kk
      · refine Z.tblIn (off := 909) (tgt := 948) C dL_law_39 (by decide) (by decide) (by decide) (by decide) rfl (by decide) ?_
        exact blk_worth hy C htr hN hxi SC hL hJM h_worth hi hj hls hkc hnc kk
      · refine Z.tblIn (off := 965) (tgt := 1004) C dL_law_39 (by decide) (by decide) (by decide) (by decide) rfl (by decide) ?_
        exact blk_accountAnew hy C htr hN hxi SC hL hJM h_accountAnew hi hj hls hkc hnc kk
      · refine Z.tblIn (off := 1021) (tgt := 1060) C dL_law_39 (by decide) (by decide) (by decide) (by decide) rfl (by decide) ?_
        exact blk_owesAnew hy C htr hN hxi SC hL hJM h_owesAnew hi hj hls hkc hnc kk
      · refine Z.tblIn (off := 1089) (tgt := 1128) C dL_law_39 (by decide) (by decide) (by decide) (by decide) rfl (by decide) ?_
        exact blk_told hy C htr hN hxi SC hL hJM h_told hi hj hls hkc hnc kk
      · refine Z.tblOut (tgt := 1184) C dL_law_39 (by omega) (by omega) (Or.inr (by omega)) (by decide) ?_
        refine Z.widen (k' := k + 10) (n' := n + 2600) (by omega) (by omega) ?_
        exact kk T S t f h hj hls

