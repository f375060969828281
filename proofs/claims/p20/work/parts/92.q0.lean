/-! the law's method drawn -/
theorem ss_L_118 {X : zX} {cc : ByteArray} {y : MethodName} {d pc k n : Nat} {l st : List Value} {h : zH} (C : ZC X cc y d) {sc L : Nat} {xi : Nat → Int} (S : ZS X sc L xi) {d2 mc ms : Nat} {Qf : Option Value → zH → Prop} {a0 a1 : Value} (hy : y.cls = RL) (hd : decode cc pc = .ok (.invokestatic 118, 3)) (hct : CTS (zLn X) (zG_of X) yL_drawn cL_drawn 2 (some .int) d2 [a0, a1] h mc ms Qf sc L xi) (hd2 : d2 + 1 ≤ d) (hcat : (st.map fun v => v.category).sum ≤ 8) (hmc : k + mc ≤ (zR_of X).cells) (hms : n + ms ≤ (zR_of X).slots) (kk : ∀ (v : Option Value) (h' : zH), Qf v h' → Z X (pc + 3) l (v.toList ++ st) h' (k + mc) (n + ms)) : Z X pc l (a1 :: a0 :: st) h k n := Z.callSS (as := [a0, a1]) C S (by rw [hy]; exact zw_82) zl_ini zw_84 (by decide) (show (parseMethodDescriptor yL_drawn.desc).map (fun d => d.parameters.length) = some 2 from by decide +kernel) (by decide) zw_83 hd hct rfl hd2 hcat hmc hms kk
set_option maxRecDepth 100000 in
theorem c_L_drawn {ln : Launch} (htr : ln.stackTraces = false) {G : zG} {sc L : Nat} {xi : Nat → Int} {h : zH} {i : Int} (hi : 0 ≤ i ∧ i ≤ 100) (hL : L ≤ 260) : CTS ln G yL_drawn cL_drawn 2 (some .int) 1 [.ref sc, vI i] h 0 0 (fun r9 h9 => (∃ z : Int, (0 ≤ z ∧ z ≤ 2147483647) ∧ r9 = some (vI z)) ∧ h9 = h) sc L xi := by
  obtain ⟨k9, rfl⟩ := toN hi.1
  refine CTS.intro htr (by decide) rfl (Nat.le_of_ble_eq_true rfl) ?_
  intro X hln hG hR hN C E SX
  subst hln
  subst hG
  refine Z.iload_n C dL_drawn_0 rfl ?_
  refine Z.aload_n C dL_drawn_1 rfl ?_
  refine Z.slen C SX dL_drawn_2 ?_
  have J22 : ∀ v9 : Int, True → Z X 22 [.ref sc, vI ((k9 : Int))] [vI (v9)] h (0) (0) := by
    intro v9 hv9
    refine Z.ldcI (v := 2147483647) C zl_c73 dL_drawn_22 ?_
    obtain ⟨z, hz1, hz2⟩ := and_mask (jI v9)
    refine Z.iand (z := z) C dL_drawn_24 hz2 ?_
    exact Z.iret C E dL_drawn_25 (by decide) (by decide) ⟨⟨z, hz1, rfl⟩, rfl⟩
  refine Z.icmp_ge (tgt := 12) C dL_drawn_3 (by decide) (by omega) (by omega) (by omega) (by omega) (fun c3 => ?_) (fun c3 => ?_)
  · refine Z.ldcI (v := 15526769) C zl_c72 dL_drawn_12 ?_
    refine Z.iload_n C dL_drawn_14 rfl ?_
    refine Z.iconst C dL_drawn_15 ?_
    refine Z.iadd C dL_drawn_16 ?_
    refine Z.imul C dL_drawn_17 ?_
    refine Z.sipush C dL_drawn_18 (by decide) ?_
    refine Z.iadd C dL_drawn_21 ?_
    exact J22 _ trivial
  · refine Z.aload_n C dL_drawn_6 rfl ?_
    refine Z.iload_n C dL_drawn_7 rfl ?_
    refine Z.sld (j := k9) C SX dL_drawn_8 (by omega) (by omega) ?_
    refine Z.goto (tgt := 22) C dL_drawn_9 (by decide) ?_
    exact J22 _ trivial
/-! the law's loop, over two clubs -/
set_option maxHeartbeats 8000000 in
set_option maxRecDepth 100000 in
theorem law_loop {X : zX} {y : MethodName} (hy : y.cls = RL) (C : ZC X cL_law y 13) (htr : (zLn X).stackTraces = false) (hN : zN X = 11) {sc L : Nat} {xi : Nat → Int} (SX : ZS X sc L xi) (hL : L ≤ 260) (hRc : (zR_of X).cells = 967012) (hRs : (zR_of X).slots = 6200433) (hend : ∀ (l9 : List Value) (h : zH) (k n : Nat), k ≤ 967012 → n ≤ 6200433 → Z X 338 l9 [vI 1] h k n) {b1 b2 o : Nat} {S : Nat → Nat → Int} {h : zH} {k n : Nat} {things : Int} (ht : 40 ≤ things ∧ things ≤ 70) (K0 : LD (zG_of X) b1 b2 o S S (nvf (S 2 0) (S 10 0) (S 15 0)) h) (ES00 : ES S) (hk : k ≤ 50) (hn : n ≤ 100) : Z X 39 [.ref sc, .ref b1, .ref b2, .ref o, vI things, vI 1, vI 0] [] h k n := by
  have L39 : ∀ (q kk : Nat) (S : Nat → Nat → Int) (hh : zH) (aa39 bb39 : Nat), (kk : Int) + q = things → LD (zG_of X) b1 b2 o S S (nvf (S 2 0) (S 10 0) (S 15 0)) hh → ES S → aa39 + q * 1500 ≤ 110000 → bb39 + q * 48500 ≤ 3500000 → Z X 39 [.ref sc, .ref b1, .ref b2, .ref o, vI things, vI 1, vI (kk : Int)] [] hh aa39 bb39 := by
    intro q
    induction q with
    | zero =>
      intro kk S hh aa39 bb39 hv39 Kl39 ES0 ha39 hb39
      have C0 := Kl39.c1
      refine Z.iload C dL_law_39 rfl ?_
      refine Z.iload C dL_law_41 rfl ?_
      refine Z.icmp_ge (tgt := 295) C dL_law_43 (by decide) (by omega) (by omega) (by omega) (by omega) (fun _ => ?_) (fun z => by exfalso; omega)
      refine Z.iload C dL_law_295 rfl ?_
      refine Z.if_eq (tgt := 337) C dL_law_297 (by decide) (by omega) (by omega) (fun z => absurd z (by decide)) (fun _ => ?_)
      refine Z.aload_n C dL_law_300 rfl ?_
      refine Z.aload_n C dL_law_301 rfl ?_
      obtain ⟨hC302, hCo302, K302, back302⟩ := Kl39.use1
      refine s_L_134 C hy dL_law_302 (c_L_isWhole htr K302 Kl39.arr hCo302 ES0) (by decide) (Nat.le_of_ble_eq_true rfl) (by omega) (by omega) (fun w302 h302 q302 => ?_) (fun _ _ q => q.elim)
      obtain ⟨rfl, M302⟩ := q302
      replace M302 := back302 _ _ M302
      clear back302 K302 hCo302
      refine Z.if_eq (tgt := 337) C dL_law_305 (by decide) (by omega) (by omega) (fun z => absurd z (by decide)) (fun _ => ?_)
      refine Z.aload_n C dL_law_308 rfl ?_
      refine Z.aload_n C dL_law_309 rfl ?_
      obtain ⟨hC310, hCo310, K310, back310⟩ := M302.use2
      refine s_L_134 C hy dL_law_310 (c_L_isWhole htr K310 M302.arr hCo310 ES0) (by decide) (Nat.le_of_ble_eq_true rfl) (by omega) (by omega) (fun w310 h310 q310 => ?_) (fun _ _ q => q.elim)
      obtain ⟨rfl, M310⟩ := q310
      replace M310 := back310 _ _ M310
      clear back310 K310 hCo310
      refine Z.if_eq (tgt := 337) C dL_law_313 (by decide) (by omega) (by omega) (fun z => absurd z (by decide)) (fun _ => ?_)
      refine Z.aload_n C dL_law_316 rfl ?_
      refine Z.aload_n C dL_law_317 rfl ?_
      refine Z.aload_n C dL_law_318 rfl ?_
      refine Z.aload_n C dL_law_319 rfl ?_
      refine Z.iconst C dL_law_320 ?_
      refine ss_L_118 C SX hy dL_law_321 (c_L_drawn htr (by omega) hL) (by decide) (Nat.le_of_ble_eq_true rfl) (by omega) (by omega) (fun w321 h321 q321 => ?_)
      obtain ⟨⟨z321, g321, rfl⟩, e321⟩ := q321
      replace e321 := e321.symm
      subst e321
      refine Z.bipush C dL_law_324 (by decide) ?_
      refine Z.idv C dL_law_326 (by omega) (by omega) (by omega) (by omega) ?_
      refine s_L_130 C hy dL_law_327 (c_L_isAlike htr M310 (by omega)) (by decide) (Nat.le_of_ble_eq_true rfl) (by omega) (by omega) (fun w327 h327 q327 => ?_) (fun _ _ q => q.elim)
      obtain ⟨rfl, M327⟩ := q327
      refine Z.if_eq (tgt := 337) C dL_law_330 (by decide) (by omega) (by omega) (fun z => absurd z (by decide)) (fun _ => ?_)
      refine Z.iconst C dL_law_333 ?_
      refine Z.goto (tgt := 338) C dL_law_334 (by decide) ?_
      exact hend _ _ _ _ (by omega) (by omega)
    | succ q ih39 =>
      intro kk S hh aa39 bb39 hv39 Kl39 ES0 ha39 hb39
      have C0 := Kl39.c1
      refine Z.iload C dL_law_39 rfl ?_
      refine Z.iload C dL_law_41 rfl ?_
      refine Z.icmp_ge (tgt := 295) C dL_law_43 (by decide) (by omega) (by omega) (by omega) (by omega) (fun z => by exfalso; omega) (fun _ => ?_)
      refine Z.iload C dL_law_46 rfl ?_
      refine Z.if_eq (tgt := 295) C dL_law_48 (by decide) (by omega) (by omega) (fun z => absurd z (by decide)) (fun _ => ?_)
      refine Z.aload_n C dL_law_51 rfl ?_
      refine Z.iconst C dL_law_52 ?_
      refine Z.iload C dL_law_53 rfl ?_
      refine Z.iadd C dL_law_55 ?_
      refine ss_L_118 C SX hy dL_law_56 (c_L_drawn htr (by omega) hL) (by decide) (Nat.le_of_ble_eq_true rfl) (by omega) (by omega) (fun w56 h56 q56 => ?_)
      obtain ⟨⟨z56, g56, rfl⟩, e56⟩ := q56
      replace e56 := e56.symm
      subst e56
      refine Z.istore (l' := [_, _, _, _, _, _, _, _]) C dL_law_59 (Nat.le_of_ble_eq_true rfl) (by rw [hN]; decide) rfl ?_
      refine Z.iload C dL_law_61 rfl ?_
      refine Z.iconst C dL_law_63 ?_
      have J100 : ∀ x : Int, 0 ≤ x ∧ x < 2147483648 → Z X 100 [.ref sc, .ref b1, .ref b2, .ref o, vI (things), vI (1), vI ((kk : Int)), vI (z56)] [vI (x)] hh (aa39 + 0) (bb39 + 0) := by
        intro x hx
        refine Z.istore (l' := [_, _, _, _, _, _, _, _]) C dL_law_100 (Nat.le_of_ble_eq_true rfl) (by rw [hN]; decide) rfl ?_
        refine Z.aload_n C dL_law_102 rfl ?_
        refine Z.aload_n C dL_law_103 rfl ?_
        refine Z.iload C dL_law_104 rfl ?_
        obtain ⟨hC106, hCo106, K106, back106⟩ := Kl39.use1
        refine s_L_122 C hy dL_law_106 (c_L_act htr K106 Kl39.arr hCo106 (by omega)) (by decide) (Nat.le_of_ble_eq_true rfl) (by omega) (by omega) (fun w106 h106 q106 => ?_) (fun _ _ q => q.elim)
        obtain ⟨rfl, M106⟩ := q106
        replace M106 := back106 _ _ M106
        clear back106 K106 hCo106
        refine Z.istore (l' := [_, _, _, _, _, _, _, _, _]) C dL_law_109 (Nat.le_of_ble_eq_true rfl) (by rw [hN]; decide) rfl ?_
        refine Z.aload_n C dL_law_111 rfl ?_
        refine Z.aload_n C dL_law_112 rfl ?_
        refine Z.iload C dL_law_113 rfl ?_
        refine Z.sipush C dL_law_115 (by decide) ?_
        refine Z.irm C dL_law_118 (by omega) (by omega) (by omega) (by omega) (fun a118 b118 => ?_)
        obtain ⟨hC119, hCo119, K119, back119⟩ := M106.use2
        refine s_L_126 C hy dL_law_119 (c_L_refuses htr K119 M106.arr hCo119 (by omega) ES0.2.2.2.2) (by decide) (Nat.le_of_ble_eq_true rfl) (by omega) (by omega) (fun w119 h119 q119 => ?_) (fun _ _ q => q.elim)
        obtain ⟨rfl, M119⟩ := q119
        replace M119 := back119 _ _ M119
        clear back119 K119 hCo119
        refine Z.if_eq (tgt := 141) C dL_law_122 (by decide) (by omega) (by omega) (fun z => absurd z (by decide)) (fun _ => ?_)
        refine Z.aload_n C dL_law_125 rfl ?_
        refine Z.aload_n C dL_law_126 rfl ?_
        refine Z.iload C dL_law_127 rfl ?_
        obtain ⟨hC129, hCo129, K129, back129⟩ := M119.use2
        refine s_L_122 C hy dL_law_129 (c_L_act htr K129 M119.arr hCo129 (by omega)) (by decide) (Nat.le_of_ble_eq_true rfl) (by omega) (by omega) (fun w129 h129 q129 => ?_) (fun _ _ q => q.elim)
        obtain ⟨rfl, M129⟩ := q129
        replace M129 := back129 _ _ M129
        clear back129 K129 hCo129
        refine Z.iload C dL_law_132 rfl ?_
        refine Z.icmp_same (tgt := 141) C dL_law_134 (by decide) ?_
        refine Z.iconst C dL_law_137 ?_
        refine Z.goto (tgt := 142) C dL_law_138 (by decide) ?_
        have C1 := M129.c1
        have ES1 := aE C0 ES0 C1.1
        obtain ⟨N2, N10, N15, NR⟩ := aN C0.1 x
        refine Z.istore (l' := [_, _, _, _, _, _, _, _, _]) C dL_law_142 (Nat.le_of_ble_eq_true rfl) (by rw [hN]; decide) rfl ?_
        refine Z.iload C dL_law_144 rfl ?_
        refine Z.bipush C dL_law_146 (by decide) ?_
        refine Z.irm C dL_law_148 (by omega) (by omega) (by omega) (by omega) (fun a148 b148 => ?_)
        refine Z.istore (l' := [_, _, _, _, _, _, _, _, _, _]) C dL_law_149 (Nat.le_of_ble_eq_true rfl) (by rw [hN]; decide) rfl ?_
        refine Z.iload C dL_law_151 rfl ?_
        have J161 : ∀ gd : Int, (gd = 0 ∨ gd = 1) ∧ ((-2147483648 ≤ aV S x ∧ aV S x < 2147483648) → (gd = 1 ↔ 0 ≤ aV S x)) → Z X 161 [.ref sc, .ref b1, .ref b2, .ref o, vI (things), vI (1), vI ((kk : Int)), vI (x), vI (aV S x), vI (x % 20)] [vI (gd)] h129 (aa39 + 0 + 6 + 80 + 6) (bb39 + 0 + 521 + 8500 + 521) := by
          intro gd hgd
          refine Z.istore (l' := [_, _, _, _, _, _, _, _, _, _, _]) C dL_law_161 (Nat.le_of_ble_eq_true rfl) (by rw [hN]; decide) rfl ?_
          refine Z.aload_n C dL_law_163 rfl ?_
          refine Z.iconst C dL_law_164 ?_
          refine Z.dup2 C dL_law_165 rfl rfl ?_
          refine Z.nld0 C dL_law_166 M129.arr ?_
          refine Z.iload C dL_law_167 rfl ?_
          have J182 : ∀ u0 : Int, u0 = aS S x 2 0 - S 2 0 → Z X 182 [.ref sc, .ref b1, .ref b2, .ref o, vI (things), vI (1), vI ((kk : Int)), vI (x), vI (aV S x), vI (x % 20), vI (gd)] [vI (u0), vI (S 2 0), vI (0), .ref o] h129 (aa39 + 0 + 6 + 80 + 6) (bb39 + 0 + 521 + 8500 + 521) := by
            intro u0 hu0
            have eu0 : S 2 0 + u0 = aS S x 2 0 := by omega
            refine Z.iadd C dL_law_182 ?_
            rw [eu0]
            refine Z.nst0 C dL_law_183 M129.arr ?_
            have P183 := M129.put (nvf (aS S x 2 0) (S 10 0) (S 15 0))
            refine Z.aload_n C dL_law_184 rfl ?_
            refine Z.iconst C dL_law_185 ?_
            refine Z.dup2 C dL_law_186 rfl rfl ?_
            refine Z.nld1 C dL_law_187 P183.arr ?_
            refine Z.iload C dL_law_188 rfl ?_
            refine Z.iconst C dL_law_190 ?_
            have J204 : ∀ u1 : Int, u1 = aS S x 10 0 - S 10 0 → Z X 204 [.ref sc, .ref b1, .ref b2, .ref o, vI (things), vI (1), vI ((kk : Int)), vI (x), vI (aV S x), vI (x % 20), vI (gd)] [vI (u1), vI (S 10 0), vI (1), .ref o] (zput h129 o (eI ((zG_of X).2.1 0) 3 (nvf (aS S x 2 0) (S 10 0) (S 15 0)))) (aa39 + 0 + 6 + 80 + 6) (bb39 + 0 + 521 + 8500 + 521) := by
              intro u1 hu1
              have eu1 : S 10 0 + u1 = aS S x 10 0 := by omega
              refine Z.iadd C dL_law_204 ?_
              rw [eu1]
              refine Z.nst1 C dL_law_205 P183.arr ?_
              have P205 := P183.put (nvf (aS S x 2 0) (aS S x 10 0) (S 15 0))
              refine Z.aload_n C dL_law_206 rfl ?_
              refine Z.iconst C dL_law_207 ?_
              refine Z.dup2 C dL_law_208 rfl rfl ?_
              refine Z.nld2 C dL_law_209 P205.arr ?_
              refine Z.iload C dL_law_210 rfl ?_
              refine Z.iconst C dL_law_212 ?_
              have J233 : ∀ u2 : Int, u2 = aS S x 15 0 - S 15 0 → Z X 233 [.ref sc, .ref b1, .ref b2, .ref o, vI (things), vI (1), vI ((kk : Int)), vI (x), vI (aV S x), vI (x % 20), vI (gd)] [vI (u2), vI (S 15 0), vI (2), .ref o] (zput (zput h129 o (eI ((zG_of X).2.1 0) 3 (nvf (aS S x 2 0) (S 10 0) (S 15 0)))) o (eI ((zG_of X).2.1 0) 3 (nvf (aS S x 2 0) (aS S x 10 0) (S 15 0)))) (aa39 + 0 + 6 + 80 + 6) (bb39 + 0 + 521 + 8500 + 521) := by
                intro u2 hu2
                have eu2 : S 15 0 + u2 = aS S x 15 0 := by omega
                refine Z.iadd C dL_law_233 ?_
                rw [eu2]
                refine Z.nst2 C dL_law_234 P205.arr ?_
                have P234 := P205.put (nvf (aS S x 2 0) (aS S x 10 0) (aS S x 15 0))
                refine Z.iload C dL_law_235 rfl ?_
                refine Z.if_eq (tgt := 286) C dL_law_237 (by decide) (by omega) (by omega) (fun z => absurd z (by decide)) (fun _ => ?_)
                refine Z.aload_n C dL_law_240 rfl ?_
                refine Z.aload_n C dL_law_241 rfl ?_
                refine Z.iload C dL_law_242 rfl ?_
                refine Z.sipush C dL_law_244 (by decide) ?_
                refine Z.irm C dL_law_247 (by omega) (by omega) (by omega) (by omega) (fun a247 b247 => ?_)
                obtain ⟨hC248, hCo248, K248, back248⟩ := P234.use2
                refine s_L_126 C hy dL_law_248 (c_L_refuses htr K248 P234.arr hCo248 (by omega) ES1.2.2.2.2) (by decide) (Nat.le_of_ble_eq_true rfl) (by omega) (by omega) (fun w248 h248 q248 => ?_) (fun _ _ q => q.elim)
                obtain ⟨rfl, M248⟩ := q248
                replace M248 := back248 _ _ M248
                clear back248 K248 hCo248
                refine Z.if_eq (tgt := 286) C dL_law_251 (by decide) (by omega) (by omega) (fun z => absurd z (by decide)) (fun _ => ?_)
                refine Z.aload_n C dL_law_254 rfl ?_
                refine Z.aload_n C dL_law_255 rfl ?_
                refine Z.aload_n C dL_law_256 rfl ?_
                refine Z.iload C dL_law_257 rfl ?_
                refine Z.iconst C dL_law_259 ?_
                refine Z.idv C dL_law_260 (by omega) (by omega) (by omega) (by omega) ?_
                refine s_L_130 C hy dL_law_261 (c_L_isAlike htr M248 (by omega)) (by decide) (Nat.le_of_ble_eq_true rfl) (by omega) (by omega) (fun w261 h261 q261 => ?_) (fun _ _ q => q.elim)
                obtain ⟨rfl, M261⟩ := q261
                refine Z.if_eq (tgt := 286) C dL_law_264 (by decide) (by omega) (by omega) (fun z => absurd z (by decide)) (fun _ => ?_)
                refine Z.iload C dL_law_267 rfl ?_
                refine Z.iconst C dL_law_269 ?_
                refine Z.irm C dL_law_270 (by omega) (by omega) (by omega) (by omega) (fun a270 b270 => ?_)
                have J282 : ∀ hh : zH, LD (zG_of X) b1 b2 o (aS S x) (aS S x) (nvf (aS S x 2 0) (aS S x 10 0) (aS S x 15 0)) hh → Z X 282 [.ref sc, .ref b1, .ref b2, .ref o, vI (things), vI (1), vI ((kk : Int)), vI (x), vI (aV S x), vI (x % 20), vI (gd)] [] hh (aa39 + 1500) (bb39 + 48500) := by
                  intro hh Kj282
                  refine Z.iconst C dL_law_282 ?_
                  refine Z.goto (tgt := 287) C dL_law_283 (by decide) ?_
                  refine Z.istore (l' := [_, _, _, _, _, _, _, _, _, _, _]) C dL_law_287 (Nat.le_of_ble_eq_true rfl) (by rw [hN]; decide) rfl ?_
                  refine Z.iinc (l' := [_, _, _, _, _, _, _, _, _, _, _]) C dL_law_289 rfl (Nat.le_of_ble_eq_true rfl) (by rw [hN]; decide) rfl ?_
                  refine Z.goto (tgt := 39) C dL_law_292 (by decide) ?_
                  refine Z.pre (l' := [_, _, _, _, _, _, _]) 7 rfl ?_
                  rw [show ((kk : Int) + 1) = ((kk + 1 : Nat) : Int) from rfl]
                  exact ih39 (kk + 1) _ _ _ _ (by omega) Kj282 ES1 (by omega) (by omega)
                refine Z.if_gt (tgt := 282) C dL_law_271 (by decide) (by omega) (by omega) (fun c271 => ?_) (fun c271 => ?_)
                · refine Z.widen (k' := aa39 + 1500) (n' := bb39 + 48500) (by omega) (by omega) ?_
                  exact J282 _ M261
                · refine Z.aload_n C dL_law_274 rfl ?_
                  refine Z.aload_n C dL_law_275 rfl ?_
                  obtain ⟨hC276, hCo276, K276, back276⟩ := M261.use2
                  refine s_L_134 C hy dL_law_276 (c_L_isWhole htr K276 M261.arr hCo276 ES1) (by decide) (Nat.le_of_ble_eq_true rfl) (by omega) (by omega) (fun w276 h276 q276 => ?_) (fun _ _ q => q.elim)
                  obtain ⟨rfl, M276⟩ := q276
                  replace M276 := back276 _ _ M276
                  clear back276 K276 hCo276
                  refine Z.if_eq (tgt := 286) C dL_law_279 (by decide) (by omega) (by omega) (fun z => absurd z (by decide)) (fun _ => ?_)
                  refine Z.widen (k' := aa39 + 1500) (n' := bb39 + 48500) (by omega) (by omega) ?_
                  exact J282 _ M276
              refine Z.icmp_eq (tgt := 223) C dL_law_213 (by decide) (by omega) (by omega) (by omega) (by omega) (fun c213 => ?_) (fun c213 => ?_)
              · refine Z.iload C dL_law_223 rfl ?_
                refine Z.if_eq (tgt := 232) C dL_law_225 (by decide) (by omega) (by omega) (fun c225 => ?_) (fun c225 => ?_)
                · refine Z.iconst C dL_law_232 ?_
                  exact J233 _ (by omega)
                · refine Z.iconst C dL_law_228 ?_
                  refine Z.goto (tgt := 233) C dL_law_229 (by decide) ?_
                  exact J233 _ (by omega)
              · refine Z.iload C dL_law_216 rfl ?_
                refine Z.bipush C dL_law_218 (by decide) ?_
                refine Z.icmp_ne (tgt := 232) C dL_law_220 (by decide) (by omega) (by omega) (by omega) (by omega) (fun c220 => ?_) (fun c220 => ?_)
                · refine Z.iconst C dL_law_232 ?_
                  exact J233 _ (by omega)
                · refine Z.iload C dL_law_223 rfl ?_
                  refine Z.if_eq (tgt := 232) C dL_law_225 (by decide) (by omega) (by omega) (fun c225 => ?_) (fun c225 => ?_)
                  · refine Z.iconst C dL_law_232 ?_
                    exact J233 _ (by omega)
                  · refine Z.iconst C dL_law_228 ?_
                    refine Z.goto (tgt := 233) C dL_law_229 (by decide) ?_
                    exact J233 _ (by omega)
            refine Z.icmp_ne (tgt := 203) C dL_law_191 (by decide) (by omega) (by omega) (by omega) (by omega) (fun c191 => ?_) (fun c191 => ?_)
            · refine Z.iconst C dL_law_203 ?_
              exact J204 _ (by omega)
            · refine Z.iload C dL_law_194 rfl ?_
              refine Z.if_eq (tgt := 203) C dL_law_196 (by decide) (by omega) (by omega) (fun c196 => ?_) (fun c196 => ?_)
              · refine Z.iconst C dL_law_203 ?_
                exact J204 _ (by omega)
              · refine Z.iconst C dL_law_199 ?_
                refine Z.goto (tgt := 204) C dL_law_200 (by decide) ?_
                exact J204 _ (by omega)
          refine Z.if_ne (tgt := 181) C dL_law_169 (by decide) (by omega) (by omega) (fun c169 => ?_) (fun c169 => ?_)
          · refine Z.iconst C dL_law_181 ?_
            exact J182 _ (by omega)
          · refine Z.iload C dL_law_172 rfl ?_
            refine Z.if_eq (tgt := 181) C dL_law_174 (by decide) (by omega) (by omega) (fun c174 => ?_) (fun c174 => ?_)
            · refine Z.iconst C dL_law_181 ?_
              exact J182 _ (by omega)
            · refine Z.iconst C dL_law_177 ?_
              refine Z.goto (tgt := 182) C dL_law_178 (by decide) ?_
              exact J182 _ (by omega)
        refine Z.if_lt_w (tgt := 160) C dL_law_153 (by decide) (fun c153 => ?_) (fun c153 => ?_)
        · refine Z.iconst C dL_law_160 ?_
          exact J161 _ (by omega)
        · refine Z.iconst C dL_law_156 ?_
          refine Z.goto (tgt := 161) C dL_law_157 (by decide) ?_
          exact J161 _ (by omega)
      refine Z.icmp_ge (tgt := 78) C dL_law_64 (by decide) (by omega) (by omega) (by omega) (by omega) (fun c64 => ?_) (fun c64 => ?_)
      · refine Z.iload C dL_law_78 rfl ?_
        refine Z.bipush C dL_law_80 (by decide) ?_
        refine Z.icmp_ge (tgt := 98) C dL_law_82 (by decide) (by omega) (by omega) (by omega) (by omega) (fun c82 => ?_) (fun c82 => ?_)
        · refine Z.iload C dL_law_98 rfl ?_
          exact J100 _ (by omega)
        · refine Z.bipush C dL_law_85 (by decide) ?_
          refine Z.iload C dL_law_87 rfl ?_
          refine Z.bipush C dL_law_89 (by decide) ?_
          refine Z.idv C dL_law_91 (by omega) (by omega) (by omega) (by omega) ?_
          refine Z.imul C dL_law_92 ?_
          refine Z.iconst C dL_law_93 ?_
          refine Z.iadd C dL_law_94 ?_
          refine Z.goto (tgt := 100) C dL_law_95 (by decide) ?_
          exact J100 _ (by omega)
      · refine Z.bipush C dL_law_67 (by decide) ?_
        refine Z.iload C dL_law_69 rfl ?_
        refine Z.bipush C dL_law_71 (by decide) ?_
        refine Z.idv C dL_law_73 (by omega) (by omega) (by omega) (by omega) ?_
        refine Z.imul C dL_law_74 ?_
        refine Z.goto (tgt := 100) C dL_law_75 (by decide) ?_
        exact J100 _ (by omega)
  exact L39 things.toNat 0 _ _ _ _ (by omega) K0 ES00 (by omega) (by omega)
