set_option maxRecDepth 100000 in
theorem c_X7_fetch {ln : Launch} (htr : ln.stackTraces = false) {G : zG} {a : Nat → Nat} {t : Int} {S : Nat → Nat → Int} {h : zH} (R : MR G a t S h) (I : MB S) (hD : ∀ j, S 9 j ≤ 6000) (hworth : ∀ j, S 12 j ≤ S 14 0) (hfet : ∀ j, S 8 j ≤ S 14 0) {w z : Int} (hw : -2147483648 ≤ w ∧ w < 2147483648) (hz : -2147483648 ≤ z ∧ z < 2147483648) : CT ln G yX7_fetch cX7_fetch 9 (some .int) 6 (.ref (a 0) :: [vI w, vI z]) h 0 0 (mAns G a S (cFetch S w z) (fPays S w.toNat z.toNat) (sFetch S w.toNat z.toNat)) zNo := by
  refine CT.intro htr (by decide) rfl (Nat.le_of_ble_eq_true rfl) ?_
  intro X hln hG hR hN C E
  subst hln
  subst hG
  have b1 : 0 ≤ S 1 0 ∧ S 1 0 ≤ 2000 := I 1 0 (by decide)
  have b2 : 0 ≤ S 2 0 ∧ S 2 0 ≤ 10 := I 2 0 (by decide)
  have b10 : 0 ≤ S 10 0 ∧ S 10 0 ≤ 20 := I 10 0 (by decide)
  have b14 : 0 ≤ S 14 0 ∧ S 14 0 ≤ 300 := I 14 0 (by decide)
  have b15 : 0 ≤ S 15 0 ∧ S 15 0 ≤ 30 := I 15 0 (by decide)
  have hM : mM S = (S 2 0).toNat := rfl
  have hF : mF S = (S 10 0).toNat := rfl
  have J21 : ∀ are : Int, 0 ≤ are ∧ are ≤ 1 → (are = 0 ↔ ¬ ((0 ≤ w ∧ w ≤ S 2 0 - 1) ∧ 0 ≤ z ∧ z ≤ S 10 0 - 1)) → Z X 21 [.ref (a 0), vI w, vI z] [vI are] h 0 0 := by
    intro are hr1 hr2
    refine Z.istore_n (l' := [_, _, _, _]) C dX7_fetch_21 (Nat.le_of_ble_eq_true rfl) (by rw [hN]; decide) rfl ?_
    have J50 : ∀ can : Int, 0 ≤ can ∧ can ≤ 1 → (can = 0 ↔ ¬ (((0 ≤ w ∧ w ≤ S 2 0 - 1) ∧ 0 ≤ z ∧ z ≤ S 10 0 - 1) ∧ ¬ S 3 w.toNat = 0 ∧ S 14 0 < 300)) → Z X 50 [.ref (a 0), vI w, vI z, vI are] [vI can] h 0 0 := by
      intro can hc1 hc2
      refine Z.istore (l' := [_, _, _, _, _]) C dX7_fetch_50 (Nat.le_of_ble_eq_true rfl) (by rw [hN]; decide) rfl ?_
      have J76 : ∀ has : Int, 0 ≤ has ∧ has ≤ 1 → (has = 0 ↔ ¬ (can = 1 ∧ ¬ S 13 (20 * w.toNat + z.toNat) = 0)) → Z X 76 [.ref (a 0), vI w, vI z, vI are, vI can] [vI has] h 0 0 := by
        intro has hh1 hh2
        refine Z.istore (l' := [_, _, _, _, _, _]) C dX7_fetch_76 (Nat.le_of_ble_eq_true rfl) (by rw [hN]; decide) rfl ?_
        have J98 : ∀ fm : Int, (can = 1 → fm = (fFrom S w.toNat z.toNat)) → (can = 0 → fm = -1) → -1 ≤ fm ∧ fm < 10 ∧ fm < S 2 0 → Z X 98 [.ref (a 0), vI w, vI z, vI are, vI can, vI has] [vI fm] h 0 0 := by
          intro fm hf1 hf2 hf3
          refine Z.istore (l' := [_, _, _, _, _, _, _]) C dX7_fetch_98 (Nat.le_of_ble_eq_true rfl) (by rw [hN]; decide) rfl ?_
          have J127 : ∀ len : Int, 0 ≤ len ∧ len ≤ 1 → (len = 0 ↔ ¬ (¬ fm = -1 ∧ S 11 z.toNat ≤ S 5 fm.toNat)) → Z X 127 [.ref (a 0), vI w, vI z, vI are, vI can, vI has, vI fm] [vI len] h 0 0 := by
            intro len hl1 hl2
            refine Z.istore (l' := [_, _, _, _, _, _, _, _]) C dX7_fetch_127 (Nat.le_of_ble_eq_true rfl) (by rw [hN]; decide) rfl ?_
            have hf4 : can = 1 → S 5 fm.toNat = S 5 (fFrom S w.toNat z.toNat).toNat := fun q => by rw [hf1 q]
            have J171 : ∀ w9 : Int, w9 = cFetch S w z → 0 ≤ w9 ∧ w9 ≤ 3 → (w9 = 0 → ((0 ≤ w ∧ w ≤ S 2 0 - 1) ∧ 0 ≤ z ∧ z ≤ S 10 0 - 1) ∧ (¬ S 3 w.toNat = 0 ∧ S 14 0 < 300) ∧ (has = 0 → len = 0 → S 11 z.toNat ≤ mall S (mM S))) → Z X 171 [.ref (a 0), vI w, vI z, vI are, vI can, vI has, vI fm, vI len] [vI w9, .ref (a 0)] h 0 0 := by
              intro w9 hw1 hw3 hw2
              refine v_X7_94 C rfl dX7_fetch_171 R.1 (c_X7_refused htr R I (by omega)) (by decide) (Nat.le_of_ble_eq_true rfl) (by rw [hR]; exact Nat.le_refl _) (by rw [hR]; exact Nat.le_refl _) (fun w171 h171 q171 => ?_) (fun _ _ q => q.elim)
              obtain ⟨rfl, R⟩ := q171
              obtain ⟨m171, z171, g171, k171⟩ := mbx (¬ w9 = 0)
              rw [z171]
              refine Z.if_eq (tgt := 179) C dX7_fetch_174 (by decide) (by omega) (by omega) (fun c174 => ?_) (fun c174 => ?_)
              · have hw2 := hw2 (by omega)
                have h0 : w9 = 0 := by omega
                have hcan : can = 1 := by omega
                have hfm := hf1 hcan
                clear hf1 hf2
                subst hfm
                have J212 : ∀ py : Int, py = fPays S w.toNat z.toNat → Z X 212 [.ref (a 0), vI w, vI z, vI are, vI can, vI has, vI (fFrom S w.toNat z.toNat), vI len] [vI py] h171 0 0 := by
                  intro py hpy
                  refine Z.istore (l' := [_, _, _, _, _, _, _, _, _]) C dX7_fetch_212 (Nat.le_of_ble_eq_true rfl) (by rw [hN]; decide) rfl ?_
                  have J261 : ∀ (h : zH), MR (zG_of X) a w9 (fS1 S w.toNat z.toNat) h → Z X 261 [.ref (a 0), vI w, vI z, vI are, vI can, vI has, vI (fFrom S w.toNat z.toNat), vI len, vI py] [] h 0 0 := by
                    intro h R
                    refine Z.aload_n C dX7_fetch_261 rfl ?_
                    refine g_X7_23 C rfl dX7_fetch_262 R.1 rfl ?_
                    refine Z.iload_n C dX7_fetch_265 rfl ?_
                    refine Z.dup2 C dX7_fetch_266 rfl rfl ?_
                    refine a_7 C R w.toNat dX7_fetch_267 (by omega) (by omega) (fun v267 e267 => ?_)
                    subst e267
                    refine Z.iload C dX7_fetch_268 rfl ?_
                    refine Z.isub C dX7_fetch_270 ?_
                    refine w_7 C R w.toNat dX7_fetch_271 (by omega) (by omega) (fun h R => ?_)
                    refine Z.aload_n C dX7_fetch_272 rfl ?_
                    refine g_X7_35 C rfl dX7_fetch_273 R.1 rfl ?_
                    refine Z.iload_n C dX7_fetch_276 rfl ?_
                    refine Z.dup2 C dX7_fetch_277 rfl rfl ?_
                    refine b_12 C R z.toNat dX7_fetch_278 (by omega) (by omega) (fun v278 e278 => ?_)
                    subst e278
                    refine Z.iconst C dX7_fetch_279 ?_
                    refine Z.iadd C dX7_fetch_280 ?_
                    refine w_12 C R z.toNat dX7_fetch_281 (by omega) (by omega) (fun h R => ?_)
                    refine Z.aload_n C dX7_fetch_282 rfl ?_
                    refine g_X7_26 C rfl dX7_fetch_283 R.1 rfl ?_
                    refine Z.iload_n C dX7_fetch_286 rfl ?_
                    refine Z.dup2 C dX7_fetch_287 rfl rfl ?_
                    refine b_8 C R w.toNat dX7_fetch_288 (by omega) (by omega) (fun v288 e288 => ?_)
                    subst e288
                    refine Z.iconst C dX7_fetch_289 ?_
                    refine Z.iadd C dX7_fetch_290 ?_
                    refine w_8 C R w.toNat dX7_fetch_291 (by omega) (by omega) (fun h R => ?_)
                    refine Z.aload_n C dX7_fetch_292 rfl ?_
                    refine Z.dup C dX7_fetch_293 rfl ?_
                    refine g_X7_122 (v := vI (fS1 S w.toNat z.toNat 14 0)) C rfl dX7_fetch_294 R.1 rfl ?_
                    refine Z.iconst C dX7_fetch_297 ?_
                    refine Z.iadd C dX7_fetch_298 ?_
                    refine w_14 C R rfl dX7_fetch_299 (fun h R => ?_)
                    refine Z.iload C dX7_fetch_302 rfl ?_
                    refine Z.if_ne (tgt := 318) C dX7_fetch_304 (by decide) (by omega) (by omega) (fun c304 => ?_) (fun c304 => ?_)
                    · refine Z.iload C dX7_fetch_318 rfl ?_
                      exact Z.iret C E dX7_fetch_320 (Nat.le_refl _) (Nat.le_refl _) (mAns.yes (by rw [sFetch]; first | (rw [if_pos (by omega), ← hpy]; exact R) | (rw [if_neg (by omega), ← hpy]; exact R)) hw1 h0 hpy)
                    · refine Z.iload C dX7_fetch_307 rfl ?_
                      refine Z.if_ne (tgt := 318) C dX7_fetch_309 (by decide) (by omega) (by omega) (fun c309 => ?_) (fun c309 => ?_)
                      · refine Z.iload C dX7_fetch_318 rfl ?_
                        exact Z.iret C E dX7_fetch_320 (Nat.le_refl _) (Nat.le_refl _) (mAns.yes (by rw [sFetch]; first | (rw [if_pos (by omega), ← hpy]; exact R) | (rw [if_neg (by omega), ← hpy]; exact R)) hw1 h0 hpy)
                      · have e8w : w = ((w.toNat : Nat) : Int) := by omega
                        have e8z : z = ((z.toNat : Nat) : Int) := by omega
                        have I5 : MB (fS2 (fS1 S w.toNat z.toNat) w.toNat z.toNat py) := MB_fS2 (MB_fS1 I hD trivial (by intro q1 q2; have hmm := mall_moth S w.toNat (mM S); rw [if_pos (by omega)] at hmm; omega)) (by rw [fS1_ne _ _ _ (by decide) (by decide) (by decide)]; omega) (by rw [fS1_ne (g := 12) _ _ _ (by decide) (by decide) (by decide), fS1_ne (g := 14) _ _ _ (by decide) (by decide) (by decide)]; exact hworth z.toNat) (by rw [fS1_ne (g := 8) _ _ _ (by decide) (by decide) (by decide), fS1_ne (g := 14) _ _ _ (by decide) (by decide) (by decide)]; exact hfet w.toNat) py
                        refine Z.aload_n C dX7_fetch_312 rfl ?_
                        refine Z.iload_n C dX7_fetch_313 rfl ?_
                        refine Z.iload_n C dX7_fetch_314 rfl ?_
                        refine Z.argc (l := _) (x := w) (x' := ((w.toNat : Nat) : Int)) (z := z) (z' := ((z.toNat : Nat) : Int)) e8w e8z ?_
                        refine v_X7_135 C rfl dX7_fetch_315 R.1 (c_X7_put htr R I5 (o := w.toNat) (f := z.toNat) (by omega) (by omega)) (by decide) (Nat.le_of_ble_eq_true rfl) (by rw [hR]; exact Nat.le_refl _) (by rw [hR]; exact Nat.le_refl _) (fun w315 h315 q315 => ?_) (fun _ _ q => q.elim)
                        obtain ⟨rfl, R⟩ := q315
                        refine Z.iload C dX7_fetch_318 rfl ?_
                        exact Z.iret C E dX7_fetch_320 (Nat.le_refl _) (Nat.le_refl _) (mAns.yes (by rw [sFetch]; first | (rw [if_pos (by omega), ← hpy]; exact R) | (rw [if_neg (by omega), ← hpy]; exact R)) hw1 h0 hpy)
                  refine Z.iload C dX7_fetch_214 rfl ?_
                  refine Z.if_eq (tgt := 250) C dX7_fetch_216 (by decide) (by omega) (by omega) (fun c216 => ?_) (fun c216 => ?_)
                  · refine Z.iload C dX7_fetch_250 rfl ?_
                    refine Z.if_ne (tgt := 261) C dX7_fetch_252 (by decide) (by omega) (by omega) (fun c252 => ?_) (fun c252 => ?_)
                    · exact J261 _ (by unfold fS1; first | (rw [if_pos (by omega), ← hpy]; exact R) | (rw [if_neg (by omega)]; first | (rw [if_pos (by omega)]; exact R) | (rw [if_neg (by omega)]; exact R)))
                    · have e8w : w = ((w.toNat : Nat) : Int) := by omega
                      have e8z : z = ((z.toNat : Nat) : Int) := by omega
                      refine Z.aload_n C dX7_fetch_255 rfl ?_
                      refine Z.iload_n C dX7_fetch_256 rfl ?_
                      refine Z.iload_n C dX7_fetch_257 rfl ?_
                      refine Z.argc (l := _) (x := w) (x' := ((w.toNat : Nat) : Int)) (z := z) (z' := ((z.toNat : Nat) : Int)) e8w e8z ?_
                      refine v_X7_131 C rfl dX7_fetch_258 R.1 (c_X7_bring htr R I (o := w.toNat) (f := z.toNat) (by omega) (by omega) hD (by have hmm := mall_moth S w.toNat (mM S); rw [if_pos (by omega)] at hmm; omega)) (by decide) (Nat.le_of_ble_eq_true rfl) (by rw [hR]; exact Nat.le_refl _) (by rw [hR]; exact Nat.le_refl _) (fun w258 h258 q258 => ?_) (fun _ _ q => q.elim)
                      obtain ⟨rfl, R⟩ := q258
                      exact J261 _ (by unfold fS1; first | (rw [if_pos (by omega), ← hpy]; exact R) | (rw [if_neg (by omega)]; first | (rw [if_pos (by omega)]; exact R) | (rw [if_neg (by omega)]; exact R)))
                  · refine Z.aload_n C dX7_fetch_219 rfl ?_
                    refine g_X7_17 C rfl dX7_fetch_220 R.1 rfl ?_
                    refine Z.iload C dX7_fetch_223 rfl ?_
                    refine Z.dup2 C dX7_fetch_225 rfl rfl ?_
                    refine b_5 C R (fFrom S w.toNat z.toNat).toNat dX7_fetch_226 (by omega) (by omega) (fun v226 e226 => ?_)
                    subst e226
                    refine Z.aload_n C dX7_fetch_227 rfl ?_
                    refine g_X7_32 C rfl dX7_fetch_228 R.1 rfl ?_
                    refine Z.iload_n C dX7_fetch_231 rfl ?_
                    refine a_11 C R I z.toNat dX7_fetch_232 (by omega) (by omega) (fun v232 e232 b232 => ?_)
                    subst e232
                    refine Z.isub C dX7_fetch_233 ?_
                    refine w_5 C R (fFrom S w.toNat z.toNat).toNat dX7_fetch_234 (by omega) (by omega) (fun h R => ?_)
                    refine Z.aload_n C dX7_fetch_235 rfl ?_
                    refine g_X7_23 C rfl dX7_fetch_236 R.1 rfl ?_
                    refine Z.iload C dX7_fetch_239 rfl ?_
                    refine Z.dup2 C dX7_fetch_241 rfl rfl ?_
                    refine a_7 C R (fFrom S w.toNat z.toNat).toNat dX7_fetch_242 (by omega) (by omega) (fun v242 e242 => ?_)
                    subst e242
                    refine Z.iload C dX7_fetch_243 rfl ?_
                    refine Z.iadd C dX7_fetch_245 ?_
                    refine w_7 C R (fFrom S w.toNat z.toNat).toNat dX7_fetch_246 (by omega) (by omega) (fun h R => ?_)
                    refine Z.goto (tgt := 261) C dX7_fetch_247 (by decide) ?_
                    exact J261 _ (by unfold fS1; first | (rw [if_pos (by omega), ← hpy]; exact R) | (rw [if_neg (by omega)]; first | (rw [if_pos (by omega)]; exact R) | (rw [if_neg (by omega)]; exact R)))
                refine Z.iload C dX7_fetch_179 rfl ?_
                refine Z.if_eq (tgt := 188) C dX7_fetch_181 (by decide) (by omega) (by omega) (fun c181 => ?_) (fun c181 => ?_)
                · refine Z.aload_n C dX7_fetch_188 rfl ?_
                  refine g_X7_32 C rfl dX7_fetch_189 R.1 rfl ?_
                  refine Z.iload_n C dX7_fetch_192 rfl ?_
                  refine a_11 C R I z.toNat dX7_fetch_193 (by omega) (by omega) (fun v193 e193 b193 => ?_)
                  subst e193
                  refine Z.iload C dX7_fetch_194 rfl ?_
                  refine Z.if_eq (tgt := 207) C dX7_fetch_196 (by decide) (by omega) (by omega) (fun c196 => ?_) (fun c196 => ?_)
                  · refine Z.aload_n C dX7_fetch_207 rfl ?_
                    refine v_X7_128 C rfl dX7_fetch_208 R.1 (c_X7_price htr R I) (by decide) (Nat.le_of_ble_eq_true rfl) (by rw [hR]; exact Nat.le_refl _) (by rw [hR]; exact Nat.le_refl _) (fun w208 h208 q208 => ?_) (fun _ _ q => q.elim)
                    obtain ⟨rfl, q208⟩ := q208
                    replace q208 := q208.symm
                    subst q208
                    refine Z.imul C dX7_fetch_211 ?_
                    exact J212 _ (by unfold fPays; first | rw [if_pos (by omega)] | (rw [if_neg (by omega)]; first | rw [if_pos (by omega)] | rw [if_neg (by omega)]))
                  · refine Z.aload_n C dX7_fetch_199 rfl ?_
                    refine Z.iconst C dX7_fetch_200 ?_
                    refine v_X7_82 C rfl dX7_fetch_201 R.1 (c_X7_valueOf htr R I (by decide)) (by decide) (Nat.le_of_ble_eq_true rfl) (by rw [hR]; exact Nat.le_refl _) (by rw [hR]; exact Nat.le_refl _) (fun w201 h201 q201 => ?_) (fun _ _ q => q.elim)
                    obtain ⟨rfl, q201⟩ := q201
                    replace q201 := q201.symm
                    subst q201
                    refine Z.goto (tgt := 211) C dX7_fetch_204 (by decide) ?_
                    refine Z.imul C dX7_fetch_211 ?_
                    exact J212 _ (by unfold fPays; first | rw [if_pos (by omega)] | (rw [if_neg (by omega)]; first | rw [if_pos (by omega)] | rw [if_neg (by omega)]))
                · refine Z.iconst C dX7_fetch_184 ?_
                  refine Z.goto (tgt := 212) C dX7_fetch_185 (by decide) ?_
                  exact J212 _ (by unfold fPays; first | rw [if_pos (by omega)] | (rw [if_neg (by omega)]; first | rw [if_pos (by omega)] | rw [if_neg (by omega)]))
              · refine Z.iconst C dX7_fetch_177 ?_
                exact Z.iret C E dX7_fetch_178 (Nat.le_refl _) (Nat.le_refl _) (mAns.no R hw1 (by omega))
            refine Z.aload_n C dX7_fetch_129 rfl ?_
            refine Z.iload_n C dX7_fetch_130 rfl ?_
            refine Z.if_ne (tgt := 138) C dX7_fetch_131 (by decide) (by omega) (by omega) (fun c131 => ?_) (fun c131 => ?_)
            · refine Z.iload C dX7_fetch_138 rfl ?_
              refine Z.if_eq (tgt := 166) C dX7_fetch_140 (by decide) (by omega) (by omega) (fun c140 => ?_) (fun c140 => ?_)
              · refine Z.iconst C dX7_fetch_166 ?_
                refine Z.goto (tgt := 171) C dX7_fetch_167 (by decide) ?_
                exact J171 _ (by unfold cFetch; (repeat' split) <;> omega) (by omega) (by omega)
              · refine Z.iload C dX7_fetch_143 rfl ?_
                refine Z.if_ne (tgt := 170) C dX7_fetch_145 (by decide) (by omega) (by omega) (fun c145 => ?_) (fun c145 => ?_)
                · refine Z.iconst C dX7_fetch_170 ?_
                  exact J171 _ (by unfold cFetch; (repeat' split) <;> omega) (by omega) (by omega)
                · refine Z.iload C dX7_fetch_148 rfl ?_
                  refine Z.if_ne (tgt := 170) C dX7_fetch_150 (by decide) (by omega) (by omega) (fun c150 => ?_) (fun c150 => ?_)
                  · refine Z.iconst C dX7_fetch_170 ?_
                    exact J171 _ (by unfold cFetch; (repeat' split) <;> omega) (by omega) (by omega)
                  · refine Z.aload_n C dX7_fetch_153 rfl ?_
                    refine v_X7_125 C rfl dX7_fetch_154 R.1 (c_X7_all htr R I) (by decide) (Nat.le_of_ble_eq_true rfl) (by rw [hR]; exact Nat.le_refl _) (by rw [hR]; exact Nat.le_refl _) (fun w154 h154 q154 => ?_) (fun _ _ q => q.elim)
                    obtain ⟨rfl, q154⟩ := q154
                    replace q154 := q154.symm
                    subst q154
                    have hall := mall_b I (mM S)
                    refine Z.aload_n C dX7_fetch_157 rfl ?_
                    refine g_X7_32 C rfl dX7_fetch_158 R.1 rfl ?_
                    refine Z.iload_n C dX7_fetch_161 rfl ?_
                    refine a_11 C R I z.toNat dX7_fetch_162 (by omega) (by omega) (fun v162 e162 b162 => ?_)
                    subst e162
                    refine Z.icmp_ge (tgt := 170) C dX7_fetch_163 (by decide) (by omega) (by omega) (by omega) (by omega) (fun c163 => ?_) (fun c163 => ?_)
                    · refine Z.iconst C dX7_fetch_170 ?_
                      exact J171 _ (by unfold cFetch; (repeat' split) <;> omega) (by omega) (by omega)
                    · refine Z.iconst C dX7_fetch_166 ?_
                      refine Z.goto (tgt := 171) C dX7_fetch_167 (by decide) ?_
                      exact J171 _ (by unfold cFetch; (repeat' split) <;> omega) (by omega) (by omega)
            · refine Z.iconst C dX7_fetch_134 ?_
              refine Z.goto (tgt := 171) C dX7_fetch_135 (by decide) ?_
              exact J171 _ (by unfold cFetch; (repeat' split) <;> omega) (by omega) (by omega)
          refine Z.iload C dX7_fetch_100 rfl ?_
          refine Z.iconst C dX7_fetch_102 ?_
          refine Z.icmp_eq (tgt := 126) C dX7_fetch_103 (by decide) (by omega) (by omega) (by omega) (by omega) (fun c103 => ?_) (fun c103 => ?_)
          · refine Z.iconst C dX7_fetch_126 ?_
            exact J127 _ (by omega) (by omega)
          · refine Z.aload_n C dX7_fetch_106 rfl ?_
            refine g_X7_17 C rfl dX7_fetch_107 R.1 rfl ?_
            refine Z.iload C dX7_fetch_110 rfl ?_
            refine a_5 C R I fm.toNat dX7_fetch_112 (by omega) (by omega) (fun v112 e112 b112 => ?_)
            refine Z.aload_n C dX7_fetch_113 rfl ?_
            refine g_X7_32 C rfl dX7_fetch_114 R.1 rfl ?_
            refine Z.iload_n C dX7_fetch_117 rfl ?_
            refine a_11 C R I z.toNat dX7_fetch_118 (by omega) (by omega) (fun v118 e118 b118 => ?_)
            refine Z.icmp_lt (tgt := 126) C dX7_fetch_119 (by decide) (by omega) (by omega) (by omega) (by omega) (fun c119 => ?_) (fun c119 => ?_)
            · refine Z.iconst C dX7_fetch_126 ?_
              exact J127 _ (by omega) (by omega)
            · refine Z.iconst C dX7_fetch_122 ?_
              refine Z.goto (tgt := 127) C dX7_fetch_123 (by decide) ?_
              exact J127 _ (by omega) (by omega)
        refine Z.iload C dX7_fetch_78 rfl ?_
        refine Z.if_eq (tgt := 97) C dX7_fetch_80 (by decide) (by omega) (by omega) (fun c80 => ?_) (fun c80 => ?_)
        · refine Z.iconst C dX7_fetch_97 ?_
          exact J98 _ (by intro q; first | (exfalso; omega) | unfold fFrom; first | (rw [if_pos (by omega)]; rw [show ((w.toNat : Nat) : Int) = w by omega, show ((z.toNat : Nat) : Int) = z by omega]) | (rw [if_neg (by omega)])) (by omega) (by omega)
        · refine Z.iload C dX7_fetch_83 rfl ?_
          refine Z.if_ne (tgt := 97) C dX7_fetch_85 (by decide) (by omega) (by omega) (fun c85 => ?_) (fun c85 => ?_)
          · refine Z.iconst C dX7_fetch_97 ?_
            exact J98 _ (by intro q; first | (exfalso; omega) | unfold fFrom; first | (rw [if_pos (by omega)]; rw [show ((w.toNat : Nat) : Int) = w by omega, show ((z.toNat : Nat) : Int) = z by omega]) | (rw [if_neg (by omega)])) (by omega) (by omega)
          · refine Z.aload_n C dX7_fetch_88 rfl ?_
            refine Z.iload_n C dX7_fetch_89 rfl ?_
            refine Z.iload_n C dX7_fetch_90 rfl ?_
            refine v_X7_105 C rfl dX7_fetch_91 R.1 (c_X7_most htr R I (by omega) (by omega)) (by decide) (Nat.le_of_ble_eq_true rfl) (by rw [hR]; exact Nat.le_refl _) (by rw [hR]; exact Nat.le_refl _) (fun w91 h91 q91 => ?_) (fun _ _ q => q.elim)
            obtain ⟨rfl, q91⟩ := q91
            replace q91 := q91.symm
            subst q91
            have hmb := mmost_b S w z (mM S)
            refine Z.goto (tgt := 98) C dX7_fetch_94 (by decide) ?_
            exact J98 _ (by intro q; first | (exfalso; omega) | unfold fFrom; first | (rw [if_pos (by omega)]; rw [show ((w.toNat : Nat) : Int) = w by omega, show ((z.toNat : Nat) : Int) = z by omega]) | (rw [if_neg (by omega)])) (by omega) (by omega)
      refine Z.iload C dX7_fetch_52 rfl ?_
      refine Z.if_eq (tgt := 75) C dX7_fetch_54 (by decide) (by omega) (by omega) (fun c54 => ?_) (fun c54 => ?_)
      · refine Z.iconst C dX7_fetch_75 ?_
        exact J76 _ (by omega) (by omega)
      · refine Z.aload_n C dX7_fetch_57 rfl ?_
        refine g_X7_38 C rfl dX7_fetch_58 R.1 rfl ?_
        refine Z.bipush C dX7_fetch_61 (by decide) ?_
        refine Z.iload_n C dX7_fetch_63 rfl ?_
        refine Z.imul C dX7_fetch_64 ?_
        refine Z.iload_n C dX7_fetch_65 rfl ?_
        refine Z.iadd C dX7_fetch_66 ?_
        refine a_13 C R I (20 * w.toNat + z.toNat) dX7_fetch_67 (by omega) (by omega) (fun v67 e67 b67 => ?_)
        refine Z.if_eq (tgt := 75) C dX7_fetch_68 (by decide) (by omega) (by omega) (fun c68 => ?_) (fun c68 => ?_)
        · refine Z.iconst C dX7_fetch_75 ?_
          exact J76 _ (by omega) (by omega)
        · refine Z.iconst C dX7_fetch_71 ?_
          refine Z.goto (tgt := 76) C dX7_fetch_72 (by decide) ?_
          exact J76 _ (by omega) (by omega)
    refine Z.iload_n C dX7_fetch_22 rfl ?_
    refine Z.if_eq (tgt := 49) C dX7_fetch_23 (by decide) (by omega) (by omega) (fun c23 => ?_) (fun c23 => ?_)
    · refine Z.iconst C dX7_fetch_49 ?_
      exact J50 _ (by omega) (by omega)
    · refine Z.aload_n C dX7_fetch_26 rfl ?_
      refine g_X7_7 C rfl dX7_fetch_27 R.1 rfl ?_
      refine Z.iload_n C dX7_fetch_30 rfl ?_
      refine a_3 C R I w.toNat dX7_fetch_31 (by omega) (by omega) (fun v31 e31 b31 => ?_)
      refine Z.if_eq (tgt := 49) C dX7_fetch_32 (by decide) (by omega) (by omega) (fun c32 => ?_) (fun c32 => ?_)
      · refine Z.iconst C dX7_fetch_49 ?_
        exact J50 _ (by omega) (by omega)
      · refine Z.aload_n C dX7_fetch_35 rfl ?_
        refine g_X7_122 (v := vI (S 14 0)) C rfl dX7_fetch_36 R.1 rfl ?_
        refine Z.sipush C dX7_fetch_39 (by decide) ?_
        refine Z.icmp_ge (tgt := 49) C dX7_fetch_42 (by decide) (by omega) (by omega) (by omega) (by omega) (fun c42 => ?_) (fun c42 => ?_)
        · refine Z.iconst C dX7_fetch_49 ?_
          exact J50 _ (by omega) (by omega)
        · refine Z.iconst C dX7_fetch_45 ?_
          refine Z.goto (tgt := 50) C dX7_fetch_46 (by decide) ?_
          exact J50 _ (by omega) (by omega)
  refine Z.aload_n C dX7_fetch_0 rfl ?_
  refine Z.iload_n C dX7_fetch_1 rfl ?_
  refine v_X7_98 C rfl dX7_fetch_2 R.1 (c_X7_isMember htr R I (by omega)) (by decide) (Nat.le_of_ble_eq_true rfl) (by rw [hR]; exact Nat.le_refl _) (by rw [hR]; exact Nat.le_refl _) (fun w2 h2 q2 => ?_) (fun _ _ q => q.elim)
  obtain ⟨rfl, q2⟩ := q2
  replace q2 := q2.symm
  subst q2
  obtain ⟨m2, z2, g2, k2⟩ := mbx (0 ≤ w ∧ w ≤ S 2 0 - 1)
  rw [z2]
  refine Z.if_eq (tgt := 20) C dX7_fetch_5 (by decide) (by omega) (by omega) (fun c5 => ?_) (fun c5 => ?_)
  · refine Z.iconst C dX7_fetch_20 ?_
    exact J21 _ (by omega) (by omega)
  · refine Z.aload_n C dX7_fetch_8 rfl ?_
    refine Z.iload_n C dX7_fetch_9 rfl ?_
    refine v_X7_119 C rfl dX7_fetch_10 R.1 (c_X7_isFilm htr R I (by omega)) (by decide) (Nat.le_of_ble_eq_true rfl) (by rw [hR]; exact Nat.le_refl _) (by rw [hR]; exact Nat.le_refl _) (fun w10 h10 q10 => ?_) (fun _ _ q => q.elim)
    obtain ⟨rfl, q10⟩ := q10
    replace q10 := q10.symm
    subst q10
    obtain ⟨m10, z10, g10, k10⟩ := mbx (0 ≤ z ∧ z ≤ S 10 0 - 1)
    rw [z10]
    refine Z.if_eq (tgt := 20) C dX7_fetch_13 (by decide) (by omega) (by omega) (fun c13 => ?_) (fun c13 => ?_)
    · refine Z.iconst C dX7_fetch_20 ?_
      exact J21 _ (by omega) (by omega)
    · refine Z.iconst C dX7_fetch_16 ?_
      refine Z.goto (tgt := 21) C dX7_fetch_17 (by decide) ?_
      exact J21 _ (by omega) (by omega)

