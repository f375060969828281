/-! the law's method refuses -/
set_option maxHeartbeats 4000000 in
set_option maxRecDepth 100000 in
theorem c_L_refuses {ln : Launch} (htr : ln.stackTraces = false) {G : zG} {b o : Nat} {S : Nat → Nat → Int} {hC0 h0 h : zH} {x : Int} (K : SC G b S hC0 h0 h) (ho : h0 o = some (eI (G.2.1 0) 3 (nvf (S 2 0) (S 10 0) (S 15 0)))) (oC : hC0 o = none) (hx : 0 ≤ x ∧ x < 10000) (h5 : 0 < S 15 0 → 0 < S 2 0) : CT ln G yL_refuses cL_refuses 10 (some .boolean) 12 [.ref b, .ref o, vI x] h 80 8500 (fun r9 h9 => r9 = some (vI 1) ∧ SC G b S hC0 h0 h9) zNo := by
  have MBs : MB S := K.c.1
  have hb2 : 0 ≤ S 2 0 ∧ S 2 0 ≤ 10 := MBs 2 0 (by decide)
  have hb10 : 0 ≤ S 10 0 ∧ S 10 0 ≤ 20 := MBs 10 0 (by decide)
  have hb15 : 0 ≤ S 15 0 ∧ S 15 0 ≤ 30 := MBs 15 0 (by decide)
  refine CT.intro htr (by decide) rfl (Nat.le_of_ble_eq_true rfl) ?_
  intro X hln hG hR hN C E
  subst hln
  subst hG
  refine Z.iload_n C dL_refuses_0 rfl ?_
  refine Z.iconst C dL_refuses_1 ?_
  refine Z.irm C dL_refuses_2 (by omega) (by omega) (by omega) (by omega) (fun a2 b2 => ?_)
  have J11 : ∀ lo : Int, lo = 0 ∨ lo = 1 → Z X 11 [.ref b, .ref o, vI (x)] [vI (lo)] h (0) (0) := by
    intro lo hlo
    refine Z.istore_n (l' := [_, _, _, _]) C dL_refuses_11 (Nat.le_of_ble_eq_true rfl) (by rw [hN]; decide) rfl ?_
    refine Z.iload_n C dL_refuses_12 rfl ?_
    have J27 : ∀ ow : Int, (ow < 0 ∨ S 2 0 ≤ ow) ∧ -20000 ≤ ow ∧ ow ≤ 20000 → Z X 27 [.ref b, .ref o, vI (x), vI (lo)] [vI (ow)] h (0) (0) := by
      intro ow how
      refine Z.istore (l' := [_, _, _, _, _]) C dL_refuses_27 (Nat.le_of_ble_eq_true rfl) (by rw [hN]; decide) rfl ?_
      refine Z.iload_n C dL_refuses_29 rfl ?_
      have J44 : ∀ fi : Int, (fi < 0 ∨ S 10 0 ≤ fi) ∧ -20000 ≤ fi ∧ fi ≤ 20000 → Z X 44 [.ref b, .ref o, vI (x), vI (lo), vI (ow)] [vI (fi)] h (0) (0) := by
        intro fi hfi
        refine Z.istore (l' := [_, _, _, _, _, _]) C dL_refuses_44 (Nat.le_of_ble_eq_true rfl) (by rw [hN]; decide) rfl ?_
        refine Z.iload_n C dL_refuses_46 rfl ?_
        have J61 : ∀ pr : Int, (pr < 0 ∨ S 15 0 ≤ pr) ∧ -20000 ≤ pr ∧ pr ≤ 20000 → Z X 61 [.ref b, .ref o, vI (x), vI (lo), vI (ow), vI (fi)] [vI (pr)] h (0) (0) := by
          intro pr hpr
          refine Z.istore (l' := [_, _, _, _, _, _, _]) C dL_refuses_61 (Nat.le_of_ble_eq_true rfl) (by rw [hN]; decide) rfl ?_
          refine Z.iload_n C dL_refuses_63 rfl ?_
          have J76 : ∀ ru : Int, (ru < 0 ∨ 3 ≤ ru) ∧ -20000 ≤ ru ∧ ru ≤ 20000 → Z X 76 [.ref b, .ref o, vI (x), vI (lo), vI (ow), vI (fi), vI (pr)] [vI (ru)] h (0) (0) := by
            intro ru hru
            refine Z.istore (l' := [_, _, _, _, _, _, _, _]) C dL_refuses_76 (Nat.le_of_ble_eq_true rfl) (by rw [hN]; decide) rfl ?_
            refine Z.aload_n C dL_refuses_78 rfl ?_
            refine Z.iload_n C dL_refuses_79 rfl ?_
            have J92 : ∀ u1 : Int, (u1 < 1 ∨ 20 < u1) ∧ -20000 ≤ u1 ∧ u1 ≤ 20000 → Z X 92 [.ref b, .ref o, vI (x), vI (lo), vI (ow), vI (fi), vI (pr), vI (ru)] [vI (u1), .ref b] h (0) (0) := by
              intro u1 hu1
              refine Z.iconst C dL_refuses_92 ?_
              refine h_L_74 C rfl dL_refuses_93 (x_join_1 htr K (by omega) (by decide) (ej_1 (by omega))) (by decide) (Nat.le_of_ble_eq_true rfl) (by rw [hR]; exact Nat.le_of_ble_eq_true rfl) (by rw [hR]; exact Nat.le_of_ble_eq_true rfl) (fun w93 h93 q93 => ?_)
              obtain ⟨rfl, K93⟩ := q93
              refine Z.ldcI (v := -2000000002) C zl_c15 dL_refuses_96 ?_
              refine Z.icmp_ne (tgt := 377) C dL_refuses_98 (by decide) (by omega) (by omega) (by omega) (by omega) (fun z => absurd rfl z) (fun _ => ?_)
              refine Z.aload_n C dL_refuses_101 rfl ?_
              refine Z.iconst C dL_refuses_102 ?_
              refine Z.iload_n C dL_refuses_103 rfl ?_
              have J117 : ∀ u2 : Int, (u2 < 0 ∨ 50 < u2) ∧ -20000 ≤ u2 ∧ u2 ≤ 20000 → Z X 117 [.ref b, .ref o, vI (x), vI (lo), vI (ow), vI (fi), vI (pr), vI (ru)] [vI (u2), vI (1), .ref b] h93 (0 + 5) (0 + 521) := by
                intro u2 hu2
                refine h_L_74 C rfl dL_refuses_117 (x_join_1 htr K93 (by decide) (by omega) (ej_1 (by omega))) (by decide) (Nat.le_of_ble_eq_true rfl) (by rw [hR]; exact Nat.le_of_ble_eq_true rfl) (by rw [hR]; exact Nat.le_of_ble_eq_true rfl) (fun w117 h117 q117 => ?_)
                obtain ⟨rfl, K117⟩ := q117
                refine Z.ldcI (v := -2000000002) C zl_c15 dL_refuses_120 ?_
                refine Z.icmp_ne (tgt := 377) C dL_refuses_122 (by decide) (by omega) (by omega) (by omega) (by omega) (fun z => absurd rfl z) (fun _ => ?_)
                refine Z.aload_n C dL_refuses_125 rfl ?_
                refine Z.iload C dL_refuses_126 rfl ?_
                refine h_L_79 C rfl dL_refuses_128 (x_leave_1 htr K117 (by omega) (el_1 (by omega))) (by decide) (Nat.le_of_ble_eq_true rfl) (by rw [hR]; exact Nat.le_of_ble_eq_true rfl) (by rw [hR]; exact Nat.le_of_ble_eq_true rfl) (fun w128 h128 q128 => ?_)
                obtain ⟨rfl, K128⟩ := q128
                refine Z.ldcI (v := -2000000001) C zl_c25 dL_refuses_131 ?_
                refine Z.icmp_ne (tgt := 377) C dL_refuses_133 (by decide) (by omega) (by omega) (by omega) (by omega) (fun z => absurd rfl z) (fun _ => ?_)
                refine Z.aload_n C dL_refuses_136 rfl ?_
                refine Z.iload_n C dL_refuses_137 rfl ?_
                have J150 : ∀ u3 : Int, (u3 < 1 ∨ 20 < u3) ∧ -20000 ≤ u3 ∧ u3 ≤ 20000 → Z X 150 [.ref b, .ref o, vI (x), vI (lo), vI (ow), vI (fi), vI (pr), vI (ru)] [vI (u3), .ref b] h128 (0 + 5 + 5 + 3) (0 + 521 + 521 + 502) := by
                  intro u3 hu3
                  refine h_L_82 C rfl dL_refuses_150 (x_film_1 htr K128 (by omega) (ei_1 (by omega))) (by decide) (Nat.le_of_ble_eq_true rfl) (by rw [hR]; exact Nat.le_of_ble_eq_true rfl) (by rw [hR]; exact Nat.le_of_ble_eq_true rfl) (fun w150 h150 q150 => ?_)
                  obtain ⟨rfl, K150⟩ := q150
                  refine Z.ldcI (v := -2000000002) C zl_c15 dL_refuses_153 ?_
                  refine Z.icmp_ne (tgt := 377) C dL_refuses_155 (by decide) (by omega) (by omega) (by omega) (by omega) (fun z => absurd rfl z) (fun _ => ?_)
                  refine Z.aload_n C dL_refuses_158 rfl ?_
                  refine Z.iload C dL_refuses_159 rfl ?_
                  refine Z.iconst C dL_refuses_161 ?_
                  refine h_L_84 C rfl dL_refuses_162 (x_fetch_1 htr K150 (by omega) (by decide) (et_1 (by omega))) (by decide) (Nat.le_of_ble_eq_true rfl) (by rw [hR]; exact Nat.le_of_ble_eq_true rfl) (by rw [hR]; exact Nat.le_of_ble_eq_true rfl) (fun w162 h162 q162 => ?_)
                  obtain ⟨rfl, K162⟩ := q162
                  refine Z.ldcI (v := -2000000001) C zl_c25 dL_refuses_165 ?_
                  refine Z.icmp_ne (tgt := 377) C dL_refuses_167 (by decide) (by omega) (by omega) (by omega) (by omega) (fun z => absurd rfl z) (fun _ => ?_)
                  refine Z.aload_n C dL_refuses_170 rfl ?_
                  refine Z.iconst C dL_refuses_171 ?_
                  refine Z.iload C dL_refuses_172 rfl ?_
                  refine h_L_84 C rfl dL_refuses_174 (x_fetch_1 htr K162 (by decide) (by omega) (et_1 (by omega))) (by decide) (Nat.le_of_ble_eq_true rfl) (by rw [hR]; exact Nat.le_of_ble_eq_true rfl) (by rw [hR]; exact Nat.le_of_ble_eq_true rfl) (fun w174 h174 q174 => ?_)
                  obtain ⟨rfl, K174⟩ := q174
                  refine Z.ldcI (v := -2000000001) C zl_c25 dL_refuses_177 ?_
                  refine Z.icmp_ne (tgt := 377) C dL_refuses_179 (by decide) (by omega) (by omega) (by omega) (by omega) (fun z => absurd rfl z) (fun _ => ?_)
                  refine Z.aload_n C dL_refuses_182 rfl ?_
                  refine Z.iload_n C dL_refuses_183 rfl ?_
                  have J196 : ∀ u4 : Int, (u4 < 1 ∨ 100 < u4) ∧ -20000 ≤ u4 ∧ u4 ≤ 20000 → Z X 196 [.ref b, .ref o, vI (x), vI (lo), vI (ow), vI (fi), vI (pr), vI (ru)] [vI (u4), .ref b] h174 (0 + 5 + 5 + 3 + 2 + 6 + 6) (0 + 521 + 521 + 502 + 482 + 518 + 518) := by
                    intro u4 hu4
                    refine h_L_86 C rfl dL_refuses_196 (x_pass_1 htr K174 (by omega) (ep_1 (by omega))) (by decide) (Nat.le_of_ble_eq_true rfl) (by rw [hR]; exact Nat.le_of_ble_eq_true rfl) (by rw [hR]; exact Nat.le_of_ble_eq_true rfl) (fun w196 h196 q196 => ?_)
                    obtain ⟨rfl, K196⟩ := q196
                    refine Z.ldcI (v := -2000000002) C zl_c15 dL_refuses_199 ?_
                    refine Z.icmp_ne (tgt := 377) C dL_refuses_201 (by decide) (by omega) (by omega) (by omega) (by omega) (fun z => absurd rfl z) (fun _ => ?_)
                    refine Z.aload_n C dL_refuses_204 rfl ?_
                    refine Z.iload C dL_refuses_205 rfl ?_
                    refine Z.iconst C dL_refuses_207 ?_
                    refine Z.iconst C dL_refuses_208 ?_
                    refine h_L_88 C rfl dL_refuses_209 (x_propose_1 htr K196 (by omega) (by decide) (by decide) (eo_1 (by omega))) (by decide) (Nat.le_of_ble_eq_true rfl) (by rw [hR]; exact Nat.le_of_ble_eq_true rfl) (by rw [hR]; exact Nat.le_of_ble_eq_true rfl) (fun w209 h209 q209 => ?_)
                    obtain ⟨rfl, K209⟩ := q209
                    refine Z.ldcI (v := -2000000001) C zl_c25 dL_refuses_212 ?_
                    refine Z.icmp_ne (tgt := 377) C dL_refuses_214 (by decide) (by omega) (by omega) (by omega) (by omega) (fun z => absurd rfl z) (fun _ => ?_)
                    refine Z.aload_n C dL_refuses_217 rfl ?_
                    refine Z.iload C dL_refuses_218 rfl ?_
                    refine Z.iconst C dL_refuses_220 ?_
                    refine Z.iload_n C dL_refuses_221 rfl ?_
                    refine h_L_91 C rfl dL_refuses_222 (x_vote_1 htr K209 (by omega) (by decide) hlo (ev_1 (by omega))) (by decide) (Nat.le_of_ble_eq_true rfl) (by rw [hR]; exact Nat.le_of_ble_eq_true rfl) (by rw [hR]; exact Nat.le_of_ble_eq_true rfl) (fun w222 h222 q222 => ?_)
                    obtain ⟨rfl, K222⟩ := q222
                    refine Z.ldcI (v := -2000000001) C zl_c25 dL_refuses_225 ?_
                    refine Z.icmp_ne (tgt := 377) C dL_refuses_227 (by decide) (by omega) (by omega) (by omega) (by omega) (fun z => absurd rfl z) (fun _ => ?_)
                    refine Z.aload_n C dL_refuses_230 rfl ?_
                    refine Z.iconst C dL_refuses_231 ?_
                    refine Z.iload C dL_refuses_232 rfl ?_
                    refine Z.iload_n C dL_refuses_234 rfl ?_
                    refine h_L_91 C rfl dL_refuses_235 (x_vote_1 htr K222 (by decide) (by omega) hlo (ev_1 (by omega))) (by decide) (Nat.le_of_ble_eq_true rfl) (by rw [hR]; exact Nat.le_of_ble_eq_true rfl) (by rw [hR]; exact Nat.le_of_ble_eq_true rfl) (fun w235 h235 q235 => ?_)
                    obtain ⟨rfl, K235⟩ := q235
                    refine Z.ldcI (v := -2000000001) C zl_c25 dL_refuses_238 ?_
                    refine Z.icmp_ne (tgt := 377) C dL_refuses_240 (by decide) (by omega) (by omega) (by omega) (by omega) (fun z => absurd rfl z) (fun _ => ?_)
                    refine Z.aload_n C dL_refuses_243 rfl ?_
                    refine Z.iload C dL_refuses_244 rfl ?_
                    refine h_L_94 C rfl dL_refuses_246 (x_rule_1 htr K235 (by omega) (er_1 (by omega))) (by decide) (Nat.le_of_ble_eq_true rfl) (by rw [hR]; exact Nat.le_of_ble_eq_true rfl) (by rw [hR]; exact Nat.le_of_ble_eq_true rfl) (fun w246 h246 q246 => ?_)
                    obtain ⟨rfl, K246⟩ := q246
                    refine Z.ldcI (v := -2000000001) C zl_c25 dL_refuses_249 ?_
                    refine Z.icmp_ne (tgt := 377) C dL_refuses_251 (by decide) (by omega) (by omega) (by omega) (by omega) (fun z => absurd rfl z) (fun _ => ?_)
                    refine Z.aload_n C dL_refuses_254 rfl ?_
                    refine Z.iload C dL_refuses_255 rfl ?_
                    refine Z.iconst C dL_refuses_257 ?_
                    refine h_L_96 C rfl dL_refuses_258 (x_proposal_1 htr K246 (by omega) (by decide) (eq_1 (by omega))) (by decide) (Nat.le_of_ble_eq_true rfl) (by rw [hR]; exact Nat.le_of_ble_eq_true rfl) (by rw [hR]; exact Nat.le_of_ble_eq_true rfl) (fun w258 h258 q258 => ?_)
                    obtain ⟨rfl, K258⟩ := q258
                    refine Z.ldcI (v := -2000000001) C zl_c25 dL_refuses_261 ?_
                    refine Z.icmp_ne (tgt := 377) C dL_refuses_263 (by decide) (by omega) (by omega) (by omega) (by omega) (fun z => absurd rfl z) (fun _ => ?_)
                    refine Z.aload_n C dL_refuses_266 rfl ?_
                    refine Z.iload C dL_refuses_267 rfl ?_
                    refine Z.iconst C dL_refuses_269 ?_
                    refine h_L_98 C rfl dL_refuses_270 (x_member_1 htr K258 (by omega) (by decide) (em_1 (by omega))) (by decide) (Nat.le_of_ble_eq_true rfl) (by rw [hR]; exact Nat.le_of_ble_eq_true rfl) (by rw [hR]; exact Nat.le_of_ble_eq_true rfl) (fun w270 h270 q270 => ?_)
                    obtain ⟨rfl, K270⟩ := q270
                    refine Z.ldcI (v := -2000000001) C zl_c25 dL_refuses_273 ?_
                    refine Z.icmp_ne (tgt := 377) C dL_refuses_275 (by decide) (by omega) (by omega) (by omega) (by omega) (fun z => absurd rfl z) (fun _ => ?_)
                    refine Z.aload_n C dL_refuses_278 rfl ?_
                    refine Z.iload C dL_refuses_279 rfl ?_
                    refine Z.iconst C dL_refuses_281 ?_
                    refine h_L_100 C rfl dL_refuses_282 (x_has_1 htr K270 (by omega) (by decide) (eh_1 (by omega))) (by decide) (Nat.le_of_ble_eq_true rfl) (by rw [hR]; exact Nat.le_of_ble_eq_true rfl) (by rw [hR]; exact Nat.le_of_ble_eq_true rfl) (fun w282 h282 q282 => ?_)
                    obtain ⟨rfl, K282⟩ := q282
                    refine Z.ldcI (v := -2000000001) C zl_c25 dL_refuses_285 ?_
                    refine Z.icmp_ne (tgt := 377) C dL_refuses_287 (by decide) (by omega) (by omega) (by omega) (by omega) (fun z => absurd rfl z) (fun _ => ?_)
                    refine Z.aload_n C dL_refuses_290 rfl ?_
                    refine Z.iconst C dL_refuses_291 ?_
                    refine Z.iload C dL_refuses_292 rfl ?_
                    refine h_L_100 C rfl dL_refuses_294 (x_has_1 htr K282 (by decide) (by omega) (eh_1 (by omega))) (by decide) (Nat.le_of_ble_eq_true rfl) (by rw [hR]; exact Nat.le_of_ble_eq_true rfl) (by rw [hR]; exact Nat.le_of_ble_eq_true rfl) (fun w294 h294 q294 => ?_)
                    obtain ⟨rfl, K294⟩ := q294
                    refine Z.ldcI (v := -2000000001) C zl_c25 dL_refuses_297 ?_
                    refine Z.icmp_ne (tgt := 377) C dL_refuses_299 (by decide) (by omega) (by omega) (by omega) (by omega) (fun z => absurd rfl z) (fun _ => ?_)
                    refine Z.aload_n C dL_refuses_302 rfl ?_
                    refine Z.iload C dL_refuses_303 rfl ?_
                    refine Z.iconst C dL_refuses_305 ?_
                    refine h_L_102 C rfl dL_refuses_306 (x_owes_1 htr K294 (by omega) (by decide) (ew_1 (by omega))) (by decide) (Nat.le_of_ble_eq_true rfl) (by rw [hR]; exact Nat.le_of_ble_eq_true rfl) (by rw [hR]; exact Nat.le_of_ble_eq_true rfl) (fun w306 h306 q306 => ?_)
                    obtain ⟨rfl, K306⟩ := q306
                    refine Z.ldcI (v := -2000000001) C zl_c25 dL_refuses_309 ?_
                    refine Z.icmp_ne (tgt := 377) C dL_refuses_311 (by decide) (by omega) (by omega) (by omega) (by omega) (fun z => absurd rfl z) (fun _ => ?_)
                    refine Z.aload_n C dL_refuses_314 rfl ?_
                    refine Z.iconst C dL_refuses_315 ?_
                    refine Z.iload C dL_refuses_316 rfl ?_
                    refine h_L_102 C rfl dL_refuses_318 (x_owes_1 htr K306 (by decide) (by omega) (ew_1 (by omega))) (by decide) (Nat.le_of_ble_eq_true rfl) (by rw [hR]; exact Nat.le_of_ble_eq_true rfl) (by rw [hR]; exact Nat.le_of_ble_eq_true rfl) (fun w318 h318 q318 => ?_)
                    obtain ⟨rfl, K318⟩ := q318
                    refine Z.ldcI (v := -2000000001) C zl_c25 dL_refuses_321 ?_
                    refine Z.icmp_ne (tgt := 377) C dL_refuses_323 (by decide) (by omega) (by omega) (by omega) (by omega) (fun z => absurd rfl z) (fun _ => ?_)
                    refine Z.aload_n C dL_refuses_326 rfl ?_
                    refine Z.iload C dL_refuses_327 rfl ?_
                    refine h_L_104 C rfl dL_refuses_329 (x_worth_1 htr K318 (by omega) (ex_1 (by omega))) (by decide) (Nat.le_of_ble_eq_true rfl) (by rw [hR]; exact Nat.le_of_ble_eq_true rfl) (by rw [hR]; exact Nat.le_of_ble_eq_true rfl) (fun w329 h329 q329 => ?_)
                    obtain ⟨rfl, K329⟩ := q329
                    refine Z.ldcI (v := -2000000001) C zl_c25 dL_refuses_332 ?_
                    refine Z.icmp_ne (tgt := 377) C dL_refuses_334 (by decide) (by omega) (by omega) (by omega) (by omega) (fun z => absurd rfl z) (fun _ => ?_)
                    refine Z.aload_n C dL_refuses_337 rfl ?_
                    refine Z.iload C dL_refuses_338 rfl ?_
                    refine h_L_106 C rfl dL_refuses_340 (x_anew_1 htr K329 (by omega) (ea_1 (by omega))) (by decide) (Nat.le_of_ble_eq_true rfl) (by rw [hR]; exact Nat.le_of_ble_eq_true rfl) (by rw [hR]; exact Nat.le_of_ble_eq_true rfl) (fun w340 h340 q340 => ?_)
                    obtain ⟨rfl, K340⟩ := q340
                    refine Z.ldcI (v := -2000000001) C zl_c25 dL_refuses_343 ?_
                    refine Z.icmp_ne (tgt := 377) C dL_refuses_345 (by decide) (by omega) (by omega) (by omega) (by omega) (fun z => absurd rfl z) (fun _ => ?_)
                    refine Z.aload_n C dL_refuses_348 rfl ?_
                    refine Z.iload C dL_refuses_349 rfl ?_
                    refine Z.iload C dL_refuses_351 rfl ?_
                    refine h_L_109 C rfl dL_refuses_353 (x_owesAnew_1 htr K340 (by omega) (by omega) (ew_1 (by omega))) (by decide) (Nat.le_of_ble_eq_true rfl) (by rw [hR]; exact Nat.le_of_ble_eq_true rfl) (by rw [hR]; exact Nat.le_of_ble_eq_true rfl) (fun w353 h353 q353 => ?_)
                    obtain ⟨rfl, K353⟩ := q353
                    refine Z.ldcI (v := -2000000001) C zl_c25 dL_refuses_356 ?_
                    refine Z.icmp_ne (tgt := 377) C dL_refuses_358 (by decide) (by omega) (by omega) (by omega) (by omega) (fun z => absurd rfl z) (fun _ => ?_)
                    refine Z.aload_n C dL_refuses_361 rfl ?_
                    refine Z.iconst C dL_refuses_362 ?_
                    refine Z.iload_n C dL_refuses_363 rfl ?_
                    refine Z.isub C dL_refuses_364 ?_
                    refine h_L_111 C rfl dL_refuses_365 (x_told_1 htr K353 (by omega) (ed_1 (by omega))) (by decide) (Nat.le_of_ble_eq_true rfl) (by rw [hR]; exact Nat.le_of_ble_eq_true rfl) (by rw [hR]; exact Nat.le_of_ble_eq_true rfl) (fun w365 h365 q365 => ?_)
                    obtain ⟨rfl, K365⟩ := q365
                    refine Z.ldcI (v := -2000000001) C zl_c25 dL_refuses_368 ?_
                    refine Z.icmp_ne (tgt := 377) C dL_refuses_370 (by decide) (by omega) (by omega) (by omega) (by omega) (fun z => absurd rfl z) (fun _ => ?_)
                    refine Z.iconst C dL_refuses_373 ?_
                    refine Z.goto (tgt := 378) C dL_refuses_374 (by decide) ?_
                    refine Z.istore (l' := [_, _, _, _, _, _, _, _, _]) C dL_refuses_378 (Nat.le_of_ble_eq_true rfl) (by rw [hN]; decide) rfl ?_
                    refine Z.aload_n C dL_refuses_380 rfl ?_
                    refine Z.iconst C dL_refuses_381 ?_
                    refine Z.nld0 C dL_refuses_382 (K365.keep ho oC) ?_
                    have J543 : ∀ hh : zH, SC (zG_of X) b S hC0 h0 hh → Z X 543 [.ref b, .ref o, vI (x), vI (lo), vI (ow), vI (fi), vI (pr), vI (ru), vI (1)] [] hh (75) (8460) := by
                      intro hh Kj543
                      refine Z.aload_n C dL_refuses_543 rfl ?_
                      refine Z.iconst C dL_refuses_544 ?_
                      refine Z.nld2 C dL_refuses_545 (Kj543.keep ho oC) ?_
                      have J560 : ∀ tl : Int, (S 15 0 = 0 ∧ tl = 0) ∨ (0 < S 15 0 ∧ 0 ≤ tl ∧ tl < S 15 0) → Z X 560 [.ref b, .ref o, vI (x), vI (lo), vI (ow), vI (fi), vI (pr), vI (ru), vI (1)] [vI (tl)] hh (75) (8460) := by
                        intro tl htl
                        refine Z.istore (l' := [_, _, _, _, _, _, _, _, _, _]) C dL_refuses_560 (Nat.le_of_ble_eq_true rfl) (by rw [hN]; decide) rfl ?_
                        refine Z.iload C dL_refuses_562 rfl ?_
                        refine Z.if_eq (tgt := 624) C dL_refuses_564 (by decide) (by omega) (by omega) (fun z => absurd z (by decide)) (fun _ => ?_)
                        refine Z.aload_n C dL_refuses_567 rfl ?_
                        refine Z.iconst C dL_refuses_568 ?_
                        refine Z.nld2 C dL_refuses_569 (Kj543.keep ho oC) ?_
                        have J620 : ∀ hh : zH, SC (zG_of X) b S hC0 h0 hh → Z X 620 [.ref b, .ref o, vI (x), vI (lo), vI (ow), vI (fi), vI (pr), vI (ru), vI (1), vI (tl)] [] hh (80) (8500) := by
                          intro hh Kj620
                          refine Z.iconst C dL_refuses_620 ?_
                          refine Z.goto (tgt := 625) C dL_refuses_621 (by decide) ?_
                          exact Z.zret C E dL_refuses_625 rfl (by decide) (Nat.le_of_ble_eq_true rfl) ⟨rfl, Kj620⟩
                        refine Z.if_eq (tgt := 620) C dL_refuses_570 (by decide) (by omega) (by omega) (fun c570 => ?_) (fun c570 => ?_)
                        · refine Z.widen (k' := 80) (n' := 8500) (by omega) (by omega) ?_
                          exact J620 _ Kj543
                        · refine Z.aload_n C dL_refuses_573 rfl ?_
                          refine Z.iload C dL_refuses_574 rfl ?_
                          refine Z.iload_n C dL_refuses_576 rfl ?_
                          have J589 : ∀ u7 : Int, (u7 < 0 ∨ 4 < u7) ∧ -20000 ≤ u7 ∧ u7 ≤ 20000 → Z X 589 [.ref b, .ref o, vI (x), vI (lo), vI (ow), vI (fi), vI (pr), vI (ru), vI (1), vI (tl)] [vI (u7), vI (tl), .ref b] hh (75) (8460) := by
                            intro u7 hu7
                            refine h_L_96 C rfl dL_refuses_589 (x_proposal_2 htr Kj543 (by omega) (by omega) (eq_2 (by omega) (by omega))) (by decide) (Nat.le_of_ble_eq_true rfl) (by rw [hR]; exact Nat.le_of_ble_eq_true rfl) (by rw [hR]; exact Nat.le_of_ble_eq_true rfl) (fun w589 h589 q589 => ?_)
                            obtain ⟨rfl, K589⟩ := q589
                            refine Z.ldcI (v := -2000000002) C zl_c15 dL_refuses_592 ?_
                            refine Z.icmp_ne (tgt := 624) C dL_refuses_594 (by decide) (by omega) (by omega) (by omega) (by omega) (fun z => absurd rfl z) (fun _ => ?_)
                            refine Z.aload_n C dL_refuses_597 rfl ?_
                            refine Z.iload C dL_refuses_598 rfl ?_
                            refine Z.iconst C dL_refuses_600 ?_
                            refine h_L_96 C rfl dL_refuses_601 (x_proposal_0 htr K589 (by omega) (by decide) (eq_0 (by omega) (by decide))) (by decide) (Nat.le_of_ble_eq_true rfl) (by rw [hR]; exact Nat.le_of_ble_eq_true rfl) (by rw [hR]; exact Nat.le_of_ble_eq_true rfl) (fun w601 h601 q601 => ?_)
                            obtain ⟨rfl, K601⟩ := q601
                            rw [vPpl_0]
                            have vq : 0 ≤ S 16 tl.toNat ∧ S 16 tl.toNat ≤ 2 := MBs 16 _ (by decide)
                            refine Z.if_eq (tgt := 620) C dL_refuses_604 (by decide) (by omega) (by omega) (fun c604 => ?_) (fun c604 => ?_)
                            · refine Z.widen (k' := 80) (n' := 8500) (by omega) (by omega) ?_
                              exact J620 _ K601
                            · refine Z.aload_n C dL_refuses_607 rfl ?_
                              refine Z.iconst C dL_refuses_608 ?_
                              refine Z.iload C dL_refuses_609 rfl ?_
                              refine Z.iload_n C dL_refuses_611 rfl ?_
                              refine h_L_91 C rfl dL_refuses_612 (x_vote_2 htr K601 (by decide) (by omega) hlo (ev_2 (by omega) (Or.inr c604))) (by decide) (Nat.le_of_ble_eq_true rfl) (by rw [hR]; exact Nat.le_of_ble_eq_true rfl) (by rw [hR]; exact Nat.le_of_ble_eq_true rfl) (fun w612 h612 q612 => ?_)
                              obtain ⟨rfl, K612⟩ := q612
                              refine Z.ldcI (v := -2000000003) C zl_c18 dL_refuses_615 ?_
                              refine Z.icmp_ne (tgt := 624) C dL_refuses_617 (by decide) (by omega) (by omega) (by omega) (by omega) (fun z => absurd rfl z) (fun _ => ?_)
                              refine Z.widen (k' := 80) (n' := 8500) (by omega) (by omega) ?_
                              exact J620 _ K612
                          refine Z.if_eq (tgt := 586) C dL_refuses_577 (by decide) (by omega) (by omega) (fun c577 => ?_) (fun c577 => ?_)
                          · refine Z.iconst C dL_refuses_586 ?_
                            refine Z.iload_n C dL_refuses_587 rfl ?_
                            refine Z.iadd C dL_refuses_588 ?_
                            exact J589 _ (by omega)
                          · refine Z.iconst C dL_refuses_580 ?_
                            refine Z.iload_n C dL_refuses_581 rfl ?_
                            refine Z.isub C dL_refuses_582 ?_
                            refine Z.goto (tgt := 589) C dL_refuses_583 (by decide) ?_
                            exact J589 _ (by omega)
                      refine Z.if_ne (tgt := 553) C dL_refuses_546 (by decide) (by omega) (by omega) (fun c546 => ?_) (fun c546 => ?_)
                      · refine Z.iload_n C dL_refuses_553 rfl ?_
                        refine Z.iconst C dL_refuses_554 ?_
                        refine Z.idv C dL_refuses_555 (by omega) (by omega) (by omega) (by omega) ?_
                        refine Z.aload_n C dL_refuses_556 rfl ?_
                        refine Z.iconst C dL_refuses_557 ?_
                        refine Z.nld2 C dL_refuses_558 (Kj543.keep ho oC) ?_
                        refine Z.irm C dL_refuses_559 (by omega) (by omega) (by omega) (by omega) (fun a559 b559 => ?_)
                        exact J560 _ (by omega)
                      · refine Z.iconst C dL_refuses_549 ?_
                        refine Z.goto (tgt := 560) C dL_refuses_550 (by decide) ?_
                        exact J560 _ (by omega)
                    refine Z.if_le (tgt := 543) C dL_refuses_383 (by decide) (by omega) (by omega) (fun c383 => ?_) (fun c383 => ?_)
                    · refine Z.widen (k' := 75) (n' := 8460) (by omega) (by omega) ?_
                      exact J543 _ K365
                    · refine Z.iload C dL_refuses_386 rfl ?_
                      refine Z.if_eq (tgt := 543) C dL_refuses_388 (by decide) (by omega) (by omega) (fun z => absurd z (by decide)) (fun _ => ?_)
                      refine Z.iload_n C dL_refuses_391 rfl ?_
                      refine Z.iconst C dL_refuses_392 ?_
                      refine Z.idv C dL_refuses_393 (by omega) (by omega) (by omega) (by omega) ?_
                      refine Z.aload_n C dL_refuses_394 rfl ?_
                      refine Z.iconst C dL_refuses_395 ?_
                      refine Z.nld0 C dL_refuses_396 (K365.keep ho oC) ?_
                      refine Z.irm C dL_refuses_397 (by omega) (by omega) (by omega) (by omega) (fun a397 b397 => ?_)
                      generalize (x / 3) % (S 2 0) = on at a397 b397 ⊢
                      refine Z.istore (l' := [_, _, _, _, _, _, _, _, _, _]) C dL_refuses_398 (Nat.le_of_ble_eq_true rfl) (by rw [hN]; decide) rfl ?_
                      refine Z.aload_n C dL_refuses_400 rfl ?_
                      refine Z.iload C dL_refuses_401 rfl ?_
                      refine Z.iload C dL_refuses_403 rfl ?_
                      refine Z.iconst C dL_refuses_405 ?_
                      refine h_L_88 C rfl dL_refuses_406 (x_propose_1 htr K365 (by omega) (by omega) (by decide) (eo_1 (by omega))) (by decide) (Nat.le_of_ble_eq_true rfl) (by rw [hR]; exact Nat.le_of_ble_eq_true rfl) (by rw [hR]; exact Nat.le_of_ble_eq_true rfl) (fun w406 h406 q406 => ?_)
                      obtain ⟨rfl, K406⟩ := q406
                      refine Z.ldcI (v := -2000000001) C zl_c25 dL_refuses_409 ?_
                      refine Z.icmp_ne (tgt := 540) C dL_refuses_411 (by decide) (by omega) (by omega) (by omega) (by omega) (fun z => absurd rfl z) (fun _ => ?_)
                      refine Z.aload_n C dL_refuses_414 rfl ?_
                      refine Z.iload C dL_refuses_415 rfl ?_
                      refine Z.iconst C dL_refuses_417 ?_
                      refine Z.iload_n C dL_refuses_418 rfl ?_
                      have J432 : ∀ u5 : Int, (u5 < 0 ∨ 9 < u5) ∧ -20000 ≤ u5 ∧ u5 ≤ 20000 → Z X 432 [.ref b, .ref o, vI (x), vI (lo), vI (ow), vI (fi), vI (pr), vI (ru), vI (1), vI (on)] [vI (u5), vI (0), vI (on), .ref b] h406 (0 + 5 + 5 + 3 + 2 + 6 + 6 + 1 + 3 + 1 + 1 + 1 + 1 + 1 + 1 + 1 + 1 + 1 + 1 + 2 + 2 + 8 + 3) (0 + 521 + 521 + 502 + 482 + 518 + 518 + 6 + 495 + 6 + 6 + 6 + 6 + 6 + 6 + 6 + 6 + 6 + 6 + 13 + 13 + 2276 + 495) := by
                        intro u5 hu5
                        refine h_L_88 C rfl dL_refuses_432 (x_propose_2 htr K406 (by omega) (by decide) (by omega) (eo_2 (by omega) (by omega))) (by decide) (Nat.le_of_ble_eq_true rfl) (by rw [hR]; exact Nat.le_of_ble_eq_true rfl) (by rw [hR]; exact Nat.le_of_ble_eq_true rfl) (fun w432 h432 q432 => ?_)
                        obtain ⟨rfl, K432⟩ := q432
                        refine Z.ldcI (v := -2000000002) C zl_c15 dL_refuses_435 ?_
                        refine Z.icmp_ne (tgt := 540) C dL_refuses_437 (by decide) (by omega) (by omega) (by omega) (by omega) (fun z => absurd rfl z) (fun _ => ?_)
                        refine Z.aload_n C dL_refuses_440 rfl ?_
                        refine Z.iload C dL_refuses_441 rfl ?_
                        refine Z.iload_n C dL_refuses_443 rfl ?_
                        have J456 : ∀ u6 : Int, (u6 < 0 ∨ 4 < u6) ∧ -20000 ≤ u6 ∧ u6 ≤ 20000 → Z X 456 [.ref b, .ref o, vI (x), vI (lo), vI (ow), vI (fi), vI (pr), vI (ru), vI (1), vI (on)] [vI (u6), vI (on), .ref b] h432 (0 + 5 + 5 + 3 + 2 + 6 + 6 + 1 + 3 + 1 + 1 + 1 + 1 + 1 + 1 + 1 + 1 + 1 + 1 + 2 + 2 + 8 + 3 + 3) (0 + 521 + 521 + 502 + 482 + 518 + 518 + 6 + 495 + 6 + 6 + 6 + 6 + 6 + 6 + 6 + 6 + 6 + 6 + 13 + 13 + 2276 + 495 + 495) := by
                          intro u6 hu6
                          refine h_L_98 C rfl dL_refuses_456 (x_member_2 htr K432 (by omega) (by omega) (em_2 (by omega) (by omega))) (by decide) (Nat.le_of_ble_eq_true rfl) (by rw [hR]; exact Nat.le_of_ble_eq_true rfl) (by rw [hR]; exact Nat.le_of_ble_eq_true rfl) (fun w456 h456 q456 => ?_)
                          obtain ⟨rfl, K456⟩ := q456
                          refine Z.ldcI (v := -2000000002) C zl_c15 dL_refuses_459 ?_
                          refine Z.icmp_ne (tgt := 540) C dL_refuses_461 (by decide) (by omega) (by omega) (by omega) (by omega) (fun z => absurd rfl z) (fun _ => ?_)
                          refine Z.aload_n C dL_refuses_464 rfl ?_
                          refine Z.iload C dL_refuses_465 rfl ?_
                          refine Z.iconst C dL_refuses_467 ?_
                          refine h_L_98 C rfl dL_refuses_468 (x_member_0 htr K456 (by omega) (by decide) (em_0 (by omega) (by decide))) (by decide) (Nat.le_of_ble_eq_true rfl) (by rw [hR]; exact Nat.le_of_ble_eq_true rfl) (by rw [hR]; exact Nat.le_of_ble_eq_true rfl) (fun w468 h468 q468 => ?_)
                          obtain ⟨rfl, K468⟩ := q468
                          have vb := vMem_in (S := S) (m := on.toNat)
                          refine Z.iconst C dL_refuses_471 ?_
                          have J536 : ∀ hh : zH, SC (zG_of X) b S hC0 h0 hh → Z X 536 [.ref b, .ref o, vI (x), vI (lo), vI (ow), vI (fi), vI (pr), vI (ru), vI (1), vI (on)] [] hh (75) (8460) := by
                            intro hh Kj536
                            refine Z.iconst C dL_refuses_536 ?_
                            refine Z.goto (tgt := 541) C dL_refuses_537 (by decide) ?_
                            refine Z.istore (l' := [_, _, _, _, _, _, _, _, _, _]) C dL_refuses_541 (Nat.le_of_ble_eq_true rfl) (by rw [hN]; decide) rfl ?_
                            refine Z.pre (l' := [_, _, _, _, _, _, _, _, _]) 9 rfl ?_
                            refine Z.widen (k' := 75) (n' := 8460) (by omega) (by omega) ?_
                            exact J543 _ Kj536
                          refine Z.icmp_eq (tgt := 536) C dL_refuses_472 (by decide) (by omega) (by omega) (by omega) (by omega) (fun c472 => ?_) (fun c472 => ?_)
                          · refine Z.widen (k' := 75) (n' := 8460) (by omega) (by omega) ?_
                            exact J536 _ K468
                          · have z3 : S 3 on.toNat = 0 := by
                              rcases vb with q | q
                              · exact q.2
                              · exact absurd q.1 c472
                            refine Z.aload_n C dL_refuses_475 rfl ?_
                            refine Z.iload C dL_refuses_476 rfl ?_
                            refine h_L_79 C rfl dL_refuses_478 (x_leave_2 htr K468 (by omega) (el_2 (by omega) z3)) (by decide) (Nat.le_of_ble_eq_true rfl) (by rw [hR]; exact Nat.le_of_ble_eq_true rfl) (by rw [hR]; exact Nat.le_of_ble_eq_true rfl) (fun w478 h478 q478 => ?_)
                            obtain ⟨rfl, K478⟩ := q478
                            refine Z.ldcI (v := -2000000003) C zl_c18 dL_refuses_481 ?_
                            refine Z.icmp_ne (tgt := 540) C dL_refuses_483 (by decide) (by omega) (by omega) (by omega) (by omega) (fun z => absurd rfl z) (fun _ => ?_)
                            refine Z.aload_n C dL_refuses_486 rfl ?_
                            refine Z.iload C dL_refuses_487 rfl ?_
                            refine Z.iconst C dL_refuses_489 ?_
                            refine Z.iconst C dL_refuses_490 ?_
                            refine h_L_88 C rfl dL_refuses_491 (x_propose_3 htr K478 (by omega) (by decide) (by decide) (eo_3 (by omega) (by decide) z3)) (by decide) (Nat.le_of_ble_eq_true rfl) (by rw [hR]; exact Nat.le_of_ble_eq_true rfl) (by rw [hR]; exact Nat.le_of_ble_eq_true rfl) (fun w491 h491 q491 => ?_)
                            obtain ⟨rfl, K491⟩ := q491
                            refine Z.ldcI (v := -2000000003) C zl_c18 dL_refuses_494 ?_
                            refine Z.icmp_ne (tgt := 540) C dL_refuses_496 (by decide) (by omega) (by omega) (by omega) (by omega) (fun z => absurd rfl z) (fun _ => ?_)
                            refine Z.aload_n C dL_refuses_499 rfl ?_
                            refine Z.iconst C dL_refuses_500 ?_
                            refine Z.nld1 C dL_refuses_501 (K491.keep ho oC) ?_
                            have J517 : ∀ hh : zH, SC (zG_of X) b S hC0 h0 hh → Z X 517 [.ref b, .ref o, vI (x), vI (lo), vI (ow), vI (fi), vI (pr), vI (ru), vI (1), vI (on)] [] hh (74) (8450) := by
                              intro hh Kj517
                              refine Z.aload_n C dL_refuses_517 rfl ?_
                              refine Z.iconst C dL_refuses_518 ?_
                              refine Z.nld2 C dL_refuses_519 (Kj517.keep ho oC) ?_
                              refine Z.if_eq (tgt := 536) C dL_refuses_520 (by decide) (by omega) (by omega) (fun c520 => ?_) (fun c520 => ?_)
                              · refine Z.widen (k' := 75) (n' := 8460) (by omega) (by omega) ?_
                                exact J536 _ Kj517
                              · refine Z.aload_n C dL_refuses_523 rfl ?_
                                refine Z.iload C dL_refuses_524 rfl ?_
                                refine Z.iconst C dL_refuses_526 ?_
                                refine Z.iconst C dL_refuses_527 ?_
                                refine h_L_91 C rfl dL_refuses_528 (x_vote_2 htr Kj517 (by omega) (by decide) (Or.inr rfl) (ev_2 (by omega) (Or.inl z3))) (by decide) (Nat.le_of_ble_eq_true rfl) (by rw [hR]; exact Nat.le_of_ble_eq_true rfl) (by rw [hR]; exact Nat.le_of_ble_eq_true rfl) (fun w528 h528 q528 => ?_)
                                obtain ⟨rfl, K528⟩ := q528
                                refine Z.ldcI (v := -2000000003) C zl_c18 dL_refuses_531 ?_
                                refine Z.icmp_ne (tgt := 540) C dL_refuses_533 (by decide) (by omega) (by omega) (by omega) (by omega) (fun z => absurd rfl z) (fun _ => ?_)
                                refine Z.widen (k' := 75) (n' := 8460) (by omega) (by omega) ?_
                                exact J536 _ K528
                            refine Z.if_eq (tgt := 517) C dL_refuses_502 (by decide) (by omega) (by omega) (fun c502 => ?_) (fun c502 => ?_)
                            · refine Z.widen (k' := 74) (n' := 8450) (by omega) (by omega) ?_
                              exact J517 _ K491
                            · refine Z.aload_n C dL_refuses_505 rfl ?_
                              refine Z.iload C dL_refuses_506 rfl ?_
                              refine Z.iconst C dL_refuses_508 ?_
                              refine h_L_84 C rfl dL_refuses_509 (x_fetch_2 htr K491 (by omega) (by decide) (et_2 (by omega) z3)) (by decide) (Nat.le_of_ble_eq_true rfl) (by rw [hR]; exact Nat.le_of_ble_eq_true rfl) (by rw [hR]; exact Nat.le_of_ble_eq_true rfl) (fun w509 h509 q509 => ?_)
                              obtain ⟨rfl, K509⟩ := q509
                              refine Z.ldcI (v := -2000000003) C zl_c18 dL_refuses_512 ?_
                              refine Z.icmp_ne (tgt := 540) C dL_refuses_514 (by decide) (by omega) (by omega) (by omega) (by omega) (fun z => absurd rfl z) (fun _ => ?_)
                              refine Z.widen (k' := 74) (n' := 8450) (by omega) (by omega) ?_
                              exact J517 _ K509
                        refine Z.if_eq (tgt := 453) C dL_refuses_444 (by decide) (by omega) (by omega) (fun c444 => ?_) (fun c444 => ?_)
                        · refine Z.iconst C dL_refuses_453 ?_
                          refine Z.iload_n C dL_refuses_454 rfl ?_
                          refine Z.iadd C dL_refuses_455 ?_
                          exact J456 _ (by omega)
                        · refine Z.iconst C dL_refuses_447 ?_
                          refine Z.iload_n C dL_refuses_448 rfl ?_
                          refine Z.isub C dL_refuses_449 ?_
                          refine Z.goto (tgt := 456) C dL_refuses_450 (by decide) ?_
                          exact J456 _ (by omega)
                      refine Z.if_eq (tgt := 428) C dL_refuses_419 (by decide) (by omega) (by omega) (fun c419 => ?_) (fun c419 => ?_)
                      · refine Z.bipush C dL_refuses_428 (by decide) ?_
                        refine Z.iload_n C dL_refuses_430 rfl ?_
                        refine Z.iadd C dL_refuses_431 ?_
                        exact J432 _ (by omega)
                      · refine Z.iconst C dL_refuses_422 ?_
                        refine Z.iload_n C dL_refuses_423 rfl ?_
                        refine Z.isub C dL_refuses_424 ?_
                        refine Z.goto (tgt := 432) C dL_refuses_425 (by decide) ?_
                        exact J432 _ (by omega)
                  refine Z.if_eq (tgt := 192) C dL_refuses_184 (by decide) (by omega) (by omega) (fun c184 => ?_) (fun c184 => ?_)
                  · refine Z.bipush C dL_refuses_192 (by decide) ?_
                    refine Z.iload_n C dL_refuses_194 rfl ?_
                    refine Z.iadd C dL_refuses_195 ?_
                    exact J196 _ (by omega)
                  · refine Z.iload_n C dL_refuses_187 rfl ?_
                    refine Z.ineg C dL_refuses_188 ?_
                    refine Z.goto (tgt := 196) C dL_refuses_189 (by decide) ?_
                    exact J196 _ (by omega)
                refine Z.if_eq (tgt := 146) C dL_refuses_138 (by decide) (by omega) (by omega) (fun c138 => ?_) (fun c138 => ?_)
                · refine Z.bipush C dL_refuses_146 (by decide) ?_
                  refine Z.iload_n C dL_refuses_148 rfl ?_
                  refine Z.iadd C dL_refuses_149 ?_
                  exact J150 _ (by omega)
                · refine Z.iload_n C dL_refuses_141 rfl ?_
                  refine Z.ineg C dL_refuses_142 ?_
                  refine Z.goto (tgt := 150) C dL_refuses_143 (by decide) ?_
                  exact J150 _ (by omega)
              refine Z.if_eq (tgt := 113) C dL_refuses_104 (by decide) (by omega) (by omega) (fun c104 => ?_) (fun c104 => ?_)
              · refine Z.bipush C dL_refuses_113 (by decide) ?_
                refine Z.iload_n C dL_refuses_115 rfl ?_
                refine Z.iadd C dL_refuses_116 ?_
                exact J117 _ (by omega)
              · refine Z.iconst C dL_refuses_107 ?_
                refine Z.iload_n C dL_refuses_108 rfl ?_
                refine Z.isub C dL_refuses_109 ?_
                refine Z.goto (tgt := 117) C dL_refuses_110 (by decide) ?_
                exact J117 _ (by omega)
            refine Z.if_eq (tgt := 88) C dL_refuses_80 (by decide) (by omega) (by omega) (fun c80 => ?_) (fun c80 => ?_)
            · refine Z.bipush C dL_refuses_88 (by decide) ?_
              refine Z.iload_n C dL_refuses_90 rfl ?_
              refine Z.iadd C dL_refuses_91 ?_
              exact J92 _ (by omega)
            · refine Z.iload_n C dL_refuses_83 rfl ?_
              refine Z.ineg C dL_refuses_84 ?_
              refine Z.goto (tgt := 92) C dL_refuses_85 (by decide) ?_
              exact J92 _ (by omega)
          refine Z.if_eq (tgt := 73) C dL_refuses_64 (by decide) (by omega) (by omega) (fun c64 => ?_) (fun c64 => ?_)
          · refine Z.iconst C dL_refuses_73 ?_
            refine Z.iload_n C dL_refuses_74 rfl ?_
            refine Z.iadd C dL_refuses_75 ?_
            exact J76 _ (by omega)
          · refine Z.iconst C dL_refuses_67 ?_
            refine Z.iload_n C dL_refuses_68 rfl ?_
            refine Z.isub C dL_refuses_69 ?_
            refine Z.goto (tgt := 76) C dL_refuses_70 (by decide) ?_
            exact J76 _ (by omega)
        refine Z.if_eq (tgt := 56) C dL_refuses_47 (by decide) (by omega) (by omega) (fun c47 => ?_) (fun c47 => ?_)
        · refine Z.aload_n C dL_refuses_56 rfl ?_
          refine Z.iconst C dL_refuses_57 ?_
          refine Z.nld2 C dL_refuses_58 (K.keep ho oC) ?_
          refine Z.iload_n C dL_refuses_59 rfl ?_
          refine Z.iadd C dL_refuses_60 ?_
          exact J61 _ (by omega)
        · refine Z.iconst C dL_refuses_50 ?_
          refine Z.iload_n C dL_refuses_51 rfl ?_
          refine Z.isub C dL_refuses_52 ?_
          refine Z.goto (tgt := 61) C dL_refuses_53 (by decide) ?_
          exact J61 _ (by omega)
      refine Z.if_eq (tgt := 39) C dL_refuses_30 (by decide) (by omega) (by omega) (fun c30 => ?_) (fun c30 => ?_)
      · refine Z.aload_n C dL_refuses_39 rfl ?_
        refine Z.iconst C dL_refuses_40 ?_
        refine Z.nld1 C dL_refuses_41 (K.keep ho oC) ?_
        refine Z.iload_n C dL_refuses_42 rfl ?_
        refine Z.iadd C dL_refuses_43 ?_
        exact J44 _ (by omega)
      · refine Z.iconst C dL_refuses_33 ?_
        refine Z.iload_n C dL_refuses_34 rfl ?_
        refine Z.isub C dL_refuses_35 ?_
        refine Z.goto (tgt := 44) C dL_refuses_36 (by decide) ?_
        exact J44 _ (by omega)
    refine Z.if_eq (tgt := 22) C dL_refuses_13 (by decide) (by omega) (by omega) (fun c13 => ?_) (fun c13 => ?_)
    · refine Z.aload_n C dL_refuses_22 rfl ?_
      refine Z.iconst C dL_refuses_23 ?_
      refine Z.nld0 C dL_refuses_24 (K.keep ho oC) ?_
      refine Z.iload_n C dL_refuses_25 rfl ?_
      refine Z.iadd C dL_refuses_26 ?_
      exact J27 _ (by omega)
    · refine Z.iconst C dL_refuses_16 ?_
      refine Z.iload_n C dL_refuses_17 rfl ?_
      refine Z.isub C dL_refuses_18 ?_
      refine Z.goto (tgt := 27) C dL_refuses_19 (by decide) ?_
      exact J27 _ (by omega)
  refine Z.if_ne (tgt := 10) C dL_refuses_3 (by decide) (by omega) (by omega) (fun c3 => ?_) (fun c3 => ?_)
  · refine Z.iconst C dL_refuses_10 ?_
    exact J11 _ (by omega)
  · refine Z.iconst C dL_refuses_6 ?_
    refine Z.goto (tgt := 11) C dL_refuses_7 (by decide) ?_
    exact J11 _ (by omega)
