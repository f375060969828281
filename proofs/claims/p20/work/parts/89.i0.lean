/-! the law's method isAlike -/
set_option maxHeartbeats 4000000 in
set_option maxRecDepth 100000 in
theorem c_L_isAlike {ln : Launch} (htr : ln.stackTraces = false) {G : zG} {b1 b2 o : Nat} {S : Nat → Nat → Int} {h : zH} {x : Int} (K : LD G b1 b2 o S S (nvf (S 2 0) (S 10 0) (S 15 0)) h) (hx : 0 ≤ x ∧ x < 2147483648) : CT ln G yL_isAlike cL_isAlike 8 (some .boolean) 12 [.ref b1, .ref b2, .ref o, vI x] h 125 23100 (fun r9 h9 => r9 = some (vI 1) ∧ LD G b1 b2 o S S (nvf (S 2 0) (S 10 0) (S 15 0)) h9) zNo := by
  have MBs : MB S := K.c1.1
  have hb2 : 0 ≤ S 2 0 ∧ S 2 0 ≤ 10 := MBs 2 0 (by decide)
  have hb10 : 0 ≤ S 10 0 ∧ S 10 0 ≤ 20 := MBs 10 0 (by decide)
  have hb15 : 0 ≤ S 15 0 ∧ S 15 0 ≤ 30 := MBs 15 0 (by decide)
  refine CT.intro htr (by decide) rfl (Nat.le_of_ble_eq_true rfl) ?_
  intro X hln hG hR hN C E
  subst hln
  subst hG
  have hRc : (zR_of X).cells = 125 := by rw [hR]; rfl
  have hRs : (zR_of X).slots = 23100 := by rw [hR]; rfl
  refine Z.aload_n C dL_isAlike_0 rfl ?_
  refine Z.iconst C dL_isAlike_1 ?_
  refine Z.nld0 C dL_isAlike_2 K.arr ?_
  have J15 : ∀ ow : Int, 0 ≤ ow ∧ ow < 2147483648 → Z X 15 [.ref b1, .ref b2, .ref o, vI (x)] [vI (ow)] h (0) (0) := by
    intro ow how
    refine Z.istore (l' := [_, _, _, _, _]) C dL_isAlike_15 (Nat.le_of_ble_eq_true rfl) (by rw [hN]; decide) rfl ?_
    refine Z.aload_n C dL_isAlike_17 rfl ?_
    refine Z.iconst C dL_isAlike_18 ?_
    refine Z.nld1 C dL_isAlike_19 K.arr ?_
    have J32 : ∀ fi : Int, 0 ≤ fi ∧ fi < 2147483648 → Z X 32 [.ref b1, .ref b2, .ref o, vI (x), vI (ow)] [vI (fi)] h (0) (0) := by
      intro fi hfi
      refine Z.istore (l' := [_, _, _, _, _, _]) C dL_isAlike_32 (Nat.le_of_ble_eq_true rfl) (by rw [hN]; decide) rfl ?_
      refine Z.aload_n C dL_isAlike_34 rfl ?_
      obtain ⟨hC35, hCo35, K35, back35⟩ := K.use1
      obtain ⟨fs35, hb35⟩ := K35.obj
      refine v_L_113 C rfl dL_isAlike_35 hb35 (K35.hour htr) (by decide) (Nat.le_of_ble_eq_true rfl) (by omega) (by omega) (fun w35 h35 q35 => ?_) (fun _ _ q => q.elim)
      obtain ⟨rfl, M35⟩ := q35
      replace M35 := back35 _ _ M35
      clear back35 K35 hCo35 hb35
      refine Z.aload_n C dL_isAlike_38 rfl ?_
      obtain ⟨hC39, hCo39, K39, back39⟩ := M35.use2
      obtain ⟨fs39, hb39⟩ := K39.obj
      refine v_L_113 C rfl dL_isAlike_39 hb39 (K39.hour htr) (by decide) (Nat.le_of_ble_eq_true rfl) (by omega) (by omega) (fun w39 h39 q39 => ?_) (fun _ _ q => q.elim)
      obtain ⟨rfl, M39⟩ := q39
      replace M39 := back39 _ _ M39
      clear back39 K39 hCo39 hb39
      refine Z.icmp_same (tgt := 127) C dL_isAlike_42 (by decide) ?_
      refine Z.aload_n C dL_isAlike_45 rfl ?_
      refine Z.iload C dL_isAlike_46 rfl ?_
      obtain ⟨hC48, hCo48, K48, back48⟩ := M39.use1
      refine h_L_104 C rfl dL_isAlike_48 (c_L_worth htr K48 (by omega)) (by decide) (Nat.le_of_ble_eq_true rfl) (by omega) (by omega) (fun w48 h48 q48 => ?_)
      rw [stn_same] at q48
      obtain ⟨rfl, M48⟩ := q48
      replace M48 := back48 _ _ M48
      clear back48 K48 hCo48
      refine Z.aload_n C dL_isAlike_51 rfl ?_
      refine Z.iload C dL_isAlike_52 rfl ?_
      obtain ⟨hC54, hCo54, K54, back54⟩ := M48.use2
      refine h_L_104 C rfl dL_isAlike_54 (c_L_worth htr K54 (by omega)) (by decide) (Nat.le_of_ble_eq_true rfl) (by omega) (by omega) (fun w54 h54 q54 => ?_)
      rw [stn_same] at q54
      obtain ⟨rfl, M54⟩ := q54
      replace M54 := back54 _ _ M54
      clear back54 K54 hCo54
      refine Z.icmp_same (tgt := 127) C dL_isAlike_57 (by decide) ?_
      refine Z.aload_n C dL_isAlike_60 rfl ?_
      refine Z.iload C dL_isAlike_61 rfl ?_
      refine Z.iload C dL_isAlike_63 rfl ?_
      obtain ⟨hC65, hCo65, K65, back65⟩ := M54.use1
      refine h_L_100 C rfl dL_isAlike_65 (c_L_has htr K65 (by omega) (by omega)) (by decide) (Nat.le_of_ble_eq_true rfl) (by omega) (by omega) (fun w65 h65 q65 => ?_)
      rw [stn_same] at q65
      obtain ⟨rfl, M65⟩ := q65
      replace M65 := back65 _ _ M65
      clear back65 K65 hCo65
      refine Z.aload_n C dL_isAlike_68 rfl ?_
      refine Z.iload C dL_isAlike_69 rfl ?_
      refine Z.iload C dL_isAlike_71 rfl ?_
      obtain ⟨hC73, hCo73, K73, back73⟩ := M65.use2
      refine h_L_100 C rfl dL_isAlike_73 (c_L_has htr K73 (by omega) (by omega)) (by decide) (Nat.le_of_ble_eq_true rfl) (by omega) (by omega) (fun w73 h73 q73 => ?_)
      rw [stn_same] at q73
      obtain ⟨rfl, M73⟩ := q73
      replace M73 := back73 _ _ M73
      clear back73 K73 hCo73
      refine Z.icmp_same (tgt := 127) C dL_isAlike_76 (by decide) ?_
      refine Z.aload_n C dL_isAlike_79 rfl ?_
      refine Z.iload C dL_isAlike_80 rfl ?_
      obtain ⟨hC82, hCo82, K82, back82⟩ := M73.use1
      refine h_L_106 C rfl dL_isAlike_82 (c_L_anew htr K82 (by omega)) (by decide) (Nat.le_of_ble_eq_true rfl) (by omega) (by omega) (fun w82 h82 q82 => ?_)
      rw [stn_same] at q82
      obtain ⟨rfl, M82⟩ := q82
      replace M82 := back82 _ _ M82
      clear back82 K82 hCo82
      refine Z.aload_n C dL_isAlike_85 rfl ?_
      refine Z.iload C dL_isAlike_86 rfl ?_
      obtain ⟨hC88, hCo88, K88, back88⟩ := M82.use2
      refine h_L_106 C rfl dL_isAlike_88 (c_L_anew htr K88 (by omega)) (by decide) (Nat.le_of_ble_eq_true rfl) (by omega) (by omega) (fun w88 h88 q88 => ?_)
      rw [stn_same] at q88
      obtain ⟨rfl, M88⟩ := q88
      replace M88 := back88 _ _ M88
      clear back88 K88 hCo88
      refine Z.icmp_same (tgt := 127) C dL_isAlike_91 (by decide) ?_
      refine Z.aload_n C dL_isAlike_94 rfl ?_
      refine Z.iload C dL_isAlike_95 rfl ?_
      refine Z.iload_n C dL_isAlike_97 rfl ?_
      refine Z.bipush C dL_isAlike_98 (by decide) ?_
      refine Z.idv C dL_isAlike_100 (by omega) (by omega) (by omega) (by omega) ?_
      refine Z.bipush C dL_isAlike_101 (by decide) ?_
      refine Z.irm C dL_isAlike_103 (by omega) (by omega) (by omega) (by omega) (fun a103 b103 => ?_)
      obtain ⟨hC104, hCo104, K104, back104⟩ := M88.use1
      refine h_L_102 C rfl dL_isAlike_104 (c_L_owes htr K104 (by omega) (by omega)) (by decide) (Nat.le_of_ble_eq_true rfl) (by omega) (by omega) (fun w104 h104 q104 => ?_)
      rw [stn_same] at q104
      obtain ⟨rfl, M104⟩ := q104
      replace M104 := back104 _ _ M104
      clear back104 K104 hCo104
      refine Z.aload_n C dL_isAlike_107 rfl ?_
      refine Z.iload C dL_isAlike_108 rfl ?_
      refine Z.iload_n C dL_isAlike_110 rfl ?_
      refine Z.bipush C dL_isAlike_111 (by decide) ?_
      refine Z.idv C dL_isAlike_113 (by omega) (by omega) (by omega) (by omega) ?_
      refine Z.bipush C dL_isAlike_114 (by decide) ?_
      refine Z.irm C dL_isAlike_116 (by omega) (by omega) (by omega) (by omega) (fun a116 b116 => ?_)
      obtain ⟨hC117, hCo117, K117, back117⟩ := M104.use2
      refine h_L_102 C rfl dL_isAlike_117 (c_L_owes htr K117 (by omega) (by omega)) (by decide) (Nat.le_of_ble_eq_true rfl) (by omega) (by omega) (fun w117 h117 q117 => ?_)
      rw [stn_same] at q117
      obtain ⟨rfl, M117⟩ := q117
      replace M117 := back117 _ _ M117
      clear back117 K117 hCo117
      refine Z.icmp_same (tgt := 127) C dL_isAlike_120 (by decide) ?_
      refine Z.iconst C dL_isAlike_123 ?_
      refine Z.goto (tgt := 128) C dL_isAlike_124 (by decide) ?_
      refine Z.istore (l' := [_, _, _, _, _, _, _]) C dL_isAlike_128 (Nat.le_of_ble_eq_true rfl) (by rw [hN]; decide) rfl ?_
      refine Z.iconst C dL_isAlike_130 ?_
      refine Z.istore (l' := [_, _, _, _, _, _, _, _]) C dL_isAlike_131 (Nat.le_of_ble_eq_true rfl) (by rw [hN]; decide) rfl ?_
      have L133 : ∀ (q kk : Nat) (hh : zH) (aa133 bb133 : Nat), kk + q = 5 → LD (zG_of X) b1 b2 o S S (nvf (S 2 0) (S 10 0) (S 15 0)) hh → aa133 + q * 22 ≤ 125 → bb133 + q * 4600 ≤ 23100 → Z X 133 [.ref b1, .ref b2, .ref o, vI (x), vI (ow), vI (fi), vI (1), vI ((kk : Int))] [] hh aa133 bb133 := by
        intro q
        induction q with
        | zero =>
          intro kk hh aa133 bb133 hv133 Kl133 ha133 hb133
          refine Z.iload C dL_isAlike_133 rfl ?_
          refine Z.iconst C dL_isAlike_135 ?_
          refine Z.icmp_ge (tgt := 239) C dL_isAlike_136 (by decide) (by omega) (by omega) (by omega) (by omega) (fun _ => ?_) (fun z => by exfalso; omega)
          have e133 : kk = 5 := by omega
          subst e133
          refine Z.widen (k' := 125) (n' := 23100) (by omega) (by omega) ?_
          refine Z.iload C dL_isAlike_239 rfl ?_
          exact Z.zret C E dL_isAlike_241 rfl (by decide) (Nat.le_of_ble_eq_true rfl) ⟨rfl, Kl133⟩
        | succ q ih133 =>
          intro kk hh aa133 bb133 hv133 Kl133 ha133 hb133
          refine Z.iload C dL_isAlike_133 rfl ?_
          refine Z.iconst C dL_isAlike_135 ?_
          refine Z.icmp_ge (tgt := 239) C dL_isAlike_136 (by decide) (by omega) (by omega) (by omega) (by omega) (fun z => by exfalso; omega) (fun _ => ?_)
          refine Z.iload C dL_isAlike_139 rfl ?_
          refine Z.if_eq (tgt := 239) C dL_isAlike_141 (by decide) (by omega) (by omega) (fun z => absurd z (by decide)) (fun _ => ?_)
          refine Z.aload_n C dL_isAlike_144 rfl ?_
          refine Z.iload C dL_isAlike_145 rfl ?_
          refine Z.iload C dL_isAlike_147 rfl ?_
          obtain ⟨hC149, hCo149, K149, back149⟩ := Kl133.use1
          refine h_L_98 C rfl dL_isAlike_149 (c_L_member htr K149 (by omega) (by omega)) (by decide) (Nat.le_of_ble_eq_true rfl) (by omega) (by omega) (fun w149 h149 q149 => ?_)
          rw [stn_same] at q149
          obtain ⟨rfl, M149⟩ := q149
          replace M149 := back149 _ _ M149
          clear back149 K149 hCo149
          refine Z.aload_n C dL_isAlike_152 rfl ?_
          refine Z.iload C dL_isAlike_153 rfl ?_
          refine Z.iload C dL_isAlike_155 rfl ?_
          obtain ⟨hC157, hCo157, K157, back157⟩ := M149.use2
          refine h_L_98 C rfl dL_isAlike_157 (c_L_member htr K157 (by omega) (by omega)) (by decide) (Nat.le_of_ble_eq_true rfl) (by omega) (by omega) (fun w157 h157 q157 => ?_)
          rw [stn_same] at q157
          obtain ⟨rfl, M157⟩ := q157
          replace M157 := back157 _ _ M157
          clear back157 K157 hCo157
          refine Z.icmp_same (tgt := 230) C dL_isAlike_160 (by decide) ?_
          refine Z.aload_n C dL_isAlike_163 rfl ?_
          refine Z.iload_n C dL_isAlike_164 rfl ?_
          refine Z.bipush C dL_isAlike_165 (by decide) ?_
          refine Z.irm C dL_isAlike_167 (by omega) (by omega) (by omega) (by omega) (fun a167 b167 => ?_)
          refine Z.iload C dL_isAlike_168 rfl ?_
          obtain ⟨hC170, hCo170, K170, back170⟩ := M157.use1
          refine h_L_96 C rfl dL_isAlike_170 (c_L_proposal htr K170 (by omega) (by omega)) (by decide) (Nat.le_of_ble_eq_true rfl) (by omega) (by omega) (fun w170 h170 q170 => ?_)
          rw [stn_same] at q170
          obtain ⟨rfl, M170⟩ := q170
          replace M170 := back170 _ _ M170
          clear back170 K170 hCo170
          refine Z.aload_n C dL_isAlike_173 rfl ?_
          refine Z.iload_n C dL_isAlike_174 rfl ?_
          refine Z.bipush C dL_isAlike_175 (by decide) ?_
          refine Z.irm C dL_isAlike_177 (by omega) (by omega) (by omega) (by omega) (fun a177 b177 => ?_)
          refine Z.iload C dL_isAlike_178 rfl ?_
          obtain ⟨hC180, hCo180, K180, back180⟩ := M170.use2
          refine h_L_96 C rfl dL_isAlike_180 (c_L_proposal htr K180 (by omega) (by omega)) (by decide) (Nat.le_of_ble_eq_true rfl) (by omega) (by omega) (fun w180 h180 q180 => ?_)
          rw [stn_same] at q180
          obtain ⟨rfl, M180⟩ := q180
          replace M180 := back180 _ _ M180
          clear back180 K180 hCo180
          refine Z.icmp_same (tgt := 230) C dL_isAlike_183 (by decide) ?_
          refine Z.aload_n C dL_isAlike_186 rfl ?_
          refine Z.iload C dL_isAlike_187 rfl ?_
          obtain ⟨hC189, hCo189, K189, back189⟩ := M180.use1
          refine h_L_94 C rfl dL_isAlike_189 (c_L_rule htr K189 (by omega)) (by decide) (Nat.le_of_ble_eq_true rfl) (by omega) (by omega) (fun w189 h189 q189 => ?_)
          rw [stn_same] at q189
          obtain ⟨rfl, M189⟩ := q189
          replace M189 := back189 _ _ M189
          clear back189 K189 hCo189
          refine Z.aload_n C dL_isAlike_192 rfl ?_
          refine Z.iload C dL_isAlike_193 rfl ?_
          obtain ⟨hC195, hCo195, K195, back195⟩ := M189.use2
          refine h_L_94 C rfl dL_isAlike_195 (c_L_rule htr K195 (by omega)) (by decide) (Nat.le_of_ble_eq_true rfl) (by omega) (by omega) (fun w195 h195 q195 => ?_)
          rw [stn_same] at q195
          obtain ⟨rfl, M195⟩ := q195
          replace M195 := back195 _ _ M195
          clear back195 K195 hCo195
          refine Z.icmp_same (tgt := 230) C dL_isAlike_198 (by decide) ?_
          refine Z.aload_n C dL_isAlike_201 rfl ?_
          refine Z.iload_n C dL_isAlike_202 rfl ?_
          refine Z.bipush C dL_isAlike_203 (by decide) ?_
          refine Z.irm C dL_isAlike_205 (by omega) (by omega) (by omega) (by omega) (fun a205 b205 => ?_)
          refine Z.iload C dL_isAlike_206 rfl ?_
          refine Z.iadd C dL_isAlike_208 ?_
          obtain ⟨hC209, hCo209, K209, back209⟩ := M195.use1
          refine h_L_111 C rfl dL_isAlike_209 (c_L_told htr K209 (by omega)) (by decide) (Nat.le_of_ble_eq_true rfl) (by omega) (by omega) (fun w209 h209 q209 => ?_)
          rw [stn_same] at q209
          obtain ⟨rfl, M209⟩ := q209
          replace M209 := back209 _ _ M209
          clear back209 K209 hCo209
          refine Z.aload_n C dL_isAlike_212 rfl ?_
          refine Z.iload_n C dL_isAlike_213 rfl ?_
          refine Z.bipush C dL_isAlike_214 (by decide) ?_
          refine Z.irm C dL_isAlike_216 (by omega) (by omega) (by omega) (by omega) (fun a216 b216 => ?_)
          refine Z.iload C dL_isAlike_217 rfl ?_
          refine Z.iadd C dL_isAlike_219 ?_
          obtain ⟨hC220, hCo220, K220, back220⟩ := M209.use2
          refine h_L_111 C rfl dL_isAlike_220 (c_L_told htr K220 (by omega)) (by decide) (Nat.le_of_ble_eq_true rfl) (by omega) (by omega) (fun w220 h220 q220 => ?_)
          rw [stn_same] at q220
          obtain ⟨rfl, M220⟩ := q220
          replace M220 := back220 _ _ M220
          clear back220 K220 hCo220
          refine Z.icmp_same (tgt := 230) C dL_isAlike_223 (by decide) ?_
          refine Z.iconst C dL_isAlike_226 ?_
          refine Z.goto (tgt := 231) C dL_isAlike_227 (by decide) ?_
          refine Z.istore (l' := [_, _, _, _, _, _, _, _]) C dL_isAlike_231 (Nat.le_of_ble_eq_true rfl) (by rw [hN]; decide) rfl ?_
          refine Z.iinc (l' := [_, _, _, _, _, _, _, _]) C dL_isAlike_233 rfl (Nat.le_of_ble_eq_true rfl) (by rw [hN]; decide) rfl ?_
          refine Z.goto (tgt := 133) C dL_isAlike_236 (by decide) ?_
          rw [show ((kk : Int) + 1) = ((kk + 1 : Nat) : Int) from rfl]
          exact ih133 (kk + 1) _ _ _ (by omega) M220 (by omega) (by omega)
      exact L133 (5) 0 _ _ _ (by omega) M117 (by omega) (by omega)
    refine Z.if_ne (tgt := 27) C dL_isAlike_20 (by decide) (by omega) (by omega) (fun c20 => ?_) (fun c20 => ?_)
    · refine Z.iload_n C dL_isAlike_27 rfl ?_
      refine Z.aload_n C dL_isAlike_28 rfl ?_
      refine Z.iconst C dL_isAlike_29 ?_
      refine Z.nld1 C dL_isAlike_30 K.arr ?_
      refine Z.irm C dL_isAlike_31 (by omega) (by omega) (by omega) (by omega) (fun a31 b31 => ?_)
      exact J32 _ (by omega)
    · refine Z.iconst C dL_isAlike_23 ?_
      refine Z.goto (tgt := 32) C dL_isAlike_24 (by decide) ?_
      exact J32 _ (by omega)
  refine Z.if_ne (tgt := 10) C dL_isAlike_3 (by decide) (by omega) (by omega) (fun c3 => ?_) (fun c3 => ?_)
  · refine Z.iload_n C dL_isAlike_10 rfl ?_
    refine Z.aload_n C dL_isAlike_11 rfl ?_
    refine Z.iconst C dL_isAlike_12 ?_
    refine Z.nld0 C dL_isAlike_13 K.arr ?_
    refine Z.irm C dL_isAlike_14 (by omega) (by omega) (by omega) (by omega) (fun a14 b14 => ?_)
    exact J15 _ (by omega)
  · refine Z.iconst C dL_isAlike_6 ?_
    refine Z.goto (tgt := 15) C dL_isAlike_7 (by decide) ?_
    exact J15 _ (by omega)
