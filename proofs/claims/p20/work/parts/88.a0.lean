/-! the law's method act: what it answers, and what becomes of the tables -/
def aO (S : Nat → Nat → Int) (x : Int) : Int := if S 2 0 = 0 then 0 else x / 20 % S 2 0
def aP (S : Nat → Nat → Int) (x : Int) : Int := if S 15 0 = 0 then 0 else S 15 0 - 1 - x / 20 / 10 % (if S 15 0 ≤ 3 then S 15 0 else 3)
def aF (S : Nat → Nat → Int) (x : Int) : Int := if S 10 0 = 0 then 0 else x / 20 / 10 % S 10 0
def aB (x : Int) : Int := if x / 20 / 30 % 3 ≤ 0 then 0 else 1
theorem aO_b {S : Nat → Nat → Int} (M : MB S) {x : Int} (hx : 0 ≤ x) : 0 ≤ aO S x ∧ aO S x ≤ 10 := by
  have h : 0 ≤ S 2 0 ∧ S 2 0 ≤ 10 := M 2 0 (by decide)
  unfold aO
  split
  · decide
  · have h1 := Int.emod_nonneg (x / 20) (show S 2 0 ≠ 0 by omega)
    have h2 := Int.emod_lt_of_pos (x / 20) (show 0 < S 2 0 by omega)
    omega
theorem aP_b {S : Nat → Nat → Int} (M : MB S) {x : Int} (hx : 0 ≤ x) : 0 ≤ aP S x ∧ aP S x ≤ 30 := by
  have h : 0 ≤ S 15 0 ∧ S 15 0 ≤ 30 := M 15 0 (by decide)
  unfold aP
  split
  · decide
  · split
    · have h1 := Int.emod_nonneg (x / 20 / 10) (show S 15 0 ≠ 0 by omega)
      have h2 := Int.emod_lt_of_pos (x / 20 / 10) (show 0 < S 15 0 by omega)
      omega
    · omega
theorem aF_b {S : Nat → Nat → Int} (M : MB S) {x : Int} (hx : 0 ≤ x) : 0 ≤ aF S x ∧ aF S x ≤ 20 := by
  have h : 0 ≤ S 10 0 ∧ S 10 0 ≤ 20 := M 10 0 (by decide)
  unfold aF
  split
  · decide
  · have h1 := Int.emod_nonneg (x / 20 / 10) (show S 10 0 ≠ 0 by omega)
    have h2 := Int.emod_lt_of_pos (x / 20 / 10) (show 0 < S 10 0 by omega)
    omega
theorem aB_b (x : Int) : aB x = 0 ∨ aB x = 1 := by
  unfold aB
  split
  · exact Or.inl rfl
  · exact Or.inr rfl
def aV (S : Nat → Nat → Int) (x : Int) : Int :=
  if x % 20 = 0 then an (cJoin S (1 + x / 20 % 20) (x / 20 / 20 % 51)) (S 2 0) (-2000000002) (-2000000003) 0
  else if x % 20 = 1 then an (cFilm S (1 + x / 20 % 20)) (S 10 0) (-2000000002) (-2000000003) 0
  else if x % 20 = 2 then (if x / 20 % 4 = 0 then an (cLeave S (aO S x)) (sLeave S (aO S x).toNat 7 (aO S x).toNat) (-2000000001) (-2000000003) 0 else S 1 0)
  else if x % 20 = 3 ∨ x % 20 = 4 then an (cPass S (1 + x / 20 % 8)) (S 1 0 + (1 + x / 20 % 8)) (-2000000002) (-2000000003) 0
  else if x % 20 = 5 ∨ x % 20 = 6 then an (cProp S (aO S x) (x / 20 / 10 % 3) (x / 20 / 30 % 10)) (S 15 0) (-2000000001) (-2000000002) (-2000000003)
  else if x % 20 ≤ 10 then an (cVote S (aO S x) (aP S x)) (sVote S (aO S x) (aP S x) (aB x) 16 (aP S x).toNat) (-2000000001) (-2000000003) 0
  else an (cFetch S (aO S x) (aF S x)) (fPays S (aO S x).toNat (aF S x).toNat) (-2000000001) (-2000000003) 0
def aS (S : Nat → Nat → Int) (x : Int) : Nat → Nat → Int :=
  if x % 20 = 0 then stn (cJoin S (1 + x / 20 % 20) (x / 20 / 20 % 51)) (sJoin S (1 + x / 20 % 20) (x / 20 / 20 % 51)) S
  else if x % 20 = 1 then stn (cFilm S (1 + x / 20 % 20)) (sFilm S (1 + x / 20 % 20)) S
  else if x % 20 = 2 then (if x / 20 % 4 = 0 then stn (cLeave S (aO S x)) (sLeave S (aO S x).toNat) S else S)
  else if x % 20 = 3 ∨ x % 20 = 4 then stn (cPass S (1 + x / 20 % 8)) (sPass S (1 + x / 20 % 8)) S
  else if x % 20 = 5 ∨ x % 20 = 6 then stn (cProp S (aO S x) (x / 20 / 10 % 3) (x / 20 / 30 % 10)) (sProp S (x / 20 / 10 % 3) (x / 20 / 30 % 10)) S
  else if x % 20 ≤ 10 then stn (cVote S (aO S x) (aP S x)) (sVote S (aO S x) (aP S x) (aB x)) S
  else stn (cFetch S (aO S x) (aF S x)) (sFetch S (aO S x).toNat (aF S x).toNat) S
theorem aV_0 (S : Nat → Nat → Int) {x : Int} (h : x % 20 = 0) : aV S x = an (cJoin S (1 + x / 20 % 20) (x / 20 / 20 % 51)) (S 2 0) (-2000000002) (-2000000003) 0 := by
  unfold aV
  rw [if_pos (by omega)]
theorem aS_0 (S : Nat → Nat → Int) {x : Int} (h : x % 20 = 0) : aS S x = stn (cJoin S (1 + x / 20 % 20) (x / 20 / 20 % 51)) (sJoin S (1 + x / 20 % 20) (x / 20 / 20 % 51)) S := by
  unfold aS
  rw [if_pos (by omega)]
theorem aV_1 (S : Nat → Nat → Int) {x : Int} (h : x % 20 = 1) : aV S x = an (cFilm S (1 + x / 20 % 20)) (S 10 0) (-2000000002) (-2000000003) 0 := by
  unfold aV
  rw [if_neg (by omega), if_pos (by omega)]
theorem aS_1 (S : Nat → Nat → Int) {x : Int} (h : x % 20 = 1) : aS S x = stn (cFilm S (1 + x / 20 % 20)) (sFilm S (1 + x / 20 % 20)) S := by
  unfold aS
  rw [if_neg (by omega), if_pos (by omega)]
theorem aV_2 (S : Nat → Nat → Int) {x : Int} (h : x % 20 = 2) : aV S x = (if x / 20 % 4 = 0 then an (cLeave S (aO S x)) (sLeave S (aO S x).toNat 7 (aO S x).toNat) (-2000000001) (-2000000003) 0 else S 1 0) := by
  unfold aV
  rw [if_neg (by omega), if_neg (by omega), if_pos (by omega)]
theorem aS_2 (S : Nat → Nat → Int) {x : Int} (h : x % 20 = 2) : aS S x = (if x / 20 % 4 = 0 then stn (cLeave S (aO S x)) (sLeave S (aO S x).toNat) S else S) := by
  unfold aS
  rw [if_neg (by omega), if_neg (by omega), if_pos (by omega)]
theorem aV_3 (S : Nat → Nat → Int) {x : Int} (h : x % 20 = 3 ∨ x % 20 = 4) : aV S x = an (cPass S (1 + x / 20 % 8)) (S 1 0 + (1 + x / 20 % 8)) (-2000000002) (-2000000003) 0 := by
  unfold aV
  rw [if_neg (by omega), if_neg (by omega), if_neg (by omega), if_pos (by omega)]
theorem aS_3 (S : Nat → Nat → Int) {x : Int} (h : x % 20 = 3 ∨ x % 20 = 4) : aS S x = stn (cPass S (1 + x / 20 % 8)) (sPass S (1 + x / 20 % 8)) S := by
  unfold aS
  rw [if_neg (by omega), if_neg (by omega), if_neg (by omega), if_pos (by omega)]
theorem aV_4 (S : Nat → Nat → Int) {x : Int} (h : x % 20 = 5 ∨ x % 20 = 6) : aV S x = an (cProp S (aO S x) (x / 20 / 10 % 3) (x / 20 / 30 % 10)) (S 15 0) (-2000000001) (-2000000002) (-2000000003) := by
  unfold aV
  rw [if_neg (by omega), if_neg (by omega), if_neg (by omega), if_neg (by omega), if_pos (by omega)]
theorem aS_4 (S : Nat → Nat → Int) {x : Int} (h : x % 20 = 5 ∨ x % 20 = 6) : aS S x = stn (cProp S (aO S x) (x / 20 / 10 % 3) (x / 20 / 30 % 10)) (sProp S (x / 20 / 10 % 3) (x / 20 / 30 % 10)) S := by
  unfold aS
  rw [if_neg (by omega), if_neg (by omega), if_neg (by omega), if_neg (by omega), if_pos (by omega)]
theorem aV_5 (S : Nat → Nat → Int) {x : Int} (h : 7 ≤ x % 20 ∧ x % 20 ≤ 10) : aV S x = an (cVote S (aO S x) (aP S x)) (sVote S (aO S x) (aP S x) (aB x) 16 (aP S x).toNat) (-2000000001) (-2000000003) 0 := by
  unfold aV
  rw [if_neg (by omega), if_neg (by omega), if_neg (by omega), if_neg (by omega), if_neg (by omega), if_pos (by omega)]
theorem aS_5 (S : Nat → Nat → Int) {x : Int} (h : 7 ≤ x % 20 ∧ x % 20 ≤ 10) : aS S x = stn (cVote S (aO S x) (aP S x)) (sVote S (aO S x) (aP S x) (aB x)) S := by
  unfold aS
  rw [if_neg (by omega), if_neg (by omega), if_neg (by omega), if_neg (by omega), if_neg (by omega), if_pos (by omega)]
theorem aV_6 (S : Nat → Nat → Int) {x : Int} (h : 11 ≤ x % 20) : aV S x = an (cFetch S (aO S x) (aF S x)) (fPays S (aO S x).toNat (aF S x).toNat) (-2000000001) (-2000000003) 0 := by
  unfold aV
  rw [if_neg (by omega), if_neg (by omega), if_neg (by omega), if_neg (by omega), if_neg (by omega), if_neg (by omega)]
theorem aS_6 (S : Nat → Nat → Int) {x : Int} (h : 11 ≤ x % 20) : aS S x = stn (cFetch S (aO S x) (aF S x)) (sFetch S (aO S x).toNat (aF S x).toNat) S := by
  unfold aS
  rw [if_neg (by omega), if_neg (by omega), if_neg (by omega), if_neg (by omega), if_neg (by omega), if_neg (by omega)]
set_option maxHeartbeats 4000000 in
set_option maxRecDepth 100000 in
theorem c_L_act {ln : Launch} (htr : ln.stackTraces = false) {G : zG} {b o : Nat} {S : Nat → Nat → Int} {hC0 h0 h : zH} {x : Int} (K : SC G b S hC0 h0 h) (ho : h0 o = some (eI (G.2.1 0) 3 (nvf (S 2 0) (S 10 0) (S 15 0)))) (oC : hC0 o = none) (hx : 0 ≤ x ∧ x < 2147483648) : CT ln G yL_act cL_act 5 (some .int) 12 [.ref b, .ref o, vI x] h 6 521 (fun r9 h9 => r9 = some (vI (aV S x)) ∧ SC G b (aS S x) hC0 h0 h9) zNo := by
  have MBs : MB S := K.c.1
  have hb2 : 0 ≤ S 2 0 ∧ S 2 0 ≤ 10 := MBs 2 0 (by decide)
  have hb10 : 0 ≤ S 10 0 ∧ S 10 0 ≤ 20 := MBs 10 0 (by decide)
  have hb15 : 0 ≤ S 15 0 ∧ S 15 0 ≤ 30 := MBs 15 0 (by decide)
  have haO := aO_b MBs hx.1
  have haP := aP_b MBs hx.1
  have haF := aF_b MBs hx.1
  refine CT.intro htr (by decide) rfl (Nat.le_of_ble_eq_true rfl) ?_
  intro X hln hG hR hN C E
  subst hln
  subst hG
  refine Z.iload_n C dL_act_0 rfl ?_
  refine Z.bipush C dL_act_1 (by decide) ?_
  refine Z.idv C dL_act_3 (by omega) (by omega) (by omega) (by omega) ?_
  refine Z.istore_n (l' := [_, _, _, _]) C dL_act_4 (Nat.le_of_ble_eq_true rfl) (by rw [hN]; decide) rfl ?_
  refine Z.aload_n C dL_act_5 rfl ?_
  refine Z.iconst C dL_act_6 ?_
  refine Z.nld0 C dL_act_7 (K.keep ho oC) ?_
  have J20 : ∀ ow : Int, ow = aO S x → Z X 20 [.ref b, .ref o, vI (x), vI (x / 20)] [vI (ow)] h (0) (0) := by
    intro ow how
    subst how
    refine Z.istore (l' := [_, _, _, _, _]) C dL_act_20 (Nat.le_of_ble_eq_true rfl) (by rw [hN]; decide) rfl ?_
    refine Z.iload_n C dL_act_22 rfl ?_
    refine Z.bipush C dL_act_23 (by decide) ?_
    refine Z.irm C dL_act_25 (by omega) (by omega) (by omega) (by omega) (fun a25 b25 => ?_)
    have hk : x % 20 = 0 ∨ x % 20 = 1 ∨ x % 20 = 2 ∨ x % 20 = 3 ∨ x % 20 = 4 ∨ x % 20 = 5 ∨ x % 20 = 6 ∨ x % 20 = 7 ∨ x % 20 = 8 ∨ x % 20 = 9 ∨ x % 20 = 10 ∨ 11 ≤ x % 20 := by omega
    rcases hk with ck | ck | ck | ck | ck | ck | ck | ck | ck | ck | ck | ck
    · rw [ck]
      refine Z.tblIn (off := 58) (tgt := 84) C dL_act_26 (by decide) (by decide) (by decide) (by decide) rfl (by decide) ?_
      refine Z.aload_n C dL_act_84 rfl ?_
      refine Z.iconst C dL_act_85 ?_
      refine Z.iload_n C dL_act_86 rfl ?_
      refine Z.bipush C dL_act_87 (by decide) ?_
      refine Z.irm C dL_act_89 (by omega) (by omega) (by omega) (by omega) (fun a89 b89 => ?_)
      refine Z.iadd C dL_act_90 ?_
      refine Z.iload_n C dL_act_91 rfl ?_
      refine Z.bipush C dL_act_92 (by decide) ?_
      refine Z.idv C dL_act_94 (by omega) (by omega) (by omega) (by omega) ?_
      refine Z.bipush C dL_act_95 (by decide) ?_
      refine Z.irm C dL_act_97 (by omega) (by omega) (by omega) (by omega) (fun a97 b97 => ?_)
      refine h_L_74 C rfl dL_act_98 (c_L_join htr K (by omega) (by omega)) (by decide) (Nat.le_of_ble_eq_true rfl) (by rw [hR]; exact Nat.le_of_ble_eq_true rfl) (by rw [hR]; exact Nat.le_of_ble_eq_true rfl) (fun w98 h98 q98 => ?_)
      obtain ⟨rfl, K98⟩ := q98
      exact Z.iret C E dL_act_101 (by decide) (Nat.le_of_ble_eq_true rfl) ⟨by rw [aV_0 S ck], by rw [aS_0 S ck]; exact K98⟩
    · rw [ck]
      refine Z.tblIn (off := 76) (tgt := 102) C dL_act_26 (by decide) (by decide) (by decide) (by decide) rfl (by decide) ?_
      refine Z.aload_n C dL_act_102 rfl ?_
      refine Z.iconst C dL_act_103 ?_
      refine Z.iload_n C dL_act_104 rfl ?_
      refine Z.bipush C dL_act_105 (by decide) ?_
      refine Z.irm C dL_act_107 (by omega) (by omega) (by omega) (by omega) (fun a107 b107 => ?_)
      refine Z.iadd C dL_act_108 ?_
      refine h_L_82 C rfl dL_act_109 (c_L_film htr K (by omega)) (by decide) (Nat.le_of_ble_eq_true rfl) (by rw [hR]; exact Nat.le_of_ble_eq_true rfl) (by rw [hR]; exact Nat.le_of_ble_eq_true rfl) (fun w109 h109 q109 => ?_)
      obtain ⟨rfl, K109⟩ := q109
      exact Z.iret C E dL_act_112 (by decide) (Nat.le_of_ble_eq_true rfl) ⟨by rw [aV_1 S ck], by rw [aS_1 S ck]; exact K109⟩
    · rw [ck]
      refine Z.tblIn (off := 87) (tgt := 113) C dL_act_26 (by decide) (by decide) (by decide) (by decide) rfl (by decide) ?_
      refine Z.iload_n C dL_act_113 rfl ?_
      refine Z.iconst C dL_act_114 ?_
      refine Z.irm C dL_act_115 (by omega) (by omega) (by omega) (by omega) (fun a115 b115 => ?_)
      refine Z.if_ne (tgt := 128) C dL_act_116 (by decide) (by omega) (by omega) (fun c116 => ?_) (fun c116 => ?_)
      · refine Z.aload_n C dL_act_128 rfl ?_
        obtain ⟨fs129, hb129⟩ := K.obj
        refine v_L_113 C rfl dL_act_129 hb129 (K.hour htr) (by decide) (Nat.le_of_ble_eq_true rfl) (by rw [hR]; exact Nat.le_of_ble_eq_true rfl) (by rw [hR]; exact Nat.le_of_ble_eq_true rfl) (fun w129 h129 q129 => ?_) (fun _ _ q => q.elim)
        obtain ⟨rfl, K129⟩ := q129
        exact Z.iret C E dL_act_132 (by decide) (Nat.le_of_ble_eq_true rfl) ⟨by rw [aV_2 S ck, if_neg c116], by rw [aS_2 S ck, if_neg c116]; exact K129⟩
      · refine Z.aload_n C dL_act_119 rfl ?_
        refine Z.iload C dL_act_120 rfl ?_
        refine h_L_79 C rfl dL_act_122 (c_L_leave htr K (by omega)) (by decide) (Nat.le_of_ble_eq_true rfl) (by rw [hR]; exact Nat.le_of_ble_eq_true rfl) (by rw [hR]; exact Nat.le_of_ble_eq_true rfl) (fun w122 h122 q122 => ?_)
        obtain ⟨rfl, K122⟩ := q122
        refine Z.goto (tgt := 132) C dL_act_125 (by decide) ?_
        exact Z.iret C E dL_act_132 (by decide) (Nat.le_of_ble_eq_true rfl) ⟨by rw [aV_2 S ck, if_pos c116], by rw [aS_2 S ck, if_pos c116]; exact K122⟩
    · rw [ck]
      refine Z.tblIn (off := 107) (tgt := 133) C dL_act_26 (by decide) (by decide) (by decide) (by decide) rfl (by decide) ?_
      refine Z.aload_n C dL_act_133 rfl ?_
      refine Z.iconst C dL_act_134 ?_
      refine Z.iload_n C dL_act_135 rfl ?_
      refine Z.bipush C dL_act_136 (by decide) ?_
      refine Z.irm C dL_act_138 (by omega) (by omega) (by omega) (by omega) (fun a138 b138 => ?_)
      refine Z.iadd C dL_act_139 ?_
      refine h_L_86 C rfl dL_act_140 (c_L_pass htr K (by omega)) (by decide) (Nat.le_of_ble_eq_true rfl) (by rw [hR]; exact Nat.le_of_ble_eq_true rfl) (by rw [hR]; exact Nat.le_of_ble_eq_true rfl) (fun w140 h140 q140 => ?_)
      obtain ⟨rfl, K140⟩ := q140
      exact Z.iret C E dL_act_143 (by decide) (Nat.le_of_ble_eq_true rfl) ⟨by rw [aV_3 S (Or.inl ck)], by rw [aS_3 S (Or.inl ck)]; exact K140⟩
    · rw [ck]
      refine Z.tblIn (off := 107) (tgt := 133) C dL_act_26 (by decide) (by decide) (by decide) (by decide) rfl (by decide) ?_
      refine Z.aload_n C dL_act_133 rfl ?_
      refine Z.iconst C dL_act_134 ?_
      refine Z.iload_n C dL_act_135 rfl ?_
      refine Z.bipush C dL_act_136 (by decide) ?_
      refine Z.irm C dL_act_138 (by omega) (by omega) (by omega) (by omega) (fun a138 b138 => ?_)
      refine Z.iadd C dL_act_139 ?_
      refine h_L_86 C rfl dL_act_140 (c_L_pass htr K (by omega)) (by decide) (Nat.le_of_ble_eq_true rfl) (by rw [hR]; exact Nat.le_of_ble_eq_true rfl) (by rw [hR]; exact Nat.le_of_ble_eq_true rfl) (fun w140 h140 q140 => ?_)
      obtain ⟨rfl, K140⟩ := q140
      exact Z.iret C E dL_act_143 (by decide) (Nat.le_of_ble_eq_true rfl) ⟨by rw [aV_3 S (Or.inr ck)], by rw [aS_3 S (Or.inr ck)]; exact K140⟩
    · rw [ck]
      refine Z.tblIn (off := 118) (tgt := 144) C dL_act_26 (by decide) (by decide) (by decide) (by decide) rfl (by decide) ?_
      refine Z.aload_n C dL_act_144 rfl ?_
      refine Z.iload C dL_act_145 rfl ?_
      refine Z.iload_n C dL_act_147 rfl ?_
      refine Z.bipush C dL_act_148 (by decide) ?_
      refine Z.idv C dL_act_150 (by omega) (by omega) (by omega) (by omega) ?_
      refine Z.iconst C dL_act_151 ?_
      refine Z.irm C dL_act_152 (by omega) (by omega) (by omega) (by omega) (fun a152 b152 => ?_)
      refine Z.iload_n C dL_act_153 rfl ?_
      refine Z.bipush C dL_act_154 (by decide) ?_
      refine Z.idv C dL_act_156 (by omega) (by omega) (by omega) (by omega) ?_
      refine Z.bipush C dL_act_157 (by decide) ?_
      refine Z.irm C dL_act_159 (by omega) (by omega) (by omega) (by omega) (fun a159 b159 => ?_)
      refine h_L_88 C rfl dL_act_160 (c_L_propose htr K (by omega) (by omega) (by omega)) (by decide) (Nat.le_of_ble_eq_true rfl) (by rw [hR]; exact Nat.le_of_ble_eq_true rfl) (by rw [hR]; exact Nat.le_of_ble_eq_true rfl) (fun w160 h160 q160 => ?_)
      obtain ⟨rfl, K160⟩ := q160
      exact Z.iret C E dL_act_163 (by decide) (Nat.le_of_ble_eq_true rfl) ⟨by rw [aV_4 S (Or.inl ck)], by rw [aS_4 S (Or.inl ck)]; exact K160⟩
    · rw [ck]
      refine Z.tblIn (off := 118) (tgt := 144) C dL_act_26 (by decide) (by decide) (by decide) (by decide) rfl (by decide) ?_
      refine Z.aload_n C dL_act_144 rfl ?_
      refine Z.iload C dL_act_145 rfl ?_
      refine Z.iload_n C dL_act_147 rfl ?_
      refine Z.bipush C dL_act_148 (by decide) ?_
      refine Z.idv C dL_act_150 (by omega) (by omega) (by omega) (by omega) ?_
      refine Z.iconst C dL_act_151 ?_
      refine Z.irm C dL_act_152 (by omega) (by omega) (by omega) (by omega) (fun a152 b152 => ?_)
      refine Z.iload_n C dL_act_153 rfl ?_
      refine Z.bipush C dL_act_154 (by decide) ?_
      refine Z.idv C dL_act_156 (by omega) (by omega) (by omega) (by omega) ?_
      refine Z.bipush C dL_act_157 (by decide) ?_
      refine Z.irm C dL_act_159 (by omega) (by omega) (by omega) (by omega) (fun a159 b159 => ?_)
      refine h_L_88 C rfl dL_act_160 (c_L_propose htr K (by omega) (by omega) (by omega)) (by decide) (Nat.le_of_ble_eq_true rfl) (by rw [hR]; exact Nat.le_of_ble_eq_true rfl) (by rw [hR]; exact Nat.le_of_ble_eq_true rfl) (fun w160 h160 q160 => ?_)
      obtain ⟨rfl, K160⟩ := q160
      exact Z.iret C E dL_act_163 (by decide) (Nat.le_of_ble_eq_true rfl) ⟨by rw [aV_4 S (Or.inr ck)], by rw [aS_4 S (Or.inr ck)]; exact K160⟩
    · rw [ck]
      refine Z.tblIn (off := 138) (tgt := 164) C dL_act_26 (by decide) (by decide) (by decide) (by decide) rfl (by decide) ?_
      refine Z.aload_n C dL_act_164 rfl ?_
      refine Z.iload C dL_act_165 rfl ?_
      refine Z.aload_n C dL_act_167 rfl ?_
      refine Z.iconst C dL_act_168 ?_
      refine Z.nld2 C dL_act_169 (K.keep ho oC) ?_
      have J202 : ∀ pr : Int, pr = aP S x → Z X 202 [.ref b, .ref o, vI (x), vI (x / 20), vI (aO S x)] [vI (pr), vI (aO S x), .ref b] h (0) (0) := by
        intro pr hpr
        subst hpr
        refine Z.iload_n C dL_act_202 rfl ?_
        refine Z.bipush C dL_act_203 (by decide) ?_
        refine Z.idv C dL_act_205 (by omega) (by omega) (by omega) (by omega) ?_
        refine Z.iconst C dL_act_206 ?_
        refine Z.irm C dL_act_207 (by omega) (by omega) (by omega) (by omega) (fun a207 b207 => ?_)
        have J216 : ∀ bo : Int, bo = aB x → Z X 216 [.ref b, .ref o, vI (x), vI (x / 20), vI (aO S x)] [vI (bo), vI (aP S x), vI (aO S x), .ref b] h (0) (0) := by
          intro bo hbo
          subst hbo
          refine h_L_91 C rfl dL_act_216 (c_L_vote htr K (by omega) (by omega) (aB_b x)) (by decide) (Nat.le_of_ble_eq_true rfl) (by rw [hR]; exact Nat.le_of_ble_eq_true rfl) (by rw [hR]; exact Nat.le_of_ble_eq_true rfl) (fun w216 h216 q216 => ?_)
          obtain ⟨rfl, K216⟩ := q216
          exact Z.iret C E dL_act_219 (by decide) (Nat.le_of_ble_eq_true rfl) ⟨by rw [aV_5 S (by omega)], by rw [aS_5 S (by omega)]; exact K216⟩
        refine Z.if_le (tgt := 215) C dL_act_208 (by decide) (by omega) (by omega) (fun c208 => ?_) (fun c208 => ?_)
        · refine Z.iconst C dL_act_215 ?_
          exact J216 _ (by unfold aB; rw [if_pos c208])
        · refine Z.iconst C dL_act_211 ?_
          refine Z.goto (tgt := 216) C dL_act_212 (by decide) ?_
          exact J216 _ (by unfold aB; rw [if_neg c208])
      refine Z.if_ne (tgt := 177) C dL_act_170 (by decide) (by omega) (by omega) (fun c170 => ?_) (fun c170 => ?_)
      · refine Z.aload_n C dL_act_177 rfl ?_
        refine Z.iconst C dL_act_178 ?_
        refine Z.nld2 C dL_act_179 (K.keep ho oC) ?_
        refine Z.iconst C dL_act_180 ?_
        refine Z.isub C dL_act_181 ?_
        refine Z.iload_n C dL_act_182 rfl ?_
        refine Z.bipush C dL_act_183 (by decide) ?_
        refine Z.idv C dL_act_185 (by omega) (by omega) (by omega) (by omega) ?_
        refine Z.aload_n C dL_act_186 rfl ?_
        refine Z.iconst C dL_act_187 ?_
        refine Z.nld2 C dL_act_188 (K.keep ho oC) ?_
        refine Z.iconst C dL_act_189 ?_
        have J200 : ∀ mn : Int, mn = (if S 15 0 ≤ 3 then S 15 0 else 3) → Z X 200 [.ref b, .ref o, vI (x), vI (x / 20), vI (aO S x)] [vI (mn), vI ((x / 20) / 10), vI ((S 15 0) - 1), vI (aO S x), .ref b] h (0) (0) := by
          intro mn hmn
          have hm3 : 0 < mn ∧ mn ≤ 3 := by
            rw [hmn]
            split <;> omega
          refine Z.irm C dL_act_200 (by omega) (by omega) (by omega) (by omega) (fun a200 b200 => ?_)
          refine Z.isub C dL_act_201 ?_
          exact J202 _ (by unfold aP; rw [if_neg c170, hmn])
        refine Z.icmp_le (tgt := 197) C dL_act_190 (by decide) (by omega) (by omega) (by omega) (by omega) (fun c190 => ?_) (fun c190 => ?_)
        · refine Z.aload_n C dL_act_197 rfl ?_
          refine Z.iconst C dL_act_198 ?_
          refine Z.nld2 C dL_act_199 (K.keep ho oC) ?_
          exact J200 _ (by rw [if_pos c190])
        · refine Z.iconst C dL_act_193 ?_
          refine Z.goto (tgt := 200) C dL_act_194 (by decide) ?_
          exact J200 _ (by rw [if_neg c190])
      · refine Z.iconst C dL_act_173 ?_
        refine Z.goto (tgt := 202) C dL_act_174 (by decide) ?_
        exact J202 _ (by unfold aP; rw [if_pos c170])
    · rw [ck]
      refine Z.tblIn (off := 138) (tgt := 164) C dL_act_26 (by decide) (by decide) (by decide) (by decide) rfl (by decide) ?_
      refine Z.aload_n C dL_act_164 rfl ?_
      refine Z.iload C dL_act_165 rfl ?_
      refine Z.aload_n C dL_act_167 rfl ?_
      refine Z.iconst C dL_act_168 ?_
      refine Z.nld2 C dL_act_169 (K.keep ho oC) ?_
      have J202 : ∀ pr : Int, pr = aP S x → Z X 202 [.ref b, .ref o, vI (x), vI (x / 20), vI (aO S x)] [vI (pr), vI (aO S x), .ref b] h (0) (0) := by
        intro pr hpr
        subst hpr
        refine Z.iload_n C dL_act_202 rfl ?_
        refine Z.bipush C dL_act_203 (by decide) ?_
        refine Z.idv C dL_act_205 (by omega) (by omega) (by omega) (by omega) ?_
        refine Z.iconst C dL_act_206 ?_
        refine Z.irm C dL_act_207 (by omega) (by omega) (by omega) (by omega) (fun a207 b207 => ?_)
        have J216 : ∀ bo : Int, bo = aB x → Z X 216 [.ref b, .ref o, vI (x), vI (x / 20), vI (aO S x)] [vI (bo), vI (aP S x), vI (aO S x), .ref b] h (0) (0) := by
          intro bo hbo
          subst hbo
          refine h_L_91 C rfl dL_act_216 (c_L_vote htr K (by omega) (by omega) (aB_b x)) (by decide) (Nat.le_of_ble_eq_true rfl) (by rw [hR]; exact Nat.le_of_ble_eq_true rfl) (by rw [hR]; exact Nat.le_of_ble_eq_true rfl) (fun w216 h216 q216 => ?_)
          obtain ⟨rfl, K216⟩ := q216
          exact Z.iret C E dL_act_219 (by decide) (Nat.le_of_ble_eq_true rfl) ⟨by rw [aV_5 S (by omega)], by rw [aS_5 S (by omega)]; exact K216⟩
        refine Z.if_le (tgt := 215) C dL_act_208 (by decide) (by omega) (by omega) (fun c208 => ?_) (fun c208 => ?_)
        · refine Z.iconst C dL_act_215 ?_
          exact J216 _ (by unfold aB; rw [if_pos c208])
        · refine Z.iconst C dL_act_211 ?_
          refine Z.goto (tgt := 216) C dL_act_212 (by decide) ?_
          exact J216 _ (by unfold aB; rw [if_neg c208])
      refine Z.if_ne (tgt := 177) C dL_act_170 (by decide) (by omega) (by omega) (fun c170 => ?_) (fun c170 => ?_)
      · refine Z.aload_n C dL_act_177 rfl ?_
        refine Z.iconst C dL_act_178 ?_
        refine Z.nld2 C dL_act_179 (K.keep ho oC) ?_
        refine Z.iconst C dL_act_180 ?_
        refine Z.isub C dL_act_181 ?_
        refine Z.iload_n C dL_act_182 rfl ?_
        refine Z.bipush C dL_act_183 (by decide) ?_
        refine Z.idv C dL_act_185 (by omega) (by omega) (by omega) (by omega) ?_
        refine Z.aload_n C dL_act_186 rfl ?_
        refine Z.iconst C dL_act_187 ?_
        refine Z.nld2 C dL_act_188 (K.keep ho oC) ?_
        refine Z.iconst C dL_act_189 ?_
        have J200 : ∀ mn : Int, mn = (if S 15 0 ≤ 3 then S 15 0 else 3) → Z X 200 [.ref b, .ref o, vI (x), vI (x / 20), vI (aO S x)] [vI (mn), vI ((x / 20) / 10), vI ((S 15 0) - 1), vI (aO S x), .ref b] h (0) (0) := by
          intro mn hmn
          have hm3 : 0 < mn ∧ mn ≤ 3 := by
            rw [hmn]
            split <;> omega
          refine Z.irm C dL_act_200 (by omega) (by omega) (by omega) (by omega) (fun a200 b200 => ?_)
          refine Z.isub C dL_act_201 ?_
          exact J202 _ (by unfold aP; rw [if_neg c170, hmn])
        refine Z.icmp_le (tgt := 197) C dL_act_190 (by decide) (by omega) (by omega) (by omega) (by omega) (fun c190 => ?_) (fun c190 => ?_)
        · refine Z.aload_n C dL_act_197 rfl ?_
          refine Z.iconst C dL_act_198 ?_
          refine Z.nld2 C dL_act_199 (K.keep ho oC) ?_
          exact J200 _ (by rw [if_pos c190])
        · refine Z.iconst C dL_act_193 ?_
          refine Z.goto (tgt := 200) C dL_act_194 (by decide) ?_
          exact J200 _ (by rw [if_neg c190])
      · refine Z.iconst C dL_act_173 ?_
        refine Z.goto (tgt := 202) C dL_act_174 (by decide) ?_
        exact J202 _ (by unfold aP; rw [if_pos c170])
    · rw [ck]
      refine Z.tblIn (off := 138) (tgt := 164) C dL_act_26 (by decide) (by decide) (by decide) (by decide) rfl (by decide) ?_
      refine Z.aload_n C dL_act_164 rfl ?_
      refine Z.iload C dL_act_165 rfl ?_
      refine Z.aload_n C dL_act_167 rfl ?_
      refine Z.iconst C dL_act_168 ?_
      refine Z.nld2 C dL_act_169 (K.keep ho oC) ?_
      have J202 : ∀ pr : Int, pr = aP S x → Z X 202 [.ref b, .ref o, vI (x), vI (x / 20), vI (aO S x)] [vI (pr), vI (aO S x), .ref b] h (0) (0) := by
        intro pr hpr
        subst hpr
        refine Z.iload_n C dL_act_202 rfl ?_
        refine Z.bipush C dL_act_203 (by decide) ?_
        refine Z.idv C dL_act_205 (by omega) (by omega) (by omega) (by omega) ?_
        refine Z.iconst C dL_act_206 ?_
        refine Z.irm C dL_act_207 (by omega) (by omega) (by omega) (by omega) (fun a207 b207 => ?_)
        have J216 : ∀ bo : Int, bo = aB x → Z X 216 [.ref b, .ref o, vI (x), vI (x / 20), vI (aO S x)] [vI (bo), vI (aP S x), vI (aO S x), .ref b] h (0) (0) := by
          intro bo hbo
          subst hbo
          refine h_L_91 C rfl dL_act_216 (c_L_vote htr K (by omega) (by omega) (aB_b x)) (by decide) (Nat.le_of_ble_eq_true rfl) (by rw [hR]; exact Nat.le_of_ble_eq_true rfl) (by rw [hR]; exact Nat.le_of_ble_eq_true rfl) (fun w216 h216 q216 => ?_)
          obtain ⟨rfl, K216⟩ := q216
          exact Z.iret C E dL_act_219 (by decide) (Nat.le_of_ble_eq_true rfl) ⟨by rw [aV_5 S (by omega)], by rw [aS_5 S (by omega)]; exact K216⟩
        refine Z.if_le (tgt := 215) C dL_act_208 (by decide) (by omega) (by omega) (fun c208 => ?_) (fun c208 => ?_)
        · refine Z.iconst C dL_act_215 ?_
          exact J216 _ (by unfold aB; rw [if_pos c208])
        · refine Z.iconst C dL_act_211 ?_
          refine Z.goto (tgt := 216) C dL_act_212 (by decide) ?_
          exact J216 _ (by unfold aB; rw [if_neg c208])
      refine Z.if_ne (tgt := 177) C dL_act_170 (by decide) (by omega) (by omega) (fun c170 => ?_) (fun c170 => ?_)
      · refine Z.aload_n C dL_act_177 rfl ?_
        refine Z.iconst C dL_act_178 ?_
        refine Z.nld2 C dL_act_179 (K.keep ho oC) ?_
        refine Z.iconst C dL_act_180 ?_
        refine Z.isub C dL_act_181 ?_
        refine Z.iload_n C dL_act_182 rfl ?_
        refine Z.bipush C dL_act_183 (by decide) ?_
        refine Z.idv C dL_act_185 (by omega) (by omega) (by omega) (by omega) ?_
        refine Z.aload_n C dL_act_186 rfl ?_
        refine Z.iconst C dL_act_187 ?_
        refine Z.nld2 C dL_act_188 (K.keep ho oC) ?_
        refine Z.iconst C dL_act_189 ?_
        have J200 : ∀ mn : Int, mn = (if S 15 0 ≤ 3 then S 15 0 else 3) → Z X 200 [.ref b, .ref o, vI (x), vI (x / 20), vI (aO S x)] [vI (mn), vI ((x / 20) / 10), vI ((S 15 0) - 1), vI (aO S x), .ref b] h (0) (0) := by
          intro mn hmn
          have hm3 : 0 < mn ∧ mn ≤ 3 := by
            rw [hmn]
            split <;> omega
          refine Z.irm C dL_act_200 (by omega) (by omega) (by omega) (by omega) (fun a200 b200 => ?_)
          refine Z.isub C dL_act_201 ?_
          exact J202 _ (by unfold aP; rw [if_neg c170, hmn])
        refine Z.icmp_le (tgt := 197) C dL_act_190 (by decide) (by omega) (by omega) (by omega) (by omega) (fun c190 => ?_) (fun c190 => ?_)
        · refine Z.aload_n C dL_act_197 rfl ?_
          refine Z.iconst C dL_act_198 ?_
          refine Z.nld2 C dL_act_199 (K.keep ho oC) ?_
          exact J200 _ (by rw [if_pos c190])
        · refine Z.iconst C dL_act_193 ?_
          refine Z.goto (tgt := 200) C dL_act_194 (by decide) ?_
          exact J200 _ (by rw [if_neg c190])
      · refine Z.iconst C dL_act_173 ?_
        refine Z.goto (tgt := 202) C dL_act_174 (by decide) ?_
        exact J202 _ (by unfold aP; rw [if_pos c170])
    · rw [ck]
      refine Z.tblIn (off := 138) (tgt := 164) C dL_act_26 (by decide) (by decide) (by decide) (by decide) rfl (by decide) ?_
      refine Z.aload_n C dL_act_164 rfl ?_
      refine Z.iload C dL_act_165 rfl ?_
      refine Z.aload_n C dL_act_167 rfl ?_
      refine Z.iconst C dL_act_168 ?_
      refine Z.nld2 C dL_act_169 (K.keep ho oC) ?_
      have J202 : ∀ pr : Int, pr = aP S x → Z X 202 [.ref b, .ref o, vI (x), vI (x / 20), vI (aO S x)] [vI (pr), vI (aO S x), .ref b] h (0) (0) := by
        intro pr hpr
        subst hpr
        refine Z.iload_n C dL_act_202 rfl ?_
        refine Z.bipush C dL_act_203 (by decide) ?_
        refine Z.idv C dL_act_205 (by omega) (by omega) (by omega) (by omega) ?_
        refine Z.iconst C dL_act_206 ?_
        refine Z.irm C dL_act_207 (by omega) (by omega) (by omega) (by omega) (fun a207 b207 => ?_)
        have J216 : ∀ bo : Int, bo = aB x → Z X 216 [.ref b, .ref o, vI (x), vI (x / 20), vI (aO S x)] [vI (bo), vI (aP S x), vI (aO S x), .ref b] h (0) (0) := by
          intro bo hbo
          subst hbo
          refine h_L_91 C rfl dL_act_216 (c_L_vote htr K (by omega) (by omega) (aB_b x)) (by decide) (Nat.le_of_ble_eq_true rfl) (by rw [hR]; exact Nat.le_of_ble_eq_true rfl) (by rw [hR]; exact Nat.le_of_ble_eq_true rfl) (fun w216 h216 q216 => ?_)
          obtain ⟨rfl, K216⟩ := q216
          exact Z.iret C E dL_act_219 (by decide) (Nat.le_of_ble_eq_true rfl) ⟨by rw [aV_5 S (by omega)], by rw [aS_5 S (by omega)]; exact K216⟩
        refine Z.if_le (tgt := 215) C dL_act_208 (by decide) (by omega) (by omega) (fun c208 => ?_) (fun c208 => ?_)
        · refine Z.iconst C dL_act_215 ?_
          exact J216 _ (by unfold aB; rw [if_pos c208])
        · refine Z.iconst C dL_act_211 ?_
          refine Z.goto (tgt := 216) C dL_act_212 (by decide) ?_
          exact J216 _ (by unfold aB; rw [if_neg c208])
      refine Z.if_ne (tgt := 177) C dL_act_170 (by decide) (by omega) (by omega) (fun c170 => ?_) (fun c170 => ?_)
      · refine Z.aload_n C dL_act_177 rfl ?_
        refine Z.iconst C dL_act_178 ?_
        refine Z.nld2 C dL_act_179 (K.keep ho oC) ?_
        refine Z.iconst C dL_act_180 ?_
        refine Z.isub C dL_act_181 ?_
        refine Z.iload_n C dL_act_182 rfl ?_
        refine Z.bipush C dL_act_183 (by decide) ?_
        refine Z.idv C dL_act_185 (by omega) (by omega) (by omega) (by omega) ?_
        refine Z.aload_n C dL_act_186 rfl ?_
        refine Z.iconst C dL_act_187 ?_
        refine Z.nld2 C dL_act_188 (K.keep ho oC) ?_
        refine Z.iconst C dL_act_189 ?_
        have J200 : ∀ mn : Int, mn = (if S 15 0 ≤ 3 then S 15 0 else 3) → Z X 200 [.ref b, .ref o, vI (x), vI (x / 20), vI (aO S x)] [vI (mn), vI ((x / 20) / 10), vI ((S 15 0) - 1), vI (aO S x), .ref b] h (0) (0) := by
          intro mn hmn
          have hm3 : 0 < mn ∧ mn ≤ 3 := by
            rw [hmn]
            split <;> omega
          refine Z.irm C dL_act_200 (by omega) (by omega) (by omega) (by omega) (fun a200 b200 => ?_)
          refine Z.isub C dL_act_201 ?_
          exact J202 _ (by unfold aP; rw [if_neg c170, hmn])
        refine Z.icmp_le (tgt := 197) C dL_act_190 (by decide) (by omega) (by omega) (by omega) (by omega) (fun c190 => ?_) (fun c190 => ?_)
        · refine Z.aload_n C dL_act_197 rfl ?_
          refine Z.iconst C dL_act_198 ?_
          refine Z.nld2 C dL_act_199 (K.keep ho oC) ?_
          exact J200 _ (by rw [if_pos c190])
        · refine Z.iconst C dL_act_193 ?_
          refine Z.goto (tgt := 200) C dL_act_194 (by decide) ?_
          exact J200 _ (by rw [if_neg c190])
      · refine Z.iconst C dL_act_173 ?_
        refine Z.goto (tgt := 202) C dL_act_174 (by decide) ?_
        exact J202 _ (by unfold aP; rw [if_pos c170])
    · refine Z.tblOut (tgt := 220) C dL_act_26 (by omega) (by omega) (Or.inr (by omega)) (by decide) ?_
      refine Z.aload_n C dL_act_220 rfl ?_
      refine Z.iload C dL_act_221 rfl ?_
      refine Z.aload_n C dL_act_223 rfl ?_
      refine Z.iconst C dL_act_224 ?_
      refine Z.nld1 C dL_act_225 (K.keep ho oC) ?_
      have J241 : ∀ fi : Int, fi = aF S x → Z X 241 [.ref b, .ref o, vI (x), vI (x / 20), vI (aO S x)] [vI (fi), vI (aO S x), .ref b] h (0) (0) := by
        intro fi hfi
        subst hfi
        refine h_L_84 C rfl dL_act_241 (c_L_fetch htr K (by omega) (by omega)) (by decide) (Nat.le_of_ble_eq_true rfl) (by rw [hR]; exact Nat.le_of_ble_eq_true rfl) (by rw [hR]; exact Nat.le_of_ble_eq_true rfl) (fun w241 h241 q241 => ?_)
        obtain ⟨rfl, K241⟩ := q241
        exact Z.iret C E dL_act_244 (by decide) (Nat.le_of_ble_eq_true rfl) ⟨by rw [aV_6 S ck], by rw [aS_6 S ck]; exact K241⟩
      refine Z.if_ne (tgt := 233) C dL_act_226 (by decide) (by omega) (by omega) (fun c226 => ?_) (fun c226 => ?_)
      · refine Z.iload_n C dL_act_233 rfl ?_
        refine Z.bipush C dL_act_234 (by decide) ?_
        refine Z.idv C dL_act_236 (by omega) (by omega) (by omega) (by omega) ?_
        refine Z.aload_n C dL_act_237 rfl ?_
        refine Z.iconst C dL_act_238 ?_
        refine Z.nld1 C dL_act_239 (K.keep ho oC) ?_
        refine Z.irm C dL_act_240 (by omega) (by omega) (by omega) (by omega) (fun a240 b240 => ?_)
        exact J241 _ (by unfold aF; rw [if_neg c226])
      · refine Z.iconst C dL_act_229 ?_
        refine Z.goto (tgt := 241) C dL_act_230 (by decide) ?_
        exact J241 _ (by unfold aF; rw [if_pos c226])
  refine Z.if_ne (tgt := 15) C dL_act_8 (by decide) (by omega) (by omega) (fun c8 => ?_) (fun c8 => ?_)
  · refine Z.iload_n C dL_act_15 rfl ?_
    refine Z.aload_n C dL_act_16 rfl ?_
    refine Z.iconst C dL_act_17 ?_
    refine Z.nld0 C dL_act_18 (K.keep ho oC) ?_
    refine Z.irm C dL_act_19 (by omega) (by omega) (by omega) (by omega) (fun a19 b19 => ?_)
    exact J20 _ (by unfold aO; rw [if_neg c8])
  · refine Z.iconst C dL_act_11 ?_
    refine Z.goto (tgt := 20) C dL_act_12 (by decide) ?_
    exact J20 _ (by unfold aO; rw [if_pos c8])
