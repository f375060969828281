/-! putIntoCache, fetch -/
theorem cLF_none (T : Nat → Nat → Int) (m : Nat) (w : Int) : ∀ n, cLF T m n = -1 → cU T m w n = 0
  | 0, _ => rfl
  | n + 1, h => by
    have hb := cLF_b T m n
    rw [cLF] at h
    by_cases c : ¬ T 13 (20 * m + n) = 0
    · by_cases c2 : cLF T m n = -1
      · rw [if_pos ⟨c, Or.inl c2⟩] at h; omega
      · split at h
        · omega
        · exact absurd h c2
    · rw [if_neg (fun z => c z.1)] at h
      rw [cU, cLF_none T m w n h, if_neg (fun z => c z.1)]
      rfl
def cPO (m : Nat) (most : Int) : Nat → (Nat → Nat → Int) → (Nat → Nat → Int)
  | 0, T => T
  | q + 1, T => if most < cU T m 0 (cN T 1) then cPO m most q (su T 13 (20 * m + (cLF T m (cN T 1)).toNat) 0) else T
def cPC (T : Nat → Nat → Int) (m f : Nat) : Nat → Nat → Int := if T 6 m - T 11 f < cU T m (T 12 f) (cN T 1) then T else su (cPO m (T 6 m - T 11 f) 20 T) 13 (20 * m + f) 1
theorem cPO_ne (m : Nat) (most : Int) {g : Nat} (hg : g ≠ 13) : ∀ (q : Nat) (T : Nat → Nat → Int), cPO m most q T g = T g
  | 0, _ => rfl
  | q + 1, T => by
    rw [cPO]
    split
    · rw [cPO_ne m most hg q, su_ne _ _ _ hg]
    · rfl
theorem cPC_ne (T : Nat → Nat → Int) (m f : Nat) {g : Nat} (hg : g ≠ 13) : cPC T m f g = T g := by
  unfold cPC
  split
  · rfl
  · rw [su_ne _ _ _ hg, cPO_ne m _ hg]
theorem cPC_cN (T : Nat → Nat → Int) (m f k : Nat) : cN (cPC T m f) k = cN T k := by
  unfold cN
  split <;> first | rfl | rw [cPC_ne T m f (by decide)]
theorem TB_po (m : Nat) (most : Int) : ∀ (q : Nat) (T : Nat → Nat → Int), TB T → TB (cPO m most q T)
  | 0, _, I => I
  | q + 1, T, I => by
    rw [cPO]
    split
    · exact TB_po m most q _ (TB_su I 13 _ (by decide) (show 0 ≤ (0 : Int) ∧ (0 : Int) ≤ 1 by decide))
    · exact I
theorem TB_pc {T : Nat → Nat → Int} (I : TB T) (m f : Nat) : TB (cPC T m f) := by
  unfold cPC
  split
  · exact I
  · exact TB_su (TB_po m _ 20 T I) 13 _ (by decide) (show 0 ≤ (1 : Int) ∧ (1 : Int) ≤ 1 by decide)

set_option maxRecDepth 100000 in
theorem c_X6_putIntoCache_ok {ln : Launch} (htr : ln.stackTraces = false) {G : zG} {h : zH} {ad : Nat → Nat → Nat} {el : Nat → Nat} {T : Nat → Nat → Int} (R : CR G ad el T h) (I : TB T) {m f : Nat} (hm : m < cN T 0) (hf : f < cN T 1) : CT ln G yX6_putIntoCache cX6_putIntoCache 6 none 5 ([.ref (ad 0 0), .ref (ad 1 m), vI (f : Int), .ref (ad 5 f)]) h 0 0 (fun r9 h9 => r9 = none ∧ CR G ad el (cPC T m f) h9) zNo := by
  refine CT.intro htr (by decide) rfl (Nat.le_of_ble_eq_true rfl) ?_
  intro X hln hG hR hN C E
  subst hln
  subst hG
  have hn9 := I.n
  have h12 : 0 ≤ T 12 f ∧ T 12 f ≤ thi 12 := I.1 12 f (by decide) (by decide) (by decide)
  simp only [thi] at h12
  have h6 : 0 ≤ T 6 m ∧ T 6 m ≤ thi 6 := I.1 6 m (by decide) (by decide) (by decide)
  simp only [thi] at h6
  have h11 : 0 ≤ T 11 f ∧ T 11 f ≤ thi 11 := I.1 11 f (by decide) (by decide) (by decide)
  simp only [thi] at h11
  refine Z.aload_n C dX6_putIntoCache_0 rfl ?_
  refine g_X6_293  C rfl dX6_putIntoCache_1 (R.mem hm) rfl ?_
  refine Z.aload_n C dX6_putIntoCache_4 rfl ?_
  refine g_X6_124  C rfl dX6_putIntoCache_5 (R.fil hf) rfl ?_
  refine Z.isub C dX6_putIntoCache_8 ?_
  refine Z.istore (l' := [_, _, _, _, _]) C dX6_putIntoCache_9 (Nat.le_of_ble_eq_true rfl) (by rw [hN]; decide) rfl ?_
  refine Z.aload_n C dX6_putIntoCache_11 rfl ?_
  refine Z.aload_n C dX6_putIntoCache_12 rfl ?_
  refine Z.aload_n C dX6_putIntoCache_13 rfl ?_
  refine g_X6_139  C rfl dX6_putIntoCache_14 (R.fil hf) rfl ?_
  refine v_X6_205 C rfl dX6_putIntoCache_17 (R.club) (c_X6_cachedUnits htr R I hm (w := T 12 f) (by omega)) (by decide) (Nat.le_of_ble_eq_true rfl) (by rw [hR]; exact Nat.le_of_ble_eq_true rfl) (by rw [hR]; exact Nat.le_of_ble_eq_true rfl) (fun w17 h17 q17 => ?_) (fun _ _ q => q.elim)
  obtain ⟨rfl, q17⟩ := q17
  replace q17 := q17.symm
  subst q17
  have hcb := cU_b I m (T 12 f) (cN T 1)
  refine Z.iload C dX6_putIntoCache_20 rfl ?_
  refine Z.icmp_le (tgt := 26) C dX6_putIntoCache_22 (by decide) (by omega) (by omega) (by omega) (by omega) (fun c22 => ?_) (fun c22 => ?_)
  · refine Z.iconst C dX6_putIntoCache_26 ?_
    refine Z.istore (l' := [_, _, _, _, _, _]) C dX6_putIntoCache_27 (Nat.le_of_ble_eq_true rfl) (by rw [hN]; decide) rfl ?_
    have L : ∀ (q rd : Nat) (TT : Nat → Nat → Int) (hh : zH), rd + q = 20 → TB TT → (∀ g, cN TT g = cN T g) → CR (zG_of X) ad el TT hh → cPO m (T 6 m - T 11 f) 20 T = cPO m (T 6 m - T 11 f) q TT → Z X 29 [.ref (ad 0 0), .ref (ad 1 m), vI (f : Int), .ref (ad 5 f), vI (T 6 m - T 11 f), vI (rd : Int)] [] hh 0 0 := by
      intro q
      induction q with
      | zero =>
        intro rd TT hh hi I1 en R heq
        have en0 := en 0
        have en1 := en 1
        have hm1 : m < cN TT 0 := by omega
        refine Z.iload C dX6_putIntoCache_29 rfl ?_
        refine Z.bipush C dX6_putIntoCache_31 (by decide) ?_
        refine Z.icmp_ge (tgt := 63) C dX6_putIntoCache_33 (by decide) (by omega) (by omega) (by omega) (by omega) (fun c33 => ?_) (fun c33 => ?_)
        · refine Z.aload_n C dX6_putIntoCache_63 rfl ?_
          refine Z.iload_n C dX6_putIntoCache_64 rfl ?_
          refine Z.iconst C dX6_putIntoCache_65 ?_
          refine v_X6_300 C rfl dX6_putIntoCache_66 (R.mem hm1) (c_X3_setHeld htr (R.mem hm1) (R.held hm1) (i := f) (by omega) (Or.inr rfl)) (by decide) (Nat.le_of_ble_eq_true rfl) (by rw [hR]; exact Nat.le_of_ble_eq_true rfl) (by rw [hR]; exact Nat.le_of_ble_eq_true rfl) (fun w66 h66 q66 => ?_) (fun _ _ q => q.elim)
          obtain ⟨rfl, q66⟩ := q66
          replace q66 := q66.symm
          subst q66
          exact Z.vret C E dX6_putIntoCache_69 (by decide) (by decide) ⟨rfl, by
            have R9 := R.sr13 hm1 (show f < 20 by omega) 1
            unfold cPC
            rw [if_neg (by omega), heq]
            first | exact R9 | (rw [cPO, if_neg (by omega)]; exact R9)⟩
        · exfalso; omega
      | succ q ih =>
        intro rd TT hh hi I1 en R heq
        have en0 := en 0
        have en1 := en 1
        have hm1 : m < cN TT 0 := by omega
        refine Z.iload C dX6_putIntoCache_29 rfl ?_
        refine Z.bipush C dX6_putIntoCache_31 (by decide) ?_
        refine Z.icmp_ge (tgt := 63) C dX6_putIntoCache_33 (by decide) (by omega) (by omega) (by omega) (by omega) (fun c33 => ?_) (fun c33 => ?_)
        · exfalso; omega
        · refine Z.aload_n C dX6_putIntoCache_36 rfl ?_
          refine Z.aload_n C dX6_putIntoCache_37 rfl ?_
          refine Z.iconst C dX6_putIntoCache_38 ?_
          refine v_X6_205 C rfl dX6_putIntoCache_39 (R.club) (c_X6_cachedUnits htr R I1 hm1 (w := 0) (by decide)) (by decide) (Nat.le_of_ble_eq_true rfl) (by rw [hR]; exact Nat.le_of_ble_eq_true rfl) (by rw [hR]; exact Nat.le_of_ble_eq_true rfl) (fun w39 h39 q39 => ?_) (fun _ _ q => q.elim)
          obtain ⟨rfl, q39⟩ := q39
          replace q39 := q39.symm
          subst q39
          have hcb1 := cU_b I1 m 0 (cN TT 1)
          refine Z.iload C dX6_putIntoCache_42 rfl ?_
          refine Z.icmp_le (tgt := 63) C dX6_putIntoCache_44 (by decide) (by omega) (by omega) (by omega) (by omega) (fun c44 => ?_) (fun c44 => ?_)
          · refine Z.aload_n C dX6_putIntoCache_63 rfl ?_
            refine Z.iload_n C dX6_putIntoCache_64 rfl ?_
            refine Z.iconst C dX6_putIntoCache_65 ?_
            refine v_X6_300 C rfl dX6_putIntoCache_66 (R.mem hm1) (c_X3_setHeld htr (R.mem hm1) (R.held hm1) (i := f) (by omega) (Or.inr rfl)) (by decide) (Nat.le_of_ble_eq_true rfl) (by rw [hR]; exact Nat.le_of_ble_eq_true rfl) (by rw [hR]; exact Nat.le_of_ble_eq_true rfl) (fun w66 h66 q66 => ?_) (fun _ _ q => q.elim)
            obtain ⟨rfl, q66⟩ := q66
            replace q66 := q66.symm
            subst q66
            exact Z.vret C E dX6_putIntoCache_69 (by decide) (by decide) ⟨rfl, by
              have R9 := R.sr13 hm1 (show f < 20 by omega) 1
              unfold cPC
              rw [if_neg (by omega), heq]
              first | exact R9 | (rw [cPO, if_neg (by omega)]; exact R9)⟩
          · refine Z.aload_n C dX6_putIntoCache_47 rfl ?_
            refine Z.aload_n C dX6_putIntoCache_48 rfl ?_
            refine Z.aload_n C dX6_putIntoCache_49 rfl ?_
            refine v_X6_296 C rfl dX6_putIntoCache_50 (R.club) (c_X6_leastWorthOf htr R I1 hm1) (by decide) (Nat.le_of_ble_eq_true rfl) (by rw [hR]; exact Nat.le_of_ble_eq_true rfl) (by rw [hR]; exact Nat.le_of_ble_eq_true rfl) (fun w50 h50 q50 => ?_) (fun _ _ q => q.elim)
            obtain ⟨rfl, q50⟩ := q50
            replace q50 := q50.symm
            subst q50
            have hlb := cLF_b TT m (cN TT 1)
            have hln : ¬ cLF TT m (cN TT 1) = -1 := fun z => by have := cLF_none TT m 0 _ z; omega
            obtain ⟨l, hl⟩ : ∃ l : Nat, cLF TT m (cN TT 1) = (l : Int) := ⟨(cLF TT m (cN TT 1)).toNat, by omega⟩
            have hl20 : l < 20 := by omega
            rw [hl]
            refine Z.iconst C dX6_putIntoCache_53 ?_
            refine v_X6_300 C rfl dX6_putIntoCache_54 (R.mem hm1) (c_X3_setHeld htr (R.mem hm1) (R.held hm1) (i := l) hl20 (Or.inl rfl)) (by decide) (Nat.le_of_ble_eq_true rfl) (by rw [hR]; exact Nat.le_of_ble_eq_true rfl) (by rw [hR]; exact Nat.le_of_ble_eq_true rfl) (fun w54 h54 q54 => ?_) (fun _ _ q => q.elim)
            obtain ⟨rfl, q54⟩ := q54
            replace q54 := q54.symm
            subst q54
            refine Z.iinc (l' := [_, _, _, _, _, _]) C dX6_putIntoCache_57 rfl (Nat.le_of_ble_eq_true rfl) (by rw [hN]; decide) rfl ?_
            refine Z.goto (tgt := 29) C dX6_putIntoCache_60 (by decide) ?_
            refine ih (rd + 1) _ _ (by omega) (TB_su I1 13 _ (by decide) (show 0 ≤ (0 : Int) ∧ (0 : Int) ≤ 1 by decide)) (fun g => (cN_su TT _ _ (by decide) (by decide) (by decide) (by decide) g).trans (en g)) (R.sr13 hm1 hl20 0) ?_
            rw [heq, cPO, if_pos (by omega), hl, Int.toNat_natCast]
    exact L _ 0 _ _ (Nat.zero_add _) I (fun _ => rfl) R rfl
  · exact Z.vret C E dX6_putIntoCache_25 (by decide) (by decide) ⟨rfl, by unfold cPC; rw [if_pos (by omega)]; exact R⟩

def cFt1 (T : Nat → Nat → Int) (m f : Nat) (w hd : Int) (g : Nat → Int) : Nat → Nat → Int := cLog (cUL T g (cN T 0)) w (T 1 0) (m : Int) (T 11 f) hd g
def cFt2 (T : Nat → Nat → Int) (m f : Nat) (w hd : Int) (g : Nat → Int) : Nat → Nat → Int := cKL (cFt1 T m f w hd g) (cN (cUL T g (cN T 0)) 3) (cN (cUL T g (cN T 0)) 0)
def cFt3 (T : Nat → Nat → Int) (m f : Nat) : Nat → Nat → Int := su (su (su T 14 0 (T 14 0 + 1)) 8 m (T 8 m + 1)) 12 f (T 12 f + 1)
/-- the club after a fetch that went by the way w -/
def cFt (T : Nat → Nat → Int) (m f : Nat) (w hd : Int) (g : Nat → Int) : Nat → Nat → Int := if w = 2 then cPC (cFt3 (cFt2 T m f w hd g) m f) m f else cFt3 (cFt2 T m f w hd g) m f
theorem cFt3_cN (T : Nat → Nat → Int) (m f k : Nat) : cN (cFt3 T m f) k = cN T k := by
  unfold cFt3
  rw [cN_su _ _ _ (by decide) (by decide) (by decide) (by decide), cN_su _ _ _ (by decide) (by decide) (by decide) (by decide), cN_su _ _ _ (by decide) (by decide) (by decide) (by decide)]
theorem TB_ft3 {T : Nat → Nat → Int} (I : TB T) (m f : Nat) (h14 : T 14 0 < 300) (h8 : T 8 m < 300) (h12 : T 12 f < 300) : TB (cFt3 T m f) := by
  have a14 : 0 ≤ T 14 0 ∧ T 14 0 ≤ 300 := I.1 14 0 (by decide) (by decide) (by decide)
  have a8 : 0 ≤ T 8 m ∧ T 8 m ≤ 300 := I.1 8 m (by decide) (by decide) (by decide)
  have a12 : 0 ≤ T 12 f ∧ T 12 f ≤ 300 := I.1 12 f (by decide) (by decide) (by decide)
  exact TB_su (TB_su (TB_su I 14 0 (by decide) (show 0 ≤ _ ∧ _ ≤ (300 : Int) by omega)) 8 m (by decide) (show 0 ≤ _ ∧ _ ≤ (300 : Int) by omega)) 12 f (by decide) (show 0 ≤ _ ∧ _ ≤ (300 : Int) by omega)
theorem cFt2_ne (T : Nat → Nat → Int) (m f : Nat) (w hd : Int) (g : Nat → Int) {k : Nat} (h1 : k ≠ 5) (h2 : k ≠ 7) (h3 : k ≠ 30) (h4 : k < 31 ∨ 37 < k) : cFt2 T m f w hd g k = T k := by
  unfold cFt2 cFt1
  rw [cKL_s _ _ _ k h2 h3, cLog_ne _ _ _ _ _ _ _ h4, cUL_ne _ _ h1]

set_option maxRecDepth 100000 in
theorem c_X6_fetch_ok {ln : Launch} (htr : ln.stackTraces = false) {G : zG} {h : zH} {ad : Nat → Nat → Nat} {el : Nat → Nat} {T : Nat → Nat → Int} (R : CR G ad el T h) (I : TB T) {m f : Nat} (hm : m < cN T 0) (hf : f < cN T 1) {w : Nat} {hd : Int} {g : Nat → Int} (h3 : ¬ T 3 m = 0) (h14 : T 14 0 < 300) (h8 : T 8 m < 300) (h12 : T 12 f < 300) (h31 : T 31 0 < 310) (hw : w ≤ 2) (hhd : -1 ≤ hd ∧ hd ≤ 9) (hg1 : ∀ j, 0 ≤ g j ∧ g j ≤ T 5 j) (hg2 : ∀ j, 10 ≤ j → g j = 0) (hpl : CT ln G yX6_planFetch cX6_planFetch 6 (some (.object "Bandwidthclub$Entry")) 7 [.ref (ad 0 0), .ref (ad 1 m), vI (f : Int), vI (T 11 f)] h 4 32 (PE G T h w m (T 11 f) hd g) zNo) : CT ln G yX6_fetch cX6_fetch 6 (some .int) 10 ([.ref (ad 0 0), vI (m : Int), vI (f : Int)]) h 6 518 (fun r9 h9 => r9 = some (vI (cCost (cFt T m f (w : Int) hd g) (cN (cUL T g (cN T 0)) 3))) ∧ CK G (ad 0 0) (cFt T m f (w : Int) hd g) h9) zNo := by
  refine CT.intro htr (by decide) rfl (Nat.le_of_ble_eq_true rfl) ?_
  intro X hln hG hR hN C E
  subst hln
  subst hG
  have hn9 := I.n
  have h14b : 0 ≤ T 14 0 ∧ T 14 0 ≤ thi 14 := I.1 14 0 (by decide) (by decide) (by decide)
  simp only [thi] at h14b
  refine Z.aload_n C dX6_fetch_0 rfl ?_
  refine Z.iload_n C dX6_fetch_1 rfl ?_
  refine v_X6_118 C rfl dX6_fetch_2 (R.club) (c_X6_filmAt_ok htr R I hf) (by decide) (Nat.le_of_ble_eq_true rfl) (by rw [hR]; exact Nat.le_of_ble_eq_true rfl) (by rw [hR]; exact Nat.le_of_ble_eq_true rfl) (fun w2 h2 q2 => ?_) (fun _ _ q => q.elim)
  obtain ⟨rfl, q2⟩ := q2
  replace q2 := q2.symm
  subst q2
  refine Z.astore_n (l' := [_, _, _, _]) C dX6_fetch_5 (Nat.le_of_ble_eq_true rfl) (by rw [hN]; decide) rfl ?_
  refine Z.aload_n C dX6_fetch_6 rfl ?_
  refine Z.iload_n C dX6_fetch_7 rfl ?_
  refine v_X6_59 C rfl dX6_fetch_8 (R.club) (c_X6_memberInClub_ok htr R I hm h3) (by decide) (Nat.le_of_ble_eq_true rfl) (by rw [hR]; exact Nat.le_of_ble_eq_true rfl) (by rw [hR]; exact Nat.le_of_ble_eq_true rfl) (fun w8 h8 q8 => ?_) (fun _ _ q => q.elim)
  obtain ⟨rfl, q8⟩ := q8
  replace q8 := q8.symm
  subst q8
  refine Z.astore (l' := [_, _, _, _, _]) C dX6_fetch_11 (Nat.le_of_ble_eq_true rfl) (by rw [hN]; decide) rfl ?_
  refine Z.aload_n C dX6_fetch_13 rfl ?_
  refine g_X6_29  C rfl dX6_fetch_14 (R.club) rfl ?_
  refine Z.sipush C dX6_fetch_17 (by decide) ?_
  refine Z.icmp_lt (tgt := 33) C dX6_fetch_20 (by decide) (by omega) (by omega) (by omega) (by omega) (fun c20 => ?_) (fun c20 => ?_)
  · refine Z.aload_n C dX6_fetch_33 rfl ?_
    refine Z.aload C dX6_fetch_34 rfl ?_
    refine Z.iload_n C dX6_fetch_36 rfl ?_
    refine Z.aload_n C dX6_fetch_37 rfl ?_
    refine g_X6_124  C rfl dX6_fetch_38 (R.fil hf) rfl ?_
    refine v_X6_126 C rfl dX6_fetch_41 (R.club) (hpl) (by decide) (Nat.le_of_ble_eq_true rfl) (by rw [hR]; exact Nat.le_of_ble_eq_true rfl) (by rw [hR]; exact Nat.le_of_ble_eq_true rfl) (fun w41 h41 q41 => ?_) (fun _ _ q => q.elim)
    obtain ⟨a1, b1, rfl, na, nb, hba, p1, p2, hk⟩ := q41
    have hna := R.new na
    have hnb := R.new nb
    have R1 := R.keep (h9 := h41) (fun q hq => hk q (R.own hq))
    refine Z.astore (l' := [_, _, _, _, _, _]) C dX6_fetch_44 (Nat.le_of_ble_eq_true rfl) (by rw [hN]; decide) rfl ?_
    refine Z.aload_n C dX6_fetch_46 rfl ?_
    refine Z.aload C dX6_fetch_47 rfl ?_
    refine g_X6_130  C rfl dX6_fetch_49 (p1) rfl ?_
    refine v_X6_134 C rfl dX6_fetch_52 (R1.club) (c_X6_useLines_ok htr R1 I hnb p2 hg1) (by decide) (Nat.le_of_ble_eq_true rfl) (by rw [hR]; exact Nat.le_of_ble_eq_true rfl) (by rw [hR]; exact Nat.le_of_ble_eq_true rfl) (fun w52 h52 q52 => ?_) (fun _ _ q => q.elim)
    obtain ⟨rfl, R2, hk2⟩ := q52
    have I2 := TB_ul I hg1 (cN T 0)
    have en2 := cUL_cN T g (cN T 0)
    have en20 := en2 0
    have en21 := en2 1
    have en23 := en2 3
    have hna2 : ¬ cOwn ad el (cUL T g (cN T 0)) a1 := fun z => hna (cOwn_c en2 z)
    have hnb2 : ¬ cOwn ad el (cUL T g (cN T 0)) b1 := fun z => hnb (cOwn_c en2 z)
    have q1 := (hk2 a1 hna).trans p1
    have q2 := (hk2 b1 hnb).trans p2
    refine Z.aload_n C dX6_fetch_55 rfl ?_
    refine Z.aload C dX6_fetch_56 rfl ?_
    have h1b : 0 ≤ T 1 0 ∧ T 1 0 ≤ 2000 := I.1 1 0 (by decide) (by decide) (by decide)
    have h11b : 0 ≤ T 11 f ∧ T 11 f ≤ 20 := I.1 11 f (by decide) (by decide) (by decide)
    have hg20 : ∀ j, 0 ≤ g j ∧ g j ≤ 20 := fun j => by
      have h5 : 0 ≤ T 5 j ∧ T 5 j ≤ 20 := I.1 5 j (by decide) (by decide) (by decide)
      have := hg1 j
      omega
    have hI1 : TB (cFt1 T m f (w : Int) hd g) := TB_log I2 (by omega) h1b (by omega) h11b hhd hg20 (by rw [cUL_ne T g (by decide)]; exact h31)
    have hI2 : TB (cFt2 T m f (w : Int) hd g) := same73_TB (cKL_s _ _ _) hI1
    have hI3 : TB (cFt3 (cFt2 T m f (w : Int) hd g) m f) := TB_ft3 hI2 m f (by rw [cFt2_ne _ _ _ _ _ _ (by decide) (by decide) (by decide) (by decide)]; exact h14) (by rw [cFt2_ne _ _ _ _ _ _ (by decide) (by decide) (by decide) (by decide)]; exact h8) (by rw [cFt2_ne _ _ _ _ _ _ (by decide) (by decide) (by decide) (by decide)]; exact h12)
    refine v_X6_77 C rfl dX6_fetch_58 (R2.club) (c_X6_keepInLog_ok htr R2 I2 (w := (w : Int)) (hd := hd) (g := g) hna2 hnb2 hba q1 q2 hg2 (by rw [cUL_ne T g (by decide)]; exact h31) hI1) (by decide) (Nat.le_of_ble_eq_true rfl) (by rw [hR]; exact Nat.le_of_ble_eq_true rfl) (by rw [hR]; exact Nat.le_of_ble_eq_true rfl) (fun w58 h58 q58 => ?_) (fun _ _ q => q.elim)
    obtain ⟨rfl, ad9, el9, R3, e0, e1, e8, e9⟩ := q58
    replace R3 : CR (zG_of X) ad9 el9 (cFt2 T m f (w : Int) hd g) h58 := R3
    rw [← e0, ← e8, ← e1 1 m (show m < cN _ 0 by omega), ← e1 5 f (show f < cN _ 1 by omega)]
    have hc1 := cLog_cN (cUL T g (cN T 0)) (w : Int) (T 1 0) (m : Int) (T 11 f) hd g (by rw [cUL_ne T g (by decide)]; omega)
    have hcF : ∀ k, cN (cFt2 T m f (w : Int) hd g) k = cN (cFt1 T m f (w : Int) hd g) k := same73_cN (cKL_s _ _ _)
    have hc0 := hcF 0
    have hc3 := hcF 1
    have hc4 := hcF 3
    have hcc : cN (cFt1 T m f (w : Int) hd g) 0 = cN T 0 ∧ cN (cFt1 T m f (w : Int) hd g) 1 = cN T 1 ∧ cN (cFt1 T m f (w : Int) hd g) 3 = (cN (cUL T g (cN T 0)) 3) + 1 := ⟨hc1.1.trans en20, hc1.2.1.trans en21, hc1.2.2.2⟩
    have hm3 : m < cN (cFt2 T m f (w : Int) hd g) 0 := by omega
    have hf3 : f < cN (cFt2 T m f (w : Int) hd g) 1 := by omega
    have hn3 : (cN (cUL T g (cN T 0)) 3) < cN (cFt2 T m f (w : Int) hd g) 3 := by omega
    refine Z.aload_n C dX6_fetch_61 rfl ?_
    refine Z.dup C dX6_fetch_62 rfl ?_
    refine g_X6_29  C rfl dX6_fetch_63 (R3.club) rfl ?_
    refine Z.iconst C dX6_fetch_66 ?_
    refine Z.iadd C dX6_fetch_67 ?_
    refine p_X6_29 (fs' := [.ref (ad9 10 0), .ref (ad9 10 1), .ref (ad9 10 2), .ref (ad9 10 3), vI ((cFt2 T m f (w : Int) hd g) 1 0), vI ((cFt2 T m f (w : Int) hd g) 14 0 + 1)]) C rfl  dX6_fetch_68  (R3.club) (Nat.le_of_ble_eq_true rfl) rfl ?_
    have R4 := R3.st14 ((cFt2 T m f (w : Int) hd g) 14 0 + 1)
    have hm4 : m < cN (su (cFt2 T m f (w : Int) hd g) 14 0 ((cFt2 T m f (w : Int) hd g) 14 0 + 1)) 0 := by rw [cN_su _ _ _ (by decide) (by decide) (by decide) (by decide)]; exact hm3
    refine Z.aload C dX6_fetch_71 rfl ?_
    refine Z.dup C dX6_fetch_73 rfl ?_
    refine g_X6_138  C rfl dX6_fetch_74 (R4.mem hm4) rfl ?_
    refine Z.iconst C dX6_fetch_77 ?_
    refine Z.iadd C dX6_fetch_78 ?_
    refine p_X6_138 (fs' := [vI (m : Int), vI ((su (cFt2 T m f (w : Int) hd g) 14 0 ((cFt2 T m f (w : Int) hd g) 14 0 + 1)) 4 m), vI ((su (cFt2 T m f (w : Int) hd g) 14 0 ((cFt2 T m f (w : Int) hd g) 14 0 + 1)) 6 m), .ref (ad9 3 m), .ref (ad9 2 m), vI ((su (cFt2 T m f (w : Int) hd g) 14 0 ((cFt2 T m f (w : Int) hd g) 14 0 + 1)) 3 m), vI ((su (cFt2 T m f (w : Int) hd g) 14 0 ((cFt2 T m f (w : Int) hd g) 14 0 + 1)) 5 m), vI ((su (cFt2 T m f (w : Int) hd g) 14 0 ((cFt2 T m f (w : Int) hd g) 14 0 + 1)) 8 m + 1)]) C rfl  dX6_fetch_79  (R4.mem hm4) (Nat.le_of_ble_eq_true rfl) rfl ?_
    have R5 := R4.st8 hm4 ((su (cFt2 T m f (w : Int) hd g) 14 0 ((cFt2 T m f (w : Int) hd g) 14 0 + 1)) 8 m + 1)
    have hf5 : f < cN (su (su (cFt2 T m f (w : Int) hd g) 14 0 ((cFt2 T m f (w : Int) hd g) 14 0 + 1)) 8 m ((su (cFt2 T m f (w : Int) hd g) 14 0 ((cFt2 T m f (w : Int) hd g) 14 0 + 1)) 8 m + 1)) 1 := by rw [cN_su _ _ _ (by decide) (by decide) (by decide) (by decide), cN_su _ _ _ (by decide) (by decide) (by decide) (by decide)]; exact hf3
    refine Z.aload_n C dX6_fetch_82 rfl ?_
    refine Z.dup C dX6_fetch_83 rfl ?_
    refine g_X6_139  C rfl dX6_fetch_84 (R5.fil hf5) rfl ?_
    refine Z.iconst C dX6_fetch_87 ?_
    refine Z.iadd C dX6_fetch_88 ?_
    refine p_X6_139 (fs' := [vI ((su (su (cFt2 T m f (w : Int) hd g) 14 0 ((cFt2 T m f (w : Int) hd g) 14 0 + 1)) 8 m ((su (cFt2 T m f (w : Int) hd g) 14 0 ((cFt2 T m f (w : Int) hd g) 14 0 + 1)) 8 m + 1)) 11 f), vI ((su (su (cFt2 T m f (w : Int) hd g) 14 0 ((cFt2 T m f (w : Int) hd g) 14 0 + 1)) 8 m ((su (cFt2 T m f (w : Int) hd g) 14 0 ((cFt2 T m f (w : Int) hd g) 14 0 + 1)) 8 m + 1)) 12 f + 1)]) C rfl  dX6_fetch_89  (R5.fil hf5) (Nat.le_of_ble_eq_true rfl) rfl ?_
    have R6 : CR (zG_of X) ad9 el9 (cFt3 (cFt2 T m f (w : Int) hd g) m f) _ := R5.st12 hf5 ((su (su (cFt2 T m f (w : Int) hd g) 14 0 ((cFt2 T m f (w : Int) hd g) 14 0 + 1)) 8 m ((su (cFt2 T m f (w : Int) hd g) 14 0 ((cFt2 T m f (w : Int) hd g) 14 0 + 1)) 8 m + 1)) 12 f + 1)
    have hcN3 := cFt3_cN (cFt2 T m f (w : Int) hd g) m f
    have hn6 : (cN (cUL T g (cN T 0)) 3) < cN (cFt3 (cFt2 T m f (w : Int) hd g) m f) 3 := by rw [hcN3]; exact hn3
    have h32 : (cFt3 (cFt2 T m f (w : Int) hd g) m f) 32 (cN (cUL T g (cN T 0)) 3) = (w : Int) := by
      unfold cFt3
      rw [su_ne _ _ _ (by decide), su_ne _ _ _ (by decide), su_ne _ _ _ (by decide)]
      exact (congrFun (cKL_s (cFt1 T m f (w : Int) hd g) _ _ 32 (by decide) (by decide)) _).trans (cLog_n _ _ _ _ _ _ _).2.1
    have J111 : ∀ hh : zH, CR (zG_of X) ad9 el9 (cFt T m f (w : Int) hd g) hh → Z X 111 [.ref (ad9 0 0), vI (m : Int), vI (f : Int), .ref (ad9 5 f), .ref (ad9 1 m), .ref (ad9 8 (cN (cUL T g (cN T 0)) 3))] [] hh 5 512 := by
      intro hh R7
      have hI7 : TB (cFt T m f (w : Int) hd g) := by
        unfold cFt
        split
        · exact TB_pc hI3 m f
        · exact hI3
      have hn7 : (cN (cUL T g (cN T 0)) 3) < cN (cFt T m f (w : Int) hd g) 3 := by
        unfold cFt
        split
        · rw [cPC_cN]; exact hn6
        · exact hn6
      refine Z.aload_n C dX6_fetch_111 rfl ?_
      refine Z.aload C dX6_fetch_112 rfl ?_
      refine v_X6_152 C rfl dX6_fetch_114 (R7.club) (c_X6_costOf htr R7 hI7 hn7) (by decide) (Nat.le_of_ble_eq_true rfl) (by rw [hR]; exact Nat.le_of_ble_eq_true rfl) (by rw [hR]; exact Nat.le_of_ble_eq_true rfl) (fun w114 h114 q114 => ?_) (fun _ _ q => q.elim)
      obtain ⟨rfl, q114⟩ := q114
      replace q114 := q114.symm
      subst q114
      exact Z.iret C E dX6_fetch_117 (by decide) (by decide) ⟨rfl, ad9, el9, e0, R7⟩
    refine Z.aload C dX6_fetch_92 rfl ?_
    refine g_X6_142  C rfl dX6_fetch_94 (R6.ent hn6) rfl ?_
    refine Z.way C (i := 2) (by decide) zx_w2 dX6_fetch_97 ?_
    rw [h32]
    refine Z.acmp_ne (tgt := 111) C dX6_fetch_100 (by decide) (fun c100 => ?_) (fun c100 => ?_)
    · have w2 : ¬ (w : Int) = 2 := fun z => c100 (by rw [z]; rfl)
      have hFn : (cFt T m f (w : Int) hd g) = (cFt3 (cFt2 T m f (w : Int) hd g) m f) := if_neg w2
      have R7 := R6
      rw [← hFn] at R7
      exact J111 _ R7
    · have w2 : (w : Int) = 2 := Classical.byContradiction fun z => Z.wayNe C (i := (w : Int).toNat) (j := 2) (by omega) (by decide) (by omega) c100
      refine Z.aload_n C dX6_fetch_103 rfl ?_
      refine Z.aload C dX6_fetch_104 rfl ?_
      refine Z.iload_n C dX6_fetch_106 rfl ?_
      refine Z.aload_n C dX6_fetch_107 rfl ?_
      refine v_X6_148 C rfl dX6_fetch_108 (R6.club) (c_X6_putIntoCache_ok htr R6 hI3 (m := m) (f := f) (by rw [hcN3]; exact hm3) (by rw [hcN3]; exact hf3)) (by decide) (Nat.le_of_ble_eq_true rfl) (by rw [hR]; exact Nat.le_of_ble_eq_true rfl) (by rw [hR]; exact Nat.le_of_ble_eq_true rfl) (fun w108 h108 q108 => ?_) (fun _ _ q => q.elim)
      obtain ⟨rfl, R7⟩ := q108
      replace R7 : CR (zG_of X) ad9 el9 (cFt T m f (w : Int) hd g) h108 := by unfold cFt; rw [if_pos w2]; exact R7
      exact J111 _ R7
  · exfalso; omega

set_option maxRecDepth 100000 in
theorem c_X6_fetch_x1 {ln : Launch} (htr : ln.stackTraces = false) {G : zG} {h : zH} {ad : Nat → Nat → Nat} {el : Nat → Nat} {T : Nat → Nat → Int} (R : CR G ad el T h) (I : TB T) {m f : Int} (hr : -2147483648 ≤ f ∧ f < 2147483648) (hf : ¬ (0 ≤ f ∧ f < cN T 1)) : CT ln G yX6_fetch cX6_fetch 6 (some .int) 10 ([.ref (ad 0 0), vI m, vI f]) h 6 518 (fun _ _ => False) (fun E9 h9 => E9 = "java/lang/IndexOutOfBoundsException" ∧ h9 = h) := by
  refine CT.intro htr (by decide) rfl (Nat.le_of_ble_eq_true rfl) ?_
  intro X hln hG hR hN C E
  subst hln
  subst hG
  have hn9 := I.n
  refine Z.aload_n C dX6_fetch_0 rfl ?_
  refine Z.iload_n C dX6_fetch_1 rfl ?_
  refine v_X6_118 C rfl dX6_fetch_2 (R.club) (c_X6_filmAt_no htr R I hr hf) (by decide) (Nat.le_of_ble_eq_true rfl) (by rw [hR]; exact Nat.le_of_ble_eq_true rfl) (by rw [hR]; exact Nat.le_of_ble_eq_true rfl) (fun w2 h2 q2 => ?_) (fun E9 h9 q9 => by obtain ⟨rfl, rfl⟩ := q9; exact ZT.out C E (by decide) (by decide) ⟨rfl, rfl⟩)
  exact q2.elim
  

set_option maxRecDepth 100000 in
theorem c_X6_fetch_x2 {ln : Launch} (htr : ln.stackTraces = false) {G : zG} {h : zH} {ad : Nat → Nat → Nat} {el : Nat → Nat} {T : Nat → Nat → Int} (R : CR G ad el T h) (I : TB T) {f : Nat} {m : Int} (hf : f < cN T 1) (hr : -2147483648 ≤ m ∧ m < 2147483648) (hm : ¬ (0 ≤ m ∧ m < cN T 0)) : CT ln G yX6_fetch cX6_fetch 6 (some .int) 10 ([.ref (ad 0 0), vI m, vI (f : Int)]) h 6 518 (fun _ _ => False) (fun E9 h9 => E9 = "java/lang/IndexOutOfBoundsException" ∧ h9 = h) := by
  refine CT.intro htr (by decide) rfl (Nat.le_of_ble_eq_true rfl) ?_
  intro X hln hG hR hN C E
  subst hln
  subst hG
  have hn9 := I.n
  refine Z.aload_n C dX6_fetch_0 rfl ?_
  refine Z.iload_n C dX6_fetch_1 rfl ?_
  refine v_X6_118 C rfl dX6_fetch_2 (R.club) (c_X6_filmAt_ok htr R I hf) (by decide) (Nat.le_of_ble_eq_true rfl) (by rw [hR]; exact Nat.le_of_ble_eq_true rfl) (by rw [hR]; exact Nat.le_of_ble_eq_true rfl) (fun w2 h2 q2 => ?_) (fun _ _ q => q.elim)
  obtain ⟨rfl, q2⟩ := q2
  replace q2 := q2.symm
  subst q2
  refine Z.astore_n (l' := [_, _, _, _]) C dX6_fetch_5 (Nat.le_of_ble_eq_true rfl) (by rw [hN]; decide) rfl ?_
  refine Z.aload_n C dX6_fetch_6 rfl ?_
  refine Z.iload_n C dX6_fetch_7 rfl ?_
  refine v_X6_59 C rfl dX6_fetch_8 (R.club) (c_X6_memberInClub_no htr R I hr hm) (by decide) (Nat.le_of_ble_eq_true rfl) (by rw [hR]; exact Nat.le_of_ble_eq_true rfl) (by rw [hR]; exact Nat.le_of_ble_eq_true rfl) (fun w8 h8 q8 => ?_) (fun E9 h9 q9 => by obtain ⟨rfl, rfl⟩ := q9; exact ZT.out C E (by decide) (by decide) ⟨rfl, rfl⟩)
  exact q8.elim
  

set_option maxRecDepth 100000 in
theorem c_X6_fetch_x3 {ln : Launch} (htr : ln.stackTraces = false) {G : zG} {h : zH} {ad : Nat → Nat → Nat} {el : Nat → Nat} {T : Nat → Nat → Int} (R : CR G ad el T h) (I : TB T) {m f : Nat} (hm : m < cN T 0) (hf : f < cN T 1) (h3 : T 3 m = 0) : CT ln G yX6_fetch cX6_fetch 6 (some .int) 10 ([.ref (ad 0 0), vI (m : Int), vI (f : Int)]) h 6 518 (fun _ _ => False) (fun E9 h9 => E9 = "java/lang/IllegalStateException" ∧ h9 = h) := by
  refine CT.intro htr (by decide) rfl (Nat.le_of_ble_eq_true rfl) ?_
  intro X hln hG hR hN C E
  subst hln
  subst hG
  have hn9 := I.n
  refine Z.aload_n C dX6_fetch_0 rfl ?_
  refine Z.iload_n C dX6_fetch_1 rfl ?_
  refine v_X6_118 C rfl dX6_fetch_2 (R.club) (c_X6_filmAt_ok htr R I hf) (by decide) (Nat.le_of_ble_eq_true rfl) (by rw [hR]; exact Nat.le_of_ble_eq_true rfl) (by rw [hR]; exact Nat.le_of_ble_eq_true rfl) (fun w2 h2 q2 => ?_) (fun _ _ q => q.elim)
  obtain ⟨rfl, q2⟩ := q2
  replace q2 := q2.symm
  subst q2
  refine Z.astore_n (l' := [_, _, _, _]) C dX6_fetch_5 (Nat.le_of_ble_eq_true rfl) (by rw [hN]; decide) rfl ?_
  refine Z.aload_n C dX6_fetch_6 rfl ?_
  refine Z.iload_n C dX6_fetch_7 rfl ?_
  refine v_X6_59 C rfl dX6_fetch_8 (R.club) (c_X6_memberInClub_out htr R I hm h3) (by decide) (Nat.le_of_ble_eq_true rfl) (by rw [hR]; exact Nat.le_of_ble_eq_true rfl) (by rw [hR]; exact Nat.le_of_ble_eq_true rfl) (fun w8 h8 q8 => ?_) (fun E9 h9 q9 => by obtain ⟨rfl, rfl⟩ := q9; exact ZT.out C E (by decide) (by decide) ⟨rfl, rfl⟩)
  exact q8.elim
  

set_option maxRecDepth 100000 in
theorem c_X6_fetch_x4 {ln : Launch} (htr : ln.stackTraces = false) {G : zG} {h : zH} {ad : Nat → Nat → Nat} {el : Nat → Nat} {T : Nat → Nat → Int} (R : CR G ad el T h) (I : TB T) {m f : Nat} (hm : m < cN T 0) (hf : f < cN T 1) (h3 : ¬ T 3 m = 0) (h14 : ¬ T 14 0 < 300) : CT ln G yX6_fetch cX6_fetch 6 (some .int) 10 ([.ref (ad 0 0), vI (m : Int), vI (f : Int)]) h 6 518 (fun _ _ => False) (fun E9 h9 => E9 = "java/lang/IllegalStateException" ∧ h9 = h) := by
  refine CT.intro htr (by decide) rfl (Nat.le_of_ble_eq_true rfl) ?_
  intro X hln hG hR hN C E
  subst hln
  subst hG
  have hn9 := I.n
  have h14b : 0 ≤ T 14 0 ∧ T 14 0 ≤ thi 14 := I.1 14 0 (by decide) (by decide) (by decide)
  simp only [thi] at h14b
  refine Z.aload_n C dX6_fetch_0 rfl ?_
  refine Z.iload_n C dX6_fetch_1 rfl ?_
  refine v_X6_118 C rfl dX6_fetch_2 (R.club) (c_X6_filmAt_ok htr R I hf) (by decide) (Nat.le_of_ble_eq_true rfl) (by rw [hR]; exact Nat.le_of_ble_eq_true rfl) (by rw [hR]; exact Nat.le_of_ble_eq_true rfl) (fun w2 h2 q2 => ?_) (fun _ _ q => q.elim)
  obtain ⟨rfl, q2⟩ := q2
  replace q2 := q2.symm
  subst q2
  refine Z.astore_n (l' := [_, _, _, _]) C dX6_fetch_5 (Nat.le_of_ble_eq_true rfl) (by rw [hN]; decide) rfl ?_
  refine Z.aload_n C dX6_fetch_6 rfl ?_
  refine Z.iload_n C dX6_fetch_7 rfl ?_
  refine v_X6_59 C rfl dX6_fetch_8 (R.club) (c_X6_memberInClub_ok htr R I hm h3) (by decide) (Nat.le_of_ble_eq_true rfl) (by rw [hR]; exact Nat.le_of_ble_eq_true rfl) (by rw [hR]; exact Nat.le_of_ble_eq_true rfl) (fun w8 h8 q8 => ?_) (fun _ _ q => q.elim)
  obtain ⟨rfl, q8⟩ := q8
  replace q8 := q8.symm
  subst q8
  refine Z.astore (l' := [_, _, _, _, _]) C dX6_fetch_11 (Nat.le_of_ble_eq_true rfl) (by rw [hN]; decide) rfl ?_
  refine Z.aload_n C dX6_fetch_13 rfl ?_
  refine g_X6_29  C rfl dX6_fetch_14 (R.club) rfl ?_
  refine Z.sipush C dX6_fetch_17 (by decide) ?_
  refine Z.icmp_lt (tgt := 33) C dX6_fetch_20 (by decide) (by omega) (by omega) (by omega) (by omega) (fun c20 => ?_) (fun c20 => ?_)
  · exfalso; omega
  · exact Z.xISE C E rfl (by decide +kernel : (RX6, 122, "300 films were fetched") ∈ zTexts) dX6_fetch_23 dX6_fetch_26 dX6_fetch_27 dX6_fetch_29 dX6_fetch_32 (by decide) (Nat.le_of_ble_eq_true rfl) (by decide) (by decide) (by rw [hR]; exact Nat.le_of_ble_eq_true rfl) (by rw [hR]; exact Nat.le_of_ble_eq_true rfl) ⟨rfl, rfl⟩

set_option maxRecDepth 100000 in
theorem c_X6_fetch_x5 {ln : Launch} (htr : ln.stackTraces = false) {G : zG} {h : zH} {ad : Nat → Nat → Nat} {el : Nat → Nat} {T : Nat → Nat → Int} (R : CR G ad el T h) (I : TB T) {m f : Nat} (hm : m < cN T 0) (hf : f < cN T 1) (h3 : ¬ T 3 m = 0) (h14 : T 14 0 < 300) (h0 : T 13 (20 * m + f) = 0) (hnl : ∀ l : Nat, cMF T (fun _ => (0 : Int)) (f : Int) (cN T 0) = (l : Int) → T 5 l < T 11 f) (hA : ¬ T 11 f ≤ cA T (cN T 0)) : CT ln G yX6_fetch cX6_fetch 6 (some .int) 10 ([.ref (ad 0 0), vI (m : Int), vI (f : Int)]) h 6 518 (fun _ _ => False) (fun E9 h9 => E9 = "java/lang/IllegalStateException" ∧ ∀ q, h q ≠ none → h9 q = h q) := by
  refine CT.intro htr (by decide) rfl (Nat.le_of_ble_eq_true rfl) ?_
  intro X hln hG hR hN C E
  subst hln
  subst hG
  have hn9 := I.n
  have h14b : 0 ≤ T 14 0 ∧ T 14 0 ≤ thi 14 := I.1 14 0 (by decide) (by decide) (by decide)
  simp only [thi] at h14b
  have h11b : 0 ≤ T 11 f ∧ T 11 f ≤ thi 11 := I.1 11 f (by decide) (by decide) (by decide)
  simp only [thi] at h11b
  refine Z.aload_n C dX6_fetch_0 rfl ?_
  refine Z.iload_n C dX6_fetch_1 rfl ?_
  refine v_X6_118 C rfl dX6_fetch_2 (R.club) (c_X6_filmAt_ok htr R I hf) (by decide) (Nat.le_of_ble_eq_true rfl) (by rw [hR]; exact Nat.le_of_ble_eq_true rfl) (by rw [hR]; exact Nat.le_of_ble_eq_true rfl) (fun w2 h2 q2 => ?_) (fun _ _ q => q.elim)
  obtain ⟨rfl, q2⟩ := q2
  replace q2 := q2.symm
  subst q2
  refine Z.astore_n (l' := [_, _, _, _]) C dX6_fetch_5 (Nat.le_of_ble_eq_true rfl) (by rw [hN]; decide) rfl ?_
  refine Z.aload_n C dX6_fetch_6 rfl ?_
  refine Z.iload_n C dX6_fetch_7 rfl ?_
  refine v_X6_59 C rfl dX6_fetch_8 (R.club) (c_X6_memberInClub_ok htr R I hm h3) (by decide) (Nat.le_of_ble_eq_true rfl) (by rw [hR]; exact Nat.le_of_ble_eq_true rfl) (by rw [hR]; exact Nat.le_of_ble_eq_true rfl) (fun w8 h8 q8 => ?_) (fun _ _ q => q.elim)
  obtain ⟨rfl, q8⟩ := q8
  replace q8 := q8.symm
  subst q8
  refine Z.astore (l' := [_, _, _, _, _]) C dX6_fetch_11 (Nat.le_of_ble_eq_true rfl) (by rw [hN]; decide) rfl ?_
  refine Z.aload_n C dX6_fetch_13 rfl ?_
  refine g_X6_29  C rfl dX6_fetch_14 (R.club) rfl ?_
  refine Z.sipush C dX6_fetch_17 (by decide) ?_
  refine Z.icmp_lt (tgt := 33) C dX6_fetch_20 (by decide) (by omega) (by omega) (by omega) (by omega) (fun c20 => ?_) (fun c20 => ?_)
  · refine Z.aload_n C dX6_fetch_33 rfl ?_
    refine Z.aload C dX6_fetch_34 rfl ?_
    refine Z.iload_n C dX6_fetch_36 rfl ?_
    refine Z.aload_n C dX6_fetch_37 rfl ?_
    refine g_X6_124  C rfl dX6_fetch_38 (R.fil hf) rfl ?_
    refine v_X6_126 C rfl dX6_fetch_41 (R.club) (c_X6_planFetch_x htr R I hm (show f < 20 by omega) (by omega) h0 hnl hA) (by decide) (Nat.le_of_ble_eq_true rfl) (by rw [hR]; exact Nat.le_of_ble_eq_true rfl) (by rw [hR]; exact Nat.le_of_ble_eq_true rfl) (fun w41 h41 q41 => ?_) (fun E9 h9 q9 => by obtain ⟨rfl, q9⟩ := q9; exact ZT.out C E (by decide) (by decide) ⟨rfl, q9⟩)
    exact q41.elim
    
  · exfalso; omega

