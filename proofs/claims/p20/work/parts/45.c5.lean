theorem zx_w0 : Cond.fieldLink RX6 259 "Bandwidthclub$Way" (zWayN 0) zWayD ∈ zW := zW_of 525 (by decide +kernel) (by decide +kernel)
theorem zx_w1 : Cond.fieldLink RX6 265 "Bandwidthclub$Way" (zWayN 1) zWayD ∈ zW := zW_of 429 (by decide +kernel) (by decide +kernel)
theorem zx_w2 : Cond.fieldLink RX6 145 "Bandwidthclub$Way" (zWayN 2) zWayD ∈ zW := zW_of 442 (by decide +kernel) (by decide +kernel)
theorem zx_w3 : Cond.fieldLink RX6 68 "Bandwidthclub$Way" (zWayN 3) zWayD ∈ zW := zW_of 385 (by decide +kernel) (by decide +kernel)
theorem ifx (p : Prop) [Decidable p] : ∃ w : Int, (if p then (1 : Int) else 0) = w ∧ (0 ≤ w ∧ w ≤ 1) ∧ (w = 0 ↔ ¬ p) := by
  by_cases hp : p
  · exact ⟨1, if_pos hp, by decide, by simp [hp]⟩
  · exact ⟨0, if_neg hp, by decide, by simp [hp]⟩
/-- the proposal in force that counts -/
def cVF (T : Nat → Nat → Int) (r hr : Int) : Nat → Int
  | 0 => -1
  | n + 1 => if (T 17 n = r ∧ T 16 n = 1 ∧ T 19 n ≤ hr) ∧ (cVF T r hr n = -1 ∨ T 19 (cVF T r hr n).toNat ≤ T 19 n) then n else cVF T r hr n
theorem cVF_b (T : Nat → Nat → Int) (r hr : Int) : ∀ n : Nat, -1 ≤ cVF T r hr n ∧ cVF T r hr n < n
  | 0 => ⟨Int.le_refl _, show (-1 : Int) < ((0 : Nat) : Int) by decide⟩
  | n + 1 => by
    have := cVF_b T r hr n
    rw [cVF]
    split <;> omega
def cvl (T : Nat → Nat → Int) (r f : Int) : Int := if f = -1 then zFirst r.toNat else T 18 f.toNat
def cvt (T : Nat → Nat → Int) (f : Int) : Int := if f = -1 then 0 else T 19 f.toNat
theorem cvl_n (T : Nat → Nat → Int) (r : Int) (n : Nat) : cvl T r (n : Int) = T 18 n := by unfold cvl; rw [if_neg (by omega), Int.toNat_natCast]
theorem cvt_n (T : Nat → Nat → Int) (n : Nat) : cvt T (n : Int) = T 19 n := by unfold cvt; rw [if_neg (by omega), Int.toNat_natCast]
theorem cvt_c (T : Nat → Nat → Int) (f : Int) : (f = -1 ∧ cvt T f = 0) ∨ (¬ f = -1 ∧ cvt T f = T 19 f.toNat) := by
  unfold cvt
  by_cases c : f = -1
  · exact Or.inl ⟨c, if_pos c⟩
  · exact Or.inr ⟨c, if_neg c⟩
def cval (T : Nat → Nat → Int) (r hr : Int) : Int := cvl T r (cVF T r hr (cN T 2))
theorem zFirst_b (n : Nat) : 0 ≤ zFirst n ∧ zFirst n ≤ 9 := by unfold zFirst; (repeat' split) <;> decide
theorem cvl_b {T : Nat → Nat → Int} (I : TB T) (r f : Int) : 0 ≤ cvl T r f ∧ cvl T r f ≤ 9 := by
  unfold cvl
  split
  · exact zFirst_b _
  · exact I.1 18 _ (by decide) (by decide) (by decide)
/-- units in a cache of films worth w or more -/
def cU (T : Nat → Nat → Int) (m : Nat) (w : Int) : Nat → Int
  | 0 => 0
  | n + 1 => cU T m w n + if ¬ T 13 (20 * m + n) = 0 ∧ w ≤ T 12 n then T 11 n else 0
theorem cU_b {T : Nat → Nat → Int} (I : TB T) (m : Nat) (w : Int) : ∀ n : Nat, 0 ≤ cU T m w n ∧ cU T m w n ≤ 20 * n
  | 0 => ⟨Int.le_refl _, Int.le_refl _⟩
  | n + 1 => by
    have h1 := cU_b I m w n
    have h2 : 0 ≤ T 11 n ∧ T 11 n ≤ 20 := I.1 11 n (by decide) (by decide) (by decide)
    rw [cU]
    split <;> omega
/-- the film in a cache that is worth least -/
def cLF (T : Nat → Nat → Int) (m : Nat) : Nat → Int
  | 0 => -1
  | n + 1 => if ¬ T 13 (20 * m + n) = 0 ∧ (cLF T m n = -1 ∨ T 12 n < T 12 (cLF T m n).toNat) then n else cLF T m n
theorem cLF_b (T : Nat → Nat → Int) (m : Nat) : ∀ n : Nat, -1 ≤ cLF T m n ∧ cLF T m n < n
  | 0 => ⟨Int.le_refl _, show (-1 : Int) < ((0 : Nat) : Int) by decide⟩
  | n + 1 => by
    have := cLF_b T m n
    rw [cLF]
    split <;> omega
def cll (T : Nat → Nat → Int) (f : Int) : Int := if f = -1 then 0 else T 12 f.toNat
theorem cll_n (T : Nat → Nat → Int) (n : Nat) : cll T (n : Int) = T 12 n := by unfold cll; rw [if_neg (by omega), Int.toNat_natCast]
theorem cll_c (T : Nat → Nat → Int) (f : Int) : (f = -1 ∧ cll T f = 0) ∨ (¬ f = -1 ∧ cll T f = T 12 f.toNat) := by
  unfold cll
  by_cases c : f = -1
  · exact Or.inl ⟨c, if_pos c⟩
  · exact Or.inr ⟨c, if_neg c⟩
/-- all that is left -/
def cA (T : Nat → Nat → Int) : Nat → Int
  | 0 => 0
  | n + 1 => cA T n + T 5 n
theorem cA_b {T : Nat → Nat → Int} (I : TB T) : ∀ n : Nat, 0 ≤ cA T n ∧ cA T n ≤ 20 * n
  | 0 => ⟨Int.le_refl _, Int.le_refl _⟩
  | n + 1 => by
    have h1 := cA_b I n
    have h2 : 0 ≤ T 5 n ∧ T 5 n ≤ 20 := I.1 5 n (by decide) (by decide) (by decide)
    rw [cA]
    omega
/-- who has most left beside g -/
def cMF (T : Nat → Nat → Int) (g : Nat → Int) (fm : Int) : Nat → Int
  | 0 => -1
  | n + 1 => if (if cMF T g fm n = -1 then 0 else T 5 (cMF T g fm n).toNat - g (cMF T g fm n).toNat) < T 5 n - g n ∧ (fm = -1 ∨ ¬ T 13 (20 * n + fm.toNat) = 0) then n else cMF T g fm n
theorem cMF_b (T : Nat → Nat → Int) (g : Nat → Int) (fm : Int) : ∀ n : Nat, -1 ≤ cMF T g fm n ∧ cMF T g fm n < n
  | 0 => ⟨Int.le_refl _, show (-1 : Int) < ((0 : Nat) : Int) by decide⟩
  | n + 1 => by
    have := cMF_b T g fm n
    rw [cMF]
    split <;> omega
def cml (T : Nat → Nat → Int) (g : Nat → Int) (f : Int) : Int := if f = -1 then 0 else T 5 f.toNat - g f.toNat
theorem cml_n (T : Nat → Nat → Int) (g : Nat → Int) (n : Nat) : cml T g (n : Int) = T 5 n - g n := by unfold cml; rw [if_neg (by omega), Int.toNat_natCast]
theorem cml_b {T : Nat → Nat → Int} (I : TB T) {g : Nat → Int} (hg : ∀ j, 0 ≤ g j ∧ g j ≤ 20) (f : Int) : -20 ≤ cml T g f ∧ cml T g f ≤ 20 := by
  have h1 : 0 ≤ T 5 f.toNat ∧ T 5 f.toNat ≤ 20 := I.1 5 _ (by decide) (by decide) (by decide)
  have h2 := hg f.toNat
  unfold cml
  split <;> omega
theorem cMF_succ (T : Nat → Nat → Int) (g : Nat → Int) (fm : Int) (n : Nat) : cMF T g fm (n + 1) = if cml T g (cMF T g fm n) < T 5 n - g n ∧ (fm = -1 ∨ ¬ T 13 (20 * n + fm.toNat) = 0) then (n : Int) else cMF T g fm n := rfl
def cCost (T : Nat → Nat → Int) (e : Nat) : Int := if T 32 e = 1 then T 35 e * cval T 2 (T 33 e) else if T 32 e = 2 then T 35 e * cval T (if 18 ≤ T 33 e % 24 ∧ T 33 e % 24 ≤ 22 then 0 else 1) (T 33 e) else 0

set_option maxRecDepth 100000 in
theorem c_X6_countInClub {ln : Launch} (htr : ln.stackTraces = false) {G : zG} {h : zH} {ad : Nat → Nat → Nat} {el : Nat → Nat} {T : Nat → Nat → Int} (R : CR G ad el T h) (I : TB T) : CT ln G yX6_countInClub cX6_countInClub 3 (some .int) 4 ([.ref (ad 0 0)]) h 0 0 (fun r9 h9 => r9 = some (vI (mmany T (cN T 0))) ∧ h9 = h) zNo := by
  refine CT.intro htr (by decide) rfl (Nat.le_of_ble_eq_true rfl) ?_
  intro X hln hG hR hN C E
  subst hln
  subst hG
  have hn9 := I.n
  refine Z.iconst C dX6_countInClub_0 ?_
  refine Z.istore_n (l' := [_, _]) C dX6_countInClub_1 (Nat.le_of_ble_eq_true rfl) (by rw [hN]; decide) rfl ?_
  refine Z.iconst C dX6_countInClub_2 ?_
  refine Z.istore_n (l' := [_, _, _]) C dX6_countInClub_3 (Nat.le_of_ble_eq_true rfl) (by rw [hN]; decide) rfl ?_
  have L : ∀ (q i : Nat), i + q = cN T 0 → Z X 4 [.ref (ad 0 0), vI (mmany T i), vI (i : Int)] [] h 0 0 := by
    intro q
    induction q with
    | zero =>
      intro i hi
      have h3 : 0 ≤ T 3 i ∧ T 3 i ≤ thi 3 := I.1 3 i (by decide) (by decide) (by decide)
      simp only [thi] at h3
      have hcb := mmany_b T i
      refine Z.iload_n C dX6_countInClub_4 rfl ?_
      refine Z.aload_n C dX6_countInClub_5 rfl ?_
      refine g_X6_10  C rfl dX6_countInClub_6 (R.club) rfl ?_
      refine v_X6_41 C rfl dX6_countInClub_9 (R.lMo.choose_spec) (c_size htr R.lM) (by decide) (Nat.le_of_ble_eq_true rfl) (by rw [hR]; exact Nat.le_of_ble_eq_true rfl) (by rw [hR]; exact Nat.le_of_ble_eq_true rfl) (fun w9 h9 q9 => ?_) (fun _ _ q => q.elim)
      obtain ⟨rfl, q9⟩ := q9
      replace q9 := q9.symm
      subst q9
      refine Z.icmp_ge (tgt := 41) C dX6_countInClub_12 (by decide) (by omega) (by omega) (by omega) (by omega) (fun c12 => ?_) (fun c12 => ?_)
      · refine Z.iload_n C dX6_countInClub_41 rfl ?_
        exact Z.iret C E dX6_countInClub_42 (by decide) (by decide) ⟨by rw [show i = cN T 0 by omega], rfl⟩
      · exfalso; omega
    | succ q ih =>
      intro i hi
      have h3 : 0 ≤ T 3 i ∧ T 3 i ≤ thi 3 := I.1 3 i (by decide) (by decide) (by decide)
      simp only [thi] at h3
      have hcb := mmany_b T i
      refine Z.iload_n C dX6_countInClub_4 rfl ?_
      refine Z.aload_n C dX6_countInClub_5 rfl ?_
      refine g_X6_10  C rfl dX6_countInClub_6 (R.club) rfl ?_
      refine v_X6_41 C rfl dX6_countInClub_9 (R.lMo.choose_spec) (c_size htr R.lM) (by decide) (Nat.le_of_ble_eq_true rfl) (by rw [hR]; exact Nat.le_of_ble_eq_true rfl) (by rw [hR]; exact Nat.le_of_ble_eq_true rfl) (fun w9 h9 q9 => ?_) (fun _ _ q => q.elim)
      obtain ⟨rfl, q9⟩ := q9
      replace q9 := q9.symm
      subst q9
      refine Z.icmp_ge (tgt := 41) C dX6_countInClub_12 (by decide) (by omega) (by omega) (by omega) (by omega) (fun c12 => ?_) (fun c12 => ?_)
      · exfalso; omega
      · refine Z.aload_n C dX6_countInClub_15 rfl ?_
        refine g_X6_10  C rfl dX6_countInClub_16 (R.club) rfl ?_
        refine Z.iload_n C dX6_countInClub_19 rfl ?_
        refine v_X6_84 C rfl dX6_countInClub_20 (R.lMo.choose_spec) (c_getN htr R.lM (by omega)) (by decide) (Nat.le_of_ble_eq_true rfl) (by rw [hR]; exact Nat.le_of_ble_eq_true rfl) (by rw [hR]; exact Nat.le_of_ble_eq_true rfl) (fun w20 h20 q20 => ?_) (fun _ _ q => q.elim)
        obtain ⟨rfl, q20⟩ := q20
        replace q20 := q20.symm
        subst q20
        refine k_X6_50 C rfl dX6_countInClub_23 (R.mem (by omega)) ?_
        refine g_X6_198  C rfl dX6_countInClub_26 (R.mem (by omega)) rfl ?_
        refine Z.if_eq (tgt := 35) C dX6_countInClub_29 (by decide) (by omega) (by omega) (fun c29 => ?_) (fun c29 => ?_)
        · refine Z.iinc (l' := [_, _, _]) C dX6_countInClub_35 rfl (Nat.le_of_ble_eq_true rfl) (by rw [hN]; decide) rfl ?_
          refine Z.goto (tgt := 4) C dX6_countInClub_38 (by decide) ?_
          have e9 := ih (i + 1) (by omega)
          simp only [mmany] at e9
          first | (rw [if_neg (by omega)] at e9; exact e9) | (rw [if_pos (by omega), Int.add_zero] at e9; exact e9)
        · refine Z.iinc (l' := [_, _, _]) C dX6_countInClub_32 rfl (Nat.le_of_ble_eq_true rfl) (by rw [hN]; decide) rfl ?_
          refine Z.iinc (l' := [_, _, _]) C dX6_countInClub_35 rfl (Nat.le_of_ble_eq_true rfl) (by rw [hN]; decide) rfl ?_
          refine Z.goto (tgt := 4) C dX6_countInClub_38 (by decide) ?_
          have e9 := ih (i + 1) (by omega)
          simp only [mmany] at e9
          first | (rw [if_neg (by omega)] at e9; exact e9) | (rw [if_pos (by omega), Int.add_zero] at e9; exact e9)
  exact L _ 0 (Nat.zero_add _)

set_option maxRecDepth 100000 in
theorem c_X6_isEvening {ln : Launch} (htr : ln.stackTraces = false) {G : zG} {h : zH} {x : Int} (hx : 0 ≤ x ∧ x ≤ 3000) : CT ln G yX6_isEvening cX6_isEvening 2 (some .boolean) 1 ([vI x]) h 0 0 (fun r9 h9 => r9 = some (vI (if 18 ≤ x % 24 ∧ x % 24 ≤ 22 then 1 else 0)) ∧ h9 = h) zNo := by
  refine CT.intro htr (by decide) rfl (Nat.le_of_ble_eq_true rfl) ?_
  intro X hln hG hR hN C E
  subst hln
  subst hG
  refine Z.iload_n C dX6_isEvening_0 rfl ?_
  refine Z.bipush C dX6_isEvening_1 (by decide) ?_
  refine Z.irem (z := (x % 24)) C dX6_isEvening_3 (by decide) (jI_rem10 (by omega) (by omega) 24 (by decide) (by decide)) ?_
  refine Z.istore_n (l' := [_, _]) C dX6_isEvening_4 (Nat.le_of_ble_eq_true rfl) (by rw [hN]; decide) rfl ?_
  refine Z.iload_n C dX6_isEvening_5 rfl ?_
  refine Z.bipush C dX6_isEvening_6 (by decide) ?_
  refine Z.icmp_lt (tgt := 21) C dX6_isEvening_8 (by decide) (by omega) (by omega) (by omega) (by omega) (fun c8 => ?_) (fun c8 => ?_)
  · refine Z.iconst C dX6_isEvening_21 ?_
    exact Z.zret C E dX6_isEvening_22 rfl (by decide) (by decide) ⟨by first | (rw [if_pos (by omega)]; done) | rw [if_neg (by omega)], rfl⟩
  · refine Z.iload_n C dX6_isEvening_11 rfl ?_
    refine Z.bipush C dX6_isEvening_12 (by decide) ?_
    refine Z.icmp_gt (tgt := 21) C dX6_isEvening_14 (by decide) (by omega) (by omega) (by omega) (by omega) (fun c14 => ?_) (fun c14 => ?_)
    · refine Z.iconst C dX6_isEvening_21 ?_
      exact Z.zret C E dX6_isEvening_22 rfl (by decide) (by decide) ⟨by first | (rw [if_pos (by omega)]; done) | rw [if_neg (by omega)], rfl⟩
    · refine Z.iconst C dX6_isEvening_17 ?_
      refine Z.goto (tgt := 22) C dX6_isEvening_18 (by decide) ?_
      exact Z.zret C E dX6_isEvening_22 rfl (by decide) (by decide) ⟨by first | (rw [if_pos (by omega)]; done) | rw [if_neg (by omega)], rfl⟩

set_option maxRecDepth 100000 in
theorem c_X6_valueIn {ln : Launch} (htr : ln.stackTraces = false) {G : zG} {h : zH} {ad : Nat → Nat → Nat} {el : Nat → Nat} {T : Nat → Nat → Int} (R : CR G ad el T h) (I : TB T) {r hr : Int} (h1 : 0 ≤ r ∧ r < 3) (h2 : 0 ≤ hr ∧ hr ≤ 2000) : CT ln G yX6_valueIn cX6_valueIn 7 (some .int) 4 ([.ref (ad 0 0), vI r, vI hr]) h 0 0 (fun r9 h9 => r9 = some (vI (cval T r hr)) ∧ h9 = h) zNo := by
  refine CT.intro htr (by decide) rfl (Nat.le_of_ble_eq_true rfl) ?_
  intro X hln hG hR hN C E
  subst hln
  subst hG
  have hn9 := I.n
  refine Z.iload_n C dX6_valueIn_0 rfl ?_
  refine Z.if_lt (tgt := 12) C dX6_valueIn_1 (by decide) (by omega) (by omega) (fun c1 => ?_) (fun c1 => ?_)
  · exfalso; omega
  · refine Z.iload_n C dX6_valueIn_4 rfl ?_
    refine Z.first C zx_first dX6_valueIn_5 ?_
    refine Z.firstLen C dX6_valueIn_8 ?_
    refine Z.icmp_lt (tgt := 14) C dX6_valueIn_9 (by decide) (by omega) (by omega) (by omega) (by omega) (fun c9 => ?_) (fun c9 => ?_)
    · refine Z.first C zx_first dX6_valueIn_14 ?_
      refine Z.iload_n C dX6_valueIn_17 rfl ?_
      refine Z.firstAt C (by omega) (by omega) dX6_valueIn_18 ?_
      refine Z.istore_n (l' := [_, _, _, _]) C dX6_valueIn_19 (Nat.le_of_ble_eq_true rfl) (by rw [hN]; decide) rfl ?_
      refine Z.iconst C dX6_valueIn_20 ?_
      refine Z.istore (l' := [_, _, _, _, _]) C dX6_valueIn_21 (Nat.le_of_ble_eq_true rfl) (by rw [hN]; decide) rfl ?_
      refine Z.iconst C dX6_valueIn_23 ?_
      refine Z.istore (l' := [_, _, _, _, _, _]) C dX6_valueIn_24 (Nat.le_of_ble_eq_true rfl) (by rw [hN]; decide) rfl ?_
      have L : ∀ (q i : Nat), i + q = cN T 2 → Z X 26 [.ref (ad 0 0), vI r, vI hr, vI (cvl T r (cVF T r hr i)), vI (cvt T (cVF T r hr i)), vI (i : Int)] [] h 0 0 := by
        intro q
        induction q with
        | zero =>
          intro i hi
          have h16 : 0 ≤ T 16 i ∧ T 16 i ≤ thi 16 := I.1 16 i (by decide) (by decide) (by decide)
          simp only [thi] at h16
          have h17 : 0 ≤ T 17 i ∧ T 17 i ≤ thi 17 := I.1 17 i (by decide) (by decide) (by decide)
          simp only [thi] at h17
          have h19 : 0 ≤ T 19 i ∧ T 19 i ≤ thi 19 := I.1 19 i (by decide) (by decide) (by decide)
          simp only [thi] at h19
          have h19f : 0 ≤ T 19 (cVF T r hr i).toNat ∧ T 19 (cVF T r hr i).toNat ≤ thi 19 := I.1 19 (cVF T r hr i).toNat (by decide) (by decide) (by decide)
          simp only [thi] at h19f
          have hcb := cVF_b T r hr i
          have hct := cvt_c T (cVF T r hr i)
          refine Z.iload C dX6_valueIn_26 rfl ?_
          refine Z.aload_n C dX6_valueIn_28 rfl ?_
          refine g_X6_19  C rfl dX6_valueIn_29 (R.club) rfl ?_
          refine v_X6_41 C rfl dX6_valueIn_32 (R.lPo.choose_spec) (c_size htr R.lP) (by decide) (Nat.le_of_ble_eq_true rfl) (by rw [hR]; exact Nat.le_of_ble_eq_true rfl) (by rw [hR]; exact Nat.le_of_ble_eq_true rfl) (fun w32 h32 q32 => ?_) (fun _ _ q => q.elim)
          obtain ⟨rfl, q32⟩ := q32
          replace q32 := q32.symm
          subst q32
          refine Z.icmp_ge (tgt := 99) C dX6_valueIn_35 (by decide) (by omega) (by omega) (by omega) (by omega) (fun c35 => ?_) (fun c35 => ?_)
          · refine Z.iload_n C dX6_valueIn_99 rfl ?_
            exact Z.iret C E dX6_valueIn_100 (by decide) (by decide) ⟨by rw [show i = cN T 2 by omega]; rfl, rfl⟩
          · exfalso; omega
        | succ q ih =>
          intro i hi
          have h16 : 0 ≤ T 16 i ∧ T 16 i ≤ thi 16 := I.1 16 i (by decide) (by decide) (by decide)
          simp only [thi] at h16
          have h17 : 0 ≤ T 17 i ∧ T 17 i ≤ thi 17 := I.1 17 i (by decide) (by decide) (by decide)
          simp only [thi] at h17
          have h19 : 0 ≤ T 19 i ∧ T 19 i ≤ thi 19 := I.1 19 i (by decide) (by decide) (by decide)
          simp only [thi] at h19
          have h19f : 0 ≤ T 19 (cVF T r hr i).toNat ∧ T 19 (cVF T r hr i).toNat ≤ thi 19 := I.1 19 (cVF T r hr i).toNat (by decide) (by decide) (by decide)
          simp only [thi] at h19f
          have hcb := cVF_b T r hr i
          have hct := cvt_c T (cVF T r hr i)
          refine Z.iload C dX6_valueIn_26 rfl ?_
          refine Z.aload_n C dX6_valueIn_28 rfl ?_
          refine g_X6_19  C rfl dX6_valueIn_29 (R.club) rfl ?_
          refine v_X6_41 C rfl dX6_valueIn_32 (R.lPo.choose_spec) (c_size htr R.lP) (by decide) (Nat.le_of_ble_eq_true rfl) (by rw [hR]; exact Nat.le_of_ble_eq_true rfl) (by rw [hR]; exact Nat.le_of_ble_eq_true rfl) (fun w32 h32 q32 => ?_) (fun _ _ q => q.elim)
          obtain ⟨rfl, q32⟩ := q32
          replace q32 := q32.symm
          subst q32
          refine Z.icmp_ge (tgt := 99) C dX6_valueIn_35 (by decide) (by omega) (by omega) (by omega) (by omega) (fun c35 => ?_) (fun c35 => ?_)
          · exfalso; omega
          · refine Z.aload_n C dX6_valueIn_38 rfl ?_
            refine g_X6_19  C rfl dX6_valueIn_39 (R.club) rfl ?_
            refine Z.iload C dX6_valueIn_42 rfl ?_
            refine v_X6_84 C rfl dX6_valueIn_44 (R.lPo.choose_spec) (c_getN htr R.lP (by omega)) (by decide) (Nat.le_of_ble_eq_true rfl) (by rw [hR]; exact Nat.le_of_ble_eq_true rfl) (by rw [hR]; exact Nat.le_of_ble_eq_true rfl) (fun w44 h44 q44 => ?_) (fun _ _ q => q.elim)
            obtain ⟨rfl, q44⟩ := q44
            replace q44 := q44.symm
            subst q44
            refine k_X6_88 C rfl dX6_valueIn_47 (R.pro (by omega)) ?_
            refine Z.astore (l' := [_, _, _, _, _, _, _]) C dX6_valueIn_50 (Nat.le_of_ble_eq_true rfl) (by rw [hN]; decide) rfl ?_
            refine Z.aload C dX6_valueIn_52 rfl ?_
            refine g_X6_188  C rfl dX6_valueIn_54 (R.pro (by omega)) rfl ?_
            refine Z.iload_n C dX6_valueIn_57 rfl ?_
            refine Z.icmp_ne (tgt := 93) C dX6_valueIn_58 (by decide) (by omega) (by omega) (by omega) (by omega) (fun c58 => ?_) (fun c58 => ?_)
            · refine Z.iinc (l' := [_, _, _, _, _, _, _]) C dX6_valueIn_93 rfl (Nat.le_of_ble_eq_true rfl) (by rw [hN]; decide) rfl ?_
              refine Z.goto (tgt := 26) C dX6_valueIn_96 (by decide) ?_
              refine Z.pre (l' := [_, _, _, _, _, _]) 6 rfl ?_
              have e9 := ih (i + 1) (by omega)
              first | (have e8 : cVF T r hr (i + 1) = cVF T r hr i := (by rw [cVF, if_neg (by omega)]); rw [e8] at e9; exact e9) | (have e8 : cVF T r hr (i + 1) = (i : Int) := (by rw [cVF, if_pos (by omega)]); rw [e8, cvl_n, cvt_n] at e9; exact e9)
            · refine Z.aload C dX6_valueIn_61 rfl ?_
              refine Z.iload_n C dX6_valueIn_63 rfl ?_
              refine v_X6_304 C rfl dX6_valueIn_64 (R.pro (by omega)) (c_X4_isInForce htr (R.pro (by omega)) (by omega) (by omega) (by omega)) (by decide) (Nat.le_of_ble_eq_true rfl) (by rw [hR]; exact Nat.le_of_ble_eq_true rfl) (by rw [hR]; exact Nat.le_of_ble_eq_true rfl) (fun w64 h64 q64 => ?_) (fun _ _ q => q.elim)
              obtain ⟨rfl, q64⟩ := q64
              replace q64 := q64.symm
              subst q64
              obtain ⟨w, hw, hw1, hw2⟩ := ifx (T 16 i = 1 ∧ T 19 i ≤ hr)
              rw [hw]
              refine Z.if_eq (tgt := 93) C dX6_valueIn_67 (by decide) (by omega) (by omega) (fun c67 => ?_) (fun c67 => ?_)
              · refine Z.iinc (l' := [_, _, _, _, _, _, _]) C dX6_valueIn_93 rfl (Nat.le_of_ble_eq_true rfl) (by rw [hN]; decide) rfl ?_
                refine Z.goto (tgt := 26) C dX6_valueIn_96 (by decide) ?_
                refine Z.pre (l' := [_, _, _, _, _, _]) 6 rfl ?_
                have e9 := ih (i + 1) (by omega)
                first | (have e8 : cVF T r hr (i + 1) = cVF T r hr i := (by rw [cVF, if_neg (by omega)]); rw [e8] at e9; exact e9) | (have e8 : cVF T r hr (i + 1) = (i : Int) := (by rw [cVF, if_pos (by omega)]); rw [e8, cvl_n, cvt_n] at e9; exact e9)
              · refine Z.aload C dX6_valueIn_70 rfl ?_
                refine g_X6_307  C rfl dX6_valueIn_72 (R.pro (by omega)) rfl ?_
                refine Z.iload C dX6_valueIn_75 rfl ?_
                refine Z.icmp_lt (tgt := 93) C dX6_valueIn_77 (by decide) (by omega) (by omega) (by omega) (by omega) (fun c77 => ?_) (fun c77 => ?_)
                · refine Z.iinc (l' := [_, _, _, _, _, _, _]) C dX6_valueIn_93 rfl (Nat.le_of_ble_eq_true rfl) (by rw [hN]; decide) rfl ?_
                  refine Z.goto (tgt := 26) C dX6_valueIn_96 (by decide) ?_
                  refine Z.pre (l' := [_, _, _, _, _, _]) 6 rfl ?_
                  have e9 := ih (i + 1) (by omega)
                  first | (have e8 : cVF T r hr (i + 1) = cVF T r hr i := (by rw [cVF, if_neg (by omega)]); rw [e8] at e9; exact e9) | (have e8 : cVF T r hr (i + 1) = (i : Int) := (by rw [cVF, if_pos (by omega)]); rw [e8, cvl_n, cvt_n] at e9; exact e9)
                · refine Z.aload C dX6_valueIn_80 rfl ?_
                  refine g_X6_191  C rfl dX6_valueIn_82 (R.pro (by omega)) rfl ?_
                  refine Z.istore_n (l' := [_, _, _, _, _, _, _]) C dX6_valueIn_85 (Nat.le_of_ble_eq_true rfl) (by rw [hN]; decide) rfl ?_
                  refine Z.aload C dX6_valueIn_86 rfl ?_
                  refine g_X6_307  C rfl dX6_valueIn_88 (R.pro (by omega)) rfl ?_
                  refine Z.istore (l' := [_, _, _, _, _, _, _]) C dX6_valueIn_91 (Nat.le_of_ble_eq_true rfl) (by rw [hN]; decide) rfl ?_
                  refine Z.iinc (l' := [_, _, _, _, _, _, _]) C dX6_valueIn_93 rfl (Nat.le_of_ble_eq_true rfl) (by rw [hN]; decide) rfl ?_
                  refine Z.goto (tgt := 26) C dX6_valueIn_96 (by decide) ?_
                  refine Z.pre (l' := [_, _, _, _, _, _]) 6 rfl ?_
                  have e9 := ih (i + 1) (by omega)
                  first | (have e8 : cVF T r hr (i + 1) = cVF T r hr i := (by rw [cVF, if_neg (by omega)]); rw [e8] at e9; exact e9) | (have e8 : cVF T r hr (i + 1) = (i : Int) := (by rw [cVF, if_pos (by omega)]); rw [e8, cvl_n, cvt_n] at e9; exact e9)
      exact L _ 0 (Nat.zero_add _)
    · exfalso; omega

set_option maxRecDepth 100000 in
theorem c_X6_cachedUnits {ln : Launch} (htr : ln.stackTraces = false) {G : zG} {h : zH} {ad : Nat → Nat → Nat} {el : Nat → Nat} {T : Nat → Nat → Int} (R : CR G ad el T h) (I : TB T) {m : Nat} {w : Int} (hm : m < cN T 0) (h2 : 0 ≤ w ∧ w ≤ 300) : CT ln G yX6_cachedUnits cX6_cachedUnits 5 (some .int) 4 ([.ref (ad 0 0), .ref (ad 1 m), vI w]) h 0 0 (fun r9 h9 => r9 = some (vI (cU T m w (cN T 1))) ∧ h9 = h) zNo := by
  refine CT.intro htr (by decide) rfl (Nat.le_of_ble_eq_true rfl) ?_
  intro X hln hG hR hN C E
  subst hln
  subst hG
  have hn9 := I.n
  refine Z.iconst C dX6_cachedUnits_0 ?_
  refine Z.istore_n (l' := [_, _, _, _]) C dX6_cachedUnits_1 (Nat.le_of_ble_eq_true rfl) (by rw [hN]; decide) rfl ?_
  refine Z.iconst C dX6_cachedUnits_2 ?_
  refine Z.istore (l' := [_, _, _, _, _]) C dX6_cachedUnits_3 (Nat.le_of_ble_eq_true rfl) (by rw [hN]; decide) rfl ?_
  have L : ∀ (q i : Nat), i + q = cN T 1 → Z X 5 [.ref (ad 0 0), .ref (ad 1 m), vI w, vI (cU T m w i), vI (i : Int)] [] h 0 0 := by
    intro q
    induction q with
    | zero =>
      intro i hi
      have h13 : 0 ≤ T 13 (20 * m + i) ∧ T 13 (20 * m + i) ≤ thi 13 := I.1 13 (20 * m + i) (by decide) (by decide) (by decide)
      simp only [thi] at h13
      have h12 : 0 ≤ T 12 i ∧ T 12 i ≤ thi 12 := I.1 12 i (by decide) (by decide) (by decide)
      simp only [thi] at h12
      have h11 : 0 ≤ T 11 i ∧ T 11 i ≤ thi 11 := I.1 11 i (by decide) (by decide) (by decide)
      simp only [thi] at h11
      have hcb := cU_b I m w i
      refine Z.iload C dX6_cachedUnits_5 rfl ?_
      refine Z.aload_n C dX6_cachedUnits_7 rfl ?_
      refine g_X6_16  C rfl dX6_cachedUnits_8 (R.club) rfl ?_
      refine v_X6_41 C rfl dX6_cachedUnits_11 (R.lFo.choose_spec) (c_size htr R.lF) (by decide) (Nat.le_of_ble_eq_true rfl) (by rw [hR]; exact Nat.le_of_ble_eq_true rfl) (by rw [hR]; exact Nat.le_of_ble_eq_true rfl) (fun w11 h11 q11 => ?_) (fun _ _ q => q.elim)
      obtain ⟨rfl, q11⟩ := q11
      replace q11 := q11.symm
      subst q11
      refine Z.icmp_ge (tgt := 69) C dX6_cachedUnits_14 (by decide) (by omega) (by omega) (by omega) (by omega) (fun c14 => ?_) (fun c14 => ?_)
      · refine Z.iload_n C dX6_cachedUnits_69 rfl ?_
        exact Z.iret C E dX6_cachedUnits_70 (by decide) (by decide) ⟨by rw [show i = cN T 1 by omega], rfl⟩
      · exfalso; omega
    | succ q ih =>
      intro i hi
      have h13 : 0 ≤ T 13 (20 * m + i) ∧ T 13 (20 * m + i) ≤ thi 13 := I.1 13 (20 * m + i) (by decide) (by decide) (by decide)
      simp only [thi] at h13
      have h12 : 0 ≤ T 12 i ∧ T 12 i ≤ thi 12 := I.1 12 i (by decide) (by decide) (by decide)
      simp only [thi] at h12
      have h11 : 0 ≤ T 11 i ∧ T 11 i ≤ thi 11 := I.1 11 i (by decide) (by decide) (by decide)
      simp only [thi] at h11
      have hcb := cU_b I m w i
      refine Z.iload C dX6_cachedUnits_5 rfl ?_
      refine Z.aload_n C dX6_cachedUnits_7 rfl ?_
      refine g_X6_16  C rfl dX6_cachedUnits_8 (R.club) rfl ?_
      refine v_X6_41 C rfl dX6_cachedUnits_11 (R.lFo.choose_spec) (c_size htr R.lF) (by decide) (Nat.le_of_ble_eq_true rfl) (by rw [hR]; exact Nat.le_of_ble_eq_true rfl) (by rw [hR]; exact Nat.le_of_ble_eq_true rfl) (fun w11 h11 q11 => ?_) (fun _ _ q => q.elim)
      obtain ⟨rfl, q11⟩ := q11
      replace q11 := q11.symm
      subst q11
      refine Z.icmp_ge (tgt := 69) C dX6_cachedUnits_14 (by decide) (by omega) (by omega) (by omega) (by omega) (fun c14 => ?_) (fun c14 => ?_)
      · exfalso; omega
      · refine Z.aload_n C dX6_cachedUnits_17 rfl ?_
        refine Z.iload C dX6_cachedUnits_18 rfl ?_
        refine v_X6_209 C rfl dX6_cachedUnits_20 (R.mem hm) (c_X3_holds htr (R.mem hm) (R.held hm) (i := i) (by omega) (by rw [row_at _ _ _ _ (by omega)]; omega)) (by decide) (Nat.le_of_ble_eq_true rfl) (by rw [hR]; exact Nat.le_of_ble_eq_true rfl) (by rw [hR]; exact Nat.le_of_ble_eq_true rfl) (fun w20 h20 q20 => ?_) (fun _ _ q => q.elim)
        obtain ⟨rfl, q20⟩ := q20
        replace q20 := q20.symm
        subst q20
        rw [row_at _ _ _ _ (by omega)]
        refine Z.if_eq (tgt := 63) C dX6_cachedUnits_23 (by decide) (by omega) (by omega) (fun c23 => ?_) (fun c23 => ?_)
        · refine Z.iinc (l' := [_, _, _, _, _]) C dX6_cachedUnits_63 rfl (Nat.le_of_ble_eq_true rfl) (by rw [hN]; decide) rfl ?_
          refine Z.goto (tgt := 5) C dX6_cachedUnits_66 (by decide) ?_
          have e9 := ih (i + 1) (by omega)
          simp only [cU] at e9
          first | (rw [if_pos (by omega)] at e9; exact e9) | (rw [if_neg (by omega), Int.add_zero] at e9; exact e9)
        · refine Z.aload_n C dX6_cachedUnits_26 rfl ?_
          refine g_X6_16  C rfl dX6_cachedUnits_27 (R.club) rfl ?_
          refine Z.iload C dX6_cachedUnits_30 rfl ?_
          refine v_X6_84 C rfl dX6_cachedUnits_32 (R.lFo.choose_spec) (c_getN htr R.lF (by omega)) (by decide) (Nat.le_of_ble_eq_true rfl) (by rw [hR]; exact Nat.le_of_ble_eq_true rfl) (by rw [hR]; exact Nat.le_of_ble_eq_true rfl) (fun w32 h32 q32 => ?_) (fun _ _ q => q.elim)
          obtain ⟨rfl, q32⟩ := q32
          replace q32 := q32.symm
          subst q32
          refine k_X6_113 C rfl dX6_cachedUnits_35 (R.fil (by omega)) ?_
          refine g_X6_139  C rfl dX6_cachedUnits_38 (R.fil (by omega)) rfl ?_
          refine Z.iload_n C dX6_cachedUnits_41 rfl ?_
          refine Z.icmp_lt (tgt := 63) C dX6_cachedUnits_42 (by decide) (by omega) (by omega) (by omega) (by omega) (fun c42 => ?_) (fun c42 => ?_)
          · refine Z.iinc (l' := [_, _, _, _, _]) C dX6_cachedUnits_63 rfl (Nat.le_of_ble_eq_true rfl) (by rw [hN]; decide) rfl ?_
            refine Z.goto (tgt := 5) C dX6_cachedUnits_66 (by decide) ?_
            have e9 := ih (i + 1) (by omega)
            simp only [cU] at e9
            first | (rw [if_pos (by omega)] at e9; exact e9) | (rw [if_neg (by omega), Int.add_zero] at e9; exact e9)
          · refine Z.iload_n C dX6_cachedUnits_45 rfl ?_
            refine Z.aload_n C dX6_cachedUnits_46 rfl ?_
            refine g_X6_16  C rfl dX6_cachedUnits_47 (R.club) rfl ?_
            refine Z.iload C dX6_cachedUnits_50 rfl ?_
            refine v_X6_84 C rfl dX6_cachedUnits_52 (R.lFo.choose_spec) (c_getN htr R.lF (by omega)) (by decide) (Nat.le_of_ble_eq_true rfl) (by rw [hR]; exact Nat.le_of_ble_eq_true rfl) (by rw [hR]; exact Nat.le_of_ble_eq_true rfl) (fun w52 h52 q52 => ?_) (fun _ _ q => q.elim)
            obtain ⟨rfl, q52⟩ := q52
            replace q52 := q52.symm
            subst q52
            refine k_X6_113 C rfl dX6_cachedUnits_55 (R.fil (by omega)) ?_
            refine g_X6_124  C rfl dX6_cachedUnits_58 (R.fil (by omega)) rfl ?_
            refine Z.iadd C dX6_cachedUnits_61 ?_
            refine Z.istore_n (l' := [_, _, _, _, _]) C dX6_cachedUnits_62 (Nat.le_of_ble_eq_true rfl) (by rw [hN]; decide) rfl ?_
            refine Z.iinc (l' := [_, _, _, _, _]) C dX6_cachedUnits_63 rfl (Nat.le_of_ble_eq_true rfl) (by rw [hN]; decide) rfl ?_
            refine Z.goto (tgt := 5) C dX6_cachedUnits_66 (by decide) ?_
            have e9 := ih (i + 1) (by omega)
            simp only [cU] at e9
            first | (rw [if_pos (by omega)] at e9; exact e9) | (rw [if_neg (by omega), Int.add_zero] at e9; exact e9)
  exact L _ 0 (Nat.zero_add _)

set_option maxRecDepth 100000 in
theorem c_X6_leastWorthOf {ln : Launch} (htr : ln.stackTraces = false) {G : zG} {h : zH} {ad : Nat → Nat → Nat} {el : Nat → Nat} {T : Nat → Nat → Int} (R : CR G ad el T h) (I : TB T) {m : Nat} (hm : m < cN T 0) : CT ln G yX6_leastWorthOf cX6_leastWorthOf 5 (some .int) 4 ([.ref (ad 0 0), .ref (ad 1 m)]) h 0 0 (fun r9 h9 => r9 = some (vI (cLF T m (cN T 1))) ∧ h9 = h) zNo := by
  refine CT.intro htr (by decide) rfl (Nat.le_of_ble_eq_true rfl) ?_
  intro X hln hG hR hN C E
  subst hln
  subst hG
  have hn9 := I.n
  refine Z.iconst C dX6_leastWorthOf_0 ?_
  refine Z.istore_n (l' := [_, _, _]) C dX6_leastWorthOf_1 (Nat.le_of_ble_eq_true rfl) (by rw [hN]; decide) rfl ?_
  refine Z.iconst C dX6_leastWorthOf_2 ?_
  refine Z.istore_n (l' := [_, _, _, _]) C dX6_leastWorthOf_3 (Nat.le_of_ble_eq_true rfl) (by rw [hN]; decide) rfl ?_
  refine Z.iconst C dX6_leastWorthOf_4 ?_
  refine Z.istore (l' := [_, _, _, _, _]) C dX6_leastWorthOf_5 (Nat.le_of_ble_eq_true rfl) (by rw [hN]; decide) rfl ?_
  have L : ∀ (q i : Nat), i + q = cN T 1 → Z X 7 [.ref (ad 0 0), .ref (ad 1 m), vI (cLF T m i), vI (cll T (cLF T m i)), vI (i : Int)] [] h 0 0 := by
    intro q
    induction q with
    | zero =>
      intro i hi
      have h13 : 0 ≤ T 13 (20 * m + i) ∧ T 13 (20 * m + i) ≤ thi 13 := I.1 13 (20 * m + i) (by decide) (by decide) (by decide)
      simp only [thi] at h13
      have h12 : 0 ≤ T 12 i ∧ T 12 i ≤ thi 12 := I.1 12 i (by decide) (by decide) (by decide)
      simp only [thi] at h12
      have h12f : 0 ≤ T 12 (cLF T m i).toNat ∧ T 12 (cLF T m i).toNat ≤ thi 12 := I.1 12 (cLF T m i).toNat (by decide) (by decide) (by decide)
      simp only [thi] at h12f
      have hcb := cLF_b T m i
      have hct := cll_c T (cLF T m i)
      refine Z.iload C dX6_leastWorthOf_7 rfl ?_
      refine Z.aload_n C dX6_leastWorthOf_9 rfl ?_
      refine g_X6_16  C rfl dX6_leastWorthOf_10 (R.club) rfl ?_
      refine v_X6_41 C rfl dX6_leastWorthOf_13 (R.lFo.choose_spec) (c_size htr R.lF) (by decide) (Nat.le_of_ble_eq_true rfl) (by rw [hR]; exact Nat.le_of_ble_eq_true rfl) (by rw [hR]; exact Nat.le_of_ble_eq_true rfl) (fun w13 h13 q13 => ?_) (fun _ _ q => q.elim)
      obtain ⟨rfl, q13⟩ := q13
      replace q13 := q13.symm
      subst q13
      refine Z.icmp_ge (tgt := 77) C dX6_leastWorthOf_16 (by decide) (by omega) (by omega) (by omega) (by omega) (fun c16 => ?_) (fun c16 => ?_)
      · refine Z.iload_n C dX6_leastWorthOf_77 rfl ?_
        exact Z.iret C E dX6_leastWorthOf_78 (by decide) (by decide) ⟨by rw [show i = cN T 1 by omega], rfl⟩
      · exfalso; omega
    | succ q ih =>
      intro i hi
      have h13 : 0 ≤ T 13 (20 * m + i) ∧ T 13 (20 * m + i) ≤ thi 13 := I.1 13 (20 * m + i) (by decide) (by decide) (by decide)
      simp only [thi] at h13
      have h12 : 0 ≤ T 12 i ∧ T 12 i ≤ thi 12 := I.1 12 i (by decide) (by decide) (by decide)
      simp only [thi] at h12
      have h12f : 0 ≤ T 12 (cLF T m i).toNat ∧ T 12 (cLF T m i).toNat ≤ thi 12 := I.1 12 (cLF T m i).toNat (by decide) (by decide) (by decide)
      simp only [thi] at h12f
      have hcb := cLF_b T m i
      have hct := cll_c T (cLF T m i)
      refine Z.iload C dX6_leastWorthOf_7 rfl ?_
      refine Z.aload_n C dX6_leastWorthOf_9 rfl ?_
      refine g_X6_16  C rfl dX6_leastWorthOf_10 (R.club) rfl ?_
      refine v_X6_41 C rfl dX6_leastWorthOf_13 (R.lFo.choose_spec) (c_size htr R.lF) (by decide) (Nat.le_of_ble_eq_true rfl) (by rw [hR]; exact Nat.le_of_ble_eq_true rfl) (by rw [hR]; exact Nat.le_of_ble_eq_true rfl) (fun w13 h13 q13 => ?_) (fun _ _ q => q.elim)
      obtain ⟨rfl, q13⟩ := q13
      replace q13 := q13.symm
      subst q13
      refine Z.icmp_ge (tgt := 77) C dX6_leastWorthOf_16 (by decide) (by omega) (by omega) (by omega) (by omega) (fun c16 => ?_) (fun c16 => ?_)
      · exfalso; omega
      · refine Z.aload_n C dX6_leastWorthOf_19 rfl ?_
        refine Z.iload C dX6_leastWorthOf_20 rfl ?_
        refine v_X6_209 C rfl dX6_leastWorthOf_22 (R.mem hm) (c_X3_holds htr (R.mem hm) (R.held hm) (i := i) (by omega) (by rw [row_at _ _ _ _ (by omega)]; omega)) (by decide) (Nat.le_of_ble_eq_true rfl) (by rw [hR]; exact Nat.le_of_ble_eq_true rfl) (by rw [hR]; exact Nat.le_of_ble_eq_true rfl) (fun w22 h22 q22 => ?_) (fun _ _ q => q.elim)
        obtain ⟨rfl, q22⟩ := q22
        replace q22 := q22.symm
        subst q22
        rw [row_at _ _ _ _ (by omega)]
        refine Z.if_eq (tgt := 71) C dX6_leastWorthOf_25 (by decide) (by omega) (by omega) (fun c25 => ?_) (fun c25 => ?_)
        · refine Z.iinc (l' := [_, _, _, _, _]) C dX6_leastWorthOf_71 rfl (Nat.le_of_ble_eq_true rfl) (by rw [hN]; decide) rfl ?_
          refine Z.goto (tgt := 7) C dX6_leastWorthOf_74 (by decide) ?_
          have e9 := ih (i + 1) (by omega)
          first | (have e8 : cLF T m (i + 1) = cLF T m i := (by rw [cLF, if_neg (by omega)]); rw [e8] at e9; exact e9) | (have e8 : cLF T m (i + 1) = (i : Int) := (by rw [cLF, if_pos (by omega)]); rw [e8, cll_n] at e9; exact e9)
        · refine Z.iload_n C dX6_leastWorthOf_28 rfl ?_
          refine Z.iconst C dX6_leastWorthOf_29 ?_
          refine Z.icmp_eq (tgt := 52) C dX6_leastWorthOf_30 (by decide) (by omega) (by omega) (by omega) (by omega) (fun c30 => ?_) (fun c30 => ?_)
          · refine Z.iload C dX6_leastWorthOf_52 rfl ?_
            refine Z.istore_n (l' := [_, _, _, _, _]) C dX6_leastWorthOf_54 (Nat.le_of_ble_eq_true rfl) (by rw [hN]; decide) rfl ?_
            refine Z.aload_n C dX6_leastWorthOf_55 rfl ?_
            refine g_X6_16  C rfl dX6_leastWorthOf_56 (R.club) rfl ?_
            refine Z.iload C dX6_leastWorthOf_59 rfl ?_
            refine v_X6_84 C rfl dX6_leastWorthOf_61 (R.lFo.choose_spec) (c_getN htr R.lF (by omega)) (by decide) (Nat.le_of_ble_eq_true rfl) (by rw [hR]; exact Nat.le_of_ble_eq_true rfl) (by rw [hR]; exact Nat.le_of_ble_eq_true rfl) (fun w61 h61 q61 => ?_) (fun _ _ q => q.elim)
            obtain ⟨rfl, q61⟩ := q61
            replace q61 := q61.symm
            subst q61
            refine k_X6_113 C rfl dX6_leastWorthOf_64 (R.fil (by omega)) ?_
            refine g_X6_139  C rfl dX6_leastWorthOf_67 (R.fil (by omega)) rfl ?_
            refine Z.istore_n (l' := [_, _, _, _, _]) C dX6_leastWorthOf_70 (Nat.le_of_ble_eq_true rfl) (by rw [hN]; decide) rfl ?_
            refine Z.iinc (l' := [_, _, _, _, _]) C dX6_leastWorthOf_71 rfl (Nat.le_of_ble_eq_true rfl) (by rw [hN]; decide) rfl ?_
            refine Z.goto (tgt := 7) C dX6_leastWorthOf_74 (by decide) ?_
            have e9 := ih (i + 1) (by omega)
            first | (have e8 : cLF T m (i + 1) = cLF T m i := (by rw [cLF, if_neg (by omega)]); rw [e8] at e9; exact e9) | (have e8 : cLF T m (i + 1) = (i : Int) := (by rw [cLF, if_pos (by omega)]); rw [e8, cll_n] at e9; exact e9)
          · refine Z.aload_n C dX6_leastWorthOf_33 rfl ?_
            refine g_X6_16  C rfl dX6_leastWorthOf_34 (R.club) rfl ?_
            refine Z.iload C dX6_leastWorthOf_37 rfl ?_
            refine v_X6_84 C rfl dX6_leastWorthOf_39 (R.lFo.choose_spec) (c_getN htr R.lF (by omega)) (by decide) (Nat.le_of_ble_eq_true rfl) (by rw [hR]; exact Nat.le_of_ble_eq_true rfl) (by rw [hR]; exact Nat.le_of_ble_eq_true rfl) (fun w39 h39 q39 => ?_) (fun _ _ q => q.elim)
            obtain ⟨rfl, q39⟩ := q39
            replace q39 := q39.symm
            subst q39
            refine k_X6_113 C rfl dX6_leastWorthOf_42 (R.fil (by omega)) ?_
            refine g_X6_139  C rfl dX6_leastWorthOf_45 (R.fil (by omega)) rfl ?_
            refine Z.iload_n C dX6_leastWorthOf_48 rfl ?_
            refine Z.icmp_ge (tgt := 71) C dX6_leastWorthOf_49 (by decide) (by omega) (by omega) (by omega) (by omega) (fun c49 => ?_) (fun c49 => ?_)
            · refine Z.iinc (l' := [_, _, _, _, _]) C dX6_leastWorthOf_71 rfl (Nat.le_of_ble_eq_true rfl) (by rw [hN]; decide) rfl ?_
              refine Z.goto (tgt := 7) C dX6_leastWorthOf_74 (by decide) ?_
              have e9 := ih (i + 1) (by omega)
              first | (have e8 : cLF T m (i + 1) = cLF T m i := (by rw [cLF, if_neg (by omega)]); rw [e8] at e9; exact e9) | (have e8 : cLF T m (i + 1) = (i : Int) := (by rw [cLF, if_pos (by omega)]); rw [e8, cll_n] at e9; exact e9)
            · refine Z.iload C dX6_leastWorthOf_52 rfl ?_
              refine Z.istore_n (l' := [_, _, _, _, _]) C dX6_leastWorthOf_54 (Nat.le_of_ble_eq_true rfl) (by rw [hN]; decide) rfl ?_
              refine Z.aload_n C dX6_leastWorthOf_55 rfl ?_
              refine g_X6_16  C rfl dX6_leastWorthOf_56 (R.club) rfl ?_
              refine Z.iload C dX6_leastWorthOf_59 rfl ?_
              refine v_X6_84 C rfl dX6_leastWorthOf_61 (R.lFo.choose_spec) (c_getN htr R.lF (by omega)) (by decide) (Nat.le_of_ble_eq_true rfl) (by rw [hR]; exact Nat.le_of_ble_eq_true rfl) (by rw [hR]; exact Nat.le_of_ble_eq_true rfl) (fun w61 h61 q61 => ?_) (fun _ _ q => q.elim)
              obtain ⟨rfl, q61⟩ := q61
              replace q61 := q61.symm
              subst q61
              refine k_X6_113 C rfl dX6_leastWorthOf_64 (R.fil (by omega)) ?_
              refine g_X6_139  C rfl dX6_leastWorthOf_67 (R.fil (by omega)) rfl ?_
              refine Z.istore_n (l' := [_, _, _, _, _]) C dX6_leastWorthOf_70 (Nat.le_of_ble_eq_true rfl) (by rw [hN]; decide) rfl ?_
              refine Z.iinc (l' := [_, _, _, _, _]) C dX6_leastWorthOf_71 rfl (Nat.le_of_ble_eq_true rfl) (by rw [hN]; decide) rfl ?_
              refine Z.goto (tgt := 7) C dX6_leastWorthOf_74 (by decide) ?_
              have e9 := ih (i + 1) (by omega)
              first | (have e8 : cLF T m (i + 1) = cLF T m i := (by rw [cLF, if_neg (by omega)]); rw [e8] at e9; exact e9) | (have e8 : cLF T m (i + 1) = (i : Int) := (by rw [cLF, if_pos (by omega)]); rw [e8, cll_n] at e9; exact e9)
  exact L _ 0 (Nat.zero_add _)

set_option maxRecDepth 100000 in
theorem c_X6_leftBeside {ln : Launch} (htr : ln.stackTraces = false) {G : zG} {h : zH} {ad : Nat → Nat → Nat} {el : Nat → Nat} {T : Nat → Nat → Int} (R : CR G ad el T h) (I : TB T) {m pl : Nat} {g : Nat → Int} (hm : m < cN T 0) (hp : h pl = some (eI (G.2.1 0) 10 g)) : CT ln G yX6_leftBeside cX6_leftBeside 3 (some .int) 4 ([.ref (ad 0 0), vI (m : Int), .ref pl]) h 0 0 (fun r9 h9 => r9 = some (vI (T 5 m - g m)) ∧ h9 = h) zNo := by
  refine CT.intro htr (by decide) rfl (Nat.le_of_ble_eq_true rfl) ?_
  intro X hln hG hR hN C E
  subst hln
  subst hG
  have hn9 := I.n
  refine Z.iload_n C dX6_leftBeside_0 rfl ?_
  refine Z.if_lt (tgt := 21) C dX6_leftBeside_1 (by decide) (by omega) (by omega) (fun c1 => ?_) (fun c1 => ?_)
  · exfalso; omega
  · refine Z.iload_n C dX6_leftBeside_4 rfl ?_
    refine Z.aload_n C dX6_leftBeside_5 rfl ?_
    refine g_X6_10  C rfl dX6_leftBeside_6 (R.club) rfl ?_
    refine v_X6_41 C rfl dX6_leftBeside_9 (R.lMo.choose_spec) (c_size htr R.lM) (by decide) (Nat.le_of_ble_eq_true rfl) (by rw [hR]; exact Nat.le_of_ble_eq_true rfl) (by rw [hR]; exact Nat.le_of_ble_eq_true rfl) (fun w9 h9 q9 => ?_) (fun _ _ q => q.elim)
    obtain ⟨rfl, q9⟩ := q9
    replace q9 := q9.symm
    subst q9
    refine Z.icmp_ge (tgt := 21) C dX6_leftBeside_12 (by decide) (by omega) (by omega) (by omega) (by omega) (fun c12 => ?_) (fun c12 => ?_)
    · exfalso; omega
    · refine Z.iload_n C dX6_leftBeside_15 rfl ?_
      refine Z.aload_n C dX6_leftBeside_16 rfl ?_
      refine Z.alenI C dX6_leftBeside_17 hp ?_
      refine Z.icmp_lt (tgt := 23) C dX6_leftBeside_18 (by decide) (by omega) (by omega) (by omega) (by omega) (fun c18 => ?_) (fun c18 => ?_)
      · refine Z.aload_n C dX6_leftBeside_23 rfl ?_
        refine g_X6_10  C rfl dX6_leftBeside_24 (R.club) rfl ?_
        refine Z.iload_n C dX6_leftBeside_27 rfl ?_
        refine v_X6_84 C rfl dX6_leftBeside_28 (R.lMo.choose_spec) (c_getN htr R.lM (by omega)) (by decide) (Nat.le_of_ble_eq_true rfl) (by rw [hR]; exact Nat.le_of_ble_eq_true rfl) (by rw [hR]; exact Nat.le_of_ble_eq_true rfl) (fun w28 h28 q28 => ?_) (fun _ _ q => q.elim)
        obtain ⟨rfl, q28⟩ := q28
        replace q28 := q28.symm
        subst q28
        refine k_X6_50 C rfl dX6_leftBeside_31 (R.mem (by omega)) ?_
        refine g_X6_202  C rfl dX6_leftBeside_34 (R.mem (by omega)) rfl ?_
        refine Z.aload_n C dX6_leftBeside_37 rfl ?_
        refine Z.iload_n C dX6_leftBeside_38 rfl ?_
        refine Z.iaload C dX6_leftBeside_39 hp (by omega) (by omega) (by omega) ?_
        refine Z.isub C dX6_leftBeside_40 ?_
        exact Z.iret C E dX6_leftBeside_41 (by decide) (by decide) ⟨rfl, rfl⟩
      · exfalso; omega

set_option maxRecDepth 100000 in
theorem c_X6_leftOfAll {ln : Launch} (htr : ln.stackTraces = false) {G : zG} {h : zH} {ad : Nat → Nat → Nat} {el : Nat → Nat} {T : Nat → Nat → Int} (R : CR G ad el T h) (I : TB T) : CT ln G yX6_leftOfAll cX6_leftOfAll 3 (some .int) 4 ([.ref (ad 0 0)]) h 0 0 (fun r9 h9 => r9 = some (vI (cA T (cN T 0))) ∧ h9 = h) zNo := by
  refine CT.intro htr (by decide) rfl (Nat.le_of_ble_eq_true rfl) ?_
  intro X hln hG hR hN C E
  subst hln
  subst hG
  have hn9 := I.n
  refine Z.iconst C dX6_leftOfAll_0 ?_
  refine Z.istore_n (l' := [_, _]) C dX6_leftOfAll_1 (Nat.le_of_ble_eq_true rfl) (by rw [hN]; decide) rfl ?_
  refine Z.iconst C dX6_leftOfAll_2 ?_
  refine Z.istore_n (l' := [_, _, _]) C dX6_leftOfAll_3 (Nat.le_of_ble_eq_true rfl) (by rw [hN]; decide) rfl ?_
  have L : ∀ (q i : Nat), i + q = cN T 0 → Z X 4 [.ref (ad 0 0), vI (cA T i), vI (i : Int)] [] h 0 0 := by
    intro q
    induction q with
    | zero =>
      intro i hi
      have hcb := cA_b I i
      refine Z.iload_n C dX6_leftOfAll_4 rfl ?_
      refine Z.aload_n C dX6_leftOfAll_5 rfl ?_
      refine g_X6_10  C rfl dX6_leftOfAll_6 (R.club) rfl ?_
      refine v_X6_41 C rfl dX6_leftOfAll_9 (R.lMo.choose_spec) (c_size htr R.lM) (by decide) (Nat.le_of_ble_eq_true rfl) (by rw [hR]; exact Nat.le_of_ble_eq_true rfl) (by rw [hR]; exact Nat.le_of_ble_eq_true rfl) (fun w9 h9 q9 => ?_) (fun _ _ q => q.elim)
      obtain ⟨rfl, q9⟩ := q9
      replace q9 := q9.symm
      subst q9
      refine Z.icmp_ge (tgt := 38) C dX6_leftOfAll_12 (by decide) (by omega) (by omega) (by omega) (by omega) (fun c12 => ?_) (fun c12 => ?_)
      · refine Z.iload_n C dX6_leftOfAll_38 rfl ?_
        exact Z.iret C E dX6_leftOfAll_39 (by decide) (by decide) ⟨by rw [show i = cN T 0 by omega], rfl⟩
      · exfalso; omega
    | succ q ih =>
      intro i hi
      have hcb := cA_b I i
      refine Z.iload_n C dX6_leftOfAll_4 rfl ?_
      refine Z.aload_n C dX6_leftOfAll_5 rfl ?_
      refine g_X6_10  C rfl dX6_leftOfAll_6 (R.club) rfl ?_
      refine v_X6_41 C rfl dX6_leftOfAll_9 (R.lMo.choose_spec) (c_size htr R.lM) (by decide) (Nat.le_of_ble_eq_true rfl) (by rw [hR]; exact Nat.le_of_ble_eq_true rfl) (by rw [hR]; exact Nat.le_of_ble_eq_true rfl) (fun w9 h9 q9 => ?_) (fun _ _ q => q.elim)
      obtain ⟨rfl, q9⟩ := q9
      replace q9 := q9.symm
      subst q9
      refine Z.icmp_ge (tgt := 38) C dX6_leftOfAll_12 (by decide) (by omega) (by omega) (by omega) (by omega) (fun c12 => ?_) (fun c12 => ?_)
      · exfalso; omega
      · refine Z.iload_n C dX6_leftOfAll_15 rfl ?_
        refine Z.aload_n C dX6_leftOfAll_16 rfl ?_
        refine g_X6_10  C rfl dX6_leftOfAll_17 (R.club) rfl ?_
        refine Z.iload_n C dX6_leftOfAll_20 rfl ?_
        refine v_X6_84 C rfl dX6_leftOfAll_21 (R.lMo.choose_spec) (c_getN htr R.lM (by omega)) (by decide) (Nat.le_of_ble_eq_true rfl) (by rw [hR]; exact Nat.le_of_ble_eq_true rfl) (by rw [hR]; exact Nat.le_of_ble_eq_true rfl) (fun w21 h21 q21 => ?_) (fun _ _ q => q.elim)
        obtain ⟨rfl, q21⟩ := q21
        replace q21 := q21.symm
        subst q21
        refine k_X6_50 C rfl dX6_leftOfAll_24 (R.mem (by omega)) ?_
        refine g_X6_202  C rfl dX6_leftOfAll_27 (R.mem (by omega)) rfl ?_
        refine Z.iadd C dX6_leftOfAll_30 ?_
        refine Z.istore_n (l' := [_, _, _]) C dX6_leftOfAll_31 (Nat.le_of_ble_eq_true rfl) (by rw [hN]; decide) rfl ?_
        refine Z.iinc (l' := [_, _, _]) C dX6_leftOfAll_32 rfl (Nat.le_of_ble_eq_true rfl) (by rw [hN]; decide) rfl ?_
        refine Z.goto (tgt := 4) C dX6_leftOfAll_35 (by decide) ?_
        exact ih (i + 1) (by omega)
  exact L _ 0 (Nat.zero_add _)

set_option maxRecDepth 100000 in
theorem c_X6_withMostLeft {ln : Launch} (htr : ln.stackTraces = false) {G : zG} {h : zH} {ad : Nat → Nat → Nat} {el : Nat → Nat} {T : Nat → Nat → Int} (R : CR G ad el T h) (I : TB T) {pl : Nat} {fm : Int} {g : Nat → Int} (hf : -1 ≤ fm ∧ fm < 20) (hp : h pl = some (eI (G.2.1 0) 10 g)) (hg : ∀ j, 0 ≤ g j ∧ g j ≤ 20) : CT ln G yX6_withMostLeft cX6_withMostLeft 7 (some .int) 5 ([.ref (ad 0 0), vI fm, .ref pl]) h 0 0 (fun r9 h9 => r9 = some (vI (cMF T g fm (cN T 0))) ∧ h9 = h) zNo := by
  refine CT.intro htr (by decide) rfl (Nat.le_of_ble_eq_true rfl) ?_
  intro X hln hG hR hN C E
  subst hln
  subst hG
  have hn9 := I.n
  refine Z.iconst C dX6_withMostLeft_0 ?_
  refine Z.istore_n (l' := [_, _, _, _]) C dX6_withMostLeft_1 (Nat.le_of_ble_eq_true rfl) (by rw [hN]; decide) rfl ?_
  refine Z.iconst C dX6_withMostLeft_2 ?_
  refine Z.istore (l' := [_, _, _, _, _]) C dX6_withMostLeft_3 (Nat.le_of_ble_eq_true rfl) (by rw [hN]; decide) rfl ?_
  refine Z.iconst C dX6_withMostLeft_5 ?_
  refine Z.istore (l' := [_, _, _, _, _, _]) C dX6_withMostLeft_6 (Nat.le_of_ble_eq_true rfl) (by rw [hN]; decide) rfl ?_
  have L : ∀ (q i : Nat), i + q = cN T 0 → Z X 8 [.ref (ad 0 0), vI fm, .ref pl, vI (cMF T g fm i), vI (cml T g (cMF T g fm i)), vI (i : Int)] [] h 0 0 := by
    intro q
    induction q with
    | zero =>
      intro i hi
      have h13 : 0 ≤ T 13 (20 * i + fm.toNat) ∧ T 13 (20 * i + fm.toNat) ≤ thi 13 := I.1 13 (20 * i + fm.toNat) (by decide) (by decide) (by decide)
      simp only [thi] at h13
      have h5 : 0 ≤ T 5 i ∧ T 5 i ≤ thi 5 := I.1 5 i (by decide) (by decide) (by decide)
      simp only [thi] at h5
      have hgi := hg i
      have hcb := cMF_b T g fm i
      have hct := cml_b I hg (cMF T g fm i)
      refine Z.iload C dX6_withMostLeft_8 rfl ?_
      refine Z.aload_n C dX6_withMostLeft_10 rfl ?_
      refine g_X6_10  C rfl dX6_withMostLeft_11 (R.club) rfl ?_
      refine v_X6_41 C rfl dX6_withMostLeft_14 (R.lMo.choose_spec) (c_size htr R.lM) (by decide) (Nat.le_of_ble_eq_true rfl) (by rw [hR]; exact Nat.le_of_ble_eq_true rfl) (by rw [hR]; exact Nat.le_of_ble_eq_true rfl) (fun w14 h14 q14 => ?_) (fun _ _ q => q.elim)
      obtain ⟨rfl, q14⟩ := q14
      replace q14 := q14.symm
      subst q14
      refine Z.icmp_ge (tgt := 73) C dX6_withMostLeft_17 (by decide) (by omega) (by omega) (by omega) (by omega) (fun c17 => ?_) (fun c17 => ?_)
      · refine Z.iload_n C dX6_withMostLeft_73 rfl ?_
        exact Z.iret C E dX6_withMostLeft_74 (by decide) (by decide) ⟨by rw [show i = cN T 0 by omega], rfl⟩
      · exfalso; omega
    | succ q ih =>
      intro i hi
      have h13 : 0 ≤ T 13 (20 * i + fm.toNat) ∧ T 13 (20 * i + fm.toNat) ≤ thi 13 := I.1 13 (20 * i + fm.toNat) (by decide) (by decide) (by decide)
      simp only [thi] at h13
      have h5 : 0 ≤ T 5 i ∧ T 5 i ≤ thi 5 := I.1 5 i (by decide) (by decide) (by decide)
      simp only [thi] at h5
      have hgi := hg i
      have hcb := cMF_b T g fm i
      have hct := cml_b I hg (cMF T g fm i)
      refine Z.iload C dX6_withMostLeft_8 rfl ?_
      refine Z.aload_n C dX6_withMostLeft_10 rfl ?_
      refine g_X6_10  C rfl dX6_withMostLeft_11 (R.club) rfl ?_
      refine v_X6_41 C rfl dX6_withMostLeft_14 (R.lMo.choose_spec) (c_size htr R.lM) (by decide) (Nat.le_of_ble_eq_true rfl) (by rw [hR]; exact Nat.le_of_ble_eq_true rfl) (by rw [hR]; exact Nat.le_of_ble_eq_true rfl) (fun w14 h14 q14 => ?_) (fun _ _ q => q.elim)
      obtain ⟨rfl, q14⟩ := q14
      replace q14 := q14.symm
      subst q14
      refine Z.icmp_ge (tgt := 73) C dX6_withMostLeft_17 (by decide) (by omega) (by omega) (by omega) (by omega) (fun c17 => ?_) (fun c17 => ?_)
      · exfalso; omega
      · refine Z.aload_n C dX6_withMostLeft_20 rfl ?_
        refine Z.iload C dX6_withMostLeft_21 rfl ?_
        refine Z.aload_n C dX6_withMostLeft_23 rfl ?_
        refine v_X6_272 C rfl dX6_withMostLeft_24 (R.club) (c_X6_leftBeside htr R I (by omega) hp) (by decide) (Nat.le_of_ble_eq_true rfl) (by rw [hR]; exact Nat.le_of_ble_eq_true rfl) (by rw [hR]; exact Nat.le_of_ble_eq_true rfl) (fun w24 h24 q24 => ?_) (fun _ _ q => q.elim)
        obtain ⟨rfl, q24⟩ := q24
        replace q24 := q24.symm
        subst q24
        refine Z.istore (l' := [_, _, _, _, _, _, _]) C dX6_withMostLeft_27 (Nat.le_of_ble_eq_true rfl) (by rw [hN]; decide) rfl ?_
        refine Z.iload C dX6_withMostLeft_29 rfl ?_
        refine Z.iload C dX6_withMostLeft_31 rfl ?_
        refine Z.icmp_le (tgt := 67) C dX6_withMostLeft_33 (by decide) (by omega) (by omega) (by omega) (by omega) (fun c33 => ?_) (fun c33 => ?_)
        · refine Z.iinc (l' := [_, _, _, _, _, _, _]) C dX6_withMostLeft_67 rfl (Nat.le_of_ble_eq_true rfl) (by rw [hN]; decide) rfl ?_
          refine Z.goto (tgt := 8) C dX6_withMostLeft_70 (by decide) ?_
          refine Z.pre (l' := [_, _, _, _, _, _]) 6 rfl ?_
          have e9 := ih (i + 1) (by omega)
          first | (have e8 : cMF T g fm (i + 1) = cMF T g fm i := (by rw [cMF_succ, if_neg (by omega)]); rw [e8] at e9; exact e9) | (have e8 : cMF T g fm (i + 1) = (i : Int) := (by rw [cMF_succ, if_pos (by omega)]); rw [e8, cml_n] at e9; exact e9)
        · refine Z.iload_n C dX6_withMostLeft_36 rfl ?_
          refine Z.iconst C dX6_withMostLeft_37 ?_
          refine Z.icmp_eq (tgt := 60) C dX6_withMostLeft_38 (by decide) (by omega) (by omega) (by omega) (by omega) (fun c38 => ?_) (fun c38 => ?_)
          · refine Z.iload C dX6_withMostLeft_60 rfl ?_
            refine Z.istore_n (l' := [_, _, _, _, _, _, _]) C dX6_withMostLeft_62 (Nat.le_of_ble_eq_true rfl) (by rw [hN]; decide) rfl ?_
            refine Z.iload C dX6_withMostLeft_63 rfl ?_
            refine Z.istore (l' := [_, _, _, _, _, _, _]) C dX6_withMostLeft_65 (Nat.le_of_ble_eq_true rfl) (by rw [hN]; decide) rfl ?_
            refine Z.iinc (l' := [_, _, _, _, _, _, _]) C dX6_withMostLeft_67 rfl (Nat.le_of_ble_eq_true rfl) (by rw [hN]; decide) rfl ?_
            refine Z.goto (tgt := 8) C dX6_withMostLeft_70 (by decide) ?_
            refine Z.pre (l' := [_, _, _, _, _, _]) 6 rfl ?_
            have e9 := ih (i + 1) (by omega)
            first | (have e8 : cMF T g fm (i + 1) = cMF T g fm i := (by rw [cMF_succ, if_neg (by omega)]); rw [e8] at e9; exact e9) | (have e8 : cMF T g fm (i + 1) = (i : Int) := (by rw [cMF_succ, if_pos (by omega)]); rw [e8, cml_n] at e9; exact e9)
          · refine Z.aload_n C dX6_withMostLeft_41 rfl ?_
            refine g_X6_10  C rfl dX6_withMostLeft_42 (R.club) rfl ?_
            refine Z.iload C dX6_withMostLeft_45 rfl ?_
            refine v_X6_84 C rfl dX6_withMostLeft_47 (R.lMo.choose_spec) (c_getN htr R.lM (by omega)) (by decide) (Nat.le_of_ble_eq_true rfl) (by rw [hR]; exact Nat.le_of_ble_eq_true rfl) (by rw [hR]; exact Nat.le_of_ble_eq_true rfl) (fun w47 h47 q47 => ?_) (fun _ _ q => q.elim)
            obtain ⟨rfl, q47⟩ := q47
            replace q47 := q47.symm
            subst q47
            refine k_X6_50 C rfl dX6_withMostLeft_50 (R.mem (by omega)) ?_
            refine Z.iload_n C dX6_withMostLeft_53 rfl ?_
            suffices h54 : Z X 57 [.ref (ad 0 0), vI fm, .ref pl, vI (cMF T g fm i), vI (cml T g (cMF T g fm i)), vI (i : Int), vI (T 5 i - g i)] [vI (T 13 (20 * i + fm.toNat))] h 0 0 by
              obtain ⟨ff, rfl⟩ : ∃ ff : Nat, fm = (ff : Int) := ⟨fm.toNat, by omega⟩
              rw [Int.toNat_natCast] at h54 h13
              refine v_X6_209 C rfl dX6_withMostLeft_54 (R.mem (by omega)) (c_X3_holds htr (R.mem (by omega)) (R.held (by omega)) (i := ff) (by omega) (by rw [row_at _ _ _ _ (by omega)]; omega)) (by decide) (Nat.le_of_ble_eq_true rfl) (by rw [hR]; exact Nat.le_of_ble_eq_true rfl) (by rw [hR]; exact Nat.le_of_ble_eq_true rfl) (fun w9 h9 q9 => ?_) (fun _ _ q => q.elim)
              obtain ⟨rfl, q9⟩ := q9
              replace q9 := q9.symm
              subst q9
              rw [row_at _ _ _ _ (by omega)]
              exact h54
            refine Z.if_eq (tgt := 67) C dX6_withMostLeft_57 (by decide) (by omega) (by omega) (fun c57 => ?_) (fun c57 => ?_)
            · refine Z.iinc (l' := [_, _, _, _, _, _, _]) C dX6_withMostLeft_67 rfl (Nat.le_of_ble_eq_true rfl) (by rw [hN]; decide) rfl ?_
              refine Z.goto (tgt := 8) C dX6_withMostLeft_70 (by decide) ?_
              refine Z.pre (l' := [_, _, _, _, _, _]) 6 rfl ?_
              have e9 := ih (i + 1) (by omega)
              first | (have e8 : cMF T g fm (i + 1) = cMF T g fm i := (by rw [cMF_succ, if_neg (by omega)]); rw [e8] at e9; exact e9) | (have e8 : cMF T g fm (i + 1) = (i : Int) := (by rw [cMF_succ, if_pos (by omega)]); rw [e8, cml_n] at e9; exact e9)
            · refine Z.iload C dX6_withMostLeft_60 rfl ?_
              refine Z.istore_n (l' := [_, _, _, _, _, _, _]) C dX6_withMostLeft_62 (Nat.le_of_ble_eq_true rfl) (by rw [hN]; decide) rfl ?_
              refine Z.iload C dX6_withMostLeft_63 rfl ?_
              refine Z.istore (l' := [_, _, _, _, _, _, _]) C dX6_withMostLeft_65 (Nat.le_of_ble_eq_true rfl) (by rw [hN]; decide) rfl ?_
              refine Z.iinc (l' := [_, _, _, _, _, _, _]) C dX6_withMostLeft_67 rfl (Nat.le_of_ble_eq_true rfl) (by rw [hN]; decide) rfl ?_
              refine Z.goto (tgt := 8) C dX6_withMostLeft_70 (by decide) ?_
              refine Z.pre (l' := [_, _, _, _, _, _]) 6 rfl ?_
              have e9 := ih (i + 1) (by omega)
              first | (have e8 : cMF T g fm (i + 1) = cMF T g fm i := (by rw [cMF_succ, if_neg (by omega)]); rw [e8] at e9; exact e9) | (have e8 : cMF T g fm (i + 1) = (i : Int) := (by rw [cMF_succ, if_pos (by omega)]); rw [e8, cml_n] at e9; exact e9)
  exact L _ 0 (Nat.zero_add _)

set_option maxRecDepth 100000 in
theorem c_X6_costOf {ln : Launch} (htr : ln.stackTraces = false) {G : zG} {h : zH} {ad : Nat → Nat → Nat} {el : Nat → Nat} {T : Nat → Nat → Int} (R : CR G ad el T h) (I : TB T) {e : Nat} (he : e < cN T 3) : CT ln G yX6_costOf cX6_costOf 3 (some .int) 5 ([.ref (ad 0 0), .ref (ad 8 e)]) h 0 0 (fun r9 h9 => r9 = some (vI (cCost T e)) ∧ h9 = h) zNo := by
  refine CT.intro htr (by decide) rfl (Nat.le_of_ble_eq_true rfl) ?_
  intro X hln hG hR hN C E
  subst hln
  subst hG
  have hn9 := I.n
  have h32 : 0 ≤ T 32 e ∧ T 32 e ≤ thi 32 := I.1 32 e (by decide) (by decide) (by decide)
  simp only [thi] at h32
  have h33 : 0 ≤ T 33 e ∧ T 33 e ≤ thi 33 := I.1 33 e (by decide) (by decide) (by decide)
  simp only [thi] at h33
  refine Z.aload_n C dX6_costOf_0 rfl ?_
  refine g_X6_142  C rfl dX6_costOf_1 (R.ent he) rfl ?_
  refine Z.way C (i := 1) (by decide) zx_w1 dX6_costOf_4 ?_
  refine Z.acmp_ne (tgt := 25) C dX6_costOf_7 (by decide) (fun c7 => ?_) (fun c7 => ?_)
  · have w1 : ¬ T 32 e = 1 := fun z => c7 (by rw [z]; rfl)
    refine Z.aload_n C dX6_costOf_25 rfl ?_
    refine g_X6_142  C rfl dX6_costOf_26 (R.ent he) rfl ?_
    refine Z.way C (i := 2) (by decide) zx_w2 dX6_costOf_29 ?_
    refine Z.acmp_ne (tgt := 66) C dX6_costOf_32 (by decide) (fun c32 => ?_) (fun c32 => ?_)
    · have w2 : ¬ T 32 e = 2 := fun z => c32 (by rw [z]; rfl)
      refine Z.iconst C dX6_costOf_66 ?_
      exact Z.iret C E dX6_costOf_67 (by decide) (by decide) ⟨by unfold cCost; rw [if_neg w1, if_neg w2], rfl⟩
    · have w2 : T 32 e = 2 := Classical.byContradiction fun z => Z.wayNe C (i := (T 32 e).toNat) (j := 2) (by omega) (by decide) (by omega) c32
      refine Z.aload_n C dX6_costOf_35 rfl ?_
      refine g_X6_330  C rfl dX6_costOf_36 (R.ent he) rfl ?_
      refine s_X6_333 C rfl dX6_costOf_39 (c_X6_isEvening htr (by omega)) (by decide) (Nat.le_of_ble_eq_true rfl) (by rw [hR]; exact Nat.le_of_ble_eq_true rfl) (by rw [hR]; exact Nat.le_of_ble_eq_true rfl) (fun w39 h39 q39 => ?_) (fun _ _ q => q.elim)
      obtain ⟨rfl, q39⟩ := q39
      replace q39 := q39.symm
      subst q39
      obtain ⟨w, hw, hw1, hw2⟩ := ifx (18 ≤ T 33 e % 24 ∧ T 33 e % 24 ≤ 22)
      rw [hw]
      refine Z.if_eq (tgt := 49) C dX6_costOf_42 (by decide) (by omega) (by omega) (fun c42 => ?_) (fun c42 => ?_)
      · have hp9 : (if 18 ≤ T 33 e % 24 ∧ T 33 e % 24 ≤ 22 then (0 : Int) else 1) = 1 := if_neg (by omega)
        refine Z.iconst C dX6_costOf_49 ?_
        refine Z.istore_n (l' := [_, _, _]) C dX6_costOf_50 (Nat.le_of_ble_eq_true rfl) (by rw [hN]; decide) rfl ?_
        refine Z.aload_n C dX6_costOf_51 rfl ?_
        refine g_X6_327  C rfl dX6_costOf_52 (R.ent he) rfl ?_
        refine Z.aload_n C dX6_costOf_55 rfl ?_
        refine Z.iload_n C dX6_costOf_56 rfl ?_
        refine Z.aload_n C dX6_costOf_57 rfl ?_
        refine g_X6_330  C rfl dX6_costOf_58 (R.ent he) rfl ?_
        refine v_X6_181 C rfl dX6_costOf_61 (R.club) (c_X6_valueIn htr R I (by omega) (by omega)) (by decide) (Nat.le_of_ble_eq_true rfl) (by rw [hR]; exact Nat.le_of_ble_eq_true rfl) (by rw [hR]; exact Nat.le_of_ble_eq_true rfl) (fun w61 h61 q61 => ?_) (fun _ _ q => q.elim)
        obtain ⟨rfl, q61⟩ := q61
        replace q61 := q61.symm
        subst q61
        refine Z.imul C dX6_costOf_64 ?_
        exact Z.iret C E dX6_costOf_65 (by decide) (by decide) ⟨by unfold cCost; rw [if_neg w1, if_pos w2, hp9], rfl⟩
      · have hp9 : (if 18 ≤ T 33 e % 24 ∧ T 33 e % 24 ≤ 22 then (0 : Int) else 1) = 0 := if_pos (by omega)
        refine Z.iconst C dX6_costOf_45 ?_
        refine Z.goto (tgt := 50) C dX6_costOf_46 (by decide) ?_
        refine Z.istore_n (l' := [_, _, _]) C dX6_costOf_50 (Nat.le_of_ble_eq_true rfl) (by rw [hN]; decide) rfl ?_
        refine Z.aload_n C dX6_costOf_51 rfl ?_
        refine g_X6_327  C rfl dX6_costOf_52 (R.ent he) rfl ?_
        refine Z.aload_n C dX6_costOf_55 rfl ?_
        refine Z.iload_n C dX6_costOf_56 rfl ?_
        refine Z.aload_n C dX6_costOf_57 rfl ?_
        refine g_X6_330  C rfl dX6_costOf_58 (R.ent he) rfl ?_
        refine v_X6_181 C rfl dX6_costOf_61 (R.club) (c_X6_valueIn htr R I (by omega) (by omega)) (by decide) (Nat.le_of_ble_eq_true rfl) (by rw [hR]; exact Nat.le_of_ble_eq_true rfl) (by rw [hR]; exact Nat.le_of_ble_eq_true rfl) (fun w61 h61 q61 => ?_) (fun _ _ q => q.elim)
        obtain ⟨rfl, q61⟩ := q61
        replace q61 := q61.symm
        subst q61
        refine Z.imul C dX6_costOf_64 ?_
        exact Z.iret C E dX6_costOf_65 (by decide) (by decide) ⟨by unfold cCost; rw [if_neg w1, if_pos w2, hp9], rfl⟩
  · have w1 : T 32 e = 1 := Classical.byContradiction fun z => Z.wayNe C (i := (T 32 e).toNat) (j := 1) (by omega) (by decide) (by omega) c7
    refine Z.aload_n C dX6_costOf_10 rfl ?_
    refine g_X6_327  C rfl dX6_costOf_11 (R.ent he) rfl ?_
    refine Z.aload_n C dX6_costOf_14 rfl ?_
    refine Z.iconst C dX6_costOf_15 ?_
    refine Z.aload_n C dX6_costOf_16 rfl ?_
    refine g_X6_330  C rfl dX6_costOf_17 (R.ent he) rfl ?_
    refine v_X6_181 C rfl dX6_costOf_20 (R.club) (c_X6_valueIn htr R I (r := 2) (by omega) (by omega)) (by decide) (Nat.le_of_ble_eq_true rfl) (by rw [hR]; exact Nat.le_of_ble_eq_true rfl) (by rw [hR]; exact Nat.le_of_ble_eq_true rfl) (fun w20 h20 q20 => ?_) (fun _ _ q => q.elim)
    obtain ⟨rfl, q20⟩ := q20
    replace q20 := q20.symm
    subst q20
    refine Z.imul C dX6_costOf_23 ?_
    exact Z.iret C E dX6_costOf_24 (by decide) (by decide) ⟨by unfold cCost; rw [if_pos w1], rfl⟩

