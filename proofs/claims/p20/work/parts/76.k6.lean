/-! fetch: the log, the accounts -/
/-- what is paid by the way w in this hour -/
def cFc (T : Nat → Nat → Int) (f : Nat) (w : Int) : Int := if w = 1 then T 11 f * cval T 2 (T 1 0) else if w = 2 then T 11 f * cval T (if 18 ≤ T 1 0 % 24 ∧ T 1 0 % 24 ≤ 22 then 0 else 1) (T 1 0) else 0
theorem cFc_of {T X : Nat → Nat → Int} {f n : Nat} {w : Int} (h : ∀ g, 15 ≤ g → g ≤ 19 → X g = T g) (h32 : X 32 n = w) (h33 : X 33 n = T 1 0) (h35 : X 35 n = T 11 f) : cCost X n = cFc T f w := by
  unfold cCost cFc
  rw [h32, h33, h35, cval_c (h 15 (by decide) (by decide)) (h 16 (by decide) (by decide)) (h 17 (by decide) (by decide)) (h 18 (by decide) (by decide)) (h 19 (by decide) (by decide)), cval_c (h 15 (by decide) (by decide)) (h 16 (by decide) (by decide)) (h 17 (by decide) (by decide)) (h 18 (by decide) (by decide)) (h 19 (by decide) (by decide))]
theorem ft1 {T : Nat → Nat → Int} {m f : Nat} {w hd : Int} {g : Nat → Int} : cFt1 T m f w hd g 32 (cN T 3) = w ∧ cFt1 T m f w hd g 33 (cN T 3) = T 1 0 ∧ cFt1 T m f w hd g 34 (cN T 3) = (m : Int) ∧ cFt1 T m f w hd g 35 (cN T 3) = T 11 f ∧ cFt1 T m f w hd g 36 (cN T 3) = hd := by
  have h := cLog_n (cUL T g (cN T 0)) w (T 1 0) (m : Int) (T 11 f) hd g
  rw [cUL_cN T g] at h
  exact ⟨h.2.1, h.2.2.1, h.2.2.2.1, h.2.2.2.2.1, h.2.2.2.2.2⟩
theorem ft1_ne {T : Nat → Nat → Int} {m f : Nat} {w hd : Int} {g : Nat → Int} {k : Nat} (h5 : k ≠ 5) (h : k < 31 ∨ 37 < k) : cFt1 T m f w hd g k = T k := (cLog_ne _ _ _ _ _ _ _ h).trans (cUL_ne _ _ h5 _)
theorem ft1_row {T : Nat → Nat → Int} {m f : Nat} {w hd : Int} {g : Nat → Int} (hg : ∀ j, 10 ≤ j → g j = 0) : row (cFt1 T m f w hd g) 37 10 (cN T 3) = g := by
  unfold cFt1
  rw [row_c (cLog_37 _ _ _ _ _ _ _), cUL_cN, row_rput _ _ _ _ _ hg]
theorem ft2_s {T : Nat → Nat → Int} {m f : Nat} {w hd : Int} {g : Nat → Int} : same73 (cFt1 T m f w hd g) (cFt2 T m f w hd g) := cKL_s _ _ _
theorem ft2_7 {T : Nat → Nat → Int} {m f : Nat} {w : Nat} {hd : Int} {g : Nat → Int} (hw : w ≤ 2) (i : Nat) : cFt2 T m f (w : Int) hd g 7 i = if i < cN T 0 then (if i = m then T 7 i - cFc T f (w : Int) else if (i : Int) = hd then T 7 i + cFc T f (w : Int) else T 7 i) else T 7 i := by
  have h := ft1 (T := T) (m := m) (f := f) (w := (w : Int)) (hd := hd) (g := g)
  have hc : cCost (cFt1 T m f (w : Int) hd g) (cN T 3) = cFc T f (w : Int) := cFc_of (fun k k1 k2 => ft1_ne (by omega) (by omega)) h.1 h.2.1 h.2.2.2.1
  have e7 : cFt1 T m f (w : Int) hd g 7 = T 7 := ft1_ne (by decide) (by omega)
  have e30 : row (cFt1 T m f (w : Int) hd g) 30 10 i = row T 30 10 i := row_c (ft1_ne (by decide) (by omega)) 10 i
  show cKL (cFt1 T m f (w : Int) hd g) (cN (cUL T g (cN T 0)) 3) (cN (cUL T g (cN T 0)) 0) 7 i = _
  rw [cKL_7, cUL_cN, cUL_cN, e7, e30]
  by_cases c : i < cN T 0
  · rw [if_pos c, if_pos c]
    unfold enA
    rw [hc, h.1, h.2.2.1, h.2.2.2.2, if_neg (show ¬ (w : Int) = 3 by omega)]
    by_cases d : i = m
    · rw [if_pos (by omega), if_pos d]; omega
    · rw [if_neg (by omega), if_neg d]; omega
  · rw [if_neg c, if_neg c]
theorem ft2_30 {T : Nat → Nat → Int} {m f : Nat} {w : Nat} {hd : Int} {g : Nat → Int} (hw : w ≤ 2) (hm : m < 10) (hg : ∀ j, 10 ≤ j → g j = 0) {i j : Nat} (hj : j < 10) : cFt2 T m f (w : Int) hd g 30 (10 * i + j) = if i < cN T 0 ∧ w = 2 then (if i = m then (if j = m then T 30 (10 * i + j) else T 30 (10 * i + j) + g j) else if j = m then T 30 (10 * i + j) - g i else T 30 (10 * i + j)) else T 30 (10 * i + j) := by
  have h := ft1 (T := T) (m := m) (f := f) (w := (w : Int)) (hd := hd) (g := g)
  have e30 : row (cFt1 T m f (w : Int) hd g) 30 10 i = row T 30 10 i := row_c (ft1_ne (by decide) (by omega)) 10 i
  rw [← row_at (cFt2 T m f (w : Int) hd g) 30 10 i hj]
  show row (cKL (cFt1 T m f (w : Int) hd g) (cN (cUL T g (cN T 0)) 3) (cN (cUL T g (cN T 0)) 0)) 30 10 i j = _
  rw [cUL_cN, cUL_cN, row_cKL _ _ _ (by rw [h.2.2.1]; omega), e30]
  by_cases c : i < cN T 0
  · rw [if_pos c]
    unfold enF
    rw [h.1, h.2.2.1, Int.toNat_natCast, ft1_row hg]
    by_cases d : w = 2
    · rw [if_pos (by omega), if_pos ⟨c, d⟩]
      unfold eLn
      by_cases k : i = m
      · rw [if_pos k, if_pos k]
        unfold eLf
        by_cases q : j = m
        · rw [if_pos q, if_neg (by omega), row_at T 30 10 i hj]
        · rw [if_neg q, if_pos (by omega), row_at T 30 10 i hj]
      · rw [if_neg k, if_neg k]
        unfold va_up
        by_cases q : j = m
        · rw [if_pos q, if_pos q, row_at T 30 10 i hm, q]
          omega
        · rw [if_neg q, if_neg q, row_at T 30 10 i hj]
    · rw [if_neg (by omega), if_neg (by omega), if_neg (fun z => d z.2), row_at T 30 10 i hj]
  · rw [if_neg c, if_neg (fun z => c z.1), row_at T 30 10 i hj]
theorem jB_ft {T : Nat → Nat → Int} (B : jB T) {m f w : Nat} {hd : Int} {g : Nat → Int} (hm : m < cN T 0) (hw : w ≤ 2) (hhd : -1 ≤ hd ∧ hd < T 2 0) (hg1 : ∀ j, 0 ≤ g j ∧ g j ≤ T 5 j) (hgM : ∀ j, cN T 0 ≤ j → g j = 0) (h14 : T 14 0 < 300) (h8 : T 8 m < 300) (h12 : T 12 f < 300) : T 31 0 < 310 ∧ jB (cFt3 (cFt2 T m f (w : Int) hd g) m f) := by
  obtain ⟨b1, b2, b3, b4⟩ := B
  have n := b1.n.1
  have hg10 : ∀ j, 10 ≤ j → g j = 0 := fun j hj => hgM j (by omega)
  have hmb := mmany_b T (cN T 0)
  have a31 : 0 ≤ T 31 0 ∧ T 31 0 ≤ 310 := b1.1 31 0 (by decide) (by decide) (by decide)
  have a1 : 0 ≤ T 1 0 ∧ T 1 0 ≤ 2000 := b1.1 1 0 (by decide) (by decide) (by decide)
  have a11 : 0 ≤ T 11 f ∧ T 11 f ≤ 20 := b1.1 11 f (by decide) (by decide) (by decide)
  have h310 : T 31 0 < 310 := by omega
  have hg20 : ∀ j, 0 ≤ g j ∧ g j ≤ 20 := fun j => by
    have h5 : 0 ≤ T 5 j ∧ T 5 j ≤ 20 := b1.1 5 j (by decide) (by decide) (by decide)
    have := hg1 j
    omega
  have u31 : cUL T g (cN T 0) 31 = T 31 := cUL_ne _ _ (by decide) _
  have I1 : TB (cFt1 T m f (w : Int) hd g) := TB_log (TB_ul b1 hg1 _) (by omega) a1 (by omega) a11 (by omega) hg20 (by rw [u31]; exact h310)
  have hs := ft2_s (T := T) (m := m) (f := f) (w := (w : Int)) (hd := hd) (g := g)
  have I2 := same73_TB hs I1
  have c1 := cLog_cN (cUL T g (cN T 0)) (w : Int) (T 1 0) (m : Int) (T 11 f) hd g (by rw [u31]; exact a31.1)
  have N0 : cN (cFt2 T m f (w : Int) hd g) 0 = cN T 0 := (same73_cN hs 0).trans (c1.1.trans (cUL_cN T g _ _))
  have N3 : cN (cFt2 T m f (w : Int) hd g) 3 = cN T 3 + 1 := (same73_cN hs 3).trans (c1.2.2.2.trans (by rw [cUL_cN]))
  have hf3 := cFt3_cN (cFt2 T m f (w : Int) hd g) m f
  have f3 : ∀ {k : Nat}, k ≠ 14 → k ≠ 8 → k ≠ 12 → cFt3 (cFt2 T m f (w : Int) hd g) m f k = cFt2 T m f (w : Int) hd g k := fun q1 q2 q3 => by
    unfold cFt3
    rw [su_ne _ _ _ q3, su_ne _ _ _ q2, su_ne _ _ _ q1]
  have t2 : ∀ {k : Nat}, k ≠ 5 → k ≠ 7 → k ≠ 30 → (k < 31 ∨ 37 < k) → cFt2 T m f (w : Int) hd g k = T k := fun q5 q7 q30 q => cFt2_ne _ _ _ _ _ _ q5 q7 q30 q
  have hbu : ∀ m', m' < cN (cUL T g (cN T 0)) 0 → bA (cUL T g (cN T 0)) m' (cN (cUL T g (cN T 0)) 3) = (cUL T g (cN T 0) 7 m', row (cUL T g (cN T 0)) 30 10 m') := fun m' hm' => by
    have sl : sameL T (cUL T g (cN T 0)) := ⟨fun k q1 q2 => cUL_ne _ _ (by omega) _, fun k q1 q2 => cUL_ne _ _ (by omega) _⟩
    rw [sl.b, cUL_cN, cUL_ne _ _ (by decide), row_c (cUL_ne T g (k := 30) (by decide) _)]
    exact b2 m' (by rw [← cUL_cN T g (cN T 0)]; exact hm')
  have hbl := bA_log (w := (w : Int)) (hr := T 1 0) (un := T 11 f) (hd := hd) (g := g) (wh := m) (by omega) hbu
  refine ⟨h310, TB_ft3 I2 m f (by rw [t2 (by decide) (by decide) (by decide) (by omega)]; exact h14) (by rw [t2 (by decide) (by decide) (by decide) (by omega)]; exact h8) (by rw [t2 (by decide) (by decide) (by decide) (by omega)]; exact h12), fun m' hm' => ?_, fun e he => ?_, ?_⟩
  · have sl : sameL (cFt2 T m f (w : Int) hd g) (cFt3 (cFt2 T m f (w : Int) hd g) m f) := ⟨fun k q1 q2 => f3 (by omega) (by omega) (by omega), fun k q1 q2 => f3 (by omega) (by omega) (by omega)⟩
    rw [sl.b, hf3, N3, f3 (by decide) (by decide) (by decide), row_c (f3 (k := 30) (by decide) (by decide) (by decide))]
    have := hbl m' (by rw [cUL_cN, ← N0, ← hf3]; exact hm')
    rw [cUL_cN T g (cN T 0) 3] at this
    unfold cFt2 cFt1
    rw [cUL_cN T g (cN T 0) 3]
    exact this
  · rw [hf3, N3] at he
    rw [hf3, N0, f3 (k := 33) (by decide) (by decide) (by decide), f3 (k := 1) (by decide) (by decide) (by decide), f3 (k := 34) (by decide) (by decide) (by decide), f3 (k := 2) (by decide) (by decide) (by decide), f3 (k := 36) (by decide) (by decide) (by decide), f3 (k := 37) (by decide) (by decide) (by decide), t2 (k := 1) (by decide) (by decide) (by decide) (by omega), t2 (k := 2) (by decide) (by decide) (by decide) (by omega), hs 33 (by decide) (by decide), hs 34 (by decide) (by decide), hs 36 (by decide) (by decide), hs 37 (by decide) (by decide)]
    have e37 : cFt1 T m f (w : Int) hd g 37 = rput (cUL T g (cN T 0)) 37 10 (cN T 3) g 37 := by
      unfold cFt1
      rw [cLog_37, cUL_cN T g (cN T 0) 3]
    by_cases c : e = cN T 3
    · have h := ft1 (T := T) (m := m) (f := f) (w := (w : Int)) (hd := hd) (g := g)
      rw [c, h.2.1, h.2.2.1, h.2.2.2.2, e37]
      refine ⟨Int.le_refl _, by omega, hhd.2, fun j hj1 hj => ?_⟩
      rw [rput_at _ _ _ _ _ hj, if_pos rfl]
      exact hgM j hj1
    · have := b3 e (by omega)
      have hne : e ≠ cN (cUL T g (cN T 0)) 3 := by rw [cUL_cN]; exact c
      rw [e37, show cFt1 T m f (w : Int) hd g 33 e = T 33 e from (cLog_o _ _ _ _ _ _ _ (by decide) (by decide) hne).trans (congrFun (cUL_ne _ _ (by decide) _) e), show cFt1 T m f (w : Int) hd g 34 e = T 34 e from (cLog_o _ _ _ _ _ _ _ (by decide) (by decide) hne).trans (congrFun (cUL_ne _ _ (by decide) _) e), show cFt1 T m f (w : Int) hd g 36 e = T 36 e from (cLog_o _ _ _ _ _ _ _ (by decide) (by decide) hne).trans (congrFun (cUL_ne _ _ (by decide) _) e)]
      refine ⟨this.1, this.2.1, this.2.2.1, fun j hj1 hj => ?_⟩
      rw [rput_at _ _ _ _ _ hj, if_neg c, cUL_ne _ _ (by decide)]
      exact this.2.2.2 j hj1 hj
  · have e31 : cFt2 T m f (w : Int) hd g 31 0 = T 31 0 + 1 := by
      rw [hs 31 (by decide) (by decide)]
      show cLog (cUL T g (cN T 0)) (w : Int) (T 1 0) (m : Int) (T 11 f) hd g 31 0 = _
      rw [(cLog_n _ _ _ _ _ _ _).1, u31]
    have e14 : cFt3 (cFt2 T m f (w : Int) hd g) m f 14 0 = T 14 0 + 1 := by
      unfold cFt3
      rw [su_ne _ _ _ (by decide), su_ne _ _ _ (by decide), su_at, if_pos ⟨rfl, rfl⟩, t2 (by decide) (by decide) (by decide) (by omega)]
    rw [hf3, N0, e14, mmany_c (T := cFt3 (cFt2 T m f (w : Int) hd g) m f) (S := T) ((f3 (by decide) (by decide) (by decide)).trans (t2 (by decide) (by decide) (by decide) (by omega))), f3 (k := 31) (by decide) (by decide) (by decide), e31, f3 (k := 2) (by decide) (by decide) (by decide), t2 (k := 2) (by decide) (by decide) (by decide) (by omega)]
    omega
theorem J_ft {T S S1 : Nat → Nat → Int} (J : JJ T S) {m f w : Nat} {hd p : Int} {g : Nat → Int} (hm : m < cN T 0) (hf : f < cN T 1) (h3 : ¬ T 3 m = 0) (h14 : T 14 0 < 300) (hw : w ≤ 2) (hhd : -1 ≤ hd ∧ hd < T 2 0) (hg1 : ∀ j, 0 ≤ g j ∧ g j ≤ T 5 j) (hgM : ∀ j, cN T 0 ≤ j → g j = 0)
    (k1 : ∀ k, k ≠ 5 → k ≠ 7 → k ≠ 9 → S1 k = S k) (k5 : ∀ j, T 5 j - g j = if S 3 j = 0 then 0 else S1 5 j) (k30 : ∀ i j, i < 10 → j < 10 → cFt2 T m f (w : Int) hd g 30 (10 * i + j) = S1 9 (10 * i + j) - S1 9 (10 * j + i)) (k7 : ∀ i, cFt2 T m f (w : Int) hd g 7 i = S1 7 i - if i = m then p else 0) (kMB : MB S1)
    (kz : ∀ j, S 3 j = 0 → j < 10 → ∀ i, i < 10 → S1 9 (10 * i + j) = 0 ∧ S1 9 (10 * j + i) = 0) (ka : ∀ i j, i < 10 → j < 10 → S1 9 (10 * i + j) = 0 ∨ S1 9 (10 * j + i) = 0) (kb : ∀ j, S1 9 j ≤ 20 * S 14 0 + 20) : JJ (cFt3 (cFt2 T m f (w : Int) hd g) m f) (fS2 S1 m f p) := by
  have ht : ∀ {k : Nat}, 1 ≤ k → k ≤ 20 → k ≠ 5 → k ≠ 9 → T k = S k := fun a b c d => J.t a b c d
  obtain ⟨⟨n0, n0b, n0c⟩, ⟨n1, n1b, n1c⟩, -⟩ := jMem J
  obtain ⟨⟨a1, a2, a3⟩, B, c1, c2, c3, c4, c5, c6, c7, c8, c9⟩ := J
  have e14 : T 14 0 = S 14 0 := congrFun (ht (by decide) (by decide) (by decide) (by decide)) 0
  have s14 : 0 ≤ S 14 0 ∧ S 14 0 ≤ 300 := c1 14 0 (by decide)
  have e8 : T 8 m = S 8 m := congrFun (ht (by decide) (by decide) (by decide) (by decide)) m
  have e12 : T 12 f = S 12 f := congrFun (ht (by decide) (by decide) (by decide) (by decide)) f
  have l8 := c8.2.2 m
  have l12 := c8.2.1 f
  have hB := jB_ft B (f := f) hm hw hhd hg1 hgM h14 (by omega) (by omega)
  have t2 : ∀ {k : Nat}, k ≠ 5 → k ≠ 7 → k ≠ 30 → (k < 31 ∨ 37 < k) → cFt2 T m f (w : Int) hd g k = T k := fun q5 q7 q30 q => cFt2_ne _ _ _ _ _ _ q5 q7 q30 q
  have f3 : ∀ {k : Nat}, k ≠ 14 → k ≠ 8 → k ≠ 12 → cFt3 (cFt2 T m f (w : Int) hd g) m f k = cFt2 T m f (w : Int) hd g k := fun q1 q2 q3 => by
    unfold cFt3
    rw [su_ne _ _ _ q3, su_ne _ _ _ q2, su_ne _ _ _ q1]
  have f2 : ∀ {k : Nat}, k ≠ 14 → k ≠ 8 → k ≠ 12 → k ≠ 7 → fS2 S1 m f p k = S1 k := fun q1 q2 q3 q7 => by
    unfold fS2
    rw [su_ne _ _ _ q1, su_ne _ _ _ q2, su_ne _ _ _ q3, su_ne _ _ _ q7]
  have f2s : ∀ {k : Nat}, k ≠ 14 → k ≠ 8 → k ≠ 12 → k ≠ 7 → k ≠ 5 → k ≠ 9 → fS2 S1 m f p k = S k := fun q1 q2 q3 q7 q5 q9 => (f2 q1 q2 q3 q7).trans (k1 _ q5 q7 q9)
  have T5 : ∀ j, cFt2 T m f (w : Int) hd g 5 j = T 5 j - g j := fun j => by
    rw [ft2_s (T := T) (m := m) (f := f) (w := (w : Int)) (hd := hd) (g := g) 5 (by decide) (by decide)]
    show cLog (cUL T g (cN T 0)) (w : Int) (T 1 0) (m : Int) (T 11 f) hd g 5 j = _
    rw [cLog_ne _ _ _ _ _ _ _ (by omega), cUL_5]
    split
    · rfl
    · rename_i z
      rw [hgM j (by omega)]
      omega
  have F7 : ∀ i, fS2 S1 m f p 7 i = S1 7 i - if i = m then p else 0 := fun i => by
    unfold fS2
    rw [su_ne _ _ _ (by decide), su_ne _ _ _ (by decide), su_ne _ _ _ (by decide), su_at]
    by_cases c : i = m
    · rw [if_pos ⟨rfl, c⟩, if_pos c, c]
    · rw [if_neg (fun z => c z.2), if_neg c]
      omega
  have F12 : ∀ j, fS2 S1 m f p 12 j = if j = f then S 12 f + 1 else S 12 j := fun j => by
    unfold fS2
    rw [su_ne _ _ _ (by decide), su_ne _ _ _ (by decide), su_at, su_ne _ _ _ (by decide), k1 12 (by decide) (by decide) (by decide)]
    by_cases c : j = f
    · rw [if_pos ⟨rfl, c⟩, if_pos c]
    · rw [if_neg (fun z => c z.2), if_neg c]
  have F8 : ∀ j, fS2 S1 m f p 8 j = if j = m then S 8 m + 1 else S 8 j := fun j => by
    unfold fS2
    rw [su_ne _ _ _ (by decide), su_at, su_ne _ _ _ (by decide), su_ne _ _ _ (by decide), k1 8 (by decide) (by decide) (by decide)]
    by_cases c : j = m
    · rw [if_pos ⟨rfl, c⟩, if_pos c]
    · rw [if_neg (fun z => c z.2), if_neg c]
  have F14j : ∀ j, fS2 S1 m f p 14 j = if j = 0 then S 14 0 + 1 else S 14 j := fun j => by
    unfold fS2
    rw [su_at, su_ne _ _ _ (by decide), su_ne _ _ _ (by decide), su_ne _ _ _ (by decide), k1 14 (by decide) (by decide) (by decide)]
    by_cases c : j = 0
    · rw [if_pos ⟨rfl, c⟩, if_pos c]
    · rw [if_neg (fun z => c z.2), if_neg c]
  have F14 : fS2 S1 m f p 14 0 = S 14 0 + 1 := (F14j 0).trans (if_pos rfl)
  have M2 : mM (fS2 S1 m f p) = cN T 0 := by unfold mM; rw [f2s (by decide) (by decide) (by decide) (by decide) (by decide) (by decide)]; exact n0c
  have F2 : mF (fS2 S1 m f p) = mF S := by unfold mF; rw [f2s (by decide) (by decide) (by decide) (by decide) (by decide) (by decide)]
  have P2 : mP (fS2 S1 m f p) = mP S := by unfold mP; rw [f2s (by decide) (by decide) (by decide) (by decide) (by decide) (by decide)]
  refine ⟨⟨fun k k1' k2 k5' k9 => ?_, fun j => ?_, fun i j hi hj => ?_⟩, hB.2, ?_, fun j hj => ?_, fun j hj hz => ⟨fun q hq => ?_, fun i hi => ?_, fun q hq he => ?_⟩, fun q hq => ?_, ?_, ?_, fun i j hi hj => ?_, ⟨fun j => ?_, fun j => ?_, fun j => ?_⟩, ?_⟩
  · by_cases q7 : k = 7
    · subst q7
      funext i
      rw [f3 (by decide) (by decide) (by decide), k7, F7]
    · by_cases q12 : k = 12
      · subst q12
        funext j
        rw [F12]
        unfold cFt3
        rw [su_at, su_ne _ _ _ (by decide), su_ne _ _ _ (by decide), t2 (by decide) (by decide) (by decide) (by omega), ht (by decide) (by decide) (by decide) (by decide)]
        by_cases c : j = f
        · rw [if_pos ⟨rfl, c⟩, if_pos c]
        · rw [if_neg (fun z => c z.2), if_neg c]
      · by_cases q8 : k = 8
        · subst q8
          funext j
          rw [F8]
          unfold cFt3
          rw [su_ne _ _ _ (by decide), su_at, su_ne _ _ _ (by decide), t2 (by decide) (by decide) (by decide) (by omega), ht (by decide) (by decide) (by decide) (by decide)]
          by_cases c : j = m
          · rw [if_pos ⟨rfl, c⟩, if_pos c]
          · rw [if_neg (fun z => c z.2), if_neg c]
        · by_cases q14 : k = 14
          · subst q14
            funext j
            rw [F14j]
            unfold cFt3
            rw [su_ne _ _ _ (by decide), su_ne _ _ _ (by decide), su_at, t2 (by decide) (by decide) (by decide) (by omega), ht (by decide) (by decide) (by decide) (by decide)]
            by_cases c : j = 0
            · rw [if_pos ⟨rfl, c⟩, if_pos c]
            · rw [if_neg (fun z => c z.2), if_neg c]
          · rw [f3 q14 q8 q12, f2s q14 q8 q12 q7 k5' k9, t2 k5' q7 (by omega) (by omega)]
            exact ht k1' k2 k5' k9
  · rw [f3 (by decide) (by decide) (by decide), T5, f2s (by decide) (by decide) (by decide) (by decide) (by decide) (by decide), f2 (by decide) (by decide) (by decide) (by decide)]
    exact k5 j
  · rw [f3 (by decide) (by decide) (by decide), f2 (by decide) (by decide) (by decide) (by decide)]
    exact k30 i j hi hj
  · refine MB_fS2 kMB ?_ ?_ ?_ p
    · rw [k1 14 (by decide) (by decide) (by decide)]; omega
    · rw [k1 14 (by decide) (by decide) (by decide), k1 12 (by decide) (by decide) (by decide)]; exact l12
    · rw [k1 14 (by decide) (by decide) (by decide), k1 8 (by decide) (by decide) (by decide)]; exact l8
  · rw [M2] at hj
    have := c2 j (by omega)
    have h7 := k7 j
    rw [ft2_7 hw, if_neg (by omega), ht (by decide) (by decide) (by decide) (by decide), this.2.1, if_neg (show ¬ j = m by omega)] at h7
    rw [f2s (by decide) (by decide) (by decide) (by decide) (by decide) (by decide), F7, F8, if_neg (show ¬ j = m by omega)]
    exact ⟨this.1, h7.symm, by first | exact this.2.2 | (rw [if_neg (show ¬ j = m by omega)]; exact this.2.2)⟩
  · rw [f2s (by decide) (by decide) (by decide) (by decide) (by decide) (by decide)] at hz ⊢
    exact (c3 j hj hz).1 q hq
  · rw [f2s (by decide) (by decide) (by decide) (by decide) (by decide) (by decide)] at hz
    rw [f2 (by decide) (by decide) (by decide) (by decide)]
    exact kz j hz hj i hi
  · rw [f2s (by decide) (by decide) (by decide) (by decide) (by decide) (by decide)] at hz hq ⊢
    exact (c3 j hj hz).2.2 q hq he
  · rw [F2] at hq
    rw [F12, if_neg (by omega)]
    exact c4 q hq
  · rw [P2, f2s (k := 16) (by decide) (by decide) (by decide) (by decide) (by decide) (by decide), f2s (k := 19) (by decide) (by decide) (by decide) (by decide) (by decide) (by decide), f2s (k := 20) (by decide) (by decide) (by decide) (by decide) (by decide) (by decide)]
    exact c5
  · intro q
    rw [f2s (k := 16) (by decide) (by decide) (by decide) (by decide) (by decide) (by decide), f2s (k := 21) (by decide) (by decide) (by decide) (by decide) (by decide) (by decide), f2s (k := 22) (by decide) (by decide) (by decide) (by decide) (by decide) (by decide), row_c (f2s (k := 20) (by decide) (by decide) (by decide) (by decide) (by decide) (by decide))]
    exact c6 q
  · rw [f2 (by decide) (by decide) (by decide) (by decide)]
    exact ka i j hi hj
  · rw [F14, f2 (by decide) (by decide) (by decide) (by decide)]
    have := kb j
    omega
  · rw [F14, F12]
    have := c8.2.1 j
    split <;> omega
  · rw [F14, F8]
    have := c8.2.2 j
    split <;> omega
  · rw [F2, f2s (by decide) (by decide) (by decide) (by decide) (by decide) (by decide)]
    exact c9
