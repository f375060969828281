/-! fetch: the three ways -/
theorem e_all {T S : Nat → Nat → Int} (h : ∀ j, T 5 j = if S 3 j = 0 then 0 else S 5 j) : ∀ n, cA T n = mall S n
  | 0 => rfl
  | n + 1 => by rw [cA, mall, e_all h n, h n]
theorem cFt_cost {T : Nat → Nat → Int} {m f : Nat} {w : Nat} {hd : Int} {g : Nat → Int} : cCost (cFt T m f (w : Int) hd g) (cN (cUL T g (cN T 0)) 3) = cFc T f (w : Int) := by
  have h := ft1 (T := T) (m := m) (f := f) (w := (w : Int)) (hd := hd) (g := g)
  have e1 : ∀ {k : Nat}, k ≠ 13 → k ≠ 14 → k ≠ 8 → k ≠ 12 → cFt T m f (w : Int) hd g k = cFt2 T m f (w : Int) hd g k := fun {k} q1 q2 q3 q4 => by
    have e3 : cFt3 (cFt2 T m f (w : Int) hd g) m f k = cFt2 T m f (w : Int) hd g k := by
      unfold cFt3
      rw [su_ne _ _ _ q4, su_ne _ _ _ q3, su_ne _ _ _ q2]
    unfold cFt
    split
    · rw [cPC_ne _ _ _ q1]
      exact e3
    · exact e3
  have e2 : ∀ {k : Nat}, k ≠ 7 → k ≠ 30 → cFt2 T m f (w : Int) hd g k = cFt1 T m f (w : Int) hd g k := fun q1 q2 => ft2_s _ q1 q2
  rw [cUL_cN]
  exact cFc_of (fun k k1 k2 => (e1 (by omega) (by omega) (by omega) (by omega)).trans (cFt2_ne _ _ _ _ _ _ (by omega) (by omega) (by omega) (by omega))) ((congrFun ((e1 (by decide) (by decide) (by decide) (by decide)).trans (e2 (by decide) (by decide))) _).trans h.1) ((congrFun ((e1 (by decide) (by decide) (by decide) (by decide)).trans (e2 (by decide) (by decide))) _).trans h.2.1) ((congrFun ((e1 (by decide) (by decide) (by decide) (by decide)).trans (e2 (by decide) (by decide))) _).trans h.2.2.2.1)
theorem J_ft0 {T S : Nat → Nat → Int} (J : JJ T S) {m f : Nat} (hm : m < cN T 0) (hf : f < cN T 1) (h3 : ¬ T 3 m = 0) (h14 : T 14 0 < 300) (h0 : ¬ S 13 (20 * m + f) = 0) : cFc T f 0 = fPays S m f ∧ JJ (cFt T m f 0 (-1) (fun _ => 0)) (sFetch S m f) := by
  have ht : ∀ {k : Nat}, 1 ≤ k → k ≤ 20 → k ≠ 5 → k ≠ 9 → T k = S k := fun a b c d => J.t a b c d
  obtain ⟨⟨n0, n0b, n0c⟩, -, -⟩ := jMem J
  have J0 := J
  obtain ⟨⟨a1, a2, a3⟩, B, c1, c2, c3, c4, c5, c6, c7, c8, c9⟩ := J
  have e2 : T 2 0 = S 2 0 := congrFun (ht (by decide) (by decide) (by decide) (by decide)) 0
  have hz5 : ∀ j, (0 : Int) ≤ 0 ∧ 0 ≤ T 5 j := fun j => ⟨Int.le_refl _, (B.1.1 5 j (by decide) (by decide) (by decide)).1⟩
  have hc0 : cFc T f 0 = 0 := rfl
  have hp : fPays S m f = 0 := by unfold fPays; rw [if_pos h0]
  have hfr : fFrom S m f = -1 := by unfold fFrom; rw [if_neg h0]
  have hS1 : fS1 S m f = S := by
    unfold fS1
    rw [if_neg (fun z => z.1 hfr), if_neg h0]
  refine ⟨hc0.trans hp.symm, ?_⟩
  have hT : cFt T m f 0 (-1) (fun _ => 0) = cFt3 (cFt2 T m f ((0 : Nat) : Int) (-1) (fun _ => 0)) m f := by unfold cFt; rw [if_neg (by decide)]; rfl
  have hS : sFetch S m f = fS2 S m f 0 := by unfold sFetch; rw [if_neg (fun z => h0 z.1), hS1, hp]
  rw [hT, hS]
  refine J_ft J0 (S1 := S) (p := 0) hm hf h3 h14 (w := 0) (by decide) ⟨by decide, by omega⟩ hz5 (fun _ _ => rfl) (fun _ _ _ _ => rfl) (fun j => ?_) (fun i j hi hj => ?_) (fun i => ?_) c1 (fun j hz hj => (c3 j hj hz).2.1) c7 (fun j => ?_)
  · rw [Int.sub_zero]
    exact a2 j
  · rw [ft2_30 (by decide) (by omega) (fun _ _ => rfl) hj, if_neg (fun z => by omega)]
    exact a3 i j hi hj
  · rw [ft2_7 (by decide), ht (by decide) (by decide) (by decide) (by decide), show cFc T f ((0 : Nat) : Int) = 0 from rfl]
    (repeat' split) <;> omega
  · have := c8.1 j
    omega
theorem e_from {T S : Nat → Nat → Int} (J : JJ T S) {m f : Nat} (hm : m < cN T 0) (h3 : ¬ T 3 m = 0) (h0 : S 13 (20 * m + f) = 0) : (∃ l : Nat, cMF T (fun _ => (0 : Int)) (f : Int) (cN T 0) = (l : Int) ∧ l < cN T 0 ∧ fFrom S m f = (l : Int) ∧ T 5 l = S 5 l ∧ ¬ l = m ∧ ¬ S 3 l = 0) ∨ (cMF T (fun _ => (0 : Int)) (f : Int) (cN T 0) = -1 ∧ (fFrom S m f = -1 ∨ S 5 (fFrom S m f).toNat = 0)) := by
  have ht : ∀ {k : Nat}, 1 ≤ k → k ≤ 20 → k ≠ 5 → k ≠ 9 → T k = S k := fun a b c d => J.t a b c d
  obtain ⟨⟨n0, n0b, n0c⟩, -, -⟩ := jMem J
  have hv : ∀ j, T 5 j - (fun _ => (0 : Int)) j = if S 3 j = 0 then 0 else S 5 j := fun j => by
    show T 5 j - 0 = _
    rw [Int.sub_zero]
    exact J.1.2.1 j
  have hfr : fFrom S m f = mmost S (m : Int) (f : Int) (cN T 0) := by unfold fFrom; rw [if_pos h0, n0c]
  have hmm := e_most (T := T) (Sx := S) (g := fun _ => 0) (m := m) (fm := (f : Int)) hv (fun j => (J.2.2.1 5 j (by decide)).1) (fun j => congrFun (ht (by decide) (by decide) (by decide) (by decide)) j) (Or.inr ⟨by omega, by rw [Int.toNat_natCast]; exact h0⟩) (cN T 0)
  rw [hfr]
  rcases hmm with ⟨i1, i2, i3, i4⟩ | ⟨i1, i2⟩
  · have hb := cMF_b T (fun _ => (0 : Int)) (f : Int) (cN T 0)
    obtain ⟨l, hl⟩ := toN (p := cMF T (fun _ => (0 : Int)) (f : Int) (cN T 0)) (by omega)
    have hh := mmost_hit S (m : Int) (f : Int) (cN T 0) (by omega)
    rw [hl] at i2 i3 hb
    rw [← i2, Int.toNat_natCast] at hh i3
    rw [cml_n] at i3
    refine Or.inl ⟨l, hl, by omega, i2.symm, ?_, fun z => hh.1 (by omega), hh.2⟩
    rw [← i3]
    exact (Int.sub_zero _).symm
  · exact Or.inr ⟨i1, i2⟩
theorem J_ft1 {T S : Nat → Nat → Int} (J : JJ T S) {m f l : Nat} (hm : m < cN T 0) (hf : f < cN T 1) (h3 : ¬ T 3 m = 0) (h14 : T 14 0 < 300) (h0 : S 13 (20 * m + f) = 0) (hl : l < cN T 0) (hfr : fFrom S m f = (l : Int)) (h5 : T 5 l = S 5 l) (hlm : ¬ l = m) (hl3 : ¬ S 3 l = 0) (hz : T 11 f ≤ T 5 l) : cFc T f 1 = fPays S m f ∧ JJ (cFt T m f 1 (l : Int) (va_up (fun _ => (0 : Int)) l (0 + T 11 f))) (sFetch S m f) := by
  have ht : ∀ {k : Nat}, 1 ≤ k → k ≤ 20 → k ≠ 5 → k ≠ 9 → T k = S k := fun a b c d => J.t a b c d
  obtain ⟨⟨n0, n0b, n0c⟩, -, -⟩ := jMem J
  have J0 := J
  obtain ⟨⟨a1, a2, a3⟩, B, c1, c2, c3, c4, c5, c6, c7, c8, c9⟩ := J
  have e2 : T 2 0 = S 2 0 := congrFun (ht (by decide) (by decide) (by decide) (by decide)) 0
  have e11 : T 11 f = S 11 f := congrFun (ht (by decide) (by decide) (by decide) (by decide)) f
  have b11 : 0 ≤ T 11 f ∧ T 11 f ≤ 20 := B.1.1 11 f (by decide) (by decide) (by decide)
  have b5 : ∀ j, 0 ≤ T 5 j ∧ T 5 j ≤ 20 := fun j => B.1.1 5 j (by decide) (by decide) (by decide)
  have b5l := b5 l
  have hlent : ¬ fFrom S m f = -1 ∧ S 11 f ≤ S 5 (fFrom S m f).toNat := by
    rw [hfr, Int.toNat_natCast]
    exact ⟨by omega, by omega⟩
  have hp : fPays S m f = S 11 f * mval S 2 := by unfold fPays; rw [if_neg (fun z => z h0), if_pos hlent]
  have hc1 : cFc T f 1 = fPays S m f := by
    rw [hp]
    unfold cFc
    rw [if_pos rfl, e11, e_val J0 (r := 2) (by decide)]
  refine ⟨hc1, ?_⟩
  have hS1 : fS1 S m f = su (su S 5 l (S 5 l - S 11 f)) 7 l (S 7 l + fPays S m f) := by
    unfold fS1
    rw [if_pos hlent, hfr, Int.toNat_natCast]
  have hT : cFt T m f 1 (l : Int) (va_up (fun _ => (0 : Int)) l (0 + T 11 f)) = cFt3 (cFt2 T m f ((1 : Nat) : Int) (l : Int) (va_up (fun _ => (0 : Int)) l (0 + T 11 f))) m f := by unfold cFt; rw [if_neg (by decide)]; rfl
  have hS : sFetch S m f = fS2 (su (su S 5 l (S 5 l - S 11 f)) 7 l (S 7 l + fPays S m f)) m f (fPays S m f) := by unfold sFetch; rw [if_neg (fun z => z.2 hlent), hS1]
  rw [hT, hS]
  have hg : ∀ j, va_up (fun _ => (0 : Int)) l (0 + T 11 f) j = if j = l then 0 + T 11 f else 0 := fun _ => rfl
  refine J_ft J0 (S1 := su (su S 5 l (S 5 l - S 11 f)) 7 l (S 7 l + fPays S m f)) (p := fPays S m f) hm hf h3 h14 (w := 1) (by decide) ⟨by omega, by omega⟩ (fun j => ?_) (fun j hj => ?_) (fun k k5 k7 k9 => ?_) (fun j => ?_) (fun i j hi hj => ?_) (fun i => ?_) (MB_su7 (MB_su c1 5 l (show 0 ≤ S 5 l - S 11 f ∧ S 5 l - S 11 f ≤ (20 : Int) by omega)) l _) (fun j hz hj => (c3 j hj hz).2.1) c7 (fun j => ?_)
  · have := b5 j
    rw [hg]
    by_cases c : j = l
    · rw [if_pos c, c]
      omega
    · rw [if_neg c]
      omega
  · rw [hg, if_neg (by omega)]
  · rw [su_ne _ _ _ k7, su_ne _ _ _ k5]
  · rw [su_ne _ _ _ (by decide), su_at, hg]
    have := a2 j
    by_cases c : j = l
    · rw [if_pos c, if_pos (show 5 = 5 ∧ j = l from ⟨rfl, c⟩), c, if_neg hl3]
      omega
    · rw [if_neg c, if_neg (show ¬ (5 = 5 ∧ j = l) from fun z => c z.2), Int.sub_zero]
      exact this
  · rw [ft2_30 (by decide) (by omega) (fun j hj => by rw [hg, if_neg (by omega)]) hj, if_neg (fun z => by omega)]
    exact a3 i j hi hj
  · rw [ft2_7 (by decide), show ((1 : Nat) : Int) = 1 from rfl, hc1, ht (by decide) (by decide) (by decide) (by decide), su_at, su_ne S _ _ (show 7 ≠ 5 by decide)]
    by_cases c : i = m
    · rw [if_pos (show i < cN T 0 by omega), if_pos c, if_pos c, if_neg (show ¬ (7 = 7 ∧ i = l) from fun z => by omega)]
    · rw [if_neg c, if_neg c]
      by_cases d : i = l
      · rw [if_pos (show i < cN T 0 by omega), if_pos (show (i : Int) = (l : Int) by omega), if_pos ⟨rfl, d⟩, d]
        omega
      · rw [if_neg (show ¬ (i : Int) = (l : Int) by omega), if_neg (show ¬ (7 = 7 ∧ i = l) from fun z => d z.2)]
        split <;> omega
  · have := c8.1 j
    show S 9 j ≤ _
    omega
theorem J_ft2 {T S : Nat → Nat → Int} (J : JJ T S) {m f : Nat} (hm : m < cN T 0) (hf : f < cN T 1) (h3 : ¬ T 3 m = 0) (h14 : T 14 0 < 300) (h0 : S 13 (20 * m + f) = 0) (hno : ¬ (¬ fFrom S m f = -1 ∧ S 11 f ≤ S 5 (fFrom S m f).toNat)) (hA : T 11 f ≤ cA T (cN T 0)) : (∀ j, 0 ≤ pO0 T m (T 11 f) j ∧ pO0 T m (T 11 f) j ≤ T 5 j) ∧ (∀ j, cN T 0 ≤ j → pO0 T m (T 11 f) j = 0) ∧ cFc T f 2 = fPays S m f ∧ JJ (cFt T m f 2 (-1) (pO0 T m (T 11 f))) (sFetch S m f) := by
  have ht : ∀ {k : Nat}, 1 ≤ k → k ≤ 20 → k ≠ 5 → k ≠ 9 → T k = S k := fun a b c d => J.t a b c d
  obtain ⟨⟨n0, n0b, n0c⟩, -, -⟩ := jMem J
  have J0 := J
  obtain ⟨⟨a1, a2, a3⟩, B, c1, c2, c3, c4, c5, c6, c7, c8, c9⟩ := J
  have e2 : T 2 0 = S 2 0 := congrFun (ht (by decide) (by decide) (by decide) (by decide)) 0
  have h3S : ¬ S 3 m = 0 := by rw [← ht (k := 3) (by decide) (by decide) (by decide) (by decide)]; exact h3
  have e11 : T 11 f = S 11 f := congrFun (ht (by decide) (by decide) (by decide) (by decide)) f
  have e5 : T 5 m = S 5 m := by rw [a2 m, if_neg h3S]
  have b11 : 0 ≤ T 11 f ∧ T 11 f ≤ 20 := B.1.1 11 f (by decide) (by decide) (by decide)
  have b5 : 0 ≤ T 5 m ∧ T 5 m ≤ 20 := B.1.1 5 m (by decide) (by decide) (by decide)
  have b14 : 0 ≤ S 14 0 ∧ S 14 0 ≤ 300 := c1 14 0 (by decide)
  have hp : fPays S m f = S 11 f * mprice S := by unfold fPays; rw [if_neg (fun z => z h0), if_neg hno]
  have e1 : T 1 0 = S 1 0 := congrFun (ht (by decide) (by decide) (by decide) (by decide)) 0
  have hc2 : cFc T f 2 = fPays S m f := by
    rw [hp]
    unfold cFc mprice
    rw [if_neg (by decide), if_pos rfl, e11, e1.symm]
    by_cases c : 18 ≤ T 1 0 % 24 ∧ T 1 0 % 24 ≤ 22
    · rw [if_pos c, e_val J0 (r := 0) (by decide)]
    · rw [if_neg c, e_val J0 (r := 1) (by decide)]
  have hown : own0 T m (T 11 f) = if S 5 m < S 11 f then S 5 m else S 11 f := by unfold own0; rw [e5, e11]
  have hP0 := PB0 B.1 hm b11 hA
  have hall : S 11 f ≤ moth S m (mM S) + S 5 m := by
    have h1 := e_all (T := T) (S := S) a2 (cN T 0)
    have h2 := mall_moth S m (cN T 0)
    rw [if_pos ⟨hm, h3S⟩] at h2
    rw [n0c]
    omega
  have hnn := moth_nn c1 m (mM S)
  have hb : mbring S m f = mbl m 20 (su S 5 m (S 5 m - own0 T m (T 11 f))) (S 11 f - own0 T m (T 11 f)) := by unfold mbring; rw [hown]
  have hg0 : pO0 T m (T 11 f) = pO T 10 (va_up (fun _ => 0) m (0 + own0 T m (T 11 f))) (S 11 f - own0 T m (T 11 f)) := by unfold pO0; rw [e11]
  have hob : 0 ≤ own0 T m (T 11 f) ∧ own0 T m (T 11 f) ≤ S 5 m ∧ own0 T m (T 11 f) ≤ S 11 f ∧ (own0 T m (T 11 f) = S 5 m ∨ own0 T m (T 11 f) = S 11 f) := by
    rw [hown]
    split <;> omega
  rw [e11] at hP0
  rw [e11] at hob hb hg0
  rw [e11] at b11
  have hPe : PB T (va_up (fun _ => 0) m (0 + own0 T m (S 11 f))) (S 11 f - own0 T m (S 11 f)) := hP0
  have Q0 : QR T S m (S 11 f) (va_up (fun _ => 0) m (0 + own0 T m (S 11 f))) (su S 5 m (S 5 m - own0 T m (S 11 f))) (S 11 f - own0 T m (S 11 f)) := by
    generalize own0 T m (S 11 f) = ow at hob hPe ⊢
    have hv : ∀ j, va_up (fun _ => (0 : Int)) m (0 + ow) j = if j = m then 0 + ow else 0 := fun _ => rfl
    refine ⟨fun j => ?_, fun k k5 k9 => su_ne _ _ _ k5, fun i j hi hj => ?_, c7, fun j hz hj => (c3 j hj hz).2.1, fun j => ?_, ⟨MB_su c1 5 m (show 0 ≤ S 5 m - ow ∧ S 5 m - ow ≤ (20 : Int) by omega), by omega, by omega, ?_, fun j => ?_⟩, hPe, fun hr => ?_, fun j hj => ?_⟩
    · rw [su_at, hv]
      by_cases c : j = m
      · rw [if_pos c, if_pos (show 5 = 5 ∧ j = m from ⟨rfl, c⟩), c, if_neg h3S]
        omega
      · rw [if_neg c, if_neg (show ¬ (5 = 5 ∧ j = m) from fun z => c z.2), Int.sub_zero]
        exact a2 j
    · rw [hv, hv]
      show S 9 _ - S 9 _ = _
      by_cases c : i = m ∧ ¬ j = m
      · rw [if_pos c, if_neg c.2, if_neg (fun z => c.2 z.1)]
        omega
      · rw [if_neg c]
        by_cases d : j = m ∧ ¬ i = m
        · rw [if_pos d, if_neg d.2]
          omega
        · rw [if_neg d]
          omega
    · have := c8.1 j
      show S 9 j ≤ _
      omega
    · rw [moth_own]
      show _ ≤ moth S m (mM S)
      omega
    · have := c8.1 j
      show S 9 j ≤ _
      omega
    · rw [hv, if_pos rfl]
      omega
    · rw [hv, if_neg (by omega)]
  have hcn := cntP_le T (va_up (fun _ => 0) m (0 + own0 T m (S 11 f))) (cN T 0)
  have Q := QR.all (fun j => congrFun (ht (k := 13) (by decide) (by decide) (by decide) (by decide)) j) n0c n0b hm h3S 10 20 _ _ _ Q0 (by omega) (by decide)
  rw [← hg0, ← hb] at Q
  obtain ⟨q1, q2, q3, q4, q5, q6, q7, q8, -, q10⟩ := Q
  rw [← e11] at q1 q3 q8 q10
  refine ⟨q8.1, q10, hc2, ?_⟩
  have hT : cFt T m f 2 (-1) (pO0 T m (T 11 f)) = cPC (cFt3 (cFt2 T m f ((2 : Nat) : Int) (-1) (pO0 T m (T 11 f))) m f) m f := by unfold cFt; rw [if_pos rfl]; rfl
  have hS1 : fS1 S m f = mbring S m f := by
    unfold fS1
    rw [if_neg hno, if_pos h0]
  have hS : sFetch S m f = mput (fS2 (mbring S m f) m f (fPays S m f)) m f := by unfold sFetch; rw [if_pos ⟨h0, hno⟩, hS1]
  rw [hT, hS]
  have b7 : mbring S m f 7 = S 7 := q2 7 (by decide) (by decide)
  refine J_put (J_ft J0 (S1 := mbring S m f) (p := fPays S m f) hm hf h3 h14 (w := 2) (by decide) ⟨by decide, by omega⟩ q8.1 q10 (fun k k5 k7 k9 => q2 k k5 k9) q1 (fun i j hi hj => ?_) (fun i => ?_) q7.1 q5 q4 (fun j => ?_)) ?_ ?_
  · rw [ft2_30 (by decide) (by omega) (fun j hj => q10 j (by omega)) hj, q3 i j hi hj, a3 i j hi hj]
    by_cases c : i < cN T 0
    · rw [if_pos ⟨c, rfl⟩]
      by_cases d : i = m
      · rw [if_pos d]
        by_cases k : j = m
        · rw [if_pos k, if_neg (fun z => z.2 k), if_neg (fun z => z.2 d)]
          omega
        · rw [if_neg k, if_pos ⟨d, k⟩, if_neg (fun z => k z.1)]
          omega
      · rw [if_neg d, if_neg (show ¬ (i = m ∧ ¬ j = m) from fun z => d z.1)]
        by_cases k : j = m
        · rw [if_pos k, if_pos ⟨k, d⟩]
          omega
        · rw [if_neg k, if_neg (fun z => k z.1)]
          omega
    · rw [if_neg (fun z => c z.1), if_neg (show ¬ (i = m ∧ ¬ j = m) from fun z => by omega), q10 i (by omega)]
      split <;> omega
  · rw [ft2_7 (by decide), show ((2 : Nat) : Int) = 2 from rfl, hc2, ht (by decide) (by decide) (by decide) (by decide), b7]
    by_cases c : i = m
    · rw [if_pos (show i < cN T 0 by omega), if_pos c, if_pos c]
    · rw [if_neg c, if_neg c, if_neg (show ¬ (i : Int) = -1 by omega)]
      split <;> omega
  · have := q6 j
    omega
  · rw [cFt3_cN]
    show f < ((cFt2 T m f ((2 : Nat) : Int) (-1) (pO0 T m (T 11 f))) 10 0).toNat
    rw [cFt2_ne _ _ _ _ _ _ (by decide) (by decide) (by decide) (by decide)]
    exact hf
  · unfold cFt3
    rw [su_ne _ _ _ (by decide), su_ne _ _ _ (by decide), su_ne _ _ _ (by decide), cFt2_ne _ _ _ _ _ _ (by decide) (by decide) (by decide) (by decide)]
    exact h3
