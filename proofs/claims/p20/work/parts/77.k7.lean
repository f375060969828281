/-! fetch: whose lines are taken -/
theorem e_most {T Sx : Nat → Nat → Int} {g : Nat → Int} {m : Nat} {fm : Int} (hv : ∀ j, T 5 j - g j = if Sx 3 j = 0 then 0 else Sx 5 j) (h5 : ∀ j, 0 ≤ Sx 5 j) (h13 : ∀ j, T 13 j = Sx 13 j) (hm : T 5 m - g m = 0 ∨ (¬ fm = -1 ∧ Sx 13 (20 * m + fm.toNat) = 0)) : ∀ n, (¬ cMF T g fm n = -1 ∧ cMF T g fm n = mmost Sx (m : Int) fm n ∧ cml T g (cMF T g fm n) = Sx 5 (mmost Sx (m : Int) fm n).toNat ∧ 0 < Sx 5 (mmost Sx (m : Int) fm n).toNat) ∨ (cMF T g fm n = -1 ∧ (mmost Sx (m : Int) fm n = -1 ∨ Sx 5 (mmost Sx (m : Int) fm n).toNat = 0))
  | 0 => Or.inr ⟨rfl, Or.inl rfl⟩
  | n + 1 => by
    have ih := e_most hv h5 h13 hm n
    have hb := cMF_b T g fm n
    have hn := h5 n
    have hvn := hv n
    rw [cMF_succ, mmost, h13]
    by_cases ok : ¬ (n : Int) = (m : Int) ∧ ¬ Sx 3 n = 0 ∧ (fm = -1 ∨ ¬ Sx 13 (20 * n + fm.toNat) = 0)
    · have hval : T 5 n - g n = Sx 5 n := by rw [hvn, if_neg ok.2.1]
      rcases ih with ⟨i1, i2, i3, i4⟩ | ⟨i1, i2⟩
      · by_cases c : cml T g (cMF T g fm n) < T 5 n - g n
        · rw [if_pos ⟨c, ok.2.2⟩, if_pos ⟨ok, Or.inr (by omega)⟩, Int.toNat_natCast, cml_n]
          exact Or.inl ⟨by omega, rfl, hval, by omega⟩
        · have hc2 : ¬ (mmost Sx (m : Int) fm n = -1 ∨ Sx 5 (mmost Sx (m : Int) fm n).toNat < Sx 5 n) := fun z => by omega
          rw [if_neg (fun z => c z.1), if_neg (fun z => hc2 z.2)]
          exact Or.inl ⟨i1, i2, i3, i4⟩
      · have e0 : cml T g (cMF T g fm n) = 0 := by rw [i1]; rfl
        by_cases c : 0 < Sx 5 n
        · have hc2 : mmost Sx (m : Int) fm n = -1 ∨ Sx 5 (mmost Sx (m : Int) fm n).toNat < Sx 5 n := by omega
          rw [if_pos ⟨by omega, ok.2.2⟩, if_pos ⟨ok, hc2⟩, Int.toNat_natCast, cml_n]
          exact Or.inl ⟨by omega, rfl, hval, c⟩
        · rw [if_neg (fun z => by have := z.1; omega)]
          refine Or.inr ⟨i1, ?_⟩
          split
          · rw [Int.toNat_natCast]
            exact Or.inr (by omega)
          · exact i2
    · rw [if_neg (c := (¬ (n : Int) = (m : Int) ∧ ¬ Sx 3 n = 0 ∧ (fm = -1 ∨ ¬ Sx 13 (20 * n + fm.toNat) = 0)) ∧ _) (fun z => ok z.1)]
      have hcl : 0 ≤ cml T g (cMF T g fm n) := by
        rcases ih with ⟨i1, i2, i3, i4⟩ | ⟨i1, i2⟩
        · omega
        · rw [i1]; exact Int.le_refl _
      have hno : ¬ (cml T g (cMF T g fm n) < T 5 n - g n ∧ (fm = -1 ∨ ¬ Sx 13 (20 * n + fm.toNat) = 0)) := by
        rintro ⟨z1, z2⟩
        by_cases c3 : Sx 3 n = 0
        · rw [hvn, if_pos c3] at z1
          omega
        · by_cases cm : n = m
          · subst cm
            rcases hm with hm | hm
            · omega
            · rcases z2 with z2 | z2
              · exact hm.1 z2
              · exact z2 hm.2
          · exact ok ⟨by omega, c3, z2⟩
      rw [if_neg hno]
      exact ih
/-- how many have something left -/
def cntP (T : Nat → Nat → Int) (g : Nat → Int) : Nat → Nat
  | 0 => 0
  | n + 1 => cntP T g n + if 0 < T 5 n - g n then 1 else 0
theorem cntP_le (T : Nat → Nat → Int) (g : Nat → Int) : ∀ n, cntP T g n ≤ n
  | 0 => Nat.le_refl _
  | n + 1 => by have := cntP_le T g n; rw [cntP]; split <;> omega
theorem cntP_up {T : Nat → Nat → Int} {g : Nat → Int} {l : Nat} {x : Int} (h1 : 0 < T 5 l - g l) (h2 : T 5 l - (g l + x) = 0) : ∀ n, cntP T (va_up g l (g l + x)) n + (if l < n then 1 else 0) = cntP T g n
  | 0 => rfl
  | n + 1 => by
    have ih := cntP_up h1 h2 n
    rw [cntP, cntP]
    by_cases c : n = l
    · subst c
      rw [if_neg (Nat.lt_irrefl n)] at ih
      rw [show va_up g n (g n + x) n = g n + x from if_pos rfl, h2, if_neg (Int.lt_irrefl 0), if_pos (Nat.lt_succ_self n), if_pos h1]
      omega
    · rw [show va_up g l (g l + x) n = g n from if_neg c]
      by_cases d : l < n
      · rw [if_pos d] at ih
        rw [if_pos (show l < n + 1 by omega)]
        omega
      · rw [if_neg d] at ih
        rw [if_neg (show ¬ l < n + 1 by omega)]
        omega
theorem cntP_pos {T : Nat → Nat → Int} {g : Nat → Int} {l : Nat} (h1 : 0 < T 5 l - g l) : ∀ n, l < n → 1 ≤ cntP T g n
  | 0, h => absurd h (Nat.not_lt_zero _)
  | n + 1, h => by
    rw [cntP]
    by_cases c : l = n
    · subst c
      rw [if_pos h1]
      omega
    · have := cntP_pos h1 n (by omega)
      omega
/-- what holds through the rounds: the class's plan g beside the reference's lines and debts -/
def QR (T S : Nat → Nat → Int) (m : Nat) (z : Int) (g : Nat → Int) (Sx : Nat → Nat → Int) (r : Int) : Prop := (∀ j, T 5 j - g j = if S 3 j = 0 then 0 else Sx 5 j) ∧ (∀ k, k ≠ 5 → k ≠ 9 → Sx k = S k) ∧ (∀ i j, i < 10 → j < 10 → Sx 9 (10 * i + j) - Sx 9 (10 * j + i) = S 9 (10 * i + j) - S 9 (10 * j + i) + (if i = m ∧ ¬ j = m then g j else 0) - (if j = m ∧ ¬ i = m then g i else 0)) ∧ (∀ i j, i < 10 → j < 10 → Sx 9 (10 * i + j) = 0 ∨ Sx 9 (10 * j + i) = 0) ∧ (∀ j, S 3 j = 0 → j < 10 → ∀ i, i < 10 → Sx 9 (10 * i + j) = 0 ∧ Sx 9 (10 * j + i) = 0) ∧ (∀ j, Sx 9 j ≤ 20 * S 14 0 + (z - r)) ∧ BI Sx m r ∧ PB T g r ∧ (0 < r → T 5 m - g m = 0) ∧ ∀ j, cN T 0 ≤ j → g j = 0
theorem QR.step {T S : Nat → Nat → Int} {m : Nat} {z : Int} {g : Nat → Int} {Sx : Nat → Nat → Int} {r : Int} (Q : QR T S m z g Sx r) (hT : ∀ j, T 13 j = S 13 j) (hM : mM S = cN T 0) (hn : cN T 0 ≤ 10) (hm : m < cN T 0) (h3 : ¬ S 3 m = 0) (hr : 0 < r) : ∃ l : Nat, cMF T g (-1) (cN T 0) = (l : Int) ∧ mmost Sx (m : Int) (-1) (mM Sx) = (l : Int) ∧ l < cN T 0 ∧ 0 < T 5 l - g l ∧ mby Sx l r = lentOf T g l r ∧ QR T S m z (va_up g l (g l + lentOf T g l r)) (mowe (su Sx 5 l (Sx 5 l - lentOf T g l r)) m l (lentOf T g l r)) (r - lentOf T g l r) := by
  obtain ⟨q1, q2, q3, q4, q5, q6, q7, q8, q9, q10⟩ := Q
  obtain ⟨l, hl, hln, hl0⟩ := q8.ex hr
  have hb3 : Sx 3 = S 3 := q2 3 (by decide) (by decide)
  have hMx : mM Sx = cN T 0 := by unfold mM; rw [q2 2 (by decide) (by decide)]; exact hM
  have hmm := e_most (T := T) (Sx := Sx) (g := g) (m := m) (fm := -1) (fun j => by rw [hb3]; exact q1 j) (fun j => (q7.1 5 j (by decide)).1) (fun j => by rw [q2 13 (by decide) (by decide)]; exact hT j) (Or.inl (q9 hr)) (cN T 0)
  have hmost : mmost Sx (m : Int) (-1) (cN T 0) = (l : Int) := by
    rcases hmm with ⟨i1, i2, -⟩ | ⟨i1, -⟩
    · rw [← i2, hl]
    · rw [hl] at i1; omega
  have hlm : ¬ l = m := fun z => by rw [z, q9 hr] at hl0; omega
  have hl3 : ¬ S 3 l = 0 := fun z => by
    have := q1 l
    rw [if_pos z] at this
    omega
  have hval : T 5 l - g l = Sx 5 l := by rw [q1 l, if_neg hl3]
  have hby : mby Sx l r = lentOf T g l r := by unfold mby lentOf; rw [hval]
  have hstep := q7.step hr
  rw [hMx, hmost, Int.toNat_natCast, hby] at hstep
  obtain ⟨-, p1, p2, p3⟩ := hstep
  have hx : lentOf T g l r ≤ T 5 l - g l := by unfold lentOf; split <;> omega
  have P2 := q8.step hr hln hn hl0
  refine ⟨l, hl, by rw [hMx]; exact hmost, hln, hl0, hby, ?_⟩
  generalize lentOf T g l r = b at p1 p2 p3 hx P2 ⊢
  have e9 : ∀ x, mowe (su Sx 5 l (Sx 5 l - b)) m l b 9 x = if x = 10 * m + l then Sx 9 (10 * m + l) + (b - mless Sx m l b) else if x = 10 * l + m then Sx 9 (10 * l + m) - mless Sx m l b else Sx 9 x := fun x => by
    have el : mless (su Sx 5 l (Sx 5 l - b)) m l b = mless Sx m l b := rfl
    unfold mowe
    rw [el]
    by_cases c : x = 10 * m + l
    · rw [su_at, if_pos ⟨rfl, c⟩, if_pos c, su_at, if_neg (fun z => by have := z.2; omega), su_ne _ _ _ (by decide)]
    · rw [su_at, if_neg (fun z => c z.2), if_neg c]
      by_cases d : x = 10 * l + m
      · rw [su_at, if_pos ⟨rfl, d⟩, if_pos d, su_ne _ _ _ (by decide)]
      · rw [su_at, if_neg (fun z => d z.2), if_neg d, su_ne _ _ _ (by decide)]
  have n9 : ∀ {k : Nat}, k ≠ 9 → mowe (su Sx 5 l (Sx 5 l - b)) m l b k = su Sx 5 l (Sx 5 l - b) k := fun h => mowe_ne _ _ _ _ h
  have hml : Sx 9 (10 * l + m) = 0 ∨ Sx 9 (10 * m + l) = 0 := q4 l m (by omega) (by omega)
  have hle : mless Sx m l b = (if Sx 9 (10 * l + m) < b then Sx 9 (10 * l + m) else b) := rfl
  have hp1 : 0 ≤ Sx 9 (10 * l + m) := (q7.1 9 _ (by decide)).1
  have hp2 : 0 ≤ Sx 9 (10 * m + l) := (q7.1 9 _ (by decide)).1
  have hlb : 0 ≤ mless Sx m l b ∧ mless Sx m l b ≤ b ∧ mless Sx m l b ≤ Sx 9 (10 * l + m) ∧ (mless Sx m l b = b ∨ mless Sx m l b = Sx 9 (10 * l + m)) := by
    rw [hle]
    split <;> omega
  refine ⟨fun j => ?_, fun k k5 k9 => ?_, fun i j hi hj => ?_, fun i j hi hj => ?_, fun j hj hj10 i hi => ?_, fun x => ?_, p3, P2, fun _ => ?_, fun j hj => ?_⟩
  · rw [n9 (by decide), su_at]
    unfold va_up
    by_cases c : j = l
    · rw [if_pos c, c, if_neg hl3, if_pos ⟨rfl, rfl⟩]
      omega
    · rw [if_neg c, if_neg (show ¬ (5 = 5 ∧ j = l) from fun z => c z.2)]
      exact q1 j
  · rw [n9 k9, su_ne _ _ _ k5]
    exact q2 k k5 k9
  · have h := q3 i j hi hj
    rw [e9, e9]
    unfold va_up
    by_cases c : i = m ∧ j = l
    · obtain ⟨rfl, rfl⟩ := c
      rw [if_pos rfl, if_neg (show ¬ 10 * j + i = 10 * i + j by omega), if_pos rfl, if_pos ⟨rfl, hlm⟩, if_pos rfl, if_neg (fun z => hlm z.1)]
      rw [if_pos ⟨rfl, hlm⟩, if_neg (fun z => hlm z.1)] at h
      omega
    · by_cases d : i = l ∧ j = m
      · obtain ⟨rfl, rfl⟩ := d
        rw [if_neg (show ¬ 10 * i + j = 10 * j + i by omega), if_pos rfl, if_pos rfl, if_neg (fun z => hlm z.1), if_pos ⟨rfl, hlm⟩, if_pos rfl]
        rw [if_neg (fun z => hlm z.1), if_pos ⟨rfl, hlm⟩] at h
        omega
      · rw [if_neg (show ¬ 10 * i + j = 10 * m + l by omega), if_neg (show ¬ 10 * i + j = 10 * l + m by omega), if_neg (show ¬ 10 * j + i = 10 * m + l by omega), if_neg (show ¬ 10 * j + i = 10 * l + m by omega), h]
        by_cases k1 : i = m ∧ ¬ j = m
        · rw [if_pos k1, if_pos k1, if_neg (show ¬ j = l by omega)]
          rw [if_neg (fun z => by omega), if_neg (fun z => by omega)]
        · rw [if_neg k1, if_neg k1]
          by_cases k2 : j = m ∧ ¬ i = m
          · rw [if_pos k2, if_pos k2, if_neg (show ¬ i = l by omega)]
          · rw [if_neg k2, if_neg k2]
  · have h := q4 i j hi hj
    rw [e9, e9]
    by_cases c : i = m ∧ j = l
    · obtain ⟨rfl, rfl⟩ := c
      rw [if_pos rfl, if_neg (show ¬ 10 * j + i = 10 * i + j by omega), if_pos rfl]
      omega
    · by_cases d : i = l ∧ j = m
      · obtain ⟨rfl, rfl⟩ := d
        rw [if_neg (show ¬ 10 * i + j = 10 * j + i by omega), if_pos rfl, if_pos rfl]
        omega
      · rw [if_neg (show ¬ 10 * i + j = 10 * m + l by omega), if_neg (show ¬ 10 * i + j = 10 * l + m by omega), if_neg (show ¬ 10 * j + i = 10 * m + l by omega), if_neg (show ¬ 10 * j + i = 10 * l + m by omega)]
        exact h
  · have hjm : ¬ j = m := fun z => h3 (by rw [← z]; exact hj)
    have hjl : ¬ j = l := fun z => hl3 (by rw [← z]; exact hj)
    rw [e9, e9, if_neg (show ¬ 10 * i + j = 10 * m + l by omega), if_neg (show ¬ 10 * i + j = 10 * l + m by omega), if_neg (show ¬ 10 * j + i = 10 * m + l by omega), if_neg (show ¬ 10 * j + i = 10 * l + m by omega)]
    exact q5 j hj hj10 i hi
  · have h := q6 x
    have hA := q6 (10 * m + l)
    have hB := q6 (10 * l + m)
    rw [e9]
    split
    · omega
    · split
      · omega
      · omega
  · show T 5 m - (if m = l then g l + b else g m) = 0
    rw [if_neg (fun z => hlm z.symm)]
    exact q9 hr
  · show (if j = l then g l + b else g j) = 0
    rw [if_neg (by omega)]
    exact q10 j hj
theorem pO_0 (T : Nat → Nat → Int) (g : Nat → Int) {r : Int} (h : ¬ 0 < r) : ∀ q, pO T q g r = g
  | 0 => rfl
  | q + 1 => by rw [pO, if_neg h]
theorem QR.all {T S : Nat → Nat → Int} {m : Nat} {z : Int} (hT : ∀ j, T 13 j = S 13 j) (hM : mM S = cN T 0) (hn : cN T 0 ≤ 10) (hm : m < cN T 0) (h3 : ¬ S 3 m = 0) : ∀ (q q2 : Nat) (g : Nat → Int) (Sx : Nat → Nat → Int) (r : Int), QR T S m z g Sx r → cntP T g (cN T 0) ≤ q → q ≤ q2 → QR T S m z (pO T q g r) (mbl m q2 Sx r) 0
  | q, q2, g, Sx, r, Q, hc, hq => by
    have hr0 : 0 ≤ r := Q.2.2.2.2.2.2.2.1.2.2.1
    by_cases hr : 0 < r
    · obtain ⟨l, e1, e2, hl, hl0, hby, Q2⟩ := Q.step hT hM hn hm h3 hr
      have hpos := cntP_pos hl0 _ hl
      match q, q2, hc, hq with
      | 0, _, hc, _ => omega
      | q + 1, 0, _, hq => omega
      | q + 1, q2 + 1, hc, hq =>
        rw [pO, if_pos hr, e1, mbl_succ, if_pos hr, e2, Int.toNat_natCast, hby]
        by_cases c : r - lentOf T g l r = 0
        · rw [c] at Q2 ⊢
          rw [pO_0 T _ (Int.lt_irrefl 0), mbl_0]
          exact Q2
        · have hfull : lentOf T g l r = T 5 l - g l := by
            unfold lentOf at c ⊢
            split
            · rfl
            · rename_i z
              rw [if_neg z] at c
              omega
          have hcu := cntP_up (T := T) (g := g) (l := l) (x := lentOf T g l r) hl0 (by omega) (cN T 0)
          rw [if_pos hl] at hcu
          exact QR.all hT hM hn hm h3 q q2 _ _ _ Q2 (by omega) (by omega)
    · have : r = 0 := by omega
      subst this
      rw [pO_0 T g (Int.lt_irrefl 0), mbl_0]
      exact Q
