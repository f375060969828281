/-! what the log keeps -/
theorem bA_log {T : Nat → Nat → Int} {w hr un hd : Int} {wh : Nat} {g : Nat → Int} (hwh : wh < 10) (hB : ∀ m, m < cN T 0 → bA T m (cN T 3) = (T 7 m, row T 30 10 m)) : ∀ m, m < cN T 0 → bA (cKL (cLog T w hr (wh : Int) un hd g) (cN T 3) (cN T 0)) m (cN T 3 + 1) = (cKL (cLog T w hr (wh : Int) un hd g) (cN T 3) (cN T 0) 7 m, row (cKL (cLog T w hr (wh : Int) un hd g) (cN T 3) (cN T 0)) 30 10 m) := by
  intro m hm
  have hs := cKL_s (cLog T w hr (wh : Int) un hd g) (cN T 3) (cN T 0)
  have e34 : cLog T w hr (wh : Int) un hd g 34 (cN T 3) = (wh : Int) := (cLog_n T w hr (wh : Int) un hd g).2.2.2.1
  have hc : ∀ e, e < cN T 3 → cCost (cKL (cLog T w hr (wh : Int) un hd g) (cN T 3) (cN T 0)) e = cCost T e ∧ cKL (cLog T w hr (wh : Int) un hd g) (cN T 3) (cN T 0) 32 e = T 32 e ∧ cKL (cLog T w hr (wh : Int) un hd g) (cN T 3) (cN T 0) 34 e = T 34 e ∧ cKL (cLog T w hr (wh : Int) un hd g) (cN T 3) (cN T 0) 36 e = T 36 e ∧ row (cKL (cLog T w hr (wh : Int) un hd g) (cN T 3) (cN T 0)) 37 10 e = row T 37 10 e := by
    intro e he
    have hne : e ≠ cN T 3 := by omega
    refine ⟨?_, ?_, ?_, ?_, ?_⟩
    · rw [same73_cost hs]
      exact cCost_c (cLog_ne _ _ _ _ _ _ _ (by omega)) (cLog_ne _ _ _ _ _ _ _ (by omega)) (cLog_ne _ _ _ _ _ _ _ (by omega)) (cLog_ne _ _ _ _ _ _ _ (by omega)) (cLog_ne _ _ _ _ _ _ _ (by omega)) (cLog_o _ _ _ _ _ _ _ (by decide) (by decide) hne) (cLog_o _ _ _ _ _ _ _ (by decide) (by decide) hne) (cLog_o _ _ _ _ _ _ _ (by decide) (by decide) hne)
    · rw [hs 32 (by decide) (by decide)]; exact cLog_o _ _ _ _ _ _ _ (by decide) (by decide) hne
    · rw [hs 34 (by decide) (by decide)]; exact cLog_o _ _ _ _ _ _ _ (by decide) (by decide) hne
    · rw [hs 36 (by decide) (by decide)]; exact cLog_o _ _ _ _ _ _ _ (by decide) (by decide) hne
    · rw [row_c (hs 37 (by decide) (by decide)), row_c (cLog_37 T w hr (wh : Int) un hd g)]
      exact row_rput_ne T 37 10 g hne
  have e1 : bA (cKL (cLog T w hr (wh : Int) un hd g) (cN T 3) (cN T 0)) m (cN T 3) = (T 7 m, row T 30 10 m) := (bA_c hc m (cN T 3) (Nat.le_refl _)).trans (hB m hm)
  rw [bA, e1, same73_enA hs, same73_enF hs, cKL_7, if_pos hm, row_cKL _ _ _ (by rw [e34]; omega), if_pos hm, row_c (cLog_ne T w hr (wh : Int) un hd g (k := 30) (by omega)), cLog_ne T w hr (wh : Int) un hd g (k := 7) (by omega)]
/-! leave -/
theorem JX.weak {ex ex2 : Nat → Nat → Prop} {T S : Nat → Nat → Int} (J : JX ex T S) (h : ∀ p j, j < 10 → p < mP S → S 16 p = 0 → ¬ ex2 p j → ¬ ex p j) : JX ex2 T S := by
  obtain ⟨a, b, c1, c2, c3, c4, c5, c6⟩ := J
  refine ⟨a, b, c1, c2, fun j hj hz => ⟨(c3 j hj hz).1, (c3 j hj hz).2.1, fun p hp he => ?_⟩, c4, c5, c6⟩
  rcases Nat.lt_or_ge p (mP S) with z | z
  · exact (c3 j hj hz).2.2 p hp (h p j hj z hp he)
  · exact (c5 p z).2.2 j hj
theorem mmany_pos {S : Nat → Nat → Int} {m : Nat} (h : ¬ S 3 m = 0) : ∀ n, m < n → 1 ≤ mmany S n ∧ mmany (su S 3 m 0) n = mmany S n - 1
  | 0, hm => absurd hm (Nat.not_lt_zero _)
  | n + 1, hm => by
    have hb := mmany_b S n
    rw [mmany, mmany]
    by_cases c : m = n
    · subst c
      have e1 : mmany (su S 3 m 0) m = mmany S m := mmany_lt (T := S) (T' := su S 3 m 0) m (fun j hj => by rw [su_at, if_neg (fun z => by omega)])
      have e2 : su S 3 m 0 3 m = 0 := by rw [su_at, if_pos ⟨rfl, rfl⟩]
      rw [e1, e2, if_neg h, if_pos rfl]
      omega
    · have := mmany_pos h n (by omega)
      have e2 : su S 3 m 0 3 n = S 3 n := by rw [su_at, if_neg (fun z => c z.2.symm)]
      rw [this.2, e2]
      split <;> omega
theorem mlA_9 (S : Nat → Nat → Int) (o k x : Nat) : mlA S o k 9 x = if x = 10 * k + o ∨ x = 10 * o + k then 0 else S 9 x := by
  unfold mlA
  rw [su_at, su_at, su_ne _ _ _ (by decide), su_ne _ _ _ (by decide)]
  by_cases c : x = 10 * k + o
  · rw [if_pos ⟨rfl, c⟩, if_pos (Or.inl c)]
  · rw [if_neg (fun z => c z.2)]
    by_cases d : x = 10 * o + k
    · rw [if_pos ⟨rfl, d⟩, if_pos (Or.inr d)]
    · rw [if_neg (fun z => d z.2), if_neg (fun z => by omega)]
theorem ml1_9 (S : Nat → Nat → Int) {o i j : Nat} (ho : o < 10) (hi : i < 10) (hj : j < 10) : ∀ n, n ≤ 10 → ml1 S o n 9 (10 * i + j) = if (i = o ∧ j < n) ∨ (j = o ∧ i < n) then 0 else S 9 (10 * i + j)
  | 0, _ => by rw [if_neg (fun z => by omega)]; rfl
  | n + 1, hn => by
    rw [ml1, mlA_9, ml1_9 S ho hi hj n (by omega)]
    by_cases c : 10 * i + j = 10 * n + o ∨ 10 * i + j = 10 * o + n
    · rw [if_pos c, if_pos (by omega)]
    · rw [if_neg c]
      by_cases d : (i = o ∧ j < n) ∨ (j = o ∧ i < n)
      · rw [if_pos d, if_pos (by omega)]
      · rw [if_neg d, if_neg (by omega)]
theorem ml1_9le (S : Nat → Nat → Int) (o x : Nat) : ∀ n, ml1 S o n 9 x = 0 ∨ ml1 S o n 9 x = S 9 x
  | 0 => Or.inr rfl
  | n + 1 => by
    rw [ml1, mlA_9]
    split
    · exact Or.inl rfl
    · exact ml1_9le S o x n
/-- what the one that leaves pays in all -/
def mS (S : Nat → Nat → Int) (o : Nat) : Nat → Int
  | 0 => 0
  | n + 1 => mS S o n + (S 9 (10 * o + n) - S 9 (10 * n + o))
theorem mlA_7 (S : Nat → Nat → Int) (o k i : Nat) : mlA S o k 7 i = if k = o then S 7 i else if i = o then S 7 o - (S 9 (10 * o + k) - S 9 (10 * k + o)) else if i = k then S 7 k + (S 9 (10 * o + k) - S 9 (10 * k + o)) else S 7 i := by
  unfold mlA
  rw [su_ne _ _ _ (by decide), su_ne _ _ _ (by decide), su_at, su_at, su_at]
  by_cases c : k = o
  · subst c
    rw [if_pos rfl]
    by_cases d : i = k
    · subst d
      rw [if_pos ⟨rfl, rfl⟩, if_pos ⟨rfl, rfl⟩]
      omega
    · rw [if_neg (fun z => d z.2), if_neg (fun z => d z.2)]
  · rw [if_neg c]
    by_cases d : i = o
    · subst d
      rw [if_neg (fun z => c z.2.symm), if_pos ⟨rfl, rfl⟩, if_pos rfl]
    · rw [if_neg d]
      by_cases f : i = k
      · subst f
        rw [if_pos ⟨rfl, rfl⟩, if_pos rfl, if_neg (fun z => d z.2)]
      · rw [if_neg (fun z => f z.2), if_neg (fun z => d z.2), if_neg f]
theorem ml1_7 (S : Nat → Nat → Int) {o : Nat} (ho : o < 10) (i : Nat) : ∀ n, n ≤ 10 → ml1 S o n 7 i = if i = o then S 7 o - mS S o n else if i < n then S 7 i + (S 9 (10 * o + i) - S 9 (10 * i + o)) else S 7 i
  | 0, _ => by
    rw [if_neg (show ¬ i < 0 by omega)]
    by_cases c : i = o
    · rw [if_pos c, c]
      show S 7 o = S 7 o - 0
      omega
    · rw [if_neg c]; rfl
  | n + 1, hn => by
    have h1 : ml1 S o n 9 (10 * o + n) - ml1 S o n 9 (10 * n + o) = S 9 (10 * o + n) - S 9 (10 * n + o) := by
      rw [ml1_9 S ho ho (show n < 10 by omega) n (by omega), ml1_9 S ho (show n < 10 by omega) ho n (by omega)]
      by_cases c : n = o
      · subst c; omega
      · rw [if_neg (by omega), if_neg (by omega)]
    rw [ml1, mlA_7, h1, ml1_7 S ho i n (by omega), ml1_7 S ho o n (by omega), ml1_7 S ho n n (by omega), mS]
    by_cases c : n = o
    · rw [if_pos c]
      by_cases d : i = o
      · rw [if_pos d, if_pos d, c]
        omega
      · rw [if_neg d, if_neg d]
        by_cases f : i < n
        · rw [if_pos f, if_pos (by omega)]
        · rw [if_neg f, if_neg (by omega)]
    · rw [if_neg c]
      by_cases d : i = o
      · rw [if_pos d, if_pos rfl, if_pos d]
        omega
      · rw [if_neg d, if_neg d, if_neg d]
        by_cases f : i = n
        · rw [if_pos f, if_neg c, if_neg (Nat.lt_irrefl n), if_pos (by omega), f]
        · rw [if_neg f]
          by_cases k : i < n
          · rw [if_pos k, if_pos (by omega)]
          · rw [if_neg k, if_neg (by omega)]
theorem ml2_13 (S : Nat → Nat → Int) (o x : Nat) : ∀ n, ml2 S o n 13 x = if 20 * o ≤ x ∧ x < 20 * o + n then 0 else S 13 x
  | 0 => by rw [if_neg (by omega)]; rfl
  | n + 1 => by
    rw [ml2, su_at, ml2_13 S o x n]
    by_cases c : x = 20 * o + n
    · rw [if_pos ⟨rfl, c⟩, if_pos (by omega)]
    · rw [if_neg (fun z => c z.2)]
      by_cases d : 20 * o ≤ x ∧ x < 20 * o + n
      · rw [if_pos d, if_pos (by omega)]
      · rw [if_neg d, if_neg (by omega)]
theorem sV_one (f : Nat → Int) {ow lv : Nat} (h : ¬ ow = lv) : ∀ n, sV f ow lv n = if lv < n then f lv else 0
  | 0 => by rw [if_neg (by omega)]; rfl
  | n + 1 => by
    rw [sV, sV_one f h n]
    by_cases c : n = lv
    · subst c
      rw [if_neg (Nat.lt_irrefl n), if_pos (Or.inl rfl), if_pos (Nat.lt_succ_self n)]
      omega
    · by_cases d : lv < n
      · rw [if_pos d, if_neg (c := n = lv ∨ ow = lv) (fun z => by omega), if_pos (by omega)]; omega
      · rw [if_neg d, if_neg (c := n = lv ∨ ow = lv) (fun z => by omega), if_neg (by omega)]; omega
theorem sV_all {T S : Nat → Nat → Int} {o : Nat} (h : ∀ j, j < 10 → T 30 (10 * o + j) = S 9 (10 * o + j) - S 9 (10 * j + o)) : ∀ n, n ≤ 10 → sV (row T 30 10 o) o o n = mS S o n
  | 0, _ => rfl
  | n + 1, hn => by rw [sV, mS, sV_all h n (by omega), if_pos (Or.inr rfl), row_at T 30 10 o (show n < 10 by omega), h n (by omega)]
theorem mS_up {S : Nat → Nat → Int} {o n : Nat} (h : ∀ j, n ≤ j → j < 10 → S 9 (10 * o + j) = 0 ∧ S 9 (10 * j + o) = 0) : ∀ k, n + k ≤ 10 → mS S o (n + k) = mS S o n
  | 0, _ => rfl
  | k + 1, hk => by
    have := h (n + k) (by omega) (by omega)
    rw [← Nat.add_assoc, mS, mS_up h k (by omega), this.1, this.2]
    omega
theorem J_leave1 {T S : Nat → Nat → Int} (J : JJ T S) {m : Nat} (hm : m < cN T 0) (h3 : ¬ T 3 m = 0) : T 31 0 < 310 ∧ JX (fun _ j => j = m) (cLe2 T m) (sLv2 S m) := by
  have ht : ∀ {k : Nat}, 1 ≤ k → k ≤ 20 → k ≠ 5 → k ≠ 9 → T k = S k := fun a b c d => J.t a b c d
  obtain ⟨⟨n0, n0b, n0c⟩, -⟩ := jMem J
  obtain ⟨⟨a1, a2, a3⟩, ⟨b1, b2, b3, b4⟩, c1, c2, c3, c4, c5, c6, c7, c8, c9⟩ := J
  have e2 : T 2 0 = S 2 0 := congrFun (ht (by decide) (by decide) (by decide) (by decide)) 0
  have hm10 : m < 10 := by omega
  have h14 : 0 ≤ T 14 0 ∧ T 14 0 ≤ 300 := b1.1 14 0 (by decide) (by decide) (by decide)
  have h31 : 0 ≤ T 31 0 ∧ T 31 0 ≤ 310 := b1.1 31 0 (by decide) (by decide) (by decide)
  have h1 : 0 ≤ T 1 0 ∧ T 1 0 ≤ 2000 := b1.1 1 0 (by decide) (by decide) (by decide)
  have hmp := mmany_pos h3 (cN T 0) hm
  have h310 : T 31 0 < 310 := by omega
  refine ⟨h310, ?_⟩
  -- the class's side
  have gN := cGo_cN T m
  have gn : ∀ {g : Nat}, g ≠ 3 → g ≠ 5 → g ≠ 13 → cGo T m g = T g := fun a b c => cGo_ne T m a b c
  have hlc := cLog_cN (cGo T m) 3 (T 1 0) (m : Int) 0 (-1) (fun _ => 0) (by rw [gn (by decide) (by decide) (by decide)]; exact h31.1)
  have hln := cLog_n (cGo T m) 3 (T 1 0) (m : Int) 0 (-1) (fun _ => 0)
  have hs : same73 (cLe1 T m) (cLe2 T m) := cKL_s _ _ _
  have kN : ∀ g, cN (cLe2 T m) g = cN (cLe1 T m) g := same73_cN hs
  have N0 : cN (cLe2 T m) 0 = cN T 0 := (kN 0).trans (hlc.1.trans (gN 0))
  have N3 : cN (cLe2 T m) 3 = cN T 3 + 1 := (kN 3).trans (hlc.2.2.2.trans (by rw [gN 3]))
  have t2 : ∀ {g : Nat}, g ≠ 3 → g ≠ 5 → g ≠ 13 → g ≠ 7 → g ≠ 30 → (g < 31 ∨ 37 < g) → cLe2 T m g = T g := fun q3 q5 q13 q7 q30 q => (hs _ q7 q30).trans ((cLog_ne _ _ _ _ _ _ _ q).trans (gn q3 q5 q13))
  have t2' : ∀ {g : Nat}, g ≠ 7 → g ≠ 30 → (g < 31 ∨ 37 < g) → cLe2 T m g = cGo T m g := fun q7 q30 q => (hs _ q7 q30).trans (cLog_ne _ _ _ _ _ _ _ q)
  have e32 : cLe1 T m 32 (cN (cGo T m) 3) = 3 := hln.2.1
  have e34 : cLe1 T m 34 (cN (cGo T m) 3) = (m : Int) := hln.2.2.2.1
  have e36 : cLe1 T m 36 (cN (cGo T m) 3) = -1 := hln.2.2.2.2.2
  have hcost : cCost (cLe1 T m) (cN (cGo T m) 3) = 0 := by
    unfold cCost
    rw [e32, if_neg (by decide), if_neg (by decide)]
  have r30 : ∀ i, row (cLe1 T m) 30 10 i = row T 30 10 i := fun i => row_c ((cLog_ne _ _ _ _ _ _ _ (by omega)).trans (gn (by decide) (by decide) (by decide))) 10 i
  have T7 : ∀ i, cLe2 T m 7 i = if i < cN T 0 then T 7 i - sV (row T 30 10 i) i m 10 else T 7 i := fun i => by
    show cKL (cLe1 T m) (cN (cGo T m) 3) (cN (cGo T m) 0) 7 i = _
    rw [cKL_7, gN 0, r30, show cLe1 T m 7 = T 7 from (cLog_ne _ _ _ _ _ _ _ (by omega)).trans (gn (by decide) (by decide) (by decide))]
    by_cases c : i < cN T 0
    · rw [if_pos c, if_pos c]
      unfold enA
      rw [hcost, e32, e34, if_pos rfl, Int.toNat_natCast, e36]
      by_cases d : (i : Int) = (m : Int)
      · rw [if_pos d]; omega
      · rw [if_neg d, if_neg (by omega)]
    · rw [if_neg c, if_neg c]
  have T30 : ∀ i j, i < 10 → j < 10 → cLe2 T m 30 (10 * i + j) = if j = m ∨ i = m then 0 else T 30 (10 * i + j) := fun i j hi hj => by
    have e := row_at (cLe2 T m) 30 10 i hj
    rw [← e]
    show row (cKL (cLe1 T m) (cN (cGo T m) 3) (cN (cGo T m) 0)) 30 10 i j = _
    rw [row_cKL _ _ _ (by rw [e34]; omega), gN 0, r30]
    by_cases c : i < cN T 0
    · rw [if_pos c]
      unfold enF
      rw [e32, if_neg (by decide), if_pos rfl, e34, Int.toNat_natCast]
      unfold sF
      by_cases d : j = m ∨ i = m
      · rw [if_pos ⟨hj, d⟩, if_pos d]
      · rw [if_neg (fun z => d z.2), if_neg d, row_at T 30 10 i hj]
    · have hz := (c3 i hi (c2 i (by omega)).1).2.1 j hj
      have e0 : T 30 (10 * i + j) = 0 := by
        rw [a3 i j hi hj, hz.1, hz.2]
        rfl
      rw [if_neg c, row_at T 30 10 i hj, e0]
      split <;> rfl
  -- the reference's side
  have n2 : ∀ {g : Nat}, g ≠ 3 → g ≠ 7 → g ≠ 9 → g ≠ 13 → sLv2 S m g = S g := fun q3 q7 q9 q13 => by
    unfold sLv2
    rw [ml2_ne _ _ q13, ml1_ne _ _ q7 q9, su_ne _ _ _ q3]
  have hMS : mM (su S 3 m 0) = cN T 0 := n0c
  have S3 : ∀ j, sLv2 S m 3 j = if j = m then 0 else S 3 j := fun j => by
    unfold sLv2
    rw [ml2_ne _ _ (by decide), ml1_ne _ _ (by decide) (by decide), su_at]
    by_cases c : j = m
    · rw [if_pos ⟨rfl, c⟩, if_pos c]
    · rw [if_neg (fun z => c z.2), if_neg c]
  have S9 : ∀ i j, i < 10 → j < 10 → sLv2 S m 9 (10 * i + j) = if (i = m ∧ j < cN T 0) ∨ (j = m ∧ i < cN T 0) then 0 else S 9 (10 * i + j) := fun i j hi hj => by
    unfold sLv2
    rw [ml2_ne _ _ (by decide), n0c, ml1_9 _ hm10 hi hj _ n0b, su_ne _ _ _ (by decide)]
  have S9z : ∀ i j, i < 10 → j < 10 → (i = m ∨ j = m) → sLv2 S m 9 (10 * i + j) = 0 := fun i j hi hj h => by
    rw [S9 i j hi hj]
    split
    · rfl
    · rename_i z
      rcases h with rfl | rfl
      · exact ((c3 j hj (c2 j (by omega)).1).2.1 i hi).1
      · exact ((c3 i hi (c2 i (by omega)).1).2.1 j hj).2
  have S9n : ∀ i j, i < 10 → j < 10 → ¬ (i = m ∨ j = m) → sLv2 S m 9 (10 * i + j) = S 9 (10 * i + j) := fun i j hi hj h => by
    rw [S9 i j hi hj, if_neg (by omega)]
  have S7 : ∀ i, sLv2 S m 7 i = if i = m then S 7 m - mS S m (cN T 0) else if i < cN T 0 then S 7 i + (S 9 (10 * m + i) - S 9 (10 * i + m)) else S 7 i := fun i => by
    unfold sLv2
    rw [ml2_ne _ _ (by decide), n0c, ml1_7 _ hm10 i _ n0b, su_ne _ _ _ (by decide), su_ne _ _ _ (by decide)]
    have e9 : ∀ n, mS (su S 3 m 0) m n = mS S m n := fun n => by
      induction n with
      | zero => rfl
      | succ n ih => rw [mS, mS, ih]; rfl
    rw [e9]
  have S13 : ∀ x, sLv2 S m 13 x = if 20 * m ≤ x ∧ x < 20 * m + 20 then 0 else S 13 x := fun x => by
    unfold sLv2
    rw [ml2_13, ml1_ne _ _ (by decide) (by decide), su_ne _ _ _ (by decide)]
  have hmsum : mS S m (cN T 0) = sV (row T 30 10 m) m m 10 := by
    rw [sV_all (fun j hj => a3 m j hm10 hj) 10 (Nat.le_refl _)]
    have := mS_up (S := S) (o := m) (n := cN T 0) (fun j hj1 hj2 => (by
      have := (c3 j hj2 (c2 j (by omega)).1).2.1 m hm10
      exact this)) (10 - cN T 0) (by omega)
    rw [show cN T 0 + (10 - cN T 0) = 10 by omega] at this
    exact this.symm
  have M2 : mM (sLv2 S m) = cN T 0 := by unfold mM; rw [n2 (by decide) (by decide) (by decide) (by decide)]; exact n0c
  have F2 : mF (sLv2 S m) = mF S := by unfold mF; rw [n2 (by decide) (by decide) (by decide) (by decide)]
  have P2 : mP (sLv2 S m) = mP S := by unfold mP; rw [n2 (by decide) (by decide) (by decide) (by decide)]
  have hbg : ∀ m', m' < cN (cGo T m) 0 → bA (cGo T m) m' (cN (cGo T m) 3) = (cGo T m 7 m', row (cGo T m) 30 10 m') := fun m' hm' => by
    have sl : sameL T (cGo T m) := ⟨fun g q1 q2 => gn (by omega) (by omega) (by omega), fun g q1 q2 => gn (by omega) (by omega) (by omega)⟩
    rw [sl.b, gN 3, gn (by decide) (by decide) (by decide), row_c (gn (g := 30) (by decide) (by decide) (by decide))]
    exact b2 m' (by rw [← gN 0]; exact hm')
  have hbl := bA_log (w := 3) (hr := T 1 0) (un := 0) (hd := -1) (g := fun _ => 0) hm10 hbg
  refine ⟨⟨fun k k1 k2 k5 k9 => ?_, fun j => ?_, fun i j hi hj => ?_⟩, ⟨?_, fun m' hm' => ?_, fun e he => ?_, ?_⟩, ?_, fun j hj => ?_, fun j hj hz => ⟨fun f hf => ?_, fun i hi => ?_, fun p hp he => ?_⟩, ?_, ?_, ?_, fun i j hi hj => ?_, ⟨fun j => ?_, ?_, ?_⟩, ?_⟩
  · by_cases q7 : k = 7
    · subst q7
      funext i
      rw [T7, S7]
      by_cases c : i = m
      · rw [if_pos c, c, if_pos hm, hmsum, ht (by decide) (by decide) (by decide) (by decide)]
      · rw [if_neg c]
        by_cases d : i < cN T 0
        · rw [if_pos d, if_pos d, sV_one _ c, if_pos hm10, row_at T 30 10 i hm10, a3 i m (by omega) hm10, ht (k := 7) (by decide) (by decide) (by decide) (by decide)]
          omega
        · rw [if_neg d, if_neg d, ht (k := 7) (by decide) (by decide) (by decide) (by decide)]
    · by_cases q3 : k = 3
      · subst q3
        funext j
        rw [t2' (by decide) (by decide) (by omega), S3]
        unfold cGo
        rw [rput_ne _ _ _ _ (by decide), su_ne _ _ _ (by decide), su_at]
        by_cases c : j = m
        · rw [if_pos ⟨rfl, c⟩, if_pos c]
        · rw [if_neg (fun z => c z.2), if_neg c, ht (by decide) (by decide) (by decide) (by decide)]
      · by_cases q13 : k = 13
        · subst q13
          funext x
          rw [t2' (by decide) (by decide) (by omega), S13]
          show (if x / 20 = m then (0 : Int) else T 13 x) = _
          by_cases c : x / 20 = m
          · rw [if_pos c, if_pos (by omega)]
          · rw [if_neg c, if_neg (by omega), ht (by decide) (by decide) (by decide) (by decide)]
        · rw [t2 q3 k5 q13 q7 (by omega) (by omega), n2 q3 q7 k9 q13]
          exact ht k1 k2 k5 k9
  · rw [t2' (by decide) (by decide) (by omega), S3, n2 (by decide) (by decide) (by decide) (by decide)]
    unfold cGo
    rw [rput_ne _ _ _ _ (by decide), su_at]
    by_cases c : j = m
    · rw [if_pos ⟨rfl, c⟩, if_pos c, if_pos rfl]
    · rw [if_neg (fun z => c z.2), if_neg c]
      exact a2 j
  · rw [T30 i j hi hj]
    by_cases c : j = m ∨ i = m
    · rw [if_pos c, S9z i j hi hj (by omega), S9z j i hj hi (by omega)]
      rfl
    · rw [if_neg c, S9n i j hi hj (by omega), S9n j i hj hi (by omega)]
      exact a3 i j hi hj
  · exact same73_TB hs (TB_log (TB_go b1 m) (by decide) h1 (by omega) (by decide) (by decide) (fun _ => by decide) (by rw [gn (by decide) (by decide) (by decide)]; exact h310))
  · rw [N3, ← gN 3]
    exact hbl m' (by rw [gN 0, ← N0]; exact hm')
  · rw [N3] at he
    rw [N0, t2 (g := 1) (by decide) (by decide) (by decide) (by decide) (by decide) (by omega), t2 (g := 2) (by decide) (by decide) (by decide) (by decide) (by decide) (by omega), hs 33 (by decide) (by decide), hs 34 (by decide) (by decide), hs 36 (by decide) (by decide), hs 37 (by decide) (by decide)]
    unfold cLe1
    by_cases c : e = cN (cGo T m) 3
    · rw [c, hln.2.2.1, hln.2.2.2.1, hln.2.2.2.2.2]
      refine ⟨Int.le_refl _, by omega, by omega, fun j _ hj => ?_⟩
      rw [cLog_37, rput_at _ _ _ _ _ hj, if_pos rfl]
    · have := b3 e (by rw [gN 3] at c; omega)
      rw [cLog_o _ _ _ _ _ _ _ (by decide) (by decide) c, cLog_o _ _ _ _ _ _ _ (by decide) (by decide) c, cLog_o _ _ _ _ _ _ _ (by decide) (by decide) c, gn (by decide) (by decide) (by decide), gn (by decide) (by decide) (by decide), gn (by decide) (by decide) (by decide)]
      refine ⟨this.1, this.2.1, this.2.2.1, fun j hj1 hj2 => ?_⟩
      rw [cLog_37, rput_at _ _ _ _ _ hj2, if_neg c, gn (by decide) (by decide) (by decide)]
      exact this.2.2.2 j hj1 hj2
  · have e31 : cLe2 T m 31 0 = T 31 0 + 1 := by
      rw [hs 31 (by decide) (by decide)]
      show cLog (cGo T m) 3 (T 1 0) (m : Int) 0 (-1) (fun _ => 0) 31 0 = _
      rw [hln.1, gn (by decide) (by decide) (by decide)]
    have e3 : cLe2 T m 3 = su T 3 m 0 3 := by
      rw [t2' (by decide) (by decide) (by omega)]
      unfold cGo
      rw [rput_ne _ _ _ _ (by decide), su_ne _ _ _ (by decide)]
    rw [N0, e31, mmany_c e3, hmp.2, t2 (g := 14) (by decide) (by decide) (by decide) (by decide) (by decide) (by omega), t2 (g := 2) (by decide) (by decide) (by decide) (by decide) (by decide) (by omega)]
    omega
  · exact MB_l2 (MB_l1 (MB_su c1 3 m (show 0 ≤ (0 : Int) ∧ (0 : Int) ≤ 1 by decide)) m _) m _
  · rw [M2] at hj
    have := c2 j (by omega)
    rw [S3, S7, n2 (by decide) (by decide) (by decide) (by decide), if_neg (by omega), if_neg (by omega), if_neg (by omega)]
    exact this
  · rw [S13]
    split
    · rfl
    · rename_i z
      rw [S3] at hz
      have hne : j ≠ m := fun y => z (by omega)
      rw [if_neg hne] at hz
      exact (c3 j hj hz).1 f hf
  · rw [S3] at hz
    by_cases c : j = m
    · exact ⟨S9z i j hi hj (Or.inr c), S9z j i hj hi (Or.inl c)⟩
    · rw [if_neg c] at hz
      have := (c3 j hj hz).2.1 i hi
      by_cases d : i = m
      · exact ⟨S9z i j hi hj (Or.inl d), S9z j i hj hi (Or.inr d)⟩
      · exact ⟨(S9n i j hi hj (by omega)).trans this.1, (S9n j i hj hi (by omega)).trans this.2⟩
  · have he : ¬ j = m := he
    rw [S3, if_neg he] at hz
    rw [n2 (by decide) (by decide) (by decide) (by decide)] at hp ⊢
    exact (c3 j hj hz).2.2 p hp (fun z => z)
  · rw [F2, n2 (by decide) (by decide) (by decide) (by decide)]
    exact c4
  · rw [P2, n2 (by decide) (by decide) (by decide) (by decide), n2 (by decide) (by decide) (by decide) (by decide), n2 (by decide) (by decide) (by decide) (by decide)]
    exact c5
  · intro p
    rw [n2 (by decide) (by decide) (by decide) (by decide), n2 (by decide) (by decide) (by decide) (by decide), n2 (by decide) (by decide) (by decide) (by decide), row_c (n2 (g := 20) (by decide) (by decide) (by decide) (by decide))]
    exact c6 p
  · by_cases c : i = m ∨ j = m
    · exact Or.inl (S9z i j hi hj c)
    · rw [S9n i j hi hj c, S9n j i hj hi (by omega)]
      exact c7 i j hi hj
  · have h9 := c8.1 j
    rw [n2 (g := 14) (by decide) (by decide) (by decide) (by decide)]
    have e : sLv2 S m 9 j = ml1 (su S 3 m 0) m (mM S) 9 j := by
      unfold sLv2
      rw [ml2_ne _ _ (by decide)]
    have e14 : T 14 0 = S 14 0 := congrFun (ht (by decide) (by decide) (by decide) (by decide)) 0
    have e9 : su S 3 m 0 9 j = S 9 j := rfl
    rw [e]
    have this : ml1 (su S 3 m 0) m (mM S) 9 j = 0 ∨ ml1 (su S 3 m 0) m (mM S) 9 j = su S 3 m 0 9 j := ml1_9le _ _ _ _
    omega
  · rw [n2 (by decide) (by decide) (by decide) (by decide), n2 (by decide) (by decide) (by decide) (by decide)]
    exact c8.2.1
  · rw [n2 (by decide) (by decide) (by decide) (by decide), n2 (by decide) (by decide) (by decide) (by decide)]
    exact c8.2.2
  · rw [F2, n2 (by decide) (by decide) (by decide) (by decide)]
    exact c9
theorem J_leave2 {T S : Nat → Nat → Int} {m : Nat} (hm : m < 10) {ic : Int} (J : JX (fun _ j => j = m) T S) (h3 : S 3 m = 0) (hic : ic = mmany T (cN T 0)) : ∀ q, q ≤ mP S → JX (fun p j => j = m ∧ q ≤ p) (cLv m ic T q) (ml3 S m q)
  | 0, _ => J.weak (fun p j _ _ _ he z => he ⟨z, Nat.zero_le _⟩)
  | q + 1, hq => by
    have ih := J_leave2 hm J h3 hic q (by omega)
    have e16 : cLv m ic T q 16 q = ml3 S m q 16 q := congrFun (ih.t (by decide) (by decide) (by decide) (by decide)) q
    have eP : mP (ml3 S m q) = mP S := by unfold mP; rw [ml3_ne _ _ (by decide) (by decide) (by decide) (by decide) (by decide)]
    rw [cLv, ml3, e16]
    by_cases c : ml3 S m q 16 q = 0
    · rw [if_pos c, if_pos c]
      have J1 : JX (fun p j => j = m ∧ q + 1 ≤ p) (su (cLv m ic T q) 20 (10 * q + m) 0) (su (ml3 S m q) 20 (10 * q + m) 0) := J_set20 ih (by omega) hm (by decide) c (fun _ => rfl) (fun p' j _ h1 h2 h3 => by omega)
      have e := e_many J1
      have e3 : su (cLv m ic T q) 20 (10 * q + m) 0 3 = T 3 := by rw [su_ne _ _ _ (by decide), cLv_ne _ _ _ (by decide) (by decide) (by decide)]
      rw [cN_su _ _ _ (by decide) (by decide) (by decide) (by decide), cLv_cN, mmany_c e3, ← hic] at e
      exact J_dec J1 (p := q) (show q < mP (ml3 S m q) by omega) c (fun j z => by omega) e
    · rw [if_neg c, if_neg c]
      refine ih.weak (fun p j _ _ hp h1 h2 => ?_)
      have hne : p ≠ q := fun z => c (by rw [z] at hp; exact hp)
      omega
theorem J_leave {T S : Nat → Nat → Int} (J : JJ T S) {m : Nat} (hm : m < cN T 0) (h3 : ¬ T 3 m = 0) : T 31 0 < 310 ∧ JJ (cLeT T m) (sLeave S m) := by
  obtain ⟨⟨n0, n0b, n0c⟩, -⟩ := jMem J
  obtain ⟨h31, J1⟩ := J_leave1 J hm h3
  refine ⟨h31, ?_⟩
  have P2 : mP (sLv2 S m) = mP S := by
    unfold mP sLv2
    rw [ml2_ne _ _ (by decide), ml1_ne _ _ (by decide) (by decide), su_ne _ _ _ (by decide)]
  have S3 : sLv2 S m 3 m = 0 := by
    unfold sLv2
    rw [ml2_ne _ _ (by decide), ml1_ne _ _ (by decide) (by decide), su_at, if_pos ⟨rfl, rfl⟩]
  have J2 := J_leave2 (by omega) J1 S3 rfl (mP S) (by omega)
  unfold cLeT sLeave
  rw [J1.n.2.2, P2]
  refine J2.weak (fun p j _ hp _ _ z => ?_)
  have eP : mP (ml3 (sLv2 S m) m (mP S)) = mP S := by
    show (ml3 (sLv2 S m) m (mP S) 15 0).toNat = mP S
    rw [ml3_ne _ _ (by decide) (by decide) (by decide) (by decide) (by decide)]
    exact P2
  omega

theorem opc_leave {l : Launch} (htr : l.stackTraces = false) {G : zG} {b : Nat} : OPC_leave l G JJ b := by
  intro T S hC p0 hj hk h0
  obtain ⟨ad, el, rfl, R⟩ := hk
  have I := hj.2.1.1
  obtain ⟨⟨n0, n0b, n0c⟩, ⟨n1, n1b, n1c⟩, n2, n2b, n2c⟩ := jMem hj
  by_cases c : ¬ (0 ≤ p0 ∧ p0 < cN T 0)
  · refine CT.mono (c_X6_leave_x1 htr R I h0 c) (fun v h9 z => z.elim) (fun E h9 z => ?_)
    obtain ⟨rfl, rfl⟩ := z
    exact Or.inl ⟨rfl, (if_pos (by omega)).symm, ad, el, rfl, R⟩
  · obtain ⟨m, rfl⟩ : ∃ m : Nat, p0 = (m : Int) := toN (by omega)
    have e3 : T 3 m = S 3 ((m : Nat) : Int).toNat := by
      rw [Int.toNat_natCast, hj.t (k := 3) (by decide) (by decide) (by decide) (by decide)]
    by_cases c3 : T 3 m = 0
    · refine CT.mono (c_X6_leave_x2 htr R I (m := m) (by omega) c3) (fun v h9 z => z.elim) (fun E h9 z => ?_)
      obtain ⟨rfl, rfl⟩ := z
      exact Or.inr ⟨rfl, ((if_neg (by omega)).trans (if_pos (by omega))).symm, ad, el, rfl, R⟩
    · have hJ := J_leave hj (m := m) (by omega) c3
      have ev : cLeT T m 7 m = sLeave S ((m : Nat) : Int).toNat 7 ((m : Nat) : Int).toNat := by
        rw [Int.toNat_natCast]
        exact congrFun (hJ.2.t (by decide) (by decide) (by decide) (by decide)) m
      refine CT.mono (c_X6_leave_ok htr R I (m := m) (by omega) c3 hJ.1) (fun v h9 z => ?_) (fun E h9 z => z.elim)
      obtain ⟨rfl, z⟩ := z
      exact ⟨_, rfl, (if_neg (by omega)).trans (if_neg (by omega)), ev, _, z, hJ.2⟩

