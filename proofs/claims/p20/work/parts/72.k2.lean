/-! film, propose, pass, join: the coupling holds on -/
theorem su_cg {T S : Nat → Nat → Int} {g k : Nat} (i : Nat) (v : Int) (h : T g = S g) (hk : T k = S k) : su T k i v g = su S k i v g := by
  unfold su
  by_cases c : g = k
  · rw [if_pos c, if_pos c, hk]
  · rw [if_neg c, if_neg c, h]
theorem enA_c {T T' : Nat → Nat → Int} {e : Nat} (hc : cCost T' e = cCost T e ∧ T' 32 e = T 32 e ∧ T' 34 e = T 34 e ∧ T' 36 e = T 36 e ∧ row T' 37 10 e = row T 37 10 e) (ow : Nat) (f : Nat → Int) (ac : Int) : enA T' e ow f ac = enA T e ow f ac ∧ enF T' e ow f = enF T e ow f := by
  obtain ⟨h1, h2, h3, h4, h5⟩ := hc
  unfold enA enF
  rw [h1, h2, h3, h4, h5]
  exact ⟨rfl, rfl⟩
theorem bA_c {T T' : Nat → Nat → Int} {n : Nat} (hc : ∀ e, e < n → cCost T' e = cCost T e ∧ T' 32 e = T 32 e ∧ T' 34 e = T 34 e ∧ T' 36 e = T 36 e ∧ row T' 37 10 e = row T 37 10 e) (m : Nat) : ∀ k, k ≤ n → bA T' m k = bA T m k
  | 0, _ => rfl
  | k + 1, hk => by
    have h := enA_c (hc k (by omega)) m
    rw [bA, bA, bA_c hc m k (by omega), (h _ _).1, (h _ 0).2]
def sameL (T T' : Nat → Nat → Int) : Prop := (∀ g, 15 ≤ g → g ≤ 19 → T' g = T g) ∧ ∀ g, 31 ≤ g → g ≤ 37 → T' g = T g
theorem sameL.c {T T' : Nat → Nat → Int} (h : sameL T T') (e : Nat) : cCost T' e = cCost T e ∧ T' 32 e = T 32 e ∧ T' 34 e = T 34 e ∧ T' 36 e = T 36 e ∧ row T' 37 10 e = row T 37 10 e := by
  refine ⟨cCost_c (h.1 15 (by decide) (by decide)) (h.1 16 (by decide) (by decide)) (h.1 17 (by decide) (by decide)) (h.1 18 (by decide) (by decide)) (h.1 19 (by decide) (by decide)) (congrFun (h.2 32 (by decide) (by decide)) e) (congrFun (h.2 33 (by decide) (by decide)) e) (congrFun (h.2 35 (by decide) (by decide)) e), congrFun (h.2 32 (by decide) (by decide)) e, congrFun (h.2 34 (by decide) (by decide)) e, congrFun (h.2 36 (by decide) (by decide)) e, row_c (h.2 37 (by decide) (by decide)) 10 e⟩
theorem sameL.b {T T' : Nat → Nat → Int} (h : sameL T T') (m k : Nat) : bA T' m k = bA T m k := bA_c (n := k) (fun e _ => h.c e) m k (Nat.le_refl _)
theorem J_film {T S : Nat → Nat → Int} (J : JJ T S) {z : Int} (h1 : 1 ≤ z ∧ z ≤ 20) (h2 : cN T 1 < 20) : JJ (su (su T 11 (cN T 1) z) 10 0 (T 10 0 + 1)) (sFilm S z) := by
  have ht : ∀ {k : Nat}, 1 ≤ k → k ≤ 20 → k ≠ 5 → k ≠ 9 → T k = S k := fun a b c d => J.t a b c d
  obtain ⟨-, ⟨n1, -, n1c⟩, -⟩ := jMem J
  obtain ⟨⟨a1, a2, a3⟩, ⟨b1, b2, b3, b4⟩, c1, c2, c3, c4, c5, c6, c7, c8, c9⟩ := J
  have e10 : T 10 0 = S 10 0 := congrFun (ht (by decide) (by decide) (by decide) (by decide)) 0
  have hS : sFilm S z = su (su S 11 (cN T 1) z) 10 0 (T 10 0 + 1) := by unfold sFilm; rw [n1c, e10]
  rw [hS]
  have hb10 : 0 ≤ T 10 0 := by omega
  have sl : sameL T (su (su T 11 (cN T 1) z) 10 0 (T 10 0 + 1)) := ⟨fun g h1 h2 => by rw [su_ne _ _ _ (by omega), su_ne _ _ _ (by omega)], fun g h1 h2 => by rw [su_ne _ _ _ (by omega), su_ne _ _ _ (by omega)]⟩
  have hF : mF (su (su S 11 (cN T 1) z) 10 0 (T 10 0 + 1)) = cN T 1 + 1 := by
    show ((su (su S 11 (cN T 1) z) 10 0 (T 10 0 + 1)) 10 0).toNat = cN T 1 + 1
    rw [su_at, if_pos ⟨rfl, rfl⟩]
    omega
  refine ⟨⟨fun k k1 k2 k5 k9 => su_cg _ _ (su_cg _ _ (ht k1 k2 k5 k9) (ht (by decide) (by decide) (by decide) (by decide))) (su_cg _ _ (ht (by decide) (by decide) (by decide) (by decide)) (ht (by decide) (by decide) (by decide) (by decide))), a2, a3⟩,
    ⟨TB_su (TB_su b1 11 (cN T 1) (by decide) (show 0 ≤ z ∧ z ≤ (20 : Int) by omega)) 10 0 (by decide) (show 0 ≤ T 10 0 + 1 ∧ T 10 0 + 1 ≤ (20 : Int) by omega), fun m hm => (sl.b m _).trans (b2 m hm), b3, (by rw [mmany_c (T := su (su T 11 (cN T 1) z) 10 0 (T 10 0 + 1)) (S := T) rfl]; exact b4)⟩,
    MB_su (MB_su c1 11 (cN T 1) (show 0 ≤ z ∧ z ≤ (20 : Int) by omega)) 10 0 (show 0 ≤ T 10 0 + 1 ∧ T 10 0 + 1 ≤ (20 : Int) by omega), c2, c3, fun f hf => c4 f ?_, c5, c6, c7, c8, fun f hf => ?_⟩
  · rw [hF] at hf
    omega
  · rw [hF] at hf
    show 1 ≤ su (su S 11 (cN T 1) z) 10 0 (T 10 0 + 1) 11 f
    rw [su_ne _ _ _ (by decide), su_at]
    by_cases c : f = cN T 1
    · rw [if_pos ⟨rfl, c⟩]
      exact h1.1
    · rw [if_neg (fun y => c y.2)]
      exact c9 f (by omega)
theorem J_prop {T S : Nat → Nat → Int} (J : JJ T S) {r v : Int} (h1 : 0 ≤ r ∧ r < 3) (h2 : 0 ≤ v ∧ v ≤ 9) (h4 : cN T 2 < 30) : JJ (su (su (su T 17 (cN T 2) r) 18 (cN T 2) v) 15 0 (T 15 0 + 1)) (sProp S r v) := by
  have ht : ∀ {k : Nat}, 1 ≤ k → k ≤ 20 → k ≠ 5 → k ≠ 9 → T k = S k := fun a b c d => J.t a b c d
  obtain ⟨-, -, ⟨n2, -, n2c⟩⟩ := jMem J
  obtain ⟨⟨a1, a2, a3⟩, ⟨b1, b2, b3, b4⟩, c1, c2, c3, c4, c5, c6, c7, c8, c9⟩ := J
  have e15 : T 15 0 = S 15 0 := congrFun (ht (by decide) (by decide) (by decide) (by decide)) 0
  have hS : sProp S r v = su (su (su S 17 (cN T 2) r) 18 (cN T 2) v) 15 0 (T 15 0 + 1) := by unfold sProp; rw [n2c, e15]
  rw [hS]
  have hP : mP (su (su (su S 17 (cN T 2) r) 18 (cN T 2) v) 15 0 (T 15 0 + 1)) = cN T 2 + 1 := by
    show ((su (su (su S 17 (cN T 2) r) 18 (cN T 2) v) 15 0 (T 15 0 + 1)) 15 0).toNat = cN T 2 + 1
    rw [su_at, if_pos ⟨rfl, rfl⟩]
    omega
  have hn2 : cN (su (su (su T 17 (cN T 2) r) 18 (cN T 2) v) 15 0 (T 15 0 + 1)) 2 = cN T 2 + 1 := by
    show ((su (su (su T 17 (cN T 2) r) 18 (cN T 2) v) 15 0 (T 15 0 + 1)) 15 0).toNat = cN T 2 + 1
    rw [su_at, if_pos ⟨rfl, rfl⟩]
    omega
  have h16 : T 16 (cN T 2) = 0 := by rw [ht (by decide) (by decide) (by decide) (by decide)]; exact (c5 _ (by omega)).1
  have hVF : ∀ (q hr : Int) n, n ≤ cN T 2 → cVF (su (su (su T 17 (cN T 2) r) 18 (cN T 2) v) 15 0 (T 15 0 + 1)) q hr n = cVF T q hr n := by
    intro q hr n
    induction n with
    | zero => intro _; rfl
    | succ n ih =>
      intro hn
      have e17 : (su (su (su T 17 (cN T 2) r) 18 (cN T 2) v) 15 0 (T 15 0 + 1)) 17 n = T 17 n := by rw [su_ne _ _ _ (by decide), su_ne _ _ _ (by decide), su_at, if_neg (fun z => by omega)]
      rw [cVF, cVF, ih (by omega), e17]
      rfl
  have hval : ∀ q hr : Int, cval (su (su (su T 17 (cN T 2) r) 18 (cN T 2) v) 15 0 (T 15 0 + 1)) q hr = cval T q hr := by
    intro q hr
    have hb := cVF_b T q hr (cN T 2)
    have e : cVF (su (su (su T 17 (cN T 2) r) 18 (cN T 2) v) 15 0 (T 15 0 + 1)) q hr (cN T 2 + 1) = cVF T q hr (cN T 2) := by
      rw [cVF, hVF q hr _ (Nat.le_refl _), if_neg]
      rintro ⟨⟨-, z, -⟩, -⟩
      have z2 : T 16 (cN T 2) = 1 := z
      omega
    unfold cval cvl
    rw [hn2, e]
    by_cases c : cVF T q hr (cN T 2) = -1
    · rw [if_pos c, if_pos c]
    · rw [if_neg c, if_neg c, su_ne _ _ _ (by decide), su_at, if_neg (fun z => by omega), su_ne _ _ _ (by decide)]
  have hc : ∀ e, cCost (su (su (su T 17 (cN T 2) r) 18 (cN T 2) v) 15 0 (T 15 0 + 1)) e = cCost T e := by
    intro e
    unfold cCost
    rw [hval, hval]
    rfl
  refine ⟨⟨fun k k1 k2 k5 k9 => ?_, a2, a3⟩,
    ⟨TB_su (TB_su (TB_su b1 17 (cN T 2) (by decide) (show 0 ≤ r ∧ r ≤ (2 : Int) by omega)) 18 (cN T 2) (by decide) (show 0 ≤ v ∧ v ≤ (9 : Int) by omega)) 15 0 (by decide) (show 0 ≤ T 15 0 + 1 ∧ T 15 0 + 1 ≤ (30 : Int) by omega), fun m hm => (bA_c (n := cN T 3) (fun e _ => ⟨hc e, rfl, rfl, rfl, rfl⟩) m (cN T 3) (Nat.le_refl _)).trans (b2 m hm), b3, (by rw [mmany_c (T := su (su (su T 17 (cN T 2) r) 18 (cN T 2) v) 15 0 (T 15 0 + 1)) (S := T) rfl]; exact b4)⟩,
    MB_su (MB_su (MB_su c1 17 (cN T 2) (show 0 ≤ r ∧ r ≤ (2 : Int) by omega)) 18 (cN T 2) (show 0 ≤ v ∧ v ≤ (9 : Int) by omega)) 15 0 (show 0 ≤ T 15 0 + 1 ∧ T 15 0 + 1 ≤ (30 : Int) by omega), c2, c3, c4, fun p hp => c5 p ?_, c6, c7, c8, c9⟩
  · have h17 : T 17 = S 17 := ht (by decide) (by decide) (by decide) (by decide)
    have h18 : T 18 = S 18 := ht (by decide) (by decide) (by decide) (by decide)
    have h15 : T 15 = S 15 := ht (by decide) (by decide) (by decide) (by decide)
    exact su_cg _ _ (su_cg _ _ (su_cg _ _ (ht k1 k2 k5 k9) h17) (su_cg _ _ h18 h17)) (su_cg _ _ (su_cg _ _ h15 h17) (su_cg _ _ h18 h17))
  · rw [hP] at hp
    omega
theorem cPl_5 (T : Nat → Nat → Int) (j : Nat) : ∀ n, cPl T n 5 j = if j < n ∧ ¬ T 3 j = 0 then T 4 j else T 5 j
  | 0 => by rw [if_neg (fun z => by omega)]; rfl
  | n + 1 => by
    rw [cPl, su_at, cPl_5 T j n, cPl_5 T n n, if_neg (c := n < n ∧ ¬ T 3 n = 0) (fun z => by omega)]
    by_cases c : j = n
    · subst c
      rw [if_pos ⟨rfl, rfl⟩]
      by_cases c2 : T 3 j = 0
      · rw [if_pos c2, if_neg (fun z => z.2 c2)]
      · rw [if_neg c2, if_pos ⟨by omega, c2⟩]
    · rw [if_neg (fun z => c z.2)]
      by_cases c2 : j < n ∧ ¬ T 3 j = 0
      · rw [if_pos c2, if_pos ⟨by omega, c2.2⟩]
      · rw [if_neg c2, if_neg (fun z => c2 ⟨by omega, z.2⟩)]
theorem mpl_5 (S : Nat → Nat → Int) (j : Nat) : ∀ n, mpl S n 5 j = if j < n then S 4 j else S 5 j
  | 0 => by rw [if_neg (by omega)]; rfl
  | n + 1 => by
    rw [mpl, su_at, mpl_5 S j n]
    by_cases c : j = n
    · subst c
      rw [if_pos ⟨rfl, rfl⟩, if_pos (by omega)]
    · rw [if_neg (fun z => c z.2)]
      by_cases c2 : j < n
      · rw [if_pos c2, if_pos (by omega)]
      · rw [if_neg c2, if_neg (by omega)]
theorem MB_pl {S : Nat → Nat → Int} (I : MB S) : ∀ n, MB (mpl S n)
  | 0 => I
  | n + 1 => by rw [mpl]; exact MB_su (MB_pl I n) 5 n (I 4 n (by decide))
theorem J_pass {T S : Nat → Nat → Int} (J : JJ T S) {w : Int} (h1 : 1 ≤ w ∧ w ≤ 100) (h2 : T 1 0 + w ≤ 2000) : JJ (cPl (su T 1 0 (T 1 0 + w)) (cN T 0)) (sPass S w) := by
  have ht : ∀ {k : Nat}, 1 ≤ k → k ≤ 20 → k ≠ 5 → k ≠ 9 → T k = S k := fun a b c d => J.t a b c d
  obtain ⟨⟨n0, -, n0c⟩, -⟩ := jMem J
  obtain ⟨⟨a1, a2, a3⟩, ⟨b1, b2, b3, b4⟩, c1, c2, c3, c4, c5, c6, c7, c8, c9⟩ := J
  have e1 : T 1 0 = S 1 0 := congrFun (ht (by decide) (by decide) (by decide) (by decide)) 0
  have hb : 0 ≤ T 1 0 := (b1.1 1 0 (by decide) (by decide) (by decide)).1
  have hS : sPass S w = mpl (su S 1 0 (T 1 0 + w)) (cN T 0) := by unfold sPass; rw [n0c, e1]
  rw [hS]
  have ne : ∀ {g : Nat}, g ≠ 5 → g ≠ 1 → cPl (su T 1 0 (T 1 0 + w)) (cN T 0) g = T g := fun g5 g1 => by rw [cPl_ne _ g5, su_ne _ _ _ g1]
  have nS : ∀ {g : Nat}, g ≠ 5 → g ≠ 1 → mpl (su S 1 0 (T 1 0 + w)) (cN T 0) g = S g := fun g5 g1 => by rw [mpl_ne _ g5, su_ne _ _ _ g1]
  have m1 : cPl (su T 1 0 (T 1 0 + w)) (cN T 0) 1 0 = T 1 0 + w := by rw [cPl_ne _ (by decide), su_at, if_pos ⟨rfl, rfl⟩]
  have hcn : ∀ g, cN (cPl (su T 1 0 (T 1 0 + w)) (cN T 0)) g = cN T g := fun g => by rw [cPl_cN, cN_su _ _ _ (by decide) (by decide) (by decide) (by decide)]
  have hM : mM (mpl (su S 1 0 (T 1 0 + w)) (cN T 0)) = mM S := by unfold mM; rw [nS (by decide) (by decide)]
  have hF : mF (mpl (su S 1 0 (T 1 0 + w)) (cN T 0)) = mF S := by unfold mF; rw [nS (by decide) (by decide)]
  have hP : mP (mpl (su S 1 0 (T 1 0 + w)) (cN T 0)) = mP S := by unfold mP; rw [nS (by decide) (by decide)]
  have I1 := TB_su b1 1 0 (v := T 1 0 + w) (by decide) (show 0 ≤ T 1 0 + w ∧ T 1 0 + w ≤ (2000 : Int) by omega)
  have M1 := MB_su c1 1 0 (v := T 1 0 + w) (show 0 ≤ T 1 0 + w ∧ T 1 0 + w ≤ (2000 : Int) by omega)
  refine ⟨⟨fun k k1 k2 k5 k9 => ?_, fun j => ?_, fun i j hi hj => ?_⟩, ⟨TB_pl I1 _, fun m hm => ?_, fun e he => ?_, ?_⟩, MB_pl M1 _, ?_, ?_, ?_, ?_, ?_, ?_, ?_, ?_⟩
  · rw [cPl_ne _ k5, mpl_ne _ k5]
    exact su_cg _ _ (ht k1 k2 k5 k9) (ht (by decide) (by decide) (by decide) (by decide))
  · rw [cPl_5, mpl_5, nS (by decide) (by decide)]
    show (if j < cN T 0 ∧ ¬ T 3 j = 0 then T 4 j else T 5 j) = if S 3 j = 0 then 0 else if j < cN T 0 then S 4 j else S 5 j
    rw [ht (k := 3) (by decide) (by decide) (by decide) (by decide), ht (k := 4) (by decide) (by decide) (by decide) (by decide), a2 j]
    by_cases c : S 3 j = 0
    · rw [if_pos c, if_pos c, if_neg (fun z => z.2 c)]
    · rw [if_neg c, if_neg c]
      by_cases d : j < cN T 0
      · rw [if_pos ⟨d, c⟩, if_pos d]
      · rw [if_neg (fun z => d z.1), if_neg d]
  · rw [ne (by decide) (by decide), nS (by decide) (by decide)]
    exact a3 i j hi hj
  · have sl : sameL T (cPl (su T 1 0 (T 1 0 + w)) (cN T 0)) := ⟨fun g h1 h2 => ne (by omega) (by omega), fun g h1 h2 => ne (by omega) (by omega)⟩
    rw [hcn, sl.b, ne (by decide) (by decide), row_c (ne (g := 30) (by decide) (by decide))]
    exact b2 m (by rw [← hcn]; exact hm)
  · rw [hcn] at he
    have := b3 e he
    rw [m1, ne (by decide) (by decide), ne (by decide) (by decide), ne (by decide) (by decide), ne (by decide) (by decide), hcn, ne (by decide) (by decide)]
    exact ⟨by omega, this.2.1, this.2.2.1, this.2.2.2⟩
  · rw [hcn, mmany_c (ne (g := 3) (by decide) (by decide)), ne (by decide) (by decide), ne (by decide) (by decide), ne (by decide) (by decide)]
    exact b4
  · rw [hM, nS (by decide) (by decide), nS (by decide) (by decide), nS (by decide) (by decide)]
    exact c2
  · rw [nS (by decide) (by decide), nS (by decide) (by decide), nS (by decide) (by decide), nS (by decide) (by decide), nS (by decide) (by decide)]
    exact c3
  · rw [hF, nS (by decide) (by decide)]
    exact c4
  · rw [hP, nS (by decide) (by decide), nS (by decide) (by decide), nS (by decide) (by decide)]
    exact c5
  · intro p
    rw [nS (by decide) (by decide), nS (by decide) (by decide), nS (by decide) (by decide), row_c (nS (g := 20) (by decide) (by decide))]
    exact c6 p
  · rw [nS (by decide) (by decide)]
    exact c7
  · rw [nS (by decide) (by decide), nS (by decide) (by decide), nS (by decide) (by decide), nS (by decide) (by decide)]
    exact c8
  · rw [hF, nS (by decide) (by decide)]
    exact c9
