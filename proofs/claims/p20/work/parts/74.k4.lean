/-! votes -/
theorem J_set20 {ex ex2 : Nat → Nat → Prop} {T S : Nat → Nat → Int} (J : JX ex T S) {p m : Nat} {u : Int} (hp : p < mP S) (hm : m < 10) (hu : 0 ≤ u ∧ u ≤ 2) (h0 : S 16 p = 0) (h3 : S 3 m = 0 → u = 0) (hex : ∀ p' j, j < 10 → ¬ ex2 p' j → ¬ (p' = p ∧ j = m) → ¬ ex p' j) : JX ex2 (su T 20 (10 * p + m) u) (su S 20 (10 * p + m) u) := by
  have ht : ∀ {k : Nat}, 1 ≤ k → k ≤ 20 → k ≠ 5 → k ≠ 9 → T k = S k := fun a b c d => J.t a b c d
  obtain ⟨⟨a1, a2, a3⟩, ⟨b1, b2, b3, b4⟩, c1, c2, c3, c4, c5, c6, c7, c8, c9⟩ := J
  have sl : sameL T (su T 20 (10 * p + m) u) := ⟨fun g h1 h2 => su_ne _ _ _ (by omega), fun g h1 h2 => su_ne _ _ _ (by omega)⟩
  refine ⟨⟨fun k k1 k2 k5 k9 => su_cg _ _ (ht k1 k2 k5 k9) (ht (by decide) (by decide) (by decide) (by decide)), a2, a3⟩,
    ⟨TB_su b1 20 _ (by decide) (show 0 ≤ u ∧ u ≤ (2 : Int) from hu), fun m hm => (sl.b m _).trans (b2 m hm), b3, (by rw [mmany_c (T := su T 20 (10 * p + m) u) (S := T) rfl]; exact b4)⟩,
    MB_su c1 20 _ (show 0 ≤ u ∧ u ≤ (2 : Int) from hu), c2, fun j hj hz => ⟨(c3 j hj hz).1, (c3 j hj hz).2.1, fun p' hp' he => ?_⟩, c4, fun p' hp' => ⟨(c5 p' hp').1, (c5 p' hp').2.1, fun j hj => ?_⟩, fun p' hp' => ?_, c7, c8, c9⟩
  · rw [su_at]
    by_cases c : p' = p ∧ j = m
    · obtain ⟨rfl, rfl⟩ := c
      rw [if_pos ⟨rfl, rfl⟩]
      exact h3 hz
    · rw [if_neg (fun z => c (by omega))]
      exact (c3 j hj hz).2.2 p' hp' (hex p' j hj he c)
  · have hp2 : mP S ≤ p' := hp'
    rw [su_at, if_neg (fun z => by omega)]
    exact (c5 p' hp').2.2 j hj
  · have hne : p' ≠ p := fun z => hp' (by rw [z]; exact h0)
    rw [row_ne S 20 10 u hm hne]
    exact c6 p' hp'
theorem cVF_hit (T : Nat → Nat → Int) (q hr : Int) : ∀ n, cVF T q hr n = -1 ∨ T 16 (cVF T q hr n).toNat = 1
  | 0 => Or.inl rfl
  | n + 1 => by
    rw [cVF]
    split
    · rename_i c
      refine Or.inr ?_
      rw [Int.toNat_natCast]
      exact c.1.2.1
    · exact cVF_hit T q hr n
theorem su_self (T : Nat → Nat → Int) (k i : Nat) : su T k i (T k i) = T := by
  funext g j
  rw [su_at]
  by_cases c : g = k ∧ j = i
  · rw [if_pos c, c.1, c.2]
  · rw [if_neg c]
theorem cost_dec {T : Nat → Nat → Int} {p : Nat} {x y : Int} (h0 : T 16 p = 0) (hx : x = 1 → T 1 0 < y) {e : Nat} (he : T 33 e ≤ T 1 0) : cCost (su (su T 16 p x) 19 p y) e = cCost T e := by
  have e16 : ∀ k, k ≠ p → (su (su T 16 p x) 19 p y) 16 k = T 16 k := fun k hk => by rw [su_ne _ _ _ (by decide), su_at, if_neg (fun z => hk z.2)]
  have e16p : (su (su T 16 p x) 19 p y) 16 p = x := by rw [su_ne _ _ _ (by decide), su_at, if_pos ⟨rfl, rfl⟩]
  have e19 : ∀ k, k ≠ p → (su (su T 16 p x) 19 p y) 19 k = T 19 k := fun k hk => by rw [su_at, if_neg (fun z => hk z.2)]; rfl
  have e19p : (su (su T 16 p x) 19 p y) 19 p = y := by rw [su_at, if_pos ⟨rfl, rfl⟩]
  have hV : ∀ q n, cVF (su (su T 16 p x) 19 p y) q (T 33 e) n = cVF T q (T 33 e) n := by
    intro q n
    induction n with
    | zero => rfl
    | succ n ih =>
      rw [cVF, cVF, ih]
      have hh := cVF_hit T q (T 33 e) n
      have hb := cVF_b T q (T 33 e) n
      by_cases c : n = p
      · subst c
        rw [e16p, e19p, if_neg, if_neg]
        all_goals
          rintro ⟨⟨-, z, z2⟩, -⟩
          first
            | (exfalso; omega)
            | (have := hx z; omega)
      · rw [e16 n c, e19 n c]
        by_cases d : cVF T q (T 33 e) n = -1
        · rw [d]
          by_cases f : T 17 n = q ∧ T 16 n = 1 ∧ T 19 n ≤ T 33 e
          · rw [if_pos ⟨f, Or.inl rfl⟩, if_pos ⟨f, Or.inl rfl⟩]
          · rw [if_neg (fun z => f z.1), if_neg (fun z => f z.1)]
        · have hne : (cVF T q (T 33 e) n).toNat ≠ p := fun z => by
            rcases hh with w | w
            · exact d w
            · rw [z, h0] at w; omega
          rw [e19 _ hne]
          rfl
  have hval : ∀ q, cval (su (su T 16 p x) 19 p y) q (T 33 e) = cval T q (T 33 e) := fun q => by
    unfold cval
    rw [cN_su _ _ _ (by decide) (by decide) (by decide) (by decide), cN_su _ _ _ (by decide) (by decide) (by decide) (by decide), hV]
    rfl
  unfold cCost
  show (if T 32 e = 1 then T 35 e * cval (su (su T 16 p x) 19 p y) 2 (T 33 e) else if T 32 e = 2 then T 35 e * cval (su (su T 16 p x) 19 p y) (if 18 ≤ T 33 e % 24 ∧ T 33 e % 24 ≤ 22 then 0 else 1) (T 33 e) else 0) = _
  rw [hval, hval]
theorem J_dec1 {ex : Nat → Nat → Prop} {T S : Nat → Nat → Int} (J : JX ex T S) {p : Nat} {x y : Int} (hp : p < mP S) (h0 : S 16 p = 0) (hx : 0 ≤ x ∧ x ≤ 2) (hy : (x = 1 ∧ y = T 1 0 + 1) ∨ (¬ x = 1 ∧ y = T 19 p)) : JX ex (su (su T 16 p x) 19 p y) (su (su (su (su S 16 p x) 19 p y) 21 p (cV (row S 20 10 p) 1 10)) 22 p (cV (row S 20 10 p) 2 10)) := by
  have ht : ∀ {k : Nat}, 1 ≤ k → k ≤ 20 → k ≠ 5 → k ≠ 9 → T k = S k := fun a b c d => J.t a b c d
  obtain ⟨⟨a1, a2, a3⟩, ⟨b1, b2, b3, b4⟩, c1, c2, c3, c4, c5, c6, c7, c8, c9⟩ := J
  have h1 : 0 ≤ T 1 0 ∧ T 1 0 ≤ 2000 := b1.1 1 0 (by decide) (by decide) (by decide)
  have h19 : 0 ≤ T 19 p ∧ T 19 p ≤ 2001 := b1.1 19 p (by decide) (by decide) (by decide)
  have hy2 : 0 ≤ y ∧ y ≤ 2001 := by omega
  have v1 := cV_b (row S 20 10 p) 1 10
  have v2 := cV_b (row S 20 10 p) 2 10
  have t0 : T 16 p = 0 := by rw [ht (by decide) (by decide) (by decide) (by decide)]; exact h0
  have e16 : ∀ k, (su (su (su (su S 16 p x) 19 p y) 21 p (cV (row S 20 10 p) 1 10)) 22 p (cV (row S 20 10 p) 2 10)) 16 k = if k = p then x else S 16 k := fun k => by
    rw [su_ne _ _ _ (by decide), su_ne _ _ _ (by decide), su_ne _ _ _ (by decide), su_at]
    by_cases c : k = p
    · rw [if_pos ⟨rfl, c⟩, if_pos c]
    · rw [if_neg (fun z => c z.2), if_neg c]
  have e19 : ∀ k, k ≠ p → (su (su (su (su S 16 p x) 19 p y) 21 p (cV (row S 20 10 p) 1 10)) 22 p (cV (row S 20 10 p) 2 10)) 19 k = S 19 k := fun k hk => by
    rw [su_ne _ _ _ (by decide), su_ne _ _ _ (by decide), su_at, if_neg (fun z => hk z.2), su_ne _ _ _ (by decide)]
  refine ⟨⟨fun k k1 k2 k5 k9 => ?_, a2, a3⟩,
    ⟨TB_su (TB_su b1 16 p (by decide) (show 0 ≤ x ∧ x ≤ (2 : Int) from hx)) 19 p (by decide) (show 0 ≤ y ∧ y ≤ (2001 : Int) from hy2), fun m hm => (bA_c (n := cN T 3) (fun e he => ⟨cost_dec t0 (fun z => by omega) (b3 e he).1, rfl, rfl, rfl, rfl⟩) m (cN T 3) (Nat.le_refl _)).trans (b2 m hm), b3, (by rw [mmany_c (T := su (su T 16 p x) 19 p y) (S := T) rfl]; exact b4)⟩,
    MB_su (MB_su (MB_su (MB_su c1 16 p (show 0 ≤ x ∧ x ≤ (2 : Int) from hx)) 19 p (show 0 ≤ y ∧ y ≤ (2001 : Int) from hy2)) 21 p (show 0 ≤ _ ∧ _ ≤ (10 : Int) by omega)) 22 p (show 0 ≤ _ ∧ _ ≤ (10 : Int) by omega), c2, fun j hj hz => ⟨(c3 j hj hz).1, (c3 j hj hz).2.1, fun p' hp' he => ?_⟩, c4, fun p' hp' => ?_, fun p' hp' => ?_, c7, c8, c9⟩
  · rw [su_ne _ _ _ (show k ≠ 22 by omega), su_ne _ _ _ (show k ≠ 21 by omega)]
    exact su_cg _ _ (su_cg _ _ (ht k1 k2 k5 k9) (ht (by decide) (by decide) (by decide) (by decide))) (su_cg _ _ (ht (by decide) (by decide) (by decide) (by decide)) (ht (by decide) (by decide) (by decide) (by decide)))
  · refine (c3 j hj hz).2.2 p' ?_ he
    rw [e16] at hp'
    by_cases c : p' = p
    · rw [c]; exact h0
    · rw [if_neg c] at hp'; exact hp'
  · have hp2 : mP S ≤ p' := hp'
    have hne : p' ≠ p := by omega
    rw [e16, if_neg hne, e19 p' hne]
    exact c5 p' hp'
  · by_cases c : p' = p
    · subst c
      refine ⟨?_, ?_⟩
      · rw [su_ne _ _ _ (by decide), su_at, if_pos ⟨rfl, rfl⟩]
        rfl
      · rw [su_at, if_pos ⟨rfl, rfl⟩]
        rfl
    · rw [e16, if_neg c] at hp'
      have := c6 p' hp'
      refine ⟨?_, ?_⟩
      · rw [su_ne _ _ _ (by decide), su_at, if_neg (fun z => c z.2)]
        exact this.1
      · rw [su_at, if_neg (fun z => c z.2)]
        exact this.2
theorem J_dec {ex : Nat → Nat → Prop} {T S : Nat → Nat → Int} (J : JX ex T S) {p : Nat} (hp : p < mP S) (h0 : S 16 p = 0) (hex : ∀ j, ¬ ex p j) {ic : Int} (hic : ic = mmany S (mM S)) : JX ex (cDec T p ic) (mdec S p) := by
  have ht : ∀ {k : Nat}, 1 ≤ k → k ≤ 20 → k ≠ 5 → k ≠ 9 → T k = S k := fun a b c d => J.t a b c d
  have e1 := e_voted J.2.2 h0 hex (w := 1) (by decide)
  have e2 := e_voted J.2.2 h0 hex (w := 2) (by decide)
  have h1 : T 1 0 = S 1 0 := congrFun (ht (by decide) (by decide) (by decide) (by decide)) 0
  have h16 : T 16 p = S 16 p := congrFun (ht (by decide) (by decide) (by decide) (by decide)) p
  have h19 : T 19 p = S 19 p := congrFun (ht (by decide) (by decide) (by decide) (by decide)) p
  have hrow : row T 20 10 p = row S 20 10 p := row_c (ht (by decide) (by decide) (by decide) (by decide)) 10 p
  unfold cDec mdec mdecS
  rw [hrow, ← hic, ← e1, ← e2]
  by_cases c : ic < 2 * cV (row S 20 10 p) 1 10
  · rw [if_pos c, if_pos c, if_pos c, ← h1]
    exact J_dec1 J hp h0 (by decide) (Or.inl ⟨rfl, rfl⟩)
  · by_cases d : 0 < ic ∧ ic ≤ 2 * cV (row S 20 10 p) 2 10
    · rw [if_neg c, if_neg c, if_neg c, if_pos d, if_pos d]
      have := J_dec1 J hp h0 (x := 2) (y := T 19 p) (by decide) (Or.inr ⟨by decide, rfl⟩)
      rw [show su (su S 16 p 2) 19 p (T 19 p) = su S 16 p 2 by rw [h19]; exact su_self (su S 16 p 2) 19 p] at this
      exact this
    · rw [if_neg c, if_neg c, if_neg c, if_neg d, if_neg d]
      have := J_dec1 J hp h0 (x := T 16 p) (y := T 19 p) (by omega) (Or.inr ⟨by omega, rfl⟩)
      rw [show su (su S 16 p (T 16 p)) 19 p (T 19 p) = S by rw [h16, su_self, h19, su_self]] at this
      exact this
theorem J_vote {T S : Nat → Nat → Int} (J : JJ T S) {m p : Nat} {u : Int} (hm : m < cN T 0) (hp : p < cN T 2) (h3 : ¬ T 3 m = 0) (h0 : T 16 p = 0) (hu : 1 ≤ u ∧ u ≤ 2) : JJ (cVot T m p u) (mdec (su S 20 (10 * p + m) u) p) := by
  have ht : ∀ {k : Nat}, 1 ≤ k → k ≤ 20 → k ≠ 5 → k ≠ 9 → T k = S k := fun a b c d => J.t a b c d
  obtain ⟨⟨n0, n0b, n0c⟩, -, ⟨n2, n2b, n2c⟩⟩ := jMem J
  have s0 : S 16 p = 0 := by rw [← ht (by decide) (by decide) (by decide) (by decide)]; exact h0
  have s3 : ¬ S 3 m = 0 := by rw [← ht (by decide) (by decide) (by decide) (by decide)]; exact h3
  have J1 : JJ (su T 20 (10 * p + m) u) (su S 20 (10 * p + m) u) := J_set20 J (by omega) (by omega) (by omega) s0 (fun z => absurd z s3) (fun _ _ _ _ _ z => z)
  have e := e_many J1
  rw [cN_su _ _ _ (by decide) (by decide) (by decide) (by decide)] at e
  exact J_dec J1 (p := p) (show p < mP S by omega) s0 (fun _ z => z) e

theorem opc_vote {l : Launch} (htr : l.stackTraces = false) {G : zG} {b : Nat} : OPC_vote l G JJ b := by
  intro T S hC p0 p1 p2 hj hk h0 h1 h2
  obtain ⟨ad, el, rfl, R⟩ := hk
  have I := hj.2.1.1
  obtain ⟨⟨n0, n0b, n0c⟩, ⟨n1, n1b, n1c⟩, n2, n2b, n2c⟩ := jMem hj
  by_cases c : ¬ (0 ≤ p1 ∧ p1 < cN T 2)
  · refine CT.mono (c_X6_vote_x1 htr R I h1 c) (fun v h9 z => z.elim) (fun E h9 z => ?_)
    obtain ⟨rfl, rfl⟩ := z
    exact Or.inl ⟨rfl, (if_pos (by omega)).symm, ad, el, rfl, R⟩
  · by_cases c2 : ¬ (0 ≤ p0 ∧ p0 < cN T 0)
    · obtain ⟨p, rfl⟩ : ∃ p : Nat, p1 = (p : Int) := toN (by omega)
      refine CT.mono (c_X6_vote_x2 htr R I (p := p) (by omega) h0 c2) (fun v h9 z => z.elim) (fun E h9 z => ?_)
      obtain ⟨rfl, rfl⟩ := z
      exact Or.inl ⟨rfl, (if_pos (by omega)).symm, ad, el, rfl, R⟩
    · obtain ⟨p, rfl⟩ : ∃ p : Nat, p1 = (p : Int) := toN (by omega)
      obtain ⟨m, rfl⟩ : ∃ m : Nat, p0 = (m : Int) := toN (by omega)
      have e3 : T 3 m = S 3 ((m : Nat) : Int).toNat := by
        rw [Int.toNat_natCast, hj.t (k := 3) (by decide) (by decide) (by decide) (by decide)]
      have e16 : T 16 p = S 16 ((p : Nat) : Int).toNat := by
        rw [Int.toNat_natCast, hj.t (k := 16) (by decide) (by decide) (by decide) (by decide)]
      by_cases c3 : T 3 m = 0
      · refine CT.mono (c_X6_vote_x3 htr R I (p := p) (m := m) (by omega) (by omega) c3) (fun v h9 z => z.elim) (fun E h9 z => ?_)
        obtain ⟨rfl, rfl⟩ := z
        exact Or.inr ⟨rfl, ((if_neg (by omega)).trans (if_pos (Or.inl (by omega)))).symm, ad, el, rfl, R⟩
      · by_cases c4 : ¬ T 16 p = 0
        · refine CT.mono (c_X6_vote_x4 htr R I (p := p) (m := m) (by omega) (by omega) c3 c4) (fun v h9 z => z.elim) (fun E h9 z => ?_)
          obtain ⟨rfl, rfl⟩ := z
          exact Or.inr ⟨rfl, ((if_neg (by omega)).trans (if_pos (Or.inr (by omega)))).symm, ad, el, rfl, R⟩
        · have hu : 1 ≤ (if p2 = 0 then (2 : Int) else 1) ∧ (if p2 = 0 then (2 : Int) else 1) ≤ 2 := by split <;> decide
          have hJ : JJ (cVot T m p (if p2 = 0 then 2 else 1)) (sVote S ((m : Nat) : Int) ((p : Nat) : Int) p2) := by
            unfold sVote
            rw [Int.toNat_natCast, Int.toNat_natCast]
            exact J_vote hj (by omega) (by omega) c3 (by omega) hu
          have ev : cVot T m p (if p2 = 0 then 2 else 1) 16 p = sVote S ((m : Nat) : Int) ((p : Nat) : Int) p2 16 ((p : Nat) : Int).toNat := by
            rw [Int.toNat_natCast]
            exact congrFun (hJ.t (by decide) (by decide) (by decide) (by decide)) p
          refine CT.mono (c_X6_vote_ok htr R I (m := m) (p := p) (by omega) (by omega) c3 (by omega) h2) (fun v h9 z => ?_) (fun E h9 z => z.elim)
          obtain ⟨rfl, z⟩ := z
          exact ⟨_, rfl, (if_neg (by omega)).trans (if_neg (by omega)), ev, _, z, hJ⟩

