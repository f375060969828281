/-! join -/
theorem mmany_lt {T T' : Nat → Nat → Int} : ∀ n, (∀ j, j < n → T' 3 j = T 3 j) → mmany T' n = mmany T n
  | 0, _ => rfl
  | n + 1, h => by rw [mmany, mmany, mmany_lt n (fun j hj => h j (by omega)), h n (by omega)]
theorem sV_zero (ow lv : Nat) : ∀ n, sV (fun _ => 0) ow lv n = 0
  | 0 => rfl
  | n + 1 => by rw [sV, sV_zero ow lv n]; split <;> rfl
theorem bA_new {T : Nat → Nat → Int} {n m : Nat} (hm : m < 10) (h : ∀ e, e < n → ¬ T 34 e = (m : Int) ∧ ¬ T 36 e = (m : Int) ∧ 0 ≤ T 34 e ∧ T 37 (10 * e + m) = 0) : ∀ k, k ≤ n → bA T m k = (0, fun _ => 0)
  | 0, _ => rfl
  | k + 1, hk => by
    obtain ⟨h1, h2, h3, h4⟩ := h k (by omega)
    rw [bA, bA_new hm h k (by omega)]
    have e1 : enA T k m (fun _ => 0) 0 = 0 := by
      unfold enA
      rw [if_neg (fun z => h1 z.symm), if_neg (fun z => h2 z.symm), sV_zero]
      split <;> rfl
    have e2 : enF T k m (fun _ => 0) = fun _ => 0 := by
      unfold enF
      split
      · funext j
        unfold eLn
        rw [if_neg (show ¬ m = (T 34 k).toNat by omega), row_at T 37 10 k hm, h4]
        unfold va_up
        split <;> rfl
      · split
        · funext j
          unfold sF
          split <;> rfl
        · rfl
    rw [e1, e2]
theorem J_join {T S : Nat → Nat → Int} (J : JJ T S) {u r : Int} (h1 : 1 ≤ u ∧ u ≤ 20) (h2 : 0 ≤ r ∧ r ≤ 50) (h3 : cN T 0 < 10) : (T 7 (cN T 0) = 0 ∧ T 8 (cN T 0) = 0 ∧ (∀ j, j < 20 → T 13 (20 * cN T 0 + j) = 0) ∧ ∀ j, j < 10 → T 30 (10 * cN T 0 + j) = 0) ∧ JJ (su (su (su (su (su T 3 (cN T 0) 1) 4 (cN T 0) u) 5 (cN T 0) u) 6 (cN T 0) r) 2 0 (T 2 0 + 1)) (sJoin S u r) := by
  have ht : ∀ {k : Nat}, 1 ≤ k → k ≤ 20 → k ≠ 5 → k ≠ 9 → T k = S k := fun a b c d => J.t a b c d
  obtain ⟨⟨n0, -, n0c⟩, -⟩ := jMem J
  obtain ⟨⟨a1, a2, a3⟩, ⟨b1, b2, b3, b4⟩, c1, c2, c3, c4, c5, c6, c7, c8, c9⟩ := J
  have e2 : T 2 0 = S 2 0 := congrFun (ht (by decide) (by decide) (by decide) (by decide)) 0
  have hS : sJoin S u r = su (su (su (su (su S 3 (cN T 0) 1) 4 (cN T 0) u) 5 (cN T 0) u) 6 (cN T 0) r) 2 0 (T 2 0 + 1) := by unfold sJoin; rw [n0c, e2]
  rw [hS]
  have z0 := c2 (cN T 0) (by omega)
  have z1 := c3 (cN T 0) h3 z0.1
  have z30 : ∀ j, j < 10 → T 30 (10 * cN T 0 + j) = 0 := fun j hj => by
    have := z1.2.1 j hj
    rw [a3 _ j h3 hj, this.1, this.2]
    rfl
  refine ⟨⟨by rw [ht (by decide) (by decide) (by decide) (by decide)]; exact z0.2.1, by rw [ht (by decide) (by decide) (by decide) (by decide)]; exact z0.2.2, fun j hj => by rw [ht (by decide) (by decide) (by decide) (by decide)]; exact z1.1 j hj, z30⟩, ?_⟩
  have hM : mM (su (su (su (su (su S 3 (cN T 0) 1) 4 (cN T 0) u) 5 (cN T 0) u) 6 (cN T 0) r) 2 0 (T 2 0 + 1)) = cN T 0 + 1 := by
    show ((su (su (su (su (su S 3 (cN T 0) 1) 4 (cN T 0) u) 5 (cN T 0) u) 6 (cN T 0) r) 2 0 (T 2 0 + 1)) 2 0).toNat = cN T 0 + 1
    rw [su_at, if_pos ⟨rfl, rfl⟩]
    omega
  have hn : cN (su (su (su (su (su T 3 (cN T 0) 1) 4 (cN T 0) u) 5 (cN T 0) u) 6 (cN T 0) r) 2 0 (T 2 0 + 1)) 0 = cN T 0 + 1 := by
    show ((su (su (su (su (su T 3 (cN T 0) 1) 4 (cN T 0) u) 5 (cN T 0) u) 6 (cN T 0) r) 2 0 (T 2 0 + 1)) 2 0).toNat = cN T 0 + 1
    rw [su_at, if_pos ⟨rfl, rfl⟩]
    omega
  have s3 : ∀ j, su (su (su (su (su S 3 (cN T 0) 1) 4 (cN T 0) u) 5 (cN T 0) u) 6 (cN T 0) r) 2 0 (T 2 0 + 1) 3 j = if j = cN T 0 then 1 else S 3 j := fun j => by
    rw [su_ne _ _ _ (by decide), su_ne _ _ _ (by decide), su_ne _ _ _ (by decide), su_ne _ _ _ (by decide), su_at]
    by_cases c : j = cN T 0
    · rw [if_pos ⟨rfl, c⟩, if_pos c]
    · rw [if_neg (fun z => c z.2), if_neg c]
  have t3 : ∀ j, su (su (su (su (su T 3 (cN T 0) 1) 4 (cN T 0) u) 5 (cN T 0) u) 6 (cN T 0) r) 2 0 (T 2 0 + 1) 3 j = if j = cN T 0 then 1 else T 3 j := fun j => by
    rw [su_ne _ _ _ (by decide), su_ne _ _ _ (by decide), su_ne _ _ _ (by decide), su_ne _ _ _ (by decide), su_at]
    by_cases c : j = cN T 0
    · rw [if_pos ⟨rfl, c⟩, if_pos c]
    · rw [if_neg (fun z => c z.2), if_neg c]
  have s5 : ∀ j, su (su (su (su (su S 3 (cN T 0) 1) 4 (cN T 0) u) 5 (cN T 0) u) 6 (cN T 0) r) 2 0 (T 2 0 + 1) 5 j = if j = cN T 0 then u else S 5 j := fun j => by
    rw [su_ne _ _ _ (by decide), su_ne _ _ _ (by decide), su_at]
    by_cases c : j = cN T 0
    · rw [if_pos ⟨rfl, c⟩, if_pos c]
    · rw [if_neg (fun z => c z.2), if_neg c]
      rfl
  have t5 : ∀ j, su (su (su (su (su T 3 (cN T 0) 1) 4 (cN T 0) u) 5 (cN T 0) u) 6 (cN T 0) r) 2 0 (T 2 0 + 1) 5 j = if j = cN T 0 then u else T 5 j := fun j => by
    rw [su_ne _ _ _ (by decide), su_ne _ _ _ (by decide), su_at]
    by_cases c : j = cN T 0
    · rw [if_pos ⟨rfl, c⟩, if_pos c]
    · rw [if_neg (fun z => c z.2), if_neg c]
      rfl
  have hX : ∀ k, 1 ≤ k → k ≤ 20 → k ≠ 5 → k ≠ 9 → su (su (su T 3 (cN T 0) 1) 4 (cN T 0) u) 5 (cN T 0) u k = su (su (su S 3 (cN T 0) 1) 4 (cN T 0) u) 5 (cN T 0) u k := fun k k1 k2 k5 k9 => by
    rw [su_ne _ _ _ k5, su_ne _ _ _ k5]
    exact su_cg _ _ (su_cg _ _ (ht k1 k2 k5 k9) (ht (by decide) (by decide) (by decide) (by decide))) (su_cg _ _ (ht (by decide) (by decide) (by decide) (by decide)) (ht (by decide) (by decide) (by decide) (by decide)))
  have sl : sameL T (su (su (su (su (su T 3 (cN T 0) 1) 4 (cN T 0) u) 5 (cN T 0) u) 6 (cN T 0) r) 2 0 (T 2 0 + 1)) := ⟨fun g h1 h2 => by rw [su_ne _ _ _ (by omega), su_ne _ _ _ (by omega), su_ne _ _ _ (by omega), su_ne _ _ _ (by omega), su_ne _ _ _ (by omega)], fun g h1 h2 => by rw [su_ne _ _ _ (by omega), su_ne _ _ _ (by omega), su_ne _ _ _ (by omega), su_ne _ _ _ (by omega), su_ne _ _ _ (by omega)]⟩
  have hb2 : 0 ≤ T 2 0 := by omega
  refine ⟨⟨fun k k1 k2 k5 k9 => su_cg _ _ (su_cg _ _ (hX k k1 k2 k5 k9) (hX 6 (by decide) (by decide) (by decide) (by decide))) (su_cg _ _ (hX 2 (by decide) (by decide) (by decide) (by decide)) (hX 6 (by decide) (by decide) (by decide) (by decide))), fun j => ?_, a3⟩,
    ⟨TB_su (TB_su (TB_su (TB_su (TB_su b1 3 (cN T 0) (by decide) (show 0 ≤ (1 : Int) ∧ (1 : Int) ≤ 1 by decide)) 4 (cN T 0) (by decide) (show 0 ≤ u ∧ u ≤ (20 : Int) by omega)) 5 (cN T 0) (by decide) (show 0 ≤ u ∧ u ≤ (20 : Int) by omega)) 6 (cN T 0) (by decide) (show 0 ≤ r ∧ r ≤ (50 : Int) by omega)) 2 0 (by decide) (show 0 ≤ T 2 0 + 1 ∧ T 2 0 + 1 ≤ (10 : Int) by omega), fun m hm => ?_, fun e he => ?_, ?_⟩,
    MB_su (MB_su (MB_su (MB_su (MB_su c1 3 (cN T 0) (show 0 ≤ (1 : Int) ∧ (1 : Int) ≤ 1 by decide)) 4 (cN T 0) (show 0 ≤ u ∧ u ≤ (20 : Int) by omega)) 5 (cN T 0) (show 0 ≤ u ∧ u ≤ (20 : Int) by omega)) 6 (cN T 0) (show 0 ≤ r ∧ r ≤ (50 : Int) by omega)) 2 0 (show 0 ≤ T 2 0 + 1 ∧ T 2 0 + 1 ≤ (10 : Int) by omega), fun j hj => ?_, fun j hj hz => ?_, c4, c5, c6, c7, c8, c9⟩
  · rw [t5, s3, s5]
    by_cases c : j = cN T 0
    · rw [if_pos c, if_pos c, if_pos c, if_neg (by decide)]
    · rw [if_neg c, if_neg c, if_neg c]
      exact a2 j
  · rw [sl.b]
    show bA T m (cN T 3) = (T 7 m, row T 30 10 m)
    rw [hn] at hm
    by_cases c : m = cN T 0
    · subst c
      have e7 : T 7 (cN T 0) = 0 := by rw [ht (by decide) (by decide) (by decide) (by decide)]; exact z0.2.1
      have e30 : row T 30 10 (cN T 0) = fun _ => 0 := by
        funext j
        unfold row
        by_cases d : j < 10
        · rw [if_pos d]; exact z30 j d
        · rw [if_neg d]
      rw [e7, e30]
      refine bA_new h3 (fun e he => ?_) _ (Nat.le_refl _)
      have h9 := b3 e he
      have h34 : 0 ≤ T 34 e ∧ T 34 e ≤ 9 := b1.1 34 e (by decide) (by decide) (by decide)
      exact ⟨by omega, by omega, h34.1, h9.2.2.2 _ (Nat.le_refl _) h3⟩
    · exact b2 m (by omega)
  · have h9 := b3 e he
    have e20 : su (su (su (su (su T 3 (cN T 0) 1) 4 (cN T 0) u) 5 (cN T 0) u) 6 (cN T 0) r) 2 0 (T 2 0 + 1) 2 0 = T 2 0 + 1 := by rw [su_at, if_pos ⟨rfl, rfl⟩]
    rw [hn, e20]
    exact ⟨h9.1, show T 34 e < T 2 0 + 1 by omega, show T 36 e < T 2 0 + 1 by omega, fun j hj1 hj2 => h9.2.2.2 j (by omega) hj2⟩
  · have e20 : su (su (su (su (su T 3 (cN T 0) 1) 4 (cN T 0) u) 5 (cN T 0) u) 6 (cN T 0) r) 2 0 (T 2 0 + 1) 2 0 = T 2 0 + 1 := by rw [su_at, if_pos ⟨rfl, rfl⟩]
    rw [hn, e20, mmany, mmany_lt (T := T) _ (fun j hj => by rw [t3, if_neg (by omega)]), t3, if_pos rfl, if_neg (by decide)]
    show T 31 0 + (mmany T (cN T 0) + 1) ≤ T 14 0 + (T 2 0 + 1)
    omega
  · rw [hM] at hj
    rw [s3, if_neg (by omega)]
    exact c2 j (by omega)
  · rw [s3] at hz
    by_cases c : j = cN T 0
    · rw [if_pos c] at hz
      exact absurd hz (by decide)
    · rw [if_neg c] at hz
      exact c3 j hj hz

theorem opc_film {l : Launch} (htr : l.stackTraces = false) {G : zG} {b : Nat} : OPC_film l G JJ b := by
  intro T S hC p0 hj hk h0
  obtain ⟨ad, el, rfl, R⟩ := hk
  have I := hj.2.1.1
  obtain ⟨⟨n0, n0b, n0c⟩, ⟨n1, n1b, n1c⟩, n2, n2b, n2c⟩ := jMem hj
  by_cases c : ¬ (1 ≤ p0 ∧ p0 ≤ 20)
  · refine CT.mono (c_X6_film_x1 htr R I h0 c) (fun v h9 z => z.elim) (fun E h9 z => ?_)
    obtain ⟨rfl, rfl⟩ := z
    exact Or.inl ⟨rfl, (if_pos c).symm, ad, el, rfl, R⟩
  · by_cases c2 : ¬ cN T 1 < 20
    · refine CT.mono (c_X6_film_x2 htr R I (z := p0) (by omega) c2) (fun v h9 z => z.elim) (fun E h9 z => ?_)
      obtain ⟨rfl, rfl⟩ := z
      exact Or.inr ⟨rfl, ((if_neg (by omega)).trans (if_pos (by omega))).symm, ad, el, rfl, R⟩
    · have hz : T 12 (cN T 1) = 0 := by
        rw [hj.t (k := 12) (by decide) (by decide) (by decide) (by decide)]
        exact hj.2.2.2.2.2.1 _ (by omega)
      refine CT.mono (c_X6_film_ok htr R I (z := p0) (by omega) (by omega) hz) (fun v h9 z => ?_) (fun E h9 z => z.elim)
      obtain ⟨rfl, z⟩ := z
      exact ⟨_, rfl, (if_neg (by omega)).trans (if_neg (by omega)), n1, _, z, J_film hj (by omega) (by omega)⟩

theorem opc_pass {l : Launch} (htr : l.stackTraces = false) {G : zG} {b : Nat} : OPC_pass l G JJ b := by
  intro T S hC p0 hj hk h0
  obtain ⟨ad, el, rfl, R⟩ := hk
  have I := hj.2.1.1
  obtain ⟨⟨n0, n0b, n0c⟩, ⟨n1, n1b, n1c⟩, n2, n2b, n2c⟩ := jMem hj
  have e1 := hj.m.2.2
  by_cases c : ¬ (1 ≤ p0 ∧ p0 ≤ 100)
  · refine CT.mono (c_X6_pass_x1 htr R I h0 c) (fun v h9 z => z.elim) (fun E h9 z => ?_)
    obtain ⟨rfl, rfl⟩ := z
    exact Or.inl ⟨rfl, (if_pos c).symm, ad, el, rfl, R⟩
  · by_cases c2 : ¬ T 1 0 + p0 ≤ 2000
    · refine CT.mono (c_X6_pass_x2 htr R I (w := p0) (by omega) c2) (fun v h9 z => z.elim) (fun E h9 z => ?_)
      obtain ⟨rfl, rfl⟩ := z
      exact Or.inr ⟨rfl, ((if_neg (by omega)).trans (if_pos (by omega))).symm, ad, el, rfl, R⟩
    · refine CT.mono (c_X6_pass_ok htr R I (w := p0) (by omega) (by omega)) (fun v h9 z => ?_) (fun E h9 z => z.elim)
      obtain ⟨rfl, z⟩ := z
      exact ⟨_, rfl, (if_neg (by omega)).trans (if_neg (by omega)), by rw [e1], _, z, J_pass hj (by omega) (by omega)⟩

theorem opc_join {l : Launch} (htr : l.stackTraces = false) {G : zG} {b : Nat} : OPC_join l G JJ b := by
  intro T S hC p0 p1 hj hk h0 h1
  obtain ⟨ad, el, rfl, R⟩ := hk
  have I := hj.2.1.1
  obtain ⟨⟨n0, n0b, n0c⟩, ⟨n1, n1b, n1c⟩, n2, n2b, n2c⟩ := jMem hj
  by_cases c : ¬ (1 ≤ p0 ∧ p0 ≤ 20)
  · refine CT.mono (c_X6_join_x1 htr R I h0 c) (fun v h9 z => z.elim) (fun E h9 z => ?_)
    obtain ⟨rfl, rfl⟩ := z
    exact Or.inl ⟨rfl, (if_pos (by omega)).symm, ad, el, rfl, R⟩
  · by_cases c2 : ¬ (0 ≤ p1 ∧ p1 ≤ 50)
    · refine CT.mono (c_X6_join_x2 htr R I (u := p0) (r := p1) h1 (by omega) c2) (fun v h9 z => z.elim) (fun E h9 z => ?_)
      obtain ⟨rfl, rfl⟩ := z
      exact Or.inl ⟨rfl, (if_pos (by omega)).symm, ad, el, rfl, R⟩
    · by_cases c3 : ¬ cN T 0 < 10
      · refine CT.mono (c_X6_join_x3 htr R I (u := p0) (r := p1) (by omega) (by omega) c3) (fun v h9 z => z.elim) (fun E h9 z => ?_)
        obtain ⟨rfl, rfl⟩ := z
        exact Or.inr ⟨rfl, ((if_neg (by omega)).trans (if_pos (by omega))).symm, ad, el, rfl, R⟩
      · have hJ := J_join hj (u := p0) (r := p1) (by omega) (by omega) (by omega)
        refine CT.mono (c_X6_join_ok htr R I (u := p0) (r := p1) (by omega) (by omega) (by omega) hJ.1) (fun v h9 z => ?_) (fun E h9 z => z.elim)
        obtain ⟨rfl, z⟩ := z
        exact ⟨_, rfl, (if_neg (by omega)).trans (if_neg (by omega)), n0, _, z, hJ.2⟩

theorem opc_propose {l : Launch} (htr : l.stackTraces = false) {G : zG} {b : Nat} : OPC_propose l G JJ b := by
  intro T S hC p0 p1 p2 hj hk h0 h1 h2
  obtain ⟨ad, el, rfl, R⟩ := hk
  have I := hj.2.1.1
  obtain ⟨⟨n0, n0b, n0c⟩, ⟨n1, n1b, n1c⟩, n2, n2b, n2c⟩ := jMem hj
  by_cases c : ¬ (0 ≤ p0 ∧ p0 < cN T 0)
  · refine CT.mono (c_X6_propose_x1 htr R I h0 c) (fun v h9 z => z.elim) (fun E h9 z => ?_)
    obtain ⟨rfl, rfl⟩ := z
    exact Or.inl ⟨rfl, (if_pos (by omega)).symm, ad, el, rfl, R⟩
  · by_cases c2 : ¬ (0 ≤ p1 ∧ p1 < 3)
    · obtain ⟨m, rfl⟩ : ∃ m : Nat, p0 = (m : Int) := toN (by omega)
      refine CT.mono (c_X6_propose_x2 htr R I (m := m) (by omega) h1 c2) (fun v h9 z => z.elim) (fun E h9 z => ?_)
      obtain ⟨rfl, rfl⟩ := z
      exact Or.inl ⟨rfl, (if_pos (by omega)).symm, ad, el, rfl, R⟩
    · by_cases c3 : ¬ (0 ≤ p2 ∧ p2 ≤ 9)
      · obtain ⟨m, rfl⟩ : ∃ m : Nat, p0 = (m : Int) := toN (by omega)
        refine CT.mono (c_X6_propose_x3 htr R I (m := m) (by omega) h2 (by omega) c3) (fun v h9 z => z.elim) (fun E h9 z => ?_)
        obtain ⟨rfl, rfl⟩ := z
        exact Or.inr (Or.inl ⟨rfl, ((if_neg (by omega)).trans (if_pos c3)).symm, ad, el, rfl, R⟩)
      · obtain ⟨m, rfl⟩ : ∃ m : Nat, p0 = (m : Int) := toN (by omega)
        have e3 : T 3 m = S 3 ((m : Nat) : Int).toNat := by
          rw [Int.toNat_natCast, hj.t (k := 3) (by decide) (by decide) (by decide) (by decide)]
        by_cases c4 : T 3 m = 0
        · refine CT.mono (c_X6_propose_x4 htr R I (m := m) (r := p1) (v := p2) (by omega) (by omega) (by omega) c4) (fun v h9 z => z.elim) (fun E h9 z => ?_)
          obtain ⟨rfl, rfl⟩ := z
          exact Or.inr (Or.inr ⟨rfl, ((if_neg (by omega)).trans ((if_neg (by omega)).trans (if_pos (Or.inl (by omega))))).symm, ad, el, rfl, R⟩)
        · by_cases c5 : ¬ cN T 2 < 30
          · refine CT.mono (c_X6_propose_x5 htr R I (m := m) (r := p1) (v := p2) (by omega) (by omega) (by omega) c4 c5) (fun v h9 z => z.elim) (fun E h9 z => ?_)
            obtain ⟨rfl, rfl⟩ := z
            exact Or.inr (Or.inr ⟨rfl, ((if_neg (by omega)).trans ((if_neg (by omega)).trans (if_pos (Or.inr (by omega))))).symm, ad, el, rfl, R⟩)
          · have hz : T 16 (cN T 2) = 0 ∧ T 19 (cN T 2) = 0 ∧ ∀ j, j < 10 → T 20 (10 * cN T 2 + j) = 0 := by
              rw [hj.t (k := 16) (by decide) (by decide) (by decide) (by decide), hj.t (k := 19) (by decide) (by decide) (by decide) (by decide), hj.t (k := 20) (by decide) (by decide) (by decide) (by decide)]
              exact hj.2.2.2.2.2.2.1 _ (by omega)
            refine CT.mono (c_X6_propose_ok htr R I (m := m) (r := p1) (v := p2) (by omega) (by omega) (by omega) c4 (by omega) hz) (fun v h9 z => ?_) (fun E h9 z => z.elim)
            obtain ⟨rfl, z⟩ := z
            exact ⟨_, rfl, (if_neg (by omega)).trans ((if_neg (by omega)).trans (if_neg (by omega))), n2, _, z, J_prop hj (by omega) (by omega) (by omega)⟩

