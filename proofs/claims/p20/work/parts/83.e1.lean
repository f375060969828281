/-! the tables: a leaving, a fetch -/
theorem sm_lA (S : Nat → Nat → Int) {o k : Nat} (ho : o < 10) (hk : k < 10) : sm (mlA S o k 7) 10 = sm (S 7) 10 := by
  unfold mlA
  generalize S 9 (10 * o + k) - S 9 (10 * k + o) = d
  rw [su_ne _ _ _ (show 7 ≠ 9 by decide), su_ne _ _ _ (show 7 ≠ 9 by decide), su_eq, sm_up, if_pos hk, su_eq, sm_up, if_pos ho]
  omega
theorem sm_l1 (S : Nat → Nat → Int) {o : Nat} (ho : o < 10) : ∀ n, n ≤ 10 → sm (ml1 S o n 7) 10 = sm (S 7) 10
  | 0, _ => rfl
  | n + 1, h => by rw [ml1, sm_lA _ ho (by omega), sm_l1 S ho n (by omega)]
theorem ml3_v (S : Nat → Nat → Int) {o : Nat} (ho : o < 10) (hM : mM S ≤ 10) : ∀ q p, p < q → vOK (ml3 S o q) p
  | 0, p, h => absurd h (Nat.not_lt_zero p)
  | q + 1, p, h => by
    have ih := ml3_v S ho hM q
    have hM1 : mM (ml3 S o q) = mM S := mM_c (by rw [ml3_ne _ _ (show 2 ≠ 16 by decide) (by decide) (by decide) (by decide) (by decide)])
    rw [ml3]
    by_cases c : ml3 S o q 16 q = 0
    · rw [if_pos c]
      by_cases z : p = q
      · rw [z]
        exact vOK_dec _ _
      · refine vOK_dec_ne z (vOK_c (S := ml3 S o q) (by rw [su_ne _ _ _ (show 2 ≠ 20 by decide)]) (by rw [su_ne _ _ _ (show 16 ≠ 20 by decide)]) (fun j hj => ⟨by rw [su_ne _ _ _ (show 3 ≠ 20 by decide)], ?_⟩) (ih p (by omega)))
        rw [su_at, if_neg]
        rintro ⟨-, y⟩
        rw [hM1] at hj
        exact z (by omega)
    · rw [if_neg c]
      by_cases z : p = q
      · rw [z]
        exact fun y => absurd y c
      · exact ih p (by omega)
theorem E_leave {S : Nat → Nat → Int} (C : jC (fun _ _ => False) S) (E : ES S) {w : Int} (hc : cLeave S w = 0) : ES (sLeave S w.toNat) := by
  obtain ⟨M, -⟩ := C
  obtain ⟨n2, n2b⟩ := mP_b M
  obtain ⟨n3, n3b⟩ := mM_b M
  obtain ⟨n4, n4b⟩ := mF_b M
  unfold cLeave at hc
  by_cases q1 : ¬ (0 ≤ w ∧ w ≤ S 2 0 - 1)
  · rw [if_pos q1] at hc; exact absurd hc (by decide)
  have ho : w.toNat < 10 := by omega
  generalize w.toNat = o at ho ⊢
  have e : ∀ k, k ≠ 16 → k ≠ 19 → k ≠ 21 → k ≠ 22 → k ≠ 20 → k ≠ 13 → k ≠ 7 → k ≠ 9 → k ≠ 3 → sLeave S o k = S k := fun k h16 h19 h21 h22 h20 h13 h7 h9 h3 => by
    unfold sLeave sLv2
    rw [ml3_ne _ _ h16 h19 h21 h22 h20, ml2_ne _ _ h13, ml1_ne _ _ h7 h9, su_ne _ _ _ h3]
  have e7 : sm (sLeave S o 7) 10 = sm (S 7) 10 := by
    unfold sLeave sLv2
    rw [ml3_ne _ _ (show 7 ≠ 16 by decide) (by decide) (by decide) (by decide) (by decide), ml2_ne _ _ (show 7 ≠ 13 by decide), sm_l1 _ ho _ n3b, su_ne _ _ _ (show 7 ≠ 3 by decide)]
  have e13 : ∀ x, sLeave S o 13 x = if 20 * o ≤ x ∧ x < 20 * o + 20 then 0 else S 13 x := fun x => by
    unfold sLeave sLv2
    rw [ml3_ne _ _ (show 13 ≠ 16 by decide) (by decide) (by decide) (by decide) (by decide), ml2_13, ml1_ne _ _ (show 13 ≠ 7 by decide) (by decide), su_ne _ _ _ (show 13 ≠ 3 by decide)]
  have hF : mF (sLeave S o) = mF S := mF_c (by rw [e 10 (by decide) (by decide) (by decide) (by decide) (by decide) (by decide) (by decide) (by decide) (by decide)])
  have hP : mP (sLeave S o) = mP S := mP_c (by rw [e 15 (by decide) (by decide) (by decide) (by decide) (by decide) (by decide) (by decide) (by decide) (by decide)])
  have h2 := e 2 (by decide) (by decide) (by decide) (by decide) (by decide) (by decide) (by decide) (by decide) (by decide)
  refine ⟨⟨?_, ?_⟩, fun m h => ?_, fun m f h1 h2 h3 => ?_, fun p hp => ?_, fun h => ?_⟩
  · rw [e7, e 14 (by decide) (by decide) (by decide) (by decide) (by decide) (by decide) (by decide) (by decide) (by decide)]
    exact E.1.1
  · rw [e 8 (by decide) (by decide) (by decide) (by decide) (by decide) (by decide) (by decide) (by decide) (by decide), e 12 (by decide) (by decide) (by decide) (by decide) (by decide) (by decide) (by decide) (by decide) (by decide)]
    exact E.1.2
  · rw [hF, e 6 (by decide) (by decide) (by decide) (by decide) (by decide) (by decide) (by decide) (by decide) (by decide)]
    refine Int.le_trans (mused_le (S := S) (fun j => (M 11 j (by decide)).1) _ (fun j _ => ⟨?_, by rw [e 11 (by decide) (by decide) (by decide) (by decide) (by decide) (by decide) (by decide) (by decide) (by decide)]⟩)) (E.2.1 m h)
    rw [e13]
    split
    · exact Or.inl rfl
    · exact Or.inr rfl
  · rw [hF] at h2
    rw [e13, E.2.2.1 m f h1 h2 h3]
    split <;> rfl
  · rw [hP] at hp
    refine ml3_v (sLv2 S o) ho ?_ (mP S) p hp
    have : mM (sLv2 S o) = mM S := mM_c (by
      unfold sLv2
      rw [ml2_ne _ _ (show 2 ≠ 13 by decide), ml1_ne _ _ (show 2 ≠ 7 by decide) (by decide), su_ne _ _ _ (show 2 ≠ 3 by decide)])
    omega
  · rw [e 15 (by decide) (by decide) (by decide) (by decide) (by decide) (by decide) (by decide) (by decide) (by decide)] at h
    rw [h2]
    exact E.2.2.2.2 h
theorem mbl_ne (o : Nat) {k : Nat} (h5 : k ≠ 5) (h9 : k ≠ 9) : ∀ (q : Nat) (S : Nat → Nat → Int) (r : Int), mbl o q S r k = S k
  | 0, _, _ => rfl
  | q + 1, S, r => by
    rw [mbl_succ]
    split
    · rw [mbl_ne o h5 h9 q, mowe_ne _ _ _ _ h9, su_ne _ _ _ h5]
    · rfl
theorem fS1_ne (S : Nat → Nat → Int) (o f : Nat) {k : Nat} (h5 : k ≠ 5) (h7 : k ≠ 7) (h9 : k ≠ 9) : fS1 S o f k = S k := by
  unfold fS1
  split
  · rw [su_ne _ _ _ h7, su_ne _ _ _ h5]
  · split
    · unfold mbring
      rw [mbl_ne o h5 h9, su_ne _ _ _ h5]
    · rfl
theorem fS2_ne (S : Nat → Nat → Int) (o f : Nat) (p : Int) {k : Nat} (h7 : k ≠ 7) (h12 : k ≠ 12) (h8 : k ≠ 8) (h14 : k ≠ 14) : fS2 S o f p k = S k := by
  unfold fS2
  rw [su_ne _ _ _ h14, su_ne _ _ _ h8, su_ne _ _ _ h12, su_ne _ _ _ h7]
theorem mval_b {S : Nat → Nat → Int} (M : MB S) (r : Int) : 0 ≤ mval S r ∧ mval S r ≤ 9 := by
  unfold mval
  split
  · exact M 18 _ (by decide)
  · split
    · decide
    · split <;> decide
theorem mul_b {a b : Int} (h1 : 0 ≤ a ∧ a ≤ 20) (h2 : 0 ≤ b ∧ b ≤ 9) : 0 ≤ a * b ∧ a * b ≤ 180 :=
  ⟨Int.mul_nonneg h1.1 h2.1, Int.le_trans (Int.mul_le_mul_of_nonneg_right h1.2 h2.1) (by omega)⟩
/-- what an entry does to the sum of all accounts -/
theorem fS1_7 {S : Nat → Nat → Int} (M : MB S) {o f : Nat} : sm (S 7) 10 - 180 ≤ sm (fS1 S o f 7) 10 - fPays S o f ∧ sm (fS1 S o f 7) 10 - fPays S o f ≤ sm (S 7) 10 := by
  have hp := mul_b (a := S 11 f) (b := mprice S) (M 11 f (by decide)) (mval_b M _)
  have hb := mmost_b S (o : Int) (f : Int) (mM S)
  have hM := (mM_b M).2
  by_cases c : ¬ fFrom S o f = -1 ∧ S 11 f ≤ S 5 (fFrom S o f).toNat
  · have hfr : (fFrom S o f).toNat < 10 := by
      unfold fFrom at c ⊢
      split <;> omega
    unfold fS1
    rw [if_pos c, su_eq, sm_up, if_pos hfr, su_ne _ _ _ (show 7 ≠ 5 by decide)]
    omega
  · by_cases d : S 13 (20 * o + f) = 0
    · have e7 : fS1 S o f 7 = S 7 := by
        unfold fS1 mbring
        rw [if_neg c, if_pos d, mbl_ne o (by decide) (by decide), su_ne _ _ _ (show 7 ≠ 5 by decide)]
      have ep : fPays S o f = S 11 f * mprice S := by
        unfold fPays
        rw [if_neg (fun z => z d), if_neg c]
      rw [e7, ep]
      omega
    · have e7 : fS1 S o f 7 = S 7 := by
        unfold fS1
        rw [if_neg c, if_neg d]
      have ep : fPays S o f = 0 := by
        unfold fPays
        rw [if_pos d]
      rw [e7, ep]
      omega
theorem mleast_hit (S : Nat → Nat → Int) (o : Nat) (w : Int) (m : Nat) : ∀ n : Nat, mleast S o w m n = -1 ∨ ∃ l : Nat, mleast S o w m n = (l : Int) ∧ l < n ∧ ¬ S 13 (20 * o + l) = 0 ∧ m / 2 ^ l % 2 = 0
  | 0 => Or.inl rfl
  | n + 1 => by
    rw [mleast]
    split
    · rename_i c
      exact Or.inr ⟨n, rfl, Nat.lt_succ_self n, c.1.1, c.1.2.1⟩
    · rcases mleast_hit S o w m n with z | ⟨l, a, b, c, d⟩
      · exact Or.inl z
      · exact Or.inr ⟨l, a, Nat.lt_succ_of_lt b, c, d⟩
theorem mpo_fr {Y : Nat → Nat → Int} (M : MB Y) (o f : Nat) : ∀ (q : Nat) (fr : Int) (k : Nat), fr = Y 6 o - mused (mclr Y o k (mF Y)) o (mF Y) → (mpo Y o f q fr k).1 = Y 6 o - mused (mclr Y o (mpo Y o f q fr k).2 (mF Y)) o (mF Y)
  | 0, fr, k, h => h
  | q + 1, fr, k, h => by
    rw [mpo]
    split
    · rename_i c
      rcases mleast_hit Y o (Y 12 f) k (mF Y) with z | ⟨l, h1, h2, h3, h4⟩
      · exact absurd z c.2
      · rw [h1, Int.toNat_natCast]
        refine mpo_fr M o f q _ _ ?_
        have e13 : ¬ mclr Y o k (mF Y) 13 (20 * o + l) = 0 := by
          rw [mclr_BX M, BX_at Y k h2, if_pos h4]
          exact h3
        have e : mused (mclr Y o (k ||| 2 ^ l) (mF Y)) o (mF Y) = mused (su (mclr Y o k (mF Y)) 13 (20 * o + l) 0) o (mF Y) := mused_c _ (fun j _ => ⟨by
          rw [mclr_BX M, BX_or Y k h2, su_at, mclr_BX M]
          by_cases z : 20 * o + j = 20 * o + l
          · rw [if_pos z, if_pos ⟨rfl, z⟩]
          · rw [if_neg z, if_neg (fun y => z y.2)], by rw [su_ne _ _ _ (show 11 ≠ 13 by decide), mclr_ne _ _ _ (show 11 ≠ 13 by decide), mclr_ne _ _ _ (show 11 ≠ 13 by decide)]⟩)
        rw [e, mused_out _ _ _ e13, if_pos h2, mclr_ne _ _ _ (show 11 ≠ 13 by decide), h]
        omega
    · exact h
/-- a film is put into a cache -/
theorem mput_E {Y : Nat → Nat → Int} (M : MB Y) {o f : Nat} (ho : o < 10) (hf : f < mF Y) (hE : ∀ m, m < 10 → mused Y m (mF Y) ≤ Y 6 m) (hz : ∀ m g, m < 10 → mF Y ≤ g → g < 20 → Y 13 (20 * m + g) = 0) : (∀ m, m < 10 → mused (mput Y o f) m (mF Y) ≤ Y 6 m) ∧ ∀ m g, m < 10 → mF Y ≤ g → g < 20 → mput Y o f 13 (20 * m + g) = 0 := by
  have hF := (mF_b M).2
  have h11 : ∀ j, 0 ≤ Y 11 j := fun j => (M 11 j (by decide)).1
  have h0 : mused (mclr Y o 0 (mF Y)) o (mF Y) = mused Y o (mF Y) := mused_c _ (fun j hj => ⟨by
    rw [mclr_BX M, BX_at Y 0 hj, if_pos (by rw [Nat.zero_div])], by rw [mclr_ne _ _ _ (show 11 ≠ 13 by decide)]⟩)
  have hfr := mpo_fr M o f 20 (Y 6 o - mused Y o (mF Y)) 0 (by rw [h0])
  unfold mput
  split
  · rename_i c
    revert hfr c
    generalize mpo Y o f 20 (Y 6 o - mused Y o (mF Y)) 0 = rk
    intro c hfr
    have h11' : ∀ j, mclr Y o rk.2 (mF Y) 11 j = Y 11 j := fun j => by rw [mclr_ne _ _ _ (show 11 ≠ 13 by decide)]
    refine ⟨fun m hm => ?_, fun m g hm h1 h2 => ?_⟩
    · by_cases z : m = o
      · subst z
        have hi := mused_in (mclr Y m rk.2 (mF Y)) m f (fun j => by rw [h11']; exact h11 j) (mF Y)
        rw [if_pos hf, h11'] at hi
        omega
      · rw [mused_c (S := Y) _ (fun j hj => ⟨?_, ?_⟩)]
        · exact hE m hm
        · rw [su_at, if_neg (fun y => by omega), mclr_BX M]
          unfold BX
          rw [if_neg (fun y => by omega)]
        · rw [su_ne _ _ _ (show 11 ≠ 13 by decide)]
          exact h11' j
    · rw [su_at, if_neg (fun y => by omega), mclr_BX M]
      unfold BX
      rw [hz m g hm h1 h2]
      split <;> rfl
  · exact ⟨hE, hz⟩
theorem E_fetch {S : Nat → Nat → Int} (C : jC (fun _ _ => False) S) (E : ES S) {w z : Int} (hc : cFetch S w z = 0) (M1 : MB (sFetch S w.toNat z.toNat)) : ES (sFetch S w.toNat z.toNat) := by
  obtain ⟨M, -⟩ := C
  obtain ⟨n2, n2b⟩ := mP_b M
  obtain ⟨n3, n3b⟩ := mM_b M
  obtain ⟨n4, n4b⟩ := mF_b M
  unfold cFetch at hc
  by_cases q1 : ¬ ((0 ≤ w ∧ w ≤ S 2 0 - 1) ∧ 0 ≤ z ∧ z ≤ S 10 0 - 1)
  · rw [if_pos q1] at hc; exact absurd hc (by decide)
  have ho : w.toNat < 10 := by omega
  have hf : z.toNat < mF S := by omega
  clear hc q1
  generalize w.toNat = o at ho M1 ⊢
  generalize z.toNat = f at hf M1 ⊢
  generalize hY : fS2 (fS1 S o f) o f (fPays S o f) = Y
  have eY : ∀ k, k ≠ 5 → k ≠ 7 → k ≠ 9 → k ≠ 12 → k ≠ 8 → k ≠ 14 → Y k = S k := fun k h5 h7 h9 h12 h8 h14 => by
    rw [← hY, fS2_ne _ _ _ _ h7 h12 h8 h14, fS1_ne _ _ _ h5 h7 h9]
  have y14 : Y 14 0 = S 14 0 + 1 := by
    rw [← hY]
    unfold fS2
    rw [su_at, if_pos ⟨rfl, rfl⟩, fS1_ne _ _ _ (show 14 ≠ 5 by decide) (by decide) (by decide)]
  have y7 : sm (Y 7) 10 = sm (fS1 S o f 7) 10 - fPays S o f := by
    rw [← hY]
    unfold fS2
    rw [su_ne _ _ _ (show 7 ≠ 14 by decide), su_ne _ _ _ (show 7 ≠ 8 by decide), su_ne _ _ _ (show 7 ≠ 12 by decide), su_eq, sm_up, if_pos ho]
    omega
  have y8 : sm (Y 8) 10 = sm (S 8) 10 + 1 := by
    rw [← hY]
    unfold fS2
    rw [su_ne _ _ _ (show 8 ≠ 14 by decide), su_eq, sm_up, if_pos ho, su_ne _ _ _ (show 8 ≠ 12 by decide), su_ne _ _ _ (show 8 ≠ 7 by decide), fS1_ne _ _ _ (show 8 ≠ 5 by decide) (by decide) (by decide)]
    omega
  have y12 : sm (Y 12) 20 = sm (S 12) 20 + 1 := by
    rw [← hY]
    unfold fS2
    rw [su_ne _ _ _ (show 12 ≠ 14 by decide), su_ne _ _ _ (show 12 ≠ 8 by decide), su_eq, sm_up, if_pos (show f < 20 by omega), su_ne _ _ _ (show 12 ≠ 7 by decide), fS1_ne _ _ _ (show 12 ≠ 5 by decide) (by decide) (by decide)]
    omega
  have h7 := fS1_7 M (o := o) (f := f)
  have hF : mF Y = mF S := mF_c (by rw [eY 10 (by decide) (by decide) (by decide) (by decide) (by decide) (by decide)])
  have y13 := eY 13 (by decide) (by decide) (by decide) (by decide) (by decide) (by decide)
  have y6 := eY 6 (by decide) (by decide) (by decide) (by decide) (by decide) (by decide)
  have hYE : ∀ m, m < 10 → mused Y m (mF Y) ≤ Y 6 m := fun m hm => by
    rw [hF, y6, mused_c (S := S) _ (fun j _ => ⟨by rw [y13], by rw [eY 11 (by decide) (by decide) (by decide) (by decide) (by decide) (by decide)]⟩)]
    exact E.2.1 m hm
  have hYz : ∀ m g, m < 10 → mF Y ≤ g → g < 20 → Y 13 (20 * m + g) = 0 := fun m g h1 h2 h3 => by
    rw [hF] at h2
    rw [y13]
    exact E.2.2.1 m g h1 h2 h3
  have key : ∃ Z : Nat → Nat → Int, sFetch S o f = Z ∧ (∀ k, k ≠ 13 → Z k = Y k) ∧ (∀ m, m < 10 → mused Z m (mF Y) ≤ Y 6 m) ∧ ∀ m g, m < 10 → mF Y ≤ g → g < 20 → Z 13 (20 * m + g) = 0 := by
    by_cases c : S 13 (20 * o + f) = 0 ∧ ¬ (¬ fFrom S o f = -1 ∧ S 11 f ≤ S 5 (fFrom S o f).toNat)
    · have es : sFetch S o f = mput Y o f := by
        unfold sFetch
        rw [if_pos c, hY]
      have MY : MB Y := fun k j hk => by
        by_cases d : k = 13
        · subst d
          rw [y13]
          exact M 13 j (by decide)
        · have := M1 k j hk
          rw [es, mput_ne _ _ _ d] at this
          exact this
      exact ⟨_, es, fun k hk => mput_ne _ _ _ hk, mput_E MY ho (by rw [hF]; exact hf) hYE hYz⟩
    · refine ⟨Y, ?_, fun _ _ => rfl, hYE, hYz⟩
      unfold sFetch
      rw [if_neg c, hY]
  obtain ⟨Z, eZ, z1, z2, z3⟩ := key
  rw [eZ]
  have eZ : ∀ k, k ≠ 13 → k ≠ 5 → k ≠ 7 → k ≠ 9 → k ≠ 12 → k ≠ 8 → k ≠ 14 → Z k = S k := fun k h13 h5 h7 h9 h12 h8 h14 => (z1 k h13).trans (eY k h5 h7 h9 h12 h8 h14)
  have hFZ : mF Z = mF Y := mF_c (by rw [z1 10 (by decide)])
  have hPZ : mP Z = mP S := mP_c (by rw [eZ 15 (by decide) (by decide) (by decide) (by decide) (by decide) (by decide) (by decide)])
  refine ⟨⟨?_, ?_⟩, fun m h => ?_, fun m g h1 h2 h3 => ?_, fun p hp => ?_, fun h => ?_⟩
  · rw [z1 7 (by decide), z1 14 (by decide), y7, y14]
    have := E.1.1
    omega
  · rw [z1 8 (by decide), z1 12 (by decide), y8, y12, E.1.2]
  · rw [hFZ, z1 6 (by decide)]
    exact z2 m h
  · rw [hFZ] at h2
    exact z3 m g h1 h2 h3
  · rw [hPZ] at hp
    exact vOK_c (by rw [eZ 2 (by decide) (by decide) (by decide) (by decide) (by decide) (by decide) (by decide)]) (by rw [eZ 16 (by decide) (by decide) (by decide) (by decide) (by decide) (by decide) (by decide)]) (fun j _ => ⟨by rw [eZ 3 (by decide) (by decide) (by decide) (by decide) (by decide) (by decide) (by decide)], by rw [eZ 20 (by decide) (by decide) (by decide) (by decide) (by decide) (by decide) (by decide)]⟩) (E.2.2.2.1 p hp)
  · rw [eZ 15 (by decide) (by decide) (by decide) (by decide) (by decide) (by decide) (by decide)] at h
    rw [eZ 2 (by decide) (by decide) (by decide) (by decide) (by decide) (by decide) (by decide)]
    exact E.2.2.2.2 h
