/-! fetch -/
theorem opc_fetch {l : Launch} (htr : l.stackTraces = false) {G : zG} {b : Nat} : OPC_fetch l G JJ b := by
  intro T S hC p0 p1 hj hk h0 h1
  obtain ⟨ad, el, rfl, R⟩ := hk
  have I := hj.2.1.1
  have ht : ∀ {k : Nat}, 1 ≤ k → k ≤ 20 → k ≠ 5 → k ≠ 9 → T k = S k := fun a b c d => hj.t a b c d
  obtain ⟨⟨n0, n0b, n0c⟩, ⟨n1, n1b, n1c⟩, -⟩ := jMem hj
  by_cases c : ¬ (0 ≤ p1 ∧ p1 < cN T 1)
  · refine CT.mono (c_X6_fetch_x1 htr R I h1 c) (fun v h9 z => z.elim) (fun E h9 z => ?_)
    obtain ⟨rfl, rfl⟩ := z
    exact Or.inl ⟨rfl, (if_pos (by omega)).symm, ad, el, rfl, R⟩
  · obtain ⟨f, rfl⟩ : ∃ f : Nat, p1 = (f : Int) := toN (by omega)
    have hf : f < cN T 1 := by omega
    by_cases c2 : ¬ (0 ≤ p0 ∧ p0 < cN T 0)
    · refine CT.mono (c_X6_fetch_x2 htr R I hf h0 c2) (fun v h9 z => z.elim) (fun E h9 z => ?_)
      obtain ⟨rfl, rfl⟩ := z
      exact Or.inl ⟨rfl, (if_pos (by omega)).symm, ad, el, rfl, R⟩
    · obtain ⟨m, rfl⟩ : ∃ m : Nat, p0 = (m : Int) := toN (by omega)
      have hm : m < cN T 0 := by omega
      have t3 : T 3 m = S 3 m := congrFun (ht (by decide) (by decide) (by decide) (by decide)) m
      have t14 : T 14 0 = S 14 0 := congrFun (ht (by decide) (by decide) (by decide) (by decide)) 0
      have t11 : T 11 f = S 11 f := congrFun (ht (by decide) (by decide) (by decide) (by decide)) f
      have t13 : T 13 (20 * m + f) = S 13 (20 * m + f) := congrFun (ht (by decide) (by decide) (by decide) (by decide)) _
      have tm : ((m : Nat) : Int).toNat = m := Int.toNat_natCast m
      have tf : ((f : Nat) : Int).toNat = f := Int.toNat_natCast f
      have r1 : ¬ ¬ ((0 ≤ (m : Int) ∧ (m : Int) ≤ S 2 0 - 1) ∧ 0 ≤ (f : Int) ∧ (f : Int) ≤ S 10 0 - 1) := fun z => z (by omega)
      by_cases c3 : T 3 m = 0
      · refine CT.mono (c_X6_fetch_x3 htr R I hm hf c3) (fun v h9 z => z.elim) (fun E h9 z => ?_)
        obtain ⟨rfl, rfl⟩ := z
        refine Or.inr ⟨rfl, ?_, ad, el, rfl, R⟩
        unfold cFetch
        rw [if_neg r1, tm, if_pos (fun z => z.1 (by rw [← t3]; exact c3))]
      · by_cases c4 : ¬ T 14 0 < 300
        · refine CT.mono (c_X6_fetch_x4 htr R I hm hf c3 c4) (fun v h9 z => z.elim) (fun E h9 z => ?_)
          obtain ⟨rfl, rfl⟩ := z
          refine Or.inr ⟨rfl, ?_, ad, el, rfl, R⟩
          unfold cFetch
          rw [if_neg r1, tm, if_pos (fun z => c4 (by rw [t14]; exact z.2))]
        · have h14 : T 14 0 < 300 := by omega
          have r2 : ¬ ¬ (¬ S 3 m = 0 ∧ S 14 0 < 300) := fun z => z ⟨by rw [← t3]; exact c3, by rw [← t14]; exact h14⟩
          have hz : 0 ≤ T 11 f ∧ T 11 f ≤ 20 := I.1 11 f (by decide) (by decide) (by decide)
          have l8 : S 8 m ≤ S 14 0 := hj.m.1.2.2.2 m
          have l12 : S 12 f ≤ S 14 0 := hj.m.1.2.2.1 f
          have t8 : T 8 m = S 8 m := congrFun (ht (by decide) (by decide) (by decide) (by decide)) m
          have t12 : T 12 f = S 12 f := congrFun (ht (by decide) (by decide) (by decide) (by decide)) f
          have e2 : T 2 0 = S 2 0 := congrFun (ht (by decide) (by decide) (by decide) (by decide)) 0
          have b5 : ∀ j, 0 ≤ T 5 j ∧ T 5 j ≤ 20 := fun j => I.1 5 j (by decide) (by decide) (by decide)
          have hB : ∀ {w : Nat} {hd : Int} {g : Nat → Int}, w ≤ 2 → (-1 ≤ hd ∧ hd < T 2 0) → (∀ j, 0 ≤ g j ∧ g j ≤ T 5 j) → (∀ j, cN T 0 ≤ j → g j = 0) → T 31 0 < 310 := fun hw hhd hg1 hgM => (jB_ft hj.2.1 (f := f) hm hw hhd hg1 hgM h14 (by omega) (by omega)).1
          by_cases c5 : T 13 (20 * m + f) = 0
          · have c5S : S 13 (20 * m + f) = 0 := by rw [← t13]; exact c5
            have hfrom := e_from hj hm c3 c5S
            by_cases c6 : ∃ l : Nat, cMF T (fun _ => (0 : Int)) (f : Int) (cN T 0) = (l : Int) ∧ T 11 f ≤ T 5 l
            · obtain ⟨l, hl, hzl⟩ := c6
              rcases hfrom with ⟨l2, k1, k2, k3, k4, k5, k6⟩ | ⟨k1, -⟩
              · have : l2 = l := by omega
                subst this
                have hJ := J_ft1 hj hm hf c3 h14 c5S k2 k3 k4 k5 k6 hzl
                have hg1 : ∀ j, 0 ≤ va_up (fun _ => (0 : Int)) l2 (0 + T 11 f) j ∧ va_up (fun _ => (0 : Int)) l2 (0 + T 11 f) j ≤ T 5 j := fun j => by
                  have := b5 j
                  show 0 ≤ (if j = l2 then 0 + T 11 f else 0) ∧ (if j = l2 then 0 + T 11 f else 0) ≤ T 5 j
                  by_cases q : j = l2
                  · rw [if_pos q, q]
                    omega
                  · rw [if_neg q]
                    omega
                have hgM : ∀ j, cN T 0 ≤ j → va_up (fun _ => (0 : Int)) l2 (0 + T 11 f) j = 0 := fun j hj => if_neg (by omega)
                refine CT.mono (c_X6_fetch_ok htr R I hm hf (w := 1) (hd := (l2 : Int)) (g := va_up (fun _ => (0 : Int)) l2 (0 + T 11 f)) c3 h14 (by omega) (by omega) (hB (w := 1) (hd := (l2 : Int)) (by decide) ⟨by omega, by omega⟩ hg1 hgM) (by decide) ⟨by omega, by omega⟩ hg1 (fun j hj => hgM j (by omega)) (c_X6_planFetch_ok1 htr R I hm (by omega) hz c5 hl hzl)) (fun v h9 z => ?_) (fun E h9 z => z.elim)
                obtain ⟨rfl, z⟩ := z
                refine ⟨_, rfl, ?_, ?_, _, z, by rw [tm, tf]; exact hJ.2⟩
                · unfold cFetch
                  rw [if_neg r1, tm, tf, if_neg r2, if_neg]
                  rw [k3, Int.toNat_natCast l2]
                  exact fun z => z.2.1 ⟨by omega, by omega⟩
                · rw [cFt_cost, tm, tf]
                  exact hJ.1
              · exfalso
                omega
            · have hno : ¬ (¬ fFrom S m f = -1 ∧ S 11 f ≤ S 5 (fFrom S m f).toNat) := by
                rintro ⟨z1, z2⟩
                rcases hfrom with ⟨l2, k1, k2, k3, k4, k5, k6⟩ | ⟨k1, k2⟩
                · rw [k3, Int.toNat_natCast] at z2
                  exact c6 ⟨l2, k1, by omega⟩
                · have := hj.2.2.2.2.2.2.2.2.2.2 f (by omega)
                  rcases k2 with k2 | k2
                  · exact z1 k2
                  · omega
              have hnl : ∀ l : Nat, cMF T (fun _ => (0 : Int)) (f : Int) (cN T 0) = (l : Int) → T 5 l < T 11 f := fun l hl => by
                have : ¬ T 11 f ≤ T 5 l := fun z => c6 ⟨l, hl, z⟩
                omega
              have hall := e_all (T := T) (S := S) hj.1.2.1 (cN T 0)
              by_cases c7 : T 11 f ≤ cA T (cN T 0)
              · obtain ⟨hg1, hgM, hJ1, hJ2⟩ := J_ft2 hj hm hf c3 h14 c5S hno c7
                refine CT.mono (c_X6_fetch_ok htr R I hm hf (w := 2) (hd := -1) (g := pO0 T m (T 11 f)) c3 h14 (by omega) (by omega) (hB (w := 2) (hd := -1) (by decide) ⟨by omega, by omega⟩ hg1 hgM) (by decide) ⟨by omega, by omega⟩ hg1 (fun j hj => hgM j (by omega)) (c_X6_planFetch_ok2 htr R I hm (by omega) hz c5 hnl c7)) (fun v h9 z => ?_) (fun E h9 z => z.elim)
                obtain ⟨rfl, z⟩ := z
                refine ⟨_, rfl, ?_, ?_, _, z, by rw [tm, tf]; exact hJ2⟩
                · unfold cFetch
                  rw [if_neg r1, tm, tf, if_neg r2, if_neg]
                  rw [n0c]
                  exact fun z => by have := z.2.2; omega
                · rw [cFt_cost, tm, tf]
                  exact hJ1
              · refine CT.mono (c_X6_fetch_x5 htr R I hm hf c3 h14 c5 hnl c7) (fun v h9 z => z.elim) (fun E h9 z => ?_)
                obtain ⟨rfl, z⟩ := z
                refine Or.inr ⟨rfl, ?_, ad, el, rfl, R.keep (fun q hq => z q (R.own hq))⟩
                unfold cFetch
                rw [if_neg r1, tm, tf, if_neg r2, if_pos]
                rw [n0c]
                exact ⟨c5S, hno, by omega⟩
          · have c5S : ¬ S 13 (20 * m + f) = 0 := by rw [← t13]; exact c5
            have hJ := J_ft0 hj hm hf c3 h14 c5S
            have hg1 : ∀ j, 0 ≤ (fun _ : Nat => (0 : Int)) j ∧ (fun _ : Nat => (0 : Int)) j ≤ T 5 j := fun j => ⟨Int.le_refl _, (b5 j).1⟩
            refine CT.mono (c_X6_fetch_ok htr R I hm hf (w := 0) (hd := -1) (g := fun _ => (0 : Int)) c3 h14 (by omega) (by omega) (hB (w := 0) (hd := -1) (g := fun _ => (0 : Int)) (by decide) ⟨by omega, by omega⟩ hg1 (fun _ _ => rfl)) (by decide) ⟨by omega, by omega⟩ hg1 (fun _ _ => rfl) (c_X6_planFetch_ok0 htr R I hm (by omega) hz c5)) (fun v h9 z => ?_) (fun E h9 z => z.elim)
            obtain ⟨rfl, z⟩ := z
            refine ⟨_, rfl, ?_, ?_, _, z, by rw [tm, tf]; exact hJ.2⟩
            · unfold cFetch
              rw [if_neg r1, tm, tf, if_neg r2, if_neg (fun z => c5S z.1)]
            · rw [cFt_cost, tm, tf]
              exact hJ.1
