/-! the methods that only tell -/
theorem toN {p : Int} (h : 0 ≤ p) : ∃ n : Nat, p = (n : Int) := ⟨p.toNat, by omega⟩
theorem jMem {ex : Nat → Nat → Prop} {T S : Nat → Nat → Int} (J : JX ex T S) : (((cN T 0 : Nat) : Int) = S 2 0 ∧ cN T 0 ≤ 10 ∧ mM S = cN T 0) ∧ (((cN T 1 : Nat) : Int) = S 10 0 ∧ cN T 1 ≤ 20 ∧ mF S = cN T 1) ∧ (((cN T 2 : Nat) : Int) = S 15 0 ∧ cN T 2 ≤ 30 ∧ mP S = cN T 2) := by
  have h2 := congrFun (J.t (k := 2) (by decide) (by decide) (by decide) (by decide)) 0
  have h10 := congrFun (J.t (k := 10) (by decide) (by decide) (by decide) (by decide)) 0
  have h15 := congrFun (J.t (k := 15) (by decide) (by decide) (by decide) (by decide)) 0
  have n := J.2.1.1.n
  have e := J.n
  exact ⟨⟨n.1.2.trans h2, n.1.1, e.1.symm⟩, ⟨n.2.1.2.trans h10, n.2.1.1, e.2.1.symm⟩, ⟨n.2.2.1.2.trans h15, n.2.2.1.1, e.2.2.symm⟩⟩
theorem e_owes {ex : Nat → Nat → Prop} {T S : Nat → Nat → Int} (J : JX ex T S) {i j : Nat} (hi : i < 10) (hj : j < 10) : (if T 30 (10 * i + j) < 0 then 0 else T 30 (10 * i + j)) = S 9 (10 * i + j) ∧ -10000 ≤ T 30 (10 * i + j) ∧ T 30 (10 * i + j) ≤ 10000 := by
  have h1 := J.1.2.2 i j hi hj
  have h2 := J.2.2.2.2.2.2.2.2.1 i j hi hj
  have h3 : 0 ≤ S 9 (10 * i + j) ∧ S 9 (10 * i + j) ≤ 1000000 := J.2.2.1 9 _ (by decide)
  have h4 : 0 ≤ S 9 (10 * j + i) ∧ S 9 (10 * j + i) ≤ 1000000 := J.2.2.1 9 _ (by decide)
  have h5 := J.m.1.2.1
  have h6 := h5 (10 * i + j)
  have h7 := h5 (10 * j + i)
  rw [h1]
  refine ⟨?_, by omega, by omega⟩
  split <;> omega
theorem e_anew {ex : Nat → Nat → Prop} {T S : Nat → Nat → Int} (J : JX ex T S) {m : Nat} (hm : m < cN T 0) : (bA T m (cN T 3)).1 = S 7 m ∧ ∀ j, j < 10 → (bA T m (cN T 3)).2 j = T 30 (10 * m + j) := by
  rw [J.2.1.2.1 m hm]
  exact ⟨congrFun (J.t (k := 7) (by decide) (by decide) (by decide) (by decide)) m, fun j hj => row_at T 30 10 m hj⟩

theorem opc_rule {l : Launch} (htr : l.stackTraces = false) {G : zG} {b : Nat} : OPC_rule l G JJ b := by
  intro T S hC p0 hj hk h0
  obtain ⟨ad, el, rfl, R⟩ := hk
  have I := hj.2.1.1
  obtain ⟨⟨n0, n0b, n0c⟩, ⟨n1, n1b, n1c⟩, n2, n2b, n2c⟩ := jMem hj
  by_cases c : 0 ≤ p0 ∧ p0 < 3
  · refine CT.mono (c_X6_rule_ok htr R I c) (fun v h9 z => ?_) (fun E h9 z => z.elim)
    obtain ⟨rfl, z⟩ := z
    subst z
    exact ⟨_, rfl, if_pos (by omega), e_val hj c, T, ⟨ad, el, rfl, R⟩, hj⟩
  · refine CT.mono (c_X6_rule_x1 htr R I h0 c) (fun v h9 z => z.elim) (fun E h9 z => ?_)
    obtain ⟨rfl, rfl⟩ := z
    exact ⟨rfl, (if_neg (by omega)).symm, ad, el, rfl, R⟩

theorem opc_worth {l : Launch} (htr : l.stackTraces = false) {G : zG} {b : Nat} : OPC_worth l G JJ b := by
  intro T S hC p0 hj hk h0
  obtain ⟨ad, el, rfl, R⟩ := hk
  have I := hj.2.1.1
  obtain ⟨⟨n0, n0b, n0c⟩, ⟨n1, n1b, n1c⟩, n2, n2b, n2c⟩ := jMem hj
  by_cases c : 0 ≤ p0 ∧ p0 < cN T 1
  · obtain ⟨f, rfl⟩ := toN c.1
    refine CT.mono (c_X6_worth_ok htr R I (f := f) (by omega)) (fun v h9 z => ?_) (fun E h9 z => z.elim)
    obtain ⟨rfl, z⟩ := z
    subst z
    exact ⟨_, rfl, if_pos (by omega), congrFun (hj.t (k := 12) (by decide) (by decide) (by decide) (by decide)) _, T, ⟨ad, el, rfl, R⟩, hj⟩
  · refine CT.mono (c_X6_worth_x1 htr R I h0 c) (fun v h9 z => z.elim) (fun E h9 z => ?_)
    obtain ⟨rfl, rfl⟩ := z
    exact ⟨rfl, (if_neg (by omega)).symm, ad, el, rfl, R⟩

theorem opc_has {l : Launch} (htr : l.stackTraces = false) {G : zG} {b : Nat} : OPC_has l G JJ b := by
  intro T S hC p0 p1 hj hk h0 h1
  obtain ⟨ad, el, rfl, R⟩ := hk
  have I := hj.2.1.1
  obtain ⟨⟨n0, n0b, n0c⟩, ⟨n1, n1b, n1c⟩, n2, n2b, n2c⟩ := jMem hj
  by_cases c : ¬ (0 ≤ p0 ∧ p0 < cN T 0)
  · refine CT.mono (c_X6_has_x1 htr R I h0 c) (fun v h9 z => z.elim) (fun E h9 z => ?_)
    obtain ⟨rfl, rfl⟩ := z
    exact ⟨rfl, (if_neg (by omega)).symm, ad, el, rfl, R⟩
  · by_cases c2 : ¬ (0 ≤ p1 ∧ p1 < cN T 1)
    · obtain ⟨m, rfl⟩ : ∃ m : Nat, p0 = (m : Int) := toN (by omega)
      refine CT.mono (c_X6_has_x2 htr R I (m := m) (by omega) h1 c2) (fun v h9 z => z.elim) (fun E h9 z => ?_)
      obtain ⟨rfl, rfl⟩ := z
      exact ⟨rfl, (if_neg (by omega)).symm, ad, el, rfl, R⟩
    · obtain ⟨m, rfl⟩ : ∃ m : Nat, p0 = (m : Int) := toN (by omega)
      obtain ⟨f, rfl⟩ : ∃ f : Nat, p1 = (f : Int) := toN (by omega)
      have h13 : 0 ≤ S 13 (20 * m + f) ∧ S 13 (20 * m + f) ≤ 1 := hj.2.2.1 13 _ (by decide)
      have e13 : T 13 (20 * m + f) = (if S 13 (20 * ((m : Nat) : Int).toNat + ((f : Nat) : Int).toNat) = 0 then 0 else 1) := by
        rw [Int.toNat_natCast, Int.toNat_natCast, hj.t (k := 13) (by decide) (by decide) (by decide) (by decide)]
        split <;> omega
      refine CT.mono (c_X6_has_ok htr R I (m := m) (f := f) (by omega) (by omega)) (fun v h9 z => ?_) (fun E h9 z => z.elim)
      obtain ⟨rfl, z⟩ := z
      subst z
      exact ⟨_, rfl, if_pos (by omega), e13, T, ⟨ad, el, rfl, R⟩, hj⟩

theorem opc_owes {l : Launch} (htr : l.stackTraces = false) {G : zG} {b : Nat} : OPC_owes l G JJ b := by
  intro T S hC p0 p1 hj hk h0 h1
  obtain ⟨ad, el, rfl, R⟩ := hk
  have I := hj.2.1.1
  obtain ⟨⟨n0, n0b, n0c⟩, ⟨n1, n1b, n1c⟩, n2, n2b, n2c⟩ := jMem hj
  by_cases c : ¬ (0 ≤ p0 ∧ p0 < cN T 0)
  · refine CT.mono (c_X6_owes_x1 htr R I h0 c) (fun v h9 z => z.elim) (fun E h9 z => ?_)
    obtain ⟨rfl, rfl⟩ := z
    exact ⟨rfl, (if_neg (by omega)).symm, ad, el, rfl, R⟩
  · by_cases c2 : ¬ (0 ≤ p1 ∧ p1 < cN T 0)
    · obtain ⟨m, rfl⟩ : ∃ m : Nat, p0 = (m : Int) := toN (by omega)
      refine CT.mono (c_X6_owes_x2 htr R I (m := m) (by omega) h1 c2) (fun v h9 z => z.elim) (fun E h9 z => ?_)
      obtain ⟨rfl, rfl⟩ := z
      exact ⟨rfl, (if_neg (by omega)).symm, ad, el, rfl, R⟩
    · obtain ⟨m, rfl⟩ : ∃ m : Nat, p0 = (m : Int) := toN (by omega)
      obtain ⟨f, rfl⟩ : ∃ f : Nat, p1 = (f : Int) := toN (by omega)
      have e9 := e_owes hj (show m < 10 by omega) (show f < 10 by omega)
      refine CT.mono (c_X6_owes_ok htr R I (m := m) (x := f) (by omega) (by omega) e9.2) (fun v h9 z => ?_) (fun E h9 z => z.elim)
      obtain ⟨rfl, z⟩ := z
      subst z
      exact ⟨_, rfl, if_pos (by omega), e9.1, T, ⟨ad, el, rfl, R⟩, hj⟩

theorem opc_owesAnew {l : Launch} (htr : l.stackTraces = false) {G : zG} {b : Nat} : OPC_owesAnew l G JJ b := by
  intro T S hC p0 p1 hj hk h0 h1
  obtain ⟨ad, el, rfl, R⟩ := hk
  have I := hj.2.1.1
  obtain ⟨⟨n0, n0b, n0c⟩, ⟨n1, n1b, n1c⟩, n2, n2b, n2c⟩ := jMem hj
  by_cases c : ¬ (0 ≤ p0 ∧ p0 < cN T 0)
  · refine CT.mono (c_X6_owesAnew_x1 htr R I h0 c) (fun v h9 z => z.elim) (fun E h9 z => ?_)
    obtain ⟨rfl, rfl⟩ := z
    exact ⟨rfl, (if_neg (by omega)).symm, ad, el, rfl, R⟩
  · by_cases c2 : ¬ (0 ≤ p1 ∧ p1 < cN T 0)
    · obtain ⟨m, rfl⟩ : ∃ m : Nat, p0 = (m : Int) := toN (by omega)
      refine CT.mono (c_X6_owesAnew_x2 htr R I (m := m) (by omega) h1 c2) (fun v h9 z => z.elim) (fun E h9 z => ?_)
      obtain ⟨rfl, rfl⟩ := z
      exact ⟨rfl, (if_neg (by omega)).symm, ad, el, rfl, R⟩
    · obtain ⟨m, rfl⟩ : ∃ m : Nat, p0 = (m : Int) := toN (by omega)
      obtain ⟨f, rfl⟩ : ∃ f : Nat, p1 = (f : Int) := toN (by omega)
      have e9 := e_owes hj (show m < 10 by omega) (show f < 10 by omega)
      have e8 := (e_anew hj (show m < cN T 0 by omega)).2 f (by omega)
      refine CT.mono (c_X6_owesAnew_ok htr R I (m := m) (x := f) (by omega) (by omega) (by rw [e8]; exact e9.2)) (fun v h9 z => ?_) (fun E h9 z => z.elim)
      obtain ⟨rfl, z⟩ := z
      exact ⟨_, rfl, if_pos (by omega), (by rw [e8]; exact e9.1), T, z, hj⟩

theorem opc_accountAnew {l : Launch} (htr : l.stackTraces = false) {G : zG} {b : Nat} : OPC_accountAnew l G JJ b := by
  intro T S hC p0 hj hk h0
  obtain ⟨ad, el, rfl, R⟩ := hk
  have I := hj.2.1.1
  obtain ⟨⟨n0, n0b, n0c⟩, ⟨n1, n1b, n1c⟩, n2, n2b, n2c⟩ := jMem hj
  by_cases c : ¬ (0 ≤ p0 ∧ p0 < cN T 0)
  · refine CT.mono (c_X6_accountAnew_x1 htr R I h0 c) (fun v h9 z => z.elim) (fun E h9 z => ?_)
    obtain ⟨rfl, rfl⟩ := z
    exact ⟨rfl, (if_neg (by omega)).symm, ad, el, rfl, R⟩
  · obtain ⟨m, rfl⟩ : ∃ m : Nat, p0 = (m : Int) := toN (by omega)
    refine CT.mono (c_X6_accountAnew_ok htr R I (m := m) (by omega)) (fun v h9 z => ?_) (fun E h9 z => z.elim)
    obtain ⟨rfl, z⟩ := z
    exact ⟨_, rfl, if_pos (by omega), (e_anew hj (show m < cN T 0 by omega)).1, T, z, hj⟩

theorem opc_told {l : Launch} (htr : l.stackTraces = false) {G : zG} {b : Nat} : OPC_told l G JJ b := by
  intro T S hC p0 hj hk h0
  obtain ⟨ad, el, rfl, R⟩ := hk
  have I := hj.2.1.1
  obtain ⟨⟨n0, n0b, n0c⟩, ⟨n1, n1b, n1c⟩, n2, n2b, n2c⟩ := jMem hj
  by_cases c : p0 < 0
  · refine CT.mono (c_X6_told_x1 htr R I h0 c) (fun v h9 z => z.elim) (fun E h9 z => ?_)
    obtain ⟨rfl, rfl⟩ := z
    exact ⟨rfl, (if_pos c).symm, ad, el, rfl, R⟩
  · refine CT.mono (c_X6_told_ok htr R I (w := p0) (by omega)) (fun v h9 z => ?_) (fun E h9 z => z.elim)
    obtain ⟨rfl, z⟩ := z
    exact ⟨_, rfl, if_neg c, e_told hj (by omega), T, z, hj⟩

theorem opc_proposal {l : Launch} (htr : l.stackTraces = false) {G : zG} {b : Nat} : OPC_proposal l G JJ b := by
  intro T S hC p0 p1 hj hk h0 h1
  obtain ⟨ad, el, rfl, R⟩ := hk
  have I := hj.2.1.1
  obtain ⟨⟨n0, n0b, n0c⟩, ⟨n1, n1b, n1c⟩, n2, n2b, n2c⟩ := jMem hj
  by_cases c : ¬ (0 ≤ p0 ∧ p0 < cN T 2)
  · refine CT.mono (c_X6_proposal_x1 htr R I h0 c) (fun v h9 z => z.elim) (fun E h9 z => ?_)
    obtain ⟨rfl, rfl⟩ := z
    exact Or.inl ⟨rfl, (if_pos (by omega)).symm, ad, el, rfl, R⟩
  · by_cases c2 : ¬ (0 ≤ p1 ∧ p1 ≤ 4)
    · obtain ⟨p, rfl⟩ : ∃ p : Nat, p0 = (p : Int) := toN (by omega)
      refine CT.mono (c_X6_proposal_x2 htr R I (p := p) (by omega) h1 c2) (fun v h9 z => z.elim) (fun E h9 z => ?_)
      obtain ⟨rfl, rfl⟩ := z
      exact Or.inr ⟨rfl, ((if_neg (by omega)).trans (if_pos c2)).symm, ad, el, rfl, R⟩
    · obtain ⟨p, rfl⟩ : ∃ p : Nat, p0 = (p : Int) := toN (by omega)
      have hv : ∀ w : Int, ¬ w = 0 → (if S 16 p = 0 then mvoted S p w (mM S) else cV (row S 20 10 p) w 10) = cV (row T 20 10 p) w 10 := fun w hw => by
        rw [row_c (hj.t (k := 20) (by decide) (by decide) (by decide) (by decide))]
        split
        · rename_i z
          exact (e_voted hj.2.2 z (fun _ => fun y => y) hw).symm
        · rfl
      have h5 := hj.2.2.2.2.2.2.2.1 p
      have h3 : cV (row T 20 10 p) 1 10 = vPpl S ((p : Nat) : Int).toNat 3 := by
        rw [Int.toNat_natCast, ← hv 1 (by decide)]
        show _ = (if S 16 p = 0 then mvoted S p 1 (mM S) else S 21 p)
        split
        · rfl
        · rename_i z
          exact (h5 z).1.symm
      have h4 : cV (row T 20 10 p) 2 10 = vPpl S ((p : Nat) : Int).toNat 4 := by
        rw [Int.toNat_natCast, ← hv 2 (by decide)]
        show _ = (if S 16 p = 0 then mvoted S p 2 (mM S) else S 22 p)
        split
        · rfl
        · rename_i z
          exact (h5 z).2.symm
      have hw : p1 = 0 ∨ p1 = 1 ∨ p1 = 2 ∨ p1 = 3 ∨ p1 = 4 := by omega
      rcases hw with rfl | rfl | rfl | rfl | rfl
      · refine CT.mono (c_X6_proposal_ok0 htr R I (p := p) (by omega)) (fun v h9 z => ?_) (fun E h9 z => z.elim)
        obtain ⟨rfl, z⟩ := z
        subst z
        exact ⟨_, rfl, (if_neg (by omega)).trans (if_neg (by decide)), congrFun (hj.t (k := 16) (by decide) (by decide) (by decide) (by decide)) _, T, ⟨ad, el, rfl, R⟩, hj⟩
      · refine CT.mono (c_X6_proposal_ok1 htr R I (p := p) (by omega)) (fun v h9 z => ?_) (fun E h9 z => z.elim)
        obtain ⟨rfl, z⟩ := z
        subst z
        exact ⟨_, rfl, (if_neg (by omega)).trans (if_neg (by decide)), congrFun (hj.t (k := 17) (by decide) (by decide) (by decide) (by decide)) _, T, ⟨ad, el, rfl, R⟩, hj⟩
      · refine CT.mono (c_X6_proposal_ok2 htr R I (p := p) (by omega)) (fun v h9 z => ?_) (fun E h9 z => z.elim)
        obtain ⟨rfl, z⟩ := z
        subst z
        exact ⟨_, rfl, (if_neg (by omega)).trans (if_neg (by decide)), congrFun (hj.t (k := 18) (by decide) (by decide) (by decide) (by decide)) _, T, ⟨ad, el, rfl, R⟩, hj⟩
      · refine CT.mono (c_X6_proposal_ok3 htr R I (p := p) (by omega)) (fun v h9 z => ?_) (fun E h9 z => z.elim)
        obtain ⟨rfl, z⟩ := z
        subst z
        exact ⟨_, rfl, (if_neg (by omega)).trans (if_neg (by decide)), h3, T, ⟨ad, el, rfl, R⟩, hj⟩
      · refine CT.mono (c_X6_proposal_ok4 htr R I (p := p) (by omega)) (fun v h9 z => ?_) (fun E h9 z => z.elim)
        obtain ⟨rfl, z⟩ := z
        subst z
        exact ⟨_, rfl, (if_neg (by omega)).trans (if_neg (by decide)), h4, T, ⟨ad, el, rfl, R⟩, hj⟩

theorem opc_member {l : Launch} (htr : l.stackTraces = false) {G : zG} {b : Nat} : OPC_member l G JJ b := by
  intro T S hC p0 p1 hj hk h0 h1
  obtain ⟨ad, el, rfl, R⟩ := hk
  have I := hj.2.1.1
  obtain ⟨⟨n0, n0b, n0c⟩, ⟨n1, n1b, n1c⟩, n2, n2b, n2c⟩ := jMem hj
  by_cases c : ¬ (0 ≤ p0 ∧ p0 < cN T 0)
  · refine CT.mono (c_X6_member_x1 htr R I h0 c) (fun v h9 z => z.elim) (fun E h9 z => ?_)
    obtain ⟨rfl, rfl⟩ := z
    exact Or.inl ⟨rfl, (if_pos (by omega)).symm, ad, el, rfl, R⟩
  · by_cases c2 : ¬ (0 ≤ p1 ∧ p1 ≤ 4)
    · obtain ⟨m, rfl⟩ : ∃ m : Nat, p0 = (m : Int) := toN (by omega)
      refine CT.mono (c_X6_member_x2 htr R I (m := m) (by omega) h1 c2) (fun v h9 z => z.elim) (fun E h9 z => ?_)
      obtain ⟨rfl, rfl⟩ := z
      exact Or.inr ⟨rfl, ((if_neg (by omega)).trans (if_pos c2)).symm, ad, el, rfl, R⟩
    · obtain ⟨m, rfl⟩ : ∃ m : Nat, p0 = (m : Int) := toN (by omega)
      have h3 : 0 ≤ S 3 m ∧ S 3 m ≤ 1 := hj.2.2.1 3 _ (by decide)
      have e0 : T 3 m = vMem S ((m : Nat) : Int).toNat 0 := by
        rw [Int.toNat_natCast, hj.t (k := 3) (by decide) (by decide) (by decide) (by decide)]
        show _ = (if S 3 m = 0 then (0 : Int) else 1)
        split <;> omega
      have e1 : T 5 m = vMem S ((m : Nat) : Int).toNat 1 := hj.1.2.1 m
      have e2 : cU T m 0 (cN T 1) = vMem S ((m : Nat) : Int).toNat 2 := by
        rw [Int.toNat_natCast, e_used hj m, ← n1c]
        rfl
      have hw : p1 = 0 ∨ p1 = 1 ∨ p1 = 2 ∨ p1 = 3 ∨ p1 = 4 := by omega
      rcases hw with rfl | rfl | rfl | rfl | rfl
      · refine CT.mono (c_X6_member_ok0 htr R I (m := m) (by omega)) (fun v h9 z => ?_) (fun E h9 z => z.elim)
        obtain ⟨rfl, z⟩ := z
        subst z
        exact ⟨_, rfl, (if_neg (by omega)).trans (if_neg (by decide)), e0, T, ⟨ad, el, rfl, R⟩, hj⟩
      · refine CT.mono (c_X6_member_ok1 htr R I (m := m) (by omega)) (fun v h9 z => ?_) (fun E h9 z => z.elim)
        obtain ⟨rfl, z⟩ := z
        subst z
        exact ⟨_, rfl, (if_neg (by omega)).trans (if_neg (by decide)), e1, T, ⟨ad, el, rfl, R⟩, hj⟩
      · refine CT.mono (c_X6_member_ok2 htr R I (m := m) (by omega)) (fun v h9 z => ?_) (fun E h9 z => z.elim)
        obtain ⟨rfl, z⟩ := z
        subst z
        exact ⟨_, rfl, (if_neg (by omega)).trans (if_neg (by decide)), e2, T, ⟨ad, el, rfl, R⟩, hj⟩
      · refine CT.mono (c_X6_member_ok3 htr R I (m := m) (by omega)) (fun v h9 z => ?_) (fun E h9 z => z.elim)
        obtain ⟨rfl, z⟩ := z
        subst z
        exact ⟨_, rfl, (if_neg (by omega)).trans (if_neg (by decide)), congrFun (hj.t (k := 7) (by decide) (by decide) (by decide) (by decide)) _, T, ⟨ad, el, rfl, R⟩, hj⟩
      · refine CT.mono (c_X6_member_ok4 htr R I (m := m) (by omega)) (fun v h9 z => ?_) (fun E h9 z => z.elim)
        obtain ⟨rfl, z⟩ := z
        subst z
        exact ⟨_, rfl, (if_neg (by omega)).trans (if_neg (by decide)), congrFun (hj.t (k := 8) (by decide) (by decide) (by decide) (by decide)) _, T, ⟨ad, el, rfl, R⟩, hj⟩

