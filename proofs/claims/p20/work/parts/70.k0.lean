/-! THE COUPLING: the club as the class keeps it (T) and as the reference keeps it (S) -/
def jA (T S : Nat → Nat → Int) : Prop := (∀ k, 1 ≤ k → k ≤ 20 → k ≠ 5 → k ≠ 9 → T k = S k) ∧ (∀ j, T 5 j = if S 3 j = 0 then 0 else S 5 j) ∧ ∀ i j, i < 10 → j < 10 → T 30 (10 * i + j) = S 9 (10 * i + j) - S 9 (10 * j + i)
def jB (T : Nat → Nat → Int) : Prop := TB T ∧ (∀ m, m < cN T 0 → bA T m (cN T 3) = (T 7 m, row T 30 10 m)) ∧ (∀ e, e < cN T 3 → T 33 e ≤ T 1 0 ∧ T 34 e < T 2 0 ∧ T 36 e < T 2 0 ∧ ∀ j, cN T 0 ≤ j → j < 10 → T 37 (10 * e + j) = 0) ∧ T 31 0 + mmany T (cN T 0) ≤ T 14 0 + T 2 0
/-- ex p j: the vote of j for p may stand though j is away -/
def jC (ex : Nat → Nat → Prop) (S : Nat → Nat → Int) : Prop := MB S ∧ (∀ j, mM S ≤ j → S 3 j = 0 ∧ S 7 j = 0 ∧ S 8 j = 0) ∧ (∀ j, j < 10 → S 3 j = 0 → (∀ f, f < 20 → S 13 (20 * j + f) = 0) ∧ (∀ i, i < 10 → S 9 (10 * i + j) = 0 ∧ S 9 (10 * j + i) = 0) ∧ ∀ p, S 16 p = 0 → ¬ ex p j → S 20 (10 * p + j) = 0) ∧ (∀ f, mF S ≤ f → S 12 f = 0) ∧ (∀ p, mP S ≤ p → S 16 p = 0 ∧ S 19 p = 0 ∧ ∀ j, j < 10 → S 20 (10 * p + j) = 0) ∧ (∀ p, ¬ S 16 p = 0 → S 21 p = cV (row S 20 10 p) 1 10 ∧ S 22 p = cV (row S 20 10 p) 2 10) ∧ (∀ i j, i < 10 → j < 10 → S 9 (10 * i + j) = 0 ∨ S 9 (10 * j + i) = 0) ∧ ((∀ j, S 9 j ≤ 20 * S 14 0) ∧ (∀ j, S 12 j ≤ S 14 0) ∧ ∀ j, S 8 j ≤ S 14 0) ∧ ∀ f, f < mF S → 1 ≤ S 11 f
def JX (ex : Nat → Nat → Prop) (T S : Nat → Nat → Int) : Prop := jA T S ∧ jB T ∧ jC ex S
def JJ : JT := JX (fun _ _ => False)
theorem JX.t {ex : Nat → Nat → Prop} {T S : Nat → Nat → Int} (J : JX ex T S) {k : Nat} (h1 : 1 ≤ k) (h2 : k ≤ 20) (h5 : k ≠ 5) (h9 : k ≠ 9) : T k = S k := J.1.1 k h1 h2 h5 h9
theorem JX.n {ex : Nat → Nat → Prop} {T S : Nat → Nat → Int} (J : JX ex T S) : cN T 0 = mM S ∧ cN T 1 = mF S ∧ cN T 2 = mP S := by
  have h2 := J.t (k := 2) (by decide) (by decide) (by decide) (by decide)
  have h10 := J.t (k := 10) (by decide) (by decide) (by decide) (by decide)
  have h15 := J.t (k := 15) (by decide) (by decide) (by decide) (by decide)
  refine ⟨?_, ?_, ?_⟩
  · show (T 2 0).toNat = (S 2 0).toNat
    rw [h2]
  · show (T 10 0).toNat = (S 10 0).toNat
    rw [h10]
  · show (T 15 0).toNat = (S 15 0).toNat
    rw [h15]
theorem JX.m {ex : Nat → Nat → Prop} {T S : Nat → Nat → Int} (J : JX ex T S) : (MB S ∧ (∀ j, S 9 j ≤ 6000) ∧ (∀ j, S 12 j ≤ S 14 0) ∧ ∀ j, S 8 j ≤ S 14 0) ∧ TB T ∧ T 1 0 = S 1 0 := by
  obtain ⟨a, b, c⟩ := J
  have h14 : 0 ≤ S 14 0 ∧ S 14 0 ≤ 300 := c.1 14 0 (by decide)
  refine ⟨⟨c.1, fun j => ?_, c.2.2.2.2.2.2.2.1.2.1, c.2.2.2.2.2.2.2.1.2.2⟩, b.1, congrFun (a.1 1 (by decide) (by decide) (by decide) (by decide)) 0⟩
  have := c.2.2.2.2.2.2.2.1.1 j
  omega
theorem cV_zero (w : Int) (hw : ¬ w = 0) : ∀ n, cV (fun _ => 0) w n = 0
  | 0 => rfl
  | n + 1 => by rw [cV, cV_zero w hw n, if_neg (fun z => hw z.symm)]; rfl
theorem JJ0 : JJ (fun _ _ => 0) (fun _ _ => 0) := by
  refine ⟨⟨fun _ _ _ _ _ => rfl, fun j => ?_, fun _ _ _ _ => rfl⟩, ⟨⟨fun k j _ _ _ => ⟨Int.le_refl _, ?_⟩, fun _ => ⟨show (-1 : Int) ≤ 0 by decide, show (0 : Int) ≤ 9 by decide⟩⟩, fun m hm => absurd hm (Nat.not_lt_zero _), fun e he => absurd he (Nat.not_lt_zero _), Int.le_refl _⟩, fun k j hk => ⟨Int.le_refl _, ?_⟩, fun _ _ => ⟨rfl, rfl, rfl⟩, fun _ _ _ => ⟨fun _ _ => rfl, fun _ _ => ⟨rfl, rfl⟩, fun _ _ _ => rfl⟩, fun _ _ => rfl, fun _ _ => ⟨rfl, rfl, fun _ _ => rfl⟩, fun p hp => absurd rfl hp, fun _ _ _ _ => Or.inl rfl, ⟨fun _ => Int.le_refl _, fun _ => Int.le_refl _, fun _ => Int.le_refl _⟩, fun f hf => absurd hf (Nat.not_lt_zero _)⟩
  · split <;> rfl
  · show (0 : Int) ≤ thi k
    unfold thi
    split <;> decide
  · show (0 : Int) ≤ mhi k
    unfold mhi
    split <;> decide
theorem e_cVF {ex : Nat → Nat → Prop} {T S : Nat → Nat → Int} (J : JX ex T S) (r : Int) : ∀ n, cVF T r (T 1 0) n = mvF S r n
  | 0 => rfl
  | n + 1 => by
    have h16 := J.t (k := 16) (by decide) (by decide) (by decide) (by decide)
    have h17 := J.t (k := 17) (by decide) (by decide) (by decide) (by decide)
    have h19 := J.t (k := 19) (by decide) (by decide) (by decide) (by decide)
    have h1 := J.t (k := 1) (by decide) (by decide) (by decide) (by decide)
    rw [cVF, mvF, e_cVF J r n, h16, h17, h19, h1]
    by_cases c : (S 16 n = 1 ∧ S 17 n = r ∧ S 19 n ≤ S 1 0) ∧ (mvF S r n = -1 ∨ S 19 (mvF S r n).toNat ≤ S 19 n)
    · rw [if_pos c, if_pos ⟨⟨c.1.2.1, c.1.1, c.1.2.2⟩, c.2⟩]
    · rw [if_neg c, if_neg (fun z => c ⟨⟨z.1.2.1, z.1.1, z.1.2.2⟩, z.2⟩)]
theorem e_val {ex : Nat → Nat → Prop} {T S : Nat → Nat → Int} (J : JX ex T S) {r : Int} (hr : 0 ≤ r ∧ r < 3) : cval T r (T 1 0) = mval S r := by
  unfold cval mval cvl
  rw [e_cVF J r, J.n.2.2, show mP S = (S 15 0).toNat from rfl, J.t (k := 18) (by decide) (by decide) (by decide) (by decide)]
  by_cases c : mvF S r (S 15 0).toNat = -1
  · rw [if_pos c, if_neg (fun z => z c)]
    have h3 : r = 0 ∨ r = 1 ∨ r = 2 := by omega
    rcases h3 with rfl | rfl | rfl <;> rfl
  · rw [if_neg c, if_pos c]
theorem e_used {ex : Nat → Nat → Prop} {T S : Nat → Nat → Int} (J : JX ex T S) (m : Nat) : ∀ n, cU T m 0 n = mused S m n
  | 0 => rfl
  | n + 1 => by
    have h12 : 0 ≤ S 12 n ∧ S 12 n ≤ 300 := J.2.2.1 12 n (by decide)
    rw [cU, mused, e_used J m n, J.t (k := 13) (by decide) (by decide) (by decide) (by decide), J.t (k := 12) (by decide) (by decide) (by decide) (by decide), J.t (k := 11) (by decide) (by decide) (by decide) (by decide)]
    by_cases c : S 13 (20 * m + n) = 0
    · rw [if_pos c, if_neg (fun z => z.1 c)]
    · rw [if_neg c, if_pos ⟨c, h12.1⟩]
theorem mmany_c {T S : Nat → Nat → Int} (h : T 3 = S 3) : ∀ n, mmany T n = mmany S n
  | 0 => rfl
  | n + 1 => by rw [mmany, mmany, mmany_c h n, h]
theorem e_many {ex : Nat → Nat → Prop} {T S : Nat → Nat → Int} (J : JX ex T S) : mmany T (cN T 0) = mmany S (mM S) := by
  rw [mmany_c (J.t (k := 3) (by decide) (by decide) (by decide) (by decide)), J.n.1]
theorem mvoted_up {S : Nat → Nat → Int} (p : Nat) (w : Int) {n : Nat} (h : ∀ j, n ≤ j → S 3 j = 0) : ∀ k, mvoted S p w (n + k) = mvoted S p w n
  | 0 => rfl
  | k + 1 => by
    rw [← Nat.add_assoc, mvoted, mvoted_up p w h k, if_neg (fun z => z.1 (h (n + k) (Nat.le_add_right _ _)))]
    omega
theorem e_voted {ex : Nat → Nat → Prop} {S : Nat → Nat → Int} (J : jC ex S) {p : Nat} (hp : S 16 p = 0) (hex : ∀ j, ¬ ex p j) {w : Int} (hw : ¬ w = 0) : cV (row S 20 10 p) w 10 = mvoted S p w (mM S) := by
  have h1 : ∀ n, n ≤ 10 → cV (row S 20 10 p) w n = mvoted S p w n := by
    intro n
    induction n with
    | zero => intro _; rfl
    | succ n ih =>
      intro hn
      rw [cV, mvoted, ih (by omega), row_at S 20 10 p (show n < 10 by omega)]
      by_cases c : S 3 n = 0
      · have := ((J.2.2.1 n (by omega) c).2.2 p hp (hex n))
        rw [this, if_neg (fun z => hw z.symm), if_neg (fun z => z.1 c)]
      · by_cases c2 : S 20 (10 * p + n) = w
        · rw [if_pos c2, if_pos ⟨c, c2⟩]
        · rw [if_neg c2, if_neg (fun z => c2 z.2)]
  rw [h1 10 (Nat.le_refl _)]
  have h2 : 0 ≤ S 2 0 ∧ S 2 0 ≤ 10 := J.1 2 0 (by decide)
  have hm : mM S ≤ 10 := by
    show (S 2 0).toNat ≤ 10
    omega
  have := mvoted_up p w (fun j hj => (J.2.1 j hj).1) (10 - mM S)
  rw [show mM S + (10 - mM S) = 10 by omega] at this
  exact this
/-! what is told -/
def tR (w : Int) (t : tX) (r : Int) : Prop := (0 ≤ r ∧ r = w - (t.1 : Int)) ∨ (r < 0 ∧ w < (t.1 : Int) ∧ t.2 w.toNat = -1 - r)
theorem tR.keep {w : Int} {t : tX} {r : Int} (hw : 0 ≤ w) (h : tR w t r) (hr : r < 0) (x : Int) : tR w (txA t x) r := by
  rcases h with h | ⟨h1, h2, h3⟩
  · omega
  · refine Or.inr ⟨h1, ?_, ?_⟩
    · show w < ((t.1 + 1 : Nat) : Int)
      omega
    · show (if w.toNat = t.1 then x else t.2 w.toNat) = -1 - r
      rw [if_neg (by omega)]
      exact h3
theorem tR.add {w : Int} {t : tX} {r : Int} (hw : 0 ≤ w) (h : tR w t r) (hr : 0 ≤ r) (x : Int) (hx : 0 ≤ x) : (r = 0 → tR w (txA t x) (-1 - x)) ∧ (¬ r = 0 → tR w (txA t x) (r - 1)) := by
  rcases h with ⟨h1, h2⟩ | h
  · refine ⟨fun z => Or.inr ⟨by omega, ?_, ?_⟩, fun z => Or.inl ⟨by omega, ?_⟩⟩
    · show w < ((t.1 + 1 : Nat) : Int)
      omega
    · show (if w.toNat = t.1 then x else t.2 w.toNat) = -1 - (-1 - x)
      rw [if_pos (by omega)]
      omega
    · show r - 1 = w - ((t.1 + 1 : Nat) : Int)
      omega
  · omega
theorem tR.keepN {w : Int} {t : tX} {r : Int} (hw : 0 ≤ w) (h : tR w t r) (hr : r < 0) (x : Int) : tR w (txN t x) r := by
  unfold txN
  split
  · exact (h.keep hw hr _).keep hw hr _
  · exact h.keep hw hr _
theorem tR.keepF {w : Int} (T : Nat → Nat → Int) (m : Nat) {t : tX} {r : Int} (hw : 0 ≤ w) (h : tR w t r) (hr : r < 0) : ∀ n, tR w (txF T m t n) r
  | 0 => h
  | n + 1 => by
    have ih := tR.keepF T m hw h hr n
    rw [txF]
    split
    · exact ih
    · exact (ih.keep hw hr _).keepN hw hr _
theorem tR.num {w : Int} {t : tX} {r : Int} (hw : 0 ≤ w) (h : tR w t r) (hr : 0 ≤ r) {x : Int} (hx : 0 ≤ x ∧ x < 100) : (r < mfigs x → tR w (txN t x) (-1 - mfig x r)) ∧ (¬ r < mfigs x → tR w (txN t x) (r - mfigs x)) := by
  unfold txN mfigs mfig
  by_cases c : 10 ≤ x
  · rw [if_pos c, if_neg (show ¬ x < 10 by omega), if_neg (show ¬ x < 10 by omega)]
    have h1 := h.add hw hr (48 + x / 10) (by omega)
    by_cases z : r = 0
    · refine ⟨fun _ => ?_, fun y => absurd (show r < 2 by omega) y⟩
      rw [if_pos z]
      exact (h1.1 z).keep hw (by omega) _
    · have h2 := (h1.2 z).add hw (by omega) (48 + x % 10) (by omega)
      by_cases z2 : r = 1
      · refine ⟨fun _ => ?_, fun y => absurd (show r < 2 by omega) y⟩
        rw [if_neg z, if_pos z2]
        exact h2.1 (by omega)
      · refine ⟨fun y => absurd y (by omega), fun _ => ?_⟩
        have := h2.2 (by omega)
        rw [show r - 1 - 1 = r - 2 by omega] at this
        exact this
  · rw [if_neg c, if_pos (show x < 10 by omega), if_pos (show x < 10 by omega)]
    have h1 := h.add hw hr (48 + x % 10) (by omega)
    rw [show x % 10 = x by omega] at h1 ⊢
    by_cases z : r = 0
    · refine ⟨fun _ => ?_, fun y => absurd (show r < 1 by omega) y⟩
      rw [if_pos z]
      exact h1.1 z
    · exact ⟨fun y => absurd y (by omega), fun _ => h1.2 z⟩
theorem e_txF {ex : Nat → Nat → Prop} {T S : Nat → Nat → Int} (J : JX ex T S) (m : Nat) {w r : Int} {t : tX} (hw : 0 ≤ w) (h : tR w t r) : ∀ n, tR w (txF T m t n) (mtF S m r n)
  | 0 => h
  | n + 1 => by
    have ih := e_txF J m hw h n
    have h11 : 0 ≤ S 11 n ∧ S 11 n ≤ 20 := J.2.2.1 11 n (by decide)
    rw [txF, mtF, J.t (k := 13) (by decide) (by decide) (by decide) (by decide), J.t (k := 11) (by decide) (by decide) (by decide) (by decide)]
    by_cases c0 : mtF S m r n < 0
    · rw [if_pos c0]
      split
      · exact ih
      · exact (ih.keep hw c0 _).keepN hw c0 _
    · rw [if_neg c0]
      by_cases c : S 13 (20 * m + n) = 0
      · rw [if_pos c, if_pos c]
        exact ih
      · rw [if_neg c, if_neg c]
        have h1 := ih.add hw (by omega) 44 (by decide)
        have hfg : 1 ≤ mfigs (S 11 n) := by unfold mfigs; split <;> omega
        by_cases z : mtF S m r n = 0
        · rw [if_pos (by omega), if_pos z]
          exact (h1.1 z).keepN hw (by decide) _
        · have h2 := (h1.2 z).num hw (by omega) (x := S 11 n) (by omega)
          by_cases z2 : mtF S m r n ≤ mfigs (S 11 n)
          · rw [if_pos z2, if_neg z]
            exact h2.1 (by omega)
          · rw [if_neg z2]
            have := h2.2 (by omega)
            rw [show mtF S m r n - 1 - mfigs (S 11 n) = mtF S m r n - (1 + mfigs (S 11 n)) by omega] at this
            exact this
theorem e_txT {ex : Nat → Nat → Prop} {T S : Nat → Nat → Int} (J : JX ex T S) {w : Int} (hw : 0 ≤ w) : ∀ n, n ≤ 10 → tR w (txT T w n) (mtM S w n)
  | 0, _ => Or.inl ⟨hw, show w = w - ((0 : Nat) : Int) by omega⟩
  | n + 1, hn => by
    have ih := e_txT J hw n (by omega)
    rw [txT, mtM, J.t (k := 3) (by decide) (by decide) (by decide) (by decide)]
    by_cases c0 : mtM S w n < 0
    · have : w < ((txT T w n).1 : Int) := by
        rcases ih with z | z
        · omega
        · exact z.2.1
      rw [if_pos c0, if_neg (fun z => by omega)]
      exact ih
    · have hle : ((txT T w n).1 : Int) ≤ w := by
        rcases ih with z | z
        · omega
        · omega
      rw [if_neg c0]
      by_cases c : S 3 n = 0
      · rw [if_pos c, if_neg (fun z => z.2 c)]
        exact ih
      · rw [if_neg c, if_pos ⟨hle, c⟩]
        have h1 := ih.num hw (by omega) (x := (n : Int)) (by omega)
        unfold txM
        by_cases z : mtM S w n < mfigs (n : Int)
        · rw [if_pos z]
          have h2 := h1.1 z
          have hb := mfig_b (x := (n : Int)) (at9 := mtM S w n) (by omega)
          exact (tR.keepF T n hw h2 (by omega) _).keep hw (by omega) _
        · rw [if_neg z]
          have h2 := e_txF J n hw (h1.2 z) (cN T 1)
          rw [J.n.2.1] at h2 ⊢
          unfold mtE
          by_cases y : mtF S n (mtM S w n - mfigs (n : Int)) (mF S) < 0
          · rw [if_pos y]
            exact h2.keep hw y _
          · rw [if_neg y]
            have h3 := h2.add hw (by omega) 59 (by decide)
            by_cases x : mtF S n (mtM S w n - mfigs (n : Int)) (mF S) = 0
            · rw [if_pos x]
              exact h3.1 x
            · rw [if_neg x]
              exact h3.2 x
theorem e_told {ex : Nat → Nat → Prop} {T S : Nat → Nat → Int} (J : JX ex T S) {w : Int} (hw : 0 ≤ w) : ctold T w = mtold S w := by
  have h := e_txT J hw (cN T 0) J.2.1.1.n0
  unfold ctold mtold
  rw [J.n.1] at h ⊢
  rcases h with ⟨h1, h2⟩ | ⟨h1, h2, h3⟩
  · rw [if_neg (by omega), if_neg (by omega)]
  · rw [if_pos h1, if_pos h2]
    exact h3
