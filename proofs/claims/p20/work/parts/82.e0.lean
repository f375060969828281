/-! WHAT THE LAW ASKS OF THE TABLES -/
def sm (f : Nat → Int) : Nat → Int
  | 0 => 0
  | n + 1 => sm f n + f n
theorem sm_c {f g : Nat → Int} : ∀ n, (∀ j, j < n → f j = g j) → sm f n = sm g n
  | 0, _ => rfl
  | n + 1, h => by rw [sm, sm, sm_c n (fun j hj => h j (by omega)), h n (by omega)]
theorem vu_at (f : Nat → Int) (i : Nat) (v : Int) (j : Nat) : va_up f i v j = if j = i then v else f j := rfl
theorem sm_up (f : Nat → Int) (i : Nat) (v : Int) : ∀ n, sm (va_up f i v) n = sm f n + (if i < n then v - f i else 0)
  | 0 => by rw [if_neg (by omega)]; rfl
  | n + 1 => by
    rw [sm, sm, sm_up f i v n, vu_at]
    by_cases c : n = i
    · subst c
      rw [if_neg (Nat.lt_irrefl n), if_pos (Nat.lt_succ_self n), if_pos rfl]
      omega
    · rw [if_neg c]
      by_cases c2 : i < n
      · rw [if_pos c2, if_pos (Nat.lt_succ_of_lt c2)]
        omega
      · rw [if_neg c2, if_neg (show ¬ i < n + 1 by omega)]
        omega
theorem sm_zero {f : Nat → Int} {m : Nat} (h : ∀ j, m ≤ j → f j = 0) : ∀ k, sm f (m + k) = sm f m
  | 0 => rfl
  | k + 1 => by rw [← Nat.add_assoc, sm, sm_zero h k, h (m + k) (Nat.le_add_right _ _)]; omega
theorem su_eq (S : Nat → Nat → Int) (k i : Nat) (v : Int) : su S k i v k = va_up (S k) i v := by simp [su]
theorem mused_c {S S' : Nat → Nat → Int} {m : Nat} : ∀ n, (∀ j, j < n → S' 13 (20 * m + j) = S 13 (20 * m + j) ∧ S' 11 j = S 11 j) → mused S' m n = mused S m n
  | 0, _ => rfl
  | n + 1, h => by
    have h1 := h n (by omega)
    rw [mused, mused, mused_c n (fun j hj => h j (by omega)), h1.1, h1.2]
theorem mused_le {S S' : Nat → Nat → Int} {m : Nat} (h11 : ∀ j, 0 ≤ S 11 j) : ∀ n, (∀ j, j < n → (S' 13 (20 * m + j) = 0 ∨ S' 13 (20 * m + j) = S 13 (20 * m + j)) ∧ S' 11 j = S 11 j) → mused S' m n ≤ mused S m n
  | 0, _ => Int.le_refl _
  | n + 1, h => by
    have h1 := h n (by omega)
    have h2 := mused_le h11 n (fun j hj => h j (by omega))
    have h3 := h11 n
    rw [mused, mused, h1.2]
    rcases h1.1 with c | c
    · rw [c, if_pos rfl]
      split <;> omega
    · rw [c]
      omega
theorem mused_0 {S : Nat → Nat → Int} {m : Nat} : ∀ n, (∀ j, j < n → S 13 (20 * m + j) = 0) → mused S m n = 0
  | 0, _ => rfl
  | n + 1, h => by rw [mused, mused_0 n (fun j hj => h j (by omega)), h n (by omega), if_pos rfl]; rfl
theorem su_row (X : Nat → Nat → Int) (m l n : Nat) (v : Int) : su X 13 (20 * m + l) v 13 (20 * m + n) = if n = l then v else X 13 (20 * m + n) := by
  rw [su_at]
  by_cases c : n = l
  · rw [if_pos (show 13 = 13 ∧ 20 * m + n = 20 * m + l from ⟨rfl, by rw [c]⟩), if_pos c]
  · rw [if_neg (show ¬ (13 = 13 ∧ 20 * m + n = 20 * m + l) from fun z => c (by omega)), if_neg c]
theorem mused_out (X : Nat → Nat → Int) (m l : Nat) (h : ¬ X 13 (20 * m + l) = 0) : ∀ n, mused (su X 13 (20 * m + l) 0) m n = mused X m n - if l < n then X 11 l else 0
  | 0 => rfl
  | n + 1 => by
    rw [mused, mused, mused_out X m l h n, su_row, su_ne X _ _ (show 11 ≠ 13 by decide)]
    by_cases c : n = l
    · subst c
      have a1 : (if n = n then (0 : Int) else X 13 (20 * m + n)) = 0 := if_pos rfl
      rw [a1, if_pos (rfl : (0 : Int) = 0), if_neg (Nat.lt_irrefl n), if_neg h, if_pos (show n < n + 1 by omega)]
      omega
    · have a1 : (if n = l then (0 : Int) else X 13 (20 * m + n)) = X 13 (20 * m + n) := if_neg c
      rw [a1]
      by_cases c2 : l < n
      · rw [if_pos c2, if_pos (show l < n + 1 by omega)]
        omega
      · rw [if_neg c2, if_neg (show ¬ l < n + 1 by omega)]
        omega
theorem mused_in (X : Nat → Nat → Int) (m l : Nat) (h11 : ∀ j, 0 ≤ X 11 j) : ∀ n, mused (su X 13 (20 * m + l) 1) m n ≤ mused X m n + if l < n then X 11 l else 0
  | 0 => Int.le_refl _
  | n + 1 => by
    have ih := mused_in X m l h11 n
    have h1 := h11 n
    rw [mused, mused, su_row, su_ne X _ _ (show 11 ≠ 13 by decide)]
    by_cases c : n = l
    · subst c
      rw [if_neg (Nat.lt_irrefl n)] at ih
      have a1 : (if n = n then (1 : Int) else X 13 (20 * m + n)) = 1 := if_pos rfl
      rw [a1, if_neg (show ¬ (1 : Int) = 0 by decide), if_pos (show n < n + 1 by omega)]
      by_cases c3 : X 13 (20 * m + n) = 0
      · rw [if_pos c3]
        omega
      · rw [if_neg c3]
        omega
    · have a1 : (if n = l then (1 : Int) else X 13 (20 * m + n)) = X 13 (20 * m + n) := if_neg c
      rw [a1]
      by_cases c2 : l < n
      · rw [if_pos c2] at ih
        rw [if_pos (show l < n + 1 by omega)]
        omega
      · rw [if_neg c2] at ih
        rw [if_neg (show ¬ l < n + 1 by omega)]
        omega
theorem mvoted_c {S S' : Nat → Nat → Int} {p : Nat} {w : Int} : ∀ n, (∀ j, j < n → S' 3 j = S 3 j ∧ S' 20 (10 * p + j) = S 20 (10 * p + j)) → mvoted S' p w n = mvoted S p w n
  | 0, _ => rfl
  | n + 1, h => by
    have h1 := h n (by omega)
    rw [mvoted, mvoted, mvoted_c n (fun j hj => h j (by omega)), h1.1, h1.2]
theorem mvoted_0 {S : Nat → Nat → Int} {p : Nat} {w : Int} (hw : ¬ w = 0) : ∀ n, (∀ j, j < n → S 20 (10 * p + j) = 0) → mvoted S p w n = 0
  | 0, _ => rfl
  | n + 1, h => by rw [mvoted, mvoted_0 hw n (fun j hj => h j (by omega)), h n (by omega), if_neg (fun z => hw z.2.symm)]; rfl
theorem mvoted_le (S : Nat → Nat → Int) (p : Nat) (w : Int) : ∀ n, 0 ≤ mvoted S p w n ∧ mvoted S p w n ≤ mmany S n
  | 0 => ⟨Int.le_refl _, Int.le_refl _⟩
  | n + 1 => by
    have ih := mvoted_le S p w n
    rw [mvoted, mmany]
    by_cases c : S 3 n = 0
    · rw [if_pos c, if_neg (fun z => z.1 c)]
      omega
    · rw [if_neg c]
      split <;> omega
def vOK (S : Nat → Nat → Int) (p : Nat) : Prop := S 16 p = 0 → 2 * mvoted S p 1 (mM S) ≤ mmany S (mM S) ∧ (mmany S (mM S) = 0 ∨ 2 * mvoted S p 2 (mM S) < mmany S (mM S))
theorem mM_c {S S' : Nat → Nat → Int} (h : S' 2 0 = S 2 0) : mM S' = mM S := by unfold mM; rw [h]
theorem mF_c {S S' : Nat → Nat → Int} (h : S' 10 0 = S 10 0) : mF S' = mF S := by unfold mF; rw [h]
theorem mP_c {S S' : Nat → Nat → Int} (h : S' 15 0 = S 15 0) : mP S' = mP S := by unfold mP; rw [h]
theorem mmany_cc {T T' : Nat → Nat → Int} : ∀ n, (∀ j, j < n → T' 3 j = T 3 j) → mmany T' n = mmany T n
  | 0, _ => rfl
  | n + 1, h => by rw [mmany, mmany, mmany_cc n (fun j hj => h j (by omega)), h n (by omega)]
theorem vOK_c {S S' : Nat → Nat → Int} {p : Nat} (h2 : S' 2 0 = S 2 0) (h16 : S' 16 p = S 16 p) (h : ∀ j, j < mM S → S' 3 j = S 3 j ∧ S' 20 (10 * p + j) = S 20 (10 * p + j)) (V : vOK S p) : vOK S' p := by
  intro z
  rw [h16] at z
  have V1 := V z
  rw [mM_c h2, mvoted_c _ h, mvoted_c _ h, mmany_cc _ (fun j hj => (h j hj).1)]
  exact V1
theorem mdec_16 (S : Nat → Nat → Int) {p q : Nat} (h : q ≠ p) : mdec S p 16 q = S 16 q := by
  unfold mdec mdecS
  rw [su_ne _ _ _ (show 16 ≠ 22 by decide), su_ne _ _ _ (show 16 ≠ 21 by decide)]
  split
  · rw [su_ne _ _ _ (show 16 ≠ 19 by decide), su_at, if_neg (fun z => h z.2)]
  · split
    · rw [su_at, if_neg (fun z => h z.2)]
    · rfl
theorem vOK_dec (S : Nat → Nat → Int) (p : Nat) : vOK (mdec S p) p := by
  intro z
  have e3 := mdec_ne S p (g := 3) (by decide) (by decide) (by decide) (by decide)
  have e2 := mdec_ne S p (g := 2) (by decide) (by decide) (by decide) (by decide)
  have e20 := mdec_ne S p (g := 20) (by decide) (by decide) (by decide) (by decide)
  have hc : ∀ j, j < mM S → mdec S p 3 j = S 3 j ∧ mdec S p 20 (10 * p + j) = S 20 (10 * p + j) := fun j _ => ⟨by rw [e3], by rw [e20]⟩
  rw [mM_c (show mdec S p 2 0 = S 2 0 by rw [e2]), mvoted_c _ hc, mvoted_c _ hc, mmany_cc _ (fun j hj => (hc j hj).1)]
  have hb := mmany_b S (mM S)
  unfold mdec mdecS at z
  rw [su_ne _ _ _ (show 16 ≠ 22 by decide), su_ne _ _ _ (show 16 ≠ 21 by decide)] at z
  by_cases c1 : mmany S (mM S) < 2 * mvoted S p 1 (mM S)
  · rw [if_pos c1, su_ne _ _ _ (show 16 ≠ 19 by decide), su_at, if_pos ⟨rfl, rfl⟩] at z
    exact absurd z (by decide)
  · rw [if_neg c1] at z
    by_cases c2 : 0 < mmany S (mM S) ∧ mmany S (mM S) ≤ 2 * mvoted S p 2 (mM S)
    · rw [if_pos c2, su_at, if_pos ⟨rfl, rfl⟩] at z
      exact absurd z (by decide)
    · exact ⟨by omega, by omega⟩
theorem vOK_dec_ne {S : Nat → Nat → Int} {p q : Nat} (h : q ≠ p) (V : vOK S q) : vOK (mdec S p) q := by
  have e3 := mdec_ne S p (g := 3) (by decide) (by decide) (by decide) (by decide)
  have e2 := mdec_ne S p (g := 2) (by decide) (by decide) (by decide) (by decide)
  have e20 := mdec_ne S p (g := 20) (by decide) (by decide) (by decide) (by decide)
  exact vOK_c (by rw [e2]) (mdec_16 S h) (fun j _ => ⟨by rw [e3], by rw [e20]⟩) V
def ES (S : Nat → Nat → Int) : Prop := ((sm (S 7) 10 ≤ 0 ∧ -(180 * S 14 0) ≤ sm (S 7) 10) ∧ sm (S 8) 10 = sm (S 12) 20) ∧ (∀ m, m < 10 → mused S m (mF S) ≤ S 6 m) ∧ (∀ m f, m < 10 → mF S ≤ f → f < 20 → S 13 (20 * m + f) = 0) ∧ (∀ p, p < mP S → vOK S p) ∧ (0 < S 15 0 → 0 < S 2 0)
theorem ES.of {S S' : Nat → Nat → Int} (E : ES S) (h7 : S' 7 = S 7) (h14 : S' 14 = S 14) (h8 : S' 8 = S 8) (h12 : S' 12 = S 12) (b : ∀ m, m < 10 → mused S' m (mF S') ≤ S' 6 m) (c : ∀ m f, m < 10 → mF S' ≤ f → f < 20 → S' 13 (20 * m + f) = 0) (d : ∀ p, p < mP S' → vOK S' p) (f : 0 < S' 15 0 → 0 < S' 2 0) : ES S' :=
  ⟨⟨by rw [h7, h14]; exact E.1.1, by rw [h8, h12]; exact E.1.2⟩, b, c, d, f⟩
theorem mM_b {S : Nat → Nat → Int} (M : MB S) : ((mM S : Nat) : Int) = S 2 0 ∧ mM S ≤ 10 := by
  have h : 0 ≤ S 2 0 ∧ S 2 0 ≤ 10 := M 2 0 (by decide)
  unfold mM
  omega
theorem mF_b {S : Nat → Nat → Int} (M : MB S) : ((mF S : Nat) : Int) = S 10 0 ∧ mF S ≤ 20 := by
  have h : 0 ≤ S 10 0 ∧ S 10 0 ≤ 20 := M 10 0 (by decide)
  unfold mF
  omega
theorem mP_b {S : Nat → Nat → Int} (M : MB S) : ((mP S : Nat) : Int) = S 15 0 ∧ mP S ≤ 30 := by
  have h : 0 ≤ S 15 0 ∧ S 15 0 ≤ 30 := M 15 0 (by decide)
  unfold mP
  omega
theorem E_0 : ES (fun _ _ => 0) := by
  have z : ∀ n, sm (fun _ => 0) n = 0 := fun n => by
    induction n with
    | zero => rfl
    | succ n ih => rw [sm, ih]; rfl
  refine ⟨⟨⟨by rw [z]; exact Int.le_refl _, by rw [z]; decide⟩, by rw [z, z]⟩, fun m _ => Int.le_refl _, fun _ _ _ _ _ => rfl, fun p hp => absurd hp (Nat.not_lt_zero _), fun h => absurd h (by decide)⟩
theorem E_join {S : Nat → Nat → Int} (C : jC (fun _ _ => False) S) (E : ES S) {u r : Int} (hc : cJoin S u r = 0) : ES (sJoin S u r) := by
  obtain ⟨M, c1, c2, -⟩ := C
  obtain ⟨n2, n2b⟩ := mM_b M
  unfold cJoin at hc
  by_cases q1 : ¬ ((1 ≤ u ∧ u ≤ 20) ∧ 0 ≤ r ∧ r ≤ 50)
  · rw [if_pos q1] at hc; exact absurd hc (by decide)
  rw [if_neg q1] at hc
  by_cases q2 : S 2 0 = 10
  · rw [if_pos q2] at hc; exact absurd hc (by decide)
  have hr : 0 ≤ r := by omega
  have hm : mM S < 10 := by omega
  have e : ∀ k, k ≠ 3 → k ≠ 4 → k ≠ 5 → k ≠ 6 → k ≠ 2 → sJoin S u r k = S k := fun k h3 h4 h5 h6 h2 => by
    unfold sJoin
    rw [su_ne _ _ _ h2, su_ne _ _ _ h6, su_ne _ _ _ h5, su_ne _ _ _ h4, su_ne _ _ _ h3]
  have e13 := e 13 (by decide) (by decide) (by decide) (by decide) (by decide)
  have e11 := e 11 (by decide) (by decide) (by decide) (by decide) (by decide)
  have e10 := e 10 (by decide) (by decide) (by decide) (by decide) (by decide)
  have e15 := e 15 (by decide) (by decide) (by decide) (by decide) (by decide)
  have e16 := e 16 (by decide) (by decide) (by decide) (by decide) (by decide)
  have e20 := e 20 (by decide) (by decide) (by decide) (by decide) (by decide)
  have e2 : sJoin S u r 2 0 = S 2 0 + 1 := by
    unfold sJoin
    rw [su_at, if_pos ⟨rfl, rfl⟩]
  have e6 : ∀ j, sJoin S u r 6 j = if j = mM S then r else S 6 j := fun j => by
    unfold sJoin
    rw [su_ne _ _ _ (show 6 ≠ 2 by decide), su_at, su_ne _ _ _ (show 6 ≠ 5 by decide), su_ne _ _ _ (show 6 ≠ 4 by decide), su_ne _ _ _ (show 6 ≠ 3 by decide)]
    by_cases z : j = mM S
    · rw [if_pos ⟨rfl, z⟩, if_pos z]
    · rw [if_neg (fun y => z y.2), if_neg z]
  have e3 : ∀ j, sJoin S u r 3 j = if j = mM S then 1 else S 3 j := fun j => by
    unfold sJoin
    rw [su_ne _ _ _ (show 3 ≠ 2 by decide), su_ne _ _ _ (show 3 ≠ 6 by decide), su_ne _ _ _ (show 3 ≠ 5 by decide), su_ne _ _ _ (show 3 ≠ 4 by decide), su_at]
    by_cases z : j = mM S
    · rw [if_pos ⟨rfl, z⟩, if_pos z]
    · rw [if_neg (fun y => z y.2), if_neg z]
  have hF : mF (sJoin S u r) = mF S := mF_c (by rw [e10])
  have hP : mP (sJoin S u r) = mP S := mP_c (by rw [e15])
  have hM : mM (sJoin S u r) = mM S + 1 := by
    unfold mM at hm ⊢
    rw [e2]
    have : 0 ≤ S 2 0 := (M 2 0 (by decide)).1
    omega
  have hF20 := (mF_b M).2
  have hmu : ∀ m, mused (sJoin S u r) m (mF S) = mused S m (mF S) := fun m => mused_c _ (fun j _ => ⟨by rw [e13], by rw [e11]⟩)
  refine E.of (e 7 (by decide) (by decide) (by decide) (by decide) (by decide)) (e 14 (by decide) (by decide) (by decide) (by decide) (by decide)) (e 8 (by decide) (by decide) (by decide) (by decide) (by decide)) (e 12 (by decide) (by decide) (by decide) (by decide) (by decide)) (fun m h => ?_) (fun m f h1 h2 h3 => ?_) (fun p hp => ?_) (fun _ => ?_)
  · rw [hF, hmu, e6]
    by_cases z : m = mM S
    · subst z
      rw [if_pos rfl, mused_0 _ (fun j hj => (c2 (mM S) hm (c1 (mM S) (Nat.le_refl _)).1).1 j (by omega))]
      exact hr
    · rw [if_neg z]
      exact E.2.1 m h
  · rw [hF] at h2
    rw [e13]
    exact E.2.2.1 m f h1 h2 h3
  · rw [hP] at hp
    intro z
    rw [e16] at z
    have V := E.2.2.2.1 p hp z
    have h20 : S 20 (10 * p + mM S) = 0 := (c2 (mM S) hm (c1 (mM S) (Nat.le_refl _)).1).2.2 p z (fun y => y)
    have hv : ∀ w : Int, ¬ w = 0 → mvoted (sJoin S u r) p w (mM S + 1) = mvoted S p w (mM S) := fun w hw => by
      rw [mvoted, e20, h20, if_neg (fun y => hw y.2.symm), mvoted_c (S := S) _ (fun j hj => ⟨by rw [e3, if_neg (by omega)], by rw [e20]⟩)]
      omega
    have hmm : mmany (sJoin S u r) (mM S + 1) = mmany S (mM S) + 1 := by
      rw [mmany, e3, if_pos rfl, if_neg (by decide), mmany_cc (T := S) _ (fun j hj => by rw [e3, if_neg (by omega)])]
    rw [hM, hv 1 (by decide), hv 2 (by decide), hmm]
    have hb := mmany_b S (mM S)
    have hl := mvoted_le S p 2 (mM S)
    omega
  · rw [e2]
    have : 0 ≤ S 2 0 := (M 2 0 (by decide)).1
    omega
theorem E_film {S : Nat → Nat → Int} (C : jC (fun _ _ => False) S) (E : ES S) {z : Int} (hc : cFilm S z = 0) : ES (sFilm S z) := by
  obtain ⟨M, -⟩ := C
  obtain ⟨n2, n2b⟩ := mF_b M
  unfold cFilm at hc
  by_cases q1 : ¬ (1 ≤ z ∧ z ≤ 20)
  · rw [if_pos q1] at hc; exact absurd hc (by decide)
  rw [if_neg q1] at hc
  by_cases q2 : S 10 0 = 20
  · rw [if_pos q2] at hc; exact absurd hc (by decide)
  have hm : mF S < 20 := by omega
  have e : ∀ k, k ≠ 11 → k ≠ 10 → sFilm S z k = S k := fun k h3 h4 => by
    unfold sFilm
    rw [su_ne _ _ _ h4, su_ne _ _ _ h3]
  have e10 : sFilm S z 10 0 = S 10 0 + 1 := by
    unfold sFilm
    rw [su_at, if_pos ⟨rfl, rfl⟩]
  have e11 : ∀ j, j < mF S → sFilm S z 11 j = S 11 j := fun j hj => by
    unfold sFilm
    rw [su_ne _ _ _ (show 11 ≠ 10 by decide), su_at, if_neg (fun y => by omega)]
  have e13 := e 13 (by decide) (by decide)
  have hF : mF (sFilm S z) = mF S + 1 := by
    unfold mF at hm ⊢
    rw [e10]
    have : 0 ≤ S 10 0 := (M 10 0 (by decide)).1
    omega
  have hP : mP (sFilm S z) = mP S := mP_c (by rw [e 15 (by decide) (by decide)])
  refine E.of (e 7 (by decide) (by decide)) (e 14 (by decide) (by decide)) (e 8 (by decide) (by decide)) (e 12 (by decide) (by decide)) (fun m h => ?_) (fun m f h1 h2 h3 => ?_) (fun p hp => ?_) (fun h => ?_)
  · rw [hF, mused, e13, E.2.2.1 m (mF S) h (Nat.le_refl _) hm, if_pos rfl, mused_c (S := S) _ (fun j hj => ⟨by rw [e13], e11 j hj⟩), e 6 (by decide) (by decide)]
    have := E.2.1 m h
    omega
  · rw [hF] at h2
    rw [e13]
    exact E.2.2.1 m f h1 (by omega) h3
  · rw [hP] at hp
    exact vOK_c (by rw [e 2 (by decide) (by decide)]) (by rw [e 16 (by decide) (by decide)]) (fun j _ => ⟨by rw [e 3 (by decide) (by decide)], by rw [e 20 (by decide) (by decide)]⟩) (E.2.2.2.1 p hp)
  · rw [e 15 (by decide) (by decide)] at h
    rw [e 2 (by decide) (by decide)]
    exact E.2.2.2.2 h
theorem E_pass {S : Nat → Nat → Int} (E : ES S) (w : Int) : ES (sPass S w) := by
  have e : ∀ k, k ≠ 5 → k ≠ 1 → sPass S w k = S k := fun k h3 h4 => by
    unfold sPass
    rw [mpl_ne _ h3, su_ne _ _ _ h4]
  have hF : mF (sPass S w) = mF S := mF_c (by rw [e 10 (by decide) (by decide)])
  have hP : mP (sPass S w) = mP S := mP_c (by rw [e 15 (by decide) (by decide)])
  refine E.of (e 7 (by decide) (by decide)) (e 14 (by decide) (by decide)) (e 8 (by decide) (by decide)) (e 12 (by decide) (by decide)) (fun m h => ?_) (fun m f h1 h2 h3 => ?_) (fun p hp => ?_) (fun h => ?_)
  · rw [hF, mused_c (S := S) _ (fun j hj => ⟨by rw [e 13 (by decide) (by decide)], by rw [e 11 (by decide) (by decide)]⟩), e 6 (by decide) (by decide)]
    exact E.2.1 m h
  · rw [hF] at h2
    rw [e 13 (by decide) (by decide)]
    exact E.2.2.1 m f h1 h2 h3
  · rw [hP] at hp
    exact vOK_c (by rw [e 2 (by decide) (by decide)]) (by rw [e 16 (by decide) (by decide)]) (fun j _ => ⟨by rw [e 3 (by decide) (by decide)], by rw [e 20 (by decide) (by decide)]⟩) (E.2.2.2.1 p hp)
  · rw [e 15 (by decide) (by decide)] at h
    rw [e 2 (by decide) (by decide)]
    exact E.2.2.2.2 h
theorem E_prop {S : Nat → Nat → Int} (C : jC (fun _ _ => False) S) (E : ES S) {m r v : Int} (hc : cProp S m r v = 0) : ES (sProp S r v) := by
  obtain ⟨M, -, -, -, c5, -⟩ := C
  obtain ⟨n2, n2b⟩ := mP_b M
  obtain ⟨n3, n3b⟩ := mM_b M
  unfold cProp at hc
  by_cases q1 : ¬ ((0 ≤ m ∧ m ≤ S 2 0 - 1) ∧ 0 ≤ r ∧ r ≤ 2)
  · rw [if_pos q1] at hc; exact absurd hc (by decide)
  have hm : 0 < S 2 0 := by omega
  have e : ∀ k, k ≠ 17 → k ≠ 18 → k ≠ 15 → sProp S r v k = S k := fun k h3 h4 h5 => by
    unfold sProp
    rw [su_ne _ _ _ h5, su_ne _ _ _ h4, su_ne _ _ _ h3]
  have e15 : sProp S r v 15 0 = S 15 0 + 1 := by
    unfold sProp
    rw [su_at, if_pos ⟨rfl, rfl⟩]
  have hF : mF (sProp S r v) = mF S := mF_c (by rw [e 10 (by decide) (by decide) (by decide)])
  have hP : mP (sProp S r v) = mP S + 1 := by
    unfold mP
    rw [e15]
    have : 0 ≤ S 15 0 := (M 15 0 (by decide)).1
    omega
  refine E.of (e 7 (by decide) (by decide) (by decide)) (e 14 (by decide) (by decide) (by decide)) (e 8 (by decide) (by decide) (by decide)) (e 12 (by decide) (by decide) (by decide)) (fun m h => ?_) (fun m f h1 h2 h3 => ?_) (fun p hp => ?_) (fun h => ?_)
  · rw [hF, mused_c (S := S) _ (fun j hj => ⟨by rw [e 13 (by decide) (by decide) (by decide)], by rw [e 11 (by decide) (by decide) (by decide)]⟩), e 6 (by decide) (by decide) (by decide)]
    exact E.2.1 m h
  · rw [hF] at h2
    rw [e 13 (by decide) (by decide) (by decide)]
    exact E.2.2.1 m f h1 h2 h3
  · rw [hP] at hp
    refine vOK_c (S := S) (by rw [e 2 (by decide) (by decide) (by decide)]) (by rw [e 16 (by decide) (by decide) (by decide)]) (fun j _ => ⟨by rw [e 3 (by decide) (by decide) (by decide)], by rw [e 20 (by decide) (by decide) (by decide)]⟩) ?_
    by_cases q : p < mP S
    · exact E.2.2.2.1 p q
    · intro _
      have h20 := (c5 p (by omega)).2.2
      have hb := mmany_b S (mM S)
      rw [mvoted_0 (by decide) _ (fun j hj => h20 j (by omega)), mvoted_0 (by decide) _ (fun j hj => h20 j (by omega))]
      omega
  · rw [e 2 (by decide) (by decide) (by decide)]
    exact hm
theorem E_vote {S : Nat → Nat → Int} (C : jC (fun _ _ => False) S) (E : ES S) {m p f : Int} (hc : cVote S m p = 0) : ES (sVote S m p f) := by
  obtain ⟨M, -⟩ := C
  obtain ⟨n2, n2b⟩ := mP_b M
  obtain ⟨n3, n3b⟩ := mM_b M
  unfold cVote at hc
  by_cases q1 : ¬ ((0 ≤ m ∧ m ≤ S 2 0 - 1) ∧ 0 ≤ p ∧ p ≤ S 15 0 - 1)
  · rw [if_pos q1] at hc; exact absurd hc (by decide)
  have hm : m.toNat < 10 := by omega
  unfold sVote
  generalize hX : su S 20 (10 * p.toNat + m.toNat) (if f = 0 then 2 else 1) = X
  have eX : ∀ k, k ≠ 20 → X k = S k := fun k h => by rw [← hX, su_ne _ _ _ h]
  have e : ∀ k, k ≠ 16 → k ≠ 19 → k ≠ 21 → k ≠ 22 → k ≠ 20 → mdec X p.toNat k = S k := fun k h1 h2 h3 h4 h5 => (mdec_ne X p.toNat h1 h2 h3 h4).trans (eX k h5)
  have hF : mF (mdec X p.toNat) = mF S := mF_c (by rw [e 10 (by decide) (by decide) (by decide) (by decide) (by decide)])
  have hP : mP (mdec X p.toNat) = mP S := mP_c (by rw [e 15 (by decide) (by decide) (by decide) (by decide) (by decide)])
  refine E.of (e 7 (by decide) (by decide) (by decide) (by decide) (by decide)) (e 14 (by decide) (by decide) (by decide) (by decide) (by decide)) (e 8 (by decide) (by decide) (by decide) (by decide) (by decide)) (e 12 (by decide) (by decide) (by decide) (by decide) (by decide)) (fun m h => ?_) (fun m f h1 h2 h3 => ?_) (fun q hq => ?_) (fun h => ?_)
  · rw [hF, mused_c (S := S) _ (fun j hj => ⟨by rw [e 13 (by decide) (by decide) (by decide) (by decide) (by decide)], by rw [e 11 (by decide) (by decide) (by decide) (by decide) (by decide)]⟩), e 6 (by decide) (by decide) (by decide) (by decide) (by decide)]
    exact E.2.1 m h
  · rw [hF] at h2
    rw [e 13 (by decide) (by decide) (by decide) (by decide) (by decide)]
    exact E.2.2.1 m f h1 h2 h3
  · rw [hP] at hq
    by_cases c : q = p.toNat
    · rw [c]
      exact vOK_dec X _
    · refine vOK_dec_ne c (vOK_c (S := S) (by rw [eX 2 (by decide)]) (by rw [eX 16 (by decide)]) (fun j hj => ⟨by rw [eX 3 (by decide)], ?_⟩) (E.2.2.2.1 q hq))
      rw [← hX, su_at, if_neg]
      rintro ⟨-, z⟩
      have hj9 : j < 10 := by omega
      exact c (by omega)
  · rw [e 15 (by decide) (by decide) (by decide) (by decide) (by decide)] at h
    rw [e 2 (by decide) (by decide) (by decide) (by decide) (by decide)]
    exact E.2.2.2.2 h
