/-! what is told: the rest, or (below 0) the sign found: -1 - sign -/
def mtF (S : Nat → Nat → Int) (k : Nat) (r : Int) : Nat → Int
  | 0 => r
  | n + 1 => if mtF S k r n < 0 then mtF S k r n else if S 13 (20 * k + n) = 0 then mtF S k r n else if mtF S k r n ≤ mfigs (S 11 n) then -1 - (if mtF S k r n = 0 then 44 else mfig (S 11 n) (mtF S k r n - 1)) else mtF S k r n - (1 + mfigs (S 11 n))
def mtE (S : Nat → Nat → Int) (k : Nat) (r : Int) : Int := if mtF S k r (mF S) < 0 then mtF S k r (mF S) else if mtF S k r (mF S) = 0 then -60 else mtF S k r (mF S) - 1
def mtM (S : Nat → Nat → Int) (r : Int) : Nat → Int
  | 0 => r
  | n + 1 => if mtM S r n < 0 then mtM S r n else if S 3 n = 0 then mtM S r n else if mtM S r n < mfigs n then -1 - mfig n (mtM S r n) else mtE S n (mtM S r n - mfigs n)
def mtold (S : Nat → Nat → Int) (r : Int) : Int := if mtM S r (mM S) < 0 then -1 - mtM S r (mM S) else 0
theorem mfig_b {x at9 : Int} (h : 0 ≤ x ∧ x < 100) : 0 ≤ mfig x at9 ∧ mfig x at9 ≤ 57 := by unfold mfig; (repeat' split) <;> omega
theorem mtF_le (S : Nat → Nat → Int) (I : MB S) (k : Nat) (r : Int) (hr : -60 ≤ r) : ∀ n, -60 ≤ mtF S k r n ∧ mtF S k r n ≤ r ∨ mtF S k r n < 0 ∧ -60 ≤ mtF S k r n
  | 0 => Or.inl ⟨hr, Int.le_refl _⟩
  | n + 1 => by
    have h0 := mtF_le S I k r hr n
    have h1 : 0 ≤ S 11 n ∧ S 11 n ≤ 20 := I 11 n (by decide)
    have h2 := mfigs_b (S 11 n)
    have h3 := mfig_b (x := S 11 n) (at9 := mtF S k r n - 1) (by omega)
    unfold mtF
    (repeat' split) <;> omega
theorem mtF_stay {S : Nat → Nat → Int} {k : Nat} {r : Int} {i : Nat} (h : mtF S k r i < 0) : ∀ q, mtF S k r (i + q) = mtF S k r i
  | 0 => rfl
  | q + 1 => by
    have h0 := mtF_stay h q
    rw [show i + (q + 1) = (i + q) + 1 by omega, mtF, if_pos (by rw [h0]; exact h), h0]
theorem mtM_le (S : Nat → Nat → Int) (I : MB S) (r : Int) (hr : 0 ≤ r) : ∀ n, n ≤ 10 → -60 ≤ mtM S r n ∧ (mtM S r n ≤ r ∨ mtM S r n < 0)
  | 0, _ => ⟨by unfold mtM; omega, Or.inl (Int.le_refl _)⟩
  | n + 1, hn => by
    have h0 := mtM_le S I r hr n (by omega)
    have h2 := mfigs_b (n : Int)
    have h3 := mfig_b (x := (n : Int)) (at9 := mtM S r n) (by omega)
    have h4 := mtF_le S I n (mtM S r n - mfigs n)
    unfold mtM mtE
    (repeat' split) <;> first | omega | (have h5 := h4 (by omega) (mF S); omega)
theorem mtM_stay {S : Nat → Nat → Int} {r : Int} {i : Nat} (h : mtM S r i < 0) : ∀ q, mtM S r (i + q) = mtM S r i
  | 0 => rfl
  | q + 1 => by
    have h0 := mtM_stay h q
    rw [show i + (q + 1) = (i + q) + 1 by omega, mtM, if_pos (by rw [h0]; exact h), h0]
theorem mtold_of {S : Nat → Nat → Int} {r : Int} {i : Nat} {x : Int} (hi : i ≤ mM S) (h : mtM S r i = -1 - x) (hx : 0 ≤ x) : mtold S r = x := by
  have h1 := mtM_stay (S := S) (r := r) (i := i) (by omega) (mM S - i)
  rw [show i + (mM S - i) = mM S by omega] at h1
  unfold mtold
  rw [h1, h, if_pos (by omega)]
  omega
theorem mtold_0 {S : Nat → Nat → Int} {r : Int} (h : 0 ≤ mtM S r (mM S)) : mtold S r = 0 := by
  unfold mtold
  rw [if_neg (by omega)]
/-- a sign found among the films of the member i -/
theorem mtold_f {S : Nat → Nat → Int} {r : Int} {i j : Nat} {x : Int} (hi : i < mM S) (hj : j ≤ mF S) (h0 : 0 ≤ mtM S r i) (h1 : ¬ S 3 i = 0) (h2 : ¬ mtM S r i < mfigs i) (h : mtF S i (mtM S r i - mfigs i) j = -1 - x) (hx : 0 ≤ x) : mtold S r = x := by
  have h3 := mtF_stay (S := S) (k := i) (r := mtM S r i - mfigs i) (i := j) (by omega) (mF S - j)
  rw [show j + (mF S - j) = mF S by omega] at h3
  refine mtold_of (i := i + 1) (by omega) ?_ hx
  rw [mtM, if_neg (by omega), if_neg h1, if_neg h2, mtE, if_pos (by omega)]
  omega
def cTold (w : Int) : Int := if w < 0 then 1 else 0
/-! from outside -/
def mbl (o : Nat) : Nat → (Nat → Nat → Int) → Int → (Nat → Nat → Int)
  | 0, S, _ => S
  | q + 1, S, r => if 0 < r then
      (let x := (mmost S (o : Int) (-1) (mM S)).toNat
       let b := if S 5 x < r then S 5 x else r
       mbl o q (mowe (su S 5 x (S 5 x - b)) o x b) (r - b)) else S
def mbring (S : Nat → Nat → Int) (o f : Nat) : Nat → Nat → Int :=
  mbl o 20 (su S 5 o (S 5 o - (if S 5 o < S 11 f then S 5 o else S 11 f))) (S 11 f - (if S 5 o < S 11 f then S 5 o else S 11 f))
/-- what is left of the others' lines -/
def moth (S : Nat → Nat → Int) (o : Nat) : Nat → Int
  | 0 => 0
  | n + 1 => moth S o n + (if (n : Int) = o ∨ S 3 n = 0 then 0 else S 5 n)
theorem mowe_ne (S : Nat → Nat → Int) (o x : Nat) (b : Int) {g : Nat} (h : g ≠ 9) : mowe S o x b g = S g := by
  unfold mowe
  rw [su_ne _ _ _ h, su_ne _ _ _ h]
theorem mmost_hit (S : Nat → Nat → Int) (o f : Int) : ∀ n : Nat, 0 ≤ mmost S o f n → ¬ mmost S o f n = o ∧ ¬ S 3 (mmost S o f n).toNat = 0
  | 0, h => by unfold mmost at h; omega
  | n + 1, h => by
    unfold mmost at h ⊢
    split
    · rename_i q
      exact ⟨q.1.1, by rw [Int.toNat_natCast]; exact q.1.2.1⟩
    · rename_i q
      rw [if_neg q] at h
      exact mmost_hit S o f n h
theorem mmost_max (S : Nat → Nat → Int) (o : Int) : ∀ n k : Nat, k < n → ¬ (k : Int) = o → ¬ S 3 k = 0 → 0 ≤ mmost S o (-1) n ∧ S 5 k ≤ S 5 (mmost S o (-1) n).toNat
  | 0, k, h, _, _ => absurd h (Nat.not_lt_zero k)
  | n + 1, k, h, h1, h2 => by
    have hb := mmost_b S o (-1) n
    unfold mmost
    by_cases hk : k = n
    · subst hk
      split
      · rw [Int.toNat_natCast]; omega
      · omega
    · have ih := mmost_max S o n k (by omega) h1 h2
      split
      · rw [Int.toNat_natCast]; omega
      · exact ih
theorem moth_pos (S : Nat → Nat → Int) (o : Nat) : ∀ n : Nat, 0 < moth S o n → ∃ k : Nat, k < n ∧ ¬ (k : Int) = o ∧ ¬ S 3 k = 0 ∧ 0 < S 5 k
  | 0, h => by unfold moth at h; omega
  | n + 1, h => by
    unfold moth at h
    by_cases c : (n : Int) = o ∨ S 3 n = 0
    · rw [if_pos c] at h
      obtain ⟨k, k1, k2⟩ := moth_pos S o n (by omega)
      exact ⟨k, by omega, k2⟩
    · rw [if_neg c] at h
      by_cases d : 0 < S 5 n
      · exact ⟨n, by omega, by omega, by omega, d⟩
      · obtain ⟨k, k1, k2⟩ := moth_pos S o n (by omega)
        exact ⟨k, by omega, k2⟩
theorem moth_cong {S S' : Nat → Nat → Int} {o : Nat} (h3 : S' 3 = S 3) (h5 : S' 5 = S 5) : ∀ n, moth S' o n = moth S o n
  | 0 => rfl
  | n + 1 => by rw [moth, moth, moth_cong h3 h5 n, h3, h5]
theorem moth_su (S : Nat → Nat → Int) {o x : Nat} (v : Int) (hx : ¬ (x : Int) = o) (h3 : ¬ S 3 x = 0) : ∀ n : Nat, moth (su S 5 x v) o n = moth S o n + (if x < n then v - S 5 x else 0)
  | 0 => by simp [moth]
  | n + 1 => by
    rw [moth, moth, moth_su S v hx h3 n, su_ne S x v (by decide : (3 : Nat) ≠ 5), su_at]
    by_cases e : n = x
    · subst e
      rw [if_neg (by omega), if_neg (by omega), if_pos ⟨rfl, rfl⟩, if_neg (by omega), if_pos (by omega)]
      omega
    · rw [if_neg (c := 5 = 5 ∧ n = x) (by omega)]
      (repeat' split) <;> omega
theorem moth_own (S : Nat → Nat → Int) (o : Nat) (v : Int) : ∀ n : Nat, moth (su S 5 o v) o n = moth S o n
  | 0 => rfl
  | n + 1 => by
    rw [moth, moth, moth_own S o v n, su_ne S o v (by decide : (3 : Nat) ≠ 5), su_at]
    by_cases e : n = o
    · subst e
      rw [if_pos (Or.inl rfl), if_pos (Or.inl rfl)]
    · rw [if_neg (c := 5 = 5 ∧ n = o) (by omega)]
theorem mall_moth (S : Nat → Nat → Int) (o : Nat) : ∀ n : Nat, mall S n = moth S o n + (if o < n ∧ ¬ S 3 o = 0 then S 5 o else 0)
  | 0 => by simp [mall, moth]
  | n + 1 => by
    rw [mall, moth, mall_moth S o n]
    by_cases e : n = o
    · subst e
      (repeat' split) <;> omega
    · (repeat' split) <;> omega
