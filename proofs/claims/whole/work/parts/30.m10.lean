theorem MB_set9 {S : Nat → Nat → Int} (I : MB S) (i : Nat) {v : Int} (h : 0 ≤ v ∧ v ≤ 1000000) : MB (su S 9 i v) := MB_su I 9 i h
theorem mowe_at (S : Nat → Nat → Int) (o x : Nat) (b : Int) (j : Nat) : mowe S o x b 9 j = S 9 j - (if j = 10 * x + o then mless S o x b else 0) + (if j = 10 * o + x then b - mless S o x b else 0) := by
  unfold mowe
  rw [su_at, su_at, su_at]
  by_cases h1 : j = 10 * o + x
  · subst h1
    by_cases h2 : 10 * o + x = 10 * x + o
    · rw [if_pos ⟨rfl, rfl⟩, if_pos ⟨rfl, h2⟩, if_pos h2, if_pos rfl, h2]
    · rw [if_pos ⟨rfl, rfl⟩, if_neg (fun q => h2 q.2), if_neg h2, if_pos rfl]
      omega
  · rw [if_neg (fun q => h1 q.2), if_neg h1]
    by_cases h2 : j = 10 * x + o
    · subst h2
      rw [if_pos ⟨rfl, rfl⟩, if_pos rfl]
      omega
    · rw [if_neg (fun q => h2 q.2), if_neg h2]
      omega
theorem mowe_le {S : Nat → Nat → Int} {o x : Nat} {b D : Int} (hb : 0 ≤ b) (h : ∀ j, 0 ≤ S 9 j ∧ S 9 j ≤ D) : ∀ j, 0 ≤ mowe S o x b 9 j ∧ mowe S o x b 9 j ≤ D + b := by
  intro j
  rw [mowe_at]
  have h1 := h (10 * x + o)
  have h2 := h j
  have h3 : 0 ≤ mless S o x b ∧ mless S o x b ≤ b ∧ mless S o x b ≤ S 9 (10 * x + o) := by unfold mless; split <;> omega
  by_cases e1 : j = 10 * x + o
  · subst e1
    (repeat' split) <;> omega
  · (repeat' split) <;> omega
theorem MB_owe {S : Nat → Nat → Int} (I : MB S) {o x : Nat} {b D : Int} (hb : 0 ≤ b) (hD : D + b ≤ 1000000) (h : ∀ j, S 9 j ≤ D) : MB (mowe S o x b) := by
  intro g j hg
  by_cases e : g = 9
  · subst e
    have := mowe_le (o := o) (x := x) hb (fun j => ⟨(I 9 j (by decide)).1, h j⟩) j
    exact ⟨this.1, Int.le_trans this.2 hD⟩
  · rw [mowe_ne _ _ _ _ e]
    exact I g j hg
def mby (S : Nat → Nat → Int) (x : Nat) (r : Int) : Int := if S 5 x < r then S 5 x else r
theorem mbl_succ (o q : Nat) (S : Nat → Nat → Int) (r : Int) : mbl o (q + 1) S r = if 0 < r then mbl o q (mowe (su S 5 (mmost S (o : Int) (-1) (mM S)).toNat (S 5 (mmost S (o : Int) (-1) (mM S)).toNat - mby S (mmost S (o : Int) (-1) (mM S)).toNat r)) o (mmost S (o : Int) (-1) (mM S)).toNat (mby S (mmost S (o : Int) (-1) (mM S)).toNat r)) (r - mby S (mmost S (o : Int) (-1) (mM S)).toNat r) else S := rfl
theorem mbl_0 (o : Nat) (S : Nat → Nat → Int) : ∀ q, mbl o q S 0 = S
  | 0 => rfl
  | q + 1 => by rw [mbl_succ, if_neg (by decide)]
/-- what a round of 'bring' needs and keeps -/
def BI (S : Nat → Nat → Int) (o : Nat) (r : Int) : Prop := MB S ∧ 0 ≤ r ∧ r ≤ 20 ∧ r ≤ moth S o (mM S) ∧ ∀ j, S 9 j ≤ 6000 + (20 - r)
theorem BI.step {S : Nat → Nat → Int} {o : Nat} {r : Int} (h : BI S o r) (hr : 0 < r) : 0 ≤ mmost S (o : Int) (-1) (mM S) ∧ 0 < mby S (mmost S (o : Int) (-1) (mM S)).toNat r ∧ mby S (mmost S (o : Int) (-1) (mM S)).toNat r ≤ r ∧
    BI (mowe (su S 5 (mmost S (o : Int) (-1) (mM S)).toNat (S 5 (mmost S (o : Int) (-1) (mM S)).toNat - mby S (mmost S (o : Int) (-1) (mM S)).toNat r)) o (mmost S (o : Int) (-1) (mM S)).toNat (mby S (mmost S (o : Int) (-1) (mM S)).toNat r)) o (r - mby S (mmost S (o : Int) (-1) (mM S)).toNat r) := by
  obtain ⟨I, h0, h20, hs, h9⟩ := h
  obtain ⟨k, k1, k2, k3, k4⟩ := moth_pos S o (mM S) (by omega)
  have hm := mmost_max S (o : Int) (mM S) k k1 k2 k3
  have hh := mmost_hit S (o : Int) (-1) (mM S) hm.1
  have hb := mmost_b S (o : Int) (-1) (mM S)
  generalize hx : (mmost S (o : Int) (-1) (mM S)).toNat = x at *
  have hx' : mmost S (o : Int) (-1) (mM S) = (x : Int) := by omega
  have h5 : 0 ≤ S 5 x ∧ S 5 x ≤ 20 := I 5 x (by decide)
  have hby : 0 < mby S x r ∧ mby S x r ≤ r ∧ mby S x r ≤ S 5 x := by unfold mby; split <;> omega
  refine ⟨hm.1, hby.1, hby.2.1, ?_⟩
  have I1 : MB (su S 5 x (S 5 x - mby S x r)) := MB_su I 5 x (by show _ ∧ _ ≤ (20 : Int); omega)
  have e9 : su S 5 x (S 5 x - mby S x r) 9 = S 9 := su_ne _ _ _ (by decide)
  refine ⟨MB_owe I1 (D := 6000 + (20 - r)) (by omega) (by omega) (fun j => by rw [e9]; exact h9 j), by omega, by omega, ?_, fun j => ?_⟩
  · rw [moth_cong (mowe_ne _ _ _ _ (by decide)) (mowe_ne _ _ _ _ (by decide))]
    have e2 : mM (mowe (su S 5 x (S 5 x - mby S x r)) o x (mby S x r)) = mM S := by
      unfold mM
      rw [mowe_ne _ _ _ _ (by decide), su_ne _ _ _ (by decide)]
    rw [e2, moth_su S _ (by omega) hh.2]
    rw [if_pos (by omega)]
    omega
  · have := mowe_le (S := su S 5 x (S 5 x - mby S x r)) (o := o) (x := x) (b := mby S x r) (D := 6000 + (20 - r)) (by omega) (fun j => by rw [e9]; exact ⟨(I 9 j (by decide)).1, h9 j⟩) j
    omega
theorem mM_owe (S : Nat → Nat → Int) (o x y : Nat) (v b : Int) : mM (mowe (su S 5 y v) o x b) = mM S := by
  unfold mM
  rw [mowe_ne _ _ _ _ (by decide), su_ne _ _ _ (by decide)]
