/-! the cache -/
theorem bit_dm (m k : Nat) : m / 2 ^ k % 2 = if m.testBit k then 1 else 0 := by
  rw [Nat.testBit_eq_decide_div_mod_eq]
  have : m / 2 ^ k % 2 < 2 := Nat.mod_lt _ (by decide)
  by_cases h : m / 2 ^ k % 2 = 1
  · simp [h]
  · simp [h]; omega
theorem bit_or (m x k : Nat) : (m ||| 2 ^ x) / 2 ^ k % 2 = if k = x then 1 else m / 2 ^ k % 2 := by
  rw [bit_dm, bit_dm, Nat.testBit_or, Nat.testBit_two_pow]
  by_cases h : k = x
  · subst h; simp
  · have h2 : ¬ x = k := fun q => h q.symm
    simp [h, h2]
def cu (m : Nat) : Nat → Nat
  | 0 => 0
  | n + 1 => cu m n + (1 - m / 2 ^ n % 2)
theorem cu_le (m : Nat) : ∀ n, cu m n ≤ n
  | 0 => Nat.le_refl _
  | n + 1 => by have := cu_le m n; unfold cu; omega
theorem cu_or {m x : Nat} (hx : m / 2 ^ x % 2 = 0) : ∀ n, cu (m ||| 2 ^ x) n + (if x < n then 1 else 0) = cu m n
  | 0 => by simp [cu]
  | n + 1 => by
    have h := cu_or hx n
    rw [cu, cu, bit_or]
    by_cases e : n = x
    · subst e
      rw [if_neg (by omega)] at h
      rw [if_pos rfl, if_pos (by omega), hx]
      omega
    · rw [if_neg e]
      by_cases c : x < n
      · rw [if_pos c] at h; rw [if_pos (by omega)]; omega
      · rw [if_neg c] at h; rw [if_neg (by omega)]; omega
theorem mleast_hit (S : Nat → Nat → Int) (o : Nat) (w : Int) (m : Nat) : ∀ n : Nat, 0 ≤ mleast S o w m n → ¬ S 13 (20 * o + (mleast S o w m n).toNat) = 0 ∧ m / 2 ^ (mleast S o w m n).toNat % 2 = 0 ∧ S 12 (mleast S o w m n).toNat < w
  | 0, h => by unfold mleast at h; omega
  | n + 1, h => by
    unfold mleast at h ⊢
    split
    · rename_i q
      rw [Int.toNat_natCast]
      exact q.1
    · rename_i q
      rw [if_neg q] at h
      exact mleast_hit S o w m n h
/-- taking films out: what is free, what is out -/
def mpo (S : Nat → Nat → Int) (o f : Nat) : Nat → Int → Nat → Int × Nat
  | 0, fr, m => (fr, m)
  | q + 1, fr, m => if fr < S 11 f ∧ ¬ mleast S o (S 12 f) m (mF S) = -1 then mpo S o f q (fr + S 11 (mleast S o (S 12 f) m (mF S)).toNat) (m ||| 2 ^ (mleast S o (S 12 f) m (mF S)).toNat) else (fr, m)
def mclr (S : Nat → Nat → Int) (o m : Nat) : Nat → (Nat → Nat → Int)
  | 0 => S
  | n + 1 => su (mclr S o m n) 13 (20 * o + n) (if mclr S o m n 13 (20 * o + n) = 0 ∨ ¬ m / 2 ^ n % 2 = 0 then 0 else 1)
theorem mclr_ne (S : Nat → Nat → Int) (o m : Nat) {g : Nat} (hg : g ≠ 13) : ∀ n, mclr S o m n g = S g
  | 0 => rfl
  | n + 1 => by rw [mclr, su_ne _ _ _ hg, mclr_ne S o m hg n]
theorem MB_clr {S : Nat → Nat → Int} (I : MB S) (o m : Nat) : ∀ n, MB (mclr S o m n)
  | 0 => I
  | n + 1 => MB_su (MB_clr I o m n) 13 _ (by show _ ∧ _ ≤ (1 : Int); split <;> omega)
def mput (S : Nat → Nat → Int) (o f : Nat) : Nat → Nat → Int :=
  if S 11 f ≤ (mpo S o f 20 (S 6 o - mused S o (mF S)) 0).1 then su (mclr S o (mpo S o f 20 (S 6 o - mused S o (mF S)) 0).2 (mF S)) 13 (20 * o + f) 1 else S
theorem mput_ne (S : Nat → Nat → Int) (o f : Nat) {g : Nat} (hg : g ≠ 13) : mput S o f g = S g := by
  unfold mput
  split
  · rw [su_ne _ _ _ hg, mclr_ne _ _ _ hg]
  · rfl
/-! leaving -/
def mlA (S : Nat → Nat → Int) (o k : Nat) : Nat → Nat → Int :=
  su (su (su (su S 7 o (S 7 o - (S 9 (10 * o + k) - S 9 (10 * k + o)))) 7 k (su S 7 o (S 7 o - (S 9 (10 * o + k) - S 9 (10 * k + o))) 7 k + (S 9 (10 * o + k) - S 9 (10 * k + o)))) 9 (10 * o + k) 0) 9 (10 * k + o) 0
def ml1 (S : Nat → Nat → Int) (o : Nat) : Nat → (Nat → Nat → Int)
  | 0 => S
  | n + 1 => mlA (ml1 S o n) o n
def ml2 (S : Nat → Nat → Int) (o : Nat) : Nat → (Nat → Nat → Int)
  | 0 => S
  | n + 1 => su (ml2 S o n) 13 (20 * o + n) 0
def ml3 (S : Nat → Nat → Int) (o : Nat) : Nat → (Nat → Nat → Int)
  | 0 => S
  | n + 1 => if ml3 S o n 16 n = 0 then mdec (su (ml3 S o n) 20 (10 * n + o) 0) n else ml3 S o n
theorem mlA_ne (S : Nat → Nat → Int) (o k : Nat) {g : Nat} (h7 : g ≠ 7) (h9 : g ≠ 9) : mlA S o k g = S g := by
  unfold mlA
  rw [su_ne _ _ _ h9, su_ne _ _ _ h9, su_ne _ _ _ h7, su_ne _ _ _ h7]
theorem ml1_ne (S : Nat → Nat → Int) (o : Nat) {g : Nat} (h7 : g ≠ 7) (h9 : g ≠ 9) : ∀ n, ml1 S o n g = S g
  | 0 => rfl
  | n + 1 => by rw [ml1, mlA_ne _ _ _ h7 h9, ml1_ne S o h7 h9 n]
theorem ml2_ne (S : Nat → Nat → Int) (o : Nat) {g : Nat} (h : g ≠ 13) : ∀ n, ml2 S o n g = S g
  | 0 => rfl
  | n + 1 => by rw [ml2, su_ne _ _ _ h, ml2_ne S o h n]
theorem ml3_ne (S : Nat → Nat → Int) (o : Nat) {g : Nat} (h1 : g ≠ 16) (h2 : g ≠ 19) (h3 : g ≠ 21) (h4 : g ≠ 22) (h5 : g ≠ 20) : ∀ n, ml3 S o n g = S g
  | 0 => rfl
  | n + 1 => by
    rw [ml3]
    split
    · rw [mdec_ne _ _ h1 h2 h3 h4, su_ne _ _ _ h5, ml3_ne S o h1 h2 h3 h4 h5 n]
    · exact ml3_ne S o h1 h2 h3 h4 h5 n
theorem MB_lA {S : Nat → Nat → Int} (I : MB S) (o k : Nat) : MB (mlA S o k) := MB_su (MB_su (MB_su7 (MB_su7 I _ _) _ _) 9 _ (v := 0) (by decide)) 9 _ (v := 0) (by decide)
theorem MB_l1 {S : Nat → Nat → Int} (I : MB S) (o : Nat) : ∀ n, MB (ml1 S o n)
  | 0 => I
  | n + 1 => MB_lA (MB_l1 I o n) o n
theorem MB_l2 {S : Nat → Nat → Int} (I : MB S) (o : Nat) : ∀ n, MB (ml2 S o n)
  | 0 => I
  | n + 1 => MB_su (MB_l2 I o n) 13 _ (v := 0) (by decide)
theorem MB_l3 {S : Nat → Nat → Int} (I : MB S) (o : Nat) : ∀ n, MB (ml3 S o n)
  | 0 => I
  | n + 1 => by
    rw [ml3]
    split
    · exact MB_dec (MB_su (MB_l3 I o n) 20 _ (v := 0) (by decide)) n
    · exact MB_l3 I o n
def cLeave (S : Nat → Nat → Int) (w : Int) : Int := if ¬ (0 ≤ w ∧ w ≤ S 2 0 - 1) then 1 else if S 3 w.toNat = 0 then 2 else 0
def sLv2 (S : Nat → Nat → Int) (o : Nat) : Nat → Nat → Int := ml2 (ml1 (su S 3 o 0) o (mM S)) o 20
def sLeave (S : Nat → Nat → Int) (o : Nat) : Nat → Nat → Int := ml3 (sLv2 S o) o (mP S)
/-! fetching -/
def fAre (S : Nat → Nat → Int) (w z : Int) : Prop := (0 ≤ w ∧ w ≤ S 2 0 - 1) ∧ 0 ≤ z ∧ z ≤ S 10 0 - 1
def fFrom (S : Nat → Nat → Int) (o f : Nat) : Int := if S 13 (20 * o + f) = 0 then mmost S (o : Int) (f : Int) (mM S) else -1
def fLent (S : Nat → Nat → Int) (o f : Nat) : Prop := ¬ fFrom S o f = -1 ∧ S 11 f ≤ S 5 (fFrom S o f).toNat
def cFetch (S : Nat → Nat → Int) (w z : Int) : Int :=
  if ¬ ((0 ≤ w ∧ w ≤ S 2 0 - 1) ∧ 0 ≤ z ∧ z ≤ S 10 0 - 1) then 1
  else if ¬ (¬ S 3 w.toNat = 0 ∧ S 14 0 < 300) then 2
  else if S 13 (20 * w.toNat + z.toNat) = 0 ∧ ¬ (¬ fFrom S w.toNat z.toNat = -1 ∧ S 11 z.toNat ≤ S 5 (fFrom S w.toNat z.toNat).toNat) ∧ mall S (mM S) < S 11 z.toNat then 2 else 0
def fPays (S : Nat → Nat → Int) (o f : Nat) : Int := if ¬ S 13 (20 * o + f) = 0 then 0 else S 11 f * (if ¬ fFrom S o f = -1 ∧ S 11 f ≤ S 5 (fFrom S o f).toNat then mval S 2 else mprice S)
def fS1 (S : Nat → Nat → Int) (o f : Nat) : Nat → Nat → Int :=
  if ¬ fFrom S o f = -1 ∧ S 11 f ≤ S 5 (fFrom S o f).toNat then
    su (su S 5 (fFrom S o f).toNat (S 5 (fFrom S o f).toNat - S 11 f)) 7 (fFrom S o f).toNat (S 7 (fFrom S o f).toNat + fPays S o f)
  else if S 13 (20 * o + f) = 0 then mbring S o f else S
def fS2 (S1 : Nat → Nat → Int) (o f : Nat) (p : Int) : Nat → Nat → Int :=
  su (su (su (su S1 7 o (S1 7 o - p)) 12 f (S1 12 f + 1)) 8 o (S1 8 o + 1)) 14 0 (S1 14 0 + 1)
def sFetch (S : Nat → Nat → Int) (o f : Nat) : Nat → Nat → Int :=
  if S 13 (20 * o + f) = 0 ∧ ¬ (¬ fFrom S o f = -1 ∧ S 11 f ≤ S 5 (fFrom S o f).toNat) then mput (fS2 (fS1 S o f) o f (fPays S o f)) o f else fS2 (fS1 S o f) o f (fPays S o f)
