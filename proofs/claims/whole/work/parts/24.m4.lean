def mfigs (x : Int) : Int := if x < 10 then 1 else 2
def mfig (x at9 : Int) : Int := if x < 10 then (if at9 = 0 then 48 + x else 0) else if at9 = 0 then 48 + x / 10 else if at9 = 1 then 48 + x % 10 else 0
theorem mfigs_b (x : Int) : 1 ≤ mfigs x ∧ mfigs x ≤ 2 := by unfold mfigs; split <;> omega
theorem jI_div10 {x : Int} (h1 : 0 ≤ x) (h2 : x < 2147483648) (d : Nat) (hd : 0 < d) (hd2 : d < 2 ^ 31) : jI x / jI (d : Int) = jI (x / d) := by
  obtain ⟨q, rfl⟩ := Int.eq_ofNat_of_zero_le h1
  rw [jI_nat, jI_nat, show ((q : Int) / (d : Int)) = ((q / d : Nat) : Int) from rfl, jI_nat]
  exact pk_div (by omega) hd hd2
theorem jI_rem10 {x : Int} (h1 : 0 ≤ x) (h2 : x < 2147483648) (d : Nat) (hd : 0 < d) (hd2 : d < 2 ^ 31) : jI x - jI x / jI (d : Int) * jI (d : Int) = jI (x % d) := by
  obtain ⟨q, rfl⟩ := Int.eq_ofNat_of_zero_le h1
  rw [jI_nat, jI_nat, show ((q : Int) % (d : Int)) = ((q % d : Nat) : Int) from rfl, jI_nat]
  exact pk_rem (by omega) hd hd2
theorem zsh_l : ∀ n, n < 32 → ((nI n &&& 31).toBitVec.smod 32).toNat = n := by decide +kernel
theorem jI_shr {m k : Nat} (hm : m < 2 ^ 31) (hk : k < 32) : jI (m : Int) >>> (jI (k : Int) &&& 31) = jI ((m / 2 ^ k : Nat) : Int) := by
  rw [jI_nat, jI_nat, jI_nat]
  exact pk_shrN hm _ k (zsh_l k hk)
theorem jI_and1 {m : Nat} (hm : m < 2 ^ 31) : jI (m : Int) &&& jI 1 = jI ((m % 2 : Nat) : Int) := by
  rw [jI_nat, jI_nat]
  exact pk_andN (by omega) 1 (by decide)
theorem jI_shl1 {k : Nat} (hk : k < 31) : jI 1 <<< (jI (k : Int) &&& 31) = jI ((2 ^ k : Nat) : Int) := by
  rw [jI_nat, jI_nat, show jI 1 = nI 1 from jI_nat 1]
  have h := pk_shlN (n := 1) (nI k &&& 31) k (zsh_l k (by omega)) (by rw [Nat.one_mul]; exact Nat.pow_lt_pow_right (by decide) (by omega))
  rw [Nat.one_mul] at h
  exact h
theorem jI_or {m k : Nat} (hm : m < 2 ^ 31) (hk : k < 2 ^ 31) : jI (m : Int) ||| jI (k : Int) = jI ((m ||| k : Nat) : Int) := by
  rw [jI_nat, jI_nat, jI_nat]
  apply Int32.toBitVec.inj
  simp [BitVec.ofNat_or]
/-- the film in a cache that is worth least, of those not marked, below a worth -/
def mleast (S : Nat → Nat → Int) (o : Nat) (w : Int) (m : Nat) : Nat → Int
  | 0 => -1
  | n + 1 => if (¬ S 13 (20 * o + n) = 0 ∧ m / 2 ^ n % 2 = 0 ∧ S 12 n < w) ∧ (mleast S o w m n = -1 ∨ S 12 n < S 12 (mleast S o w m n).toNat) then (n : Int) else mleast S o w m n
theorem mleast_b (S : Nat → Nat → Int) (o : Nat) (w : Int) (m : Nat) : ∀ n : Nat, -1 ≤ mleast S o w m n ∧ mleast S o w m n < n
  | 0 => by unfold mleast; omega
  | n + 1 => by
    have := mleast_b S o w m n
    unfold mleast
    split <;> omega
/-- own owes other so many units more -/
def mless (S : Nat → Nat → Int) (o x : Nat) (am : Int) : Int := if S 9 (10 * x + o) < am then S 9 (10 * x + o) else am
def mowe (S : Nat → Nat → Int) (o x : Nat) (am : Int) : Nat → Nat → Int :=
  su (su S 9 (10 * x + o) (S 9 (10 * x + o) - mless S o x am)) 9 (10 * o + x) (su S 9 (10 * x + o) (S 9 (10 * x + o) - mless S o x am) 9 (10 * o + x) + (am - mless S o x am))
