theorem Z.cv {X : zX} {pc : Nat} {l l' st : List Value} {h : zH} {k n : Nat} (kk : Z X pc l' st h k n) (e : l = l') : Z X pc l st h k n := e ▸ kk
/-- the place of the proposal in force -/
def mvF (S : Nat → Nat → Int) (r : Int) : Nat → Int
  | 0 => -1
  | n + 1 => if (S 16 n = 1 ∧ S 17 n = r ∧ S 19 n ≤ S 1 0) ∧ (mvF S r n = -1 ∨ S 19 (mvF S r n).toNat ≤ S 19 n) then (n : Int) else mvF S r n
theorem mvF_b (S : Nat → Nat → Int) (r : Int) : ∀ n : Nat, -1 ≤ mvF S r n ∧ mvF S r n < n
  | 0 => by unfold mvF; omega
  | n + 1 => by
    have := mvF_b S r n
    unfold mvF
    split <;> omega
def mval (S : Nat → Nat → Int) (r : Int) : Int := if ¬ mvF S r (S 15 0).toNat = -1 then S 18 (mvF S r (S 15 0).toNat).toNat else if r = 0 then 4 else if r = 1 then 2 else 1
theorem mval_b {S : Nat → Nat → Int} (I : MB S) (r : Int) : 0 ≤ mval S r ∧ mval S r ≤ 9 := by
  unfold mval
  split
  · exact I 18 _ (by decide)
  · split
    · omega
    · split <;> omega
def mprice (S : Nat → Nat → Int) : Int := mval S (if 18 ≤ S 1 0 % 24 ∧ S 1 0 % 24 ≤ 22 then 0 else 1)
def mmany (S : Nat → Nat → Int) : Nat → Int
  | 0 => 0
  | n + 1 => mmany S n + (if S 3 n = 0 then 0 else 1)
theorem mmany_b (S : Nat → Nat → Int) : ∀ n : Nat, 0 ≤ mmany S n ∧ mmany S n ≤ n
  | 0 => by unfold mmany; omega
  | n + 1 => by
    have := mmany_b S n
    unfold mmany
    split <;> omega
def mvoted (S : Nat → Nat → Int) (p : Nat) (w : Int) : Nat → Int
  | 0 => 0
  | n + 1 => mvoted S p w n + (if ¬ S 3 n = 0 ∧ S 20 (10 * p + n) = w then 1 else 0)
theorem mvoted_b (S : Nat → Nat → Int) (p : Nat) (w : Int) : ∀ n : Nat, 0 ≤ mvoted S p w n ∧ mvoted S p w n ≤ n
  | 0 => by unfold mvoted; omega
  | n + 1 => by
    have := mvoted_b S p w n
    unfold mvoted
    split <;> omega
def mM (S : Nat → Nat → Int) : Nat := (S 2 0).toNat
def mF (S : Nat → Nat → Int) : Nat := (S 10 0).toNat
def mP (S : Nat → Nat → Int) : Nat := (S 15 0).toNat
def mdecS (S : Nat → Nat → Int) (p : Nat) : Nat → Nat → Int :=
  if mmany S (mM S) < 2 * mvoted S p 1 (mM S) then su (su S 16 p 1) 19 p (S 1 0 + 1)
  else if 0 < mmany S (mM S) ∧ mmany S (mM S) ≤ 2 * mvoted S p 2 (mM S) then su S 16 p 2 else S
def mdec (S : Nat → Nat → Int) (p : Nat) : Nat → Nat → Int := su (su (mdecS S p) 21 p (mvoted S p 1 (mM S))) 22 p (mvoted S p 2 (mM S))
def mused (S : Nat → Nat → Int) (o : Nat) : Nat → Int
  | 0 => 0
  | n + 1 => mused S o n + (if S 13 (20 * o + n) = 0 then 0 else S 11 n)
theorem mused_b {S : Nat → Nat → Int} (I : MB S) (o : Nat) : ∀ n : Nat, 0 ≤ mused S o n ∧ mused S o n ≤ 20 * n
  | 0 => by unfold mused; omega
  | n + 1 => by
    have := mused_b I o n
    have h1 : 0 ≤ S 11 n ∧ S 11 n ≤ 20 := I 11 n (by decide)
    unfold mused
    split <;> omega
def mmost (S : Nat → Nat → Int) (o : Int) (f : Int) : Nat → Int
  | 0 => -1
  | n + 1 => if (¬ (n : Int) = o ∧ ¬ S 3 n = 0 ∧ (f = -1 ∨ ¬ S 13 (20 * n + f.toNat) = 0)) ∧ (mmost S o f n = -1 ∨ S 5 (mmost S o f n).toNat < S 5 n) then (n : Int) else mmost S o f n
theorem mmost_b (S : Nat → Nat → Int) (o f : Int) : ∀ n : Nat, -1 ≤ mmost S o f n ∧ mmost S o f n < n
  | 0 => by unfold mmost; omega
  | n + 1 => by
    have := mmost_b S o f n
    unfold mmost
    split <;> omega
def mall (S : Nat → Nat → Int) : Nat → Int
  | 0 => 0
  | n + 1 => mall S n + (if S 3 n = 0 then 0 else S 5 n)
theorem mall_b {S : Nat → Nat → Int} (I : MB S) : ∀ n : Nat, 0 ≤ mall S n ∧ mall S n ≤ 20 * n
  | 0 => by unfold mall; omega
  | n + 1 => by
    have := mall_b I n
    have h1 : 0 ≤ S 5 n ∧ S 5 n ≤ 20 := I 5 n (by decide)
    unfold mall
    split <;> omega
