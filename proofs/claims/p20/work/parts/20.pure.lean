/-! THE TABLES: how the clubs' numbers go (S), apart from any machine -/
def su (S : Nat → Nat → Int) (k i : Nat) (v : Int) : Nat → Nat → Int := fun g => if g = k then va_up (S k) i v else S g
theorem su_ne (S : Nat → Nat → Int) {k g : Nat} (i : Nat) (v : Int) (h : g ≠ k) : su S k i v g = S g := by simp [su, h]
theorem su_at (S : Nat → Nat → Int) (k i : Nat) (v : Int) (g j : Nat) : su S k i v g j = if g = k ∧ j = i then v else S g j := by
  unfold su va_up
  by_cases h1 : g = k
  · subst h1
    by_cases h2 : j = i <;> simp [h2]
  · simp [h1]

def mfs (t : Int) (S : Nat → Nat → Int) (a : Nat → Nat) : List Value := [vI t, vI (S 1 0), vI (S 2 0), .ref (a 3), .ref (a 4), .ref (a 5), .ref (a 6), .ref (a 7), .ref (a 8), .ref (a 9), vI (S 10 0), .ref (a 11), .ref (a 12), .ref (a 13), vI (S 14 0), vI (S 15 0), .ref (a 16), .ref (a 17), .ref (a 18), .ref (a 19), .ref (a 20), .ref (a 21), .ref (a 22)]
def mIs (k : Nat) : Bool := match k with
  | 3 => true
  | 4 => true
  | 5 => true
  | 6 => true
  | 7 => true
  | 8 => true
  | 9 => true
  | 11 => true
  | 12 => true
  | 13 => true
  | 16 => true
  | 17 => true
  | 18 => true
  | 19 => true
  | 20 => true
  | 21 => true
  | 22 => true
  | _ => false
def mcl (k : Nat) : Nat := match k with
  | 3 => 1
  | 13 => 1
  | _ => 0
def mln (k : Nat) : Nat := match k with
  | 3 => 10
  | 4 => 10
  | 5 => 10
  | 6 => 10
  | 7 => 10
  | 8 => 10
  | 9 => 100
  | 11 => 20
  | 12 => 20
  | 13 => 200
  | 16 => 30
  | 17 => 30
  | 18 => 30
  | 19 => 30
  | 20 => 300
  | 21 => 30
  | 22 => 30
  | _ => 0
def mhi (k : Nat) : Int := match k with
  | 0 => 3
  | 1 => 2000
  | 2 => 10
  | 3 => 1
  | 4 => 20
  | 5 => 20
  | 6 => 50
  | 7 => 0
  | 8 => 300
  | 9 => 1000000
  | 10 => 20
  | 11 => 20
  | 12 => 300
  | 13 => 1
  | 14 => 300
  | 15 => 30
  | 16 => 2
  | 17 => 2
  | 18 => 9
  | 19 => 2001
  | 20 => 2
  | 21 => 10
  | _ => 10
def MR (G : zG) (a : Nat → Nat) (t : Int) (S : Nat → Nat → Int) (h : zH) : Prop := h (a 0) = some (eO 8 (mfs t S a)) ∧ (∀ k, mIs k = true → h (a k) = some (eI (G.2.1 (mcl k)) (mln k) (S k))) ∧ ∀ i j, (i = 0 ∨ mIs i = true) → (j = 0 ∨ mIs j = true) → a i = a j → i = j
/-- bounds of what the cells hold -/
def MB (S : Nat → Nat → Int) : Prop := ∀ k j, k ≠ 7 → 0 ≤ S k j ∧ S k j ≤ mhi k

/-- the place of the proposal in force -/
def mvF (S : Nat → Nat → Int) (r : Int) : Nat → Int
  | 0 => -1
  | n + 1 => if (S 16 n = 1 ∧ S 17 n = r ∧ S 19 n ≤ S 1 0) ∧ (mvF S r n = -1 ∨ S 19 (mvF S r n).toNat ≤ S 19 n) then (n : Int) else mvF S r n
def mval (S : Nat → Nat → Int) (r : Int) : Int := if ¬ mvF S r (S 15 0).toNat = -1 then S 18 (mvF S r (S 15 0).toNat).toNat else if r = 0 then 4 else if r = 1 then 2 else 1
def mprice (S : Nat → Nat → Int) : Int := mval S (if 18 ≤ S 1 0 % 24 ∧ S 1 0 % 24 ≤ 22 then 0 else 1)
def mmany (S : Nat → Nat → Int) : Nat → Int
  | 0 => 0
  | n + 1 => mmany S n + (if S 3 n = 0 then 0 else 1)
theorem mmany_b (S : Nat → Nat → Int) : ∀ n : Nat, 0 ≤ mmany S n ∧ mmany S n ≤ n
  | 0 => by unfold mmany; omega
  | n + 1 => by
    have := mmany_b S n
    unfold mmany
    split <;> omega
def mvoted (S : Nat → Nat → Int) (p : Nat) (w : Int) : Nat → Int
  | 0 => 0
  | n + 1 => mvoted S p w n + (if ¬ S 3 n = 0 ∧ S 20 (10 * p + n) = w then 1 else 0)
def mM (S : Nat → Nat → Int) : Nat := (S 2 0).toNat
def mF (S : Nat → Nat → Int) : Nat := (S 10 0).toNat
def mP (S : Nat → Nat → Int) : Nat := (S 15 0).toNat
def mdecS (S : Nat → Nat → Int) (p : Nat) : Nat → Nat → Int :=
  if mmany S (mM S) < 2 * mvoted S p 1 (mM S) then su (su S 16 p 1) 19 p (S 1 0 + 1)
  else if 0 < mmany S (mM S) ∧ mmany S (mM S) ≤ 2 * mvoted S p 2 (mM S) then su S 16 p 2 else S
def mdec (S : Nat → Nat → Int) (p : Nat) : Nat → Nat → Int := su (su (mdecS S p) 21 p (mvoted S p 1 (mM S))) 22 p (mvoted S p 2 (mM S))
def mused (S : Nat → Nat → Int) (o : Nat) : Nat → Int
  | 0 => 0
  | n + 1 => mused S o n + (if S 13 (20 * o + n) = 0 then 0 else S 11 n)
def mmost (S : Nat → Nat → Int) (o : Int) (f : Int) : Nat → Int
  | 0 => -1
  | n + 1 => if (¬ (n : Int) = o ∧ ¬ S 3 n = 0 ∧ (f = -1 ∨ ¬ S 13 (20 * n + f.toNat) = 0)) ∧ (mmost S o f n = -1 ∨ S 5 (mmost S o f n).toNat < S 5 n) then (n : Int) else mmost S o f n
theorem mmost_b (S : Nat → Nat → Int) (o f : Int) : ∀ n : Nat, -1 ≤ mmost S o f n ∧ mmost S o f n < n
  | 0 => by unfold mmost; omega
  | n + 1 => by
    have := mmost_b S o f n
    unfold mmost
    split <;> omega
def mall (S : Nat → Nat → Int) : Nat → Int
  | 0 => 0
  | n + 1 => mall S n + (if S 3 n = 0 then 0 else S 5 n)
def mfigs (x : Int) : Int := if x < 10 then 1 else 2
def mfig (x at9 : Int) : Int := if x < 10 then (if at9 = 0 then 48 + x else 0) else if at9 = 0 then 48 + x / 10 else if at9 = 1 then 48 + x % 10 else 0
theorem jI_div10 {x : Int} (h1 : 0 ≤ x) (h2 : x < 2147483648) (d : Nat) (hd : 0 < d) (hd2 : d < 2 ^ 31) : jI x / jI (d : Int) = jI (x / d) := by
  obtain ⟨q, rfl⟩ := Int.eq_ofNat_of_zero_le h1
  rw [jI_nat, jI_nat, show ((q : Int) / (d : Int)) = ((q / d : Nat) : Int) from rfl, jI_nat]
  exact pk_div (by omega) hd hd2
theorem jI_rem10 {x : Int} (h1 : 0 ≤ x) (h2 : x < 2147483648) (d : Nat) (hd : 0 < d) (hd2 : d < 2 ^ 31) : jI x - jI x / jI (d : Int) * jI (d : Int) = jI (x % d) := by
  obtain ⟨q, rfl⟩ := Int.eq_ofNat_of_zero_le h1
  rw [jI_nat, jI_nat, show ((q : Int) % (d : Int)) = ((q % d : Nat) : Int) from rfl, jI_nat]
  exact pk_rem (by omega) hd hd2
/-- the film in a cache that is worth least, of those not marked, below a worth -/
def mleast (S : Nat → Nat → Int) (o : Nat) (w : Int) (m : Nat) : Nat → Int
  | 0 => -1
  | n + 1 => if (¬ S 13 (20 * o + n) = 0 ∧ m / 2 ^ n % 2 = 0 ∧ S 12 n < w) ∧ (mleast S o w m n = -1 ∨ S 12 n < S 12 (mleast S o w m n).toNat) then (n : Int) else mleast S o w m n
/-- own owes other so many units more -/
def mless (S : Nat → Nat → Int) (o x : Nat) (am : Int) : Int := if S 9 (10 * x + o) < am then S 9 (10 * x + o) else am
def mowe (S : Nat → Nat → Int) (o x : Nat) (am : Int) : Nat → Nat → Int :=
  su (su S 9 (10 * x + o) (S 9 (10 * x + o) - mless S o x am)) 9 (10 * o + x) (su S 9 (10 * x + o) (S 9 (10 * x + o) - mless S o x am) 9 (10 * o + x) + (am - mless S o x am))

/-- an answer of the reference: refused by a code, or a value and a new state -/
def mAns (G : zG) (a : Nat → Nat) (S : Nat → Nat → Int) (code val : Int) (S' : Nat → Nat → Int) : Option Value → zH → Prop := fun r9 h9 =>
  (¬ code = 0 → r9 = some (vI 0) ∧ MR G a code S h9) ∧ (code = 0 → r9 = some (vI val) ∧ MR G a 0 S' h9)
theorem mAns.no {G : zG} {a : Nat → Nat} {S S' : Nat → Nat → Int} {code val w : Int} {h : zH} (R : MR G a w S h) (hw : w = code) (hc : ¬ w = 0) : mAns G a S code val S' (some (vI 0)) h := by
  subst hw
  exact ⟨fun _ => ⟨rfl, R⟩, fun q => absurd q hc⟩
theorem mAns.yes {G : zG} {a : Nat → Nat} {S S' : Nat → Nat → Int} {code val w x : Int} {h : zH} (R : MR G a w S' h) (hw : w = code) (hc : w = 0) (hx : x = val) : mAns G a S code val S' (some (vI x)) h := by
  subst hw; subst hx; subst hc
  exact ⟨fun q => absurd rfl q, fun _ => ⟨rfl, R⟩⟩
def cJoin (S : Nat → Nat → Int) (u r : Int) : Int := if ¬ ((1 ≤ u ∧ u ≤ 20) ∧ 0 ≤ r ∧ r ≤ 50) then 1 else if S 2 0 = 10 then 2 else 0
def sJoin (S : Nat → Nat → Int) (u r : Int) : Nat → Nat → Int := su (su (su (su (su S 3 (mM S) 1) 4 (mM S) u) 5 (mM S) u) 6 (mM S) r) 2 0 (S 2 0 + 1)
def cFilm (S : Nat → Nat → Int) (z : Int) : Int := if ¬ (1 ≤ z ∧ z ≤ 20) then 1 else if S 10 0 = 20 then 2 else 0
def sFilm (S : Nat → Nat → Int) (z : Int) : Nat → Nat → Int := su (su S 11 (mF S) z) 10 0 (S 10 0 + 1)
def cPass (S : Nat → Nat → Int) (w : Int) : Int := if ¬ (1 ≤ w ∧ w ≤ 100) then 1 else if 2000 < S 1 0 + w then 2 else 0
def mpl (S : Nat → Nat → Int) : Nat → (Nat → Nat → Int)
  | 0 => S
  | n + 1 => su (mpl S n) 5 n (S 4 n)
theorem mpl_ne (S : Nat → Nat → Int) {g : Nat} (hg : g ≠ 5) : ∀ n, mpl S n g = S g
  | 0 => rfl
  | n + 1 => by rw [mpl, su_ne _ _ _ hg, mpl_ne S hg n]
def sPass (S : Nat → Nat → Int) (w : Int) : Nat → Nat → Int := mpl (su S 1 0 (S 1 0 + w)) (mM S)
def cProp (S : Nat → Nat → Int) (m r v : Int) : Int := if ¬ ((0 ≤ m ∧ m ≤ S 2 0 - 1) ∧ 0 ≤ r ∧ r ≤ 2) then 1 else if ¬ (0 ≤ v ∧ v ≤ 9) then 2 else if S 3 m.toNat = 0 ∨ S 15 0 = 30 then 3 else 0
def sProp (S : Nat → Nat → Int) (r v : Int) : Nat → Nat → Int := su (su (su S 17 (mP S) r) 18 (mP S) v) 15 0 (S 15 0 + 1)
def cVote (S : Nat → Nat → Int) (m p : Int) : Int := if ¬ ((0 ≤ m ∧ m ≤ S 2 0 - 1) ∧ 0 ≤ p ∧ p ≤ S 15 0 - 1) then 1 else if S 3 m.toNat = 0 ∨ ¬ S 16 p.toNat = 0 then 2 else 0
def sVote (S : Nat → Nat → Int) (m p f : Int) : Nat → Nat → Int := mdec (su S 20 (10 * p.toNat + m.toNat) (if f = 0 then 2 else 1)) p.toNat
def cRule (r : Int) : Int := if 0 ≤ r ∧ r ≤ 2 then 0 else 1
def cPpl (S : Nat → Nat → Int) (p w : Int) : Int := if ¬ (0 ≤ p ∧ p ≤ S 15 0 - 1) then 1 else if ¬ (0 ≤ w ∧ w ≤ 4) then 2 else 0
def vPpl (S : Nat → Nat → Int) (p : Nat) (w : Int) : Int := if w = 0 then S 16 p else if w = 1 then S 17 p else if w = 2 then S 18 p else if w = 3 then (if S 16 p = 0 then mvoted S p 1 (mM S) else S 21 p) else (if S 16 p = 0 then mvoted S p 2 (mM S) else S 22 p)
def cMem (S : Nat → Nat → Int) (m w : Int) : Int := if ¬ (0 ≤ m ∧ m ≤ S 2 0 - 1) then 1 else if ¬ (0 ≤ w ∧ w ≤ 4) then 2 else 0
def vMem (S : Nat → Nat → Int) (m : Nat) (w : Int) : Int := if w = 0 then (if S 3 m = 0 then 0 else 1) else if w = 1 then (if S 3 m = 0 then 0 else S 5 m) else if w = 2 then mused S m (mF S) else if w = 3 then S 7 m else S 8 m
def cHas (S : Nat → Nat → Int) (m f : Int) : Int := if (0 ≤ m ∧ m ≤ S 2 0 - 1) ∧ 0 ≤ f ∧ f ≤ S 10 0 - 1 then 0 else 1
def cOwes (S : Nat → Nat → Int) (m x : Int) : Int := if (0 ≤ m ∧ m ≤ S 2 0 - 1) ∧ 0 ≤ x ∧ x ≤ S 2 0 - 1 then 0 else 1
def cWorth (S : Nat → Nat → Int) (f : Int) : Int := if 0 ≤ f ∧ f ≤ S 10 0 - 1 then 0 else 1
def cAcc (S : Nat → Nat → Int) (m : Int) : Int := if 0 ≤ m ∧ m ≤ S 2 0 - 1 then 0 else 1
theorem MB_su {S : Nat → Nat → Int} (I : MB S) (k i : Nat) {v : Int} (hv : 0 ≤ v ∧ v ≤ mhi k) : MB (su S k i v) := by
  intro g j hg
  rw [su_at]
  split
  · rename_i q
    rw [q.1]
    exact hv
  · exact I g j hg
theorem MB_su7 {S : Nat → Nat → Int} (I : MB S) (i : Nat) (v : Int) : MB (su S 7 i v) := by
  intro g j hg
  rw [su_at, if_neg (fun q => hg q.1)]
  exact I g j hg
theorem mdec_ne (S : Nat → Nat → Int) (p : Nat) {g : Nat} (h1 : g ≠ 16) (h2 : g ≠ 19) (h3 : g ≠ 21) (h4 : g ≠ 22) : mdec S p g = S g := by
  unfold mdec mdecS
  rw [su_ne _ _ _ h4, su_ne _ _ _ h3]
  split
  · rw [su_ne _ _ _ h2, su_ne _ _ _ h1]
  · split
    · rw [su_ne _ _ _ h1]
    · rfl

def mtF (S : Nat → Nat → Int) (k : Nat) (r : Int) : Nat → Int
  | 0 => r
  | n + 1 => if mtF S k r n < 0 then mtF S k r n else if S 13 (20 * k + n) = 0 then mtF S k r n else if mtF S k r n ≤ mfigs (S 11 n) then -1 - (if mtF S k r n = 0 then 44 else mfig (S 11 n) (mtF S k r n - 1)) else mtF S k r n - (1 + mfigs (S 11 n))
def mtE (S : Nat → Nat → Int) (k : Nat) (r : Int) : Int := if mtF S k r (mF S) < 0 then mtF S k r (mF S) else if mtF S k r (mF S) = 0 then -60 else mtF S k r (mF S) - 1
def mtM (S : Nat → Nat → Int) (r : Int) : Nat → Int
  | 0 => r
  | n + 1 => if mtM S r n < 0 then mtM S r n else if S 3 n = 0 then mtM S r n else if mtM S r n < mfigs n then -1 - mfig n (mtM S r n) else mtE S n (mtM S r n - mfigs n)
def mtold (S : Nat → Nat → Int) (r : Int) : Int := if mtM S r (mM S) < 0 then -1 - mtM S r (mM S) else 0
theorem mfig_b {x at9 : Int} (h : 0 ≤ x ∧ x < 100) : 0 ≤ mfig x at9 ∧ mfig x at9 ≤ 57 := by unfold mfig; (repeat' split) <;> omega
def cTold (w : Int) : Int := if w < 0 then 1 else 0
def mbl (o : Nat) : Nat → (Nat → Nat → Int) → Int → (Nat → Nat → Int)
  | 0, S, _ => S
  | q + 1, S, r => if 0 < r then
      (let x := (mmost S (o : Int) (-1) (mM S)).toNat
       let b := if S 5 x < r then S 5 x else r
       mbl o q (mowe (su S 5 x (S 5 x - b)) o x b) (r - b)) else S
def mbring (S : Nat → Nat → Int) (o f : Nat) : Nat → Nat → Int :=
  mbl o 20 (su S 5 o (S 5 o - (if S 5 o < S 11 f then S 5 o else S 11 f))) (S 11 f - (if S 5 o < S 11 f then S 5 o else S 11 f))
/-- what is left of the others' lines -/
def moth (S : Nat → Nat → Int) (o : Nat) : Nat → Int
  | 0 => 0
  | n + 1 => moth S o n + (if (n : Int) = o ∨ S 3 n = 0 then 0 else S 5 n)
theorem mowe_ne (S : Nat → Nat → Int) (o x : Nat) (b : Int) {g : Nat} (h : g ≠ 9) : mowe S o x b g = S g := by
  unfold mowe
  rw [su_ne _ _ _ h, su_ne _ _ _ h]
theorem mmost_hit (S : Nat → Nat → Int) (o f : Int) : ∀ n : Nat, 0 ≤ mmost S o f n → ¬ mmost S o f n = o ∧ ¬ S 3 (mmost S o f n).toNat = 0
  | 0, h => by unfold mmost at h; omega
  | n + 1, h => by
    unfold mmost at h ⊢
    split
    · rename_i q
      exact ⟨q.1.1, by rw [Int.toNat_natCast]; exact q.1.2.1⟩
    · rename_i q
      rw [if_neg q] at h
      exact mmost_hit S o f n h
theorem mmost_max (S : Nat → Nat → Int) (o : Int) : ∀ n k : Nat, k < n → ¬ (k : Int) = o → ¬ S 3 k = 0 → 0 ≤ mmost S o (-1) n ∧ S 5 k ≤ S 5 (mmost S o (-1) n).toNat
  | 0, k, h, _, _ => absurd h (Nat.not_lt_zero k)
  | n + 1, k, h, h1, h2 => by
    have hb := mmost_b S o (-1) n
    unfold mmost
    by_cases hk : k = n
    · subst hk
      split
      · rw [Int.toNat_natCast]; omega
      · omega
    · have ih := mmost_max S o n k (by omega) h1 h2
      split
      · rw [Int.toNat_natCast]; omega
      · exact ih
theorem moth_pos (S : Nat → Nat → Int) (o : Nat) : ∀ n : Nat, 0 < moth S o n → ∃ k : Nat, k < n ∧ ¬ (k : Int) = o ∧ ¬ S 3 k = 0 ∧ 0 < S 5 k
  | 0, h => by unfold moth at h; omega
  | n + 1, h => by
    unfold moth at h
    by_cases c : (n : Int) = o ∨ S 3 n = 0
    · rw [if_pos c] at h
      obtain ⟨k, k1, k2⟩ := moth_pos S o n (by omega)
      exact ⟨k, by omega, k2⟩
    · rw [if_neg c] at h
      by_cases d : 0 < S 5 n
      · exact ⟨n, by omega, by omega, by omega, d⟩
      · obtain ⟨k, k1, k2⟩ := moth_pos S o n (by omega)
        exact ⟨k, by omega, k2⟩
theorem moth_cong {S S' : Nat → Nat → Int} {o : Nat} (h3 : S' 3 = S 3) (h5 : S' 5 = S 5) : ∀ n, moth S' o n = moth S o n
  | 0 => rfl
  | n + 1 => by rw [moth, moth, moth_cong h3 h5 n, h3, h5]
theorem moth_su (S : Nat → Nat → Int) {o x : Nat} (v : Int) (hx : ¬ (x : Int) = o) (h3 : ¬ S 3 x = 0) : ∀ n : Nat, moth (su S 5 x v) o n = moth S o n + (if x < n then v - S 5 x else 0)
  | 0 => by simp [moth]
  | n + 1 => by
    rw [moth, moth, moth_su S v hx h3 n, su_ne S x v (by decide : (3 : Nat) ≠ 5), su_at]
    by_cases e : n = x
    · subst e
      rw [if_neg (by omega), if_neg (by omega), if_pos ⟨rfl, rfl⟩, if_neg (by omega), if_pos (by omega)]
      omega
    · rw [if_neg (c := 5 = 5 ∧ n = x) (by omega)]
      (repeat' split) <;> omega
theorem moth_own (S : Nat → Nat → Int) (o : Nat) (v : Int) : ∀ n : Nat, moth (su S 5 o v) o n = moth S o n
  | 0 => rfl
  | n + 1 => by
    rw [moth, moth, moth_own S o v n, su_ne S o v (by decide : (3 : Nat) ≠ 5), su_at]
    by_cases e : n = o
    · subst e
      rw [if_pos (Or.inl rfl), if_pos (Or.inl rfl)]
    · rw [if_neg (c := 5 = 5 ∧ n = o) (by omega)]
theorem mall_moth (S : Nat → Nat → Int) (o : Nat) : ∀ n : Nat, mall S n = moth S o n + (if o < n ∧ ¬ S 3 o = 0 then S 5 o else 0)
  | 0 => by simp [mall, moth]
  | n + 1 => by
    rw [mall, moth, mall_moth S o n]
    by_cases e : n = o
    · subst e
      (repeat' split) <;> omega
    · (repeat' split) <;> omega

theorem mowe_at (S : Nat → Nat → Int) (o x : Nat) (b : Int) (j : Nat) : mowe S o x b 9 j = S 9 j - (if j = 10 * x + o then mless S o x b else 0) + (if j = 10 * o + x then b - mless S o x b else 0) := by
  unfold mowe
  rw [su_at, su_at, su_at]
  by_cases h1 : j = 10 * o + x
  · subst h1
    by_cases h2 : 10 * o + x = 10 * x + o
    · rw [if_pos ⟨rfl, rfl⟩, if_pos ⟨rfl, h2⟩, if_pos h2, if_pos rfl, h2]
    · rw [if_pos ⟨rfl, rfl⟩, if_neg (fun q => h2 q.2), if_neg h2, if_pos rfl]
      omega
  · rw [if_neg (fun q => h1 q.2), if_neg h1]
    by_cases h2 : j = 10 * x + o
    · subst h2
      rw [if_pos ⟨rfl, rfl⟩, if_pos rfl]
      omega
    · rw [if_neg (fun q => h2 q.2), if_neg h2]
      omega
theorem mowe_le {S : Nat → Nat → Int} {o x : Nat} {b D : Int} (hb : 0 ≤ b) (h : ∀ j, 0 ≤ S 9 j ∧ S 9 j ≤ D) : ∀ j, 0 ≤ mowe S o x b 9 j ∧ mowe S o x b 9 j ≤ D + b := by
  intro j
  rw [mowe_at]
  have h1 := h (10 * x + o)
  have h2 := h j
  have h3 : 0 ≤ mless S o x b ∧ mless S o x b ≤ b ∧ mless S o x b ≤ S 9 (10 * x + o) := by unfold mless; split <;> omega
  by_cases e1 : j = 10 * x + o
  · subst e1
    (repeat' split) <;> omega
  · (repeat' split) <;> omega
theorem MB_owe {S : Nat → Nat → Int} (I : MB S) {o x : Nat} {b D : Int} (hb : 0 ≤ b) (hD : D + b ≤ 1000000) (h : ∀ j, S 9 j ≤ D) : MB (mowe S o x b) := by
  intro g j hg
  by_cases e : g = 9
  · subst e
    have := mowe_le (o := o) (x := x) hb (fun j => ⟨(I 9 j (by decide)).1, h j⟩) j
    exact ⟨this.1, Int.le_trans this.2 hD⟩
  · rw [mowe_ne _ _ _ _ e]
    exact I g j hg
def mby (S : Nat → Nat → Int) (x : Nat) (r : Int) : Int := if S 5 x < r then S 5 x else r
theorem mbl_succ (o q : Nat) (S : Nat → Nat → Int) (r : Int) : mbl o (q + 1) S r = if 0 < r then mbl o q (mowe (su S 5 (mmost S (o : Int) (-1) (mM S)).toNat (S 5 (mmost S (o : Int) (-1) (mM S)).toNat - mby S (mmost S (o : Int) (-1) (mM S)).toNat r)) o (mmost S (o : Int) (-1) (mM S)).toNat (mby S (mmost S (o : Int) (-1) (mM S)).toNat r)) (r - mby S (mmost S (o : Int) (-1) (mM S)).toNat r) else S := rfl
theorem mbl_0 (o : Nat) (S : Nat → Nat → Int) : ∀ q, mbl o q S 0 = S
  | 0 => rfl
  | q + 1 => by rw [mbl_succ, if_neg (by decide)]
/-- what a round of 'bring' needs and keeps -/
def BI (S : Nat → Nat → Int) (o : Nat) (r : Int) : Prop := MB S ∧ 0 ≤ r ∧ r ≤ 20 ∧ r ≤ moth S o (mM S) ∧ ∀ j, S 9 j ≤ 6000 + (20 - r)
theorem BI.step {S : Nat → Nat → Int} {o : Nat} {r : Int} (h : BI S o r) (hr : 0 < r) : 0 ≤ mmost S (o : Int) (-1) (mM S) ∧ 0 < mby S (mmost S (o : Int) (-1) (mM S)).toNat r ∧ mby S (mmost S (o : Int) (-1) (mM S)).toNat r ≤ r ∧
    BI (mowe (su S 5 (mmost S (o : Int) (-1) (mM S)).toNat (S 5 (mmost S (o : Int) (-1) (mM S)).toNat - mby S (mmost S (o : Int) (-1) (mM S)).toNat r)) o (mmost S (o : Int) (-1) (mM S)).toNat (mby S (mmost S (o : Int) (-1) (mM S)).toNat r)) o (r - mby S (mmost S (o : Int) (-1) (mM S)).toNat r) := by
  obtain ⟨I, h0, h20, hs, h9⟩ := h
  obtain ⟨k, k1, k2, k3, k4⟩ := moth_pos S o (mM S) (by omega)
  have hm := mmost_max S (o : Int) (mM S) k k1 k2 k3
  have hh := mmost_hit S (o : Int) (-1) (mM S) hm.1
  have hb := mmost_b S (o : Int) (-1) (mM S)
  generalize hx : (mmost S (o : Int) (-1) (mM S)).toNat = x at *
  have hx' : mmost S (o : Int) (-1) (mM S) = (x : Int) := by omega
  have h5 : 0 ≤ S 5 x ∧ S 5 x ≤ 20 := I 5 x (by decide)
  have hby : 0 < mby S x r ∧ mby S x r ≤ r ∧ mby S x r ≤ S 5 x := by unfold mby; split <;> omega
  refine ⟨hm.1, hby.1, hby.2.1, ?_⟩
  have I1 : MB (su S 5 x (S 5 x - mby S x r)) := MB_su I 5 x (by show _ ∧ _ ≤ (20 : Int); omega)
  have e9 : su S 5 x (S 5 x - mby S x r) 9 = S 9 := su_ne _ _ _ (by decide)
  refine ⟨MB_owe I1 (D := 6000 + (20 - r)) (by omega) (by omega) (fun j => by rw [e9]; exact h9 j), by omega, by omega, ?_, fun j => ?_⟩
  · rw [moth_cong (mowe_ne _ _ _ _ (by decide)) (mowe_ne _ _ _ _ (by decide))]
    have e2 : mM (mowe (su S 5 x (S 5 x - mby S x r)) o x (mby S x r)) = mM S := by
      unfold mM
      rw [mowe_ne _ _ _ _ (by decide), su_ne _ _ _ (by decide)]
    rw [e2, moth_su S _ (by omega) hh.2]
    rw [if_pos (by omega)]
    omega
  · have := mowe_le (S := su S 5 x (S 5 x - mby S x r)) (o := o) (x := x) (b := mby S x r) (D := 6000 + (20 - r)) (by omega) (fun j => by rw [e9]; exact ⟨(I 9 j (by decide)).1, h9 j⟩) j
    omega
theorem moth_nn {S : Nat → Nat → Int} (I : MB S) (o : Nat) : ∀ n : Nat, 0 ≤ moth S o n
  | 0 => by unfold moth; omega
  | n + 1 => by
    have := moth_nn I o n
    have h5 : 0 ≤ S 5 n ∧ S 5 n ≤ 20 := I 5 n (by decide)
    unfold moth
    split <;> omega

theorem bit_dm (m k : Nat) : m / 2 ^ k % 2 = if m.testBit k then 1 else 0 := by
  rw [Nat.testBit_eq_decide_div_mod_eq]
  have : m / 2 ^ k % 2 < 2 := Nat.mod_lt _ (by decide)
  by_cases h : m / 2 ^ k % 2 = 1
  · simp [h]
  · simp [h]; omega
theorem bit_or (m x k : Nat) : (m ||| 2 ^ x) / 2 ^ k % 2 = if k = x then 1 else m / 2 ^ k % 2 := by
  rw [bit_dm, bit_dm, Nat.testBit_or, Nat.testBit_two_pow]
  by_cases h : k = x
  · subst h; simp
  · have h2 : ¬ x = k := fun q => h q.symm
    simp [h, h2]
/-- taking films out: what is free, what is out -/
def mpo (S : Nat → Nat → Int) (o f : Nat) : Nat → Int → Nat → Int × Nat
  | 0, fr, m => (fr, m)
  | q + 1, fr, m => if fr < S 11 f ∧ ¬ mleast S o (S 12 f) m (mF S) = -1 then mpo S o f q (fr + S 11 (mleast S o (S 12 f) m (mF S)).toNat) (m ||| 2 ^ (mleast S o (S 12 f) m (mF S)).toNat) else (fr, m)
def mclr (S : Nat → Nat → Int) (o m : Nat) : Nat → (Nat → Nat → Int)
  | 0 => S
  | n + 1 => su (mclr S o m n) 13 (20 * o + n) (if mclr S o m n 13 (20 * o + n) = 0 ∨ ¬ m / 2 ^ n % 2 = 0 then 0 else 1)
theorem mclr_ne (S : Nat → Nat → Int) (o m : Nat) {g : Nat} (hg : g ≠ 13) : ∀ n, mclr S o m n g = S g
  | 0 => rfl
  | n + 1 => by rw [mclr, su_ne _ _ _ hg, mclr_ne S o m hg n]
theorem MB_clr {S : Nat → Nat → Int} (I : MB S) (o m : Nat) : ∀ n, MB (mclr S o m n)
  | 0 => I
  | n + 1 => MB_su (MB_clr I o m n) 13 _ (by show _ ∧ _ ≤ (1 : Int); split <;> omega)
def mput (S : Nat → Nat → Int) (o f : Nat) : Nat → Nat → Int :=
  if S 11 f ≤ (mpo S o f 20 (S 6 o - mused S o (mF S)) 0).1 then su (mclr S o (mpo S o f 20 (S 6 o - mused S o (mF S)) 0).2 (mF S)) 13 (20 * o + f) 1 else S
theorem mput_ne (S : Nat → Nat → Int) (o f : Nat) {g : Nat} (hg : g ≠ 13) : mput S o f g = S g := by
  unfold mput
  split
  · rw [su_ne _ _ _ hg, mclr_ne _ _ _ hg]
  · rfl
def mlA (S : Nat → Nat → Int) (o k : Nat) : Nat → Nat → Int :=
  su (su (su (su S 7 o (S 7 o - (S 9 (10 * o + k) - S 9 (10 * k + o)))) 7 k (su S 7 o (S 7 o - (S 9 (10 * o + k) - S 9 (10 * k + o))) 7 k + (S 9 (10 * o + k) - S 9 (10 * k + o)))) 9 (10 * o + k) 0) 9 (10 * k + o) 0
def ml1 (S : Nat → Nat → Int) (o : Nat) : Nat → (Nat → Nat → Int)
  | 0 => S
  | n + 1 => mlA (ml1 S o n) o n
def ml2 (S : Nat → Nat → Int) (o : Nat) : Nat → (Nat → Nat → Int)
  | 0 => S
  | n + 1 => su (ml2 S o n) 13 (20 * o + n) 0
def ml3 (S : Nat → Nat → Int) (o : Nat) : Nat → (Nat → Nat → Int)
  | 0 => S
  | n + 1 => if ml3 S o n 16 n = 0 then mdec (su (ml3 S o n) 20 (10 * n + o) 0) n else ml3 S o n
theorem mlA_ne (S : Nat → Nat → Int) (o k : Nat) {g : Nat} (h7 : g ≠ 7) (h9 : g ≠ 9) : mlA S o k g = S g := by
  unfold mlA
  rw [su_ne _ _ _ h9, su_ne _ _ _ h9, su_ne _ _ _ h7, su_ne _ _ _ h7]
theorem ml1_ne (S : Nat → Nat → Int) (o : Nat) {g : Nat} (h7 : g ≠ 7) (h9 : g ≠ 9) : ∀ n, ml1 S o n g = S g
  | 0 => rfl
  | n + 1 => by rw [ml1, mlA_ne _ _ _ h7 h9, ml1_ne S o h7 h9 n]
theorem ml2_ne (S : Nat → Nat → Int) (o : Nat) {g : Nat} (h : g ≠ 13) : ∀ n, ml2 S o n g = S g
  | 0 => rfl
  | n + 1 => by rw [ml2, su_ne _ _ _ h, ml2_ne S o h n]
theorem ml3_ne (S : Nat → Nat → Int) (o : Nat) {g : Nat} (h1 : g ≠ 16) (h2 : g ≠ 19) (h3 : g ≠ 21) (h4 : g ≠ 22) (h5 : g ≠ 20) : ∀ n, ml3 S o n g = S g
  | 0 => rfl
  | n + 1 => by
    rw [ml3]
    split
    · rw [mdec_ne _ _ h1 h2 h3 h4, su_ne _ _ _ h5, ml3_ne S o h1 h2 h3 h4 h5 n]
    · exact ml3_ne S o h1 h2 h3 h4 h5 n
theorem MB_lA {S : Nat → Nat → Int} (I : MB S) (o k : Nat) : MB (mlA S o k) := MB_su (MB_su (MB_su7 (MB_su7 I _ _) _ _) 9 _ (v := 0) (by decide)) 9 _ (v := 0) (by decide)
theorem MB_l1 {S : Nat → Nat → Int} (I : MB S) (o : Nat) : ∀ n, MB (ml1 S o n)
  | 0 => I
  | n + 1 => MB_lA (MB_l1 I o n) o n
theorem MB_l2 {S : Nat → Nat → Int} (I : MB S) (o : Nat) : ∀ n, MB (ml2 S o n)
  | 0 => I
  | n + 1 => MB_su (MB_l2 I o n) 13 _ (v := 0) (by decide)
def cLeave (S : Nat → Nat → Int) (w : Int) : Int := if ¬ (0 ≤ w ∧ w ≤ S 2 0 - 1) then 1 else if S 3 w.toNat = 0 then 2 else 0
def sLv2 (S : Nat → Nat → Int) (o : Nat) : Nat → Nat → Int := ml2 (ml1 (su S 3 o 0) o (mM S)) o 20
def sLeave (S : Nat → Nat → Int) (o : Nat) : Nat → Nat → Int := ml3 (sLv2 S o) o (mP S)
def fFrom (S : Nat → Nat → Int) (o f : Nat) : Int := if S 13 (20 * o + f) = 0 then mmost S (o : Int) (f : Int) (mM S) else -1
def cFetch (S : Nat → Nat → Int) (w z : Int) : Int :=
  if ¬ ((0 ≤ w ∧ w ≤ S 2 0 - 1) ∧ 0 ≤ z ∧ z ≤ S 10 0 - 1) then 1
  else if ¬ (¬ S 3 w.toNat = 0 ∧ S 14 0 < 300) then 2
  else if S 13 (20 * w.toNat + z.toNat) = 0 ∧ ¬ (¬ fFrom S w.toNat z.toNat = -1 ∧ S 11 z.toNat ≤ S 5 (fFrom S w.toNat z.toNat).toNat) ∧ mall S (mM S) < S 11 z.toNat then 2 else 0
def fPays (S : Nat → Nat → Int) (o f : Nat) : Int := if ¬ S 13 (20 * o + f) = 0 then 0 else S 11 f * (if ¬ fFrom S o f = -1 ∧ S 11 f ≤ S 5 (fFrom S o f).toNat then mval S 2 else mprice S)
def fS1 (S : Nat → Nat → Int) (o f : Nat) : Nat → Nat → Int :=
  if ¬ fFrom S o f = -1 ∧ S 11 f ≤ S 5 (fFrom S o f).toNat then
    su (su S 5 (fFrom S o f).toNat (S 5 (fFrom S o f).toNat - S 11 f)) 7 (fFrom S o f).toNat (S 7 (fFrom S o f).toNat + fPays S o f)
  else if S 13 (20 * o + f) = 0 then mbring S o f else S
def fS2 (S1 : Nat → Nat → Int) (o f : Nat) (p : Int) : Nat → Nat → Int :=
  su (su (su (su S1 7 o (S1 7 o - p)) 12 f (S1 12 f + 1)) 8 o (S1 8 o + 1)) 14 0 (S1 14 0 + 1)
def sFetch (S : Nat → Nat → Int) (o f : Nat) : Nat → Nat → Int :=
  if S 13 (20 * o + f) = 0 ∧ ¬ (¬ fFrom S o f = -1 ∧ S 11 f ≤ S 5 (fFrom S o f).toNat) then mput (fS2 (fS1 S o f) o f (fPays S o f)) o f else fS2 (fS1 S o f) o f (fPays S o f)

theorem MB_fS2 {S1 : Nat → Nat → Int} (I : MB S1) {o f : Nat} (h14 : S1 14 0 < 300) (h12 : S1 12 f ≤ S1 14 0) (h8 : S1 8 o ≤ S1 14 0) (p : Int) : MB (fS2 S1 o f p) := by
  have b12 : 0 ≤ S1 12 f ∧ S1 12 f ≤ 300 := I 12 f (by decide)
  have b8 : 0 ≤ S1 8 o ∧ S1 8 o ≤ 300 := I 8 o (by decide)
  have b14 : 0 ≤ S1 14 0 ∧ S1 14 0 ≤ 300 := I 14 0 (by decide)
  exact MB_su (MB_su (MB_su (MB_su7 I _ _) 12 f (by show _ ∧ _ ≤ (300 : Int); omega)) 8 o (by show _ ∧ _ ≤ (300 : Int); omega)) 14 0 (by show _ ∧ _ ≤ (300 : Int); omega)

theorem zw_arrZ : Cond.arrayClass .boolean ∈ zW := zW_of 238 (by decide +kernel) (by decide +kernel)
theorem zw_arrI : Cond.arrayClass .int ∈ zW := zW_of 239 (by decide +kernel) (by decide +kernel)
/-- a list of cells, apart from each other, in the heap -/
def IL (L : List (Nat × va_E)) (h : zH) : Prop := (∀ q ∈ L, h q.1 = some q.2) ∧ (L.map (fun q => q.1)).Nodup
theorem IL.new {L : List (Nat × va_E)} {h : zH} (hL : IL L h) {a : Nat} {e : va_E} (ha : h a = none) : IL ((a, e) :: L) (zput h a e) := by
  obtain ⟨h1, h2⟩ := hL
  have hne : ∀ q ∈ L, q.1 ≠ a := fun q hq z => by
    have := h1 q hq
    rw [z, ha] at this
    cases this
  refine ⟨fun q hq => ?_, ?_⟩
  · rcases List.mem_cons.mp hq with rfl | hq
    · exact zput_same _ _ _
    · rw [zput_ne h e (hne q hq)]
      exact h1 q hq
  · rw [List.map_cons]
    refine List.nodup_cons.mpr ⟨fun hm => ?_, h2⟩
    obtain ⟨q, q1, q2⟩ := List.mem_map.mp hm
    exact hne q q1 q2
theorem IL.last {A : List (Nat × va_E)} {b : Nat} {e0 : va_E} {h : zH} (hL : IL (A ++ [(b, e0)]) h) : h b = some e0 := hL.1 (b, e0) (List.mem_append_right _ (List.mem_singleton.mpr rfl))
theorem IL.inj {L : List (Nat × va_E)} {h : zH} (hL : IL L h) {i j : Nat} {p q : Nat × va_E} (hi : L[i]? = some p) (hj : L[j]? = some q) (e : p.1 = q.1) : i = j := by
  have hlt : i < (L.map (fun q => q.1)).length := by rw [List.length_map]; exact (List.getElem?_eq_some_iff.mp hi).1
  refine (List.getElem?_inj hlt hL.2).mp ?_
  rw [List.getElem?_map, List.getElem?_map, hi, hj]
  show some p.1 = some q.1
  rw [e]
/-- what was there, but the cell b, stays -/
def PV (b : Nat) (h h' : zH) : Prop := ∀ q x, q ≠ b → h q = some x → h' q = some x
theorem PV.rf (b : Nat) (h : zH) : PV b h h := fun _ _ _ h => h
theorem PV.new {b : Nat} {h h' : zH} (p : PV b h h') {a : Nat} {e : va_E} (ha : h' a = none) : PV b h (zput h' a e) := fun q x hq hx => zput_ne' h' e ha (p q x hq hx)
