theorem mbx (p : Prop) [Decidable p] : ∃ x, mb p = x ∧ (0 ≤ x ∧ x ≤ 1) ∧ (x = 0 ↔ ¬ p) := ⟨mb p, rfl, mb_b p, mb_0⟩
/-- an answer of the reference: refused by a code, or a value and a new state -/
def mAns (G : zG) (a : Nat → Nat) (S : Nat → Nat → Int) (code val : Int) (S' : Nat → Nat → Int) : Option Value → zH → Prop := fun r9 h9 =>
  (¬ code = 0 → r9 = some (vI 0) ∧ MR G a code S h9) ∧ (code = 0 → r9 = some (vI val) ∧ MR G a 0 S' h9)
theorem mAns.no {G : zG} {a : Nat → Nat} {S S' : Nat → Nat → Int} {code val w : Int} {h : zH} (R : MR G a w S h) (hw : w = code) (hc : ¬ w = 0) : mAns G a S code val S' (some (vI 0)) h := by
  subst hw
  exact ⟨fun _ => ⟨rfl, R⟩, fun q => absurd q hc⟩
theorem mAns.yes {G : zG} {a : Nat → Nat} {S S' : Nat → Nat → Int} {code val w x : Int} {h : zH} (R : MR G a w S' h) (hw : w = code) (hc : w = 0) (hx : x = val) : mAns G a S code val S' (some (vI x)) h := by
  subst hw; subst hx; subst hc
  exact ⟨fun q => absurd rfl q, fun _ => ⟨rfl, R⟩⟩
def cJoin (S : Nat → Nat → Int) (u r : Int) : Int := if ¬ ((1 ≤ u ∧ u ≤ 20) ∧ 0 ≤ r ∧ r ≤ 50) then 1 else if S 2 0 = 10 then 2 else 0
def sJoin (S : Nat → Nat → Int) (u r : Int) : Nat → Nat → Int := su (su (su (su (su S 3 (mM S) 1) 4 (mM S) u) 5 (mM S) u) 6 (mM S) r) 2 0 (S 2 0 + 1)
def cFilm (S : Nat → Nat → Int) (z : Int) : Int := if ¬ (1 ≤ z ∧ z ≤ 20) then 1 else if S 10 0 = 20 then 2 else 0
def sFilm (S : Nat → Nat → Int) (z : Int) : Nat → Nat → Int := su (su S 11 (mF S) z) 10 0 (S 10 0 + 1)
def cPass (S : Nat → Nat → Int) (w : Int) : Int := if ¬ (1 ≤ w ∧ w ≤ 100) then 1 else if 2000 < S 1 0 + w then 2 else 0
def mpl (S : Nat → Nat → Int) : Nat → (Nat → Nat → Int)
  | 0 => S
  | n + 1 => su (mpl S n) 5 n (S 4 n)
theorem mpl_ne (S : Nat → Nat → Int) {g : Nat} (hg : g ≠ 5) : ∀ n, mpl S n g = S g
  | 0 => rfl
  | n + 1 => by rw [mpl, su_ne _ _ _ hg, mpl_ne S hg n]
def sPass (S : Nat → Nat → Int) (w : Int) : Nat → Nat → Int := mpl (su S 1 0 (S 1 0 + w)) (mM S)
def cProp (S : Nat → Nat → Int) (m r v : Int) : Int := if ¬ ((0 ≤ m ∧ m ≤ S 2 0 - 1) ∧ 0 ≤ r ∧ r ≤ 2) then 1 else if ¬ (0 ≤ v ∧ v ≤ 9) then 2 else if S 3 m.toNat = 0 ∨ S 15 0 = 30 then 3 else 0
def sProp (S : Nat → Nat → Int) (r v : Int) : Nat → Nat → Int := su (su (su S 17 (mP S) r) 18 (mP S) v) 15 0 (S 15 0 + 1)
def cVote (S : Nat → Nat → Int) (m p : Int) : Int := if ¬ ((0 ≤ m ∧ m ≤ S 2 0 - 1) ∧ 0 ≤ p ∧ p ≤ S 15 0 - 1) then 1 else if S 3 m.toNat = 0 ∨ ¬ S 16 p.toNat = 0 then 2 else 0
def sVote (S : Nat → Nat → Int) (m p f : Int) : Nat → Nat → Int := mdec (su S 20 (10 * p.toNat + m.toNat) (if f = 0 then 2 else 1)) p.toNat
def cRule (r : Int) : Int := if 0 ≤ r ∧ r ≤ 2 then 0 else 1
def cPpl (S : Nat → Nat → Int) (p w : Int) : Int := if ¬ (0 ≤ p ∧ p ≤ S 15 0 - 1) then 1 else if ¬ (0 ≤ w ∧ w ≤ 4) then 2 else 0
def vPpl (S : Nat → Nat → Int) (p : Nat) (w : Int) : Int := if w = 0 then S 16 p else if w = 1 then S 17 p else if w = 2 then S 18 p else if w = 3 then (if S 16 p = 0 then mvoted S p 1 (mM S) else S 21 p) else (if S 16 p = 0 then mvoted S p 2 (mM S) else S 22 p)
def cMem (S : Nat → Nat → Int) (m w : Int) : Int := if ¬ (0 ≤ m ∧ m ≤ S 2 0 - 1) then 1 else if ¬ (0 ≤ w ∧ w ≤ 4) then 2 else 0
def vMem (S : Nat → Nat → Int) (m : Nat) (w : Int) : Int := if w = 0 then (if S 3 m = 0 then 0 else 1) else if w = 1 then (if S 3 m = 0 then 0 else S 5 m) else if w = 2 then mused S m (mF S) else if w = 3 then S 7 m else S 8 m
def cHas (S : Nat → Nat → Int) (m f : Int) : Int := if (0 ≤ m ∧ m ≤ S 2 0 - 1) ∧ 0 ≤ f ∧ f ≤ S 10 0 - 1 then 0 else 1
def cOwes (S : Nat → Nat → Int) (m x : Int) : Int := if (0 ≤ m ∧ m ≤ S 2 0 - 1) ∧ 0 ≤ x ∧ x ≤ S 2 0 - 1 then 0 else 1
def cWorth (S : Nat → Nat → Int) (f : Int) : Int := if 0 ≤ f ∧ f ≤ S 10 0 - 1 then 0 else 1
def cAcc (S : Nat → Nat → Int) (m : Int) : Int := if 0 ≤ m ∧ m ≤ S 2 0 - 1 then 0 else 1
theorem MB_su {S : Nat → Nat → Int} (I : MB S) (k i : Nat) {v : Int} (hv : 0 ≤ v ∧ v ≤ mhi k) : MB (su S k i v) := by
  intro g j hg
  rw [su_at]
  split
  · rename_i q
    rw [q.1]
    exact hv
  · exact I g j hg
theorem MB_su7 {S : Nat → Nat → Int} (I : MB S) (i : Nat) (v : Int) : MB (su S 7 i v) := by
  intro g j hg
  rw [su_at, if_neg (fun q => hg q.1)]
  exact I g j hg
theorem MB_decS {S : Nat → Nat → Int} (I : MB S) (p : Nat) : MB (mdecS S p) := by
  have b1 : 0 ≤ S 1 0 ∧ S 1 0 ≤ 2000 := I 1 0 (by decide)
  unfold mdecS
  split
  · exact MB_su (MB_su I 16 p (v := 1) (by decide)) 19 p (by show _ ∧ _ ≤ (2001 : Int); omega)
  · split
    · exact MB_su I 16 p (v := 2) (by decide)
    · exact I
theorem mM_b {S : Nat → Nat → Int} (I : MB S) : mM S ≤ 10 := by
  have b1 : 0 ≤ S 2 0 ∧ S 2 0 ≤ 10 := I 2 0 (by decide)
  unfold mM; omega
theorem MB_dec {S : Nat → Nat → Int} (I : MB S) (p : Nat) : MB (mdec S p) := by
  have h1 := mvoted_b S p 1 (mM S)
  have h2 := mvoted_b S p 2 (mM S)
  have hM := mM_b I
  exact MB_su (MB_su (MB_decS I p) 21 p (by show _ ∧ _ ≤ (10 : Int); omega)) 22 p (by show _ ∧ _ ≤ (10 : Int); omega)
theorem mdec_ne (S : Nat → Nat → Int) (p : Nat) {g : Nat} (h1 : g ≠ 16) (h2 : g ≠ 19) (h3 : g ≠ 21) (h4 : g ≠ 22) : mdec S p g = S g := by
  unfold mdec mdecS
  rw [su_ne _ _ _ h4, su_ne _ _ _ h3]
  split
  · rw [su_ne _ _ _ h2, su_ne _ _ _ h1]
  · split
    · rw [su_ne _ _ _ h1]
    · rfl
