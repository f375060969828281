/-! THE REFERENCE: its state S (a number of the field, a place: an int), and what its cells are -/
def su (S : Nat → Nat → Int) (k i : Nat) (v : Int) : Nat → Nat → Int := fun g => if g = k then va_up (S k) i v else S g
theorem su_same (S : Nat → Nat → Int) (k i : Nat) (v : Int) : su S k i v k = va_up (S k) i v := by simp [su]
theorem su_ne (S : Nat → Nat → Int) {k g : Nat} (i : Nat) (v : Int) (h : g ≠ k) : su S k i v g = S g := by simp [su, h]
theorem su_at (S : Nat → Nat → Int) (k i : Nat) (v : Int) (g j : Nat) : su S k i v g j = if g = k ∧ j = i then v else S g j := by
  unfold su va_up
  by_cases h1 : g = k
  · subst h1
    by_cases h2 : j = i <;> simp [h2]
  · simp [h1]

def mfs (t : Int) (S : Nat → Nat → Int) (a : Nat → Nat) : List Value := [vI t, vI (S 1 0), vI (S 2 0), .ref (a 3), .ref (a 4), .ref (a 5), .ref (a 6), .ref (a 7), .ref (a 8), .ref (a 9), vI (S 10 0), .ref (a 11), .ref (a 12), .ref (a 13), vI (S 14 0), vI (S 15 0), .ref (a 16), .ref (a 17), .ref (a 18), .ref (a 19), .ref (a 20), .ref (a 21), .ref (a 22)]
def mIs (k : Nat) : Bool := match k with
  | 3 => true
  | 4 => true
  | 5 => true
  | 6 => true
  | 7 => true
  | 8 => true
  | 9 => true
  | 11 => true
  | 12 => true
  | 13 => true
  | 16 => true
  | 17 => true
  | 18 => true
  | 19 => true
  | 20 => true
  | 21 => true
  | 22 => true
  | _ => false
def mcl (k : Nat) : Nat := match k with
  | 3 => 1
  | 13 => 1
  | _ => 0
def mln (k : Nat) : Nat := match k with
  | 3 => 10
  | 4 => 10
  | 5 => 10
  | 6 => 10
  | 7 => 10
  | 8 => 10
  | 9 => 100
  | 11 => 20
  | 12 => 20
  | 13 => 200
  | 16 => 30
  | 17 => 30
  | 18 => 30
  | 19 => 30
  | 20 => 300
  | 21 => 30
  | 22 => 30
  | _ => 0
def mhi (k : Nat) : Int := match k with
  | 0 => 3
  | 1 => 2000
  | 2 => 10
  | 3 => 1
  | 4 => 20
  | 5 => 20
  | 6 => 50
  | 7 => 0
  | 8 => 300
  | 9 => 1000000
  | 10 => 20
  | 11 => 20
  | 12 => 300
  | 13 => 1
  | 14 => 300
  | 15 => 30
  | 16 => 2
  | 17 => 2
  | 18 => 9
  | 19 => 2001
  | 20 => 2
  | 21 => 10
  | _ => 10
def MR (G : zG) (a : Nat → Nat) (t : Int) (S : Nat → Nat → Int) (h : zH) : Prop := h (a 0) = some (eO 8 (mfs t S a)) ∧ (∀ k, mIs k = true → h (a k) = some (eI (G.2.1 (mcl k)) (mln k) (S k))) ∧ ∀ i j, (i = 0 ∨ mIs i = true) → (j = 0 ∨ mIs j = true) → a i = a j → i = j
theorem mIs_0 : mIs 0 = false := rfl
theorem MR.st {G : zG} {a : Nat → Nat} {t : Int} {S : Nat → Nat → Int} {h : zH} (R : MR G a t S h) {k : Nat} (hk : mIs k = true) (i : Nat) (v : Int) : MR G a t (su S k i v) (zput h (a k) (eI (G.2.1 (mcl k)) (mln k) (va_up (S k) i v))) := by
  obtain ⟨r1, r2, r3⟩ := R
  have hne : ∀ g, (g = 0 ∨ mIs g = true) → g ≠ k → a g ≠ a k := fun g hg hgk q => hgk (r3 g k hg (Or.inr hk) q)
  have hs : ∀ g, mIs g = false → su S k i v g = S g := fun g hg => su_ne S i v (fun q => by rw [q, hk] at hg; cases hg)
  refine ⟨?_, fun g hg => ?_, r3⟩
  · rw [zput_ne h _ (hne 0 (Or.inl rfl) (fun q => by rw [← q] at hk; cases hk)), r1]
    have : mfs t (su S k i v) a = mfs t S a := by
      unfold mfs
      rw [hs 1 rfl, hs 2 rfl, hs 10 rfl, hs 14 rfl, hs 15 rfl]
    rw [this]
  · by_cases q : g = k
    · subst q
      rw [zput_same, su_same]
    · rw [zput_ne h _ (hne g (Or.inr hg) q), r2 g hg, su_ne S i v q]
theorem MR.pt {G : zG} {a : Nat → Nat} {t : Int} {S : Nat → Nat → Int} {h : zH} (R : MR G a t S h) {k : Nat} (hk : mIs k = false) (v : Int) : MR G a t (su S k 0 v) (zput h (a 0) (eO 8 (mfs t (su S k 0 v) a))) := by
  obtain ⟨r1, r2, r3⟩ := R
  refine ⟨zput_same _ _ _, fun g hg => ?_, r3⟩
  rw [zput_ne h _ (fun q => by have := r3 g 0 (Or.inr hg) (Or.inl rfl) q; subst this; cases hg), r2 g hg, su_ne S 0 v (fun q => by rw [q, hk] at hg; cases hg)]
theorem MR.th {G : zG} {a : Nat → Nat} {t : Int} {S : Nat → Nat → Int} {h : zH} (R : MR G a t S h) (v : Int) : MR G a v S (zput h (a 0) (eO 8 (mfs v S a))) := by
  obtain ⟨r1, r2, r3⟩ := R
  refine ⟨zput_same _ _ _, fun g hg => ?_, r3⟩
  rw [zput_ne h _ (fun q => by have := r3 g 0 (Or.inr hg) (Or.inl rfl) q; subst this; cases hg), r2 g hg]
/-- bounds of what the cells hold -/
def MB (S : Nat → Nat → Int) : Prop := ∀ k j, k ≠ 7 → 0 ≤ S k j ∧ S k j ≤ mhi k

theorem MR.c3 {G : zG} {a : Nat → Nat} {t : Int} {S : Nat → Nat → Int} {h : zH} (R : MR G a t S h) : h (a 3) = some (eI (G.2.1 1) 10 (S 3)) := R.2.1 3 rfl
theorem MR.c4 {G : zG} {a : Nat → Nat} {t : Int} {S : Nat → Nat → Int} {h : zH} (R : MR G a t S h) : h (a 4) = some (eI (G.2.1 0) 10 (S 4)) := R.2.1 4 rfl
theorem MR.c5 {G : zG} {a : Nat → Nat} {t : Int} {S : Nat → Nat → Int} {h : zH} (R : MR G a t S h) : h (a 5) = some (eI (G.2.1 0) 10 (S 5)) := R.2.1 5 rfl
theorem MR.c6 {G : zG} {a : Nat → Nat} {t : Int} {S : Nat → Nat → Int} {h : zH} (R : MR G a t S h) : h (a 6) = some (eI (G.2.1 0) 10 (S 6)) := R.2.1 6 rfl
theorem MR.c7 {G : zG} {a : Nat → Nat} {t : Int} {S : Nat → Nat → Int} {h : zH} (R : MR G a t S h) : h (a 7) = some (eI (G.2.1 0) 10 (S 7)) := R.2.1 7 rfl
theorem MR.c8 {G : zG} {a : Nat → Nat} {t : Int} {S : Nat → Nat → Int} {h : zH} (R : MR G a t S h) : h (a 8) = some (eI (G.2.1 0) 10 (S 8)) := R.2.1 8 rfl
theorem MR.c9 {G : zG} {a : Nat → Nat} {t : Int} {S : Nat → Nat → Int} {h : zH} (R : MR G a t S h) : h (a 9) = some (eI (G.2.1 0) 100 (S 9)) := R.2.1 9 rfl
theorem MR.c11 {G : zG} {a : Nat → Nat} {t : Int} {S : Nat → Nat → Int} {h : zH} (R : MR G a t S h) : h (a 11) = some (eI (G.2.1 0) 20 (S 11)) := R.2.1 11 rfl
theorem MR.c12 {G : zG} {a : Nat → Nat} {t : Int} {S : Nat → Nat → Int} {h : zH} (R : MR G a t S h) : h (a 12) = some (eI (G.2.1 0) 20 (S 12)) := R.2.1 12 rfl
theorem MR.c13 {G : zG} {a : Nat → Nat} {t : Int} {S : Nat → Nat → Int} {h : zH} (R : MR G a t S h) : h (a 13) = some (eI (G.2.1 1) 200 (S 13)) := R.2.1 13 rfl
theorem MR.c16 {G : zG} {a : Nat → Nat} {t : Int} {S : Nat → Nat → Int} {h : zH} (R : MR G a t S h) : h (a 16) = some (eI (G.2.1 0) 30 (S 16)) := R.2.1 16 rfl
theorem MR.c17 {G : zG} {a : Nat → Nat} {t : Int} {S : Nat → Nat → Int} {h : zH} (R : MR G a t S h) : h (a 17) = some (eI (G.2.1 0) 30 (S 17)) := R.2.1 17 rfl
theorem MR.c18 {G : zG} {a : Nat → Nat} {t : Int} {S : Nat → Nat → Int} {h : zH} (R : MR G a t S h) : h (a 18) = some (eI (G.2.1 0) 30 (S 18)) := R.2.1 18 rfl
theorem MR.c19 {G : zG} {a : Nat → Nat} {t : Int} {S : Nat → Nat → Int} {h : zH} (R : MR G a t S h) : h (a 19) = some (eI (G.2.1 0) 30 (S 19)) := R.2.1 19 rfl
theorem MR.c20 {G : zG} {a : Nat → Nat} {t : Int} {S : Nat → Nat → Int} {h : zH} (R : MR G a t S h) : h (a 20) = some (eI (G.2.1 0) 300 (S 20)) := R.2.1 20 rfl
theorem MR.c21 {G : zG} {a : Nat → Nat} {t : Int} {S : Nat → Nat → Int} {h : zH} (R : MR G a t S h) : h (a 21) = some (eI (G.2.1 0) 30 (S 21)) := R.2.1 21 rfl
theorem MR.c22 {G : zG} {a : Nat → Nat} {t : Int} {S : Nat → Nat → Int} {h : zH} (R : MR G a t S h) : h (a 22) = some (eI (G.2.1 0) 30 (S 22)) := R.2.1 22 rfl
theorem a_3 {X : zX} {cc : ByteArray} {y : MethodName} {d pc k n : Nat} {l st : List Value} {h : zH} {a : Nat → Nat} {t : Int} {S : Nat → Nat → Int} (C : ZC X cc y d) (R : MR (zG_of X) a t S h) (I : MB S) {x : Int} (j : Nat) (hd : decode cc pc = .ok (.baload, 1)) (hx : x = (j : Int)) (hj : j < 10) (kk : ∀ v : Int, v = S 3 j → 0 ≤ v ∧ v ≤ 1 → Z X (pc + 1) l (vI v :: st) h k n) : Z X pc l (vI x :: .ref (a 3) :: st) h k n := by
  subst hx
  exact Z.zaload C hd R.c3 (by omega) (by omega) (by decide) (kk _ (by rw [Int.toNat_natCast]) (by rw [Int.toNat_natCast]; exact I 3 j (by decide)))
theorem b_3 {X : zX} {cc : ByteArray} {y : MethodName} {d pc k n : Nat} {l st : List Value} {h : zH} {a : Nat → Nat} {t : Int} {S : Nat → Nat → Int} (C : ZC X cc y d) (R : MR (zG_of X) a t S h) {x : Int} (j : Nat) (hd : decode cc pc = .ok (.baload, 1)) (hx : x = (j : Int)) (hj : j < 10) (kk : ∀ v : Int, v = S 3 j → Z X (pc + 1) l (vI v :: st) h k n) : Z X pc l (vI x :: .ref (a 3) :: st) h k n := by
  subst hx
  exact Z.zaload C hd R.c3 (by omega) (by omega) (by decide) (kk _ (by rw [Int.toNat_natCast]))
theorem w_3 {X : zX} {cc : ByteArray} {y : MethodName} {d pc k n : Nat} {l st : List Value} {h : zH} {a : Nat → Nat} {t : Int} {S : Nat → Nat → Int} (C : ZC X cc y d) (R : MR (zG_of X) a t S h) {x v : Int} (j : Nat) (hd : decode cc pc = .ok (.bastore, 1)) (hx : x = (j : Int)) (hj : j < 10) (hz : v = 0 ∨ v = 1) (kk : ∀ h' : zH, MR (zG_of X) a t (su S 3 j v) h' → Z X (pc + 1) l st h' k n) : Z X pc l (vI v :: vI x :: .ref (a 3) :: st) h k n := by
  subst hx
  refine Z.zastore C hd R.c3 (by omega) (by omega) (by decide) hz (kk _ ?_)
  rw [Int.toNat_natCast]
  exact R.st (k := 3) rfl j v
theorem a_4 {X : zX} {cc : ByteArray} {y : MethodName} {d pc k n : Nat} {l st : List Value} {h : zH} {a : Nat → Nat} {t : Int} {S : Nat → Nat → Int} (C : ZC X cc y d) (R : MR (zG_of X) a t S h) (I : MB S) {x : Int} (j : Nat) (hd : decode cc pc = .ok (.iaload, 1)) (hx : x = (j : Int)) (hj : j < 10) (kk : ∀ v : Int, v = S 4 j → 0 ≤ v ∧ v ≤ 20 → Z X (pc + 1) l (vI v :: st) h k n) : Z X pc l (vI x :: .ref (a 4) :: st) h k n := by
  subst hx
  exact Z.iaload C hd R.c4 (by omega) (by omega) (by decide) (kk _ (by rw [Int.toNat_natCast]) (by rw [Int.toNat_natCast]; exact I 4 j (by decide)))
theorem b_4 {X : zX} {cc : ByteArray} {y : MethodName} {d pc k n : Nat} {l st : List Value} {h : zH} {a : Nat → Nat} {t : Int} {S : Nat → Nat → Int} (C : ZC X cc y d) (R : MR (zG_of X) a t S h) {x : Int} (j : Nat) (hd : decode cc pc = .ok (.iaload, 1)) (hx : x = (j : Int)) (hj : j < 10) (kk : ∀ v : Int, v = S 4 j → Z X (pc + 1) l (vI v :: st) h k n) : Z X pc l (vI x :: .ref (a 4) :: st) h k n := by
  subst hx
  exact Z.iaload C hd R.c4 (by omega) (by omega) (by decide) (kk _ (by rw [Int.toNat_natCast]))
theorem w_4 {X : zX} {cc : ByteArray} {y : MethodName} {d pc k n : Nat} {l st : List Value} {h : zH} {a : Nat → Nat} {t : Int} {S : Nat → Nat → Int} (C : ZC X cc y d) (R : MR (zG_of X) a t S h) {x v : Int} (j : Nat) (hd : decode cc pc = .ok (.iastore, 1)) (hx : x = (j : Int)) (hj : j < 10) (kk : ∀ h' : zH, MR (zG_of X) a t (su S 4 j v) h' → Z X (pc + 1) l st h' k n) : Z X pc l (vI v :: vI x :: .ref (a 4) :: st) h k n := by
  subst hx
  refine Z.iastore C hd R.c4 (by omega) (by omega) (by decide) (kk _ ?_)
  rw [Int.toNat_natCast]
  exact R.st (k := 4) rfl j v
theorem a_5 {X : zX} {cc : ByteArray} {y : MethodName} {d pc k n : Nat} {l st : List Value} {h : zH} {a : Nat → Nat} {t : Int} {S : Nat → Nat → Int} (C : ZC X cc y d) (R : MR (zG_of X) a t S h) (I : MB S) {x : Int} (j : Nat) (hd : decode cc pc = .ok (.iaload, 1)) (hx : x = (j : Int)) (hj : j < 10) (kk : ∀ v : Int, v = S 5 j → 0 ≤ v ∧ v ≤ 20 → Z X (pc + 1) l (vI v :: st) h k n) : Z X pc l (vI x :: .ref (a 5) :: st) h k n := by
  subst hx
  exact Z.iaload C hd R.c5 (by omega) (by omega) (by decide) (kk _ (by rw [Int.toNat_natCast]) (by rw [Int.toNat_natCast]; exact I 5 j (by decide)))
theorem b_5 {X : zX} {cc : ByteArray} {y : MethodName} {d pc k n : Nat} {l st : List Value} {h : zH} {a : Nat → Nat} {t : Int} {S : Nat → Nat → Int} (C : ZC X cc y d) (R : MR (zG_of X) a t S h) {x : Int} (j : Nat) (hd : decode cc pc = .ok (.iaload, 1)) (hx : x = (j : Int)) (hj : j < 10) (kk : ∀ v : Int, v = S 5 j → Z X (pc + 1) l (vI v :: st) h k n) : Z X pc l (vI x :: .ref (a 5) :: st) h k n := by
  subst hx
  exact Z.iaload C hd R.c5 (by omega) (by omega) (by decide) (kk _ (by rw [Int.toNat_natCast]))
theorem w_5 {X : zX} {cc : ByteArray} {y : MethodName} {d pc k n : Nat} {l st : List Value} {h : zH} {a : Nat → Nat} {t : Int} {S : Nat → Nat → Int} (C : ZC X cc y d) (R : MR (zG_of X) a t S h) {x v : Int} (j : Nat) (hd : decode cc pc = .ok (.iastore, 1)) (hx : x = (j : Int)) (hj : j < 10) (kk : ∀ h' : zH, MR (zG_of X) a t (su S 5 j v) h' → Z X (pc + 1) l st h' k n) : Z X pc l (vI v :: vI x :: .ref (a 5) :: st) h k n := by
  subst hx
  refine Z.iastore C hd R.c5 (by omega) (by omega) (by decide) (kk _ ?_)
  rw [Int.toNat_natCast]
  exact R.st (k := 5) rfl j v
theorem a_6 {X : zX} {cc : ByteArray} {y : MethodName} {d pc k n : Nat} {l st : List Value} {h : zH} {a : Nat → Nat} {t : Int} {S : Nat → Nat → Int} (C : ZC X cc y d) (R : MR (zG_of X) a t S h) (I : MB S) {x : Int} (j : Nat) (hd : decode cc pc = .ok (.iaload, 1)) (hx : x = (j : Int)) (hj : j < 10) (kk : ∀ v : Int, v = S 6 j → 0 ≤ v ∧ v ≤ 50 → Z X (pc + 1) l (vI v :: st) h k n) : Z X pc l (vI x :: .ref (a 6) :: st) h k n := by
  subst hx
  exact Z.iaload C hd R.c6 (by omega) (by omega) (by decide) (kk _ (by rw [Int.toNat_natCast]) (by rw [Int.toNat_natCast]; exact I 6 j (by decide)))
theorem b_6 {X : zX} {cc : ByteArray} {y : MethodName} {d pc k n : Nat} {l st : List Value} {h : zH} {a : Nat → Nat} {t : Int} {S : Nat → Nat → Int} (C : ZC X cc y d) (R : MR (zG_of X) a t S h) {x : Int} (j : Nat) (hd : decode cc pc = .ok (.iaload, 1)) (hx : x = (j : Int)) (hj : j < 10) (kk : ∀ v : Int, v = S 6 j → Z X (pc + 1) l (vI v :: st) h k n) : Z X pc l (vI x :: .ref (a 6) :: st) h k n := by
  subst hx
  exact Z.iaload C hd R.c6 (by omega) (by omega) (by decide) (kk _ (by rw [Int.toNat_natCast]))
theorem w_6 {X : zX} {cc : ByteArray} {y : MethodName} {d pc k n : Nat} {l st : List Value} {h : zH} {a : Nat → Nat} {t : Int} {S : Nat → Nat → Int} (C : ZC X cc y d) (R : MR (zG_of X) a t S h) {x v : Int} (j : Nat) (hd : decode cc pc = .ok (.iastore, 1)) (hx : x = (j : Int)) (hj : j < 10) (kk : ∀ h' : zH, MR (zG_of X) a t (su S 6 j v) h' → Z X (pc + 1) l st h' k n) : Z X pc l (vI v :: vI x :: .ref (a 6) :: st) h k n := by
  subst hx
  refine Z.iastore C hd R.c6 (by omega) (by omega) (by decide) (kk _ ?_)
  rw [Int.toNat_natCast]
  exact R.st (k := 6) rfl j v
theorem a_7 {X : zX} {cc : ByteArray} {y : MethodName} {d pc k n : Nat} {l st : List Value} {h : zH} {a : Nat → Nat} {t : Int} {S : Nat → Nat → Int} (C : ZC X cc y d) (R : MR (zG_of X) a t S h) {x : Int} (j : Nat) (hd : decode cc pc = .ok (.iaload, 1)) (hx : x = (j : Int)) (hj : j < 10) (kk : ∀ v : Int, v = S 7 j → Z X (pc + 1) l (vI v :: st) h k n) : Z X pc l (vI x :: .ref (a 7) :: st) h k n := by
  subst hx
  exact Z.iaload C hd R.c7 (by omega) (by omega) (by decide) (kk _ (by rw [Int.toNat_natCast]))
theorem w_7 {X : zX} {cc : ByteArray} {y : MethodName} {d pc k n : Nat} {l st : List Value} {h : zH} {a : Nat → Nat} {t : Int} {S : Nat → Nat → Int} (C : ZC X cc y d) (R : MR (zG_of X) a t S h) {x v : Int} (j : Nat) (hd : decode cc pc = .ok (.iastore, 1)) (hx : x = (j : Int)) (hj : j < 10) (kk : ∀ h' : zH, MR (zG_of X) a t (su S 7 j v) h' → Z X (pc + 1) l st h' k n) : Z X pc l (vI v :: vI x :: .ref (a 7) :: st) h k n := by
  subst hx
  refine Z.iastore C hd R.c7 (by omega) (by omega) (by decide) (kk _ ?_)
  rw [Int.toNat_natCast]
  exact R.st (k := 7) rfl j v
theorem a_8 {X : zX} {cc : ByteArray} {y : MethodName} {d pc k n : Nat} {l st : List Value} {h : zH} {a : Nat → Nat} {t : Int} {S : Nat → Nat → Int} (C : ZC X cc y d) (R : MR (zG_of X) a t S h) (I : MB S) {x : Int} (j : Nat) (hd : decode cc pc = .ok (.iaload, 1)) (hx : x = (j : Int)) (hj : j < 10) (kk : ∀ v : Int, v = S 8 j → 0 ≤ v ∧ v ≤ 300 → Z X (pc + 1) l (vI v :: st) h k n) : Z X pc l (vI x :: .ref (a 8) :: st) h k n := by
  subst hx
  exact Z.iaload C hd R.c8 (by omega) (by omega) (by decide) (kk _ (by rw [Int.toNat_natCast]) (by rw [Int.toNat_natCast]; exact I 8 j (by decide)))
theorem b_8 {X : zX} {cc : ByteArray} {y : MethodName} {d pc k n : Nat} {l st : List Value} {h : zH} {a : Nat → Nat} {t : Int} {S : Nat → Nat → Int} (C : ZC X cc y d) (R : MR (zG_of X) a t S h) {x : Int} (j : Nat) (hd : decode cc pc = .ok (.iaload, 1)) (hx : x = (j : Int)) (hj : j < 10) (kk : ∀ v : Int, v = S 8 j → Z X (pc + 1) l (vI v :: st) h k n) : Z X pc l (vI x :: .ref (a 8) :: st) h k n := by
  subst hx
  exact Z.iaload C hd R.c8 (by omega) (by omega) (by decide) (kk _ (by rw [Int.toNat_natCast]))
theorem w_8 {X : zX} {cc : ByteArray} {y : MethodName} {d pc k n : Nat} {l st : List Value} {h : zH} {a : Nat → Nat} {t : Int} {S : Nat → Nat → Int} (C : ZC X cc y d) (R : MR (zG_of X) a t S h) {x v : Int} (j : Nat) (hd : decode cc pc = .ok (.iastore, 1)) (hx : x = (j : Int)) (hj : j < 10) (kk : ∀ h' : zH, MR (zG_of X) a t (su S 8 j v) h' → Z X (pc + 1) l st h' k n) : Z X pc l (vI v :: vI x :: .ref (a 8) :: st) h k n := by
  subst hx
  refine Z.iastore C hd R.c8 (by omega) (by omega) (by decide) (kk _ ?_)
  rw [Int.toNat_natCast]
  exact R.st (k := 8) rfl j v
theorem a_9 {X : zX} {cc : ByteArray} {y : MethodName} {d pc k n : Nat} {l st : List Value} {h : zH} {a : Nat → Nat} {t : Int} {S : Nat → Nat → Int} (C : ZC X cc y d) (R : MR (zG_of X) a t S h) (I : MB S) {x : Int} (j : Nat) (hd : decode cc pc = .ok (.iaload, 1)) (hx : x = (j : Int)) (hj : j < 100) (kk : ∀ v : Int, v = S 9 j → 0 ≤ v ∧ v ≤ 1000000 → Z X (pc + 1) l (vI v :: st) h k n) : Z X pc l (vI x :: .ref (a 9) :: st) h k n := by
  subst hx
  exact Z.iaload C hd R.c9 (by omega) (by omega) (by decide) (kk _ (by rw [Int.toNat_natCast]) (by rw [Int.toNat_natCast]; exact I 9 j (by decide)))
theorem b_9 {X : zX} {cc : ByteArray} {y : MethodName} {d pc k n : Nat} {l st : List Value} {h : zH} {a : Nat → Nat} {t : Int} {S : Nat → Nat → Int} (C : ZC X cc y d) (R : MR (zG_of X) a t S h) {x : Int} (j : Nat) (hd : decode cc pc = .ok (.iaload, 1)) (hx : x = (j : Int)) (hj : j < 100) (kk : ∀ v : Int, v = S 9 j → Z X (pc + 1) l (vI v :: st) h k n) : Z X pc l (vI x :: .ref (a 9) :: st) h k n := by
  subst hx
  exact Z.iaload C hd R.c9 (by omega) (by omega) (by decide) (kk _ (by rw [Int.toNat_natCast]))
theorem w_9 {X : zX} {cc : ByteArray} {y : MethodName} {d pc k n : Nat} {l st : List Value} {h : zH} {a : Nat → Nat} {t : Int} {S : Nat → Nat → Int} (C : ZC X cc y d) (R : MR (zG_of X) a t S h) {x v : Int} (j : Nat) (hd : decode cc pc = .ok (.iastore, 1)) (hx : x = (j : Int)) (hj : j < 100) (kk : ∀ h' : zH, MR (zG_of X) a t (su S 9 j v) h' → Z X (pc + 1) l st h' k n) : Z X pc l (vI v :: vI x :: .ref (a 9) :: st) h k n := by
  subst hx
  refine Z.iastore C hd R.c9 (by omega) (by omega) (by decide) (kk _ ?_)
  rw [Int.toNat_natCast]
  exact R.st (k := 9) rfl j v
theorem a_11 {X : zX} {cc : ByteArray} {y : MethodName} {d pc k n : Nat} {l st : List Value} {h : zH} {a : Nat → Nat} {t : Int} {S : Nat → Nat → Int} (C : ZC X cc y d) (R : MR (zG_of X) a t S h) (I : MB S) {x : Int} (j : Nat) (hd : decode cc pc = .ok (.iaload, 1)) (hx : x = (j : Int)) (hj : j < 20) (kk : ∀ v : Int, v = S 11 j → 0 ≤ v ∧ v ≤ 20 → Z X (pc + 1) l (vI v :: st) h k n) : Z X pc l (vI x :: .ref (a 11) :: st) h k n := by
  subst hx
  exact Z.iaload C hd R.c11 (by omega) (by omega) (by decide) (kk _ (by rw [Int.toNat_natCast]) (by rw [Int.toNat_natCast]; exact I 11 j (by decide)))
theorem b_11 {X : zX} {cc : ByteArray} {y : MethodName} {d pc k n : Nat} {l st : List Value} {h : zH} {a : Nat → Nat} {t : Int} {S : Nat → Nat → Int} (C : ZC X cc y d) (R : MR (zG_of X) a t S h) {x : Int} (j : Nat) (hd : decode cc pc = .ok (.iaload, 1)) (hx : x = (j : Int)) (hj : j < 20) (kk : ∀ v : Int, v = S 11 j → Z X (pc + 1) l (vI v :: st) h k n) : Z X pc l (vI x :: .ref (a 11) :: st) h k n := by
  subst hx
  exact Z.iaload C hd R.c11 (by omega) (by omega) (by decide) (kk _ (by rw [Int.toNat_natCast]))
theorem w_11 {X : zX} {cc : ByteArray} {y : MethodName} {d pc k n : Nat} {l st : List Value} {h : zH} {a : Nat → Nat} {t : Int} {S : Nat → Nat → Int} (C : ZC X cc y d) (R : MR (zG_of X) a t S h) {x v : Int} (j : Nat) (hd : decode cc pc = .ok (.iastore, 1)) (hx : x = (j : Int)) (hj : j < 20) (kk : ∀ h' : zH, MR (zG_of X) a t (su S 11 j v) h' → Z X (pc + 1) l st h' k n) : Z X pc l (vI v :: vI x :: .ref (a 11) :: st) h k n := by
  subst hx
  refine Z.iastore C hd R.c11 (by omega) (by omega) (by decide) (kk _ ?_)
  rw [Int.toNat_natCast]
  exact R.st (k := 11) rfl j v
theorem a_12 {X : zX} {cc : ByteArray} {y : MethodName} {d pc k n : Nat} {l st : List Value} {h : zH} {a : Nat → Nat} {t : Int} {S : Nat → Nat → Int} (C : ZC X cc y d) (R : MR (zG_of X) a t S h) (I : MB S) {x : Int} (j : Nat) (hd : decode cc pc = .ok (.iaload, 1)) (hx : x = (j : Int)) (hj : j < 20) (kk : ∀ v : Int, v = S 12 j → 0 ≤ v ∧ v ≤ 300 → Z X (pc + 1) l (vI v :: st) h k n) : Z X pc l (vI x :: .ref (a 12) :: st) h k n := by
  subst hx
  exact Z.iaload C hd R.c12 (by omega) (by omega) (by decide) (kk _ (by rw [Int.toNat_natCast]) (by rw [Int.toNat_natCast]; exact I 12 j (by decide)))
theorem b_12 {X : zX} {cc : ByteArray} {y : MethodName} {d pc k n : Nat} {l st : List Value} {h : zH} {a : Nat → Nat} {t : Int} {S : Nat → Nat → Int} (C : ZC X cc y d) (R : MR (zG_of X) a t S h) {x : Int} (j : Nat) (hd : decode cc pc = .ok (.iaload, 1)) (hx : x = (j : Int)) (hj : j < 20) (kk : ∀ v : Int, v = S 12 j → Z X (pc + 1) l (vI v :: st) h k n) : Z X pc l (vI x :: .ref (a 12) :: st) h k n := by
  subst hx
  exact Z.iaload C hd R.c12 (by omega) (by omega) (by decide) (kk _ (by rw [Int.toNat_natCast]))
theorem w_12 {X : zX} {cc : ByteArray} {y : MethodName} {d pc k n : Nat} {l st : List Value} {h : zH} {a : Nat → Nat} {t : Int} {S : Nat → Nat → Int} (C : ZC X cc y d) (R : MR (zG_of X) a t S h) {x v : Int} (j : Nat) (hd : decode cc pc = .ok (.iastore, 1)) (hx : x = (j : Int)) (hj : j < 20) (kk : ∀ h' : zH, MR (zG_of X) a t (su S 12 j v) h' → Z X (pc + 1) l st h' k n) : Z X pc l (vI v :: vI x :: .ref (a 12) :: st) h k n := by
  subst hx
  refine Z.iastore C hd R.c12 (by omega) (by omega) (by decide) (kk _ ?_)
  rw [Int.toNat_natCast]
  exact R.st (k := 12) rfl j v
theorem a_13 {X : zX} {cc : ByteArray} {y : MethodName} {d pc k n : Nat} {l st : List Value} {h : zH} {a : Nat → Nat} {t : Int} {S : Nat → Nat → Int} (C : ZC X cc y d) (R : MR (zG_of X) a t S h) (I : MB S) {x : Int} (j : Nat) (hd : decode cc pc = .ok (.baload, 1)) (hx : x = (j : Int)) (hj : j < 200) (kk : ∀ v : Int, v = S 13 j → 0 ≤ v ∧ v ≤ 1 → Z X (pc + 1) l (vI v :: st) h k n) : Z X pc l (vI x :: .ref (a 13) :: st) h k n := by
  subst hx
  exact Z.zaload C hd R.c13 (by omega) (by omega) (by decide) (kk _ (by rw [Int.toNat_natCast]) (by rw [Int.toNat_natCast]; exact I 13 j (by decide)))
theorem b_13 {X : zX} {cc : ByteArray} {y : MethodName} {d pc k n : Nat} {l st : List Value} {h : zH} {a : Nat → Nat} {t : Int} {S : Nat → Nat → Int} (C : ZC X cc y d) (R : MR (zG_of X) a t S h) {x : Int} (j : Nat) (hd : decode cc pc = .ok (.baload, 1)) (hx : x = (j : Int)) (hj : j < 200) (kk : ∀ v : Int, v = S 13 j → Z X (pc + 1) l (vI v :: st) h k n) : Z X pc l (vI x :: .ref (a 13) :: st) h k n := by
  subst hx
  exact Z.zaload C hd R.c13 (by omega) (by omega) (by decide) (kk _ (by rw [Int.toNat_natCast]))
theorem w_13 {X : zX} {cc : ByteArray} {y : MethodName} {d pc k n : Nat} {l st : List Value} {h : zH} {a : Nat → Nat} {t : Int} {S : Nat → Nat → Int} (C : ZC X cc y d) (R : MR (zG_of X) a t S h) {x v : Int} (j : Nat) (hd : decode cc pc = .ok (.bastore, 1)) (hx : x = (j : Int)) (hj : j < 200) (hz : v = 0 ∨ v = 1) (kk : ∀ h' : zH, MR (zG_of X) a t (su S 13 j v) h' → Z X (pc + 1) l st h' k n) : Z X pc l (vI v :: vI x :: .ref (a 13) :: st) h k n := by
  subst hx
  refine Z.zastore C hd R.c13 (by omega) (by omega) (by decide) hz (kk _ ?_)
  rw [Int.toNat_natCast]
  exact R.st (k := 13) rfl j v
theorem a_16 {X : zX} {cc : ByteArray} {y : MethodName} {d pc k n : Nat} {l st : List Value} {h : zH} {a : Nat → Nat} {t : Int} {S : Nat → Nat → Int} (C : ZC X cc y d) (R : MR (zG_of X) a t S h) (I : MB S) {x : Int} (j : Nat) (hd : decode cc pc = .ok (.iaload, 1)) (hx : x = (j : Int)) (hj : j < 30) (kk : ∀ v : Int, v = S 16 j → 0 ≤ v ∧ v ≤ 2 → Z X (pc + 1) l (vI v :: st) h k n) : Z X pc l (vI x :: .ref (a 16) :: st) h k n := by
  subst hx
  exact Z.iaload C hd R.c16 (by omega) (by omega) (by decide) (kk _ (by rw [Int.toNat_natCast]) (by rw [Int.toNat_natCast]; exact I 16 j (by decide)))
theorem b_16 {X : zX} {cc : ByteArray} {y : MethodName} {d pc k n : Nat} {l st : List Value} {h : zH} {a : Nat → Nat} {t : Int} {S : Nat → Nat → Int} (C : ZC X cc y d) (R : MR (zG_of X) a t S h) {x : Int} (j : Nat) (hd : decode cc pc = .ok (.iaload, 1)) (hx : x = (j : Int)) (hj : j < 30) (kk : ∀ v : Int, v = S 16 j → Z X (pc + 1) l (vI v :: st) h k n) : Z X pc l (vI x :: .ref (a 16) :: st) h k n := by
  subst hx
  exact Z.iaload C hd R.c16 (by omega) (by omega) (by decide) (kk _ (by rw [Int.toNat_natCast]))
theorem w_16 {X : zX} {cc : ByteArray} {y : MethodName} {d pc k n : Nat} {l st : List Value} {h : zH} {a : Nat → Nat} {t : Int} {S : Nat → Nat → Int} (C : ZC X cc y d) (R : MR (zG_of X) a t S h) {x v : Int} (j : Nat) (hd : decode cc pc = .ok (.iastore, 1)) (hx : x = (j : Int)) (hj : j < 30) (kk : ∀ h' : zH, MR (zG_of X) a t (su S 16 j v) h' → Z X (pc + 1) l st h' k n) : Z X pc l (vI v :: vI x :: .ref (a 16) :: st) h k n := by
  subst hx
  refine Z.iastore C hd R.c16 (by omega) (by omega) (by decide) (kk _ ?_)
  rw [Int.toNat_natCast]
  exact R.st (k := 16) rfl j v
theorem a_17 {X : zX} {cc : ByteArray} {y : MethodName} {d pc k n : Nat} {l st : List Value} {h : zH} {a : Nat → Nat} {t : Int} {S : Nat → Nat → Int} (C : ZC X cc y d) (R : MR (zG_of X) a t S h) (I : MB S) {x : Int} (j : Nat) (hd : decode cc pc = .ok (.iaload, 1)) (hx : x = (j : Int)) (hj : j < 30) (kk : ∀ v : Int, v = S 17 j → 0 ≤ v ∧ v ≤ 2 → Z X (pc + 1) l (vI v :: st) h k n) : Z X pc l (vI x :: .ref (a 17) :: st) h k n := by
  subst hx
  exact Z.iaload C hd R.c17 (by omega) (by omega) (by decide) (kk _ (by rw [Int.toNat_natCast]) (by rw [Int.toNat_natCast]; exact I 17 j (by decide)))
theorem b_17 {X : zX} {cc : ByteArray} {y : MethodName} {d pc k n : Nat} {l st : List Value} {h : zH} {a : Nat → Nat} {t : Int} {S : Nat → Nat → Int} (C : ZC X cc y d) (R : MR (zG_of X) a t S h) {x : Int} (j : Nat) (hd : decode cc pc = .ok (.iaload, 1)) (hx : x = (j : Int)) (hj : j < 30) (kk : ∀ v : Int, v = S 17 j → Z X (pc + 1) l (vI v :: st) h k n) : Z X pc l (vI x :: .ref (a 17) :: st) h k n := by
  subst hx
  exact Z.iaload C hd R.c17 (by omega) (by omega) (by decide) (kk _ (by rw [Int.toNat_natCast]))
theorem w_17 {X : zX} {cc : ByteArray} {y : MethodName} {d pc k n : Nat} {l st : List Value} {h : zH} {a : Nat → Nat} {t : Int} {S : Nat → Nat → Int} (C : ZC X cc y d) (R : MR (zG_of X) a t S h) {x v : Int} (j : Nat) (hd : decode cc pc = .ok (.iastore, 1)) (hx : x = (j : Int)) (hj : j < 30) (kk : ∀ h' : zH, MR (zG_of X) a t (su S 17 j v) h' → Z X (pc + 1) l st h' k n) : Z X pc l (vI v :: vI x :: .ref (a 17) :: st) h k n := by
  subst hx
  refine Z.iastore C hd R.c17 (by omega) (by omega) (by decide) (kk _ ?_)
  rw [Int.toNat_natCast]
  exact R.st (k := 17) rfl j v
theorem a_18 {X : zX} {cc : ByteArray} {y : MethodName} {d pc k n : Nat} {l st : List Value} {h : zH} {a : Nat → Nat} {t : Int} {S : Nat → Nat → Int} (C : ZC X cc y d) (R : MR (zG_of X) a t S h) (I : MB S) {x : Int} (j : Nat) (hd : decode cc pc = .ok (.iaload, 1)) (hx : x = (j : Int)) (hj : j < 30) (kk : ∀ v : Int, v = S 18 j → 0 ≤ v ∧ v ≤ 9 → Z X (pc + 1) l (vI v :: st) h k n) : Z X pc l (vI x :: .ref (a 18) :: st) h k n := by
  subst hx
  exact Z.iaload C hd R.c18 (by omega) (by omega) (by decide) (kk _ (by rw [Int.toNat_natCast]) (by rw [Int.toNat_natCast]; exact I 18 j (by decide)))
theorem b_18 {X : zX} {cc : ByteArray} {y : MethodName} {d pc k n : Nat} {l st : List Value} {h : zH} {a : Nat → Nat} {t : Int} {S : Nat → Nat → Int} (C : ZC X cc y d) (R : MR (zG_of X) a t S h) {x : Int} (j : Nat) (hd : decode cc pc = .ok (.iaload, 1)) (hx : x = (j : Int)) (hj : j < 30) (kk : ∀ v : Int, v = S 18 j → Z X (pc + 1) l (vI v :: st) h k n) : Z X pc l (vI x :: .ref (a 18) :: st) h k n := by
  subst hx
  exact Z.iaload C hd R.c18 (by omega) (by omega) (by decide) (kk _ (by rw [Int.toNat_natCast]))
theorem w_18 {X : zX} {cc : ByteArray} {y : MethodName} {d pc k n : Nat} {l st : List Value} {h : zH} {a : Nat → Nat} {t : Int} {S : Nat → Nat → Int} (C : ZC X cc y d) (R : MR (zG_of X) a t S h) {x v : Int} (j : Nat) (hd : decode cc pc = .ok (.iastore, 1)) (hx : x = (j : Int)) (hj : j < 30) (kk : ∀ h' : zH, MR (zG_of X) a t (su S 18 j v) h' → Z X (pc + 1) l st h' k n) : Z X pc l (vI v :: vI x :: .ref (a 18) :: st) h k n := by
  subst hx
  refine Z.iastore C hd R.c18 (by omega) (by omega) (by decide) (kk _ ?_)
  rw [Int.toNat_natCast]
  exact R.st (k := 18) rfl j v
theorem a_19 {X : zX} {cc : ByteArray} {y : MethodName} {d pc k n : Nat} {l st : List Value} {h : zH} {a : Nat → Nat} {t : Int} {S : Nat → Nat → Int} (C : ZC X cc y d) (R : MR (zG_of X) a t S h) (I : MB S) {x : Int} (j : Nat) (hd : decode cc pc = .ok (.iaload, 1)) (hx : x = (j : Int)) (hj : j < 30) (kk : ∀ v : Int, v = S 19 j → 0 ≤ v ∧ v ≤ 2001 → Z X (pc + 1) l (vI v :: st) h k n) : Z X pc l (vI x :: .ref (a 19) :: st) h k n := by
  subst hx
  exact Z.iaload C hd R.c19 (by omega) (by omega) (by decide) (kk _ (by rw [Int.toNat_natCast]) (by rw [Int.toNat_natCast]; exact I 19 j (by decide)))
theorem b_19 {X : zX} {cc : ByteArray} {y : MethodName} {d pc k n : Nat} {l st : List Value} {h : zH} {a : Nat → Nat} {t : Int} {S : Nat → Nat → Int} (C : ZC X cc y d) (R : MR (zG_of X) a t S h) {x : Int} (j : Nat) (hd : decode cc pc = .ok (.iaload, 1)) (hx : x = (j : Int)) (hj : j < 30) (kk : ∀ v : Int, v = S 19 j → Z X (pc + 1) l (vI v :: st) h k n) : Z X pc l (vI x :: .ref (a 19) :: st) h k n := by
  subst hx
  exact Z.iaload C hd R.c19 (by omega) (by omega) (by decide) (kk _ (by rw [Int.toNat_natCast]))
theorem w_19 {X : zX} {cc : ByteArray} {y : MethodName} {d pc k n : Nat} {l st : List Value} {h : zH} {a : Nat → Nat} {t : Int} {S : Nat → Nat → Int} (C : ZC X cc y d) (R : MR (zG_of X) a t S h) {x v : Int} (j : Nat) (hd : decode cc pc = .ok (.iastore, 1)) (hx : x = (j : Int)) (hj : j < 30) (kk : ∀ h' : zH, MR (zG_of X) a t (su S 19 j v) h' → Z X (pc + 1) l st h' k n) : Z X pc l (vI v :: vI x :: .ref (a 19) :: st) h k n := by
  subst hx
  refine Z.iastore C hd R.c19 (by omega) (by omega) (by decide) (kk _ ?_)
  rw [Int.toNat_natCast]
  exact R.st (k := 19) rfl j v
theorem a_20 {X : zX} {cc : ByteArray} {y : MethodName} {d pc k n : Nat} {l st : List Value} {h : zH} {a : Nat → Nat} {t : Int} {S : Nat → Nat → Int} (C : ZC X cc y d) (R : MR (zG_of X) a t S h) (I : MB S) {x : Int} (j : Nat) (hd : decode cc pc = .ok (.iaload, 1)) (hx : x = (j : Int)) (hj : j < 300) (kk : ∀ v : Int, v = S 20 j → 0 ≤ v ∧ v ≤ 2 → Z X (pc + 1) l (vI v :: st) h k n) : Z X pc l (vI x :: .ref (a 20) :: st) h k n := by
  subst hx
  exact Z.iaload C hd R.c20 (by omega) (by omega) (by decide) (kk _ (by rw [Int.toNat_natCast]) (by rw [Int.toNat_natCast]; exact I 20 j (by decide)))
theorem b_20 {X : zX} {cc : ByteArray} {y : MethodName} {d pc k n : Nat} {l st : List Value} {h : zH} {a : Nat → Nat} {t : Int} {S : Nat → Nat → Int} (C : ZC X cc y d) (R : MR (zG_of X) a t S h) {x : Int} (j : Nat) (hd : decode cc pc = .ok (.iaload, 1)) (hx : x = (j : Int)) (hj : j < 300) (kk : ∀ v : Int, v = S 20 j → Z X (pc + 1) l (vI v :: st) h k n) : Z X pc l (vI x :: .ref (a 20) :: st) h k n := by
  subst hx
  exact Z.iaload C hd R.c20 (by omega) (by omega) (by decide) (kk _ (by rw [Int.toNat_natCast]))
theorem w_20 {X : zX} {cc : ByteArray} {y : MethodName} {d pc k n : Nat} {l st : List Value} {h : zH} {a : Nat → Nat} {t : Int} {S : Nat → Nat → Int} (C : ZC X cc y d) (R : MR (zG_of X) a t S h) {x v : Int} (j : Nat) (hd : decode cc pc = .ok (.iastore, 1)) (hx : x = (j : Int)) (hj : j < 300) (kk : ∀ h' : zH, MR (zG_of X) a t (su S 20 j v) h' → Z X (pc + 1) l st h' k n) : Z X pc l (vI v :: vI x :: .ref (a 20) :: st) h k n := by
  subst hx
  refine Z.iastore C hd R.c20 (by omega) (by omega) (by decide) (kk _ ?_)
  rw [Int.toNat_natCast]
  exact R.st (k := 20) rfl j v
theorem a_21 {X : zX} {cc : ByteArray} {y : MethodName} {d pc k n : Nat} {l st : List Value} {h : zH} {a : Nat → Nat} {t : Int} {S : Nat → Nat → Int} (C : ZC X cc y d) (R : MR (zG_of X) a t S h) (I : MB S) {x : Int} (j : Nat) (hd : decode cc pc = .ok (.iaload, 1)) (hx : x = (j : Int)) (hj : j < 30) (kk : ∀ v : Int, v = S 21 j → 0 ≤ v ∧ v ≤ 10 → Z X (pc + 1) l (vI v :: st) h k n) : Z X pc l (vI x :: .ref (a 21) :: st) h k n := by
  subst hx
  exact Z.iaload C hd R.c21 (by omega) (by omega) (by decide) (kk _ (by rw [Int.toNat_natCast]) (by rw [Int.toNat_natCast]; exact I 21 j (by decide)))
theorem b_21 {X : zX} {cc : ByteArray} {y : MethodName} {d pc k n : Nat} {l st : List Value} {h : zH} {a : Nat → Nat} {t : Int} {S : Nat → Nat → Int} (C : ZC X cc y d) (R : MR (zG_of X) a t S h) {x : Int} (j : Nat) (hd : decode cc pc = .ok (.iaload, 1)) (hx : x = (j : Int)) (hj : j < 30) (kk : ∀ v : Int, v = S 21 j → Z X (pc + 1) l (vI v :: st) h k n) : Z X pc l (vI x :: .ref (a 21) :: st) h k n := by
  subst hx
  exact Z.iaload C hd R.c21 (by omega) (by omega) (by decide) (kk _ (by rw [Int.toNat_natCast]))
theorem w_21 {X : zX} {cc : ByteArray} {y : MethodName} {d pc k n : Nat} {l st : List Value} {h : zH} {a : Nat → Nat} {t : Int} {S : Nat → Nat → Int} (C : ZC X cc y d) (R : MR (zG_of X) a t S h) {x v : Int} (j : Nat) (hd : decode cc pc = .ok (.iastore, 1)) (hx : x = (j : Int)) (hj : j < 30) (kk : ∀ h' : zH, MR (zG_of X) a t (su S 21 j v) h' → Z X (pc + 1) l st h' k n) : Z X pc l (vI v :: vI x :: .ref (a 21) :: st) h k n := by
  subst hx
  refine Z.iastore C hd R.c21 (by omega) (by omega) (by decide) (kk _ ?_)
  rw [Int.toNat_natCast]
  exact R.st (k := 21) rfl j v
theorem a_22 {X : zX} {cc : ByteArray} {y : MethodName} {d pc k n : Nat} {l st : List Value} {h : zH} {a : Nat → Nat} {t : Int} {S : Nat → Nat → Int} (C : ZC X cc y d) (R : MR (zG_of X) a t S h) (I : MB S) {x : Int} (j : Nat) (hd : decode cc pc = .ok (.iaload, 1)) (hx : x = (j : Int)) (hj : j < 30) (kk : ∀ v : Int, v = S 22 j → 0 ≤ v ∧ v ≤ 10 → Z X (pc + 1) l (vI v :: st) h k n) : Z X pc l (vI x :: .ref (a 22) :: st) h k n := by
  subst hx
  exact Z.iaload C hd R.c22 (by omega) (by omega) (by decide) (kk _ (by rw [Int.toNat_natCast]) (by rw [Int.toNat_natCast]; exact I 22 j (by decide)))
theorem b_22 {X : zX} {cc : ByteArray} {y : MethodName} {d pc k n : Nat} {l st : List Value} {h : zH} {a : Nat → Nat} {t : Int} {S : Nat → Nat → Int} (C : ZC X cc y d) (R : MR (zG_of X) a t S h) {x : Int} (j : Nat) (hd : decode cc pc = .ok (.iaload, 1)) (hx : x = (j : Int)) (hj : j < 30) (kk : ∀ v : Int, v = S 22 j → Z X (pc + 1) l (vI v :: st) h k n) : Z X pc l (vI x :: .ref (a 22) :: st) h k n := by
  subst hx
  exact Z.iaload C hd R.c22 (by omega) (by omega) (by decide) (kk _ (by rw [Int.toNat_natCast]))
theorem w_22 {X : zX} {cc : ByteArray} {y : MethodName} {d pc k n : Nat} {l st : List Value} {h : zH} {a : Nat → Nat} {t : Int} {S : Nat → Nat → Int} (C : ZC X cc y d) (R : MR (zG_of X) a t S h) {x v : Int} (j : Nat) (hd : decode cc pc = .ok (.iastore, 1)) (hx : x = (j : Int)) (hj : j < 30) (kk : ∀ h' : zH, MR (zG_of X) a t (su S 22 j v) h' → Z X (pc + 1) l st h' k n) : Z X pc l (vI v :: vI x :: .ref (a 22) :: st) h k n := by
  subst hx
  refine Z.iastore C hd R.c22 (by omega) (by omega) (by decide) (kk _ ?_)
  rw [Int.toNat_natCast]
  exact R.st (k := 22) rfl j v
theorem w_0 {X : zX} {cc : ByteArray} {y : MethodName} {d pc k n : Nat} {l st : List Value} {h : zH} {a : Nat → Nat} {t : Int} {S : Nat → Nat → Int} (C : ZC X cc y d) (R : MR (zG_of X) a t S h) {v : Int} (hy : y.cls = RX7) (hd : decode cc pc = .ok (.putfield 62, 3)) (kk : ∀ h' : zH, MR (zG_of X) a v S h' → Z X (pc + 3) l st h' k n) : Z X pc l (vI v :: .ref (a 0) :: st) h k n := p_X7_62 (fs' := mfs v S a) C hy hd R.1 (Nat.le_of_ble_eq_true rfl) rfl (kk _ (R.th v))
theorem w_2 {X : zX} {cc : ByteArray} {y : MethodName} {d pc k n : Nat} {l st : List Value} {h : zH} {a : Nat → Nat} {t : Int} {S : Nat → Nat → Int} (C : ZC X cc y d) (R : MR (zG_of X) a t S h) {v : Int} (hy : y.cls = RX7) (hd : decode cc pc = .ok (.putfield 66, 3)) (kk : ∀ h' : zH, MR (zG_of X) a t (su S 2 0 v) h' → Z X (pc + 3) l st h' k n) : Z X pc l (vI v :: .ref (a 0) :: st) h k n := p_X7_66 (fs' := mfs t (su S 2 0 v) a) C hy hd R.1 (Nat.le_of_ble_eq_true rfl) rfl (kk _ (R.pt (k := 2) rfl v))
theorem w_10 {X : zX} {cc : ByteArray} {y : MethodName} {d pc k n : Nat} {l st : List Value} {h : zH} {a : Nat → Nat} {t : Int} {S : Nat → Nat → Int} (C : ZC X cc y d) (R : MR (zG_of X) a t S h) {v : Int} (hy : y.cls = RX7) (hd : decode cc pc = .ok (.putfield 73, 3)) (kk : ∀ h' : zH, MR (zG_of X) a t (su S 10 0 v) h' → Z X (pc + 3) l st h' k n) : Z X pc l (vI v :: .ref (a 0) :: st) h k n := p_X7_73 (fs' := mfs t (su S 10 0 v) a) C hy hd R.1 (Nat.le_of_ble_eq_true rfl) rfl (kk _ (R.pt (k := 10) rfl v))
theorem w_15 {X : zX} {cc : ByteArray} {y : MethodName} {d pc k n : Nat} {l st : List Value} {h : zH} {a : Nat → Nat} {t : Int} {S : Nat → Nat → Int} (C : ZC X cc y d) (R : MR (zG_of X) a t S h) {v : Int} (hy : y.cls = RX7) (hd : decode cc pc = .ok (.putfield 76, 3)) (kk : ∀ h' : zH, MR (zG_of X) a t (su S 15 0 v) h' → Z X (pc + 3) l st h' k n) : Z X pc l (vI v :: .ref (a 0) :: st) h k n := p_X7_76 (fs' := mfs t (su S 15 0 v) a) C hy hd R.1 (Nat.le_of_ble_eq_true rfl) rfl (kk _ (R.pt (k := 15) rfl v))
theorem w_1 {X : zX} {cc : ByteArray} {y : MethodName} {d pc k n : Nat} {l st : List Value} {h : zH} {a : Nat → Nat} {t : Int} {S : Nat → Nat → Int} (C : ZC X cc y d) (R : MR (zG_of X) a t S h) {v : Int} (hy : y.cls = RX7) (hd : decode cc pc = .ok (.putfield 79, 3)) (kk : ∀ h' : zH, MR (zG_of X) a t (su S 1 0 v) h' → Z X (pc + 3) l st h' k n) : Z X pc l (vI v :: .ref (a 0) :: st) h k n := p_X7_79 (fs' := mfs t (su S 1 0 v) a) C hy hd R.1 (Nat.le_of_ble_eq_true rfl) rfl (kk _ (R.pt (k := 1) rfl v))
theorem w_14 {X : zX} {cc : ByteArray} {y : MethodName} {d pc k n : Nat} {l st : List Value} {h : zH} {a : Nat → Nat} {t : Int} {S : Nat → Nat → Int} (C : ZC X cc y d) (R : MR (zG_of X) a t S h) {v : Int} (hy : y.cls = RX7) (hd : decode cc pc = .ok (.putfield 122, 3)) (kk : ∀ h' : zH, MR (zG_of X) a t (su S 14 0 v) h' → Z X (pc + 3) l st h' k n) : Z X pc l (vI v :: .ref (a 0) :: st) h k n := p_X7_122 (fs' := mfs t (su S 14 0 v) a) C hy hd R.1 (Nat.le_of_ble_eq_true rfl) rfl (kk _ (R.pt (k := 14) rfl v))
