theorem Z.argc {X : zX} {pc : Nat} {l st : List Value} {h : zH} {k n : Nat} {x x' z z' : Int} (e1 : x = x') (e2 : z = z') (kk : Z X pc l (vI z' :: vI x' :: st) h k n) : Z X pc l (vI z :: vI x :: st) h k n := by
  subst e1; subst e2; exact kk
theorem mbl_ne (o : Nat) {g : Nat} (h5 : g ≠ 5) (h9 : g ≠ 9) : ∀ (q : Nat) (S : Nat → Nat → Int) (r : Int), mbl o q S r g = S g
  | 0, _, _ => rfl
  | q + 1, S, r => by
    rw [mbl_succ]
    split
    · rw [mbl_ne o h5 h9 q, mowe_ne _ _ _ _ h9, su_ne _ _ _ h5]
    · rfl
theorem mbring_ne (S : Nat → Nat → Int) (o f : Nat) {g : Nat} (h5 : g ≠ 5) (h9 : g ≠ 9) : mbring S o f g = S g := by
  rw [mbring, mbl_ne _ h5 h9, su_ne _ _ _ h5]
theorem fS1_ne (S : Nat → Nat → Int) (o f : Nat) {g : Nat} (h5 : g ≠ 5) (h7 : g ≠ 7) (h9 : g ≠ 9) : fS1 S o f g = S g := by
  unfold fS1
  split
  · rw [su_ne _ _ _ h7, su_ne _ _ _ h5]
  · split
    · exact mbring_ne S o f h5 h9
    · rfl
theorem BI_all {o : Nat} : ∀ (q : Nat) {S : Nat → Nat → Int} {r : Int}, r ≤ q → BI S o r → BI (mbl o q S r) o 0
  | 0, S, r, h, hB => by
    have : r = 0 := by have := hB.2.1; omega
    subst this
    exact hB
  | q + 1, S, r, h, hB => by
    rw [mbl_succ]
    split
    · rename_i c
      obtain ⟨s1, s2, s3, s4⟩ := hB.step c
      exact BI_all q (by omega) s4
    · have : r = 0 := by have := hB.2.1; omega
      subst this
      exact hB
theorem bring_BI {S0 : Nat → Nat → Int} (I : MB S0) {o f : Nat} (hD : ∀ j, S0 9 j ≤ 6000) (hall : S0 11 f ≤ moth S0 o (mM S0) + S0 5 o) : BI (su S0 5 o (S0 5 o - (if S0 5 o < S0 11 f then S0 5 o else S0 11 f))) o (S0 11 f - (if S0 5 o < S0 11 f then S0 5 o else S0 11 f)) := by
  have b5 : 0 ≤ S0 5 o ∧ S0 5 o ≤ 20 := I 5 o (by decide)
  have b11 : 0 ≤ S0 11 f ∧ S0 11 f ≤ 20 := I 11 f (by decide)
  have hb2 : 0 ≤ (if S0 5 o < S0 11 f then S0 5 o else S0 11 f) ∧ (if S0 5 o < S0 11 f then S0 5 o else S0 11 f) ≤ S0 5 o ∧ (if S0 5 o < S0 11 f then S0 5 o else S0 11 f) ≤ S0 11 f := by split <;> omega
  have hb3 : S0 11 f - (if S0 5 o < S0 11 f then S0 5 o else S0 11 f) ≤ moth S0 o (mM S0) ∨ S0 11 f - (if S0 5 o < S0 11 f then S0 5 o else S0 11 f) = 0 := by split <;> omega
  have hm0 : 0 ≤ moth S0 o (mM S0) := moth_nn I o _
  refine ⟨MB_su I 5 o (by show _ ∧ _ ≤ (20 : Int); omega), by omega, by omega, ?_, fun j => ?_⟩
  · rw [moth_own, show mM (su S0 5 o (S0 5 o - (if S0 5 o < S0 11 f then S0 5 o else S0 11 f))) = mM S0 from rfl]
    omega
  · rw [su_ne _ _ _ (by decide)]
    have := hD j
    omega
theorem MB_bring {S : Nat → Nat → Int} (I : MB S) {o f : Nat} (hD : ∀ j, S 9 j ≤ 6000) (hall : S 11 f ≤ moth S o (mM S) + S 5 o) : MB (mbring S o f) ∧ ∀ j, mbring S o f 9 j ≤ 6020 := by
  have hB := bring_BI I (o := o) (f := f) hD hall
  have h2 := BI_all 20 (by have := hB.2.2.1; omega) hB
  exact ⟨h2.1, fun j => by have := h2.2.2.2.2 j; rw [mbring]; omega⟩
theorem MB_fS1 {S : Nat → Nat → Int} (I : MB S) {o f : Nat} (hD : ∀ j, S 9 j ≤ 6000) (hc : True) (hall : S 13 (20 * o + f) = 0 → ¬ (¬ fFrom S o f = -1 ∧ S 11 f ≤ S 5 (fFrom S o f).toNat) → S 11 f ≤ moth S o (mM S) + S 5 o) : MB (fS1 S o f) := by
  unfold fS1
  split
  · rename_i q
    have b5 : 0 ≤ S 5 (fFrom S o f).toNat ∧ S 5 (fFrom S o f).toNat ≤ 20 := I 5 _ (by decide)
    have b11 : 0 ≤ S 11 f ∧ S 11 f ≤ 20 := I 11 f (by decide)
    exact MB_su7 (MB_su I 5 _ (by show _ ∧ _ ≤ (20 : Int); omega)) _ _
  · rename_i q
    split
    · rename_i c
      exact (MB_bring I hD (hall c q)).1
    · exact I
theorem MB_fS2 {S1 : Nat → Nat → Int} (I : MB S1) {o f : Nat} (h14 : S1 14 0 < 300) (h12 : S1 12 f ≤ S1 14 0) (h8 : S1 8 o ≤ S1 14 0) (p : Int) : MB (fS2 S1 o f p) := by
  have b12 : 0 ≤ S1 12 f ∧ S1 12 f ≤ 300 := I 12 f (by decide)
  have b8 : 0 ≤ S1 8 o ∧ S1 8 o ≤ 300 := I 8 o (by decide)
  have b14 : 0 ≤ S1 14 0 ∧ S1 14 0 ≤ 300 := I 14 0 (by decide)
  exact MB_su (MB_su (MB_su (MB_su7 I _ _) 12 f (by show _ ∧ _ ≤ (300 : Int); omega)) 8 o (by show _ ∧ _ ≤ (300 : Int); omega)) 14 0 (by show _ ∧ _ ≤ (300 : Int); omega)
