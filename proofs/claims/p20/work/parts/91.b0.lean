/-! an act keeps what the law asks of the tables, and the counts -/
theorem stn_E {c : Int} {S1 S : Nat → Nat → Int} (E : ES S) (h : c = 0 → ES S1) : ES (stn c S1 S) := by
  unfold stn
  by_cases z : c = 0
  · rw [if_pos z]
    exact h z
  · rw [if_neg z]
    exact E
theorem kinds (x : Int) : x % 20 = 0 ∨ x % 20 = 1 ∨ x % 20 = 2 ∨ (x % 20 = 3 ∨ x % 20 = 4) ∨ (x % 20 = 5 ∨ x % 20 = 6) ∨ (7 ≤ x % 20 ∧ x % 20 ≤ 10) ∨ 11 ≤ x % 20 := by omega
theorem aE {S : Nat → Nat → Int} {x : Int} (C : jC (fun _ _ => False) S) (E : ES S) (M1 : MB (aS S x)) : ES (aS S x) := by
  rcases kinds x with c | c | c | c | c | c | c
  · rw [aS_0 S c]
    exact stn_E E (fun z => E_join C E z)
  · rw [aS_1 S c]
    exact stn_E E (fun z => E_film C E z)
  · rw [aS_2 S c]
    by_cases d : x / 20 % 4 = 0
    · rw [if_pos d]
      exact stn_E E (fun z => E_leave C E z)
    · rw [if_neg d]
      exact E
  · rw [aS_3 S c]
    exact stn_E E (fun _ => E_pass E _)
  · rw [aS_4 S c]
    exact stn_E E (fun z => E_prop C E z)
  · rw [aS_5 S c]
    exact stn_E E (fun z => E_vote C E z)
  · rw [aS_6 S c] at M1 ⊢
    refine stn_E E (fun z => E_fetch C E z ?_)
    unfold stn at M1
    rw [if_pos z] at M1
    exact M1
def same3 (S1 S : Nat → Nat → Int) : Prop := S1 2 0 = S 2 0 ∧ S1 10 0 = S 10 0 ∧ S1 15 0 = S 15 0
theorem stn_3 {c : Int} {S1 S : Nat → Nat → Int} (h : same3 S1 S) : same3 (stn c S1 S) S := by
  unfold stn
  by_cases z : c = 0
  · rw [if_pos z]
    exact h
  · rw [if_neg z]
    exact ⟨rfl, rfl, rfl⟩
theorem n_join (S : Nat → Nat → Int) (u r : Int) : sJoin S u r 2 0 = S 2 0 + 1 ∧ sJoin S u r 10 0 = S 10 0 ∧ sJoin S u r 15 0 = S 15 0 := by
  unfold sJoin
  refine ⟨by rw [su_at, if_pos ⟨rfl, rfl⟩], ?_, ?_⟩
  · rw [su_ne _ _ _ (show 10 ≠ 2 by decide), su_ne _ _ _ (show 10 ≠ 6 by decide), su_ne _ _ _ (show 10 ≠ 5 by decide), su_ne _ _ _ (show 10 ≠ 4 by decide), su_ne _ _ _ (show 10 ≠ 3 by decide)]
  · rw [su_ne _ _ _ (show 15 ≠ 2 by decide), su_ne _ _ _ (show 15 ≠ 6 by decide), su_ne _ _ _ (show 15 ≠ 5 by decide), su_ne _ _ _ (show 15 ≠ 4 by decide), su_ne _ _ _ (show 15 ≠ 3 by decide)]
theorem n_film (S : Nat → Nat → Int) (z : Int) : sFilm S z 2 0 = S 2 0 ∧ sFilm S z 10 0 = S 10 0 + 1 ∧ sFilm S z 15 0 = S 15 0 := by
  unfold sFilm
  refine ⟨?_, by rw [su_at, if_pos ⟨rfl, rfl⟩], ?_⟩
  · rw [su_ne _ _ _ (show 2 ≠ 10 by decide), su_ne _ _ _ (show 2 ≠ 11 by decide)]
  · rw [su_ne _ _ _ (show 15 ≠ 10 by decide), su_ne _ _ _ (show 15 ≠ 11 by decide)]
theorem n_prop (S : Nat → Nat → Int) (r v : Int) : sProp S r v 2 0 = S 2 0 ∧ sProp S r v 10 0 = S 10 0 ∧ sProp S r v 15 0 = S 15 0 + 1 := by
  unfold sProp
  refine ⟨?_, ?_, by rw [su_at, if_pos ⟨rfl, rfl⟩]⟩
  · rw [su_ne _ _ _ (show 2 ≠ 15 by decide), su_ne _ _ _ (show 2 ≠ 18 by decide), su_ne _ _ _ (show 2 ≠ 17 by decide)]
  · rw [su_ne _ _ _ (show 10 ≠ 15 by decide), su_ne _ _ _ (show 10 ≠ 18 by decide), su_ne _ _ _ (show 10 ≠ 17 by decide)]
theorem same3_of {S1 S : Nat → Nat → Int} (h : ∀ k, k = 2 ∨ k = 10 ∨ k = 15 → S1 k = S k) : same3 S1 S := ⟨by rw [h 2 (Or.inl rfl)], by rw [h 10 (Or.inr (Or.inl rfl))], by rw [h 15 (Or.inr (Or.inr rfl))]⟩
theorem n_pass (S : Nat → Nat → Int) (w : Int) : same3 (sPass S w) S := same3_of fun k hk => by
  unfold sPass
  rw [mpl_ne _ (show k ≠ 5 by omega), su_ne _ _ _ (show k ≠ 1 by omega)]
theorem n_vote (S : Nat → Nat → Int) (m p f : Int) : same3 (sVote S m p f) S := same3_of fun k hk => by
  unfold sVote
  rw [mdec_ne _ _ (show k ≠ 16 by omega) (by omega) (by omega) (by omega), su_ne _ _ _ (show k ≠ 20 by omega)]
theorem n_leave (S : Nat → Nat → Int) (o : Nat) : same3 (sLeave S o) S := same3_of fun k hk => by
  unfold sLeave sLv2
  rw [ml3_ne _ _ (show k ≠ 16 by omega) (by omega) (by omega) (by omega) (by omega), ml2_ne _ _ (show k ≠ 13 by omega), ml1_ne _ _ (show k ≠ 7 by omega) (by omega), su_ne _ _ _ (show k ≠ 3 by omega)]
theorem n_fetch (S : Nat → Nat → Int) (o f : Nat) : same3 (sFetch S o f) S := same3_of fun k hk => by
  have h := fS1_ne S o f (k := k) (by omega) (by omega) (by omega)
  unfold sFetch
  split
  · rw [mput_ne _ _ _ (show k ≠ 13 by omega), fS2_ne _ _ _ _ (show k ≠ 7 by omega) (by omega) (by omega) (by omega), h]
  · rw [fS2_ne _ _ _ _ (show k ≠ 7 by omega) (by omega) (by omega) (by omega), h]
theorem code_join (S : Nat → Nat → Int) (u r : Int) : cJoin S u r = 0 ∨ cJoin S u r = 1 ∨ cJoin S u r = 2 := by
  unfold cJoin
  split
  · exact Or.inr (Or.inl rfl)
  · split
    · exact Or.inr (Or.inr rfl)
    · exact Or.inl rfl
theorem code_film (S : Nat → Nat → Int) (z : Int) : cFilm S z = 0 ∨ cFilm S z = 1 ∨ cFilm S z = 2 := by
  unfold cFilm
  split
  · exact Or.inr (Or.inl rfl)
  · split
    · exact Or.inr (Or.inr rfl)
    · exact Or.inl rfl
theorem code_prop (S : Nat → Nat → Int) (m r v : Int) : cProp S m r v = 0 ∨ cProp S m r v = 1 ∨ cProp S m r v = 2 ∨ cProp S m r v = 3 := by
  unfold cProp
  split
  · exact Or.inr (Or.inl rfl)
  · split
    · exact Or.inr (Or.inr (Or.inl rfl))
    · split
      · exact Or.inr (Or.inr (Or.inr rfl))
      · exact Or.inl rfl
theorem stn_is0 (S1 S : Nat → Nat → Int) : stn 0 S1 S = S1 := rfl
theorem stn_is1 (S1 S : Nat → Nat → Int) : stn 1 S1 S = S := rfl
theorem stn_is2 (S1 S : Nat → Nat → Int) : stn 2 S1 S = S := rfl
theorem stn_is3 (S1 S : Nat → Nat → Int) : stn 3 S1 S = S := rfl
theorem aN {S : Nat → Nat → Int} (M : MB S) (x : Int) : ((x % 20 = 0 ∧ 0 ≤ aV S x ∧ aS S x 2 0 = S 2 0 + 1) ∨ (¬ (x % 20 = 0 ∧ 0 ≤ aV S x) ∧ aS S x 2 0 = S 2 0)) ∧ ((x % 20 = 1 ∧ 0 ≤ aV S x ∧ aS S x 10 0 = S 10 0 + 1) ∨ (¬ (x % 20 = 1 ∧ 0 ≤ aV S x) ∧ aS S x 10 0 = S 10 0)) ∧ (((x % 20 = 5 ∨ x % 20 = 6) ∧ 0 ≤ aV S x ∧ aS S x 15 0 = S 15 0 + 1) ∨ (¬ ((x % 20 = 5 ∨ x % 20 = 6) ∧ 0 ≤ aV S x) ∧ aS S x 15 0 = S 15 0)) ∧ ((x % 20 = 0 ∨ x % 20 = 1 ∨ x % 20 = 5 ∨ x % 20 = 6) → -2147483648 ≤ aV S x ∧ aV S x < 2147483648) := by
  have b2 : 0 ≤ S 2 0 ∧ S 2 0 ≤ 10 := M 2 0 (by decide)
  have b10 : 0 ≤ S 10 0 ∧ S 10 0 ≤ 20 := M 10 0 (by decide)
  have b15 : 0 ≤ S 15 0 ∧ S 15 0 ≤ 30 := M 15 0 (by decide)
  rcases kinds x with c | c | c | c | c | c | c
  · rw [aV_0 S c, aS_0 S c]
    have n := n_join S (1 + x / 20 % 20) (x / 20 / 20 % 51)
    rcases code_join S (1 + x / 20 % 20) (x / 20 / 20 % 51) with z | z | z
    · rw [z, an_0, stn_is0]
      omega
    · rw [z, an_1, stn_is1]
      omega
    · rw [z, an_2, stn_is2]
      omega
  · rw [aV_1 S c, aS_1 S c]
    have n := n_film S (1 + x / 20 % 20)
    rcases code_film S (1 + x / 20 % 20) with z | z | z
    · rw [z, an_0, stn_is0]
      omega
    · rw [z, an_1, stn_is1]
      omega
    · rw [z, an_2, stn_is2]
      omega
  · have h : same3 (aS S x) S := by
      rw [aS_2 S c]
      by_cases d : x / 20 % 4 = 0
      · rw [if_pos d]
        exact stn_3 (n_leave _ _)
      · rw [if_neg d]
        exact ⟨rfl, rfl, rfl⟩
    obtain ⟨h1, h2, h3⟩ := h
    omega
  · have h : same3 (aS S x) S := by
      rw [aS_3 S c]
      exact stn_3 (n_pass _ _)
    obtain ⟨h1, h2, h3⟩ := h
    omega
  · rw [aV_4 S c, aS_4 S c]
    have n := n_prop S (x / 20 / 10 % 3) (x / 20 / 30 % 10)
    rcases code_prop S (aO S x) (x / 20 / 10 % 3) (x / 20 / 30 % 10) with z | z | z | z
    · rw [z, an_0, stn_is0]
      omega
    · rw [z, an_1, stn_is1]
      omega
    · rw [z, an_2, stn_is2]
      omega
    · rw [z, an_3, stn_is3]
      omega
  · have h : same3 (aS S x) S := by
      rw [aS_5 S c]
      exact stn_3 (n_vote _ _ _ _)
    obtain ⟨h1, h2, h3⟩ := h
    omega
  · have h : same3 (aS S x) S := by
      rw [aS_6 S c]
      exact stn_3 (n_fetch _ _ _)
    obtain ⟨h1, h2, h3⟩ := h
    omega
