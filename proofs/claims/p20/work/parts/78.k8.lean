/-! fetch: the cache -/
def BX (m F : Nat) (S : Nat → Nat → Int) (k j : Nat) : Int := if (20 * m ≤ j ∧ j < 20 * m + F) ∧ ¬ k / 2 ^ (j - 20 * m) % 2 = 0 then 0 else S 13 j
theorem BX_at {m F : Nat} (S : Nat → Nat → Int) (k : Nat) {i : Nat} (hi : i < F) : BX m F S k (20 * m + i) = if k / 2 ^ i % 2 = 0 then S 13 (20 * m + i) else 0 := by
  unfold BX
  rw [show 20 * m + i - 20 * m = i by omega]
  by_cases c : k / 2 ^ i % 2 = 0
  · rw [if_neg (fun z => z.2 c), if_pos c]
  · rw [if_pos ⟨⟨by omega, by omega⟩, c⟩, if_neg c]
theorem BX_or {m F : Nat} (S : Nat → Nat → Int) (k : Nat) {l : Nat} (hl : l < F) (j : Nat) : BX m F S (k ||| 2 ^ l) j = if j = 20 * m + l then 0 else BX m F S k j := by
  unfold BX
  rw [bit_or]
  by_cases c : j = 20 * m + l
  · rw [if_pos c, if_pos]
    rw [if_pos (show j - 20 * m = l by omega)]
    exact ⟨⟨by omega, by omega⟩, by decide⟩
  · rw [if_neg c]
    by_cases d : 20 * m ≤ j ∧ j < 20 * m + F
    · rw [if_neg (show ¬ j - 20 * m = l by omega)]
    · rw [if_neg (fun z => d z.1), if_neg (fun z => d z.1)]
theorem mclr_BX {S : Nat → Nat → Int} (M : MB S) (m k : Nat) : ∀ n j, mclr S m k n 13 j = BX m n S k j
  | 0, j => by
    unfold BX
    rw [mclr, if_neg (fun z => by omega)]
  | n + 1, j => by
    have h1 : 0 ≤ S 13 (20 * m + n) ∧ S 13 (20 * m + n) ≤ 1 := M 13 _ (by decide)
    have e0 : mclr S m k n 13 (20 * m + n) = S 13 (20 * m + n) := by
      rw [mclr_BX M m k n]
      unfold BX
      rw [if_neg (fun z => by omega)]
    rw [mclr, e0, su_at]
    by_cases c : j = 20 * m + n
    · rw [if_pos ⟨rfl, c⟩, c, BX_at S k (Nat.lt_succ_self n)]
      by_cases d : k / 2 ^ n % 2 = 0
      · rw [if_pos d]
        split <;> omega
      · rw [if_neg d, if_pos (Or.inr d)]
    · rw [if_neg (fun z => c z.2), mclr_BX M m k n]
      unfold BX
      by_cases d : 20 * m ≤ j ∧ j < 20 * m + n
      · by_cases q : k / 2 ^ (j - 20 * m) % 2 = 0
        · rw [if_neg (fun z => z.2 q), if_neg (fun z => z.2 q)]
        · rw [if_pos ⟨d, q⟩, if_pos ⟨⟨d.1, by omega⟩, q⟩]
      · rw [if_neg (fun z => d z.1), if_neg (fun z => d (by omega))]
/-- the class's table beside the reference's set of films that are out -/
def PR (T S : Nat → Nat → Int) (m F : Nat) (X : Nat → Nat → Int) (k : Nat) : Prop := (∀ g, g ≠ 13 → X g = T g) ∧ ∀ j, X 13 j = BX m F S k j
theorem PR.out {T S X : Nat → Nat → Int} {m F k : Nat} (P : PR T S m F X k) {l : Nat} (hl : l < F) : PR T S m F (su X 13 (20 * m + l) 0) (k ||| 2 ^ l) := by
  refine ⟨fun g hg => (su_ne _ _ _ hg).trans (P.1 g hg), fun j => ?_⟩
  rw [su_at, BX_or S k hl]
  by_cases c : j = 20 * m + l
  · rw [if_pos ⟨rfl, c⟩, if_pos c]
  · rw [if_neg (fun z => c z.2), if_neg c]
    exact P.2 j
theorem cU_out (X : Nat → Nat → Int) (m l : Nat) (w : Int) (h : ¬ X 13 (20 * m + l) = 0) : ∀ n, cU (su X 13 (20 * m + l) 0) m w n = cU X m w n - if l < n ∧ w ≤ X 12 l then X 11 l else 0
  | 0 => rfl
  | n + 1 => by
    rw [cU, cU, cU_out X m l w h n, su_at, su_ne X _ _ (show 12 ≠ 13 by decide), su_ne X _ _ (show 11 ≠ 13 by decide)]
    by_cases c : n = l
    · subst c
      rw [if_pos (show 13 = 13 ∧ 20 * m + n = 20 * m + n from ⟨rfl, rfl⟩), if_neg (show ¬ (n < n ∧ w ≤ X 12 n) from fun z => Nat.lt_irrefl n z.1), if_neg (show ¬ (¬ (0 : Int) = 0 ∧ w ≤ X 12 n) from fun z => z.1 rfl)]
      by_cases d : w ≤ X 12 n
      · rw [if_pos ⟨h, d⟩, if_pos ⟨Nat.lt_succ_self n, d⟩]
        omega
      · rw [if_neg (fun z => d z.2), if_neg (fun z => d z.2)]
        omega
    · rw [if_neg (show ¬ (13 = 13 ∧ 20 * m + n = 20 * m + l) from fun z => c (by omega))]
      by_cases d : l < n ∧ w ≤ X 12 l
      · rw [if_pos d, if_pos (show l < n + 1 ∧ w ≤ X 12 l from ⟨by omega, d.2⟩)]
        omega
      · rw [if_neg d, if_neg (show ¬ (l < n + 1 ∧ w ≤ X 12 l) from fun z => d ⟨by omega, z.2⟩)]
        omega
theorem cU_mono {X : Nat → Nat → Int} (h11 : ∀ j, 0 ≤ X 11 j) (h12 : ∀ j, 0 ≤ X 12 j) (m : Nat) (w : Int) : ∀ n, cU X m w n ≤ cU X m 0 n
  | 0 => Int.le_refl _
  | n + 1 => by
    have := cU_mono h11 h12 m w n
    have h := h11 n
    rw [cU, cU]
    by_cases c : ¬ X 13 (20 * m + n) = 0
    · rw [if_pos (show ¬ X 13 (20 * m + n) = 0 ∧ 0 ≤ X 12 n from ⟨c, h12 n⟩)]
      split <;> omega
    · rw [if_neg (show ¬ (¬ X 13 (20 * m + n) = 0 ∧ 0 ≤ X 12 n) from fun z => c z.1), if_neg (show ¬ (¬ X 13 (20 * m + n) = 0 ∧ w ≤ X 12 n) from fun z => c z.1)]
      omega
/-- how many films are held -/
def hC (X : Nat → Nat → Int) (m : Nat) : Nat → Nat
  | 0 => 0
  | n + 1 => hC X m n + if X 13 (20 * m + n) = 0 then 0 else 1
theorem hC_le (X : Nat → Nat → Int) (m : Nat) : ∀ n, hC X m n ≤ n
  | 0 => Nat.le_refl _
  | n + 1 => by have := hC_le X m n; rw [hC]; split <;> omega
theorem hC_out {X : Nat → Nat → Int} {m l : Nat} (h : ¬ X 13 (20 * m + l) = 0) : ∀ n, hC (su X 13 (20 * m + l) 0) m n + (if l < n then 1 else 0) = hC X m n
  | 0 => rfl
  | n + 1 => by
    have ih := hC_out h n
    rw [hC, hC, su_at]
    by_cases c : n = l
    · subst c
      rw [if_neg (Nat.lt_irrefl n)] at ih
      rw [if_pos (show 13 = 13 ∧ 20 * m + n = 20 * m + n from ⟨rfl, rfl⟩), if_pos (show (0 : Int) = 0 from rfl), if_pos (Nat.lt_succ_self n), if_neg h]
      omega
    · rw [if_neg (show ¬ (13 = 13 ∧ 20 * m + n = 20 * m + l) from fun z => c (by omega))]
      by_cases d : l < n
      · rw [if_pos d] at ih
        rw [if_pos (show l < n + 1 by omega)]
        omega
      · rw [if_neg d] at ih
        rw [if_neg (show ¬ l < n + 1 by omega)]
        omega
theorem hC_pos {X : Nat → Nat → Int} {m l : Nat} (h : ¬ X 13 (20 * m + l) = 0) {n : Nat} (hl : l < n) : 1 ≤ hC X m n := by
  have := hC_out h n
  rw [if_pos hl] at this
  omega
theorem e_least {T S X : Nat → Nat → Int} {m F k : Nat} (P : PR T S m F X k) (h12 : T 12 = S 12) (hp : ∀ j, 0 ≤ S 12 j) (w : Int) : ∀ n, n ≤ F → (∃ l : Nat, l < n ∧ cLF X m n = (l : Int) ∧ mleast S m w k n = (l : Int) ∧ S 12 l < w ∧ ¬ X 13 (20 * m + l) = 0) ∨ ((cLF X m n = -1 ∨ w ≤ S 12 (cLF X m n).toNat) ∧ mleast S m w k n = -1 ∧ cU X m w n = cU X m 0 n)
  | 0, _ => Or.inr ⟨Or.inl rfl, rfl, rfl⟩
  | n + 1, hn => by
    have ih := e_least P h12 hp w n (by omega)
    have e12 : X 12 = S 12 := (P.1 12 (by decide)).trans h12
    have e13 := P.2 (20 * m + n)
    rw [BX_at S k (show n < F by omega)] at e13
    have hpn := hp n
    rw [cLF, mleast, cU, cU, e12]
    by_cases c : ¬ X 13 (20 * m + n) = 0
    · have c2 : k / 2 ^ n % 2 = 0 := by
        by_cases z : k / 2 ^ n % 2 = 0
        · exact z
        · rw [if_neg z] at e13
          exact absurd e13 c
      rw [if_pos c2] at e13
      have c3 : ¬ S 13 (20 * m + n) = 0 := fun z => c (by rw [e13]; exact z)
      rw [if_pos (show ¬ X 13 (20 * m + n) = 0 ∧ 0 ≤ S 12 n from ⟨c, hpn⟩)]
      rcases ih with ⟨l, l1, l2, l3, l4, l5⟩ | ⟨i1, i2, i3⟩
      · rw [l2, l3, Int.toNat_natCast]
        by_cases d : S 12 n < S 12 l
        · rw [if_pos ⟨c, Or.inr d⟩, if_pos ⟨⟨c3, c2, by omega⟩, Or.inr d⟩]
          exact Or.inl ⟨n, Nat.lt_succ_self n, rfl, rfl, by omega, c⟩
        · rw [if_neg (fun z => by have := z.2; omega), if_neg (fun z => by have := z.2; omega)]
          exact Or.inl ⟨l, by omega, rfl, rfl, l4, l5⟩
      · rw [i2, i3]
        by_cases d : S 12 n < w
        · rw [if_pos (show ¬ X 13 (20 * m + n) = 0 ∧ (cLF X m n = -1 ∨ S 12 n < S 12 (cLF X m n).toNat) from ⟨c, by omega⟩), if_pos (show (¬ S 13 (20 * m + n) = 0 ∧ k / 2 ^ n % 2 = 0 ∧ S 12 n < w) ∧ ((-1 : Int) = -1 ∨ S 12 n < S 12 (-1 : Int).toNat) from ⟨⟨c3, c2, d⟩, Or.inl rfl⟩)]
          exact Or.inl ⟨n, Nat.lt_succ_self n, rfl, rfl, d, c⟩
        · rw [if_neg (show ¬ ((¬ S 13 (20 * m + n) = 0 ∧ k / 2 ^ n % 2 = 0 ∧ S 12 n < w) ∧ ((-1 : Int) = -1 ∨ S 12 n < S 12 (-1 : Int).toNat)) from fun z => d z.1.2.2), if_pos (show ¬ X 13 (20 * m + n) = 0 ∧ w ≤ S 12 n from ⟨c, by omega⟩)]
          refine Or.inr ⟨?_, rfl, rfl⟩
          split
          · rw [Int.toNat_natCast]
            exact Or.inr (by omega)
          · exact i1
    · rw [if_neg (fun z => c z.1), if_neg (show ¬ (¬ X 13 (20 * m + n) = 0 ∧ w ≤ S 12 n) from fun z => c z.1), if_neg (show ¬ (¬ X 13 (20 * m + n) = 0 ∧ 0 ≤ S 12 n) from fun z => c z.1)]
      have hno : ¬ (¬ S 13 (20 * m + n) = 0 ∧ k / 2 ^ n % 2 = 0 ∧ S 12 n < w) := fun z => by
        rw [if_pos z.2.1] at e13
        exact c (by rw [e13]; exact z.1)
      rw [if_neg (fun z => hno z.1)]
      rcases ih with ⟨l, l1, l2⟩ | ⟨i1, i2, i3⟩
      · exact Or.inl ⟨l, by omega, l2⟩
      · exact Or.inr ⟨i1, i2, by rw [i3]⟩
theorem hC_0 {X : Nat → Nat → Int} {m : Nat} : ∀ n, hC X m n = 0 → cU X m 0 n = 0
  | 0, _ => rfl
  | n + 1, h => by
    rw [hC] at h
    by_cases c : X 13 (20 * m + n) = 0
    · rw [if_pos c] at h
      rw [cU, hC_0 n (by omega), if_neg (fun z => z.1 c)]
      rfl
    · rw [if_neg c] at h
      omega
theorem PR.no {T S : Nat → Nat → Int} {m f F : Nat} (hF : mF S = F) (h11 : T 11 = S 11) (h12 : T 12 = S 12) (hp11 : ∀ j, 0 ≤ S 11 j) (hp12 : ∀ j, 0 ≤ S 12 j) : ∀ (q : Nat) (X : Nat → Nat → Int) (k : Nat) (fr : Int), PR T S m F X k → fr = S 6 m - cU X m 0 F → S 6 m - S 11 f < cU X m (S 12 f) F → (mpo S m f q fr k).1 < S 11 f
  | 0, X, k, fr, P, hfr, hc => by
    have := cU_mono (X := X) (fun j => by rw [P.1 11 (by decide), h11]; exact hp11 j) (fun j => by rw [P.1 12 (by decide), h12]; exact hp12 j) m (S 12 f) F
    show fr < S 11 f
    omega
  | q + 1, X, k, fr, P, hfr, hc => by
    have := cU_mono (X := X) (fun j => by rw [P.1 11 (by decide), h11]; exact hp11 j) (fun j => by rw [P.1 12 (by decide), h12]; exact hp12 j) m (S 12 f) F
    have e12 : X 12 = S 12 := (P.1 12 (by decide)).trans h12
    have e11 : X 11 = S 11 := (P.1 11 (by decide)).trans h11
    rw [mpo, hF]
    rcases e_least P h12 hp12 (S 12 f) F (Nat.le_refl _) with ⟨l, l1, l2, l3, l4, l5⟩ | ⟨-, i2, -⟩
    · rw [l3, if_pos ⟨by omega, by omega⟩, Int.toNat_natCast]
      refine PR.no hF h11 h12 hp11 hp12 q (su X 13 (20 * m + l) 0) _ _ (P.out l1) ?_ ?_
      · rw [cU_out X m l 0 l5, e12, e11, if_pos ⟨l1, hp12 l⟩]
        omega
      · rw [cU_out X m l _ l5, e12, if_neg (fun z => by omega)]
        omega
    · rw [if_neg (fun z => z.2 i2)]
      show fr < S 11 f
      omega
theorem PR.yes {T S : Nat → Nat → Int} {m f F : Nat} (hF : mF S = F) (hF2 : cN T 1 = F) (h11 : T 11 = S 11) (h12 : T 12 = S 12) (hp11 : ∀ j, 0 ≤ S 11 j) (hp12 : ∀ j, 0 ≤ S 12 j) (hD : 0 ≤ S 6 m - S 11 f) : ∀ (q : Nat) (X : Nat → Nat → Int) (k : Nat) (fr : Int), PR T S m F X k → fr = S 6 m - cU X m 0 F → cU X m (S 12 f) F ≤ S 6 m - S 11 f → hC X m F ≤ q → S 11 f ≤ (mpo S m f q fr k).1 ∧ PR T S m F (cPO m (S 6 m - S 11 f) q X) (mpo S m f q fr k).2
  | 0, X, k, fr, P, hfr, hc, hq => by
    have := hC_0 (X := X) (m := m) F (by omega)
    exact ⟨show S 11 f ≤ fr by omega, P⟩
  | q + 1, X, k, fr, P, hfr, hc, hq => by
    have e12 : X 12 = S 12 := (P.1 12 (by decide)).trans h12
    have e11 : X 11 = S 11 := (P.1 11 (by decide)).trans h11
    have eN : cN X 1 = F := by
      rw [← hF2]
      show (X 10 0).toNat = (T 10 0).toNat
      rw [P.1 10 (by decide)]
    rw [mpo, cPO, hF, eN]
    by_cases c : S 6 m - S 11 f < cU X m 0 F
    · rcases e_least P h12 hp12 (S 12 f) F (Nat.le_refl _) with ⟨l, l1, l2, l3, l4, l5⟩ | ⟨-, i2, i3⟩
      · rw [if_pos c, l2, l3, if_pos ⟨by omega, by omega⟩, Int.toNat_natCast]
        have ho := hC_out l5 F
        rw [if_pos l1] at ho
        refine PR.yes hF hF2 h11 h12 hp11 hp12 hD q (su X 13 (20 * m + l) 0) _ _ (P.out l1) ?_ ?_ (by omega)
        · rw [cU_out X m l 0 l5, e12, e11, if_pos ⟨l1, hp12 l⟩]
          omega
        · rw [cU_out X m l _ l5, e12, if_neg (fun z => by omega)]
          omega
      · exfalso
        omega
    · rw [if_neg c, if_neg (fun z => by have := z.1; omega)]
      exact ⟨show S 11 f ≤ fr by omega, P⟩
theorem J_13 {T S T' S' : Nat → Nat → Int} (J : JJ T S) (hT : ∀ k, k ≠ 13 → T' k = T k) (hS : ∀ k, k ≠ 13 → S' k = S k) (h13 : T' 13 = S' 13) (I : TB T') (M : MB S') (hz : ∀ j, j < 10 → S 3 j = 0 → ∀ f, f < 20 → S' 13 (20 * j + f) = S 13 (20 * j + f)) : JJ T' S' := by
  have ht : ∀ {k : Nat}, 1 ≤ k → k ≤ 20 → k ≠ 5 → k ≠ 9 → T k = S k := fun a b c d => J.t a b c d
  obtain ⟨⟨a1, a2, a3⟩, ⟨b1, b2, b3, b4⟩, c1, c2, c3, c4, c5, c6, c7, c8, c9⟩ := J
  have sl : sameL T T' := ⟨fun g h1 h2 => hT g (by omega), fun g h1 h2 => hT g (by omega)⟩
  have N0 : cN T' 0 = cN T 0 := by show (T' 2 0).toNat = (T 2 0).toNat; rw [hT 2 (by decide)]
  have N3 : cN T' 3 = cN T 3 := by show (T' 31 0).toNat = (T 31 0).toNat; rw [hT 31 (by decide)]
  have M0 : mM S' = mM S := by unfold mM; rw [hS 2 (by decide)]
  have M1 : mF S' = mF S := by unfold mF; rw [hS 10 (by decide)]
  have M2 : mP S' = mP S := by unfold mP; rw [hS 15 (by decide)]
  refine ⟨⟨fun k k1 k2 k5 k9 => ?_, fun j => ?_, fun i j hi hj => ?_⟩, ⟨I, fun m hm => ?_, fun e he => ?_, ?_⟩, M, fun j hj => ?_, fun j hj hz3 => ⟨fun f hf => ?_, fun i hi => ?_, fun p hp he => ?_⟩, fun f hf => ?_, fun p hp => ?_, fun p hp => ?_, fun i j hi hj => ?_, ?_, fun f hf => ?_⟩
  · by_cases c : k = 13
    · rw [c]; exact h13
    · rw [hT k c, hS k c]; exact ht k1 k2 k5 k9
  · rw [hT 5 (by decide), hS 3 (by decide), hS 5 (by decide)]; exact a2 j
  · rw [hT 30 (by decide), hS 9 (by decide)]; exact a3 i j hi hj
  · rw [N0] at hm
    rw [sl.b, N3, hT 7 (by decide), row_c (hT 30 (by decide))]
    exact b2 m hm
  · rw [N3] at he
    rw [N0, hT 33 (by decide), hT 1 (by decide), hT 34 (by decide), hT 2 (by decide), hT 36 (by decide), hT 37 (by decide)]
    exact b3 e he
  · rw [N0, hT 31 (by decide), mmany_c (hT 3 (by decide)), hT 14 (by decide), hT 2 (by decide)]; exact b4
  · rw [M0] at hj
    rw [hS 3 (by decide), hS 7 (by decide), hS 8 (by decide)]; exact c2 j hj
  · rw [hS 3 (by decide)] at hz3
    rw [hz j hj hz3 f hf]; exact (c3 j hj hz3).1 f hf
  · rw [hS 3 (by decide)] at hz3
    rw [hS 9 (by decide)]; exact (c3 j hj hz3).2.1 i hi
  · rw [hS 3 (by decide)] at hz3
    rw [hS 16 (by decide)] at hp
    rw [hS 20 (by decide)]; exact (c3 j hj hz3).2.2 p hp he
  · rw [M1] at hf
    rw [hS 12 (by decide)]; exact c4 f hf
  · rw [M2] at hp
    rw [hS 16 (by decide), hS 19 (by decide), hS 20 (by decide)]; exact c5 p hp
  · rw [hS 16 (by decide)] at hp
    rw [hS 21 (by decide), hS 22 (by decide), row_c (hS 20 (by decide))]; exact c6 p hp
  · rw [hS 9 (by decide)]; exact c7 i j hi hj
  · rw [hS 9 (by decide), hS 12 (by decide), hS 14 (by decide), hS 8 (by decide)]; exact c8
  · rw [M1] at hf
    rw [hS 11 (by decide)]; exact c9 f hf
theorem MB_put {S : Nat → Nat → Int} (M : MB S) (m f : Nat) : MB (mput S m f) := by
  unfold mput
  split
  · exact MB_su (MB_clr M m _ _) 13 _ (show 0 ≤ (1 : Int) ∧ (1 : Int) ≤ 1 by decide)
  · exact M
theorem J_put {T S : Nat → Nat → Int} (J : JJ T S) {m f : Nat} (hf : f < cN T 1) (h3 : ¬ T 3 m = 0) : JJ (cPC T m f) (mput S m f) := by
  have ht : ∀ {k : Nat}, 1 ≤ k → k ≤ 20 → k ≠ 5 → k ≠ 9 → T k = S k := fun a b c d => J.t a b c d
  have M := J.2.2.1
  have h6 := ht (k := 6) (by decide) (by decide) (by decide) (by decide)
  have h11 := ht (k := 11) (by decide) (by decide) (by decide) (by decide)
  have h12 := ht (k := 12) (by decide) (by decide) (by decide) (by decide)
  have h13 := ht (k := 13) (by decide) (by decide) (by decide) (by decide)
  have h3' := ht (k := 3) (by decide) (by decide) (by decide) (by decide)
  have hF2 : cN T 1 = mF S := J.n.2.1
  have p11 : ∀ j, 0 ≤ S 11 j := fun j => (M 11 j (by decide)).1
  have p12 : ∀ j, 0 ≤ S 12 j := fun j => (M 12 j (by decide)).1
  have hF20 := J.2.1.1.n
  have P0 : PR T S m (mF S) T 0 := ⟨fun _ _ => rfl, fun j => by
    unfold BX
    rw [Nat.zero_div, if_neg (fun z => z.2 rfl), h13]⟩
  have hu := e_used J m (mF S)
  have hle := hC_le T m (mF S)
  have hU0 := (cU_b J.2.1.1 m (T 12 f) (cN T 1)).1
  have hfin : cPC T m f 13 = mput S m f 13 := by
    unfold cPC mput
    rw [h6, h11, h12, hF2, ← hu]
    by_cases c : S 6 m - S 11 f < cU T m (S 12 f) (mF S)
    · have := PR.no (f := f) rfl h11 h12 p11 p12 20 T 0 _ P0 rfl c
      rw [if_pos c, if_neg (by omega), h13]
    · rw [h12, hF2] at hU0
      have := PR.yes (f := f) rfl hF2 h11 h12 p11 p12 (by omega) 20 T 0 _ P0 rfl (by omega) (by omega)
      rw [if_neg c, if_pos this.1]
      refine su_cg _ _ ?_ ?_
      · funext j
        rw [this.2.2 j, mclr_BX M]
      · funext j
        rw [this.2.2 j, mclr_BX M]
  refine J_13 J (fun k hk => cPC_ne T m f hk) (fun k hk => mput_ne S m f hk) hfin (TB_pc J.2.1.1 m f) (MB_put M m f) (fun j hj hz i hi => ?_)
  have hjm : ¬ j = m := fun z => h3 (by rw [h3', ← z]; exact hz)
  unfold mput
  split
  · rw [su_at, if_neg (fun z => by omega), mclr_BX M]
    unfold BX
    rw [if_neg (fun z => by omega)]
  · rfl
