/-! useLines, planFromOutside, planFetch -/
theorem cOwn_c {ad : Nat → Nat → Nat} {el : Nat → Nat} {T T' : Nat → Nat → Int} (hn : ∀ g, cN T' g = cN T g) {q : Nat} (h : cOwn ad el T' q) : cOwn ad el T q := by
  rcases h with ⟨k, i, hi, e⟩ | ⟨q', h4, e⟩
  · exact Or.inl ⟨k, i, by rw [← hn]; exact hi, e⟩
  · rw [hn] at e
    exact Or.inr ⟨q', h4, e⟩
def cUL (T : Nat → Nat → Int) (g : Nat → Int) : Nat → (Nat → Nat → Int)
  | 0 => T
  | m + 1 => su (cUL T g m) 5 m (T 5 m - g m)
theorem cUL_ne (T : Nat → Nat → Int) (g : Nat → Int) {k : Nat} (hk : k ≠ 5) : ∀ m, cUL T g m k = T k
  | 0 => rfl
  | m + 1 => by rw [cUL, su_ne _ _ _ hk]; exact cUL_ne T g hk m
theorem cUL_cN (T : Nat → Nat → Int) (g : Nat → Int) (m k : Nat) : cN (cUL T g m) k = cN T k := by
  unfold cN
  split <;> first | rfl | rw [cUL_ne T g (by decide)]
theorem cUL_5 (T : Nat → Nat → Int) (g : Nat → Int) (i : Nat) : ∀ m, cUL T g m 5 i = if i < m then T 5 i - g i else T 5 i
  | 0 => by rw [if_neg (by omega)]; rfl
  | m + 1 => by
    rw [cUL, su_at, cUL_5 T g i m]
    by_cases c : i = m
    · subst c
      rw [if_pos ⟨rfl, rfl⟩, if_pos (by omega)]
    · rw [if_neg (fun z => c z.2)]
      by_cases c2 : i < m
      · rw [if_pos c2, if_pos (by omega)]
      · rw [if_neg c2, if_neg (by omega)]
theorem TB_ul {T : Nat → Nat → Int} (I : TB T) {g : Nat → Int} (hg : ∀ j, 0 ≤ g j ∧ g j ≤ T 5 j) : ∀ m, TB (cUL T g m)
  | 0 => I
  | m + 1 => by
    rw [cUL]
    have h5 : 0 ≤ T 5 m ∧ T 5 m ≤ 20 := I.1 5 m (by decide) (by decide) (by decide)
    have := hg m
    exact TB_su (TB_ul I hg m) 5 m (by decide) (show 0 ≤ _ ∧ _ ≤ (20 : Int) by omega)
/-- what is left beside what is planned, of the first n -/
def cAg (T : Nat → Nat → Int) (g : Nat → Int) : Nat → Int
  | 0 => 0
  | n + 1 => cAg T g n + (T 5 n - g n)
theorem cAg_up (T : Nat → Nat → Int) (g : Nat → Int) (l : Nat) (x : Int) : ∀ n, cAg T (va_up g l (g l + x)) n = cAg T g n - if l < n then x else 0
  | 0 => by rw [if_neg (by omega)]; rfl
  | n + 1 => by
    rw [cAg, cAg, cAg_up T g l x n]
    unfold va_up
    by_cases c : n = l
    · subst c
      rw [if_pos rfl, if_neg (by omega), if_pos (by omega)]
      omega
    · rw [if_neg c]
      by_cases c2 : l < n
      · rw [if_pos c2, if_pos (by omega)]; omega
      · rw [if_neg c2, if_neg (by omega)]; omega
theorem cAg_0 (T : Nat → Nat → Int) : ∀ n, cAg T (fun _ => 0) n = cA T n
  | 0 => rfl
  | n + 1 => by rw [cAg, cA, cAg_0 T n, Int.sub_zero]
theorem cAg_le (T : Nat → Nat → Int) (g : Nat → Int) : ∀ n, (∀ j, j < n → T 5 j - g j ≤ 0) → cAg T g n ≤ 0
  | 0, _ => Int.le_refl _
  | n + 1, h => by
    have h1 := cAg_le T g n (fun j hj => h j (by omega))
    have h2 := h n (by omega)
    rw [cAg]
    omega
/-- who has most left -/
theorem cMF_top (T : Nat → Nat → Int) (g : Nat → Int) : ∀ n : Nat, 0 ≤ cml T g (cMF T g (-1) n) ∧ (∀ j, j < n → T 5 j - g j ≤ cml T g (cMF T g (-1) n)) ∧ (¬ cMF T g (-1) n = -1 → 0 < cml T g (cMF T g (-1) n))
  | 0 => ⟨Int.le_refl _, fun j hj => absurd hj (Nat.not_lt_zero _), fun z => absurd rfl z⟩
  | n + 1 => by
    obtain ⟨h1, h2, h3⟩ := cMF_top T g n
    rw [cMF_succ]
    by_cases c : cml T g (cMF T g (-1) n) < T 5 n - g n
    · rw [if_pos ⟨c, Or.inl rfl⟩, cml_n]
      refine ⟨by omega, fun j hj => ?_, fun _ => by omega⟩
      rcases Nat.lt_or_ge j n with z | z
      · have := h2 j z; omega
      · have : j = n := by omega
        subst this; exact Int.le_refl _
    · rw [if_neg (fun z => c z.1)]
      refine ⟨h1, fun j hj => ?_, h3⟩
      rcases Nat.lt_or_ge j n with z | z
      · exact h2 j z
      · have : j = n := by omega
        subst this; omega
/-- what holds of a plan: g units are planned, r are wanting -/
def PB (T : Nat → Nat → Int) (g : Nat → Int) (r : Int) : Prop := (∀ j, 0 ≤ g j ∧ g j ≤ T 5 j) ∧ (∀ j, 10 ≤ j → g j = 0) ∧ 0 ≤ r ∧ r ≤ 20 ∧ r ≤ cAg T g (cN T 0)
theorem PB.ex {T : Nat → Nat → Int} {g : Nat → Int} {r : Int} (P : PB T g r) (hr : 0 < r) : ∃ l : Nat, cMF T g (-1) (cN T 0) = (l : Int) ∧ l < cN T 0 ∧ 0 < T 5 l - g l := by
  have hb := cMF_b T g (-1) (cN T 0)
  obtain ⟨h1, h2, h3⟩ := cMF_top T g (cN T 0)
  obtain ⟨-, -, p3, p4, p5⟩ := P
  by_cases c : cMF T g (-1) (cN T 0) = -1
  · exfalso
    have := cAg_le T g (cN T 0) (fun j hj => by have := h2 j hj; rw [c] at this; exact this)
    omega
  · refine ⟨(cMF T g (-1) (cN T 0)).toNat, by omega, by omega, ?_⟩
    have := h3 c
    unfold cml at this
    rw [if_neg c] at this
    exact this
def lentOf (T : Nat → Nat → Int) (g : Nat → Int) (l : Nat) (r : Int) : Int := if T 5 l - g l < r then T 5 l - g l else r
theorem PB.step {T : Nat → Nat → Int} {g : Nat → Int} {r : Int} (P : PB T g r) (hr : 0 < r) {l : Nat} (hl : l < cN T 0) (hn : cN T 0 ≤ 10) (h0 : 0 < T 5 l - g l) : PB T (va_up g l (g l + lentOf T g l r)) (r - lentOf T g l r) := by
  obtain ⟨p1, p2, p3, p4, p5⟩ := P
  have hx : 0 ≤ lentOf T g l r ∧ lentOf T g l r ≤ r ∧ lentOf T g l r ≤ T 5 l - g l := by unfold lentOf; split <;> omega
  refine ⟨fun j => ?_, fun j hj => ?_, by omega, by omega, ?_⟩
  · have hj := p1 j
    have hl1 := p1 l
    unfold va_up
    split
    · rename_i e; subst e; omega
    · exact hj
  · unfold va_up
    rw [if_neg (by omega)]
    exact p2 j hj
  · rw [cAg_up, if_pos hl]
    omega
def pO (T : Nat → Nat → Int) : Nat → (Nat → Int) → Int → (Nat → Int)
  | 0, g, _ => g
  | q + 1, g, r => if 0 < r then pO T q (va_up g (cMF T g (-1) (cN T 0)).toNat (g (cMF T g (-1) (cN T 0)).toNat + lentOf T g (cMF T g (-1) (cN T 0)).toNat r)) (r - lentOf T g (cMF T g (-1) (cN T 0)).toNat r) else g
theorem pO_PB {T : Nat → Nat → Int} (hn : cN T 0 ≤ 10) : ∀ (q : Nat) (g : Nat → Int) (r : Int), PB T g r → (∀ j, 0 ≤ pO T q g r j ∧ pO T q g r j ≤ T 5 j) ∧ ∀ j, 10 ≤ j → pO T q g r j = 0
  | 0, g, r, P => ⟨P.1, P.2.1⟩
  | q + 1, g, r, P => by
    rw [pO]
    split
    · rename_i hr
      obtain ⟨l, h1, h2, h3⟩ := P.ex hr
      rw [h1, Int.toNat_natCast]
      exact pO_PB hn q _ _ (P.step hr h2 hn h3)
    · exact ⟨P.1, P.2.1⟩
def own0 (T : Nat → Nat → Int) (m : Nat) (z : Int) : Int := if T 5 m < z then T 5 m else z
def pO0 (T : Nat → Nat → Int) (m : Nat) (z : Int) : Nat → Int := pO T 10 (va_up (fun _ => 0) m (0 + own0 T m z)) (z - own0 T m z)
theorem PB0 {T : Nat → Nat → Int} (I : TB T) {m : Nat} {z : Int} (hm : m < cN T 0) (hz : 0 ≤ z ∧ z ≤ 20) (hA : z ≤ cA T (cN T 0)) : PB T (va_up (fun _ => 0) m (0 + own0 T m z)) (z - own0 T m z) := by
  have h5 : ∀ j, 0 ≤ T 5 j ∧ T 5 j ≤ 20 := fun j => I.1 5 j (by decide) (by decide) (by decide)
  have hn := I.n0
  have h5m := h5 m
  have hx : 0 ≤ own0 T m z ∧ own0 T m z ≤ z ∧ own0 T m z ≤ T 5 m := by unfold own0; split <;> omega
  refine ⟨fun j => ?_, fun j hj => ?_, by omega, by omega, ?_⟩
  · have hj := h5 j
    unfold va_up
    split
    · rename_i e; subst e; omega
    · exact ⟨Int.le_refl _, hj.1⟩
  · unfold va_up
    rw [if_neg (by omega)]
  · have := cAg_up T (fun _ => 0) m (own0 T m z) (cN T 0)
    rw [if_pos hm, cAg_0] at this
    rw [this]
    omega
def PE (G : zG) (T : Nat → Nat → Int) (h : zH) (w : Nat) (m : Nat) (z hd : Int) (g : Nat → Int) (r9 : Option Value) (h9 : zH) : Prop := ∃ a b, r9 = some (.ref a) ∧ h a = none ∧ h b = none ∧ b ≠ a ∧ h9 a = some (eO 3 [.ref (G.2.2 w), vI (T 1 0), vI (m : Int), vI z, .ref b, vI hd]) ∧ h9 b = some (eI (G.2.1 0) 10 g) ∧ ∀ q, h q ≠ none → h9 q = h q
theorem PE.up {G : zG} {T : Nat → Nat → Int} {h h' h9 : zH} {w m : Nat} {z hd : Int} {g : Nat → Int} {r9 : Option Value} (hk : ∀ q, h q ≠ none → h' q = h q) (P : PE G T h' w m z hd g r9 h9) : PE G T h w m z hd g r9 h9 := by
  obtain ⟨a, b, e, na, nb, hba, p1, p2, p3⟩ := P
  have key : ∀ q, h' q = none → h q = none := fun q e => by
    cases c : h q with
    | none => rfl
    | some x =>
      have := hk q (by rw [c]; exact fun z => by cases z)
      rw [e, c] at this
      cases this
  exact ⟨a, b, e, key a na, key b nb, hba, p1, p2, fun q hq => (p3 q (by rw [hk q hq]; exact hq)).trans (hk q hq)⟩

set_option maxRecDepth 100000 in
theorem c_X6_useLines_ok {ln : Launch} (htr : ln.stackTraces = false) {G : zG} {h : zH} {ad : Nat → Nat → Nat} {el : Nat → Nat} {T : Nat → Nat → Int} (R : CR G ad el T h) (I : TB T) {lb : Nat} {g : Nat → Int} (hlb : ¬ cOwn ad el T lb) (h2 : h lb = some (eI (G.2.1 0) 10 g)) (hg : ∀ j, 0 ≤ g j ∧ g j ≤ T 5 j) : CT ln G yX6_useLines cX6_useLines 3 none 4 ([.ref (ad 0 0), .ref lb]) h 0 0 (fun r9 h9 => r9 = none ∧ CR G ad el (cUL T g (cN T 0)) h9 ∧ ∀ q, ¬ cOwn ad el T q → h9 q = h q) zNo := by
  refine CT.intro htr (by decide) rfl (Nat.le_of_ble_eq_true rfl) ?_
  intro X hln hG hR hN C E
  subst hln
  subst hG
  have hn9 := I.n
  refine Z.iconst C dX6_useLines_0 ?_
  refine Z.istore_n (l' := [_, _, _]) C dX6_useLines_1 (Nat.le_of_ble_eq_true rfl) (by rw [hN]; decide) rfl ?_
  have L : ∀ (q i : Nat) (hh : zH), i + q = cN T 0 → CR (zG_of X) ad el (cUL T g i) hh → hh lb = some (eI ((zG_of X).2.1 0) 10 g) → (∀ q, ¬ cOwn ad el T q → hh q = h q) → Z X 2 [.ref (ad 0 0), .ref lb, vI (i : Int)] [] hh 0 0 := by
    intro q
    induction q with
    | zero =>
      intro i hh hi R p2 hk
      have en := cUL_cN T g i
      have en0 := en 0
      have I1 := TB_ul I hg i
      refine Z.iload_n C dX6_useLines_2 rfl ?_
      refine Z.aload_n C dX6_useLines_3 rfl ?_
      refine g_X6_10  C rfl dX6_useLines_4 (R.club) rfl ?_
      refine v_X6_41 C rfl dX6_useLines_7 (R.lMo.choose_spec) (c_size htr R.lM) (by decide) (Nat.le_of_ble_eq_true rfl) (by rw [hR]; exact Nat.le_of_ble_eq_true rfl) (by rw [hR]; exact Nat.le_of_ble_eq_true rfl) (fun w7 h7 q7 => ?_) (fun _ _ q => q.elim)
      obtain ⟨rfl, q7⟩ := q7
      replace q7 := q7.symm
      subst q7
      refine Z.icmp_ge (tgt := 47) C dX6_useLines_10 (by decide) (by omega) (by omega) (by omega) (by omega) (fun c10 => ?_) (fun c10 => ?_)
      · exact Z.vret C E dX6_useLines_47 (by decide) (by decide) ⟨rfl, by rw [show cN T 0 = i by omega]; exact R, hk⟩
      · exfalso; omega
    | succ q ih =>
      intro i hh hi R p2 hk
      have en := cUL_cN T g i
      have en0 := en 0
      have I1 := TB_ul I hg i
      refine Z.iload_n C dX6_useLines_2 rfl ?_
      refine Z.aload_n C dX6_useLines_3 rfl ?_
      refine g_X6_10  C rfl dX6_useLines_4 (R.club) rfl ?_
      refine v_X6_41 C rfl dX6_useLines_7 (R.lMo.choose_spec) (c_size htr R.lM) (by decide) (Nat.le_of_ble_eq_true rfl) (by rw [hR]; exact Nat.le_of_ble_eq_true rfl) (by rw [hR]; exact Nat.le_of_ble_eq_true rfl) (fun w7 h7 q7 => ?_) (fun _ _ q => q.elim)
      obtain ⟨rfl, q7⟩ := q7
      replace q7 := q7.symm
      subst q7
      refine Z.icmp_ge (tgt := 47) C dX6_useLines_10 (by decide) (by omega) (by omega) (by omega) (by omega) (fun c10 => ?_) (fun c10 => ?_)
      · exfalso; omega
      · refine Z.iload_n C dX6_useLines_13 rfl ?_
        refine Z.aload_n C dX6_useLines_14 rfl ?_
        refine Z.alenI C dX6_useLines_15 p2 ?_
        refine Z.icmp_ge (tgt := 47) C dX6_useLines_16 (by decide) (by omega) (by omega) (by omega) (by omega) (fun c16 => ?_) (fun c16 => ?_)
        · exfalso; omega
        · refine Z.aload_n C dX6_useLines_19 rfl ?_
          refine g_X6_10  C rfl dX6_useLines_20 (R.club) rfl ?_
          refine Z.iload_n C dX6_useLines_23 rfl ?_
          refine v_X6_84 C rfl dX6_useLines_24 (R.lMo.choose_spec) (c_getN htr R.lM (i := i) (by omega)) (by decide) (Nat.le_of_ble_eq_true rfl) (by rw [hR]; exact Nat.le_of_ble_eq_true rfl) (by rw [hR]; exact Nat.le_of_ble_eq_true rfl) (fun w24 h24 q24 => ?_) (fun _ _ q => q.elim)
          obtain ⟨rfl, q24⟩ := q24
          replace q24 := q24.symm
          subst q24
          refine k_X6_50 C rfl dX6_useLines_27 (R.mem (i := i) (by omega)) ?_
          refine Z.dup C dX6_useLines_30 rfl ?_
          refine g_X6_202  C rfl dX6_useLines_31 (R.mem (i := i) (by omega)) rfl ?_
          refine Z.aload_n C dX6_useLines_34 rfl ?_
          refine Z.iload_n C dX6_useLines_35 rfl ?_
          refine Z.iaload C dX6_useLines_36 p2 (by omega) (by omega) (by omega) ?_
          refine Z.isub C dX6_useLines_37 ?_
          refine p_X6_202 (fs' := [vI (i : Int), vI ((cUL T g i) 4 i), vI ((cUL T g i) 6 i), .ref (ad 3 i), .ref (ad 2 i), vI ((cUL T g i) 3 i), vI ((cUL T g i) 5 i - g i), vI ((cUL T g i) 8 i)]) C rfl  dX6_useLines_38  (R.mem (i := i) (by omega)) (Nat.le_of_ble_eq_true rfl) rfl ?_
          refine Z.iinc (l' := [_, _, _]) C dX6_useLines_41 rfl (Nat.le_of_ble_eq_true rfl) (by rw [hN]; decide) rfl ?_
          refine Z.goto (tgt := 2) C dX6_useLines_44 (by decide) ?_
          refine ih (i + 1) _ (by omega) ?_ ?_ (fun q hq => ?_)
          · rw [cUL, show T 5 i = (cUL T g i) 5 i by rw [cUL_5, if_neg (Nat.lt_irrefl _)]]
            exact R.st5 (by omega) _
          · exact (zput_ne _ _ (fun z => hlb (Or.inl ⟨1, i, (show i < cN T 0 by omega), z⟩))).trans p2
          · exact (zput_ne _ _ (fun z => hq (Or.inl ⟨1, i, (show i < cN T 0 by omega), z⟩))).trans (hk q hq)
  exact L _ 0 _ (Nat.zero_add _) R h2 (fun _ _ => rfl)

set_option maxRecDepth 100000 in
theorem c_X6_planFromOutside_ok {ln : Launch} (htr : ln.stackTraces = false) {G : zG} {h : zH} {ad : Nat → Nat → Nat} {el : Nat → Nat} {T : Nat → Nat → Int} (R : CR G ad el T h) (I : TB T) {m : Nat} {z : Int} (hm : m < cN T 0) (hz : 0 ≤ z ∧ z ≤ 20) (hA : z ≤ cA T (cN T 0)) : CT ln G yX6_planFromOutside cX6_planFromOutside 9 (some (.object "Bandwidthclub$Entry")) 6 ([.ref (ad 0 0), .ref (ad 1 m), vI z]) h 2 16 (fun r9 h9 => PE G T h 2 m z (-1) (pO0 T m z) r9 h9) zNo := by
  refine CT.intro htr (by decide) rfl (Nat.le_of_ble_eq_true rfl) ?_
  intro X hln hG hR hN C E
  subst hln
  subst hG
  have hn9 := I.n
  have h5m : 0 ≤ T 5 m ∧ T 5 m ≤ thi 5 := I.1 5 m (by decide) (by decide) (by decide)
  simp only [thi] at h5m
  refine n_X6_66 C rfl dX6_planFromOutside_0 (by rw [hR]; exact Nat.le_of_ble_eq_true rfl) (by rw [hR]; exact Nat.le_of_ble_eq_true rfl) (fun a1 na => ?_)
  have hna := R.new na
  have Rn := R.out hna (eO 3 [.null, vI 0, vI 0, vI 0, .null, vI 0])
  refine Z.dup C dX6_planFromOutside_3 rfl ?_
  refine Z.way C (i := 2) (by decide) zx_w2 dX6_planFromOutside_4 ?_
  refine Z.aload_n C dX6_planFromOutside_7 rfl ?_
  refine g_X6_25  C rfl dX6_planFromOutside_8 (Rn.club) rfl ?_
  refine Z.aload_n C dX6_planFromOutside_11 rfl ?_
  refine g_X6_262  C rfl dX6_planFromOutside_12 (Rn.mem hm) rfl ?_
  refine Z.iload_n C dX6_planFromOutside_15 rfl ?_
  refine i_X6_74 C rfl dX6_planFromOutside_16 (c_X1_init htr (zput_same _ _ _)) (by decide) (Nat.le_of_ble_eq_true rfl) (by rw [hR]; exact Nat.le_of_ble_eq_true rfl) (by rw [hR]; exact Nat.le_of_ble_eq_true rfl) (fun w16 h16 q16 => ?_)
  obtain ⟨rfl, b1, nb0, hba, p1, p2, p3⟩ := q16
  have nb : h b1 = none := by rw [zput_ne _ _ hba] at nb0; exact nb0
  have hnb := R.new nb
  have hk1 : ∀ q, h q ≠ none → h16 q = h q := fun q hq => (p3 q (fun z => hq (by rw [z]; exact na)) (fun z => hq (by rw [z]; exact nb))).trans (zput_ne _ _ (fun z => hq (by rw [z]; exact na)))
  have R1 := R.keep (h9 := h16) (fun q hq => hk1 q (R.own hq))
  refine Z.astore_n (l' := [_, _, _, _]) C dX6_planFromOutside_19 (Nat.le_of_ble_eq_true rfl) (by rw [hN]; decide) rfl ?_
  refine Z.iload_n C dX6_planFromOutside_20 rfl ?_
  refine Z.aload_n C dX6_planFromOutside_21 rfl ?_
  refine g_X6_202  C rfl dX6_planFromOutside_22 (R1.mem hm) rfl ?_
  refine Z.mmin C zx_min zj_mins zj_mathi zj_minc dX6_planFromOutside_25 (by decide) (Nat.le_of_ble_eq_true rfl) (by rw [hR]; exact Nat.le_of_ble_eq_true rfl) (by rw [hR]; exact Nat.le_of_ble_eq_true rfl) (by omega) (by omega) (by omega) (by omega) ?_
  have ho0 : (if T 5 m < z then T 5 m else z) = own0 T m z := rfl
  rw [ho0]
  have P0 := PB0 I hm hz hA
  refine Z.istore (l' := [_, _, _, _, _]) C dX6_planFromOutside_28 (Nat.le_of_ble_eq_true rfl) (by rw [hN]; decide) rfl ?_
  refine Z.aload_n C dX6_planFromOutside_30 rfl ?_
  refine Z.aload_n C dX6_planFromOutside_31 rfl ?_
  refine g_X6_262  C rfl dX6_planFromOutside_32 (R1.mem hm) rfl ?_
  refine Z.iload C dX6_planFromOutside_35 rfl ?_
  refine v_X6_278 C rfl dX6_planFromOutside_37 (p1) (c_X1_addLine htr p1 p2 (i := m) (by omega)) (by decide) (Nat.le_of_ble_eq_true rfl) (by rw [hR]; exact Nat.le_of_ble_eq_true rfl) (by rw [hR]; exact Nat.le_of_ble_eq_true rfl) (fun w37 h37 q37 => ?_) (fun _ _ q => q.elim)
  obtain ⟨rfl, q37⟩ := q37
  replace q37 := q37.symm
  subst q37
  refine Z.iload_n C dX6_planFromOutside_40 rfl ?_
  refine Z.iload C dX6_planFromOutside_41 rfl ?_
  refine Z.isub C dX6_planFromOutside_43 ?_
  refine Z.istore (l' := [_, _, _, _, _, _]) C dX6_planFromOutside_44 (Nat.le_of_ble_eq_true rfl) (by rw [hN]; decide) rfl ?_
  refine Z.iconst C dX6_planFromOutside_46 ?_
  refine Z.istore (l' := [_, _, _, _, _, _, _]) C dX6_planFromOutside_47 (Nat.le_of_ble_eq_true rfl) (by rw [hN]; decide) rfl ?_
  have L : ∀ (q rd : Nat) (g : Nat → Int) (r : Int) (hh : zH), rd + q = 10 → PB T g r → CR (zG_of X) ad el T hh → hh a1 = some (eO 3 [.ref ((zG_of X).2.2 2), vI (T 1 0), vI (m : Int), vI z, .ref b1, vI (-1)]) → hh b1 = some (eI ((zG_of X).2.1 0) 10 g) → (∀ p, h p ≠ none → hh p = h p) → pO0 T m z = pO T q g r → Z X 49 [.ref (ad 0 0), .ref (ad 1 m), vI z, .ref a1, vI (own0 T m z), vI r, vI (rd : Int)] [] hh 2 16 := by
    intro q
    induction q with
    | zero =>
      intro rd g r hh hi P R p1 p2 hk heq
      have hPr : 0 ≤ r ∧ r ≤ 20 := ⟨P.2.2.1, P.2.2.2.1⟩
      have hg20 : ∀ j, 0 ≤ g j ∧ g j ≤ 20 := fun j => by
        have h5 : 0 ≤ T 5 j ∧ T 5 j ≤ 20 := I.1 5 j (by decide) (by decide) (by decide)
        have := P.1 j
        omega
      refine Z.iload C dX6_planFromOutside_49 rfl ?_
      refine Z.bipush C dX6_planFromOutside_51 (by decide) ?_
      refine Z.icmp_ge (tgt := 110) C dX6_planFromOutside_53 (by decide) (by omega) (by omega) (by omega) (by omega) (fun c53 => ?_) (fun c53 => ?_)
      · refine Z.aload_n C dX6_planFromOutside_110 rfl ?_
        exact Z.aret C E (Or.inl ⟨_, rfl⟩) dX6_planFromOutside_111 (by decide) (by decide) ⟨a1, b1, rfl, na, nb, hba, p1, by rw [heq]; first | exact p2 | (rw [pO, if_neg (by omega)]; exact p2), hk⟩
      · exfalso; omega
    | succ q ih =>
      intro rd g r hh hi P R p1 p2 hk heq
      have hPr : 0 ≤ r ∧ r ≤ 20 := ⟨P.2.2.1, P.2.2.2.1⟩
      have hg20 : ∀ j, 0 ≤ g j ∧ g j ≤ 20 := fun j => by
        have h5 : 0 ≤ T 5 j ∧ T 5 j ≤ 20 := I.1 5 j (by decide) (by decide) (by decide)
        have := P.1 j
        omega
      refine Z.iload C dX6_planFromOutside_49 rfl ?_
      refine Z.bipush C dX6_planFromOutside_51 (by decide) ?_
      refine Z.icmp_ge (tgt := 110) C dX6_planFromOutside_53 (by decide) (by omega) (by omega) (by omega) (by omega) (fun c53 => ?_) (fun c53 => ?_)
      · exfalso; omega
      · refine Z.iload C dX6_planFromOutside_56 rfl ?_
        refine Z.if_le (tgt := 110) C dX6_planFromOutside_58 (by decide) (by omega) (by omega) (fun c58 => ?_) (fun c58 => ?_)
        · refine Z.aload_n C dX6_planFromOutside_110 rfl ?_
          exact Z.aret C E (Or.inl ⟨_, rfl⟩) dX6_planFromOutside_111 (by decide) (by decide) ⟨a1, b1, rfl, na, nb, hba, p1, by rw [heq]; first | exact p2 | (rw [pO, if_neg (by omega)]; exact p2), hk⟩
        · refine Z.aload_n C dX6_planFromOutside_61 rfl ?_
          refine Z.iconst C dX6_planFromOutside_62 ?_
          refine Z.aload_n C dX6_planFromOutside_63 rfl ?_
          refine g_X6_130  C rfl dX6_planFromOutside_64 (p1) rfl ?_
          refine v_X6_268 C rfl dX6_planFromOutside_67 (R.club) (c_X6_withMostLeft htr R I (by decide) p2 hg20) (by decide) (Nat.le_of_ble_eq_true rfl) (by rw [hR]; exact Nat.le_of_ble_eq_true rfl) (by rw [hR]; exact Nat.le_of_ble_eq_true rfl) (fun w67 h67 q67 => ?_) (fun _ _ q => q.elim)
          obtain ⟨rfl, q67⟩ := q67
          replace q67 := q67.symm
          subst q67
          have hr : 0 < r := by omega
          obtain ⟨l, hl, hln, hl0⟩ := P.ex hr
          rw [hl]
          have hgl := hg20 l
          have h5l : 0 ≤ T 5 l ∧ T 5 l ≤ 20 := I.1 5 l (by decide) (by decide) (by decide)
          refine Z.istore (l' := [_, _, _, _, _, _, _, _]) C dX6_planFromOutside_70 (Nat.le_of_ble_eq_true rfl) (by rw [hN]; decide) rfl ?_
          refine Z.iload C dX6_planFromOutside_72 rfl ?_
          refine Z.aload_n C dX6_planFromOutside_74 rfl ?_
          refine Z.iload C dX6_planFromOutside_75 rfl ?_
          refine Z.aload_n C dX6_planFromOutside_77 rfl ?_
          refine g_X6_130  C rfl dX6_planFromOutside_78 (p1) rfl ?_
          refine v_X6_272 C rfl dX6_planFromOutside_81 (R.club) (c_X6_leftBeside htr R I hln p2) (by decide) (Nat.le_of_ble_eq_true rfl) (by rw [hR]; exact Nat.le_of_ble_eq_true rfl) (by rw [hR]; exact Nat.le_of_ble_eq_true rfl) (fun w81 h81 q81 => ?_) (fun _ _ q => q.elim)
          obtain ⟨rfl, q81⟩ := q81
          replace q81 := q81.symm
          subst q81
          refine Z.mmin C zx_min zj_mins zj_mathi zj_minc dX6_planFromOutside_84 (by decide) (Nat.le_of_ble_eq_true rfl) (by rw [hR]; exact Nat.le_of_ble_eq_true rfl) (by rw [hR]; exact Nat.le_of_ble_eq_true rfl) (by omega) (by omega) (by omega) (by omega) ?_
          rw [show (if T 5 l - g l < r then T 5 l - g l else r) = lentOf T g l r from rfl]
          refine Z.istore (l' := [_, _, _, _, _, _, _, _, _]) C dX6_planFromOutside_87 (Nat.le_of_ble_eq_true rfl) (by rw [hN]; decide) rfl ?_
          refine Z.aload_n C dX6_planFromOutside_89 rfl ?_
          refine Z.iload C dX6_planFromOutside_90 rfl ?_
          refine Z.iload C dX6_planFromOutside_92 rfl ?_
          refine v_X6_278 C rfl dX6_planFromOutside_94 (p1) (c_X1_addLine htr p1 p2 (i := l) (by omega)) (by decide) (Nat.le_of_ble_eq_true rfl) (by rw [hR]; exact Nat.le_of_ble_eq_true rfl) (by rw [hR]; exact Nat.le_of_ble_eq_true rfl) (fun w94 h94 q94 => ?_) (fun _ _ q => q.elim)
          obtain ⟨rfl, q94⟩ := q94
          replace q94 := q94.symm
          subst q94
          refine Z.iload C dX6_planFromOutside_97 rfl ?_
          refine Z.iload C dX6_planFromOutside_99 rfl ?_
          refine Z.isub C dX6_planFromOutside_101 ?_
          refine Z.istore (l' := [_, _, _, _, _, _, _, _, _]) C dX6_planFromOutside_102 (Nat.le_of_ble_eq_true rfl) (by rw [hN]; decide) rfl ?_
          refine Z.iinc (l' := [_, _, _, _, _, _, _, _, _]) C dX6_planFromOutside_104 rfl (Nat.le_of_ble_eq_true rfl) (by rw [hN]; decide) rfl ?_
          refine Z.goto (tgt := 49) C dX6_planFromOutside_107 (by decide) ?_
          refine Z.pre (l' := [_, _, _, _, _, _, _]) 7 rfl ?_
          refine ih (rd + 1) _ _ _ (by omega) (P.step hr hln hn9.1.1 hl0) (R.out hnb _) ((zput_ne _ _ hba.symm).trans p1) (zput_same _ _ _) (fun p hp => (zput_ne _ _ (fun z => hp (by rw [z]; exact nb))).trans (hk p hp)) ?_
          rw [heq, pO, if_pos hr, hl, Int.toNat_natCast]
  exact L _ 0 _ _ _ (Nat.zero_add _) P0 (R1.out hnb _) ((zput_ne _ _ hba.symm).trans p1) (zput_same _ _ _) (fun p hp => (zput_ne _ _ (fun z => hp (by rw [z]; exact nb))).trans (hk1 p hp)) rfl

set_option maxRecDepth 100000 in
theorem c_X6_planFetch_ok0 {ln : Launch} (htr : ln.stackTraces = false) {G : zG} {h : zH} {ad : Nat → Nat → Nat} {el : Nat → Nat} {T : Nat → Nat → Int} (R : CR G ad el T h) (I : TB T) {m f : Nat} {z : Int} (hm : m < cN T 0) (hf : f < 20) (hz : 0 ≤ z ∧ z ≤ 20) (h0 : ¬ T 13 (20 * m + f) = 0) : CT ln G yX6_planFetch cX6_planFetch 6 (some (.object "Bandwidthclub$Entry")) 7 ([.ref (ad 0 0), .ref (ad 1 m), vI (f : Int), vI z]) h 4 32 (fun r9 h9 => PE G T h 0 m z (-1) ((fun _ => (0 : Int))) r9 h9) zNo := by
  refine CT.intro htr (by decide) rfl (Nat.le_of_ble_eq_true rfl) ?_
  intro X hln hG hR hN C E
  subst hln
  subst hG
  have hn9 := I.n
  have h13 : 0 ≤ T 13 (20 * m + f) ∧ T 13 (20 * m + f) ≤ 1 := I.1 13 (20 * m + f) (by decide) (by decide) (by decide)
  refine Z.aload_n C dX6_planFetch_0 rfl ?_
  refine Z.iload_n C dX6_planFetch_1 rfl ?_
  refine v_X6_209 C rfl dX6_planFetch_2 (R.mem hm) (c_X3_holds htr (R.mem hm) (R.held hm) (i := f) (by omega) (by rw [row_at _ _ _ _ (by omega)]; omega)) (by decide) (Nat.le_of_ble_eq_true rfl) (by rw [hR]; exact Nat.le_of_ble_eq_true rfl) (by rw [hR]; exact Nat.le_of_ble_eq_true rfl) (fun w2 h2 q2 => ?_) (fun _ _ q => q.elim)
  obtain ⟨rfl, q2⟩ := q2
  replace q2 := q2.symm
  subst q2
  rw [row_at _ _ _ _ (by omega)]
  refine Z.if_eq (tgt := 28) C dX6_planFetch_5 (by decide) (by omega) (by omega) (fun c5 => ?_) (fun c5 => ?_)
  · exfalso; omega
  · refine n_X6_66 C rfl dX6_planFetch_8 (by rw [hR]; exact Nat.le_of_ble_eq_true rfl) (by rw [hR]; exact Nat.le_of_ble_eq_true rfl) (fun a1 na => ?_)
    have hna := R.new na
    have Rn := R.out hna (eO 3 [.null, vI 0, vI 0, vI 0, .null, vI 0])
    refine Z.dup C dX6_planFetch_11 rfl ?_
    refine Z.way C (i := 0) (by decide) zx_w0 dX6_planFetch_12 ?_
    refine Z.aload_n C dX6_planFetch_15 rfl ?_
    refine g_X6_25  C rfl dX6_planFetch_16 (Rn.club) rfl ?_
    refine Z.aload_n C dX6_planFetch_19 rfl ?_
    refine g_X6_262  C rfl dX6_planFetch_20 (Rn.mem hm) rfl ?_
    refine Z.iload_n C dX6_planFetch_23 rfl ?_
    refine i_X6_74 C rfl dX6_planFetch_24 (c_X1_init htr (zput_same _ _ _)) (by decide) (Nat.le_of_ble_eq_true rfl) (by rw [hR]; exact Nat.le_of_ble_eq_true rfl) (by rw [hR]; exact Nat.le_of_ble_eq_true rfl) (fun w24 h24 q24 => ?_)
    obtain ⟨rfl, b1, nb0, hba, p1, p2, p3⟩ := q24
    have nb : h b1 = none := by rw [zput_ne _ _ hba] at nb0; exact nb0
    have hnb := R.new nb
    have hk1 : ∀ q, h q ≠ none → h24 q = h q := fun q hq => (p3 q (fun z => hq (by rw [z]; exact na)) (fun z => hq (by rw [z]; exact nb))).trans (zput_ne _ _ (fun z => hq (by rw [z]; exact na)))
    have R1 := R.keep (h9 := h24) (fun q hq => hk1 q (R.own hq))
    exact Z.aret C E (Or.inl ⟨_, rfl⟩) dX6_planFetch_27 (by decide) (by decide) ⟨a1, b1, rfl, na, nb, hba, p1, p2, hk1⟩

set_option maxRecDepth 100000 in
theorem c_X6_planFetch_ok1 {ln : Launch} (htr : ln.stackTraces = false) {G : zG} {h : zH} {ad : Nat → Nat → Nat} {el : Nat → Nat} {T : Nat → Nat → Int} (R : CR G ad el T h) (I : TB T) {m f : Nat} {z : Int} (hm : m < cN T 0) (hf : f < 20) (hz : 0 ≤ z ∧ z ≤ 20) (h0 : T 13 (20 * m + f) = 0) {l : Nat} (hl : cMF T (fun _ => (0 : Int)) (f : Int) (cN T 0) = (l : Int)) (hzl : z ≤ T 5 l) : CT ln G yX6_planFetch cX6_planFetch 6 (some (.object "Bandwidthclub$Entry")) 7 ([.ref (ad 0 0), .ref (ad 1 m), vI (f : Int), vI z]) h 4 32 (fun r9 h9 => PE G T h 1 m z ((l : Int)) (va_up (fun _ => (0 : Int)) l (0 + z)) r9 h9) zNo := by
  refine CT.intro htr (by decide) rfl (Nat.le_of_ble_eq_true rfl) ?_
  intro X hln hG hR hN C E
  subst hln
  subst hG
  have hn9 := I.n
  have h13 : 0 ≤ T 13 (20 * m + f) ∧ T 13 (20 * m + f) ≤ 1 := I.1 13 (20 * m + f) (by decide) (by decide) (by decide)
  refine Z.aload_n C dX6_planFetch_0 rfl ?_
  refine Z.iload_n C dX6_planFetch_1 rfl ?_
  refine v_X6_209 C rfl dX6_planFetch_2 (R.mem hm) (c_X3_holds htr (R.mem hm) (R.held hm) (i := f) (by omega) (by rw [row_at _ _ _ _ (by omega)]; omega)) (by decide) (Nat.le_of_ble_eq_true rfl) (by rw [hR]; exact Nat.le_of_ble_eq_true rfl) (by rw [hR]; exact Nat.le_of_ble_eq_true rfl) (fun w2 h2 q2 => ?_) (fun _ _ q => q.elim)
  obtain ⟨rfl, q2⟩ := q2
  replace q2 := q2.symm
  subst q2
  rw [row_at _ _ _ _ (by omega)]
  refine Z.if_eq (tgt := 28) C dX6_planFetch_5 (by decide) (by omega) (by omega) (fun c5 => ?_) (fun c5 => ?_)
  · refine n_X6_66 C rfl dX6_planFetch_28 (by rw [hR]; exact Nat.le_of_ble_eq_true rfl) (by rw [hR]; exact Nat.le_of_ble_eq_true rfl) (fun a1 na => ?_)
    have hna := R.new na
    have Rn := R.out hna (eO 3 [.null, vI 0, vI 0, vI 0, .null, vI 0])
    refine Z.dup C dX6_planFetch_31 rfl ?_
    refine Z.way C (i := 1) (by decide) zx_w1 dX6_planFetch_32 ?_
    refine Z.aload_n C dX6_planFetch_35 rfl ?_
    refine g_X6_25  C rfl dX6_planFetch_36 (Rn.club) rfl ?_
    refine Z.aload_n C dX6_planFetch_39 rfl ?_
    refine g_X6_262  C rfl dX6_planFetch_40 (Rn.mem hm) rfl ?_
    refine Z.iload_n C dX6_planFetch_43 rfl ?_
    refine i_X6_74 C rfl dX6_planFetch_44 (c_X1_init htr (zput_same _ _ _)) (by decide) (Nat.le_of_ble_eq_true rfl) (by rw [hR]; exact Nat.le_of_ble_eq_true rfl) (by rw [hR]; exact Nat.le_of_ble_eq_true rfl) (fun w44 h44 q44 => ?_)
    obtain ⟨rfl, b1, nb0, hba, p1, p2, p3⟩ := q44
    have nb : h b1 = none := by rw [zput_ne _ _ hba] at nb0; exact nb0
    have hnb := R.new nb
    have hk1 : ∀ q, h q ≠ none → h44 q = h q := fun q hq => (p3 q (fun z => hq (by rw [z]; exact na)) (fun z => hq (by rw [z]; exact nb))).trans (zput_ne _ _ (fun z => hq (by rw [z]; exact na)))
    have R1 := R.keep (h9 := h44) (fun q hq => hk1 q (R.own hq))
    refine Z.astore (l' := [_, _, _, _, _]) C dX6_planFetch_47 (Nat.le_of_ble_eq_true rfl) (by rw [hN]; decide) rfl ?_
    refine Z.aload_n C dX6_planFetch_49 rfl ?_
    refine Z.iload_n C dX6_planFetch_50 rfl ?_
    refine Z.aload C dX6_planFetch_51 rfl ?_
    refine g_X6_130  C rfl dX6_planFetch_53 (p1) rfl ?_
    refine v_X6_268 C rfl dX6_planFetch_56 (R1.club) (c_X6_withMostLeft htr R1 I (fm := (f : Int)) (by omega) p2 (fun _ => ⟨Int.le_refl _, by decide⟩)) (by decide) (Nat.le_of_ble_eq_true rfl) (by rw [hR]; exact Nat.le_of_ble_eq_true rfl) (by rw [hR]; exact Nat.le_of_ble_eq_true rfl) (fun w56 h56 q56 => ?_) (fun _ _ q => q.elim)
    obtain ⟨rfl, q56⟩ := q56
    replace q56 := q56.symm
    subst q56
    have hb := cMF_b T (fun _ => (0 : Int)) (f : Int) (cN T 0)
    have hln : l < cN T 0 := by omega
    rw [hl]
    have h5l : 0 ≤ T 5 l ∧ T 5 l ≤ 20 := I.1 5 l (by decide) (by decide) (by decide)
    refine Z.istore (l' := [_, _, _, _, _, _]) C dX6_planFetch_59 (Nat.le_of_ble_eq_true rfl) (by rw [hN]; decide) rfl ?_
    refine Z.iload C dX6_planFetch_61 rfl ?_
    refine Z.iconst C dX6_planFetch_63 ?_
    refine Z.icmp_eq (tgt := 100) C dX6_planFetch_64 (by decide) (by omega) (by omega) (by omega) (by omega) (fun c64 => ?_) (fun c64 => ?_)
    · exfalso; omega
    · refine Z.aload_n C dX6_planFetch_67 rfl ?_
      refine Z.iload C dX6_planFetch_68 rfl ?_
      refine Z.aload C dX6_planFetch_70 rfl ?_
      refine g_X6_130  C rfl dX6_planFetch_72 (p1) rfl ?_
      refine v_X6_272 C rfl dX6_planFetch_75 (R1.club) (c_X6_leftBeside htr R1 I hln p2) (by decide) (Nat.le_of_ble_eq_true rfl) (by rw [hR]; exact Nat.le_of_ble_eq_true rfl) (by rw [hR]; exact Nat.le_of_ble_eq_true rfl) (fun w75 h75 q75 => ?_) (fun _ _ q => q.elim)
      obtain ⟨rfl, q75⟩ := q75
      replace q75 := q75.symm
      subst q75
      refine Z.iload_n C dX6_planFetch_78 rfl ?_
      refine Z.icmp_lt (tgt := 100) C dX6_planFetch_79 (by decide) (by omega) (by omega) (by omega) (by omega) (fun c79 => ?_) (fun c79 => ?_)
      · exfalso; omega
      · refine Z.aload C dX6_planFetch_82 rfl ?_
        refine Z.iload C dX6_planFetch_84 rfl ?_
        refine p_X6_275 (fs' := [.ref ((zG_of X).2.2 1), vI (T 1 0), vI (m : Int), vI z, .ref b1, vI (l : Int)]) C rfl  dX6_planFetch_86  (p1) (Nat.le_of_ble_eq_true rfl) rfl ?_
        have q1 := zput_same h44 a1 (eO 3 [.ref ((zG_of X).2.2 1), vI (T 1 0), vI (m : Int), vI z, .ref b1, vI (l : Int)])
        have q2 := (zput_ne h44 (eO 3 [.ref ((zG_of X).2.2 1), vI (T 1 0), vI (m : Int), vI z, .ref b1, vI (l : Int)]) hba).trans p2
        refine Z.aload C dX6_planFetch_89 rfl ?_
        refine Z.iload C dX6_planFetch_91 rfl ?_
        refine Z.iload_n C dX6_planFetch_93 rfl ?_
        refine v_X6_278 C rfl dX6_planFetch_94 (q1) (c_X1_addLine htr q1 q2 (i := l) (by omega)) (by decide) (Nat.le_of_ble_eq_true rfl) (by rw [hR]; exact Nat.le_of_ble_eq_true rfl) (by rw [hR]; exact Nat.le_of_ble_eq_true rfl) (fun w94 h94 q94 => ?_) (fun _ _ q => q.elim)
        obtain ⟨rfl, q94⟩ := q94
        replace q94 := q94.symm
        subst q94
        refine Z.aload C dX6_planFetch_97 rfl ?_
        exact Z.aret C E (Or.inl ⟨_, rfl⟩) dX6_planFetch_99 (by decide) (by decide) ⟨a1, b1, rfl, na, nb, hba, (zput_ne _ _ hba.symm).trans (zput_same _ _ _), zput_same _ _ _, fun q hq => (zput_ne _ _ (fun z => hq (by rw [z]; exact nb))).trans ((zput_ne _ _ (fun z => hq (by rw [z]; exact na))).trans (hk1 q hq))⟩
  · exfalso; omega

set_option maxRecDepth 100000 in
theorem c_X6_planFetch_ok2 {ln : Launch} (htr : ln.stackTraces = false) {G : zG} {h : zH} {ad : Nat → Nat → Nat} {el : Nat → Nat} {T : Nat → Nat → Int} (R : CR G ad el T h) (I : TB T) {m f : Nat} {z : Int} (hm : m < cN T 0) (hf : f < 20) (hz : 0 ≤ z ∧ z ≤ 20) (h0 : T 13 (20 * m + f) = 0) (hnl : ∀ l : Nat, cMF T (fun _ => (0 : Int)) (f : Int) (cN T 0) = (l : Int) → T 5 l < z) (hA : z ≤ cA T (cN T 0)) : CT ln G yX6_planFetch cX6_planFetch 6 (some (.object "Bandwidthclub$Entry")) 7 ([.ref (ad 0 0), .ref (ad 1 m), vI (f : Int), vI z]) h 4 32 (fun r9 h9 => PE G T h 2 m z (-1) (pO0 T m z) r9 h9) zNo := by
  refine CT.intro htr (by decide) rfl (Nat.le_of_ble_eq_true rfl) ?_
  intro X hln hG hR hN C E
  subst hln
  subst hG
  have hn9 := I.n
  have h13 : 0 ≤ T 13 (20 * m + f) ∧ T 13 (20 * m + f) ≤ 1 := I.1 13 (20 * m + f) (by decide) (by decide) (by decide)
  refine Z.aload_n C dX6_planFetch_0 rfl ?_
  refine Z.iload_n C dX6_planFetch_1 rfl ?_
  refine v_X6_209 C rfl dX6_planFetch_2 (R.mem hm) (c_X3_holds htr (R.mem hm) (R.held hm) (i := f) (by omega) (by rw [row_at _ _ _ _ (by omega)]; omega)) (by decide) (Nat.le_of_ble_eq_true rfl) (by rw [hR]; exact Nat.le_of_ble_eq_true rfl) (by rw [hR]; exact Nat.le_of_ble_eq_true rfl) (fun w2 h2 q2 => ?_) (fun _ _ q => q.elim)
  obtain ⟨rfl, q2⟩ := q2
  replace q2 := q2.symm
  subst q2
  rw [row_at _ _ _ _ (by omega)]
  refine Z.if_eq (tgt := 28) C dX6_planFetch_5 (by decide) (by omega) (by omega) (fun c5 => ?_) (fun c5 => ?_)
  · refine n_X6_66 C rfl dX6_planFetch_28 (by rw [hR]; exact Nat.le_of_ble_eq_true rfl) (by rw [hR]; exact Nat.le_of_ble_eq_true rfl) (fun a1 na => ?_)
    have hna := R.new na
    have Rn := R.out hna (eO 3 [.null, vI 0, vI 0, vI 0, .null, vI 0])
    refine Z.dup C dX6_planFetch_31 rfl ?_
    refine Z.way C (i := 1) (by decide) zx_w1 dX6_planFetch_32 ?_
    refine Z.aload_n C dX6_planFetch_35 rfl ?_
    refine g_X6_25  C rfl dX6_planFetch_36 (Rn.club) rfl ?_
    refine Z.aload_n C dX6_planFetch_39 rfl ?_
    refine g_X6_262  C rfl dX6_planFetch_40 (Rn.mem hm) rfl ?_
    refine Z.iload_n C dX6_planFetch_43 rfl ?_
    refine i_X6_74 C rfl dX6_planFetch_44 (c_X1_init htr (zput_same _ _ _)) (by decide) (Nat.le_of_ble_eq_true rfl) (by rw [hR]; exact Nat.le_of_ble_eq_true rfl) (by rw [hR]; exact Nat.le_of_ble_eq_true rfl) (fun w44 h44 q44 => ?_)
    obtain ⟨rfl, b1, nb0, hba, p1, p2, p3⟩ := q44
    have nb : h b1 = none := by rw [zput_ne _ _ hba] at nb0; exact nb0
    have hnb := R.new nb
    have hk1 : ∀ q, h q ≠ none → h44 q = h q := fun q hq => (p3 q (fun z => hq (by rw [z]; exact na)) (fun z => hq (by rw [z]; exact nb))).trans (zput_ne _ _ (fun z => hq (by rw [z]; exact na)))
    have R1 := R.keep (h9 := h44) (fun q hq => hk1 q (R.own hq))
    refine Z.astore (l' := [_, _, _, _, _]) C dX6_planFetch_47 (Nat.le_of_ble_eq_true rfl) (by rw [hN]; decide) rfl ?_
    refine Z.aload_n C dX6_planFetch_49 rfl ?_
    refine Z.iload_n C dX6_planFetch_50 rfl ?_
    refine Z.aload C dX6_planFetch_51 rfl ?_
    refine g_X6_130  C rfl dX6_planFetch_53 (p1) rfl ?_
    refine v_X6_268 C rfl dX6_planFetch_56 (R1.club) (c_X6_withMostLeft htr R1 I (fm := (f : Int)) (by omega) p2 (fun _ => ⟨Int.le_refl _, by decide⟩)) (by decide) (Nat.le_of_ble_eq_true rfl) (by rw [hR]; exact Nat.le_of_ble_eq_true rfl) (by rw [hR]; exact Nat.le_of_ble_eq_true rfl) (fun w56 h56 q56 => ?_) (fun _ _ q => q.elim)
    obtain ⟨rfl, q56⟩ := q56
    replace q56 := q56.symm
    subst q56
    refine Z.istore (l' := [_, _, _, _, _, _]) C dX6_planFetch_59 (Nat.le_of_ble_eq_true rfl) (by rw [hN]; decide) rfl ?_
    have hb := cMF_b T (fun _ => (0 : Int)) (f : Int) (cN T 0)
    have hAb := cA_b I (cN T 0)
    have J100 : Z X 100 [.ref (ad 0 0), .ref (ad 1 m), vI (f : Int), vI z, .ref a1, vI (cMF T (fun _ => (0 : Int)) (f : Int) (cN T 0))] [] h44 2 16 := by
      skip
      refine Z.aload_n C dX6_planFetch_100 rfl ?_
      refine v_X6_281 C rfl dX6_planFetch_101 (R1.club) (c_X6_leftOfAll htr R1 I) (by decide) (Nat.le_of_ble_eq_true rfl) (by rw [hR]; exact Nat.le_of_ble_eq_true rfl) (by rw [hR]; exact Nat.le_of_ble_eq_true rfl) (fun w101 h101 q101 => ?_) (fun _ _ q => q.elim)
      obtain ⟨rfl, q101⟩ := q101
      replace q101 := q101.symm
      subst q101
      refine Z.iload_n C dX6_planFetch_104 rfl ?_
      refine Z.icmp_ge (tgt := 119) C dX6_planFetch_105 (by decide) (by omega) (by omega) (by omega) (by omega) (fun c105 => ?_) (fun c105 => ?_)
      · refine Z.aload_n C dX6_planFetch_119 rfl ?_
        refine Z.aload_n C dX6_planFetch_120 rfl ?_
        refine Z.iload_n C dX6_planFetch_121 rfl ?_
        refine v_X6_286 C rfl dX6_planFetch_122 (R1.club) (c_X6_planFromOutside_ok htr R1 I hm hz hA) (by decide) (Nat.le_of_ble_eq_true rfl) (by rw [hR]; exact Nat.le_of_ble_eq_true rfl) (by rw [hR]; exact Nat.le_of_ble_eq_true rfl) (fun w122 h122 q122 => ?_) (fun _ _ q => q.elim)
        have q9 := PE.up hk1 q122
        obtain ⟨a2, b2, rfl, -⟩ := id q9
        exact Z.aret C E (Or.inl ⟨_, rfl⟩) dX6_planFetch_125 (by decide) (by decide) q9
      · exfalso; omega
    refine Z.iload C dX6_planFetch_61 rfl ?_
    refine Z.iconst C dX6_planFetch_63 ?_
    refine Z.icmp_eq (tgt := 100) C dX6_planFetch_64 (by decide) (by omega) (by omega) (by omega) (by omega) (fun c64 => ?_) (fun c64 => ?_)
    · exact J100
    · obtain ⟨l, hl⟩ : ∃ l : Nat, cMF T (fun _ => (0 : Int)) (f : Int) (cN T 0) = (l : Int) := ⟨(cMF T (fun _ => (0 : Int)) (f : Int) (cN T 0)).toNat, by omega⟩
      have hln : l < cN T 0 := by omega
      have hzl := hnl l hl
      have h5l : 0 ≤ T 5 l ∧ T 5 l ≤ 20 := I.1 5 l (by decide) (by decide) (by decide)
      rw [hl] at J100 ⊢
      refine Z.aload_n C dX6_planFetch_67 rfl ?_
      refine Z.iload C dX6_planFetch_68 rfl ?_
      refine Z.aload C dX6_planFetch_70 rfl ?_
      refine g_X6_130  C rfl dX6_planFetch_72 (p1) rfl ?_
      refine v_X6_272 C rfl dX6_planFetch_75 (R1.club) (c_X6_leftBeside htr R1 I hln p2) (by decide) (Nat.le_of_ble_eq_true rfl) (by rw [hR]; exact Nat.le_of_ble_eq_true rfl) (by rw [hR]; exact Nat.le_of_ble_eq_true rfl) (fun w75 h75 q75 => ?_) (fun _ _ q => q.elim)
      obtain ⟨rfl, q75⟩ := q75
      replace q75 := q75.symm
      subst q75
      refine Z.iload_n C dX6_planFetch_78 rfl ?_
      refine Z.icmp_lt (tgt := 100) C dX6_planFetch_79 (by decide) (by omega) (by omega) (by omega) (by omega) (fun c79 => ?_) (fun c79 => ?_)
      · exact J100
      · exfalso; omega
  · exfalso; omega

set_option maxRecDepth 100000 in
theorem c_X6_planFetch_x {ln : Launch} (htr : ln.stackTraces = false) {G : zG} {h : zH} {ad : Nat → Nat → Nat} {el : Nat → Nat} {T : Nat → Nat → Int} (R : CR G ad el T h) (I : TB T) {m f : Nat} {z : Int} (hm : m < cN T 0) (hf : f < 20) (hz : 0 ≤ z ∧ z ≤ 20) (h0 : T 13 (20 * m + f) = 0) (hnl : ∀ l : Nat, cMF T (fun _ => (0 : Int)) (f : Int) (cN T 0) = (l : Int) → T 5 l < z) (hA : ¬ z ≤ cA T (cN T 0)) : CT ln G yX6_planFetch cX6_planFetch 6 (some (.object "Bandwidthclub$Entry")) 7 ([.ref (ad 0 0), .ref (ad 1 m), vI (f : Int), vI z]) h 4 32 (fun _ _ => False) (fun E9 h9 => E9 = "java/lang/IllegalStateException" ∧ ∀ q, h q ≠ none → h9 q = h q) := by
  refine CT.intro htr (by decide) rfl (Nat.le_of_ble_eq_true rfl) ?_
  intro X hln hG hR hN C E
  subst hln
  subst hG
  have hn9 := I.n
  have h13 : 0 ≤ T 13 (20 * m + f) ∧ T 13 (20 * m + f) ≤ 1 := I.1 13 (20 * m + f) (by decide) (by decide) (by decide)
  refine Z.aload_n C dX6_planFetch_0 rfl ?_
  refine Z.iload_n C dX6_planFetch_1 rfl ?_
  refine v_X6_209 C rfl dX6_planFetch_2 (R.mem hm) (c_X3_holds htr (R.mem hm) (R.held hm) (i := f) (by omega) (by rw [row_at _ _ _ _ (by omega)]; omega)) (by decide) (Nat.le_of_ble_eq_true rfl) (by rw [hR]; exact Nat.le_of_ble_eq_true rfl) (by rw [hR]; exact Nat.le_of_ble_eq_true rfl) (fun w2 h2 q2 => ?_) (fun _ _ q => q.elim)
  obtain ⟨rfl, q2⟩ := q2
  replace q2 := q2.symm
  subst q2
  rw [row_at _ _ _ _ (by omega)]
  refine Z.if_eq (tgt := 28) C dX6_planFetch_5 (by decide) (by omega) (by omega) (fun c5 => ?_) (fun c5 => ?_)
  · refine n_X6_66 C rfl dX6_planFetch_28 (by rw [hR]; exact Nat.le_of_ble_eq_true rfl) (by rw [hR]; exact Nat.le_of_ble_eq_true rfl) (fun a1 na => ?_)
    have hna := R.new na
    have Rn := R.out hna (eO 3 [.null, vI 0, vI 0, vI 0, .null, vI 0])
    refine Z.dup C dX6_planFetch_31 rfl ?_
    refine Z.way C (i := 1) (by decide) zx_w1 dX6_planFetch_32 ?_
    refine Z.aload_n C dX6_planFetch_35 rfl ?_
    refine g_X6_25  C rfl dX6_planFetch_36 (Rn.club) rfl ?_
    refine Z.aload_n C dX6_planFetch_39 rfl ?_
    refine g_X6_262  C rfl dX6_planFetch_40 (Rn.mem hm) rfl ?_
    refine Z.iload_n C dX6_planFetch_43 rfl ?_
    refine i_X6_74 C rfl dX6_planFetch_44 (c_X1_init htr (zput_same _ _ _)) (by decide) (Nat.le_of_ble_eq_true rfl) (by rw [hR]; exact Nat.le_of_ble_eq_true rfl) (by rw [hR]; exact Nat.le_of_ble_eq_true rfl) (fun w44 h44 q44 => ?_)
    obtain ⟨rfl, b1, nb0, hba, p1, p2, p3⟩ := q44
    have nb : h b1 = none := by rw [zput_ne _ _ hba] at nb0; exact nb0
    have hnb := R.new nb
    have hk1 : ∀ q, h q ≠ none → h44 q = h q := fun q hq => (p3 q (fun z => hq (by rw [z]; exact na)) (fun z => hq (by rw [z]; exact nb))).trans (zput_ne _ _ (fun z => hq (by rw [z]; exact na)))
    have R1 := R.keep (h9 := h44) (fun q hq => hk1 q (R.own hq))
    refine Z.astore (l' := [_, _, _, _, _]) C dX6_planFetch_47 (Nat.le_of_ble_eq_true rfl) (by rw [hN]; decide) rfl ?_
    refine Z.aload_n C dX6_planFetch_49 rfl ?_
    refine Z.iload_n C dX6_planFetch_50 rfl ?_
    refine Z.aload C dX6_planFetch_51 rfl ?_
    refine g_X6_130  C rfl dX6_planFetch_53 (p1) rfl ?_
    refine v_X6_268 C rfl dX6_planFetch_56 (R1.club) (c_X6_withMostLeft htr R1 I (fm := (f : Int)) (by omega) p2 (fun _ => ⟨Int.le_refl _, by decide⟩)) (by decide) (Nat.le_of_ble_eq_true rfl) (by rw [hR]; exact Nat.le_of_ble_eq_true rfl) (by rw [hR]; exact Nat.le_of_ble_eq_true rfl) (fun w56 h56 q56 => ?_) (fun _ _ q => q.elim)
    obtain ⟨rfl, q56⟩ := q56
    replace q56 := q56.symm
    subst q56
    refine Z.istore (l' := [_, _, _, _, _, _]) C dX6_planFetch_59 (Nat.le_of_ble_eq_true rfl) (by rw [hN]; decide) rfl ?_
    have hb := cMF_b T (fun _ => (0 : Int)) (f : Int) (cN T 0)
    have hAb := cA_b I (cN T 0)
    have J100 : Z X 100 [.ref (ad 0 0), .ref (ad 1 m), vI (f : Int), vI z, .ref a1, vI (cMF T (fun _ => (0 : Int)) (f : Int) (cN T 0))] [] h44 2 16 := by
      skip
      refine Z.aload_n C dX6_planFetch_100 rfl ?_
      refine v_X6_281 C rfl dX6_planFetch_101 (R1.club) (c_X6_leftOfAll htr R1 I) (by decide) (Nat.le_of_ble_eq_true rfl) (by rw [hR]; exact Nat.le_of_ble_eq_true rfl) (by rw [hR]; exact Nat.le_of_ble_eq_true rfl) (fun w101 h101 q101 => ?_) (fun _ _ q => q.elim)
      obtain ⟨rfl, q101⟩ := q101
      replace q101 := q101.symm
      subst q101
      refine Z.iload_n C dX6_planFetch_104 rfl ?_
      refine Z.icmp_ge (tgt := 119) C dX6_planFetch_105 (by decide) (by omega) (by omega) (by omega) (by omega) (fun c105 => ?_) (fun c105 => ?_)
      · exfalso; omega
      · exact Z.xISEW C E rfl (by decide +kernel : (RX6, 284, "the lines have not so much left") ∈ zTexts) dX6_planFetch_108 dX6_planFetch_111 dX6_planFetch_112 dX6_planFetch_115 dX6_planFetch_118 (by decide) (Nat.le_of_ble_eq_true rfl) (by decide) (by decide) (by rw [hR]; exact Nat.le_of_ble_eq_true rfl) (by rw [hR]; exact Nat.le_of_ble_eq_true rfl) ⟨rfl, hk1⟩
    refine Z.iload C dX6_planFetch_61 rfl ?_
    refine Z.iconst C dX6_planFetch_63 ?_
    refine Z.icmp_eq (tgt := 100) C dX6_planFetch_64 (by decide) (by omega) (by omega) (by omega) (by omega) (fun c64 => ?_) (fun c64 => ?_)
    · exact J100
    · obtain ⟨l, hl⟩ : ∃ l : Nat, cMF T (fun _ => (0 : Int)) (f : Int) (cN T 0) = (l : Int) := ⟨(cMF T (fun _ => (0 : Int)) (f : Int) (cN T 0)).toNat, by omega⟩
      have hln : l < cN T 0 := by omega
      have hzl := hnl l hl
      have h5l : 0 ≤ T 5 l ∧ T 5 l ≤ 20 := I.1 5 l (by decide) (by decide) (by decide)
      rw [hl] at J100 ⊢
      refine Z.aload_n C dX6_planFetch_67 rfl ?_
      refine Z.iload C dX6_planFetch_68 rfl ?_
      refine Z.aload C dX6_planFetch_70 rfl ?_
      refine g_X6_130  C rfl dX6_planFetch_72 (p1) rfl ?_
      refine v_X6_272 C rfl dX6_planFetch_75 (R1.club) (c_X6_leftBeside htr R1 I hln p2) (by decide) (Nat.le_of_ble_eq_true rfl) (by rw [hR]; exact Nat.le_of_ble_eq_true rfl) (by rw [hR]; exact Nat.le_of_ble_eq_true rfl) (fun w75 h75 q75 => ?_) (fun _ _ q => q.elim)
      obtain ⟨rfl, q75⟩ := q75
      replace q75 := q75.symm
      subst q75
      refine Z.iload_n C dX6_planFetch_78 rfl ?_
      refine Z.icmp_lt (tgt := 100) C dX6_planFetch_79 (by decide) (by omega) (by omega) (by omega) (by omega) (fun c79 => ?_) (fun c79 => ?_)
      · exact J100
      · exfalso; omega
  · exfalso; omega

