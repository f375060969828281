/-! the rest of the heap stays through a call -/
def zFr (hm h hm9 h9 : zH) : Prop := (∀ q x, hm9 q = some x → h9 q = some x) ∧ (∀ q x, hm q = none → h q = some x → h9 q = some x) ∧ ∀ q, hm q = none → h q ≠ none → hm9 q = none
def zglue (hm h hm9 : zH) : zH := fun q => if (hm9 q).isSome then hm9 q else if (hm q).isNone then h q else none
theorem zglue_1 {hm h hm9 : zH} {q : Nat} {x : va_E} (e : hm9 q = some x) : zglue hm h hm9 q = some x := by
  unfold zglue
  rw [e]
  rfl
theorem zglue_2 {hm h hm9 : zH} {q : Nat} {x : va_E} (e1 : hm q = none) (e2 : hm9 q = none) (e : h q = some x) : zglue hm h hm9 q = some x := by
  unfold zglue
  rw [e1, e2, e]
  rfl
theorem zglue_3 {hm h hm9 : zH} {q : Nat} {x : va_E} (e : zglue hm h hm9 q = some x) : hm9 q = some x ∨ (hm q = none ∧ h q = some x) := by
  unfold zglue at e
  cases c1 : hm9 q with
  | some y => rw [c1] at e; exact Or.inl e
  | none =>
    cases c2 : hm q with
    | some y => rw [c1, c2] at e; cases e
    | none => rw [c1, c2] at e; exact Or.inr ⟨rfl, e⟩
theorem zglue_ok {G : zG} {hm h h' : zH} {sz : Nat} {s t : State} (hsub : ∀ q x, hm q = some x → h q = some x) (g2 : s.heap.size = sz) (g3 : zHold G.1 h s.heap) (b3 : zHold G.1 h' t.heap) (b4 : va_F (zA hm sz) s t) (b5 : ∀ q, h' q ≠ none → zA hm sz q) :
    zFr hm h h' (zglue hm h h') ∧ zHold G.1 (zglue hm h h') t.heap ∧ va_F (zA h sz) s t ∧ ∀ q, zglue hm h h' q ≠ none → zA h sz q := by
  have hA : ∀ q, zA hm sz q → zA h sz q := fun q hq => by
    rcases hq with hq | hq
    · cases c : hm q with
      | none => exact absurd c hq
      | some x => exact Or.inl (by rw [hsub q x c]; exact fun z => by cases z)
    · exact Or.inr hq
  have h9 : ∀ q, hm q = none → h q ≠ none → h' q = none := fun q q1 q2 => by
    cases c : h' q with
    | none => rfl
    | some x =>
      rcases b5 q (by rw [c]; exact fun z => by cases z) with z | z
      · exact absurd q1 z
      · cases c2 : h q with
        | none => exact absurd c2 q2
        | some y => exact absurd (g3.lt c2) (by omega)
  refine ⟨⟨fun q x e => zglue_1 e, fun q x e1 e => zglue_2 e1 (h9 q e1 (by rw [e]; exact fun z => by cases z)) e, h9⟩, fun q x hq => ?_, ⟨b4.1, fun q q1 q2 => b4.2 q q1 (fun z => q2 (hA q z))⟩, fun q hq => ?_⟩
  · rcases zglue_3 hq with e | ⟨e1, e⟩
    · exact b3 q x e
    · refine (g3 q x e).kept (b4.2 q (g3.lt e) (fun z => ?_))
      rcases z with z | z
      · exact z e1
      · have := g3.lt e
        omega
  · cases c : zglue hm h h' q with
    | none => exact absurd c hq
    | some x =>
      rcases zglue_3 c with e | ⟨e1, e⟩
      · exact hA q (b5 q (by rw [e]; exact fun z => by cases z))
      · exact Or.inl (by rw [e]; exact fun z => by cases z)
theorem CT.frame {ln : Launch} {G : zG} {y : MethodName} {cc : ByteArray} {maxL : Nat} {ret : Option FieldType} {d : Nat} {as : List Value} {hm h : zH} {mc ms : Nat} {Qf : Option Value → zH → Prop} {Xf : String → zH → Prop} (hsub : ∀ q x, hm q = some x → h q = some x) (h0 : CT ln G y cc maxL ret d as hm mc ms Qf Xf) : CT ln G y cc maxL ret d as h mc ms (fun v h9 => ∃ hm9, Qf v hm9 ∧ zFr hm h hm9 h9) (fun E h9 => ∃ hm9, Xf E hm9 ∧ zFr hm h hm9 h9) := by
  intro sz p e h1 h2 h3 s m args below h4 h5 h6 h7
  obtain ⟨g1, g2, g3, g4, g5⟩ := h6
  have hp : zPc G hm sz as args s := ⟨g1, g2, fun a e ha => g3 a e (hsub a e ha), g4, zBG.narrow g5 (fun q hq => by
    rcases hq with hq | hq
    · cases c : hm q with
      | none => exact absurd c hq
      | some x => exact Or.inl (by rw [hsub q x c]; exact fun z => by cases z)
    · exact Or.inr hq)⟩
  have hA : ∀ q, zA hm sz q → zA h sz q := fun q hq => by
    rcases hq with hq | hq
    · cases c : hm q with
      | none => exact absurd c hq
      | some x => exact Or.inl (by rw [hsub q x c]; exact fun z => by cases z)
    · exact Or.inr hq
  obtain ⟨n, o, a1, a2, a3, a4⟩ := h0 sz p e h1 h2 h3 s m args below h4 h5 hp h7
  refine ⟨n, o, a1, a2, a3, ?_⟩
  rcases a4 with ⟨⟨v, h', b1, b2, b3, b4, b5⟩, L, c1, c2⟩ | ⟨q, b1, E, ce, L, ⟨h', b2, b3, b4, b5⟩, c1, c2, c3, c4, c5, c6⟩
  · obtain ⟨w1, w2, w3, w4⟩ := zglue_ok hsub g2 g3 b3 b4 b5
    exact Or.inl ⟨⟨v, zglue hm h h', b1, ⟨h', b2, w1⟩, w2, w3, w4⟩, L, c1, fun q hq => hA _ (c2 q hq)⟩
  · obtain ⟨w1, w2, w3, w4⟩ := zglue_ok hsub g2 g3 b3 b4 b5
    exact Or.inr ⟨q, b1, E, ce, L, ⟨zglue hm h h', ⟨h', b2, w1⟩, w2, w3, w4⟩, c1, c2, c3, c4, c5, fun q hq => hA _ (c6 q hq)⟩
/-! THE CLUB: kinds of cells 0 the club, 1 member, 2 held, 3 book, 4 balances, 5 film, 6 proposal, 7 votes, 8 entry, 9 lines; 10: the four lists -/
def cG (k : Nat) : Nat := match k with
  | 1 => 0
  | 2 => 0
  | 3 => 0
  | 4 => 0
  | 5 => 1
  | 6 => 2
  | 7 => 2
  | 8 => 3
  | 9 => 3
  | 0 => 8
  | _ => 9
def cL (q : Nat) : Nat := match q with
  | 0 => 1
  | 1 => 5
  | 2 => 6
  | _ => 8
/-- how many: members, films, proposals, entries; one club -/
def cN (T : Nat → Nat → Int) (g : Nat) : Nat := match g with
  | 0 => (T 2 0).toNat
  | 1 => (T 10 0).toNat
  | 2 => (T 15 0).toNat
  | 3 => (T 31 0).toNat
  | 8 => 1
  | _ => 0
/-- row i of a table of width w -/
def row (T : Nat → Nat → Int) (k w i : Nat) : Nat → Int := fun j => if j < w then T k (w * i + j) else 0
theorem row_at (T : Nat → Nat → Int) (k w i : Nat) {j : Nat} (h : j < w) : row T k w i j = T k (w * i + j) := if_pos h
theorem row_up (T : Nat → Nat → Int) (k w i : Nat) {m : Nat} (v : Int) (hm : m < w) : va_up (row T k w i) m v = row (su T k (w * i + m) v) k w i := by
  funext j
  unfold va_up row
  by_cases c : j = m
  · subst c
    rw [if_pos rfl, if_pos hm, su_at, if_pos ⟨rfl, rfl⟩]
  · rw [if_neg c]
    by_cases c2 : j < w
    · rw [if_pos c2, if_pos c2, su_at, if_neg (by omega)]
    · rw [if_neg c2, if_neg c2]
theorem row_ne (T : Nat → Nat → Int) (k w : Nat) {i i' m : Nat} (v : Int) (hm : m < w) (hi : i' ≠ i) : row (su T k (w * i + m) v) k w i' = row T k w i' := by
  funext j
  unfold row
  by_cases c : j < w
  · rw [if_pos c, if_pos c, su_at, if_neg]
    rintro ⟨-, z⟩
    have h1 : (w * i' + j) / w = i' := by rw [Nat.mul_add_div (by omega), Nat.div_eq_of_lt c, Nat.add_zero]
    have h2 : (w * i + m) / w = i := by rw [Nat.mul_add_div (by omega), Nat.div_eq_of_lt hm, Nat.add_zero]
    rw [z, h2] at h1
    exact hi h1.symm
  · rw [if_neg c, if_neg c]
theorem row_k (T : Nat → Nat → Int) {k k' : Nat} (w i i' : Nat) (v : Int) (hk : k' ≠ k) : row (su T k i v) k' w i' = row T k' w i' := by
  funext j
  unfold row
  rw [su_ne T i v hk]
def cel (G : zG) (ad : Nat → Nat → Nat) (T : Nat → Nat → Int) (k i : Nat) : va_E := match k with
  | 0 => eO 7 [.ref (ad 10 0), .ref (ad 10 1), .ref (ad 10 2), .ref (ad 10 3), vI (T 1 0), vI (T 14 0)]
  | 1 => eO 5 [vI (i : Int), vI (T 4 i), vI (T 6 i), .ref (ad 3 i), .ref (ad 2 i), vI (T 3 i), vI (T 5 i), vI (T 8 i)]
  | 2 => eI (G.2.1 1) 20 (row T 13 20 i)
  | 3 => eO 2 [vI (i : Int), .ref (ad 4 i), vI (T 7 i)]
  | 4 => eI (G.2.1 0) 10 (row T 30 10 i)
  | 5 => eO 4 [vI (T 11 i), vI (T 12 i)]
  | 6 => eO 6 [vI (T 17 i), vI (T 18 i), .ref (ad 7 i), vI (T 16 i), vI (T 19 i)]
  | 7 => eI (G.2.1 0) 10 (row T 20 10 i)
  | 8 => eO 3 [.ref (G.2.2 (T 32 i).toNat), vI (T 33 i), vI (T 34 i), vI (T 35 i), .ref (ad 9 i), vI (T 36 i)]
  | _ => eI (G.2.1 0) 10 (row T 37 10 i)
def CR (G : zG) (ad : Nat → Nat → Nat) (el : Nat → Nat) (T : Nat → Nat → Int) (h : zH) : Prop :=
  (∀ k i, i < cN T (cG k) → h (ad k i) = some (cel G ad T k i)) ∧
  (∀ k i k' i', i < cN T (cG k) → i' < cN T (cG k') → ad k i = ad k' i' → k = k' ∧ i = i') ∧
  (∀ q, q < 4 → LL G h (ad 10 q) (el q) (cN T q) (ad (cL q))) ∧
  (∀ q q', q < 4 → q' < 4 → q ≠ q' → ad 10 q ≠ ad 10 q' ∧ (0 < cN T q → 0 < cN T q' → el q ≠ el q'))
theorem cel_1 {G : zG} {ad : Nat → Nat → Nat} {T : Nat → Nat → Int} {k i : Nat} {fs : List Value} : cel G ad T k i ≠ eO 1 fs := by
  intro e
  unfold cel at e
  split at e <;> cases e
theorem cel_R {G : zG} {ad : Nat → Nat → Nat} {T : Nat → Nat → Int} {k i N : Nat} {c : ClassId} {f : Nat → Option Nat} : cel G ad T k i ≠ eR c N f := by
  intro e
  unfold cel at e
  split at e <;> cases e
/-- one cell changes -/
theorem CR.put {G : zG} {ad : Nat → Nat → Nat} {el : Nat → Nat} {T T' : Nat → Nat → Int} {h : zH} (R : CR G ad el T h) {k i : Nat} (hi : i < cN T (cG k)) (hn : ∀ g, cN T' g = cN T g) (hc : ∀ k' i', i' < cN T (cG k') → ¬ (k' = k ∧ i' = i) → cel G ad T' k' i' = cel G ad T k' i') {x : va_E} (hx : x = cel G ad T' k i) : CR G ad el T' (zput h (ad k i) x) := by
  subst hx
  obtain ⟨r1, r2, r3, r4⟩ := R
  refine ⟨fun k' i' hi' => ?_, fun k1 i1 k2 i2 h1 h2 => r2 k1 i1 k2 i2 (by rw [← hn]; exact h1) (by rw [← hn]; exact h2), fun q hq => ?_, fun q q' h1 h2 h3 => ⟨(r4 q q' h1 h2 h3).1, fun z1 z2 => (r4 q q' h1 h2 h3).2 (by rw [← hn]; exact z1) (by rw [← hn]; exact z2)⟩⟩
  · rw [hn] at hi'
    by_cases e : k' = k ∧ i' = i
    · obtain ⟨rfl, rfl⟩ := e
      exact zput_same _ _ _
    · rw [zput_ne _ _ (fun z => e (r2 k' i' k i hi' hi z)), hc k' i' hi' e]
      exact r1 k' i' hi'
  · rw [hn]
    have h0 := r1 k i hi
    refine (r3 q hq).up (fun z => ?_) (fun N f z => ?_)
    · obtain ⟨⟨m, ho⟩, -, -⟩ := r3 q hq
      rw [z, ho] at h0
      exact cel_1 (Option.some.inj h0).symm
    · rw [h0] at z
      exact cel_R (Option.some.inj z)
/-- more cells elsewhere -/
theorem CR.ext {G : zG} {ad : Nat → Nat → Nat} {el : Nat → Nat} {T : Nat → Nat → Int} {h h9 : zH} (R : CR G ad el T h) (hx : ∀ q x, h q = some x → h9 q = some x) : CR G ad el T h9 := by
  obtain ⟨r1, r2, r3, r4⟩ := R
  refine ⟨fun k i hi => hx _ _ (r1 k i hi), r2, fun q hq => ?_, r4⟩
  obtain ⟨⟨m, ho⟩, hne, hcs⟩ := r3 q hq
  refine ⟨⟨m, hx _ _ ho⟩, hne, ?_⟩
  rcases hcs with hcs | ⟨N, f, h0, hcs⟩
  · exact Or.inl hcs
  · exact Or.inr ⟨N, f, hx _ _ h0, hcs⟩
/-- the same club by other numbers -/
theorem CR.cong {G : zG} {ad : Nat → Nat → Nat} {el : Nat → Nat} {T T' : Nat → Nat → Int} {h : zH} (R : CR G ad el T h) (hn : ∀ g, cN T' g = cN T g) (hc : ∀ k i, i < cN T (cG k) → cel G ad T' k i = cel G ad T k i) : CR G ad el T' h := by
  obtain ⟨r1, r2, r3, r4⟩ := R
  refine ⟨fun k i hi => ?_, fun k1 i1 k2 i2 h1 h2 => r2 k1 i1 k2 i2 (by rw [← hn]; exact h1) (by rw [← hn]; exact h2), fun q hq => by rw [hn]; exact r3 q hq, fun q q' h1 h2 h3 => ⟨(r4 q q' h1 h2 h3).1, fun z1 z2 => (r4 q q' h1 h2 h3).2 (by rw [← hn]; exact z1) (by rw [← hn]; exact z2)⟩⟩
  rw [hn] at hi
  rw [hc k i hi]
  exact r1 k i hi
/-- addresses that the club owns -/
def cOwn (ad : Nat → Nat → Nat) (el : Nat → Nat) (T : Nat → Nat → Int) (q : Nat) : Prop := (∃ k i, i < cN T (cG k) ∧ q = ad k i) ∨ ∃ q', q' < 4 ∧ (q = ad 10 q' ∨ (0 < cN T q' ∧ q = el q'))
theorem CR.own {G : zG} {ad : Nat → Nat → Nat} {el : Nat → Nat} {T : Nat → Nat → Int} {h : zH} (R : CR G ad el T h) {q : Nat} (hq : cOwn ad el T q) : h q ≠ none := by
  rcases hq with ⟨k, i, hi, rfl⟩ | ⟨q', h4, rfl | ⟨hc, rfl⟩⟩
  · rw [R.1 k i hi]; exact fun z => by cases z
  · obtain ⟨⟨m, ho⟩, -, -⟩ := R.2.2.1 q' h4
    rw [ho]; exact fun z => by cases z
  · obtain ⟨-, -, hcs⟩ := R.2.2.1 q' h4
    rcases hcs with hcs | ⟨N, f, h0, -⟩
    · omega
    · rw [h0]; exact fun z => by cases z
theorem CR.new {G : zG} {ad : Nat → Nat → Nat} {el : Nat → Nat} {T : Nat → Nat → Int} {h : zH} (R : CR G ad el T h) {q : Nat} (hq : h q = none) : ¬ cOwn ad el T q := fun z => R.own z hq
theorem CR.keep {G : zG} {ad : Nat → Nat → Nat} {el : Nat → Nat} {T : Nat → Nat → Int} {h h9 : zH} (R : CR G ad el T h) (hk : ∀ q, cOwn ad el T q → h9 q = h q) : CR G ad el T h9 := by
  obtain ⟨r1, r2, r3, r4⟩ := R
  refine ⟨fun k i hi => by rw [hk _ (Or.inl ⟨k, i, hi, rfl⟩)]; exact r1 k i hi, r2, fun q hq => (r3 q hq).keep (hk _ (Or.inr ⟨q, hq, Or.inl rfl⟩)) (fun hc => hk _ (Or.inr ⟨q, hq, Or.inr ⟨hc, rfl⟩⟩)), r4⟩
theorem CR.out {G : zG} {ad : Nat → Nat → Nat} {el : Nat → Nat} {T : Nat → Nat → Int} {h : zH} (R : CR G ad el T h) {q : Nat} (hq : ¬ cOwn ad el T q) (x : va_E) : CR G ad el T (zput h q x) := R.keep (fun a ha => zput_ne _ _ (fun z => hq (by rw [← z]; exact ha)))
/-- one more in a list -/
def adN (ad : Nat → Nat → Nat) (g n : Nat) (nb : Nat → Nat) : Nat → Nat → Nat := fun k i => if cG k = g ∧ i = n then nb k else ad k i
theorem CR.add {G : zG} {ad : Nat → Nat → Nat} {el : Nat → Nat} {T T' : Nat → Nat → Int} {h h9 : zH} (R : CR G ad el T h) {g : Nat} (hg : g < 4) (nb : Nat → Nat)
    (hcnt : ∀ g', cN T' g' = cN T g' + if g' = g then 1 else 0)
    (hcel : ∀ k i, i < cN T (cG k) → cel G (adN ad g (cN T g) nb) T' k i = cel G ad T k i)
    (hfresh : ∀ k, cG k = g → ¬ cOwn ad el T (nb k)) (hnew : ∀ k, cG k = g → h (nb k) = some (cel G (adN ad g (cN T g) nb) T' k (cN T g)))
    (hdist : ∀ k k', cG k = g → cG k' = g → nb k = nb k' → k = k')
    (hpost : LPost G h h9 (ad 10 g) (el g) (cN T g) (nb (cL g)) (ad (cL g))) : ∃ el', CR G (adN ad g (cN T g) nb) el' T' h9 := by
  obtain ⟨r1, r2, r3, r4⟩ := R
  obtain ⟨e1, p1, p2, p3⟩ := hpost
  have hlo : ∀ q, q < 4 → h (ad 10 q) ≠ none := fun q hq => by
    obtain ⟨⟨m, ho⟩, -, -⟩ := r3 q hq
    rw [ho]; exact fun z => by cases z
  have hel : ∀ q, q < 4 → 0 < cN T q → h (el q) ≠ none ∧ ∀ k i, i < cN T (cG k) → ad k i ≠ el q := fun q hq hc => by
    obtain ⟨-, -, hcs⟩ := r3 q hq
    rcases hcs with hcs | ⟨N, f, h0, hcs⟩
    · omega
    · refine ⟨(by rw [h0]; exact fun z => by cases z), fun k i hi z => ?_⟩
      have := r1 k i hi
      rw [z, h0] at this
      exact cel_R (Option.some.inj this).symm
  have hlne : ∀ q, q < 4 → ∀ k i, i < cN T (cG k) → ad k i ≠ ad 10 q := fun q hq k i hi z => by
    obtain ⟨⟨m, ho⟩, -, -⟩ := r3 q hq
    have := r1 k i hi
    rw [z, ho] at this
    exact cel_1 (Option.some.inj this).symm
  have hold : ∀ k i, i < cN T (cG k) → adN ad g (cN T g) nb k i = ad k i := fun k i hi => by
    unfold adN
    rw [if_neg]
    rintro ⟨z1, z2⟩
    rw [z1] at hi
    omega
  have hnewad : ∀ k, cG k = g → adN ad g (cN T g) nb k (cN T g) = nb k := fun k hk => by
    unfold adN
    rw [if_pos ⟨hk, rfl⟩]
  have h10 : ∀ q, adN ad g (cN T g) nb 10 q = ad 10 q := fun q => by
    unfold adN
    rw [if_neg]
    rintro ⟨z1, -⟩
    have : cG 10 = 9 := rfl
    omega
  have hcase : ∀ k i, i < cN T' (cG k) → i < cN T (cG k) ∨ (cG k = g ∧ i = cN T g) := fun k i hi => by
    rw [hcnt] at hi
    by_cases c : cG k = g
    · rw [if_pos c] at hi
      rcases Nat.lt_or_ge i (cN T (cG k)) with z | z
      · exact Or.inl z
      · exact Or.inr ⟨c, by rw [c] at z hi; omega⟩
    · rw [if_neg c] at hi
      exact Or.inl hi
  have hfr : ∀ q, h q ≠ none → q ≠ ad 10 g → (q ≠ el g ∨ cN T g = 0) → h9 q = h q := fun q q1 q2 q3 => by
    rw [p3 q q2 q3 q1]
  have hnn : ∀ k i, i < cN T (cG k) → h (ad k i) ≠ none := fun k i hi => by rw [r1 k i hi]; exact fun z => by cases z
  refine ⟨fun q => if q = g then e1 else el q, fun k i hi => ?_, fun k i k' i' hi hi' e => ?_, fun q hq => ?_, fun q q' hq hq' hne => ?_⟩
  · rcases hcase k i hi with z | ⟨z1, rfl⟩
    · rw [hold k i z, hcel k i z, hfr _ (hnn k i z) (hlne g hg k i z) (by
        rcases Nat.eq_zero_or_pos (cN T g) with c | c
        · exact Or.inr c
        · exact Or.inl ((hel g hg c).2 k i z))]
      exact r1 k i z
    · have hf := hfresh k z1
      have hk := hnew k z1
      rw [hnewad k z1, p3 (nb k) (fun z => hf (Or.inr ⟨g, hg, Or.inl z⟩)) (by
        rcases Nat.eq_zero_or_pos (cN T g) with c | c
        · exact Or.inr c
        · exact Or.inl (fun z => hf (Or.inr ⟨g, hg, Or.inr ⟨c, z⟩⟩))) (by rw [hk]; exact fun z => by cases z)]
      exact hk
  · rcases hcase k i hi with z | ⟨z1, rfl⟩
    · rcases hcase k' i' hi' with z' | ⟨z1', rfl⟩
      · rw [hold k i z, hold k' i' z'] at e
        exact r2 k i k' i' z z' e
      · rw [hold k i z, hnewad k' z1'] at e
        exact absurd (Or.inl ⟨k, i, z, e.symm⟩) (hfresh k' z1')
    · rcases hcase k' i' hi' with z' | ⟨z1', rfl⟩
      · rw [hnewad k z1, hold k' i' z'] at e
        exact absurd (Or.inl ⟨k', i', z', e⟩) (hfresh k z1)
      · rw [hnewad k z1, hnewad k' z1'] at e
        exact ⟨hdist k k' z1 z1' e, rfl⟩
  · rw [h10, hcnt]
    dsimp only
    by_cases c : q = g
    · subst c
      rw [if_pos rfl, if_pos rfl]
      obtain ⟨w1, w2, w3⟩ := p1
      refine ⟨w1, w2, ?_⟩
      rcases w3 with w3 | ⟨N, f, w3, w4, w5, w6, w7⟩
      · exact Or.inl w3
      · refine Or.inr ⟨N, f, w3, w4, w5, w6, fun j hj => ?_⟩
        rw [w7 j hj]
        dsimp only
        by_cases c2 : j = cN T q
        · rw [if_pos c2]
          unfold adN
          have hcl : cG (cL q) = q := by
            have : q = 0 ∨ q = 1 ∨ q = 2 ∨ q = 3 := by omega
            rcases this with rfl | rfl | rfl | rfl <;> rfl
          rw [if_pos ⟨hcl, c2⟩]
        · rw [if_neg c2]
          unfold adN
          rw [if_neg (fun z => c2 z.2)]
    · rw [if_neg c, if_neg c, Nat.add_zero]
      have w := r3 q hq
      have e9 : ∀ j, adN ad g (cN T g) nb (cL q) j = ad (cL q) j := fun j => by
        unfold adN
        rw [if_neg]
        rintro ⟨z1, -⟩
        have hcl : cG (cL q) = q := by
          have : q = 0 ∨ q = 1 ∨ q = 2 ∨ q = 3 := by omega
          rcases this with rfl | rfl | rfl | rfl <;> rfl
        exact c (hcl.symm.trans z1)
      rw [show adN ad g (cN T g) nb (cL q) = ad (cL q) from funext e9]
      refine w.keep ?_ (fun hc => ?_)
      · exact hfr _ (hlo q hq) (r4 q g hq hg c).1 (by
          rcases Nat.eq_zero_or_pos (cN T g) with z | z
          · exact Or.inr z
          · refine Or.inl (fun y => ?_)
            obtain ⟨⟨m, ho⟩, -, -⟩ := r3 q hq
            obtain ⟨-, -, hcs⟩ := r3 g hg
            rcases hcs with hcs | ⟨N, f, h0, -⟩
            · omega
            · rw [y, h0] at ho; cases ho)
      · exact hfr _ (hel q hq hc).1 (fun y => by
          obtain ⟨-, w2, w3⟩ := r3 q hq
          obtain ⟨⟨m, ho⟩, -, -⟩ := r3 g hg
          rcases w3 with w3 | ⟨N, f, h0, -⟩
          · omega
          · rw [y, ho] at h0; cases h0) (by
          rcases Nat.eq_zero_or_pos (cN T g) with z | z
          · exact Or.inr z
          · exact Or.inl ((r4 q g hq hg c).2 hc z))
  · rw [h10, h10]
    refine ⟨(r4 q q' hq hq' hne).1, fun z1 z2 => ?_⟩
    rw [hcnt] at z1 z2
    have key : ∀ x, x < 4 → x ≠ g → 0 < cN T x → e1 ≠ el x := fun x hx hxg hc y => by
      have hx1 := (hel x hx hc).1
      rcases p2 with p2 | ⟨p2, p4⟩
      · rw [y] at p2
        exact hx1 p2
      · exact (r4 x g hx hg hxg).2 hc p4 (y.symm.trans p2)
    by_cases c : q = g
    · have c' : q' ≠ g := fun z => hne (c.trans z.symm)
      rw [if_neg c', Nat.add_zero] at z2
      dsimp only
      rw [if_pos c, if_neg c']
      exact key q' hq' c' z2
    · rw [if_neg c, Nat.add_zero] at z1
      by_cases c' : q' = g
      · dsimp only
        rw [if_neg c, if_pos c']
        exact Ne.symm (key q hq c z1)
      · rw [if_neg c', Nat.add_zero] at z2
        dsimp only
        rw [if_neg c, if_neg c']
        exact (r4 q q' hq hq' hne).2 z1 z2

