/-- a heap as a list: all cells below n -/
def zlist (h : zH) (n : Nat) : va_W := (List.range n).filterMap (fun q => (h q).map (fun e => (q, e)))
theorem zlist_mem {h : zH} {n : Nat} {q : Nat × va_E} : q ∈ zlist h n ↔ q.1 < n ∧ h q.1 = some q.2 := by
  constructor
  · intro hq
    obtain ⟨i, hi, he⟩ := List.mem_filterMap.mp hq
    cases hv : h i with
    | none => rw [hv] at he; cases he
    | some e => rw [hv] at he; cases he; exact ⟨List.mem_range.mp hi, hv⟩
  · intro hq
    exact List.mem_filterMap.mpr ⟨q.1, List.mem_range.mpr hq.1, by rw [hq.2]; rfl⟩
theorem zlist_nodup (h : zH) (n : Nat) : ((zlist h n).map (fun q => q.1)).Nodup := by
  induction n with
  | zero => exact List.nodup_nil
  | succ n ih =>
    unfold zlist at ih ⊢
    rw [List.range_succ, List.filterMap_append, List.map_append]
    refine List.nodup_append.mpr ⟨ih, ?_, ?_⟩
    · cases hv : h n with
      | none => simp [hv]
      | some e => simp [hv]
    · intro a ha b hb e
      obtain ⟨p, hp, rfl⟩ := List.mem_map.mp ha
      obtain ⟨q, hq, rfl⟩ := List.mem_map.mp hb
      have h1 := (zlist_mem.mp hp).1
      cases hv : h n with
      | none => simp [hv] at hq
      | some x => simp [hv] at hq; rw [hq] at e; simp at e; omega
theorem zlist_D {A : Nat → Prop} {h : zH} {n : Nat} (hd : ∀ q, h q ≠ none → A q) : va_D A (zlist h n) := by
  refine ⟨fun i j p q hi hj e => ?_, fun k q hk => ?_⟩
  · have hlt : i < ((zlist h n).map (fun q => q.1)).length := by rw [List.length_map]; exact (List.getElem?_eq_some_iff.mp hi).1
    refine (List.getElem?_inj hlt (zlist_nodup h n)).mp ?_
    rw [List.getElem?_map, List.getElem?_map, hi, hj]
    show some p.1 = some q.1
    rw [e]
  · have := (zlist_mem.mp (List.mem_of_getElem? hk)).2
    exact hd q.1 (by rw [this]; exact fun z => by cases z)
theorem zlist_P {D : va_G} {h : zH} {H : Heap} (hP : zHold D h H) (n : Nat) : va_P D vwCl (zlist h n) H := fun k q hk => hP q.1 q.2 (zlist_mem.mp (List.mem_of_getElem? hk)).2
theorem zlist_get {h : zH} {n a : Nat} {e : va_E} (ha : h a = some e) (hn : a < n) : ∃ i : Nat, (zlist h n)[i]? = some (a, e) := List.getElem?_of_mem (zlist_mem.mpr ⟨hn, ha⟩)
theorem zlist_set {D : va_G} {h : zH} {H H1 : Heap} (hP : zHold D h H) {i a : Nat} {e0 e : va_E} (hi : (zlist h H.size)[i]? = some (a, e0)) (h1 : va_P D vwCl ((zlist h H.size).set i (a, e)) H1) : zHold D (zput h a e) H1 := by
  intro q x hq
  by_cases c : q = a
  · subst c
    rw [zput_same] at hq
    cases hq
    exact h1 i (q, e) (by rw [List.getElem?_set_self (List.getElem?_eq_some_iff.mp hi).1])
  · rw [zput_ne h e c] at hq
    obtain ⟨j, hj⟩ := zlist_get hq (hP.lt hq)
    have hne : i ≠ j := fun z => by
      rw [z, hj] at hi
      have := Option.some.inj hi
      exact c (congrArg Prod.fst this)
    exact h1 j (q, x) (by rw [List.getElem?_set_ne hne]; exact hj)
theorem zlist_app {D : va_G} {h : zH} {H H1 : Heap} (hP : zHold D h H) {a : Nat} {e : va_E} (h1 : va_P D vwCl (zlist h H.size ++ [(a, e)]) H1) : zHold D (zput h a e) H1 := by
  intro q x hq
  by_cases c : q = a
  · subst c
    rw [zput_same] at hq
    cases hq
    exact h1 (zlist h H.size).length (q, e) (by rw [List.getElem?_append_right (Nat.le_refl _)]; simp)
  · rw [zput_ne h e c] at hq
    obtain ⟨j, hj⟩ := zlist_get hq (hP.lt hq)
    exact h1 j (q, x) (by rw [List.getElem?_append_left (List.getElem?_eq_some_iff.mp hj).1]; exact hj)

/-! rows that the JDK's own methods need -/
section ZR
variable {X : zX} {cc : ByteArray} {y : MethodName} {d : Nat} {pc : Nat} {l st : List Value} {h : zH} {k n : Nat}

theorem Z.null (C : ZC X cc y d) (hd : decode cc pc = .ok (.aconst_null, 1)) (kk : Z X (pc + 1) l (.null :: st) h k n) : Z X pc l st h k n := by
  obtain ⟨p, ln, e, R, s, m, args, below, meth, c, G, A, nL, Q⟩ := X
  obtain ⟨hx, hb, hml, hown, hts, hK, hBG, hA, hlk, hnm, hfr, hlo, htr⟩ := C
  intro H locs ls hP hS hdom hl
  exact lv_null hx hb hd (kk H locs ls hP hS hdom hl)
theorem Z.ldcI (C : ZC X cc y d) {i : Nat} {v : Int} (hc : Cond.constant y.cls i (jI v) ∈ zW) (hd : decode cc pc = .ok (.ldc i, 2)) (kk : Z X (pc + 2) l (vI v :: st) h k n) : Z X pc l st h k n := by
  obtain ⟨p, ln, e, R, s, m, args, below, meth, c, G, A, nL, Q⟩ := X
  obtain ⟨hx, hb, hml, hown, hts, hK, hBG, hA, hlk, hnm, hfr, hlo, htr⟩ := C
  intro H locs ls hP hS hdom hl
  exact lv_ldc hx hb hown (hts _ hc) hd (kk H locs ls hP hS hdom hl)
theorem Z.i2b (C : ZC X cc y d) {x z : Int} (hd : decode cc pc = .ok (.i2b, 1)) (hv : (jI x).toInt8.toInt32 = jI z) (kk : Z X (pc + 1) l (vI z :: st) h k n) : Z X pc l (vI x :: st) h k n := by
  obtain ⟨p, ln, e, R, s, m, args, below, meth, c, G, A, nL, Q⟩ := X
  obtain ⟨hx, hb, hml, hown, hts, hK, hBG, hA, hlk, hnm, hfr, hlo, htr⟩ := C
  intro H locs ls hP hS hdom hl
  exact lv_i2b hx hb hd hv (kk H locs ls hP hS hdom hl)
theorem Z.mmin (C : ZC X cc y d) {i : Nat} {x z : Int} (hlink : Cond.methodLink y.cls i Lib.Math.min.name ∈ zW) (hstat : Cond.static Lib.Math.min.name ∈ zW) (hini : Cond.initialized "java/lang/Math" ∈ zW) (hcode : Cond.code Lib.Math.min.name Lib.Math.min.code 2 (some .int) ∈ zW) (hd : decode cc pc = .ok (.invokestatic i, 3)) (hd1 : 1 ≤ d) (hcat : (st.map fun v => v.category).sum ≤ 8) (hk : k ≤ (zR_of X).cells) (hn : n ≤ (zR_of X).slots) (a1 : -2147483648 ≤ x) (a2 : x < 2147483648) (b1 : -2147483648 ≤ z) (b2 : z < 2147483648) (kk : Z X (pc + 3) l (vI (if z < x then z else x) :: st) h k n) : Z X pc l (vI z :: vI x :: st) h k n := by
  obtain ⟨p, ln, e, R, s, m, args, below, meth, c, G, A, nL, Q⟩ := X
  obtain ⟨hx, hb, hml, hown, hts, hK, hBG, hA, hlk, hnm, hfr, hlo, htr⟩ := C
  intro H locs ls hP hS hdom hl
  refine va_mmin hx hb (hml.trans hl.1.symm) hown (hts _ hlink) (hts _ hstat) (hts _ hini) (hts _ hcode) (Nat.le_trans hd1 hfr) (by omega) hk hn hd ?_
  have q := kk H locs ls hP hS hdom hl
  have e9 : jI (if z < x then z else x) = (if jI z < jI x then jI z else jI x) := by
    by_cases c9 : z < x
    · rw [if_pos c9, if_pos ((jI_lt b1 b2 a1 a2).mpr c9)]
    · rw [if_neg c9, if_neg (fun w => c9 ((jI_lt b1 b2 a1 a2).mp w))]
  unfold vI at q
  rw [e9] at q
  exact q
theorem Z.mmax (C : ZC X cc y d) {i : Nat} {x z : Int} (hlink : Cond.methodLink y.cls i Lib.Math.max.name ∈ zW) (hstat : Cond.static Lib.Math.max.name ∈ zW) (hini : Cond.initialized "java/lang/Math" ∈ zW) (hcode : Cond.code Lib.Math.max.name Lib.Math.max.code 2 (some .int) ∈ zW) (hd : decode cc pc = .ok (.invokestatic i, 3)) (hd1 : 1 ≤ d) (hcat : (st.map fun v => v.category).sum ≤ 8) (hk : k ≤ (zR_of X).cells) (hn : n ≤ (zR_of X).slots) (a1 : -2147483648 ≤ x) (a2 : x < 2147483648) (b1 : -2147483648 ≤ z) (b2 : z < 2147483648) (kk : Z X (pc + 3) l (vI (if x < z then z else x) :: st) h k n) : Z X pc l (vI z :: vI x :: st) h k n := by
  obtain ⟨p, ln, e, R, s, m, args, below, meth, c, G, A, nL, Q⟩ := X
  obtain ⟨hx, hb, hml, hown, hts, hK, hBG, hA, hlk, hnm, hfr, hlo, htr⟩ := C
  intro H locs ls hP hS hdom hl
  refine va_mmax hx hb (hml.trans hl.1.symm) hown (hts _ hlink) (hts _ hstat) (hts _ hini) (hts _ hcode) (Nat.le_trans hd1 hfr) (by omega) hk hn hd ?_
  have q := kk H locs ls hP hS hdom hl
  have e9 : jI (if x < z then z else x) = (if jI x < jI z then jI z else jI x) := by
    by_cases c9 : x < z
    · rw [if_pos c9, if_pos ((jI_lt a1 a2 b1 b2).mpr c9)]
    · rw [if_neg c9, if_neg (fun w => c9 ((jI_lt a1 a2 b1 b2).mp w))]
  unfold vI at q
  rw [e9] at q
  exact q
theorem Z.aastore (C : ZC X cc y d) {N a ci v : Nat} {r : vw_C} {f : Nat → Option Nat} {x : Int} {fs : List Value} (hd : decode cc pc = .ok (.aastore, 1)) (ho : h a = some (eR ((zG_of X).2.1 3) N f)) (hc : vwCl[ci]? = some r) (hcast : (r.1, "java/lang/Object") ∈ zCasts) (hv : h v = some (eO ci fs)) (h1 : 0 ≤ x) (h2 : x < N) (hN : N < 2147483648) (kk : Z X (pc + 1) l st (zput h a (eR ((zG_of X).2.1 3) N (va_up f x.toNat (some v)))) k n) : Z X pc l (.ref v :: vI x :: .ref a :: st) h k n := by
  obtain ⟨p, ln, e, R, s, m, args, below, meth, c, G, A, nL, Q⟩ := X
  obtain ⟨hx, hb, hml, hown, hts, hK, hBG, hA, hlk, hnm, hfr, hlo, htr⟩ := C
  intro H locs ls hP hS hdom hl
  have hAa : A a := zlook hdom ho
  obtain ⟨r', hr', cellV, g1, g2, g3, -⟩ := hP v _ hv
  have hrr : r' = r := Option.some.inj (hr'.symm.trans hc)
  subst hrr
  obtain ⟨kA, comp, k1, k2, k3, -⟩ := (hK.2 3 (G.2.1 3, .object "java/lang/Object") rfl).2
  obtain ⟨kE, hkE, -⟩ := Vm.findClass_spec k3
  obtain ⟨c0, t1, f1, f2, f3⟩ := Cond.castable_spec (va_Nw.use (A := args) rfl (hBG.2.2.2.2.2.2.2.2.2.2.2.2.2.2.1 _ hcast))
  have hcls := (hK.1 ci _ hc).2
  have e1 := Option.some.inj (hcls.1.symm.trans f1)
  have e2 := Option.some.inj (k3.symm.trans f2)
  subst e1; subst e2
  obtain ⟨kC, hkC, -⟩ := hcls.2
  have hlt : (jI x).toNatClampNeg < N := by rw [jI_clamp h1 (by omega)]; omega
  have h0 : ¬ jI x < 0 := fun q => (jI_in h1 h2 hN) (Or.inl q)
  refine W.aast hx hb (hP a _ ho) (fun q h => by cases h) (fun h => by cases h) k1 k2 rfl hkE ⟨h0, by show _ < (arrV _ _ _).slots.size; rw [arrV_size]; exact hlt⟩ g1 (fun q h => by rw [g3] at h; cases h) (by rw [g2]; exact hkC) (by rw [g2]; exact f3) rfl rfl hd fun H1 e9 z9 oq => ?_
  refine kk H1 _ ls (hP.put ?_ (fun q _ hq => oq q hq)) (hS.put z9 oq hAa) (zdom_put hdom hAa) hl
  show H1[a]? = some (vp_cell _ _)
  rw [e9, jI_clamp h1 (by omega)]
  show some (Cell.setSlot (arrV (G.2.1 3) N (fun j => va_rf (f j))) x.toNat (Value.ref v)) = some (arrV (G.2.1 3) N (fun j => va_rf (va_up f x.toNat (some v) j)))
  rw [arrV_store]
  congr 2
  funext q
  simp only [updV, va_up]
  by_cases hq : q = x.toNat
  · subst hq; simp [va_rf]
  · simp [hq]

theorem Z.newR (C : ZC X cc y d) {i N : Nat} {x : Int} (hlink : Cond.classLink y.cls i "java/lang/Object" ∈ zW) (hd : decode cc pc = .ok (.anewarray i, 3)) (hN : x = (N : Int)) (hb1 : N < 65536) (hk : k + 1 ≤ (zR_of X).cells) (hn : n + N ≤ (zR_of X).slots) (kk : ∀ a : Nat, h a = none → Z X (pc + 3) l (.ref a :: st) (zput h a (eR ((zG_of X).2.1 3) N (fun _ => none))) (k + 1) (n + N)) : Z X pc l (vI x :: st) h k n := by
  subst hN
  obtain ⟨p, ln, e, R, s, m, args, below, meth, c, G, A, nL, Q⟩ := X
  obtain ⟨hx, hb, hml, hown, hts, hK, hBG, hA, hlk, hnm, hfr, hlo, htr⟩ := C
  intro H locs ls hP hS hdom hl
  refine va_newq (N' := N) hx hb hown (hts _ hlink) hBG.2.2.2.2.2.2.2.2.2.2.2.2.2.1 hK (zlist_P hP H.size) (zlist_D hdom) hS hA (by rw [jI_nat]; exact nI_pos (by omega)) (by rw [jI_nat]; exact nI_clamp (by omega)) (by omega) hk hn hd ?_
  intro q cA H1 hK1 hP1 hD1 hS1
  have hcA : cA = G.2.1 3 := by
    obtain ⟨-, kA, comp, -, -, -, q4⟩ := hK.2 3 (G.2.1 3, .object "java/lang/Object") rfl
    obtain ⟨-, kA', comp', -, -, -, q4'⟩ := hK1.2 4 (cA, .object "java/lang/Object") rfl
    exact Option.some.inj (q4'.symm.trans q4)
  have hlast : ∀ (w : va_W) (z : Nat × va_E), (w ++ [z])[w.length]? = some z := fun w z => by rw [List.getElem?_append_right (Nat.le_refl _)]; simp
  have hq : h q = none := by
    cases hv : h q with
    | none => rfl
    | some e =>
      obtain ⟨j, hj⟩ := zlist_get hv (hP.lt hv)
      have hlt := (List.getElem?_eq_some_iff.mp hj).1
      have := hD1.1 j (zlist h H.size).length (q, e) (q, _) (by rw [List.getElem?_append_left hlt]; exact hj) (hlast _ _) rfl
      omega
  have hAq : A q := hD1.2 (zlist h H.size).length (q, _) (hlast _ _)
  subst hcA
  exact kk q hq H1 locs ls (zlist_app hP hP1) hS1 (zdom_put hdom hAq) hl
theorem Z.copyB (C : ZC X cc y d) {i a0 a1 n0 n1 : Nat} {f g : Nat → Int} {sp dp len : Int} (hlink : Cond.methodLink y.cls i arraycopyName ∈ zW) (hnat : Cond.native arraycopyName ∈ zW) (hstat : Cond.static arraycopyName ∈ zW) (hini : Cond.initialized "java/lang/System" ∈ zW) (hd : decode cc pc = .ok (.invokestatic i, 3)) (h0 : h a0 = some (eI ((zG_of X).2.1 2) n0 f)) (h1 : h a1 = some (eI ((zG_of X).2.1 2) n1 g)) (q1 : 0 ≤ sp) (q2 : 0 ≤ dp) (q3 : 0 ≤ len) (q4 : sp + len ≤ n0) (q5 : dp + len ≤ n1) (q6 : n0 < 65536) (q7 : n1 < 65536) (hfit : ∀ j, fits .byte (vI (f j)) = true) (hd1 : 2 ≤ d) (hcat : (st.map fun v => v.category).sum ≤ 8) (kk : Z X (pc + 3) l st (zput h a1 (eI ((zG_of X).2.1 2) n1 (va_cpy f g sp.toNat dp.toNat len.toNat))) k n) : Z X pc l (vI len :: vI dp :: .ref a1 :: vI sp :: .ref a0 :: st) h k n := by
  obtain ⟨p, ln, e, R, s, m, args, below, meth, c, G, A, nL, Q⟩ := X
  obtain ⟨hx, hb, hml, hown, hts, hK, hBG, hA, hlk, hnm, hfr, hlo, htr⟩ := C
  intro H locs ls hP hS hdom hl
  obtain ⟨i0, hi0⟩ := zlist_get h0 (hP.lt h0)
  obtain ⟨i1, hi1⟩ := zlist_get h1 (hP.lt h1)
  have c1 := jI_clamp q1 (a := sp) (by omega)
  have c2 := jI_clamp q2 (a := dp) (by omega)
  have c3 := jI_clamp q3 (a := len) (by omega)
  have ng : ∀ z : Int, 0 ≤ z → z < 65536 → ¬ jI z < 0 := fun z z1 z2 q => by
    have := (jI_lt (a := z) (b := 0) (by omega) (by omega) (by decide) (by decide)).mp q
    omega
  refine va_copyi (ty := .byte) (t0 := 2) (t1 := 2) hx hb (hml.trans hl.1.symm) hown (hts _ hlink) (hts _ hnat) (hts _ hstat) (hts _ hini) hK (zlist_P hP H.size) (zlist_D hdom) hS i0 i1 hi0 hi1 rfl rfl rfl (ng _ q1 (by omega)) (ng _ q2 (by omega)) (ng _ q3 (by omega)) (by rw [c1, c3]; omega) (by rw [c2, c3]; omega) (fun j _ => hfit _) (by omega) (by
    have : nativeFrameWords "java/lang/System" "arraycopy" 5 ≤ 30 := by decide +kernel
    omega) hd ?_
  intro H1 locs1 hP1 hD1 hS1
  have ec : va_cpy (fun j => jI (f j)) (fun j => jI (g j)) (jI sp).toNatClampNeg (jI dp).toNatClampNeg (jI len).toNatClampNeg = fun j => jI (va_cpy f g sp.toNat dp.toNat len.toNat j) := by
    rw [c1, c2, c3]
    funext j
    unfold va_cpy
    split <;> rfl
  rw [ec] at hP1
  exact kk H1 locs1 ls (zlist_set hP hi1 hP1) hS1 (zdom_put hdom (zlook hdom h1)) hl
theorem Z.copyR (C : ZC X cc y d) {i a0 a1 n0 n1 ci : Nat} {r : vw_C} {f g : Nat → Option Nat} {sp dp len : Int} (hlink : Cond.methodLink y.cls i arraycopyName ∈ zW) (hnat : Cond.native arraycopyName ∈ zW) (hstat : Cond.static arraycopyName ∈ zW) (hini : Cond.initialized "java/lang/System" ∈ zW) (hc : vwCl[ci]? = some r) (hcast : (r.1, "java/lang/Object") ∈ zCasts) (hd : decode cc pc = .ok (.invokestatic i, 3)) (h0 : h a0 = some (eR ((zG_of X).2.1 3) n0 f)) (h1 : h a1 = some (eR ((zG_of X).2.1 3) n1 g)) (q1 : 0 ≤ sp) (q2 : 0 ≤ dp) (q3 : 0 ≤ len) (q4 : sp + len ≤ n0) (q5 : dp + len ≤ n1) (q6 : n0 < 65536) (q7 : n1 < 65536) (hel : ∀ (j y : Nat), (j : Int) < sp + len → f j = some y → ∃ fs, h y = some (eO ci fs)) (hd1 : 2 ≤ d) (hcat : (st.map fun v => v.category).sum ≤ 8) (kk : Z X (pc + 3) l st (zput h a1 (eR ((zG_of X).2.1 3) n1 (va_cpy f g sp.toNat dp.toNat len.toNat))) k n) : Z X pc l (vI len :: vI dp :: .ref a1 :: vI sp :: .ref a0 :: st) h k n := by
  obtain ⟨p, ln, e, R, s, m, args, below, meth, c, G, A, nL, Q⟩ := X
  obtain ⟨hx, hb, hml, hown, hts, hK, hBG, hA, hlk, hnm, hfr, hlo, htr⟩ := C
  intro H locs ls hP hS hdom hl
  obtain ⟨i0, hi0⟩ := zlist_get h0 (hP.lt h0)
  obtain ⟨i1, hi1⟩ := zlist_get h1 (hP.lt h1)
  have c1 := jI_clamp q1 (a := sp) (by omega)
  have c2 := jI_clamp q2 (a := dp) (by omega)
  have c3 := jI_clamp q3 (a := len) (by omega)
  have ng : ∀ z : Int, 0 ≤ z → z < 65536 → ¬ jI z < 0 := fun z z1 z2 q => by
    have := (jI_lt (a := z) (b := 0) (by omega) (by omega) (by decide) (by decide)).mp q
    omega
  refine va_copyq (E0 := "java/lang/Object") (E1 := "java/lang/Object") (C := r.1) (t0 := 3) (t1 := 3) hx hb (hml.trans hl.1.symm) hown (hts _ hlink) (hts _ hnat) (hts _ hstat) (hts _ hini) hK (zlist_P hP H.size) (zlist_D hdom) hS i0 i1 hi0 hi1 rfl rfl (ng _ q1 (by omega)) (ng _ q2 (by omega)) (ng _ q3 (by omega)) (by rw [c1, c3]; omega) (by rw [c2, c3]; omega) (fun j hj z hz => ?_) (fun comp c0 e1 e2 => ?_) (by omega) (by
    have : nativeFrameWords "java/lang/System" "arraycopy" 5 ≤ 30 := by decide +kernel
    omega) hd ?_
  · rw [c1] at hz
    rw [c3] at hj
    obtain ⟨fs, hfs⟩ := hel (sp.toNat + j) z (by omega) hz
    exact va_recv hK (hP.one hfs) hc (q0 := 0) rfl
  · obtain ⟨c0', t1', f1, f2, f3⟩ := Cond.castable_spec (va_Nw.use (A := args) rfl (hBG.2.2.2.2.2.2.2.2.2.2.2.2.2.2.1 _ hcast))
    cases Option.some.inj (e2.symm.trans f1)
    cases Option.some.inj (e1.symm.trans f2)
    exact f3
  · intro H1 locs1 hP1 hD1 hS1
    rw [c1, c2, c3] at hP1
    exact kk H1 locs1 ls (zlist_set hP hi1 hP1) hS1 (zdom_put hdom (zlook hdom h1)) hl
theorem Z.ldcM (C : ZC X cc y d) {i : Nat} (hlink : Cond.classLink y.cls i "[Ljava/lang/Object;" ∈ zW) (hd : decode cc pc = .ok (.ldc i, 2)) (kk : Z X (pc + 2) l (.ref ((zG_of X).2.2 6) :: st) h k n) : Z X pc l st h k n := by
  obtain ⟨p, ln, e, R, s, m, args, below, meth, c, G, A, nL, Q⟩ := X
  obtain ⟨hx, hb, hml, hown, hts, hK, hBG, hA, hlk, hnm, hfr, hlo, htr⟩ := C
  intro H locs ls hP hS hdom hl
  exact va_ldcM hx hb hown (hts _ hlink) hBG.2.2.2.2.2.2.2.2.2.2.2.1 hd (kk H locs ls hP hS hdom hl)
theorem Z.siobe (C : ZC X cc y d) {i : Nat} (hlink : Cond.fieldLink y.cls i "jdk/internal/util/Preconditions" "SIOOBE_FORMATTER" "Ljava/util/function/BiFunction;" ∈ zW) (hd : decode cc pc = .ok (.getstatic i, 3)) (kk : ∀ v : Value, v.category = 1 → Z X (pc + 3) l (v :: st) h k n) : Z X pc l st h k n := by
  obtain ⟨p, ln, e, R, s, m, args, below, meth, c, G, A, nL, Q⟩ := X
  obtain ⟨hx, hb, hml, hown, hts, hK, hBG, hA, hlk, hnm, hfr, hlo, htr⟩ := C
  intro H locs ls hP hS hdom hl
  rcases hBG.2.2.2.2.2.2.2.2.2.2.1 with hz | ⟨t, hz⟩
  · exact va_gets hx hb hz hS hown (hts _ hlink) (fun _ q => q) hd (kk _ rfl H locs ls hP hS hdom hl)
  · exact va_gets hx hb hz hS hown (hts _ hlink) (fun _ q => q) hd (kk _ rfl H locs ls hP hS hdom hl)

/-- a super call -/
theorem Z.callP (C : ZC X cc y d) {index : Nat} {y2 : MethodName} {cc2 : ByteArray} {maxL d2 mc ms : Nat} {ret : Option FieldType} {as sk : List Value} {Qf : Option Value → zH → Prop} {ci N : Nat} {CN : String} {T : u_T} {fs : List Value} {b : Nat} (hlink : Cond.methodLink y.cls index y2 ∈ zW) (hini : Cond.initialized y2.cls ∈ zW) (hcode : Cond.code y2 cc2 maxL ret ∈ zW) (hne : y2.cls ≠ "java/lang/invoke/MethodHandle" ∧ y2.cls ≠ "java/lang/invoke/VarHandle") (hpar : (parseMethodDescriptor y2.desc).map (fun d => d.parameters.length) = some as.length) (hmaxL : maxL ≤ 19) (hc : vwCl[ci]? = some (CN, T, N)) (hsm : Cond.sameMethod y2.cls y2.cls y2.name y2.desc ∈ zW) (hsup : Cond.superclass y.cls y2.cls ∈ zW) (hinst : Cond.instanceMethod y2 ∈ zW) (hno : y2.name ≠ "<init>") (hd : decode cc pc = .ok (.invokespecial index, 3)) (ho : h b = some (eO ci fs)) (hct : CT (zLn X) (zG_of X) y2 cc2 maxL ret d2 (.ref b :: as) h mc ms Qf zNo) (hsk : as.reverse ++ .ref b :: st = sk) (hd2 : d2 + 1 ≤ d) (hcat : (st.map fun v => v.category).sum ≤ 8) (hk : k + mc ≤ (zR_of X).cells) (hn : n + ms ≤ (zR_of X).slots) (kk : ∀ (v : Option Value) (h' : zH), Qf v h' → Z X (pc + 3) l (v.toList ++ st) h' (k + mc) (n + ms)) : Z X pc l sk h k n := by
  subst hsk
  obtain ⟨p, ln, e, R, s, m, args, below, meth, c, G, A, nL, Q⟩ := X
  obtain ⟨hx, hb, hml, hown, hts, hK, hBG, hA, hlk, hnm, hfr, hlo, htr⟩ := C
  intro H locs ls hP hS hdom hl
  have hfr2 : (zRm d2 mc ms).frames + 1 ≤ R.frames := Nat.le_trans hd2 hfr
  have hlo2 : 8 + (maxL + 11) + (zRm d2 mc ms).locals ≤ R.locals := by
    refine Nat.le_trans ?_ hlo
    show 8 + (maxL + 11) + 38 * d2 ≤ 38 * d
    omega
  have hplen : ∀ sig, parseMethodDescriptor y2.desc = some sig → as.length = sig.parameters.length := fun sig q => by
    rw [q] at hpar
    exact (Option.some.inj hpar).symm
  have hcb : CallB R s args y.cls index y2 cc2 maxL ret (Cond.code y2 cc2 maxL ret :: zW) (zRm d2 mc ms) mc ms as.length := ⟨rfl, rfl, hfr2, hlo2, zPay hts hcode, List.mem_cons_self, hts _ hcode, hts _ hini, hne, hplen, hts _ hlink⟩
  have hfix : CallFix p m c cc nL s args zW y.cls := ⟨hx, hb, hml, hown, hts⟩
  refine zRunEnd (Xf := zNo) hS hdom hA hl (zRun_of (va_runSU (hK.1 ci _ hc).2 hfix (zMet (hct H.size) zNo_c) ⟨⟨rfl, rfl, hfr2, hlo2, zPay hts hcode, List.mem_cons_self⟩, hts _ hlink, hts _ hsm, hts _ hsup, hts _ hinst, hts _ hini, hts _ hcode, hno, hplen⟩ ⟨zPc_blind _ _ _ _, va_recv hK (hP.one ho) hc (q0 := 0) rfl, fun U hU hW => zSeen (args := args) hS hdom hA hP hK hBG hU hW⟩ rfl rfl hl.1 rfl (lv_room hcat) hd ⟨hk, hn⟩)) kk (fun E h' q => q.elim)
/-- a virtual call of an inherited method of the class itself (selected by a word), the receiver of a class below -/
theorem Z.callU (C : ZC X cc y d) {index : Nat} {y2 : MethodName} {cc2 : ByteArray} {maxL d2 mc ms : Nat} {ret : Option FieldType} {as sk : List Value} {Qf : Option Value → zH → Prop} {ci N : Nat} {CN : String} {T : u_T} {fs : List Value} {b : Nat} (hlink : Cond.methodLink y.cls index y2 ∈ zW) (hini : Cond.initialized y2.cls ∈ zW) (hcode : Cond.code y2 cc2 maxL ret ∈ zW) (hne : y2.cls ≠ "java/lang/invoke/MethodHandle" ∧ y2.cls ≠ "java/lang/invoke/VarHandle") (hpar : (parseMethodDescriptor y2.desc).map (fun d => d.parameters.length) = some as.length) (hmaxL : maxL ≤ 19) (hc : vwCl[ci]? = some (CN, T, N)) (hsm : Cond.sameMethod y2.cls y2.cls y2.name y2.desc ∈ zW) (hsel : Cond.selects CN y2 y2 ∈ zW ∨ (CN = "java/lang/StringBuilder" ∧ y2 ∈ zSels)) (hinst : Cond.instanceMethod y2 ∈ zW) (hd : decode cc pc = .ok (.invokevirtual index, 3)) (ho : h b = some (eO ci fs)) (hct : CT (zLn X) (zG_of X) y2 cc2 maxL ret d2 (.ref b :: as) h mc ms Qf zNo) (hsk : as.reverse ++ .ref b :: st = sk) (hd2 : d2 + 1 ≤ d) (hcat : (st.map fun v => v.category).sum ≤ 8) (hk : k + mc ≤ (zR_of X).cells) (hn : n + ms ≤ (zR_of X).slots) (kk : ∀ (v : Option Value) (h' : zH), Qf v h' → Z X (pc + 3) l (v.toList ++ st) h' (k + mc) (n + ms)) : Z X pc l sk h k n := by
  subst hsk
  obtain ⟨p, ln, e, R, s, m, args, below, meth, c, G, A, nL, Q⟩ := X
  obtain ⟨hx, hb, hml, hown, hts, hK, hBG, hA, hlk, hnm, hfr, hlo, htr⟩ := C
  intro H locs ls hP hS hdom hl
  have hfr2 : (zRm d2 mc ms).frames + 1 ≤ R.frames := Nat.le_trans hd2 hfr
  have hlo2 : 8 + (maxL + 11) + (zRm d2 mc ms).locals ≤ R.locals := by
    refine Nat.le_trans ?_ hlo
    show 8 + (maxL + 11) + 38 * d2 ≤ 38 * d
    omega
  have hplen : ∀ sig, parseMethodDescriptor y2.desc = some sig → as.length = sig.parameters.length := fun sig q => by
    rw [q] at hpar
    exact (Option.some.inj hpar).symm
  have hcb : CallB R s args y.cls index y2 cc2 maxL ret (Cond.code y2 cc2 maxL ret :: zW) (zRm d2 mc ms) mc ms as.length := ⟨rfl, rfl, hfr2, hlo2, zPay hts hcode, List.mem_cons_self, hts _ hcode, hts _ hini, hne, hplen, hts _ hlink⟩
  have hfix : CallFix p m c cc nL s args zW y.cls := ⟨hx, hb, hml, hown, hts⟩
  refine zRunEnd (Xf := zNo) hS hdom hA hl (zRun_of (va_runV (C := CN) hfix (zMet (hct H.size) zNo_c) ⟨hcb, hts _ hinst, (by
    rcases hsel with hsel | ⟨rfl, hsel⟩
    · exact hts _ hsel
    · exact word_at (State.WarmedH.refl s) (good_of_word rfl) (hBG.2.2.2.2.2.2.2.2.2.2.2.2.2.2.2.2.1 _ hsel))⟩ ⟨zPc_blind _ _ _ _, va_recv hK (hP.one ho) hc (q0 := 0) rfl, fun U hU hW => zSeen (args := args) hS hdom hA hP hK hBG hU hW⟩ rfl rfl hl.1 rfl (lv_room hcat) hd ⟨hk, hn⟩)) kk (fun E h' q => q.elim)
/-- Object.getClass of an array of Objects -/
theorem Z.getC (C : ZC X cc y d) {i a N : Nat} {f : Nat → Option Nat} (hlink : Cond.methodLink y.cls i ⟨"java/lang/Object", "getClass", "()Ljava/lang/Class;"⟩ ∈ zW) (hsel : Cond.selects "[Ljava/lang/Object;" ⟨"java/lang/Object", "getClass", "()Ljava/lang/Class;"⟩ ⟨"java/lang/Object", "getClass", "()Ljava/lang/Class;"⟩ ∈ zW) (hinst : Cond.instanceMethod ⟨"java/lang/Object", "getClass", "()Ljava/lang/Class;"⟩ ∈ zW) (hnat : Cond.native ⟨"java/lang/Object", "getClass", "()Ljava/lang/Class;"⟩ ∈ zW) (hd : decode cc pc = .ok (.invokevirtual i, 3)) (ho : h a = some (eR ((zG_of X).2.1 3) N f)) (hd1 : 1 ≤ d) (hcat : (st.map fun v => v.category).sum ≤ 8) (kk : Z X (pc + 3) l (.ref ((zG_of X).2.2 6) :: st) h k n) : Z X pc l (.ref a :: st) h k n := by
  obtain ⟨p, ln, e, R, s, m, args, below, meth, c, G, A, nL, Q⟩ := X
  obtain ⟨hx, hb, hml, hown, hts, hK, hBG, hA, hlk, hnm, hfr, hlo, htr⟩ := C
  intro H locs ls hP hS hdom hl
  refine va_getC (C := "[Ljava/lang/Object;") hx hb (hml.trans hl.1.symm) hown (hts _ hlink) (va_Dc.use hBG.2.2.2.2.2.2.2.2.2.2.2.2.1) (hts _ hsel) (hts _ hinst) (hts _ hnat) hBG.2.2.2.2.2.2.2.2.2.2.2.1 ⟨_, hP a _ ho, rfl, ?_⟩ (Nat.le_trans hd1 hfr) (by omega) hd (kk H locs ls hP hS hdom hl)
  obtain ⟨-, kA, comp, -, -, -, q4⟩ := hK.2 3 (G.2.1 3, .object "java/lang/Object") rfl
  have e9 : "[" ++ (FieldType.object "java/lang/Object").toString = "[Ljava/lang/Object;" := by decide +kernel
  rw [e9] at q4
  exact q4

end ZR
