theorem zdom_put {A : Nat → Prop} {h : zH} {a : Nat} {e : va_E} (hd : ∀ q, h q ≠ none → A q) (ha : A a) : ∀ q, zput h a e q ≠ none → A q := by
  intro q hq
  by_cases z : q = a
  · rw [z]; exact ha
  · rw [zput_ne h e z] at hq; exact hd q hq
theorem zlook {A : Nat → Prop} {h : zH} {a : Nat} {e : va_E} (hdom : ∀ q, h q ≠ none → A q) (ho : h a = some e) : A a := hdom a (by rw [ho]; exact fun q => by cases q)
theorem va_S.new {A : Nat → Prop} {H0 H H1 : Heap} {locs : List Loc} (h : va_S A H0 H locs) (z : H1.size = H.size + 1) (o1 : ∀ q : Nat, q < H.size → H1[q]? = H[q]?) : va_S A H0 H1 locs :=
  ⟨Nat.le_trans h.1 (by omega), fun x h1 h2 => (o1 x (Nat.lt_of_lt_of_le h1 h.1)).trans (h.2.1 x h1 h2), h.2.2⟩
theorem jI_upd (f : Nat → Int) (i : Nat) (x : Int) : upd (fun j => jI (f j)) i (jI x) = fun j => jI (va_up f i x j) := by
  funext j
  unfold upd va_up
  split <;> rfl

section ZR
variable {X : zX} {cc : ByteArray} {y : MethodName} {d : Nat} {pc : Nat} {l st : List Value} {h : zH} {k n : Nat}

theorem Z.getf (C : ZC X cc y d) {ci index kf N : Nat} {CN ref : String} {T : u_T} {fs : List Value} {v : Value} {a : Nat} (hc : vwCl[ci]? = some (CN, T, N)) (hin : ∀ w ∈ u_ws CN T N, w ∈ zW) (hk : kf < N) (hlink : Cond.fieldLink y.cls index ref (T kf).2.1 (T kf).2.2.1 ∈ zW) (hsame : (T kf).1 = ref ∨ Cond.sameField ref (T kf).1 (T kf).2.1 (T kf).2.2.1 ∈ zW) (hd : decode cc pc = .ok (.getfield index, 3)) (ho : h a = some (eO ci fs)) (hv : fs[kf]? = some v) (kk : Z X (pc + 3) l (v :: st) h k n) : Z X pc l (.ref a :: st) h k n := by
  obtain ⟨p, ln, e, R, s, m, args, below, meth, c, G, A, nL, Q⟩ := X
  obtain ⟨hx, hb, hml, hown, hts, hK, hBG, hA, hlk, hnm, hfr, hlo, htr⟩ := C
  intro H locs ls hP hS hdom hl
  refine va_get hx hb hts hin hown hK (hP.one ho) 0 rfl hc kf hk (hts _ hlink) ?_ hv hd (kk H locs ls hP hS hdom hl)
  rcases hsame with rfl | hw
  · exact fun _ q => q
  · exact fun z q => u_same (hts _ hw) z q

theorem Z.putf (C : ZC X cc y d) {ci index kf N : Nat} {CN ref : String} {T : u_T} {ty0 : Nat → FieldType} {fs fs' : List Value} {v : Value} {a : Nat} (hc : vwCl[ci]? = some (CN, T, N)) (hin : ∀ w ∈ u_ws CN T N, w ∈ zW) (hty : ∀ k, k < N → parseFieldDescriptor (T k).2.2.1 = some (ty0 k)) (hnmT : ∀ a, a < N → ∀ b, b < N → a ≠ b → (T a).2.1 ≠ (T b).2.1) (hk : kf < N) (hlink : Cond.fieldLink y.cls index ref (T kf).2.1 (T kf).2.2.1 ∈ zW) (hsame : (T kf).1 = ref ∨ Cond.sameField ref (T kf).1 (T kf).2.1 (T kf).2.2.1 ∈ zW) (hfin : (T kf).2.2.2 = false) (hd : decode cc pc = .ok (.putfield index, 3)) (hn : narrow (ty0 kf) v = v) (hfit : fits (ty0 kf) v = true) (ho : h a = some (eO ci fs)) (hlen : kf < fs.length) (hfs : fs.set kf v = fs') (kk : Z X (pc + 3) l st (zput h a (eO ci fs')) k n) : Z X pc l (v :: .ref a :: st) h k n := by
  subst hfs
  obtain ⟨p, ln, e, R, s, m, args, below, meth, c, G, A, nL, Q⟩ := X
  obtain ⟨hx, hb, hml, hown, hts, hK, hBG, hA, hlk, hnm, hfr, hlo, htr⟩ := C
  intro H locs ls hP hS hdom hl
  have hAa : A a := zlook hdom ho
  have hap := va_apart (own := y.cls) hts hin ty0 hty hnmT hK hc
  obtain ⟨r, h1, cell, q1, q2, q3, q4⟩ := hP a _ ho
  have hr : r = (CN, T, N) := Option.some.inj (h1.symm.trans hc)
  subst hr
  obtain ⟨hSl, hfc, kC, hkC, hkind⟩ := hK.1 ci _ hc
  obtain ⟨cf, kf9, fi, f, hi, hsl⟩ := hSl kf hk
  have hsm : ∀ x, s.fieldFound? (T kf).1 (T kf).2.1 (T kf).2.2.1 = some x → s.fieldFound? ref (T kf).2.1 (T kf).2.2.1 = some x := by
    rcases hsame with rfl | hw
    · exact fun _ q => q
    · exact fun z q => u_same (hts _ hw) z q
  have hlay := hts _ (hin _ (u_in_lay hk))
  unfold u_lay at hlay
  rw [if_neg (by rw [hfin]; decide)] at hlay
  have hst := (u_facts hfc hkC (u_lays hts hin hk) hi).1
  have h6 := u_store hfc hkC hkind hlay hi (hty kf hk) hn hfit
  refine W.putK hx hb (f := f) ⟨hown, hts _ hlink, ⟨_, _, _, hsm _ hi⟩, hst⟩ (by rw [q2]; exact h6) q1 q3 (by rw [hsl]; exact k2_hasslot (q4 kf hk)) rfl rfl hd fun H1 e1 e2 e3 => ?_
  rw [hsl] at e1 ⊢
  refine kk H1 _ ls (hP.put ⟨_, hc, t_OB.to (V := updV (vp_V fs) kf v) ⟨_, e1, q2, q3, t_set q4 hap hk v⟩ (fun j _ => vp_updV_set hlen v j)⟩ (fun q _ hq => e3 q hq)) (hS.put e2 e3 hAa) (zdom_put hdom hAa) hl

theorem Z.putF (C : ZC X cc y d) {ci index kf N : Nat} {CN ref : String} {T : u_T} {ty0 : Nat → FieldType} {fs fs' : List Value} {v : Value} {a : Nat} (hc : vwCl[ci]? = some (CN, T, N)) (hin : ∀ w ∈ u_ws CN T N, w ∈ zW) (hty : ∀ k, k < N → parseFieldDescriptor (T k).2.2.1 = some (ty0 k)) (hnmT : ∀ a, a < N → ∀ b, b < N → a ≠ b → (T a).2.1 ≠ (T b).2.1) (hk : kf < N) (hlink : Cond.fieldLink y.cls index ref (T kf).2.1 (T kf).2.2.1 ∈ zW) (hsame : (T kf).1 = ref ∨ Cond.sameField ref (T kf).1 (T kf).2.1 (T kf).2.2.1 ∈ zW) (hfin : (T kf).2.2.2 = true) (hin2 : y.name = "<init>") (hdecl : (T kf).1 = y.cls) (hd : decode cc pc = .ok (.putfield index, 3)) (hn : narrow (ty0 kf) v = v) (hfit : fits (ty0 kf) v = true) (ho : h a = some (eO ci fs)) (hlen : kf < fs.length) (hfs : fs.set kf v = fs') (kk : Z X (pc + 3) l st (zput h a (eO ci fs')) k n) : Z X pc l (v :: .ref a :: st) h k n := by
  subst hfs
  obtain ⟨p, ln, e, R, s, m, args, below, meth, c, G, A, nL, Q⟩ := X
  obtain ⟨hx, hb, hml, hown, hts, hK, hBG, hA, hlk, hnm, hfr, hlo, htr⟩ := C
  intro H locs ls hP hS hdom hl
  have hAa : A a := zlook hdom ho
  have hap := va_apart (own := y.cls) hts hin ty0 hty hnmT hK hc
  obtain ⟨r, h1, cell, q1, q2, q3, q4⟩ := hP a _ ho
  have hr : r = (CN, T, N) := Option.some.inj (h1.symm.trans hc)
  subst hr
  obtain ⟨hSl, hfc, kC, hkC, hkind⟩ := hK.1 ci _ hc
  obtain ⟨cf, kf9, fi, f, hi, hsl⟩ := hSl kf hk
  have hsm : ∀ x, s.fieldFound? (T kf).1 (T kf).2.1 (T kf).2.2.1 = some x → s.fieldFound? ref (T kf).2.1 (T kf).2.2.1 = some x := by
    rcases hsame with rfl | hw
    · exact fun _ q => q
    · exact fun z q => u_same (hts _ hw) z q
  have hlay := hts _ (hin _ (u_in_lay hk))
  unfold u_lay at hlay
  rw [if_pos hfin] at hlay
  have hst := (u_facts hfc hkC (u_lays hts hin hk) hi).1
  have hcf : m.cls = cf := by
    obtain ⟨_, _, c', _, _, _, -, -, hf', -, -, -, hown2, -⟩ := Cond.laysFinal_spec hlay
    have e1 : c' = cf := by have := hi.symm.trans hf'; simp at this; exact this.1.symm
    rw [hdecl] at hown2
    rw [← e1]; exact Option.some.inj (hown.symm.trans hown2)
  have h6 := u_fits hfc hkC hkind (Or.inr hlay) hi (hty kf hk) hn hfit
  refine W.putFinK hx hb hown (hts _ hlink) (hsm _ hi) hst hcf (hnm.trans hin2) (by rw [q2]; exact h6) q1 q3 (by rw [hsl]; exact k2_hasslot (q4 kf hk)) rfl rfl hd fun H1 e1 e2 e3 => ?_
  rw [hsl] at e1 ⊢
  refine kk H1 _ ls (hP.put ⟨_, hc, t_OB.to (V := updV (vp_V fs) kf v) ⟨_, e1, q2, q3, t_set q4 hap hk v⟩ (fun j _ => vp_updV_set hlen v j)⟩ (fun q _ hq => e3 q hq)) (hS.put e2 e3 hAa) (zdom_put hdom hAa) hl

theorem Z.new (C : ZC X cc y d) {ci index N : Nat} {CN : String} {T : u_T} {ty0 : Nat → FieldType} {fs : List Value} (hc : vwCl[ci]? = some (CN, T, N)) (hin : ∀ w ∈ u_ws CN T N, w ∈ zW) (hty : ∀ k, k < N → parseFieldDescriptor (T k).2.2.1 = some (ty0 k)) (hcl : Cond.classLink y.cls index CN ∈ zW) (hinst : Cond.instantiable CN N ∈ zW) (hini : Cond.initialized CN ∈ zW) (hfs : ∀ j, j < N → defaultValue (ty0 j) = vp_V fs j) (hd : decode cc pc = .ok (.new index, 3)) (hk : k + 1 ≤ (zR_of X).cells) (hn : n + N ≤ (zR_of X).slots) (kk : ∀ a : Nat, h a = none → Z X (pc + 3) l (.ref a :: st) (zput h a (eO ci fs)) (k + 1) (n + N)) : Z X pc l st h k n := by
  obtain ⟨p, ln, e, R, s, m, args, below, meth, c, G, A, nL, Q⟩ := X
  obtain ⟨hx, hb, hml, hown, hts, hK, hBG, hA, hlk, hnm, hfr, hlo, htr⟩ := C
  intro H locs ls hP hS hdom hl
  have hKn := hK.1 ci _ hc
  refine W.newcK hx hb hown (hts _ hcl) (hts _ hinst) (hts _ hini) rfl hd hk hn hKn.2.1 rfl fun H1 kC hkC e1 z1 o1 => ?_
  have hAa : A H.size := hA _ hS.1
  exact kk H.size hP.fresh H1 locs ls (hP.put ⟨_, hc, (u_born ty0 hts hin hKn hkC e1 hty).to hfs⟩ (fun q hq _ => o1 q hq)) (hS.new z1 o1) (zdom_put hdom hAa) hl

theorem Z.newI (C : ZC X cc y d) {N : Nat} {x : Int} (harr : Cond.arrayClass .int ∈ zW) (hd : decode cc pc = .ok (.newarray .int, 2)) (hN : x = (N : Int)) (hb1 : N < 65536) (hk : k + 1 ≤ (zR_of X).cells) (hn : n + N ≤ (zR_of X).slots) (kk : ∀ a : Nat, h a = none → Z X (pc + 2) l (.ref a :: st) (zput h a (eI ((zG_of X).2.1 0) N (fun _ => 0))) (k + 1) (n + N)) : Z X pc l (vI x :: st) h k n := by
  subst hN
  obtain ⟨p, ln, e, R, s, m, args, below, meth, c, G, A, nL, Q⟩ := X
  obtain ⟨hx, hb, hml, hown, hts, hK, hBG, hA, hlk, hnm, hfr, hlo, htr⟩ := C
  intro H locs ls hP hS hdom hl
  refine va_newaK (atype := .int) (N := N) hx hb (hts _ harr) rfl hd rfl ?_ ?_ ?_ hk hn rfl fun H1 cA e1 z1 o1 hAr hNm => ?_
  · rw [jI_nat]; exact nI_pos (by omega)
  · rw [jI_nat]; exact nI_clamp (by omega)
  · show N * _ ≤ _
    have : componentBytes (newarray.typeOf .int) ≤ 8 := by decide
    exact Nat.le_trans (Nat.mul_le_mul (Nat.le_of_lt hb1) this) (by decide)
  · have hcA : cA = G.2.1 0 := by
      have q := (hK.2 0 (G.2.1 0, .int) rfl).2
      exact Option.some.inj (hNm.symm.trans q)
    have hAa : A H.size := hA _ hS.1
    refine kk H.size hP.fresh H1 locs ls (hP.put ?_ (fun q hq _ => o1 q hq)) (hS.new z1 o1) (zdom_put hdom hAa) hl
    show H1[H.size]? = some (vp_cell _ _)
    rw [vp_cell_i, e1, hcA]
    rfl

theorem Z.newZ (C : ZC X cc y d) {N : Nat} {x : Int} (harr : Cond.arrayClass .boolean ∈ zW) (hd : decode cc pc = .ok (.newarray .boolean, 2)) (hN : x = (N : Int)) (hb1 : N < 65536) (hk : k + 1 ≤ (zR_of X).cells) (hn : n + N ≤ (zR_of X).slots) (kk : ∀ a : Nat, h a = none → Z X (pc + 2) l (.ref a :: st) (zput h a (eI ((zG_of X).2.1 1) N (fun _ => 0))) (k + 1) (n + N)) : Z X pc l (vI x :: st) h k n := by
  subst hN
  obtain ⟨p, ln, e, R, s, m, args, below, meth, c, G, A, nL, Q⟩ := X
  obtain ⟨hx, hb, hml, hown, hts, hK, hBG, hA, hlk, hnm, hfr, hlo, htr⟩ := C
  intro H locs ls hP hS hdom hl
  refine va_newaK (atype := .boolean) (N := N) hx hb (hts _ harr) rfl hd rfl ?_ ?_ ?_ hk hn rfl fun H1 cA e1 z1 o1 hAr hNm => ?_
  · rw [jI_nat]; exact nI_pos (by omega)
  · rw [jI_nat]; exact nI_clamp (by omega)
  · show N * _ ≤ _
    have : componentBytes (newarray.typeOf .boolean) ≤ 8 := by decide
    exact Nat.le_trans (Nat.mul_le_mul (Nat.le_of_lt hb1) this) (by decide)
  · have hcA : cA = G.2.1 1 := by
      have q := (hK.2 1 (G.2.1 1, .boolean) rfl).2
      exact Option.some.inj (hNm.symm.trans q)
    have hAa : A H.size := hA _ hS.1
    refine kk H.size hP.fresh H1 locs ls (hP.put ?_ (fun q hq _ => o1 q hq)) (hS.new z1 o1) (zdom_put hdom hAa) hl
    show H1[H.size]? = some (vp_cell _ _)
    rw [vp_cell_i, e1, hcA]
    rfl

theorem Z.newB (C : ZC X cc y d) {N : Nat} {x : Int} (harr : Cond.arrayClass .byte ∈ zW) (hd : decode cc pc = .ok (.newarray .byte, 2)) (hN : x = (N : Int)) (hb1 : N < 65536) (hk : k + 1 ≤ (zR_of X).cells) (hn : n + N ≤ (zR_of X).slots) (kk : ∀ a : Nat, h a = none → Z X (pc + 2) l (.ref a :: st) (zput h a (eI ((zG_of X).2.1 2) N (fun _ => 0))) (k + 1) (n + N)) : Z X pc l (vI x :: st) h k n := by
  subst hN
  obtain ⟨p, ln, e, R, s, m, args, below, meth, c, G, A, nL, Q⟩ := X
  obtain ⟨hx, hb, hml, hown, hts, hK, hBG, hA, hlk, hnm, hfr, hlo, htr⟩ := C
  intro H locs ls hP hS hdom hl
  refine va_newaK (atype := .byte) (N := N) hx hb (hts _ harr) rfl hd rfl ?_ ?_ ?_ hk hn rfl fun H1 cA e1 z1 o1 hAr hNm => ?_
  · rw [jI_nat]; exact nI_pos (by omega)
  · rw [jI_nat]; exact nI_clamp (by omega)
  · show N * _ ≤ _
    have : componentBytes (newarray.typeOf .byte) ≤ 8 := by decide
    exact Nat.le_trans (Nat.mul_le_mul (Nat.le_of_lt hb1) this) (by decide)
  · have hcA : cA = G.2.1 2 := by
      have q := (hK.2 2 (G.2.1 2, .byte) rfl).2
      exact Option.some.inj (hNm.symm.trans q)
    have hAa : A H.size := hA _ hS.1
    refine kk H.size hP.fresh H1 locs ls (hP.put ?_ (fun q hq _ => o1 q hq)) (hS.new z1 o1) (zdom_put hdom hAa) hl
    show H1[H.size]? = some (vp_cell _ _)
    rw [vp_cell_i, e1, hcA]
    rfl

theorem Z.iaload (C : ZC X cc y d) {N a : Nat} {f : Nat → Int} {x : Int} (hd : decode cc pc = .ok (.iaload, 1)) (ho : h a = some (eI ((zG_of X).2.1 0) N f)) (h1 : 0 ≤ x) (h2 : x < N) (hN : N < 2147483648) (kk : Z X (pc + 1) l (vI (f x.toNat) :: st) h k n) : Z X pc l (vI x :: .ref a :: st) h k n := by
  obtain ⟨p, ln, e, R, s, m, args, below, meth, c, G, A, nL, Q⟩ := X
  obtain ⟨hx, hb, hml, hown, hts, hK, hBG, hA, hlk, hnm, hfr, hlo, htr⟩ := C
  intro H locs ls hP hS hdom hl
  refine va_iald hx hb hK (hP.one ho) 0 0 rfl rfl (jI_in h1 h2 hN) hd ?_
  rw [jI_clamp h1 (by omega)]
  exact kk H locs ls hP hS hdom hl

theorem Z.zaload (C : ZC X cc y d) {N a : Nat} {f : Nat → Int} {x : Int} (hd : decode cc pc = .ok (.baload, 1)) (ho : h a = some (eI ((zG_of X).2.1 1) N f)) (h1 : 0 ≤ x) (h2 : x < N) (hN : N < 2147483648) (kk : Z X (pc + 1) l (vI (f x.toNat) :: st) h k n) : Z X pc l (vI x :: .ref a :: st) h k n := by
  obtain ⟨p, ln, e, R, s, m, args, below, meth, c, G, A, nL, Q⟩ := X
  obtain ⟨hx, hb, hml, hown, hts, hK, hBG, hA, hlk, hnm, hfr, hlo, htr⟩ := C
  intro H locs ls hP hS hdom hl
  refine va_zald hx hb hK (hP.one ho) 0 1 rfl rfl (jI_in h1 h2 hN) hd ?_
  rw [jI_clamp h1 (by omega)]
  exact kk H locs ls hP hS hdom hl

theorem Z.baload (C : ZC X cc y d) {N a : Nat} {f : Nat → Int} {x : Int} (hd : decode cc pc = .ok (.baload, 1)) (ho : h a = some (eI ((zG_of X).2.1 2) N f)) (h1 : 0 ≤ x) (h2 : x < N) (hN : N < 2147483648) (kk : Z X (pc + 1) l (vI (f x.toNat) :: st) h k n) : Z X pc l (vI x :: .ref a :: st) h k n := by
  obtain ⟨p, ln, e, R, s, m, args, below, meth, c, G, A, nL, Q⟩ := X
  obtain ⟨hx, hb, hml, hown, hts, hK, hBG, hA, hlk, hnm, hfr, hlo, htr⟩ := C
  intro H locs ls hP hS hdom hl
  refine va_bald hx hb hK (hP.one ho) 0 2 rfl rfl (jI_in h1 h2 hN) hd ?_
  rw [jI_clamp h1 (by omega)]
  exact kk H locs ls hP hS hdom hl

theorem Z.iastore (C : ZC X cc y d) {N a : Nat} {f : Nat → Int} {x z : Int} (hd : decode cc pc = .ok (.iastore, 1)) (ho : h a = some (eI ((zG_of X).2.1 0) N f)) (h1 : 0 ≤ x) (h2 : x < N) (hN : N < 2147483648) (kk : Z X (pc + 1) l st (zput h a (eI ((zG_of X).2.1 0) N (va_up f x.toNat z))) k n) : Z X pc l (vI z :: vI x :: .ref a :: st) h k n := by
  obtain ⟨p, ln, e, R, s, m, args, below, meth, c, G, A, nL, Q⟩ := X
  obtain ⟨hx, hb, hml, hown, hts, hK, hBG, hA, hlk, hnm, hfr, hlo, htr⟩ := C
  intro H locs ls hP hS hdom hl
  have hAa : A a := zlook hdom ho
  refine W.iast hx hb (hP a _ ho) ((hK.2 0 (G.2.1 0, .int) rfl).1 N (fun j => .int (jI (f j)))) (fun q => by cases q) (by show ¬ (_ ∨ (arrV _ _ _).slots.size ≤ _); rw [arrV_size]; exact jI_in h1 h2 hN) rfl rfl hd fun H1 e9 z9 oq => ?_
  refine kk H1 _ ls (hP.put ?_ (fun q _ hq => oq q hq)) (hS.put z9 oq hAa) (zdom_put hdom hAa) hl
  show H1[a]? = some (vp_cell _ _)
  rw [e9, jI_clamp h1 (by omega)]
  
  show some (Cell.setSlot (arrV (G.2.1 0) N (fun j => Value.int (jI (f j)))) x.toNat (Value.int (jI z))) = some (arrV (G.2.1 0) N (fun j => Value.int (jI (va_up f x.toNat z j))))
  rw [arrV_store]
  congr 2
  funext q
  simp only [updV, va_up]
  by_cases hq : q = x.toNat
  · subst hq; simp
  · simp [hq]

theorem Z.zastore (C : ZC X cc y d) {N a : Nat} {f : Nat → Int} {x z : Int} (hd : decode cc pc = .ok (.bastore, 1)) (ho : h a = some (eI ((zG_of X).2.1 1) N f)) (h1 : 0 ≤ x) (h2 : x < N) (hN : N < 2147483648) (hz : z = 0 ∨ z = 1) (kk : Z X (pc + 1) l st (zput h a (eI ((zG_of X).2.1 1) N (va_up f x.toNat z))) k n) : Z X pc l (vI z :: vI x :: .ref a :: st) h k n := by
  obtain ⟨p, ln, e, R, s, m, args, below, meth, c, G, A, nL, Q⟩ := X
  obtain ⟨hx, hb, hml, hown, hts, hK, hBG, hA, hlk, hnm, hfr, hlo, htr⟩ := C
  intro H locs ls hP hS hdom hl
  have hAa : A a := zlook hdom ho
  refine W.zast hx hb (hP a _ ho) ((hK.2 1 (G.2.1 1, .boolean) rfl).1 N (fun j => .int (jI (f j)))) (fun q => by cases q) (by show ¬ (_ ∨ (arrV _ _ _).slots.size ≤ _); rw [arrV_size]; exact jI_in h1 h2 hN) rfl rfl hd fun H1 e9 z9 oq => ?_
  refine kk H1 _ ls (hP.put ?_ (fun q _ hq => oq q hq)) (hS.put z9 oq hAa) (zdom_put hdom hAa) hl
  show H1[a]? = some (vp_cell _ _)
  rw [e9, jI_clamp h1 (by omega)]
  have hz2 : narrow .boolean (.int (jI z)) = .int (jI z) := by rcases hz with rfl | rfl <;> decide
  rw [hz2]
  show some (Cell.setSlot (arrV (G.2.1 1) N (fun j => Value.int (jI (f j)))) x.toNat (Value.int (jI z))) = some (arrV (G.2.1 1) N (fun j => Value.int (jI (va_up f x.toNat z j))))
  rw [arrV_store]
  congr 2
  funext q
  simp only [updV, va_up]
  by_cases hq : q = x.toNat
  · subst hq; simp
  · simp [hq]

theorem Z.bastore (C : ZC X cc y d) {N a : Nat} {f : Nat → Int} {x z : Int} (hd : decode cc pc = .ok (.bastore, 1)) (ho : h a = some (eI ((zG_of X).2.1 2) N f)) (h1 : 0 ≤ x) (h2 : x < N) (hN : N < 2147483648) (hz : narrow .byte (.int (jI z)) = .int (jI z)) (kk : Z X (pc + 1) l st (zput h a (eI ((zG_of X).2.1 2) N (va_up f x.toNat z))) k n) : Z X pc l (vI z :: vI x :: .ref a :: st) h k n := by
  obtain ⟨p, ln, e, R, s, m, args, below, meth, c, G, A, nL, Q⟩ := X
  obtain ⟨hx, hb, hml, hown, hts, hK, hBG, hA, hlk, hnm, hfr, hlo, htr⟩ := C
  intro H locs ls hP hS hdom hl
  have hAa : A a := zlook hdom ho
  refine W.bast hx hb (hP a _ ho) ((hK.2 2 (G.2.1 2, .byte) rfl).1 N (fun j => .int (jI (f j)))) (fun q => by cases q) (by show ¬ (_ ∨ (arrV _ _ _).slots.size ≤ _); rw [arrV_size]; exact jI_in h1 h2 hN) rfl rfl hd fun H1 e9 z9 oq => ?_
  refine kk H1 _ ls (hP.put ?_ (fun q _ hq => oq q hq)) (hS.put z9 oq hAa) (zdom_put hdom hAa) hl
  show H1[a]? = some (vp_cell _ _)
  rw [e9, jI_clamp h1 (by omega)]
  rw [hz]
  show some (Cell.setSlot (arrV (G.2.1 2) N (fun j => Value.int (jI (f j)))) x.toNat (Value.int (jI z))) = some (arrV (G.2.1 2) N (fun j => Value.int (jI (va_up f x.toNat z j))))
  rw [arrV_store]
  congr 2
  funext q
  simp only [updV, va_up]
  by_cases hq : q = x.toNat
  · subst hq; simp
  · simp [hq]

theorem Z.alen (C : ZC X cc y d) {N a ix : Nat} {cA : ClassId} {x : vp_A} {ty : FieldType} (hd : decode cc pc = .ok (.arraylength, 1)) (ho : h a = some (.inl (cA, x))) (ht : (zty (zG_of X).2.1)[ix]? = some (cA, ty)) (hx9 : x.1 = N) (kk : Z X (pc + 1) l (vI (N : Int) :: st) h k n) : Z X pc l (.ref a :: st) h k n := by
  obtain ⟨p, ln, e, R, s, m, args, below, meth, c, G, A, nL, Q⟩ := X
  obtain ⟨hx, hb, hml, hown, hts, hK, hBG, hA, hlk, hnm, hfr, hlo, htr⟩ := C
  intro H locs ls hP hS hdom hl
  refine va_alen (v := jI (N : Int)) hx hb hK (hP.one ho) 0 ix rfl ht ?_ hd (kk H locs ls hP hS hdom hl)
  rw [hx9, jI_nat]
theorem Z.alenI (C : ZC X cc y d) {N a : Nat} {f : Nat → Int} (hd : decode cc pc = .ok (.arraylength, 1)) (ho : h a = some (eI ((zG_of X).2.1 0) N f)) (kk : Z X (pc + 1) l (vI (N : Int) :: st) h k n) : Z X pc l (.ref a :: st) h k n := Z.alen (ix := 0) C hd ho rfl rfl kk
theorem Z.alenZ (C : ZC X cc y d) {N a : Nat} {f : Nat → Int} (hd : decode cc pc = .ok (.arraylength, 1)) (ho : h a = some (eI ((zG_of X).2.1 1) N f)) (kk : Z X (pc + 1) l (vI (N : Int) :: st) h k n) : Z X pc l (.ref a :: st) h k n := Z.alen (ix := 1) C hd ho rfl rfl kk
theorem Z.alenB (C : ZC X cc y d) {N a : Nat} {f : Nat → Int} (hd : decode cc pc = .ok (.arraylength, 1)) (ho : h a = some (eI ((zG_of X).2.1 2) N f)) (kk : Z X (pc + 1) l (vI (N : Int) :: st) h k n) : Z X pc l (.ref a :: st) h k n := Z.alen (ix := 2) C hd ho rfl rfl kk
theorem Z.alenR (C : ZC X cc y d) {N a : Nat} {f : Nat → Option Nat} (hd : decode cc pc = .ok (.arraylength, 1)) (ho : h a = some (eR ((zG_of X).2.1 3) N f)) (kk : Z X (pc + 1) l (vI (N : Int) :: st) h k n) : Z X pc l (.ref a :: st) h k n := Z.alen (ix := 3) C hd ho rfl rfl kk
theorem Z.aaload (C : ZC X cc y d) {N a b : Nat} {f : Nat → Option Nat} {x : Int} (hd : decode cc pc = .ok (.aaload, 1)) (ho : h a = some (eR ((zG_of X).2.1 3) N f)) (h1 : 0 ≤ x) (h2 : x < N) (hN : N < 2147483648) (hv : f x.toNat = some b) (kk : Z X (pc + 1) l (.ref b :: st) h k n) : Z X pc l (vI x :: .ref a :: st) h k n := by
  obtain ⟨p, ln, e, R, s, m, args, below, meth, c, G, A, nL, Q⟩ := X
  obtain ⟨hx, hb, hml, hown, hts, hK, hBG, hA, hlk, hnm, hfr, hlo, htr⟩ := C
  intro H locs ls hP hS hdom hl
  refine va_aldq hx hb hK (hP.one ho) 0 3 rfl rfl (jI_in h1 h2 hN) hd ?_
  rw [jI_clamp h1 (by omega), hv]
  exact kk H locs ls hP hS hdom hl
theorem Z.i2l (C : ZC X cc y d) {x : Int} (hd : decode cc pc = .ok (.i2l, 1)) (kk : Z X (pc + 1) l (.long (jI x).toInt64 :: st) h k n) : Z X pc l (vI x :: st) h k n := by
  obtain ⟨p, ln, e, R, s, m, args, below, meth, c, G, A, nL, Q⟩ := X
  obtain ⟨hx, hb, hml, hown, hts, hK, hBG, hA, hlk, hnm, hfr, hlo, htr⟩ := C
  intro H locs ls hP hS hdom hl
  exact lv_i2l hx hb hd rfl (kk H locs ls hP hS hdom hl)
theorem Z.lconst (C : ZC X cc y d) {i : Fin 2} (hd : decode cc pc = .ok (.lconst i, 1)) (kk : Z X (pc + 1) l (.long (Int64.ofNat (i : Nat)) :: st) h k n) : Z X pc l st h k n := by
  obtain ⟨p, ln, e, R, s, m, args, below, meth, c, G, A, nL, Q⟩ := X
  obtain ⟨hx, hb, hml, hown, hts, hK, hBG, hA, hlk, hnm, hfr, hlo, htr⟩ := C
  intro H locs ls hP hS hdom hl
  exact lv_lconst hx hb hd rfl (kk H locs ls hP hS hdom hl)
theorem Z.lcmp (C : ZC X cc y d) {a b : Int64} (hd : decode cc pc = .ok (.lcmp, 1)) (kk : Z X (pc + 1) l (.int (lg_cmp a b) :: st) h k n) : Z X pc l (.long b :: .long a :: st) h k n := by
  obtain ⟨p, ln, e, R, s, m, args, below, meth, c, G, A, nL, Q⟩ := X
  obtain ⟨hx, hb, hml, hown, hts, hK, hBG, hA, hlk, hnm, hfr, hlo, htr⟩ := C
  intro H locs ls hP hS hdom hl
  exact W.lcmp hx hb hd (kk H locs ls hP hS hdom hl)
/-- checkcast of an object of the class ci -/
theorem Z.cast (C : ZC X cc y d) {ci index : Nat} {nm : String} {q : vw_C} {fs : List Value} {a : Nat} (hc : vwCl[ci]? = some q) (hlink : Cond.classLink y.cls index nm ∈ zW) (hcast : Cond.castable q.1 nm ∈ zW) (hd : decode cc pc = .ok (.checkcast index, 3)) (ho : h a = some (eO ci fs)) (kk : Z X (pc + 3) l (.ref a :: st) h k n) : Z X pc l (.ref a :: st) h k n := by
  obtain ⟨p, ln, e, R, s, m, args, below, meth, c, G, A, nL, Q⟩ := X
  obtain ⟨hx, hb, hml, hown, hts, hK, hBG, hA, hlk, hnm, hfr, hlo, htr⟩ := C
  intro H locs ls hP hS hdom hl
  exact va_castY hx hb hown (hts _ hlink) (va_Nw.of rfl (hts _ hcast)) (va_recv hK (hP.one ho) hc (q0 := 0) rfl) hd (kk H locs ls hP hS hdom hl)
theorem Z.castS (C : ZC X cc y d) {ci index : Nat} {nm : String} {T : u_T} {N : Nat} {fs : List Value} {a : Nat} (hc : vwCl[ci]? = some (nm, T, N)) (hlink : Cond.classLink y.cls index nm ∈ zW) (hd : decode cc pc = .ok (.checkcast index, 3)) (ho : h a = some (eO ci fs)) (kk : Z X (pc + 3) l (.ref a :: st) h k n) : Z X pc l (.ref a :: st) h k n := by
  obtain ⟨p, ln, e, R, s, m, args, below, meth, c, G, A, nL, Q⟩ := X
  obtain ⟨hx, hb, hml, hown, hts, hK, hBG, hA, hlk, hnm, hfr, hlo, htr⟩ := C
  intro H locs ls hP hS hdom hl
  exact va_castS hx hb hown (hts _ hlink) (hK.1 ci _ hc).2 (va_recv hK (hP.one ho) hc (q0 := 0) rfl) hd (kk H locs ls hP hS hdom hl)
/-- statics -/
theorem Z.way (C : ZC X cc y d) {i index : Nat} (hi : i < 4) (hlink : Cond.fieldLink y.cls index "Bandwidthclub$Way" (zWayN i) zWayD ∈ zW) (hd : decode cc pc = .ok (.getstatic index, 3)) (kk : Z X (pc + 3) l (.ref ((zG_of X).2.2 i) :: st) h k n) : Z X pc l st h k n := by
  obtain ⟨p, ln, e, R, s, m, args, below, meth, c, G, A, nL, Q⟩ := X
  obtain ⟨hx, hb, hml, hown, hts, hK, hBG, hA, hlk, hnm, hfr, hlo, htr⟩ := C
  intro H locs ls hP hS hdom hl
  exact va_gets hx hb (hBG.1 i hi) hS hown (hts _ hlink) (fun _ q => q) hd (kk H locs ls hP hS hdom hl)
theorem Z.wayNe (C : ZC X cc y d) {i j : Nat} (hi : i < 4) (hj : j < 4) (hij : i ≠ j) : (zG_of X).2.2 i ≠ (zG_of X).2.2 j := by
  obtain ⟨p, ln, e, R, s, m, args, below, meth, c, G, A, nL, Q⟩ := X
  obtain ⟨hx, hb, hml, hown, hts, hK, hBG, hA, hlk, hnm, hfr, hlo, htr⟩ := C
  exact hBG.2.1 i j hi hj hij
theorem Z.first (C : ZC X cc y d) {index : Nat} (hlink : Cond.fieldLink y.cls index "Bandwidthclub" "FIRST_VALUES" "[I" ∈ zW) (hd : decode cc pc = .ok (.getstatic index, 3)) (kk : Z X (pc + 3) l (.ref ((zG_of X).2.2 4) :: st) h k n) : Z X pc l st h k n := by
  obtain ⟨p, ln, e, R, s, m, args, below, meth, c, G, A, nL, Q⟩ := X
  obtain ⟨hx, hb, hml, hown, hts, hK, hBG, hA, hlk, hnm, hfr, hlo, htr⟩ := C
  intro H locs ls hP hS hdom hl
  exact va_gets hx hb hBG.2.2.1 hS hown (hts _ hlink) (fun _ q => q) hd (kk H locs ls hP hS hdom hl)
theorem Z.emptyR (C : ZC X cc y d) {index : Nat} (hlink : Cond.fieldLink y.cls index "java/util/ArrayList" "DEFAULTCAPACITY_EMPTY_ELEMENTDATA" "[Ljava/lang/Object;" ∈ zW) (hd : decode cc pc = .ok (.getstatic index, 3)) (kk : Z X (pc + 3) l (.ref ((zG_of X).2.2 5) :: st) h k n) : Z X pc l st h k n := by
  obtain ⟨p, ln, e, R, s, m, args, below, meth, c, G, A, nL, Q⟩ := X
  obtain ⟨hx, hb, hml, hown, hts, hK, hBG, hA, hlk, hnm, hfr, hlo, htr⟩ := C
  intro H locs ls hP hS hdom hl
  exact va_gets hx hb hBG.2.2.2.2.1 hS hown (hts _ hlink) (fun _ q => q) hd (kk H locs ls hP hS hdom hl)
theorem Z.compact (C : ZC X cc y d) {index : Nat} (hlink : Cond.fieldLink y.cls index "java/lang/String" "COMPACT_STRINGS" "Z" ∈ zW) (hd : decode cc pc = .ok (.getstatic index, 3)) (kk : Z X (pc + 3) l (vI 1 :: st) h k n) : Z X pc l st h k n := by
  obtain ⟨p, ln, e, R, s, m, args, below, meth, c, G, A, nL, Q⟩ := X
  obtain ⟨hx, hb, hml, hown, hts, hK, hBG, hA, hlk, hnm, hfr, hlo, htr⟩ := C
  intro H locs ls hP hS hdom hl
  exact va_gets hx hb hBG.2.2.2.2.2.2.1 hS hown (hts _ hlink) (fun _ q => q) hd (kk H locs ls hP hS hdom hl)

theorem va_T.alen {p : Program} {ln : Launch} {e : Env} {R : Room} {s : State} {m : MethodId} {args : Array Value} {below : List Frame} {meth : Method} {c : Code} {H : Heap} {locs : List Loc} {cells slots : Nat} {Q : State → Prop} {cc : ByteArray} {pc : Nat} {ls : Array Slot} {rest : List Value} {t N : Nat} {f : Nat → Value} {A : Nat → Prop} {ty : FieldType} (hexec : p.tables.exec = Jvm.exec) (hb : c.code = cc) (hT : va_T ty t N f A s s.heap) (hS : va_S A s.heap H locs) (hdg : decode cc pc = .ok (.arraylength, 1))
    (kk : W p ln e R s m args below meth c H locs cells slots Q (F0 m (pc + 1) ls (.int (Int32.ofNat N) :: rest))) : W p ln e R s m args below meth c H locs cells slots Q (F0 m pc ls (.ref t :: rest)) := by
  obtain ⟨cell, h1, h2, h3, h4, h5, h6, h7⟩ := hT
  exact W.alen (n := Int32.ofNat N) hexec hb (by rw [hS.2.1 t (Array.getElem?_eq_some_iff.mp h1).1 h7]; exact h1) h2 h5 rfl rfl hdg kk

theorem Z.firstLen (C : ZC X cc y d) (hd : decode cc pc = .ok (.arraylength, 1)) (kk : Z X (pc + 1) l (vI 3 :: st) h k n) : Z X pc l (.ref ((zG_of X).2.2 4) :: st) h k n := by
  obtain ⟨p, ln, e, R, s, m, args, below, meth, c, G, A, nL, Q⟩ := X
  obtain ⟨hx, hb, hml, hown, hts, hK, hBG, hA, hlk, hnm, hfr, hlo, htr⟩ := C
  intro H locs ls hP hS hdom hl
  exact va_T.alen hx hb hBG.2.2.2.1 hS hd (kk H locs ls hP hS hdom hl)
theorem Z.firstAt (C : ZC X cc y d) {x : Int} (h1 : 0 ≤ x) (h2 : x < 3) (hd : decode cc pc = .ok (.iaload, 1)) (kk : Z X (pc + 1) l (vI (zFirst x.toNat) :: st) h k n) : Z X pc l (vI x :: .ref ((zG_of X).2.2 4) :: st) h k n := by
  obtain ⟨p, ln, e, R, s, m, args, below, meth, c, G, A, nL, Q⟩ := X
  obtain ⟨hx, hb, hml, hown, hts, hK, hBG, hA, hlk, hnm, hfr, hlo, htr⟩ := C
  intro H locs ls hP hS hdom hl
  refine va_ti hx hb hBG.2.2.2.1 hS (jI_in h1 (by exact_mod_cast h2) (by decide)) ?_ hd (kk H locs ls hP hS hdom hl)
  rw [jI_clamp h1 (by omega)]
theorem Z.emptyLen (C : ZC X cc y d) (hd : decode cc pc = .ok (.arraylength, 1)) (kk : Z X (pc + 1) l (vI 0 :: st) h k n) : Z X pc l (.ref ((zG_of X).2.2 5) :: st) h k n := by
  obtain ⟨p, ln, e, R, s, m, args, below, meth, c, G, A, nL, Q⟩ := X
  obtain ⟨hx, hb, hml, hown, hts, hK, hBG, hA, hlk, hnm, hfr, hlo, htr⟩ := C
  intro H locs ls hP hS hdom hl
  exact va_T.alen hx hb hBG.2.2.2.2.2.1 hS hd (kk H locs ls hP hS hdom hl)

end ZR
