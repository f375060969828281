def zN (X : zX) : Nat := X.2.2.2.2.2.2.2.2.2.2.2.2.1

section ZR
variable {X : zX} {cc : ByteArray} {y : MethodName} {d : Nat} {pc : Nat} {l st : List Value} {h : zH} {k n : Nat}

theorem Z.iconst (C : ZC X cc y d) {i : Int} (hd : decode cc pc = .ok (.iconst i, 1)) (kk : Z X (pc + 1) l (vI i :: st) h k n) : Z X pc l st h k n := by
  obtain ⟨p, ln, e, R, s, m, args, below, meth, c, G, A, nL, Q⟩ := X
  obtain ⟨hx, hb, hml, hown, hts, hK, hBG, hA, hlk, hnm, hfr, hlo, htr⟩ := C
  intro H locs ls hP hS hdom hl
  exact lv_iconst hx hb hd rfl (kk H locs ls hP hS hdom hl)

theorem Z.bipush (C : ZC X cc y d) {i : Int} (hd : decode cc pc = .ok (.bipush i, 2)) (hv : (Int8.ofInt i).toInt32 = jI i) (kk : Z X (pc + 2) l (vI i :: st) h k n) : Z X pc l st h k n := by
  obtain ⟨p, ln, e, R, s, m, args, below, meth, c, G, A, nL, Q⟩ := X
  obtain ⟨hx, hb, hml, hown, hts, hK, hBG, hA, hlk, hnm, hfr, hlo, htr⟩ := C
  intro H locs ls hP hS hdom hl
  exact lv_bipush hx hb hd hv (kk H locs ls hP hS hdom hl)

theorem Z.sipush (C : ZC X cc y d) {i : Int} (hd : decode cc pc = .ok (.sipush i, 3)) (hv : (Int16.ofInt i).toInt32 = jI i) (kk : Z X (pc + 3) l (vI i :: st) h k n) : Z X pc l st h k n := by
  obtain ⟨p, ln, e, R, s, m, args, below, meth, c, G, A, nL, Q⟩ := X
  obtain ⟨hx, hb, hml, hown, hts, hK, hBG, hA, hlk, hnm, hfr, hlo, htr⟩ := C
  intro H locs ls hP hS hdom hl
  exact lv_sipush hx hb hd hv (kk H locs ls hP hS hdom hl)

theorem Z.iload_n (C : ZC X cc y d) {i : Fin 4} {x : Int} (hd : decode cc pc = .ok (.iload_n i, 1)) (hv : l[(i : Nat)]? = some (vI x)) (kk : Z X (pc + 1) l (vI x :: st) h k n) : Z X pc l st h k n := by
  obtain ⟨p, ln, e, R, s, m, args, below, meth, c, G, A, nL, Q⟩ := X
  obtain ⟨hx, hb, hml, hown, hts, hK, hBG, hA, hlk, hnm, hfr, hlo, htr⟩ := C
  intro H locs ls hP hS hdom hl
  exact lv_iload_n hx hb hd rfl (hl.2.2 _ _ hv).1 (kk H locs ls hP hS hdom hl)

theorem Z.iload (C : ZC X cc y d) {i : Nat} {x : Int} (hd : decode cc pc = .ok (.iload i, 2)) (hv : l[i]? = some (vI x)) (kk : Z X (pc + 2) l (vI x :: st) h k n) : Z X pc l st h k n := by
  obtain ⟨p, ln, e, R, s, m, args, below, meth, c, G, A, nL, Q⟩ := X
  obtain ⟨hx, hb, hml, hown, hts, hK, hBG, hA, hlk, hnm, hfr, hlo, htr⟩ := C
  intro H locs ls hP hS hdom hl
  exact lv_iload hx hb hd (hl.2.2 _ _ hv).1 (kk H locs ls hP hS hdom hl)

theorem Z.aload_n (C : ZC X cc y d) {i : Fin 4} {x : Nat} (hd : decode cc pc = .ok (.aload_n i, 1)) (hv : l[(i : Nat)]? = some (.ref x)) (kk : Z X (pc + 1) l (.ref x :: st) h k n) : Z X pc l st h k n := by
  obtain ⟨p, ln, e, R, s, m, args, below, meth, c, G, A, nL, Q⟩ := X
  obtain ⟨hx, hb, hml, hown, hts, hK, hBG, hA, hlk, hnm, hfr, hlo, htr⟩ := C
  intro H locs ls hP hS hdom hl
  exact lv_aload_n hx hb hd rfl (hl.2.2 _ _ hv).1 (kk H locs ls hP hS hdom hl)

theorem Z.aload (C : ZC X cc y d) {i : Nat} {x : Nat} (hd : decode cc pc = .ok (.aload i, 2)) (hv : l[i]? = some (.ref x)) (kk : Z X (pc + 2) l (.ref x :: st) h k n) : Z X pc l st h k n := by
  obtain ⟨p, ln, e, R, s, m, args, below, meth, c, G, A, nL, Q⟩ := X
  obtain ⟨hx, hb, hml, hown, hts, hK, hBG, hA, hlk, hnm, hfr, hlo, htr⟩ := C
  intro H locs ls hP hS hdom hl
  exact lv_aload hx hb hd (hl.2.2 _ _ hv).1 (kk H locs ls hP hS hdom hl)

theorem Z.istore_n (C : ZC X cc y d) {i : Fin 4} {x : Int} (hd : decode cc pc = .ok (.istore_n i, 1)) (hi : (i : Nat) ≤ l.length) (hn : (i : Nat) < zN X) {l' : List Value} (hl' : zset l (i : Nat) (vI x) = l') (kk : Z X (pc + 1) l' st h k n) : Z X pc l ((vI x) :: st) h k n := by
  subst hl'
  obtain ⟨p, ln, e, R, s, m, args, below, meth, c, G, A, nL, Q⟩ := X
  obtain ⟨hx, hb, hml, hown, hts, hK, hBG, hA, hlk, hnm, hfr, hlo, htr⟩ := C
  intro H locs ls hP hS hdom hl
  have hn' : (i : Nat) < nL := hn
  exact lv_istore_n hx hb hd rfl hl.has hn' rfl (fun ls1 h1 => kk H locs ls1 hP hS hdom (hl.store hi rfl h1))

theorem Z.istore (C : ZC X cc y d) {i : Nat} {x : Int} (hd : decode cc pc = .ok (.istore i, 2)) (hi : i ≤ l.length) (hn : i < zN X) {l' : List Value} (hl' : zset l i (vI x) = l') (kk : Z X (pc + 2) l' st h k n) : Z X pc l ((vI x) :: st) h k n := by
  subst hl'
  obtain ⟨p, ln, e, R, s, m, args, below, meth, c, G, A, nL, Q⟩ := X
  obtain ⟨hx, hb, hml, hown, hts, hK, hBG, hA, hlk, hnm, hfr, hlo, htr⟩ := C
  intro H locs ls hP hS hdom hl
  have hn' : i < nL := hn
  exact lv_istore hx hb hd hl.has hn' rfl (fun ls1 h1 => kk H locs ls1 hP hS hdom (hl.store hi rfl h1))

theorem Z.astore_n (C : ZC X cc y d) {i : Fin 4} {x : Nat} (hd : decode cc pc = .ok (.astore_n i, 1)) (hi : (i : Nat) ≤ l.length) (hn : (i : Nat) < zN X) {l' : List Value} (hl' : zset l (i : Nat) (Value.ref x) = l') (kk : Z X (pc + 1) l' st h k n) : Z X pc l ((Value.ref x) :: st) h k n := by
  subst hl'
  obtain ⟨p, ln, e, R, s, m, args, below, meth, c, G, A, nL, Q⟩ := X
  obtain ⟨hx, hb, hml, hown, hts, hK, hBG, hA, hlk, hnm, hfr, hlo, htr⟩ := C
  intro H locs ls hP hS hdom hl
  have hn' : (i : Nat) < nL := hn
  exact lv_astore_n hx hb hd rfl hl.has hn' rfl (fun ls1 h1 => kk H locs ls1 hP hS hdom (hl.store hi rfl h1))

theorem Z.astore (C : ZC X cc y d) {i : Nat} {x : Nat} (hd : decode cc pc = .ok (.astore i, 2)) (hi : i ≤ l.length) (hn : i < zN X) {l' : List Value} (hl' : zset l i (Value.ref x) = l') (kk : Z X (pc + 2) l' st h k n) : Z X pc l ((Value.ref x) :: st) h k n := by
  subst hl'
  obtain ⟨p, ln, e, R, s, m, args, below, meth, c, G, A, nL, Q⟩ := X
  obtain ⟨hx, hb, hml, hown, hts, hK, hBG, hA, hlk, hnm, hfr, hlo, htr⟩ := C
  intro H locs ls hP hS hdom hl
  have hn' : i < nL := hn
  exact lv_astore hx hb hd hl.has hn' rfl (fun ls1 h1 => kk H locs ls1 hP hS hdom (hl.store hi rfl h1))

theorem jI_add (a b : Int) : jI a + jI b = jI (a + b) := (Int32.ofInt_add a b).symm
theorem jI_sub (a b : Int) : jI a - jI b = jI (a - b) := (Int32.ofInt_sub a b).symm
theorem jI_mul (a b : Int) : jI a * jI b = jI (a * b) := (Int32.ofInt_mul a b).symm
theorem jI_neg (a : Int) : - jI a = jI (-a) := (Int32.ofInt_neg a).symm
theorem jI_toInt {a : Int} (h1 : -2147483648 ≤ a) (h2 : a < 2147483648) : (jI a).toInt = a := Int32.toInt_ofInt_of_le h1 h2
theorem jI_lt {a b : Int} (a1 : -2147483648 ≤ a) (a2 : a < 2147483648) (b1 : -2147483648 ≤ b) (b2 : b < 2147483648) : jI a < jI b ↔ a < b := by rw [Int32.lt_iff_toInt_lt, jI_toInt a1 a2, jI_toInt b1 b2]
theorem jI_le {a b : Int} (a1 : -2147483648 ≤ a) (a2 : a < 2147483648) (b1 : -2147483648 ≤ b) (b2 : b < 2147483648) : jI a ≤ jI b ↔ a ≤ b := by rw [Int32.le_iff_toInt_le, jI_toInt a1 a2, jI_toInt b1 b2]
theorem jI_eq {a b : Int} (a1 : -2147483648 ≤ a) (a2 : a < 2147483648) (b1 : -2147483648 ≤ b) (b2 : b < 2147483648) : jI a = jI b ↔ a = b := by rw [← Int32.toInt_inj, jI_toInt a1 a2, jI_toInt b1 b2]
theorem jI_nat (n : Nat) : jI (n : Int) = Int32.ofNat n := by
  apply Int32.toBitVec.inj
  simp [jI]
theorem jI_clamp {a : Int} (h1 : 0 ≤ a) (h2 : a < 2147483648) : (jI a).toNatClampNeg = a.toNat := by
  show (jI a).toInt.toNat = _
  rw [jI_toInt (by omega) h2]
theorem jI_in {a : Int} {n : Nat} (h1 : 0 ≤ a) (h2 : a < n) (hn : n < 2147483648) : vp_in (jI a) n := by
  rw [vp_in_iff, jI_toInt (by omega) (by omega)]
  exact ⟨h1, h2⟩
theorem Z.iinc (C : ZC X cc y d) {i : Nat} {v x : Int} (hd : decode cc pc = .ok (.iinc i v, 3)) (hv : l[i]? = some (vI x)) (hi : i ≤ l.length) (hn : i < zN X) {l' : List Value} (hl' : zset l i (vI (x + v)) = l') (kk : Z X (pc + 3) l' st h k n) : Z X pc l st h k n := by
  subst hl'
  obtain ⟨p, ln, e, R, s, m, args, below, meth, c, G, A, nL, Q⟩ := X
  obtain ⟨hx, hb, hml, hown, hts, hK, hBG, hA, hlk, hnm, hfr, hlo, htr⟩ := C
  intro H locs ls hP hS hdom hl
  have hn' : i < nL := hn
  obtain ⟨j, hj⟩ := List.getElem?_of_mem (zzip_mem.mpr (show l[((i, vI x) : Nat × Value).1]? = some ((i, vI x) : Nat × Value).2 from hv))
  exact lv_iinc (v := jI (x + v)) hx hb hd hl.has hj (jI_add x v) hn' rfl (fun ls1 h1 => kk H locs ls1 hP hS hdom (hl.store hi rfl h1))

theorem Z.iadd (C : ZC X cc y d) {x y2 : Int} (hd : decode cc pc = .ok (.iadd, 1)) (kk : Z X (pc + 1) l (vI (x + y2) :: st) h k n) : Z X pc l (vI y2 :: vI x :: st) h k n := by
  obtain ⟨p, ln, e, R, s, m, args, below, meth, c, G, A, nL, Q⟩ := X
  obtain ⟨hx, hb, hml, hown, hts, hK, hBG, hA, hlk, hnm, hfr, hlo, htr⟩ := C
  intro H locs ls hP hS hdom hl
  refine lv_iadd hx hb hd ?_
  have q := kk H locs ls hP hS hdom hl
  unfold vI at q
  rw [← jI_add] at q
  exact q

theorem Z.isub (C : ZC X cc y d) {x y2 : Int} (hd : decode cc pc = .ok (.isub, 1)) (kk : Z X (pc + 1) l (vI (x - y2) :: st) h k n) : Z X pc l (vI y2 :: vI x :: st) h k n := by
  obtain ⟨p, ln, e, R, s, m, args, below, meth, c, G, A, nL, Q⟩ := X
  obtain ⟨hx, hb, hml, hown, hts, hK, hBG, hA, hlk, hnm, hfr, hlo, htr⟩ := C
  intro H locs ls hP hS hdom hl
  refine lv_isub hx hb hd ?_
  have q := kk H locs ls hP hS hdom hl
  unfold vI at q
  rw [← jI_sub] at q
  exact q

theorem Z.imul (C : ZC X cc y d) {x y2 : Int} (hd : decode cc pc = .ok (.imul, 1)) (kk : Z X (pc + 1) l (vI (x * y2) :: st) h k n) : Z X pc l (vI y2 :: vI x :: st) h k n := by
  obtain ⟨p, ln, e, R, s, m, args, below, meth, c, G, A, nL, Q⟩ := X
  obtain ⟨hx, hb, hml, hown, hts, hK, hBG, hA, hlk, hnm, hfr, hlo, htr⟩ := C
  intro H locs ls hP hS hdom hl
  refine lv_imul hx hb hd ?_
  have q := kk H locs ls hP hS hdom hl
  unfold vI at q
  rw [← jI_mul] at q
  exact q

theorem Z.ineg (C : ZC X cc y d) {x : Int} (hd : decode cc pc = .ok (.ineg, 1)) (kk : Z X (pc + 1) l (vI (-x) :: st) h k n) : Z X pc l (vI x :: st) h k n := by
  obtain ⟨p, ln, e, R, s, m, args, below, meth, c, G, A, nL, Q⟩ := X
  obtain ⟨hx, hb, hml, hown, hts, hK, hBG, hA, hlk, hnm, hfr, hlo, htr⟩ := C
  intro H locs ls hP hS hdom hl
  refine lv_ineg hx hb hd ?_
  have q := kk H locs ls hP hS hdom hl
  unfold vI at q
  rw [← jI_neg] at q
  exact q

theorem Z.ishr (C : ZC X cc y d) {x y2 z : Int} (hd : decode cc pc = .ok (.ishr, 1)) (hv : jI x >>> (jI y2 &&& 31) = jI z) (kk : Z X (pc + 1) l (vI z :: st) h k n) : Z X pc l (vI y2 :: vI x :: st) h k n := by
  obtain ⟨p, ln, e, R, s, m, args, below, meth, c, G, A, nL, Q⟩ := X
  obtain ⟨hx, hb, hml, hown, hts, hK, hBG, hA, hlk, hnm, hfr, hlo, htr⟩ := C
  intro H locs ls hP hS hdom hl
  refine lv_ishr hx hb hd ?_
  have q := kk H locs ls hP hS hdom hl
  unfold vI at q
  rw [← hv] at q
  exact q

theorem Z.ishl (C : ZC X cc y d) {x y2 z : Int} (hd : decode cc pc = .ok (.ishl, 1)) (hv : jI x <<< (jI y2 &&& 31) = jI z) (kk : Z X (pc + 1) l (vI z :: st) h k n) : Z X pc l (vI y2 :: vI x :: st) h k n := by
  obtain ⟨p, ln, e, R, s, m, args, below, meth, c, G, A, nL, Q⟩ := X
  obtain ⟨hx, hb, hml, hown, hts, hK, hBG, hA, hlk, hnm, hfr, hlo, htr⟩ := C
  intro H locs ls hP hS hdom hl
  refine lv_ishl hx hb hd ?_
  have q := kk H locs ls hP hS hdom hl
  unfold vI at q
  rw [← hv] at q
  exact q

theorem Z.iand (C : ZC X cc y d) {x y2 z : Int} (hd : decode cc pc = .ok (.iand, 1)) (hv : jI x &&& jI y2 = jI z) (kk : Z X (pc + 1) l (vI z :: st) h k n) : Z X pc l (vI y2 :: vI x :: st) h k n := by
  obtain ⟨p, ln, e, R, s, m, args, below, meth, c, G, A, nL, Q⟩ := X
  obtain ⟨hx, hb, hml, hown, hts, hK, hBG, hA, hlk, hnm, hfr, hlo, htr⟩ := C
  intro H locs ls hP hS hdom hl
  refine lv_iand hx hb hd ?_
  have q := kk H locs ls hP hS hdom hl
  unfold vI at q
  rw [← hv] at q
  exact q

theorem Z.ior (C : ZC X cc y d) {x y2 z : Int} (hd : decode cc pc = .ok (.ior, 1)) (hv : jI x ||| jI y2 = jI z) (kk : Z X (pc + 1) l (vI z :: st) h k n) : Z X pc l (vI y2 :: vI x :: st) h k n := by
  obtain ⟨p, ln, e, R, s, m, args, below, meth, c, G, A, nL, Q⟩ := X
  obtain ⟨hx, hb, hml, hown, hts, hK, hBG, hA, hlk, hnm, hfr, hlo, htr⟩ := C
  intro H locs ls hP hS hdom hl
  refine lv_ior hx hb hd ?_
  have q := kk H locs ls hP hS hdom hl
  unfold vI at q
  rw [← hv] at q
  exact q

theorem Z.idiv (C : ZC X cc y d) {x y2 z : Int} (hd : decode cc pc = .ok (.idiv, 1)) (hz : ¬ jI y2 = 0) (hv : jI x / jI y2 = jI z) (kk : Z X (pc + 1) l (vI z :: st) h k n) : Z X pc l (vI y2 :: vI x :: st) h k n := by
  obtain ⟨p, ln, e, R, s, m, args, below, meth, c, G, A, nL, Q⟩ := X
  obtain ⟨hx, hb, hml, hown, hts, hK, hBG, hA, hlk, hnm, hfr, hlo, htr⟩ := C
  intro H locs ls hP hS hdom hl
  refine lv_idiv hx hb hd hz ?_
  have q := kk H locs ls hP hS hdom hl
  unfold vI at q
  rw [← hv] at q
  exact q

theorem Z.irem (C : ZC X cc y d) {x y2 z : Int} (hd : decode cc pc = .ok (.irem, 1)) (hz : ¬ jI y2 = 0) (hv : jI x - jI x / jI y2 * jI y2 = jI z) (kk : Z X (pc + 1) l (vI z :: st) h k n) : Z X pc l (vI y2 :: vI x :: st) h k n := by
  obtain ⟨p, ln, e, R, s, m, args, below, meth, c, G, A, nL, Q⟩ := X
  obtain ⟨hx, hb, hml, hown, hts, hK, hBG, hA, hlk, hnm, hfr, hlo, htr⟩ := C
  intro H locs ls hP hS hdom hl
  refine lv_irem hx hb hd hz ?_
  have q := kk H locs ls hP hS hdom hl
  unfold vI at q
  rw [← hv] at q
  exact q

theorem Z.i2c (C : ZC X cc y d) {x : Int} (hd : decode cc pc = .ok (.i2c, 1)) (h1 : 0 ≤ x) (h2 : x < 65536) (kk : Z X (pc + 1) l (vI x :: st) h k n) : Z X pc l (vI x :: st) h k n := by
  obtain ⟨p, ln, e, R, s, m, args, below, meth, c, G, A, nL, Q⟩ := X
  obtain ⟨hx, hb, hml, hown, hts, hK, hBG, hA, hlk, hnm, hfr, hlo, htr⟩ := C
  intro H locs ls hP hS hdom hl
  refine lv_i2c hx hb hd ?_ (kk H locs ls hP hS hdom hl)
  obtain ⟨q, rfl⟩ := Int.eq_ofNat_of_zero_le h1
  have q9 : jI (q : Int) = nI q := jI_nat q
  rw [q9, pk_char]
  congr 1
  rw [pk_tn (by omega)]
  omega

theorem Z.icmp_eq (C : ZC X cc y d) {x y2 : Int} {off : Int} {tgt : Nat} (hd : decode cc pc = .ok (.if_icmp .eq off, 3)) (ht : (pc : Int) + off = (tgt : Int)) (a1 : -2147483648 ≤ x) (a2 : x < 2147483648) (b1 : -2147483648 ≤ y2) (b2 : y2 < 2147483648) (kt : x = y2 → Z X tgt l st h k n) (kf : ¬ x = y2 → Z X (pc + 3) l st h k n) : Z X pc l (vI y2 :: vI x :: st) h k n := by
  obtain ⟨p, ln, e, R, s, m, args, below, meth, c, G, A, nL, Q⟩ := X
  obtain ⟨hx, hb, hml, hown, hts, hK, hBG, hA, hlk, hnm, hfr, hlo, htr⟩ := C
  intro H locs ls hP hS hdom hl
  exact lv_icmp_eq hx hb hd ht (fun q => kt ((jI_eq a1 a2 b1 b2).mp q) H locs ls hP hS hdom hl) (fun q => kf (fun z => q ((jI_eq a1 a2 b1 b2).mpr z)) H locs ls hP hS hdom hl)

theorem Z.icmp_ne (C : ZC X cc y d) {x y2 : Int} {off : Int} {tgt : Nat} (hd : decode cc pc = .ok (.if_icmp .ne off, 3)) (ht : (pc : Int) + off = (tgt : Int)) (a1 : -2147483648 ≤ x) (a2 : x < 2147483648) (b1 : -2147483648 ≤ y2) (b2 : y2 < 2147483648) (kt : ¬ x = y2 → Z X tgt l st h k n) (kf : x = y2 → Z X (pc + 3) l st h k n) : Z X pc l (vI y2 :: vI x :: st) h k n := by
  obtain ⟨p, ln, e, R, s, m, args, below, meth, c, G, A, nL, Q⟩ := X
  obtain ⟨hx, hb, hml, hown, hts, hK, hBG, hA, hlk, hnm, hfr, hlo, htr⟩ := C
  intro H locs ls hP hS hdom hl
  exact lv_icmp_ne hx hb hd ht (fun q => kt (fun z => q ((jI_eq a1 a2 b1 b2).mpr z)) H locs ls hP hS hdom hl) (fun q => kf ((jI_eq a1 a2 b1 b2).mp q) H locs ls hP hS hdom hl)

theorem Z.icmp_lt (C : ZC X cc y d) {x y2 : Int} {off : Int} {tgt : Nat} (hd : decode cc pc = .ok (.if_icmp .lt off, 3)) (ht : (pc : Int) + off = (tgt : Int)) (a1 : -2147483648 ≤ x) (a2 : x < 2147483648) (b1 : -2147483648 ≤ y2) (b2 : y2 < 2147483648) (kt : x < y2 → Z X tgt l st h k n) (kf : ¬ x < y2 → Z X (pc + 3) l st h k n) : Z X pc l (vI y2 :: vI x :: st) h k n := by
  obtain ⟨p, ln, e, R, s, m, args, below, meth, c, G, A, nL, Q⟩ := X
  obtain ⟨hx, hb, hml, hown, hts, hK, hBG, hA, hlk, hnm, hfr, hlo, htr⟩ := C
  intro H locs ls hP hS hdom hl
  exact lv_icmp_lt hx hb hd ht (fun q => kt ((jI_lt a1 a2 b1 b2).mp q) H locs ls hP hS hdom hl) (fun q => kf (fun z => q ((jI_lt a1 a2 b1 b2).mpr z)) H locs ls hP hS hdom hl)

theorem Z.icmp_ge (C : ZC X cc y d) {x y2 : Int} {off : Int} {tgt : Nat} (hd : decode cc pc = .ok (.if_icmp .ge off, 3)) (ht : (pc : Int) + off = (tgt : Int)) (a1 : -2147483648 ≤ x) (a2 : x < 2147483648) (b1 : -2147483648 ≤ y2) (b2 : y2 < 2147483648) (kt : y2 ≤ x → Z X tgt l st h k n) (kf : ¬ y2 ≤ x → Z X (pc + 3) l st h k n) : Z X pc l (vI y2 :: vI x :: st) h k n := by
  obtain ⟨p, ln, e, R, s, m, args, below, meth, c, G, A, nL, Q⟩ := X
  obtain ⟨hx, hb, hml, hown, hts, hK, hBG, hA, hlk, hnm, hfr, hlo, htr⟩ := C
  intro H locs ls hP hS hdom hl
  exact lv_icmp_ge hx hb hd ht (fun q => kt ((jI_le b1 b2 a1 a2).mp q) H locs ls hP hS hdom hl) (fun q => kf (fun z => q ((jI_le b1 b2 a1 a2).mpr z)) H locs ls hP hS hdom hl)

theorem Z.icmp_gt (C : ZC X cc y d) {x y2 : Int} {off : Int} {tgt : Nat} (hd : decode cc pc = .ok (.if_icmp .gt off, 3)) (ht : (pc : Int) + off = (tgt : Int)) (a1 : -2147483648 ≤ x) (a2 : x < 2147483648) (b1 : -2147483648 ≤ y2) (b2 : y2 < 2147483648) (kt : y2 < x → Z X tgt l st h k n) (kf : ¬ y2 < x → Z X (pc + 3) l st h k n) : Z X pc l (vI y2 :: vI x :: st) h k n := by
  obtain ⟨p, ln, e, R, s, m, args, below, meth, c, G, A, nL, Q⟩ := X
  obtain ⟨hx, hb, hml, hown, hts, hK, hBG, hA, hlk, hnm, hfr, hlo, htr⟩ := C
  intro H locs ls hP hS hdom hl
  exact lv_icmp_gt hx hb hd ht (fun q => kt ((jI_lt b1 b2 a1 a2).mp q) H locs ls hP hS hdom hl) (fun q => kf (fun z => q ((jI_lt b1 b2 a1 a2).mpr z)) H locs ls hP hS hdom hl)

theorem Z.icmp_le (C : ZC X cc y d) {x y2 : Int} {off : Int} {tgt : Nat} (hd : decode cc pc = .ok (.if_icmp .le off, 3)) (ht : (pc : Int) + off = (tgt : Int)) (a1 : -2147483648 ≤ x) (a2 : x < 2147483648) (b1 : -2147483648 ≤ y2) (b2 : y2 < 2147483648) (kt : x ≤ y2 → Z X tgt l st h k n) (kf : ¬ x ≤ y2 → Z X (pc + 3) l st h k n) : Z X pc l (vI y2 :: vI x :: st) h k n := by
  obtain ⟨p, ln, e, R, s, m, args, below, meth, c, G, A, nL, Q⟩ := X
  obtain ⟨hx, hb, hml, hown, hts, hK, hBG, hA, hlk, hnm, hfr, hlo, htr⟩ := C
  intro H locs ls hP hS hdom hl
  exact lv_icmp_le hx hb hd ht (fun q => kt ((jI_le a1 a2 b1 b2).mp q) H locs ls hP hS hdom hl) (fun q => kf (fun z => q ((jI_le a1 a2 b1 b2).mpr z)) H locs ls hP hS hdom hl)

theorem Z.if_eq (C : ZC X cc y d) {x : Int} {off : Int} {tgt : Nat} (hd : decode cc pc = .ok (.ifCond .eq off, 3)) (ht : (pc : Int) + off = (tgt : Int)) (a1 : -2147483648 ≤ x) (a2 : x < 2147483648) (kt : x = 0 → Z X tgt l st h k n) (kf : ¬ x = 0 → Z X (pc + 3) l st h k n) : Z X pc l (vI x :: st) h k n := by
  obtain ⟨p, ln, e, R, s, m, args, below, meth, c, G, A, nL, Q⟩ := X
  obtain ⟨hx, hb, hml, hown, hts, hK, hBG, hA, hlk, hnm, hfr, hlo, htr⟩ := C
  intro H locs ls hP hS hdom hl
  exact lv_if_eq hx hb hd ht (fun q => kt ((jI_eq a1 a2 (b := 0) (by decide) (by decide)).mp q) H locs ls hP hS hdom hl) (fun q => kf (fun z => q ((jI_eq a1 a2 (b := 0) (by decide) (by decide)).mpr z)) H locs ls hP hS hdom hl)

theorem Z.if_ne (C : ZC X cc y d) {x : Int} {off : Int} {tgt : Nat} (hd : decode cc pc = .ok (.ifCond .ne off, 3)) (ht : (pc : Int) + off = (tgt : Int)) (a1 : -2147483648 ≤ x) (a2 : x < 2147483648) (kt : ¬ x = 0 → Z X tgt l st h k n) (kf : x = 0 → Z X (pc + 3) l st h k n) : Z X pc l (vI x :: st) h k n := by
  obtain ⟨p, ln, e, R, s, m, args, below, meth, c, G, A, nL, Q⟩ := X
  obtain ⟨hx, hb, hml, hown, hts, hK, hBG, hA, hlk, hnm, hfr, hlo, htr⟩ := C
  intro H locs ls hP hS hdom hl
  exact lv_if_ne hx hb hd ht (fun q => kt (fun z => q ((jI_eq a1 a2 (b := 0) (by decide) (by decide)).mpr z)) H locs ls hP hS hdom hl) (fun q => kf ((jI_eq a1 a2 (b := 0) (by decide) (by decide)).mp q) H locs ls hP hS hdom hl)

theorem Z.if_lt (C : ZC X cc y d) {x : Int} {off : Int} {tgt : Nat} (hd : decode cc pc = .ok (.ifCond .lt off, 3)) (ht : (pc : Int) + off = (tgt : Int)) (a1 : -2147483648 ≤ x) (a2 : x < 2147483648) (kt : x < 0 → Z X tgt l st h k n) (kf : ¬ x < 0 → Z X (pc + 3) l st h k n) : Z X pc l (vI x :: st) h k n := by
  obtain ⟨p, ln, e, R, s, m, args, below, meth, c, G, A, nL, Q⟩ := X
  obtain ⟨hx, hb, hml, hown, hts, hK, hBG, hA, hlk, hnm, hfr, hlo, htr⟩ := C
  intro H locs ls hP hS hdom hl
  exact lv_if_lt hx hb hd ht (fun q => kt ((jI_lt a1 a2 (b := 0) (by decide) (by decide)).mp q) H locs ls hP hS hdom hl) (fun q => kf (fun z => q ((jI_lt a1 a2 (b := 0) (by decide) (by decide)).mpr z)) H locs ls hP hS hdom hl)

theorem Z.if_ge (C : ZC X cc y d) {x : Int} {off : Int} {tgt : Nat} (hd : decode cc pc = .ok (.ifCond .ge off, 3)) (ht : (pc : Int) + off = (tgt : Int)) (a1 : -2147483648 ≤ x) (a2 : x < 2147483648) (kt : 0 ≤ x → Z X tgt l st h k n) (kf : ¬ 0 ≤ x → Z X (pc + 3) l st h k n) : Z X pc l (vI x :: st) h k n := by
  obtain ⟨p, ln, e, R, s, m, args, below, meth, c, G, A, nL, Q⟩ := X
  obtain ⟨hx, hb, hml, hown, hts, hK, hBG, hA, hlk, hnm, hfr, hlo, htr⟩ := C
  intro H locs ls hP hS hdom hl
  exact lv_if_ge hx hb hd ht (fun q => kt ((jI_le (a := 0) (by decide) (by decide) a1 a2).mp q) H locs ls hP hS hdom hl) (fun q => kf (fun z => q ((jI_le (a := 0) (by decide) (by decide) a1 a2).mpr z)) H locs ls hP hS hdom hl)

theorem Z.if_gt (C : ZC X cc y d) {x : Int} {off : Int} {tgt : Nat} (hd : decode cc pc = .ok (.ifCond .gt off, 3)) (ht : (pc : Int) + off = (tgt : Int)) (a1 : -2147483648 ≤ x) (a2 : x < 2147483648) (kt : 0 < x → Z X tgt l st h k n) (kf : ¬ 0 < x → Z X (pc + 3) l st h k n) : Z X pc l (vI x :: st) h k n := by
  obtain ⟨p, ln, e, R, s, m, args, below, meth, c, G, A, nL, Q⟩ := X
  obtain ⟨hx, hb, hml, hown, hts, hK, hBG, hA, hlk, hnm, hfr, hlo, htr⟩ := C
  intro H locs ls hP hS hdom hl
  exact lv_if_gt hx hb hd ht (fun q => kt ((jI_lt (a := 0) (by decide) (by decide) a1 a2).mp q) H locs ls hP hS hdom hl) (fun q => kf (fun z => q ((jI_lt (a := 0) (by decide) (by decide) a1 a2).mpr z)) H locs ls hP hS hdom hl)

theorem Z.if_le (C : ZC X cc y d) {x : Int} {off : Int} {tgt : Nat} (hd : decode cc pc = .ok (.ifCond .le off, 3)) (ht : (pc : Int) + off = (tgt : Int)) (a1 : -2147483648 ≤ x) (a2 : x < 2147483648) (kt : x ≤ 0 → Z X tgt l st h k n) (kf : ¬ x ≤ 0 → Z X (pc + 3) l st h k n) : Z X pc l (vI x :: st) h k n := by
  obtain ⟨p, ln, e, R, s, m, args, below, meth, c, G, A, nL, Q⟩ := X
  obtain ⟨hx, hb, hml, hown, hts, hK, hBG, hA, hlk, hnm, hfr, hlo, htr⟩ := C
  intro H locs ls hP hS hdom hl
  exact lv_if_le hx hb hd ht (fun q => kt ((jI_le a1 a2 (b := 0) (by decide) (by decide)).mp q) H locs ls hP hS hdom hl) (fun q => kf (fun z => q ((jI_le a1 a2 (b := 0) (by decide) (by decide)).mpr z)) H locs ls hP hS hdom hl)

theorem Z.goto (C : ZC X cc y d) {off : Int} {tgt : Nat} (hd : decode cc pc = .ok (.goto off, 3)) (ht : (pc : Int) + off = (tgt : Int)) (kk : Z X (tgt) l st h k n) : Z X pc l st h k n := by
  obtain ⟨p, ln, e, R, s, m, args, below, meth, c, G, A, nL, Q⟩ := X
  obtain ⟨hx, hb, hml, hown, hts, hK, hBG, hA, hlk, hnm, hfr, hlo, htr⟩ := C
  intro H locs ls hP hS hdom hl
  exact lv_goto hx hb hd ht (kk H locs ls hP hS hdom hl)

theorem Z.dup (C : ZC X cc y d) {v : Value} (hd : decode cc pc = .ok (.dup, 1)) (hv : v.category = 1) (kk : Z X (pc + 1) l (v :: v :: st) h k n) : Z X pc l (v :: st) h k n := by
  obtain ⟨p, ln, e, R, s, m, args, below, meth, c, G, A, nL, Q⟩ := X
  obtain ⟨hx, hb, hml, hown, hts, hK, hBG, hA, hlk, hnm, hfr, hlo, htr⟩ := C
  intro H locs ls hP hS hdom hl
  exact lv_dup hx hb hd hv (kk H locs ls hP hS hdom hl)

theorem Z.dup2 (C : ZC X cc y d) {v w : Value} (hd : decode cc pc = .ok (.dup2, 1)) (hv : v.category = 1) (hw : w.category = 1) (kk : Z X (pc + 1) l (v :: w :: v :: w :: st) h k n) : Z X pc l (v :: w :: st) h k n := by
  obtain ⟨p, ln, e, R, s, m, args, below, meth, c, G, A, nL, Q⟩ := X
  obtain ⟨hx, hb, hml, hown, hts, hK, hBG, hA, hlk, hnm, hfr, hlo, htr⟩ := C
  intro H locs ls hP hS hdom hl
  exact lv_dup2_11 hx hb hd hv hw (kk H locs ls hP hS hdom hl)

theorem Z.dup_x1 (C : ZC X cc y d) {v w : Value} (hd : decode cc pc = .ok (.dup_x1, 1)) (hv : v.category = 1) (hw : w.category = 1) (kk : Z X (pc + 1) l (v :: w :: v :: st) h k n) : Z X pc l (v :: w :: st) h k n := by
  obtain ⟨p, ln, e, R, s, m, args, below, meth, c, G, A, nL, Q⟩ := X
  obtain ⟨hx, hb, hml, hown, hts, hK, hBG, hA, hlk, hnm, hfr, hlo, htr⟩ := C
  intro H locs ls hP hS hdom hl
  exact lv_dup_x1 hx hb hd hv hw (kk H locs ls hP hS hdom hl)

theorem Z.pop (C : ZC X cc y d) {v : Value} (hd : decode cc pc = .ok (.pop, 1)) (hv : v.category = 1) (kk : Z X (pc + 1) l st h k n) : Z X pc l (v :: st) h k n := by
  obtain ⟨p, ln, e, R, s, m, args, below, meth, c, G, A, nL, Q⟩ := X
  obtain ⟨hx, hb, hml, hown, hts, hK, hBG, hA, hlk, hnm, hfr, hlo, htr⟩ := C
  intro H locs ls hP hS hdom hl
  exact lv_pop hx hb hd hv (kk H locs ls hP hS hdom hl)

theorem Z.tblIn (C : ZC X cc y d) {x : Int} {dflt lo hi : Int} {offs : Array Int} {len : Nat} {off : Int} {tgt : Nat} (hd : decode cc pc = .ok (.tableswitch dflt lo hi offs, len)) (a1 : -2147483648 ≤ x) (a2 : x < 2147483648) (h1 : lo ≤ x) (h2 : x ≤ hi) (ho : offs[(x - lo).toNat]? = some off) (ht : (pc : Int) + off = (tgt : Int)) (kk : Z X tgt l st h k n) : Z X pc l (vI x :: st) h k n := by
  obtain ⟨p, ln, e, R, s, m, args, below, meth, c, G, A, nL, Q⟩ := X
  obtain ⟨hx, hb, hml, hown, hts, hK, hBG, hA, hlk, hnm, hfr, hlo, htr⟩ := C
  intro H locs ls hP hS hdom hl
  exact lv_tableIn hx hb hd (by rw [jI_toInt a1 a2]; omega) (by rw [jI_toInt a1 a2]; omega) (by rw [jI_toInt a1 a2]; exact ho) ht (kk H locs ls hP hS hdom hl)
theorem Z.tblOut (C : ZC X cc y d) {x : Int} {dflt lo hi : Int} {offs : Array Int} {len : Nat} {tgt : Nat} (hd : decode cc pc = .ok (.tableswitch dflt lo hi offs, len)) (a1 : -2147483648 ≤ x) (a2 : x < 2147483648) (h1 : x < lo ∨ hi < x) (ht : (pc : Int) + dflt = (tgt : Int)) (kk : Z X tgt l st h k n) : Z X pc l (vI x :: st) h k n := by
  obtain ⟨p, ln, e, R, s, m, args, below, meth, c, G, A, nL, Q⟩ := X
  obtain ⟨hx, hb, hml, hown, hts, hK, hBG, hA, hlk, hnm, hfr, hlo, htr⟩ := C
  intro H locs ls hP hS hdom hl
  exact lv_tableOut hx hb hd (by rw [jI_toInt a1 a2]; exact h1) ht (kk H locs ls hP hS hdom hl)
theorem va_rf_some (a : Nat) : Value.ref a = va_rf (some a) := rfl
theorem Z.acmp_ne (C : ZC X cc y d) {a b : Nat} {off : Int} {tgt : Nat} (hd : decode cc pc = .ok (.if_acmp .ne off, 3)) (ht : (pc : Int) + off = (tgt : Int)) (kt : ¬ a = b → Z X tgt l st h k n) (kf : a = b → Z X (pc + 3) l st h k n) : Z X pc l (.ref b :: .ref a :: st) h k n := by
  obtain ⟨p, ln, e, R, s, m, args, below, meth, c, G, A, nL, Q⟩ := X
  obtain ⟨hx, hb, hml, hown, hts, hK, hBG, hA, hlk, hnm, hfr, hlo, htr⟩ := C
  intro H locs ls hP hS hdom hl
  exact lv_acmp_ne (rx := some a) (ry := some b) hx hb hd ht (fun q => kt (fun z => q (congrArg some z)) H locs ls hP hS hdom hl) (fun q => kf (Option.some.inj q) H locs ls hP hS hdom hl)
theorem Z.acmp_eq (C : ZC X cc y d) {a b : Nat} {off : Int} {tgt : Nat} (hd : decode cc pc = .ok (.if_acmp .eq off, 3)) (ht : (pc : Int) + off = (tgt : Int)) (kt : a = b → Z X tgt l st h k n) (kf : ¬ a = b → Z X (pc + 3) l st h k n) : Z X pc l (.ref b :: .ref a :: st) h k n := by
  obtain ⟨p, ln, e, R, s, m, args, below, meth, c, G, A, nL, Q⟩ := X
  obtain ⟨hx, hb, hml, hown, hts, hK, hBG, hA, hlk, hnm, hfr, hlo, htr⟩ := C
  intro H locs ls hP hS hdom hl
  exact lv_acmp_eq (rx := some a) (ry := some b) hx hb hd ht (fun q => kt (Option.some.inj q) H locs ls hP hS hdom hl) (fun q => kf (fun z => q (congrArg some z)) H locs ls hP hS hdom hl)
/-- fewer locals -/
theorem Z.pre {l' : List Value} (n1 : Nat) (hl' : l.take n1 = l') (kk : Z X pc l' st h k n) : Z X pc l st h k n := by
  subst hl'
  obtain ⟨p, ln, e, R, s, m, args, below, meth, c, G, A, nL, Q⟩ := X
  intro H locs ls hP hS hdom hl
  exact kk H locs ls hP hS hdom (hl.pre n1)
theorem Z.widen {k' n' : Nat} (h1 : k ≤ k') (h2 : n ≤ n') (kk : Z X pc l st h k' n') : Z X pc l st h k n := by
  obtain ⟨p, ln, e, R, s, m, args, below, meth, c, G, A, nL, Q⟩ := X
  intro H locs ls hP hS hdom hl
  exact W.widen h1 h2 (kk H locs ls hP hS hdom hl)
/-- a heap that says less -/
theorem Z.sub {h' : zH} (hs : ∀ q e, h' q = some e → h q = some e) (kk : Z X pc l st h' k n) : Z X pc l st h k n := by
  obtain ⟨p, ln, e, R, s, m, args, below, meth, c, G, A, nL, Q⟩ := X
  intro H locs ls hP hS hdom hl
  refine kk H locs ls (fun a e he => hP a e (hs a e he)) hS (fun q hq => hdom q (fun z => ?_)) hl
  cases hc : h' q with
  | none => exact hq hc
  | some e => rw [hs q e hc] at z; cases z

end ZR
