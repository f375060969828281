/-! THE LAW'S OWN ROWS: its script, its end; the two systems side by side -/
theorem and31 (x : Int32) : ∃ z : Int, (0 ≤ z ∧ z ≤ 31) ∧ x &&& jI 31 = jI z := by
  refine ⟨(x &&& jI 31).toInt, ?_, (Int32.ofInt_toInt _).symm⟩
  have e : (x &&& jI 31).toInt = (x.toBitVec &&& (jI 31).toBitVec).toInt := rfl
  have n1 : (x.toBitVec &&& (jI 31).toBitVec).toNat = x.toBitVec.toNat % 2 ^ 5 := by rw [BitVec.toNat_and, show (jI 31).toBitVec.toNat = 2 ^ 5 - 1 by decide, Nat.and_two_pow_sub_one_eq_mod]
  have hlt : x.toBitVec.toNat % 2 ^ 5 < 2 ^ 5 := Nat.mod_lt _ (by decide)
  rw [e, BitVec.toInt_eq_toNat_cond, n1, if_pos (by omega)]
  omega
theorem lg_self (x : Int64) : (Value.int (lg_cmp x x)) = vI 0 := by
  have : lg_cmp x x = 0 := by
    unfold lg_cmp
    rw [if_neg (by rw [gt_iff_lt, Int64.lt_iff_toInt_lt]; omega), if_pos rfl]
  rw [this]
  rfl
def ZS (X : zX) (sc L : Nat) (xi : Nat → Int) : Prop := match X with
  | (_, _, _, _, s, _, _, _, _, _, _, A, _, _) => va_X sc L (fun j => jI (xi j)) s s.heap ∧ sc < s.heap.size ∧ ¬ A sc
section ZRL
variable {X : zX} {cc : ByteArray} {y : MethodName} {d pc k n : Nat} {l st : List Value} {h : zH}
theorem Z.slen (C : ZC X cc y d) {sc L : Nat} {xi : Nat → Int} (S : ZS X sc L xi) (hd : decode cc pc = .ok (.arraylength, 1)) (kk : Z X (pc + 1) l (vI (L : Int) :: st) h k n) : Z X pc l (.ref sc :: st) h k n := by
  obtain ⟨p, ln, e, R, s, m, args, below, meth, c, G, A, nL, Q⟩ := X
  obtain ⟨hx, hb, hml, hown, hts, hK, hBG, hA, hlk, hnm, hfr, hlo, htr⟩ := C
  obtain ⟨s1, s2, s3⟩ := S
  intro H locs ls hP hS hdom hl
  have q := kk H locs ls hP hS hdom hl
  unfold vI at q
  rw [jI_nat] at q
  exact va_slen hx hb s1 s2 s3 hS hd q
theorem Z.sld (C : ZC X cc y d) {sc L j : Nat} {xi : Nat → Int} (S : ZS X sc L xi) (hd : decode cc pc = .ok (.iaload, 1)) (h2 : j < L) (hL : L < 2147483648) (kk : Z X (pc + 1) l (vI (xi j) :: st) h k n) : Z X pc l (vI (j : Int) :: .ref sc :: st) h k n := by
  obtain ⟨p, ln, e, R, s, m, args, below, meth, c, G, A, nL, Q⟩ := X
  obtain ⟨hx, hb, hml, hown, hts, hK, hBG, hA, hlk, hnm, hfr, hlo, htr⟩ := C
  obtain ⟨s1, s2, s3⟩ := S
  intro H locs ls hP hS hdom hl
  refine va_sld hx hb s1 s2 s3 hS (jI_in (by omega) (by exact_mod_cast h2) hL) hd ?_
  rw [jI_clamp (by omega) (by omega), Int.toNat_natCast]
  exact kk H locs ls hP hS hdom hl
theorem Z.newL (C : ZC X cc y d) {N : Nat} {x : Int} (harr : Cond.arrayClass .long ∈ zW) (hd : decode cc pc = .ok (.newarray .long, 2)) (hN : x = (N : Int)) (hb1 : N < 65536) (hk : k + 1 ≤ (zR_of X).cells) (hn : n + N ≤ (zR_of X).slots) (kk : ∀ a : Nat, h a = none → Z X (pc + 2) l (.ref a :: st) (zput h a (eL ((zG_of X).2.1 4) N (fun _ => 0))) (k + 1) (n + N)) : Z X pc l (vI x :: st) h k n := by
  subst hN
  obtain ⟨p, ln, e, R, s, m, args, below, meth, c, G, A, nL, Q⟩ := X
  obtain ⟨hx, hb, hml, hown, hts, hK, hBG, hA, hlk, hnm, hfr, hlo, htr⟩ := C
  intro H locs ls hP hS hdom hl
  refine va_newaK (atype := .long) (N := N) hx hb (hts _ harr) rfl hd rfl ?_ ?_ ?_ hk hn rfl fun H1 cA e1 z1 o1 hAr hNm => ?_
  · rw [jI_nat]; exact nI_pos (by omega)
  · rw [jI_nat]; exact nI_clamp (by omega)
  · show N * _ ≤ _
    have : componentBytes (newarray.typeOf .long) ≤ 8 := by decide
    exact Nat.le_trans (Nat.mul_le_mul (Nat.le_of_lt hb1) this) (by decide)
  · have hcA : cA = G.2.1 4 := by
      have q := (hK.2 4 (G.2.1 4, .long) rfl).2
      exact Option.some.inj (hNm.symm.trans q)
    have hAa : A H.size := hA _ hS.1
    refine kk H.size hP.fresh H1 locs ls (hP.put ?_ (fun q hq _ => o1 q hq)) (hS.new z1 o1) (zdom_put hdom hAa) hl
    show H1[H.size]? = some (vp_cell _ _)
    rw [vp_cell_l, e1, hcA]
    rfl
end ZRL
theorem Z.lawret {p : Program} {ln : Launch} {e : Env} {s : State} {m : MethodId} {below : List Frame} {meth : Method} {c : Code} {b : Nat} {G : zG} {y : MethodName} {d pc k n : Nat} {l : List Value} {h : zH} (C : ZC (p, ln, e, room_1, s, m, #[Value.ref b], below, meth, c, G, (fun q => s.heap.size ≤ q), 7, lw_Z below #[Value.ref b] s) code y d) (hr : meth.sig.returnType = ret) (hd : decode code pc = .ok (.ireturn, 1)) (hk : k ≤ 601024) (hn : n ≤ 7293034) : Z (p, ln, e, room_1, s, m, #[Value.ref b], below, meth, c, G, (fun q => s.heap.size ≤ q), 7, lw_Z below #[Value.ref b] s) pc l [vI 1] h k n := by
  obtain ⟨hx, hb, hml, hown, hts, hK, hBG, hA, hlk, hnm, hfr, hlo, htr⟩ := C
  intro H locs ls hP hS hdom hl
  refine W.widen hk hn (va_forget (fun q hq => hS.2.2 q hq) ?_)
  exact lw_ret hx hb hr hlk hd
/-- the club, the reference and the row of one long, apart from each other -/
def LSx (G : zG) (b : Nat) (a : Nat → Nat) (o : Nat) (T S : Nat → Nat → Int) (t : Int) (f : Nat → Int64) (h : zH) : Prop := ∃ hC hM : zH, CK G b T hC ∧ MR G a t S hM ∧ (∀ q x, hC q = some x → h q = some x) ∧ (∀ q x, hM q = some x → h q = some x) ∧ (∀ q, hC q ≠ none → hM q = none) ∧ h o = some (eL (G.2.1 4) 1 f) ∧ hC o = none ∧ hM o = none
theorem nn_of {x : Option va_E} (h : ¬ x = none) : ∃ y, x = some y := by
  cases x with
  | none => exact absurd rfl h
  | some y => exact ⟨y, rfl⟩
theorem sn {x : Option va_E} {y : va_E} (h : x = some y) : x ≠ none := by rw [h]; exact fun z => by cases z
theorem zFr.cls {G : zG} {b : Nat} {a : Nat → Nat} {o : Nat} {T' S : Nat → Nat → Int} {t : Int} {f : Nat → Int64} {h h9 hC hM hm9 : zH} (fr : zFr hC h hm9 h9) (kC : CK G b T' hm9) (kM : MR G a t S hM) (sC : ∀ q x, hC q = some x → h q = some x) (sM : ∀ q x, hM q = some x → h q = some x) (dj : ∀ q, hC q ≠ none → hM q = none) (ho : h o = some (eL (G.2.1 4) 1 f)) (oC : hC o = none) (oM : hM o = none) : LSx G b a o T' S t f h9 := by
  obtain ⟨f1, f2, f3⟩ := fr
  have key : ∀ q x, hM q = some x → hC q = none := fun q x e => by
    cases c : hC q with
    | none => rfl
    | some y => rw [dj q (sn c)] at e; cases e
  refine ⟨hm9, hM, kC, kM, f1, fun q x e => f2 q x (key q x e) (sM q x e), fun q e => ?_, f2 o _ oC ho, f3 o oC (sn ho), oM⟩
  cases c : hM q with
  | none => rfl
  | some y => exact absurd (f3 q (key q y c) (sn (sM q y c))) e
theorem zFr.mod {G : zG} {b : Nat} {a : Nat → Nat} {o : Nat} {T S' : Nat → Nat → Int} {t : Int} {f : Nat → Int64} {h h9 hC hM hm9 : zH} (fr : zFr hM h hm9 h9) (kC : CK G b T hC) (kM : MR G a t S' hm9) (sC : ∀ q x, hC q = some x → h q = some x) (dj : ∀ q, hC q ≠ none → hM q = none) (ho : h o = some (eL (G.2.1 4) 1 f)) (oC : hC o = none) (oM : hM o = none) : LSx G b a o T S' t f h9 := by
  obtain ⟨f1, f2, f3⟩ := fr
  exact ⟨hC, hm9, kC, kM, fun q x e => f2 q x (dj q (sn e)) (sC q x e), f1, fun q e => by
    obtain ⟨y, c⟩ := nn_of e
    exact f3 q (dj q e) (sn (sC q y c)), f2 o _ oM ho, oC, f3 o oM (sn ho)⟩
theorem LSx.out {G : zG} {b : Nat} {a : Nat → Nat} {o : Nat} {T S : Nat → Nat → Int} {t : Int} {f : Nat → Int64} {h : zH} (R : LSx G b a o T S t f h) (g : Nat → Int64) : LSx G b a o T S t g (zput h o (eL (G.2.1 4) 1 g)) := by
  obtain ⟨hC, hM, kC, kM, sC, sM, dj, ho, oC, oM⟩ := R
  exact ⟨hC, hM, kC, kM, fun q x e => (zput_ne _ _ (fun z => by rw [z, oC] at e; cases e)).trans (sC q x e), fun q x e => (zput_ne _ _ (fun z => by rw [z, oM] at e; cases e)).trans (sM q x e), dj, zput_same _ _ _, oC, oM⟩
abbrev JT : Type := (Nat → Nat → Int) → (Nat → Nat → Int) → Prop
def QKf (JJ : JT) (G : zG) (b : Nat) (c val : Int) (S' : Nat → Nat → Int) : Int → zH → Prop := fun v h9 => c = 0 ∧ v = val ∧ ∃ T', CK G b T' h9 ∧ JJ T' S'
def QXf (G : zG) (b : Nat) (c : Int) (T : Nat → Nat → Int) : Int → zH → Prop := fun k h9 => k = c ∧ CK G b T h9
def fQ (hC h : zH) (Q : Int → zH → Prop) : Int → zH → Prop := fun v h9 => ∃ hm9, Q v hm9 ∧ zFr hC h hm9 h9
/-- behind a helper -/
theorem LS.helped {JJ : JT} {G : zG} {b : Nat} {a : Nat → Nat} {o : Nat} {T S S' : Nat → Nat → Int} {t c val : Int} {f : Nat → Int64} {h h9 hC hM : zH} {r9 : Option Value} (hj : JJ T S) (kM : MR G a t S hM) (sC : ∀ q x, hC q = some x → h q = some x) (sM : ∀ q x, hM q = some x → h q = some x) (dj : ∀ q, hC q ≠ none → hM q = none) (ho : h o = some (eL (G.2.1 4) 1 f)) (oC : hC o = none) (oM : hM o = none)
    (hp : (∃ v h8 g, fQ hC h (QKf JJ G b c val S') v h8 ∧ r9 = some (vI 0) ∧ h9 = zput h8 o (eL (G.2.1 4) 1 g) ∧ g 0 = (jI v).toInt64) ∨ ∃ c' : Int, (1 ≤ c' ∧ c' ≤ 3) ∧ fQ hC h (QXf G b c T) c' h9 ∧ r9 = some (vI c')) :
    ∃ T' g, r9 = some (vI c) ∧ (0 ≤ c ∧ c ≤ 3) ∧ LSx G b a o T' S t g h9 ∧ JJ T' (if c = 0 then S' else S) ∧ (c = 0 → g 0 = (jI val).toInt64) := by
  rcases hp with ⟨v, h8, g, ⟨hm9, ⟨rfl, rfl, T', kC, hj'⟩, fr⟩, rfl, rfl, hg⟩ | ⟨c', hc, ⟨hm9, ⟨rfl, kC⟩, fr⟩, rfl⟩
  · exact ⟨T', g, rfl, by decide, (fr.cls kC kM sC sM dj ho oC oM).out g, by rw [if_pos rfl]; exact hj', fun _ => hg⟩
  · exact ⟨T, f, rfl, by omega, fr.cls kC kM sC sM dj ho oC oM, by rw [if_neg (by omega)]; exact hj, fun z => by omega⟩
/-- behind the reference's method -/
theorem LS.modded {G : zG} {b : Nat} {a : Nat → Nat} {o : Nat} {T S S' : Nat → Nat → Int} {c val : Int} {f : Nat → Int64} {h h9 hC hM : zH} {r9 : Option Value} (kC : CK G b T hC) (sC : ∀ q x, hC q = some x → h q = some x) (dj : ∀ q, hC q ≠ none → hM q = none) (ho : h o = some (eL (G.2.1 4) 1 f)) (oC : hC o = none) (oM : hM o = none)
    (hp : ∃ hm9, mAns G a S c val S' r9 hm9 ∧ zFr hM h hm9 h9) : ∃ b9, r9 = some (vI b9) ∧ LSx G b a o T (if c = 0 then S' else S) c f h9 ∧ (c = 0 → b9 = val) := by
  obtain ⟨hm9, ⟨m1, m2⟩, fr⟩ := hp
  by_cases z : c = 0
  · obtain ⟨e, R⟩ := m2 z
    subst z
    exact ⟨val, e, by rw [if_pos rfl]; exact fr.mod kC R sC dj ho oC oM, fun _ => rfl⟩
  · obtain ⟨e, R⟩ := m1 z
    exact ⟨0, e, by rw [if_neg z]; exact fr.mod kC R sC dj ho oC oM, fun y => absurd y z⟩

