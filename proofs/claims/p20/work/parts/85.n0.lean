/-! THE LAW'S OWN ROWS: its counts n, its script, both clubs -/
def nvf (a b c : Int) : Nat → Int := fun j => match j with
  | 0 => a
  | 1 => b
  | 2 => c
  | _ => 0
theorem nvf_0 (a b c z : Int) : va_up (nvf a b c) (0 : Int).toNat z = nvf z b c := funext fun j => by
  match j with
  | 0 => rfl
  | 1 => rfl
  | 2 => rfl
  | n + 3 => rfl
theorem nvf_1 (a b c z : Int) : va_up (nvf a b c) (1 : Int).toNat z = nvf a z c := funext fun j => by
  match j with
  | 0 => rfl
  | 1 => rfl
  | 2 => rfl
  | n + 3 => rfl
theorem nvf_2 (a b c z : Int) : va_up (nvf a b c) (2 : Int).toNat z = nvf a b z := funext fun j => by
  match j with
  | 0 => rfl
  | 1 => rfl
  | 2 => rfl
  | n + 3 => rfl
theorem nvf_z : nvf 0 0 0 = fun _ => 0 := funext fun j => by
  match j with
  | 0 => rfl
  | 1 => rfl
  | 2 => rfl
  | n + 3 => rfl
theorem jne {c : Int} (h1 : 0 < c) (h2 : c < 2147483648) : ¬ jI c = 0 := fun e => by
  have h3 : jI c = jI 0 := e.trans (by decide)
  have := (jI_eq (by omega) h2 (by decide) (by decide)).mp h3
  omega
theorem jdiv {x c : Int} (h1 : 0 ≤ x) (h2 : x < 2147483648) (h3 : 0 < c) (h4 : c < 2147483648) : jI x / jI c = jI (x / c) := by
  obtain ⟨q, rfl⟩ := Int.eq_ofNat_of_zero_le (Int.le_of_lt h3)
  exact jI_div10 h1 h2 q (by omega) (by omega)
theorem jrem {x c : Int} (h1 : 0 ≤ x) (h2 : x < 2147483648) (h3 : 0 < c) (h4 : c < 2147483648) : jI x - jI x / jI c * jI c = jI (x % c) := by
  obtain ⟨q, rfl⟩ := Int.eq_ofNat_of_zero_le (Int.le_of_lt h3)
  exact jI_rem10 h1 h2 q (by omega) (by omega)
theorem and_mask (x : Int32) : ∃ z : Int, (0 ≤ z ∧ z ≤ 2147483647) ∧ x &&& jI 2147483647 = jI z := by
  refine ⟨(x &&& jI 2147483647).toInt, ?_, (Int32.ofInt_toInt _).symm⟩
  have e : (x &&& jI 2147483647).toInt = (x.toBitVec &&& (jI 2147483647).toBitVec).toInt := rfl
  have n1 : (x.toBitVec &&& (jI 2147483647).toBitVec).toNat = x.toBitVec.toNat % 2 ^ 31 := by rw [BitVec.toNat_and, show (jI 2147483647).toBitVec.toNat = 2 ^ 31 - 1 by decide, Nat.and_two_pow_sub_one_eq_mod]
  have hlt : x.toBitVec.toNat % 2 ^ 31 < 2 ^ 31 := Nat.mod_lt _ (by decide)
  rw [e, BitVec.toInt_eq_toNat_cond, n1, if_pos (by omega)]
  omega
section ZRN
variable {X : zX} {cc : ByteArray} {y : MethodName} {d pc k n : Nat} {l st : List Value} {h : zH}
theorem Z.nld0 (C : ZC X cc y d) {o : Nat} {a b c : Int} (hd : decode cc pc = .ok (.iaload, 1)) (ho : h o = some (eI ((zG_of X).2.1 0) 3 (nvf a b c))) (kk : Z X (pc + 1) l (vI a :: st) h k n) : Z X pc l (vI 0 :: .ref o :: st) h k n := Z.iaload C hd ho (by decide) (by decide) (by decide) kk
theorem Z.nld1 (C : ZC X cc y d) {o : Nat} {a b c : Int} (hd : decode cc pc = .ok (.iaload, 1)) (ho : h o = some (eI ((zG_of X).2.1 0) 3 (nvf a b c))) (kk : Z X (pc + 1) l (vI b :: st) h k n) : Z X pc l (vI 1 :: .ref o :: st) h k n := Z.iaload C hd ho (by decide) (by decide) (by decide) kk
theorem Z.nld2 (C : ZC X cc y d) {o : Nat} {a b c : Int} (hd : decode cc pc = .ok (.iaload, 1)) (ho : h o = some (eI ((zG_of X).2.1 0) 3 (nvf a b c))) (kk : Z X (pc + 1) l (vI c :: st) h k n) : Z X pc l (vI 2 :: .ref o :: st) h k n := Z.iaload C hd ho (by decide) (by decide) (by decide) kk
theorem Z.nst0 (C : ZC X cc y d) {o : Nat} {a b c z : Int} (hd : decode cc pc = .ok (.iastore, 1)) (ho : h o = some (eI ((zG_of X).2.1 0) 3 (nvf a b c))) (kk : Z X (pc + 1) l st (zput h o (eI ((zG_of X).2.1 0) 3 (nvf z b c))) k n) : Z X pc l (vI z :: vI 0 :: .ref o :: st) h k n := Z.iastore C hd ho (by decide) (by decide) (by decide) (by rw [nvf_0]; exact kk)
theorem Z.nst1 (C : ZC X cc y d) {o : Nat} {a b c z : Int} (hd : decode cc pc = .ok (.iastore, 1)) (ho : h o = some (eI ((zG_of X).2.1 0) 3 (nvf a b c))) (kk : Z X (pc + 1) l st (zput h o (eI ((zG_of X).2.1 0) 3 (nvf a z c))) k n) : Z X pc l (vI z :: vI 1 :: .ref o :: st) h k n := Z.iastore C hd ho (by decide) (by decide) (by decide) (by rw [nvf_1]; exact kk)
theorem Z.nst2 (C : ZC X cc y d) {o : Nat} {a b c z : Int} (hd : decode cc pc = .ok (.iastore, 1)) (ho : h o = some (eI ((zG_of X).2.1 0) 3 (nvf a b c))) (kk : Z X (pc + 1) l st (zput h o (eI ((zG_of X).2.1 0) 3 (nvf a b z))) k n) : Z X pc l (vI z :: vI 2 :: .ref o :: st) h k n := Z.iastore C hd ho (by decide) (by decide) (by decide) (by rw [nvf_2]; exact kk)
theorem Z.idv (C : ZC X cc y d) {x c : Int} (hd : decode cc pc = .ok (.idiv, 1)) (h1 : 0 ≤ x) (h2 : x < 2147483648) (h3 : 0 < c) (h4 : c < 2147483648) (kk : Z X (pc + 1) l (vI (x / c) :: st) h k n) : Z X pc l (vI c :: vI x :: st) h k n := Z.idiv C hd (jne h3 h4) (jdiv h1 h2 h3 h4) kk
theorem Z.irm (C : ZC X cc y d) {x c : Int} (hd : decode cc pc = .ok (.irem, 1)) (h1 : 0 ≤ x) (h2 : x < 2147483648) (h3 : 0 < c) (h4 : c < 2147483648) (kk : 0 ≤ x % c → x % c < c → Z X (pc + 1) l (vI (x % c) :: st) h k n) : Z X pc l (vI c :: vI x :: st) h k n := Z.irem C hd (jne h3 h4) (jrem h1 h2 h3 h4) (kk (Int.emod_nonneg x (by omega)) (Int.emod_lt_of_pos x h3))
theorem Z.icmp_same (C : ZC X cc y d) {x : Int} {off : Int} {tgt : Nat} (hd : decode cc pc = .ok (.if_icmp .ne off, 3)) (ht : (pc : Int) + off = (tgt : Int)) (kf : Z X (pc + 3) l st h k n) : Z X pc l (vI x :: vI x :: st) h k n := by
  obtain ⟨p, ln, e, R, s, m, args, below, meth, c, G, A, nL, Q⟩ := X
  obtain ⟨hx, hb, hml, hown, hts, hK, hBG, hA, hlk, hnm, hfr, hlo, htr⟩ := C
  intro H locs ls hP hS hdom hl
  exact lv_icmp_ne hx hb hd ht (fun q => absurd rfl q) (fun _ => kf H locs ls hP hS hdom hl)
/-- a number whose range isn't known: both ways -/
theorem Z.if_lt_w (C : ZC X cc y d) {x : Int} {off : Int} {tgt : Nat} (hd : decode cc pc = .ok (.ifCond .lt off, 3)) (ht : (pc : Int) + off = (tgt : Int)) (kt : ((-2147483648 ≤ x ∧ x < 2147483648) → x < 0) → Z X tgt l st h k n) (kf : ((-2147483648 ≤ x ∧ x < 2147483648) → ¬ x < 0) → Z X (pc + 3) l st h k n) : Z X pc l (vI x :: st) h k n := by
  obtain ⟨p, ln, e, R, s, m, args, below, meth, c, G, A, nL, Q⟩ := X
  obtain ⟨hx, hb, hml, hown, hts, hK, hBG, hA, hlk, hnm, hfr, hlo, htr⟩ := C
  intro H locs ls hP hS hdom hl
  exact lv_if_lt hx hb hd ht (fun q => kt (fun r => (jI_lt r.1 r.2 (b := 0) (by decide) (by decide)).mp q) H locs ls hP hS hdom hl) (fun q => kf (fun r z => q ((jI_lt r.1 r.2 (b := 0) (by decide) (by decide)).mpr z)) H locs ls hP hS hdom hl)
end ZRN
/-! the script, also in a method that is called -/
def ZS (X : zX) (sc L : Nat) (xi : Nat → Int) : Prop := match X with
  | (_, _, _, _, s, _, _, _, _, _, _, A, _, _) => va_X sc L (fun j => jI (xi j)) s s.heap ∧ sc < s.heap.size ∧ ¬ A sc
section ZRS
variable {X : zX} {cc : ByteArray} {y : MethodName} {d pc k n : Nat} {l st : List Value} {h : zH}
theorem Z.slen (C : ZC X cc y d) {sc L : Nat} {xi : Nat → Int} (S : ZS X sc L xi) (hd : decode cc pc = .ok (.arraylength, 1)) (kk : Z X (pc + 1) l (vI (L : Int) :: st) h k n) : Z X pc l (.ref sc :: st) h k n := by
  obtain ⟨p, ln, e, R, s, m, args, below, meth, c, G, A, nL, Q⟩ := X
  obtain ⟨hx, hb, hml, hown, hts, hK, hBG, hA, hlk, hnm, hfr, hlo, htr⟩ := C
  obtain ⟨s1, s2, s3⟩ := S
  intro H locs ls hP hS hdom hl
  have q := kk H locs ls hP hS hdom hl
  unfold vI at q
  rw [jI_nat] at q
  exact va_slen hx hb s1 s2 s3 hS hd q
theorem Z.sld (C : ZC X cc y d) {sc L j : Nat} {xi : Nat → Int} (S : ZS X sc L xi) (hd : decode cc pc = .ok (.iaload, 1)) (h2 : j < L) (hL : L < 2147483648) (kk : Z X (pc + 1) l (vI (xi j) :: st) h k n) : Z X pc l (vI (j : Int) :: .ref sc :: st) h k n := by
  obtain ⟨p, ln, e, R, s, m, args, below, meth, c, G, A, nL, Q⟩ := X
  obtain ⟨hx, hb, hml, hown, hts, hK, hBG, hA, hlk, hnm, hfr, hlo, htr⟩ := C
  obtain ⟨s1, s2, s3⟩ := S
  intro H locs ls hP hS hdom hl
  refine va_sld hx hb s1 s2 s3 hS (jI_in (by omega) (by exact_mod_cast h2) hL) hd ?_
  rw [jI_clamp (by omega) (by omega), Int.toNat_natCast]
  exact kk H locs ls hP hS hdom hl
end ZRS
def zPs (G : zG) (h : zH) (sz : Nat) (as : List Value) (sc L : Nat) (xi : Nat → Int) : Array Value → State → Prop := fun v U => zPc G h sz as v U ∧ va_X sc L (fun j => jI (xi j)) U U.heap ∧ sc < U.heap.size ∧ ¬ zA h sz sc
theorem zPs_blind (G : zG) (h : zH) (sz : Nat) (as : List Value) (sc L : Nat) (xi : Nat → Int) : FrameBlind (zPs G h sz as sc L xi) := by
  intro a U g mk q
  obtain ⟨q1, q2, q3, q4⟩ := q
  exact ⟨zPc_blind G h sz as a U g mk q1, va_X.moved (u := U) (U := U.calling g mk a) (Vm.Alike.refl U.vm) q2, q3, q4⟩
def CTS (ln : Launch) (G : zG) (y : MethodName) (cc : ByteArray) (maxL : Nat) (ret : Option FieldType) (d : Nat) (as : List Value) (h : zH) (mc ms : Nat) (Qf : Option Value → zH → Prop) (sc L : Nat) (xi : Nat → Int) : Prop :=
  ∀ sz : Nat, vx_Met ln y (Cond.code y cc maxL ret :: zW) (zRm d mc ms) (zPs G h sz as sc L xi) (zQc G (zA h sz) Qf) (zXc G (zA h sz) zNo) mc ms (zA h sz)
theorem CTS.intro {ln : Launch} {G : zG} {y : MethodName} {cc : ByteArray} {maxL : Nat} {ret : Option FieldType} {d : Nat} {as : List Value} {h : zH} {mc ms : Nat} {Qf : Option Value → zH → Prop} {sc L : Nat} {xi : Nat → Int} (htr : ln.stackTraces = false) (hy : plainName y.cls = true) (hcat : as.all (fun v => v.category == 1) = true) (hlen : as.length ≤ maxL)
    (body : ∀ X : zX, zLn X = ln → zG_of X = G → zR_of X = zRm d mc ms → zN X = maxL → ZC X cc y d → zEnd X ret mc ms Qf zNo → ZS X sc L xi → Z X 0 as [] h 0 0) : CTS ln G y cc maxL ret d as h mc ms Qf sc L xi := by
  intro sz
  have hcat' : ∀ v ∈ as, v.category = 1 := fun v hv => by
    have := List.all_eq_true.mp hcat v hv
    simpa using this
  refine vx_ofW (cc := cc) (maxL := maxL) (ret := ret) hy rfl ?_
  intro p e s m args below meth c s₁ B hml htab hv
  obtain ⟨⟨rfl, hsz, hP, hK, hBG⟩, hX1, hX2, hX3⟩ := hv
  have hts : ∀ w ∈ zW, w.before as.toArray s = true := fun w hw => atoms_spec (ws := Cond.code y cc maxL ret :: zW) B.pre w (List.mem_cons_of_mem _ hw)
  rw [lg_entry_eq]
  have hln : (lg_sl as).length = as.length := zsl_len as hcat'
  have he := lv_entry as (n := maxL) (by rw [hln]; exact hlen)
  refine body (p, ln, e, zRm d mc ms, s, m, as.toArray, below, meth, c, G, zA h sz, maxL, vx_MQ below (zQc G (zA h sz) Qf) (zXc G (zA h sz) zNo) as.toArray s mc ms (zA h sz)) rfl rfl rfl rfl
    ⟨B.exec, B.bytes, hml, findClass_of_methodNamed B.named, hts, hK, hBG, fun q hq => Or.inr (by rw [← hsz]; exact hq), B.notSynchronized, (name_of_methodNamed B.named B.method).1, Nat.le_refl _, Nat.le_refl _, htr⟩
    ⟨rfl, B.returns, htab⟩ ⟨hX1, hX2, hX3⟩ s.heap [] _ hP va_S.rf (fun q hq => Or.inl hq) ⟨he.1, he.2.1, fun i v hi => ⟨?_, hcat' v (List.mem_of_getElem? hi)⟩⟩
  have := zargs_mem as 0 hcat' i v hi
  rw [Nat.zero_add] at this
  exact he.2.2 _ this
section ZRC
variable {X : zX} {cc : ByteArray} {y : MethodName} {d pc k n : Nat} {l st : List Value} {h : zH}
theorem Z.callSS (C : ZC X cc y d) {sc L : Nat} {xi : Nat → Int} (S : ZS X sc L xi) {index : Nat} {y2 : MethodName} {cc2 : ByteArray} {maxL d2 mc ms : Nat} {ret : Option FieldType} {as sk : List Value} {Qf : Option Value → zH → Prop} (hlink : Cond.methodLink y.cls index y2 ∈ zW) (hini : Cond.initialized y2.cls ∈ zW) (hcode : Cond.code y2 cc2 maxL ret ∈ zW) (hne : y2.cls ≠ "java/lang/invoke/MethodHandle" ∧ y2.cls ≠ "java/lang/invoke/VarHandle") (hpar : (parseMethodDescriptor y2.desc).map (fun d => d.parameters.length) = some as.length) (hmaxL : maxL ≤ 19) (hstat : Cond.static y2 ∈ zW) (hd : decode cc pc = .ok (.invokestatic index, 3)) (hct : CTS (zLn X) (zG_of X) y2 cc2 maxL ret d2 as h mc ms Qf sc L xi) (hsk : as.reverse ++ st = sk) (hd2 : d2 + 1 ≤ d) (hcat : (st.map fun v => v.category).sum ≤ 8) (hk : k + mc ≤ (zR_of X).cells) (hn : n + ms ≤ (zR_of X).slots) (kk : ∀ (v : Option Value) (h' : zH), Qf v h' → Z X (pc + 3) l (v.toList ++ st) h' (k + mc) (n + ms)) : Z X pc l sk h k n := by
  subst hsk
  obtain ⟨p, ln, e, R, s, m, args, below, meth, c, G, A, nL, Q⟩ := X
  obtain ⟨hx, hb, hml, hown, hts, hK, hBG, hA, hlk, hnm, hfr, hlo, htr⟩ := C
  obtain ⟨s1, s2, s3⟩ := S
  intro H locs ls hP hS hdom hl
  have hfr2 : (zRm d2 mc ms).frames + 1 ≤ R.frames := Nat.le_trans hd2 hfr
  have hlo2 : 8 + (maxL + 11) + (zRm d2 mc ms).locals ≤ R.locals := by
    refine Nat.le_trans ?_ hlo
    show 8 + (maxL + 11) + 38 * d2 ≤ 38 * d
    omega
  have hplen : ∀ sig, parseMethodDescriptor y2.desc = some sig → as.length = sig.parameters.length := fun sig q => by
    rw [q] at hpar
    exact (Option.some.inj hpar).symm
  have hcb : CallB R s args y.cls index y2 cc2 maxL ret (Cond.code y2 cc2 maxL ret :: zW) (zRm d2 mc ms) mc ms as.length := ⟨rfl, rfl, hfr2, hlo2, zPay hts hcode, List.mem_cons_self, hts _ hcode, hts _ hini, hne, hplen, hts _ hlink⟩
  have hfix : CallFix p m c cc nL s args zW y.cls := ⟨hx, hb, hml, hown, hts⟩
  have hse : ∀ U : State, U.heap = H → s.WarmedH U.vm → zPs G h H.size as sc L xi as.toArray U := fun U hU hW => by
    refine ⟨zSeen (args := args) hS hdom hA hP hK hBG hU hW, ?_, ?_, fun q => ?_⟩
    · rw [hU]
      exact va_X.moved hW.alike (va_X.kept s1 (hS.2.1 sc s2 s3))
    · rw [hU]
      exact Nat.lt_of_lt_of_le s2 hS.1
    · rcases q with q | q
      · exact s3 (hdom sc q)
      · exact absurd (Nat.lt_of_lt_of_le s2 hS.1) (Nat.not_lt.mpr q)
  refine zRunEnd (Xf := zNo) hS hdom hA hl (vx_runS hfix (hct H.size) ⟨hcb, hts _ hstat⟩ ⟨zPs_blind _ _ _ _ _ _ _, hse⟩ rfl rfl hl.1 rfl (lv_room hcat) hd ⟨hk, hn⟩) kk (fun E h' q => q.elim)
end ZRC
theorem CTH.mono {ln : Launch} {G : zG} {y : MethodName} {cc : ByteArray} {maxL : Nat} {ret : Option FieldType} {hh : List (Nat × Nat × Nat × Nat)} {d : Nat} {as : List Value} {h : zH} {mc ms : Nat} {Qf Qf' : Option Value → zH → Prop} (h0 : CTH ln G y cc maxL ret hh d as h mc ms Qf) (hq : ∀ v h', Qf v h' → Qf' v h') : CTH ln G y cc maxL ret hh d as h mc ms Qf' := by
  intro sz p e h1 h2 h3 s m args below h4 h5 h6 h7
  obtain ⟨n, o, a1, a2, a3, a4⟩ := h0 sz p e h1 h2 h3 s m args below h4 h5 h6 h7
  refine ⟨n, o, a1, a2, a3, ?_⟩
  rcases a4 with ⟨⟨v, h', b1, b2, b3⟩, b4⟩ | b
  · exact Or.inl ⟨⟨v, h', b1, hq _ _ b2, b3⟩, b4⟩
  · exact Or.inr b
/-- both clubs and the row of counts, apart from each other -/
def LD (G : zG) (b1 b2 o : Nat) (S1 S2 : Nat → Nat → Int) (nv : Nat → Int) (h : zH) : Prop := ∃ h1 T1 h2 T2, (CK G b1 T1 h1 ∧ JJ T1 S1) ∧ (CK G b2 T2 h2 ∧ JJ T2 S2) ∧ (∀ q x, h1 q = some x → h q = some x) ∧ (∀ q x, h2 q = some x → h q = some x) ∧ (∀ q, h1 q ≠ none → h2 q = none) ∧ h o = some (eI (G.2.1 0) 3 nv) ∧ h1 o = none ∧ h2 o = none
theorem LD.use1 {G : zG} {b1 b2 o : Nat} {S1 S2 : Nat → Nat → Int} {nv : Nat → Int} {h : zH} (L : LD G b1 b2 o S1 S2 nv h) : ∃ hC, hC o = none ∧ SC G b1 S1 hC h h ∧ ∀ S h9, SC G b1 S hC h h9 → LD G b1 b2 o S S2 nv h9 := by
  obtain ⟨h1, T1, h2, T2, ⟨k1, j1⟩, ⟨k2, j2⟩, s1, s2, dj, ho, o1, o2⟩ := L
  refine ⟨h1, o1, ⟨h1, T1, k1, j1, zFr.rf s1⟩, fun S h9 K => ?_⟩
  obtain ⟨hm, T, k9, j9, f1, f2, f3⟩ := K
  have dj2 : ∀ q x, h2 q = some x → h1 q = none := fun q x e => by
    cases c : h1 q with
    | none => rfl
    | some y => rw [dj q (sn c)] at e; cases e
  refine ⟨hm, T, h2, T2, ⟨k9, j9⟩, ⟨k2, j2⟩, f1, fun q x e => f2 q x (dj2 q x e) (s2 q x e), fun q e => ?_, f2 o _ o1 ho, f3 o o1 (sn ho), o2⟩
  cases c : h2 q with
  | none => rfl
  | some y => exact absurd (f3 q (dj2 q y c) (sn (s2 q y c))) e
theorem LD.use2 {G : zG} {b1 b2 o : Nat} {S1 S2 : Nat → Nat → Int} {nv : Nat → Int} {h : zH} (L : LD G b1 b2 o S1 S2 nv h) : ∃ hC, hC o = none ∧ SC G b2 S2 hC h h ∧ ∀ S h9, SC G b2 S hC h h9 → LD G b1 b2 o S1 S nv h9 := by
  obtain ⟨h1, T1, h2, T2, ⟨k1, j1⟩, ⟨k2, j2⟩, s1, s2, dj, ho, o1, o2⟩ := L
  refine ⟨h2, o2, ⟨h2, T2, k2, j2, zFr.rf s2⟩, fun S h9 K => ?_⟩
  obtain ⟨hm, T, k9, j9, f1, f2, f3⟩ := K
  refine ⟨h1, T1, hm, T, ⟨k1, j1⟩, ⟨k9, j9⟩, fun q x e => f2 q x (dj q (sn e)) (s1 q x e), f1, fun q e => ?_, f2 o _ o2 ho, o1, f3 o o2 (sn ho)⟩
  obtain ⟨y, c⟩ := nn_of e
  exact f3 q (dj q e) (sn (s1 q y c))
theorem LD.arr {G : zG} {b1 b2 o : Nat} {S1 S2 : Nat → Nat → Int} {nv : Nat → Int} {h : zH} (L : LD G b1 b2 o S1 S2 nv h) : h o = some (eI (G.2.1 0) 3 nv) := by
  obtain ⟨h1, T1, h2, T2, -, -, -, -, -, ho, -, -⟩ := L
  exact ho
theorem LD.put {G : zG} {b1 b2 o : Nat} {S1 S2 : Nat → Nat → Int} {nv : Nat → Int} {h : zH} (L : LD G b1 b2 o S1 S2 nv h) (nv2 : Nat → Int) : LD G b1 b2 o S1 S2 nv2 (zput h o (eI (G.2.1 0) 3 nv2)) := by
  obtain ⟨h1, T1, h2, T2, k1, k2, s1, s2, dj, ho, o1, o2⟩ := L
  exact ⟨h1, T1, h2, T2, k1, k2, fun q x e => (zput_ne _ _ (fun z => by rw [z, o1] at e; cases e)).trans (s1 q x e), fun q x e => (zput_ne _ _ (fun z => by rw [z, o2] at e; cases e)).trans (s2 q x e), dj, zput_same _ _ _, o1, o2⟩
theorem LD.c1 {G : zG} {b1 b2 o : Nat} {S1 S2 : Nat → Nat → Int} {nv : Nat → Int} {h : zH} (L : LD G b1 b2 o S1 S2 nv h) : jC (fun _ _ => False) S1 := by
  obtain ⟨h1, T1, h2, T2, ⟨-, j⟩, -⟩ := L
  exact j.2.2
theorem SC.hour {ln : Launch} (htr : ln.stackTraces = false) {G : zG} {b : Nat} {S : Nat → Nat → Int} {hC0 h0 h : zH} (K : SC G b S hC0 h0 h) : CT ln G yX6_hour cX6_hour 1 (some .int) 1 [.ref b] h 0 0 (fun r9 h9 => r9 = some (vI (S 1 0)) ∧ SC G b S hC0 h0 h9) zNo := by
  obtain ⟨hm, T, ⟨ad, el, rfl, R⟩, hj, fr⟩ := K
  refine CT.mono (CT.frame fr.1 (c_X6_hour htr R hj.2.1.1)) (fun r9 h9 z => ?_) (fun E h9 z => ?_)
  · obtain ⟨hm9, ⟨e, z1⟩, g⟩ := z
    subst z1
    exact ⟨by rw [e, hj.m.2.2], _, T, ⟨ad, el, rfl, R⟩, hj, fr.trans g⟩
  · obtain ⟨_, q, _⟩ := z
    exact q
