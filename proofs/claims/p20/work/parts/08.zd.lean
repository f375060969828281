def zLn (X : zX) : Launch := X.2.1
theorem zPc_blind (G : zG) (h : zH) (sz : Nat) (as : List Value) : FrameBlind (zPc G h sz as) := by
  intro a U g mk q
  obtain ⟨h1, h2, h3, h4, h5⟩ := q
  exact ⟨h1, h2, h3, zK.moved (u := U) (U := U.calling g mk a) (Vm.Alike.refl U.vm) h4, zBG.warm (u := U) (U := U.calling g mk a) (State.WarmedH.refl U) h5⟩
theorem zPay {s : State} {args : Array Value} (hts : ∀ w ∈ zW, w.before args s = true) {w0 : Cond} (h0 : w0 ∈ zW) : ∀ w ∈ w0 :: zW, ∀ (a' : Array Value) (U : State), s.WarmedH U.vm → w.before a' U = true := by
  intro w hw a' U hW
  have h1 : w ∈ zW := by
    rcases List.mem_cons.mp hw with rfl | h
    · exact h0
    · exact h
  exact word_at hW (good_of_word (zW_good h1)) (hts w h1)
theorem zMet {ln : Launch} {y : MethodName} {ws : List Cond} {rm : Room} {Pc : Array Value → State → Prop} {Qc : Array Value → State → Outcome → State → Prop} {XC : String → State → State → Prop} {mc ms : Nat} {free : Addr → Prop} (h : vx_Met ln y ws rm Pc Qc XC mc ms free) (hno : ∀ E st t, ¬ XC E st t) : Met ln y ws rm Pc Qc mc ms free := by
  intro p e h1 h2 h3 s m args below h4 h5 h6 h7
  obtain ⟨n, o, a1, a2, a3, a4⟩ := h p e h1 h2 h3 s m args below h4 h5 h6 h7
  refine ⟨n, o, a1, a2, a3, ?_⟩
  rcases a4 with q | ⟨q, -, E, ce, L, z, -⟩
  · exact q
  · exact absurd z (hno _ _ _)
def zNo : String → zH → Prop := fun _ _ => False
theorem zNo_c {G : zG} {A : Nat → Prop} : ∀ E st t, ¬ zXc G A zNo E st t := fun _ _ _ h => by obtain ⟨_, q, _⟩ := h; exact q
/-- a contract's start -/
theorem CT.intro {ln : Launch} {G : zG} {y : MethodName} {cc : ByteArray} {maxL : Nat} {ret : Option FieldType} {d : Nat} {as : List Value} {h : zH} {mc ms : Nat} {Qf : Option Value → zH → Prop} {Xf : String → zH → Prop} (htr : ln.stackTraces = false) (hy : plainName y.cls = true) (hcat : as.all (fun v => v.category == 1) = true) (hlen : as.length ≤ maxL)
    (body : ∀ X : zX, zLn X = ln → zG_of X = G → zR_of X = zRm d mc ms → zN X = maxL → ZC X cc y d → zEnd X ret mc ms Qf Xf → Z X 0 as [] h 0 0) : CT ln G y cc maxL ret d as h mc ms Qf Xf := by
  intro sz
  have hcat' : ∀ v ∈ as, v.category = 1 := fun v hv => by
    have := List.all_eq_true.mp hcat v hv
    simpa using this
  refine vx_ofW (cc := cc) (maxL := maxL) (ret := ret) hy rfl ?_
  intro p e s m args below meth c s₁ B hml htab hv
  obtain ⟨rfl, hsz, hP, hK, hBG⟩ := hv
  have hts : ∀ w ∈ zW, w.before as.toArray s = true := fun w hw => atoms_spec (ws := Cond.code y cc maxL ret :: zW) B.pre w (List.mem_cons_of_mem _ hw)
  rw [lg_entry_eq]
  have hln : (lg_sl as).length = as.length := zsl_len as hcat'
  have he := lv_entry as (n := maxL) (by rw [hln]; exact hlen)
  refine body (p, ln, e, zRm d mc ms, s, m, as.toArray, below, meth, c, G, zA h sz, maxL, vx_MQ below (zQc G (zA h sz) Qf) (zXc G (zA h sz) Xf) as.toArray s mc ms (zA h sz)) rfl rfl rfl rfl
    ⟨B.exec, B.bytes, hml, findClass_of_methodNamed B.named, hts, hK, hBG, fun q hq => Or.inr (by rw [← hsz]; exact hq), B.notSynchronized, (name_of_methodNamed B.named B.method).1, Nat.le_refl _, Nat.le_refl _, htr⟩
    ⟨rfl, B.returns, htab⟩ s.heap [] _ hP va_S.rf (fun q hq => Or.inl hq) ⟨he.1, he.2.1, fun i v hi => ⟨?_, hcat' v (List.mem_of_getElem? hi)⟩⟩
  have := zargs_mem as 0 hcat' i v hi
  rw [Nat.zero_add] at this
  exact he.2.2 _ this
/-- weaker ends -/
theorem CT.mono {ln : Launch} {G : zG} {y : MethodName} {cc : ByteArray} {maxL : Nat} {ret : Option FieldType} {d : Nat} {as : List Value} {h : zH} {mc ms : Nat} {Qf Qf' : Option Value → zH → Prop} {Xf Xf' : String → zH → Prop} (h0 : CT ln G y cc maxL ret d as h mc ms Qf Xf) (hq : ∀ v h', Qf v h' → Qf' v h') (hx : ∀ E h', Xf E h' → Xf' E h') : CT ln G y cc maxL ret d as h mc ms Qf' Xf' := by
  intro sz p e h1 h2 h3 s m args below h4 h5 h6 h7
  obtain ⟨n, o, a1, a2, a3, a4⟩ := h0 sz p e h1 h2 h3 s m args below h4 h5 h6 h7
  refine ⟨n, o, a1, a2, a3, ?_⟩
  rcases a4 with ⟨⟨v, h', b1, b2, b3⟩, b4⟩ | ⟨q, b1, E, ce, L, ⟨h', b2, b3⟩, b4⟩
  · exact Or.inl ⟨⟨v, h', b1, hq _ _ b2, b3⟩, b4⟩
  · exact Or.inr ⟨q, b1, E, ce, L, ⟨h', hx _ _ b2, b3⟩, b4⟩

section ZR
variable {X : zX} {cc : ByteArray} {y : MethodName} {d : Nat} {pc : Nat} {l st : List Value} {h : zH} {k n : Nat}

theorem zRunEnd {p : Program} {ln : Launch} {e : Env} {R : Room} {s : State} {m : MethodId} {args : Array Value} {below : List Frame} {meth : Method} {c : Code} {G : zG} {A : Nat → Prop} {nL : Nat} {Q : State → Prop} {H : Heap} {locs : List Loc} {ls : Array Slot} {mc ms : Nat} {a : Array Value} {st0 : List Value} {Qf : Option Value → zH → Prop} {Xf : String → zH → Prop}
    (hS : va_S A s.heap H locs) (hdom : ∀ q, h q ≠ none → A q) (hA : ∀ q, s.heap.size ≤ q → A q) (hl : zL ls nL l)
    (hr : vx_Run p ln e R s m args below meth c H locs k n mc ms (F0 m pc ls st0) st (zQc G (zA h H.size) Qf a) (zXc G (zA h H.size) Xf) (zA h H.size))
    (kk : ∀ (v : Option Value) (h' : zH), Qf v h' → Z (p, ln, e, R, s, m, args, below, meth, c, G, A, nL, Q) (pc + 3) l (v.toList ++ st) h' (k + mc) (n + ms))
    (kx : ∀ (E : String) (h' : zH), Xf E h' → ZT (p, ln, e, R, s, m, args, below, meth, c, G, A, nL, Q) pc l st h' (k + mc) (n + ms) E) :
    W p ln e R s m args below meth c H locs k n Q (F0 m pc ls st0) := by
  intro T hT X'
  have hA1 : ∀ q, zA h H.size q → A q := fun q hq => by
    rcases hq with hq | hq
    · exact hdom q hq
    · exact hA q (Nat.le_trans hS.1 hq)
  rcases hr T hT X' with ⟨v, st₀, t, T', L, h0, X2, hL, e1, e2, ⟨v', h', hv, hq, hh, hF, hdm⟩, sp⟩ | ⟨q, st₀, t, T', L, E, ce, h0, X2, hL, e1, e2, ⟨h', hq, hh, hF, hdm⟩, hce, hcv, hcl, sp⟩
  · cases hv
    obtain ⟨k1, k2, k3⟩ := vx_keep h0 e1 hS (fun q _ => hA1 q) hA1 hL hF
    obtain ⟨t2, a1, b1⟩ := kk v h' hq T'.heap (locs ++ L) ls (by rw [e1]; exact hh) k3 (fun q hq => hA1 q (hdm q hq)) hl T' rfl X2
    exact ⟨t2, sp t2 a1, b1⟩
  · obtain ⟨k1, k2, k3⟩ := vx_keep h0 e1 hS (fun q _ => hA1 q) hA1 hL hF
    obtain ⟨t2, a1, b1⟩ := kx E h' hq T'.heap (locs ++ L) ls q ce (by rw [e1]; exact hh) k3 (fun q hq => hA1 q (hdm q hq)) hl (by rw [e1]; exact hce) hcv hcl T' rfl X2
    exact ⟨t2, sp.trans a1, b1⟩
theorem zRun_of {p : Program} {ln : Launch} {e : Env} {R : Room} {s : State} {m : MethodId} {args : Array Value} {below : List Frame} {meth : Method} {c : Code} {H : Heap} {locs : List Loc} {mc ms : Nat} {g : JFrame} {Qa : State → Outcome → State → Prop} {XC : String → State → State → Prop} {free : Addr → Prop} (h : va_Run p ln e R s m args below meth c H locs k n mc ms g st Qa free) : vx_Run p ln e R s m args below meth c H locs k n mc ms g st Qa XC free := fun T hT X => Or.inl (h T hT X)
theorem zSeen {s U : State} {args : Array Value} {G : zG} {A : Nat → Prop} {H : Heap} {locs : List Loc} (hS : va_S A s.heap H locs) (hdom : ∀ q, h q ≠ none → A q) (hA : ∀ q, s.heap.size ≤ q → A q) (hP : zHold G.1 h H) (hK : zK G s) (hBG : zBG G A s s.heap) {as : List Value} (hU : U.heap = H) (hW : s.WarmedH U.vm) : zPc G h H.size as as.toArray U := by
  subst hU
  refine ⟨rfl, rfl, hP, hK.moved hW.alike, zBG.narrow (A := A) (zBG.warm hW (hBG.kept hS.2.1)) (fun q hq => ?_)⟩
  rcases hq with hq | hq
  · exact hdom q hq
  · exact hA q (Nat.le_trans hS.1 hq)

theorem Z.callV (C : ZC X cc y d) {index : Nat} {y2 : MethodName} {cc2 : ByteArray} {maxL d2 mc ms : Nat} {ret : Option FieldType} {as sk : List Value} {Qf : Option Value → zH → Prop} {Xf : String → zH → Prop} {ci N : Nat} {T : u_T} {fs : List Value} {b : Nat} (hlink : Cond.methodLink y.cls index y2 ∈ zW) (hini : Cond.initialized y2.cls ∈ zW) (hcode : Cond.code y2 cc2 maxL ret ∈ zW) (hne : y2.cls ≠ "java/lang/invoke/MethodHandle" ∧ y2.cls ≠ "java/lang/invoke/VarHandle") (hpar : (parseMethodDescriptor y2.desc).map (fun d => d.parameters.length) = some as.length) (hmaxL : maxL ≤ 19) (hc : vwCl[ci]? = some (y2.cls, T, N)) (hinst : Cond.instanceMethod y2 ∈ zW) (hsel : Cond.selects y2.cls y2 y2 ∈ zW) (hd : decode cc pc = .ok (.invokevirtual index, 3)) (ho : h b = some (eO ci fs)) (hct : CT (zLn X) (zG_of X) y2 cc2 maxL ret d2 (.ref b :: as) h mc ms Qf Xf) (hsk : as.reverse ++ .ref b :: st = sk) (hd2 : d2 + 1 ≤ d) (hcat : (st.map fun v => v.category).sum ≤ 8) (hk : k + mc ≤ (zR_of X).cells) (hn : n + ms ≤ (zR_of X).slots) (kk : ∀ (v : Option Value) (h' : zH), Qf v h' → Z X (pc + 3) l (v.toList ++ st) h' (k + mc) (n + ms)) (kx : ∀ (E : String) (h' : zH), Xf E h' → ZT X pc l st h' (k + mc) (n + ms) E) : Z X pc l sk h k n := by
  subst hsk
  obtain ⟨p, ln, e, R, s, m, args, below, meth, c, G, A, nL, Q⟩ := X
  obtain ⟨hx, hb, hml, hown, hts, hK, hBG, hA, hlk, hnm, hfr, hlo, htr⟩ := C
  intro H locs ls hP hS hdom hl
  have hfr2 : (zRm d2 mc ms).frames + 1 ≤ R.frames := Nat.le_trans hd2 hfr
  have hlo2 : 8 + (maxL + 11) + (zRm d2 mc ms).locals ≤ R.locals := by
    refine Nat.le_trans ?_ hlo
    show 8 + (maxL + 11) + 38 * d2 ≤ 38 * d
    omega
  have hplen : ∀ sig, parseMethodDescriptor y2.desc = some sig → as.length = sig.parameters.length := fun sig q => by
    rw [q] at hpar
    exact (Option.some.inj hpar).symm
  have hcb : CallB R s args y.cls index y2 cc2 maxL ret (Cond.code y2 cc2 maxL ret :: zW) (zRm d2 mc ms) mc ms as.length := ⟨rfl, rfl, hfr2, hlo2, zPay hts hcode, List.mem_cons_self, hts _ hcode, hts _ hini, hne, hplen, hts _ hlink⟩
  have hfix : CallFix p m c cc nL s args zW y.cls := ⟨hx, hb, hml, hown, hts⟩
  refine zRunEnd hS hdom hA hl (vx_runV hfix (hct H.size) ⟨hcb, hts _ hinst, hts _ hsel⟩ ⟨zPc_blind _ _ _ _, va_recv hK (hP.one ho) hc (q0 := 0) rfl, fun U hU hW => zSeen (args := args) hS hdom hA hP hK hBG hU hW⟩ rfl rfl hl.1 rfl (lv_room hcat) hd ⟨hk, hn⟩) kk kx
theorem Z.callS (C : ZC X cc y d) {index : Nat} {y2 : MethodName} {cc2 : ByteArray} {maxL d2 mc ms : Nat} {ret : Option FieldType} {as sk : List Value} {Qf : Option Value → zH → Prop} {Xf : String → zH → Prop} (hlink : Cond.methodLink y.cls index y2 ∈ zW) (hini : Cond.initialized y2.cls ∈ zW) (hcode : Cond.code y2 cc2 maxL ret ∈ zW) (hne : y2.cls ≠ "java/lang/invoke/MethodHandle" ∧ y2.cls ≠ "java/lang/invoke/VarHandle") (hpar : (parseMethodDescriptor y2.desc).map (fun d => d.parameters.length) = some as.length) (hmaxL : maxL ≤ 19) (hstat : Cond.static y2 ∈ zW) (hd : decode cc pc = .ok (.invokestatic index, 3)) (hct : CT (zLn X) (zG_of X) y2 cc2 maxL ret d2 as h mc ms Qf Xf) (hsk : as.reverse ++ st = sk) (hd2 : d2 + 1 ≤ d) (hcat : (st.map fun v => v.category).sum ≤ 8) (hk : k + mc ≤ (zR_of X).cells) (hn : n + ms ≤ (zR_of X).slots) (kk : ∀ (v : Option Value) (h' : zH), Qf v h' → Z X (pc + 3) l (v.toList ++ st) h' (k + mc) (n + ms)) (kx : ∀ (E : String) (h' : zH), Xf E h' → ZT X pc l st h' (k + mc) (n + ms) E) : Z X pc l sk h k n := by
  subst hsk
  obtain ⟨p, ln, e, R, s, m, args, below, meth, c, G, A, nL, Q⟩ := X
  obtain ⟨hx, hb, hml, hown, hts, hK, hBG, hA, hlk, hnm, hfr, hlo, htr⟩ := C
  intro H locs ls hP hS hdom hl
  have hfr2 : (zRm d2 mc ms).frames + 1 ≤ R.frames := Nat.le_trans hd2 hfr
  have hlo2 : 8 + (maxL + 11) + (zRm d2 mc ms).locals ≤ R.locals := by
    refine Nat.le_trans ?_ hlo
    show 8 + (maxL + 11) + 38 * d2 ≤ 38 * d
    omega
  have hplen : ∀ sig, parseMethodDescriptor y2.desc = some sig → as.length = sig.parameters.length := fun sig q => by
    rw [q] at hpar
    exact (Option.some.inj hpar).symm
  have hcb : CallB R s args y.cls index y2 cc2 maxL ret (Cond.code y2 cc2 maxL ret :: zW) (zRm d2 mc ms) mc ms as.length := ⟨rfl, rfl, hfr2, hlo2, zPay hts hcode, List.mem_cons_self, hts _ hcode, hts _ hini, hne, hplen, hts _ hlink⟩
  have hfix : CallFix p m c cc nL s args zW y.cls := ⟨hx, hb, hml, hown, hts⟩
  refine zRunEnd hS hdom hA hl (vx_runS hfix (hct H.size) ⟨hcb, hts _ hstat⟩ ⟨zPc_blind _ _ _ _, fun U hU hW => zSeen (args := args) hS hdom hA hP hK hBG hU hW⟩ rfl rfl hl.1 rfl (lv_room hcat) hd ⟨hk, hn⟩) kk kx
theorem Z.callI (C : ZC X cc y d) {index : Nat} {y2 : MethodName} {cc2 : ByteArray} {maxL d2 mc ms : Nat} {as sk : List Value} {Qf : Option Value → zH → Prop} {b : Nat} (hlink : Cond.methodLink y.cls index y2 ∈ zW) (hini : Cond.initialized y2.cls ∈ zW) (hcode : Cond.code y2 cc2 maxL none ∈ zW) (hne : y2.cls ≠ "java/lang/invoke/MethodHandle" ∧ y2.cls ≠ "java/lang/invoke/VarHandle") (hpar : (parseMethodDescriptor y2.desc).map (fun d => d.parameters.length) = some as.length) (hmaxL : maxL ≤ 19) (hin1 : y2.name = "<init>") (hinst : Cond.instanceMethod y2 ∈ zW) (hd : decode cc pc = .ok (.invokespecial index, 3)) (hct : CT (zLn X) (zG_of X) y2 cc2 maxL none d2 (.ref b :: as) h mc ms Qf zNo) (hsk : as.reverse ++ .ref b :: st = sk) (hd2 : d2 + 1 ≤ d) (hcat : (st.map fun v => v.category).sum ≤ 8) (hk : k + mc ≤ (zR_of X).cells) (hn : n + ms ≤ (zR_of X).slots) (kk : ∀ (v : Option Value) (h' : zH), Qf v h' → Z X (pc + 3) l (v.toList ++ st) h' (k + mc) (n + ms)) : Z X pc l sk h k n := by
  subst hsk
  obtain ⟨p, ln, e, R, s, m, args, below, meth, c, G, A, nL, Q⟩ := X
  obtain ⟨hx, hb, hml, hown, hts, hK, hBG, hA, hlk, hnm, hfr, hlo, htr⟩ := C
  intro H locs ls hP hS hdom hl
  have hfr2 : (zRm d2 mc ms).frames + 1 ≤ R.frames := Nat.le_trans hd2 hfr
  have hlo2 : 8 + (maxL + 11) + (zRm d2 mc ms).locals ≤ R.locals := by
    refine Nat.le_trans ?_ hlo
    show 8 + (maxL + 11) + 38 * d2 ≤ 38 * d
    omega
  have hplen : ∀ sig, parseMethodDescriptor y2.desc = some sig → as.length = sig.parameters.length := fun sig q => by
    rw [q] at hpar
    exact (Option.some.inj hpar).symm
  have hcb : CallB R s args y.cls index y2 cc2 maxL none (Cond.code y2 cc2 maxL none :: zW) (zRm d2 mc ms) mc ms as.length := ⟨rfl, rfl, hfr2, hlo2, zPay hts hcode, List.mem_cons_self, hts _ hcode, hts _ hini, hne, hplen, hts _ hlink⟩
  have hfix : CallFix p m c cc nL s args zW y.cls := ⟨hx, hb, hml, hown, hts⟩
  refine zRunEnd (Xf := zNo) hS hdom hA hl (zRun_of (va_runI hfix (zMet (hct H.size) zNo_c) ⟨hcb, hin1, hts _ hinst⟩ ⟨zPc_blind _ _ _ _, fun U hU hW => zSeen (args := args) hS hdom hA hP hK hBG hU hW⟩ rfl rfl hl.1 rfl (lv_room hcat) hd ⟨hk, hn⟩)) kk (fun E h' q => q.elim)
theorem Z.objInit (C : ZC X cc y d) {index b : Nat} (hlink : Cond.methodLink y.cls index objectInit ∈ zW) (hinst : Cond.instanceMethod objectInit ∈ zW) (hcode : Cond.code objectInit ⟨#[0xb1]⟩ 1 none ∈ zW) (hd : decode cc pc = .ok (.invokespecial index, 3)) (hd1 : 1 ≤ d) (hcat : (st.map fun v => v.category).sum ≤ 8) (kk : Z X (pc + 3) l st h k n) : Z X pc l (.ref b :: st) h k n := by
  obtain ⟨p, ln, e, R, s, m, args, below, meth, c, G, A, nL, Q⟩ := X
  obtain ⟨hx, hb, hml, hown, hts, hK, hBG, hA, hlk, hnm, hfr, hlo, htr⟩ := C
  intro H locs ls hP hS hdom hl
  refine W.objInit hx hb hown (hts _ hlink) (hts _ hinst) (hts _ hcode) rfl (by rw [hml]; exact hl.1) rfl hd (Nat.le_trans hd1 hfr) ?_ (kk H locs ls hP hS hdom hl)
  show 2 * 0 + _ + 12 ≤ _
  omega

theorem Z.iret (C : ZC X cc y d) {mc ms : Nat} {Qf : Option Value → zH → Prop} {Xf : String → zH → Prop} {x : Int} (E : zEnd X (some .int) mc ms Qf Xf) (hd : decode cc pc = .ok (.ireturn, 1)) (hk : k ≤ mc) (hn : n ≤ ms) (hq : Qf (some (vI x)) h) : Z X pc l [vI x] h k n := by
  obtain ⟨p, ln, e, R, s, m, args, below, meth, c, G, A, nL, Q⟩ := X
  obtain ⟨hx, hb, hml, hown, hts, hK, hBG, hA, hlk, hnm, hfr, hlo, htr⟩ := C
  intro H locs ls hP hS hdom hl
  obtain ⟨rfl, hr, -⟩ := E
  exact W.widen hk hn (vx_ret (W.iret hx hb hr (fun t ht hW => ⟨_, h, rfl, hq, by rw [ht]; exact hP, hS.F ht, hdom⟩) hS.2.2 hd hlk))
theorem Z.zret (C : ZC X cc y d) {mc ms : Nat} {Qf : Option Value → zH → Prop} {Xf : String → zH → Prop} {x : Int} {ty : FieldType} (E : zEnd X (some ty) mc ms Qf Xf) (hd : decode cc pc = .ok (.ireturn, 1)) (hnar : narrow ty (vI x) = vI x) (hk : k ≤ mc) (hn : n ≤ ms) (hq : Qf (some (vI x)) h) : Z X pc l [vI x] h k n := by
  obtain ⟨p, ln, e, R, s, m, args, below, meth, c, G, A, nL, Q⟩ := X
  obtain ⟨hx, hb, hml, hown, hts, hK, hBG, hA, hlk, hnm, hfr, hlo, htr⟩ := C
  intro H locs ls hP hS hdom hl
  obtain ⟨rfl, hr, -⟩ := E
  exact W.widen hk hn (vx_ret (W.zret hx hb hr hnar (fun t ht hW => ⟨_, h, rfl, hq, by rw [ht]; exact hP, hS.F ht, hdom⟩) hS.2.2 hd hlk))
theorem Z.vret (C : ZC X cc y d) {mc ms : Nat} {Qf : Option Value → zH → Prop} {Xf : String → zH → Prop} (E : zEnd X none mc ms Qf Xf) (hd : decode cc pc = .ok (.return_, 1)) (hk : k ≤ mc) (hn : n ≤ ms) (hq : Qf none h) : Z X pc l [] h k n := by
  obtain ⟨p, ln, e, R, s, m, args, below, meth, c, G, A, nL, Q⟩ := X
  obtain ⟨hx, hb, hml, hown, hts, hK, hBG, hA, hlk, hnm, hfr, hlo, htr⟩ := C
  intro H locs ls hP hS hdom hl
  obtain ⟨rfl, hr, -⟩ := E
  exact W.widen hk hn (vx_ret (W.vret hx hb hr (fun t ht hW => ⟨_, h, rfl, hq, by rw [ht]; exact hP, hS.F ht, hdom⟩) hS.2.2 hd hlk))
theorem Z.aret (C : ZC X cc y d) {mc ms : Nat} {Qf : Option Value → zH → Prop} {Xf : String → zH → Prop} {a : Nat} {rt : FieldType} (E : zEnd X (some rt) mc ms Qf Xf) (hrt : (∃ n, rt = .object n) ∨ ∃ t, rt = .array t) (hd : decode cc pc = .ok (.areturn, 1)) (hk : k ≤ mc) (hn : n ≤ ms) (hq : Qf (some (.ref a)) h) : Z X pc l [.ref a] h k n := by
  obtain ⟨p, ln, e, R, s, m, args, below, meth, c, G, A, nL, Q⟩ := X
  obtain ⟨hx, hb, hml, hown, hts, hK, hBG, hA, hlk, hnm, hfr, hlo, htr⟩ := C
  intro H locs ls hP hS hdom hl
  obtain ⟨rfl, hr, -⟩ := E
  exact W.widen hk hn (vx_ret (W.aret hx hb hr hrt (Or.inr ⟨a, rfl⟩) (fun t ht hW => ⟨_, h, rfl, hq, by rw [ht]; exact hP, hS.F ht, hdom⟩) hS.2.2 hd hlk))
/-- a callee's exception goes on to the caller -/
theorem ZT.out (C : ZC X cc y d) {mc ms : Nat} {Qf : Option Value → zH → Prop} {Xf : String → zH → Prop} {ret : Option FieldType} {Ex : String} (E : zEnd X ret mc ms Qf Xf) (hk : k ≤ mc) (hn : n ≤ ms) (hq : Xf Ex h) : ZT X pc l st h k n Ex := by
  obtain ⟨p, ln, e, R, s, m, args, below, meth, c, G, A, nL, Q⟩ := X
  obtain ⟨hx, hb, hml, hown, hts, hK, hBG, hA, hlk, hnm, hfr, hlo, htr⟩ := C
  obtain ⟨rfl, hr, htab⟩ := E
  intro H locs ls q9 ce hP hS hdom hl hce hcv hcl
  exact vx_out (fun x hx => (htab x hx).elim) hlk hce hcv hcl (fun t ht hW => ⟨h, hq, by rw [ht]; exact hP, hS.F ht, hdom⟩) hS.2.2 hk hn

theorem Z.throwS (C : ZC X cc y d) {cls text : String} {names : List String} {ik is ic mc ms : Nat} {Qf : Option Value → zH → Prop} {Xf : String → zH → Prop} {ret : Option FieldType} (E : zEnd X ret mc ms Qf Xf) (hcls : Bundle.fit cls = true) (hnames : names.all Bundle.fit = true) (hlen : names.length = 2)
    (hk9 : Cond.classLink y.cls ik cls ∈ zW) (hini : Cond.initialized cls ∈ zW) (htx : (y.cls, is, text) ∈ zTexts) (hat : ((vx_atS y.cls ic cls names).filter goodWord).all (fun w => decide (w ∈ lw_tbl)) = true) (hat2 : ((vx_atS y.cls ic cls names).filter (fun w => !goodWord w)).all (fun w => decide (w ∈ Cond.castable cls cls :: zDecl.map Cond.declares)) = true) (hcc : (cls, cls) ∈ zCasts)
    (d0 : decode cc pc = .ok (.new ik, 3)) (d3 : decode cc (pc + 3) = .ok (.dup, 1)) (d4 : decode cc (pc + 4) = .ok (.ldc is, 2)) (d6 : decode cc (pc + 6) = .ok (.invokespecial ic, 3)) (d9 : decode cc (pc + 9) = .ok (.athrow, 1))
    (hd6 : 6 ≤ d) (hcat : (st.map fun v => v.category).sum ≤ 8) (hk1 : k + 1 ≤ mc) (hn1 : n + 6 ≤ ms) (hk : k + 1 ≤ (zR_of X).cells) (hn : n + 6 ≤ (zR_of X).slots) (hq : Xf cls h) : Z X pc l st h k n := by
  obtain ⟨p, ln, e, R, s, m, args, below, meth, c, G, A, nL, Q⟩ := X
  obtain ⟨hx, hb, hml, hown, hts, hK, hBG, hA, hlk, hnm, hfr, hlo, htr⟩ := C
  intro H locs ls hP hS hdom hl
  obtain ⟨rfl, hr, htab⟩ := E
  obtain ⟨sa, hsa⟩ := hBG.2.2.2.2.2.2.2.2.2.1 _ htx
  have hin : ∀ w ∈ (vx_atS y.cls ic cls names).filter goodWord, w ∈ zW := fun w hw => by
    have := List.all_eq_true.mp hat w hw
    exact List.mem_filter.mpr ⟨by simpa using this, (List.mem_filter.mp hw).2⟩
  have hodd : ∀ w ∈ (vx_atS y.cls ic cls names).filter (fun w => !goodWord w), w ∈ Cond.castable cls cls :: zDecl.map Cond.declares := fun w hw => by
    have := List.all_eq_true.mp hat2 w hw
    simpa using this
  have hcw := va_Nw.use (A := args) rfl (hBG.2.2.2.2.2.2.2.2.2.2.2.2.2.2.1 _ hcc)
  refine vx_throwS (text := text) (names := names) (A := A) hx hb htr hown hcls (fun x hx => List.all_eq_true.mp hnames x hx) (hts _ hk9) (hts _ hini) hsa (vx_hat (B := Cond.castable cls cls :: zDecl.map Cond.declares) (fun w hw => hts w (hin w hw)) (fun w hw => hodd w hw) (fun w hw => by
    rcases List.mem_cons.mp hw with rfl | hw
    · exact hcw
    · obtain ⟨x, hx9, rfl⟩ := List.mem_map.mp hw
      exact va_Nw.use (A := args) rfl (hBG.2.2.2.2.2.2.2.2.2.2.2.2.2.2.2.2.2 x hx9))) (fun w hw => ?_) hBG.2.2.2.2.2.2.2.1 hBG.2.2.2.2.2.2.2.2.1 hS (hl.1.trans hml.symm) d0 d3 d4 d6 d9 (fun x hx => (htab x hx).elim) ?_ ?_ hk hn hlk (fun t hW hsz hq9 => ⟨h, hq, hP.kept hq9, ⟨Nat.le_trans hS.1 hsz, fun q h1 h2 => by rw [hq9 q (Nat.lt_of_lt_of_le h1 hS.1)]; exact hS.2.1 q h1 h2⟩, hdom⟩) hS.2.2 hk1 hn1
  · show (_ || _) = true
    rcases List.mem_cons.mp hw with rfl | hw
    · rw [zW_good hk9, Bool.or_true]
    · rcases List.mem_cons.mp hw with rfl | hw
      · rw [zW_good hini, Bool.or_true]
      · by_cases g : goodWord w = true
        · rw [g, Bool.or_true]
        · have h9 : w ∈ (vx_atS y.cls ic cls names).filter (fun w => !goodWord w) := List.mem_filter.mpr ⟨hw, by simpa using g⟩
          rcases List.mem_cons.mp (hodd w h9) with rfl | h9
          · rfl
          · obtain ⟨x, -, rfl⟩ := List.mem_map.mp h9
            rfl
  · rw [hlen]; omega
  · rw [hlen]; omega

theorem Z.throwSW (C : ZC X cc y d) {cls text : String} {names : List String} {ik is ic mc ms : Nat} {Qf : Option Value → zH → Prop} {Xf : String → zH → Prop} {ret : Option FieldType} (E : zEnd X ret mc ms Qf Xf) (hcls : Bundle.fit cls = true) (hnames : names.all Bundle.fit = true) (hlen : names.length = 2)
    (hk9 : Cond.classLink y.cls ik cls ∈ zW) (hini : Cond.initialized cls ∈ zW) (htx : (y.cls, is, text) ∈ zTexts) (hat : ((vx_atS y.cls ic cls names).filter goodWord).all (fun w => decide (w ∈ lw_tbl)) = true) (hat2 : ((vx_atS y.cls ic cls names).filter (fun w => !goodWord w)).all (fun w => decide (w ∈ Cond.castable cls cls :: zDecl.map Cond.declares)) = true) (hcc : (cls, cls) ∈ zCasts)
    (d0 : decode cc pc = .ok (.new ik, 3)) (d3 : decode cc (pc + 3) = .ok (.dup, 1)) (d4 : decode cc (pc + 4) = .ok (.ldc_w is, 3)) (d6 : decode cc (pc + 7) = .ok (.invokespecial ic, 3)) (d9 : decode cc (pc + 10) = .ok (.athrow, 1))
    (hd6 : 6 ≤ d) (hcat : (st.map fun v => v.category).sum ≤ 8) (hk1 : k + 1 ≤ mc) (hn1 : n + 6 ≤ ms) (hk : k + 1 ≤ (zR_of X).cells) (hn : n + 6 ≤ (zR_of X).slots) (hq : Xf cls h) : Z X pc l st h k n := by
  obtain ⟨p, ln, e, R, s, m, args, below, meth, c, G, A, nL, Q⟩ := X
  obtain ⟨hx, hb, hml, hown, hts, hK, hBG, hA, hlk, hnm, hfr, hlo, htr⟩ := C
  intro H locs ls hP hS hdom hl
  obtain ⟨rfl, hr, htab⟩ := E
  obtain ⟨sa, hsa⟩ := hBG.2.2.2.2.2.2.2.2.2.1 _ htx
  have hin : ∀ w ∈ (vx_atS y.cls ic cls names).filter goodWord, w ∈ zW := fun w hw => by
    have := List.all_eq_true.mp hat w hw
    exact List.mem_filter.mpr ⟨by simpa using this, (List.mem_filter.mp hw).2⟩
  have hodd : ∀ w ∈ (vx_atS y.cls ic cls names).filter (fun w => !goodWord w), w ∈ Cond.castable cls cls :: zDecl.map Cond.declares := fun w hw => by
    have := List.all_eq_true.mp hat2 w hw
    simpa using this
  have hcw := va_Nw.use (A := args) rfl (hBG.2.2.2.2.2.2.2.2.2.2.2.2.2.2.1 _ hcc)
  refine vx_throwSW (text := text) (names := names) (A := A) hx hb htr hown hcls (fun x hx => List.all_eq_true.mp hnames x hx) (hts _ hk9) (hts _ hini) hsa (vx_hat (B := Cond.castable cls cls :: zDecl.map Cond.declares) (fun w hw => hts w (hin w hw)) (fun w hw => hodd w hw) (fun w hw => by
    rcases List.mem_cons.mp hw with rfl | hw
    · exact hcw
    · obtain ⟨x, hx9, rfl⟩ := List.mem_map.mp hw
      exact va_Nw.use (A := args) rfl (hBG.2.2.2.2.2.2.2.2.2.2.2.2.2.2.2.2.2 x hx9))) (fun w hw => ?_) hBG.2.2.2.2.2.2.2.1 hBG.2.2.2.2.2.2.2.2.1 hS (hl.1.trans hml.symm) d0 d3 d4 d6 d9 (fun x hx => (htab x hx).elim) ?_ ?_ hk hn hlk (fun t hW hsz hq9 => ⟨h, hq, hP.kept hq9, ⟨Nat.le_trans hS.1 hsz, fun q h1 h2 => by rw [hq9 q (Nat.lt_of_lt_of_le h1 hS.1)]; exact hS.2.1 q h1 h2⟩, hdom⟩) hS.2.2 hk1 hn1
  · show (_ || _) = true
    rcases List.mem_cons.mp hw with rfl | hw
    · rw [zW_good hk9, Bool.or_true]
    · rcases List.mem_cons.mp hw with rfl | hw
      · rw [zW_good hini, Bool.or_true]
      · by_cases g : goodWord w = true
        · rw [g, Bool.or_true]
        · have h9 : w ∈ (vx_atS y.cls ic cls names).filter (fun w => !goodWord w) := List.mem_filter.mpr ⟨hw, by simpa using g⟩
          rcases List.mem_cons.mp (hodd w h9) with rfl | h9
          · rfl
          · obtain ⟨x, -, rfl⟩ := List.mem_map.mp h9
            rfl
  · rw [hlen]; omega
  · rw [hlen]; omega

end ZR
