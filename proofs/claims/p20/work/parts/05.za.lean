abbrev vwCl : List vw_C := [(RJ4, TJ4, 4), (RJx4a65c, TJx4a65c, 3), (RX0, TX0, 3), (RX1, TX1, 6), (RX2, TX2, 2), (RX3, TX3, 8), (RX4, TX4, 5), (RX6, TX6, 6)]
/-! THE Z LAYER: a walk over an abstract heap (a function from addresses to cells), all of the machine hidden in one tuple X. -/
abbrev zH : Type := Nat → Option va_E
def zput (h : zH) (a : Nat) (e : va_E) : zH := fun q => if q = a then some e else h q
theorem zput_same (h : zH) (a : Nat) (e : va_E) : zput h a e a = some e := by simp [zput]
theorem zput_ne (h : zH) {a b : Nat} (e : va_E) (hb : b ≠ a) : zput h a e b = h b := by simp [zput, hb]
theorem zput_ne' (h : zH) {a b : Nat} (e : va_E) (ha : h a = none) {x : va_E} (hb : h b = some x) : zput h a e b = some x := by
  rw [zput_ne h e (fun q => by rw [q, ha] at hb; cases hb)]
  exact hb
def zHold (D : va_G) (h : zH) (H : Heap) : Prop := ∀ (a : Nat) (e : va_E), h a = some e → va_at D vwCl (a, e) H
def zA (h : zH) (n : Nat) : Nat → Prop := fun q => h q ≠ none ∨ n ≤ q
def jI (x : Int) : Int32 := Int32.ofInt x
def vI (x : Int) : Value := .int (jI x)
def eI (cA : ClassId) (n : Nat) (f : Nat → Int) : va_E := .inl (cA, n, .inl (fun j => jI (f j)))
def eR (cA : ClassId) (n : Nat) (f : Nat → Option Nat) : va_E := .inl (cA, n, .inr (.inr (.inr (.inr f))))
def eL (cA : ClassId) (n : Nat) (f : Nat → Int64) : va_E := .inl (cA, n, .inr (.inl f))
def eO (ci : Nat) (fs : List Value) : va_E := .inr (ci, fs)
theorem zHold.one {D : va_G} {h : zH} {H : Heap} (hh : zHold D h H) {a : Nat} {e : va_E} (ha : h a = some e) : va_P D vwCl [(a, e)] H := by
  intro k q hk
  cases k with
  | zero => cases hk; exact hh a e ha
  | succ k => simp at hk
theorem zHold.lt {D : va_G} {h : zH} {H : Heap} (hh : zHold D h H) {a : Nat} {e : va_E} (ha : h a = some e) : a < H.size := (hh a e ha).lt
theorem zHold.fresh {D : va_G} {h : zH} {H : Heap} (hh : zHold D h H) : h H.size = none := by
  cases hc : h H.size with
  | none => rfl
  | some e => exact absurd (hh.lt hc) (Nat.lt_irrefl _)
theorem zHold.kept {D : va_G} {h : zH} {H H1 : Heap} (hh : zHold D h H) (hq : ∀ q : Nat, q < H.size → H1[q]? = H[q]?) : zHold D h H1 := fun a e ha => (hh a e ha).kept (hq a (hh.lt ha))
theorem zHold.put {D : va_G} {h : zH} {H H1 : Heap} (hh : zHold D h H) {a : Nat} {e : va_E} (he : va_at D vwCl (a, e) H1) (oq : ∀ q : Nat, q < H.size → q ≠ a → H1[q]? = H[q]?) : zHold D (zput h a e) H1 := by
  intro b x hb
  by_cases q : b = a
  · subst q
    rw [zput_same] at hb
    cases hb
    exact he
  · rw [zput_ne h e q] at hb
    exact (hh b x hb).kept (oq b (hh.lt hb) q)
/-- all good words of the tables -/
def zW : List Cond := lw_tbl.filter goodWord
theorem zW_of {w : Cond} (i : Nat) (h : lw_tbl[i]? = some w) (g : goodWord w = true) : w ∈ zW := List.mem_filter.mpr ⟨List.mem_of_getElem? h, g⟩
theorem zW_good {w : Cond} (h : w ∈ zW) : goodWord w = true := (List.mem_filter.mp h).2
theorem zW_sub {ws : List Cond} (h : ws.all (fun w => decide (w ∈ lw_tbl) && goodWord w) = true) : ∀ w ∈ ws, w ∈ zW := fun w hw => by
  have h1 := List.all_eq_true.mp h w hw
  simp only [Bool.and_eq_true, decide_eq_true_eq] at h1
  exact List.mem_filter.mpr h1
/-- what is fixed for the whole run: class tables, the arrays' classes (int, boolean, byte, Object, long), addresses of what statics hold -/
abbrev zG : Type := va_G × (Nat → ClassId) × (Nat → Nat)
def zty (y : Nat → ClassId) : List (ClassId × FieldType) := [(y 0, .int), (y 1, .boolean), (y 2, .byte), (y 3, .object "java/lang/Object")]
def zK (G : zG) (U : State) : Prop := va_K G.1 vwCl (zty G.2.1) U
theorem zK.moved {G : zG} {u U : State} (hvm : u.vm.Alike U.vm) (h : zK G u) : zK G U := va_K.moved hvm h
def zWayD : String := "LBandwidthclub$Way;"
def zWayN (i : Nat) : String := match i with
  | 0 => "OWN_CACHE"
  | 1 => "OTHER_CACHE"
  | 2 => "OUTSIDE"
  | _ => "LEFT"
def zFirst (j : Nat) : Int := if j = 0 then 4 else if j = 1 then 2 else 1
/-- the texts of the exceptions: (class, place in its pool, text) -/
def zTexts : List (String × Nat × String) := [("Bandwidthclub", 34, "units are out of range"), ("Bandwidthclub", 39, "room is out of range"), ("Bandwidthclub", 47, "there were 10 members"), ("Bandwidthclub", 109, "size is out of range"), ("Bandwidthclub", 111, "there are 20 films"), ("Bandwidthclub", 122, "300 films were fetched"), ("Bandwidthclub", 156, "hours are out of range"), ("Bandwidthclub", 158, "the hour would be above 2000"), ("Bandwidthclub", 169, "value is out of range"), ("Bandwidthclub", 171, "there are 30 proposals"), ("Bandwidthclub", 179, "the proposal is decided"), ("Bandwidthclub", 227, "at is below 0"), ("Bandwidthclub", 244, "no such member"), ("Bandwidthclub", 246, "the member is not in the club"), ("Bandwidthclub", 248, "no such film"), ("Bandwidthclub", 250, "no such proposal"), ("Bandwidthclub", 255, "no such rule"), ("Bandwidthclub", 257, "what is out of range"), ("Bandwidthclub", 284, "the lines have not so much left")]
/-- what the class's own casts, throws and catches ask -/
def zCasts : List (String × String) := [("Bandwidthclub$Member", "java/lang/Object"), ("Bandwidthclub$Film", "java/lang/Object"), ("Bandwidthclub$Proposal", "java/lang/Object"), ("Bandwidthclub$Entry", "java/lang/Object"), ("java/lang/IllegalArgumentException", "java/lang/IllegalArgumentException"), ("java/lang/IllegalStateException", "java/lang/IllegalStateException"), ("java/lang/IndexOutOfBoundsException", "java/lang/IndexOutOfBoundsException")]
def zNots : List (String × String) := [("java/lang/IllegalArgumentException", "java/lang/IllegalStateException"), ("java/lang/IllegalArgumentException", "java/lang/IndexOutOfBoundsException"), ("java/lang/IllegalStateException", "java/lang/IllegalArgumentException"), ("java/lang/IllegalStateException", "java/lang/IndexOutOfBoundsException"), ("java/lang/IndexOutOfBoundsException", "java/lang/IllegalArgumentException"), ("java/lang/IndexOutOfBoundsException", "java/lang/IllegalStateException")]
/-- private methods of the class above StringBuilder -/
def zSels : List MethodName := [yJ5_ensureCapacityInternal_d00df, yJ5_newCapacity_0f7a4]
/-- constructors that the exceptions' chain finds -/
def zDecl : List MethodName := [Bundle.initS "java/lang/RuntimeException", Bundle.initS "java/lang/Exception", Bundle.initS "java/lang/Throwable"]
def zBG (G : zG) (A : Nat → Prop) (U : State) (H : Heap) : Prop :=
  (∀ i : Nat, i < 4 → va_Z "Bandwidthclub$Way" (zWayN i) zWayD (.ref (G.2.2 i)) A U H) ∧
  (∀ i j : Nat, i < 4 → j < 4 → i ≠ j → G.2.2 i ≠ G.2.2 j) ∧
  va_Z "Bandwidthclub" "FIRST_VALUES" "[I" (.ref (G.2.2 4)) A U H ∧
  va_T .int (G.2.2 4) 3 (fun j => vI (zFirst j)) A U H ∧
  va_Z "java/util/ArrayList" "DEFAULTCAPACITY_EMPTY_ELEMENTDATA" "[Ljava/lang/Object;" (.ref (G.2.2 5)) A U H ∧
  va_T (.object "java/lang/Object") (G.2.2 5) 0 (fun _ => .null) A U H ∧
  va_Z "java/lang/String" "COMPACT_STRINGS" "Z" (.int 1) A U H ∧
  vx_Zq Bundle.tN "UNASSIGNED_STACK" Bundle.steD A U H ∧ vx_Zq Bundle.tN "SUPPRESSED_SENTINEL" Bundle.listD A U H ∧
  (∀ q ∈ zTexts, ∃ a : Nat, vk_R q.1 q.2.1 q.2.2 a U) ∧
  va_Zq "jdk/internal/util/Preconditions" "SIOOBE_FORMATTER" "Ljava/util/function/BiFunction;" A U H ∧ va_Mi "[Ljava/lang/Object;" (G.2.2 6) U ∧ va_Dc U ∧ va_AO "java/lang/Object" U ∧
  (∀ q ∈ zCasts, va_Nw (.castable q.1 q.2) U) ∧ (∀ q ∈ zNots, va_Nc q.1 q.2 U) ∧ (∀ q ∈ zSels, (Cond.selects "java/lang/StringBuilder" q q).before #[] U = true) ∧ ∀ q ∈ zDecl, va_Nw (.declares q) U
theorem zBG.warm {G : zG} {A : Nat → Prop} {u U : State} {H : Heap} (hW : u.WarmedH U.vm) (h : zBG G A u H) : zBG G A U H := by
  have hvm := hW.alike
  obtain ⟨h1, h2, h3, h4, h5, h6, h7, h8, h9, h10, h11, h12, h13, h14, h15, h16, h17, h18⟩ := h
  refine ⟨fun i hi => (h1 i hi).moved hvm, h2, h3.moved hvm, h4.moved hvm, h5.moved hvm, h6.moved hvm, h7.moved hvm, h8.moved hvm, h9.moved hvm, fun q hq => ?_, h11.moved hvm, h12.moved hvm, h13.moved hvm, h14.moved hvm, fun q hq => (h15 q hq).warmC hW, fun q hq => (h16 q hq).moved hvm, fun q hq => word_at hW (good_of_word rfl) (h17 q hq), fun q hq => (h18 q hq).warmD hW⟩
  obtain ⟨a, ha⟩ := h10 q hq
  exact ⟨a, ha.warm hW⟩
theorem zBG.kept {G : zG} {A : Nat → Prop} {U : State} {H H1 : Heap} (h : zBG G A U H) (hq : ∀ a : Nat, a < H.size → ¬ A a → H1[a]? = H[a]?) : zBG G A U H1 := by
  obtain ⟨h1, h2, h3, h4, h5, h6, h7, h8, h9, h10, h11, h12⟩ := h
  exact ⟨fun i hi => (h1 i hi).kept hq, h2, h3.kept hq, h4.kept hq, h5.kept hq, h6.kept hq, h7.kept hq, h8.kept hq, h9.kept hq, h10, h11.kept hq, h12⟩
theorem zBG.narrow {G : zG} {A B : Nat → Prop} {U : State} {H : Heap} (h : zBG G A U H) (hAB : ∀ q, B q → A q) : zBG G B U H := by
  obtain ⟨h1, h2, h3, h4, h5, h6, h7, h8, h9, h10, h11, h12⟩ := h
  exact ⟨fun i hi => (h1 i hi).narrow hAB, h2, h3.narrow hAB, h4.narrow hAB, h5.narrow hAB, h6.narrow hAB, h7.narrow hAB, h8.narrow hAB, h9.narrow hAB, h10, h11.narrow hAB, h12⟩
/-- the locals: a list from place 0 on, values of one slot each -/
def zL (ls : Array Slot) (nL : Nat) (l : List Value) : Prop := ls.size = nL ∧ lv_wf ls ∧ ∀ (i : Nat) (v : Value), l[i]? = some v → ls[i]? = some (.val v) ∧ v.category = 1
def zset (l : List Value) (i : Nat) (v : Value) : List Value := l.take i ++ v :: l.drop (i + 1)
def zzip (l : List Value) : List (Nat × Value) := (List.range l.length).filterMap (fun i => (l[i]?).map (fun v => (i, v)))
theorem zzip_mem {l : List Value} {q : Nat × Value} : q ∈ zzip l ↔ l[q.1]? = some q.2 := by
  constructor
  · intro h
    obtain ⟨i, -, hi⟩ := List.mem_filterMap.mp h
    cases hv : l[i]? with
    | none => rw [hv] at hi; cases hi
    | some v => rw [hv] at hi; cases hi; exact hv
  · intro h
    exact List.mem_filterMap.mpr ⟨q.1, List.mem_range.mpr (List.getElem?_eq_some_iff.mp h).1, by rw [h]; rfl⟩
theorem zL.has {ls : Array Slot} {nL : Nat} {l : List Value} (h : zL ls nL l) : lv_has ls nL (zzip l) := ⟨h.1, h.2.1, fun q hq => (h.2.2 q.1 q.2 (zzip_mem.mp hq)).1⟩
theorem zset_get {l : List Value} {i : Nat} {v : Value} (hi : i ≤ l.length) {j : Nat} {w : Value} (h : (zset l i v)[j]? = some w) : (j = i ∧ w = v) ∨ (j ≠ i ∧ l[j]? = some w) := by
  have ht : (l.take i).length = i := by rw [List.length_take]; omega
  unfold zset at h
  rcases Nat.lt_trichotomy j i with q | q | q
  · rw [List.getElem?_append_left (by omega), List.getElem?_take, if_pos q] at h
    exact Or.inr ⟨by omega, h⟩
  · subst q
    rw [List.getElem?_append_right (by omega), ht, Nat.sub_self, List.getElem?_cons_zero] at h
    exact Or.inl ⟨rfl, (Option.some.inj h).symm⟩
  · rw [List.getElem?_append_right (by omega), ht, show j - i = (j - i - 1) + 1 by omega, List.getElem?_cons_succ, List.getElem?_drop, show i + 1 + (j - i - 1) = j by omega] at h
    exact Or.inr ⟨by omega, h⟩
theorem zL.store {ls ls' : Array Slot} {nL i : Nat} {l : List Value} {v : Value} (h : zL ls nL l) (hi : i ≤ l.length) (hc : v.category = 1) (h' : lv_has ls' nL ((i, v) :: (zzip l).filter (fun q => !(q.1 == i) && !(q.1 + 1 == i && q.2.category == 2)))) : zL ls' nL (zset l i v) := by
  refine ⟨h'.1, h'.2.1, fun j w hj => ?_⟩
  rcases zset_get hi hj with ⟨rfl, rfl⟩ | ⟨hne, hl⟩
  · exact ⟨h'.2.2 (j, w) List.mem_cons_self, hc⟩
  · have hw := (h.2.2 j w hl).2
    refine ⟨h'.2.2 (j, w) (List.mem_cons_of_mem _ (List.mem_filter.mpr ⟨zzip_mem.mpr hl, ?_⟩)), hw⟩
    simp [hne, hw]
theorem zL.pre {ls : Array Slot} {nL : Nat} {l : List Value} (h : zL ls nL l) (n : Nat) : zL ls nL (l.take n) := by
  refine ⟨h.1, h.2.1, fun i v hi => ?_⟩
  rw [List.getElem?_take] at hi
  by_cases q : i < n
  · rw [if_pos q] at hi; exact h.2.2 i v hi
  · rw [if_neg q] at hi; cases hi
theorem zargs_mem : ∀ (vs : List Value) (i : Nat), (∀ v ∈ vs, v.category = 1) → ∀ (j : Nat) (v : Value), vs[j]? = some v → (i + j, v) ∈ lv_args i vs
  | [], _, _, _, _, h => by simp at h
  | w :: vs, i, hc, j, v, h => by
    have hw : ¬ w.category = 2 := by rw [hc w List.mem_cons_self]; decide
    rw [lv_args, if_neg hw]
    cases j with
    | zero => rw [List.getElem?_cons_zero] at h; cases h; exact List.mem_cons_self
    | succ j =>
      rw [List.getElem?_cons_succ] at h
      have := zargs_mem vs (i + 1) (fun v hv => hc v (List.mem_cons_of_mem _ hv)) j v h
      rw [show i + 1 + j = i + (j + 1) by omega] at this
      exact List.mem_cons_of_mem _ this
theorem zsl_len : ∀ (vs : List Value), (∀ v ∈ vs, v.category = 1) → (lg_sl vs).length = vs.length
  | [], _ => rfl
  | w :: vs, hc => by
    have hw : ¬ w.category = 2 := by rw [hc w List.mem_cons_self]; decide
    have := zsl_len vs (fun v hv => hc v (List.mem_cons_of_mem _ hv))
    show ((if w.category = 2 then _ else _) ++ lg_sl vs).length = _
    rw [if_neg hw, List.length_append, this]
    simp; omega
/-- all of the machine's context -/
abbrev zX : Type := Program × Launch × Env × Room × State × MethodId × Array Value × List Frame × Method × Code × zG × (Nat → Prop) × Nat × (State → Prop)
def Z (X : zX) (pc : Nat) (l st : List Value) (h : zH) (k n : Nat) : Prop := match X with
  | (p, ln, e, R, s, m, args, below, meth, c, G, A, nL, Q) => ∀ (H : Heap) (locs : List Loc) (ls : Array Slot), zHold G.1 h H → va_S A s.heap H locs → (∀ q, h q ≠ none → A q) → zL ls nL l → W p ln e R s m args below meth c H locs k n Q (F0 m pc ls st)
def ZC (X : zX) (cc : ByteArray) (y : MethodName) (d : Nat) : Prop := match X with
  | (p, ln, _, R, s, m, args, _, meth, c, G, A, nL, _) => p.tables.exec = Jvm.exec ∧ c.code = cc ∧ c.maxLocals = nL ∧ s.vm.findClass y.cls = some m.cls ∧ (∀ w ∈ zW, w.before args s = true) ∧ zK G s ∧ zBG G A s s.heap ∧ (∀ q, s.heap.size ≤ q → A q) ∧ meth.locks = false ∧ meth.name = y.name ∧ d ≤ R.frames ∧ 38 * d ≤ R.locals ∧ ln.stackTraces = false
/-- where q is thrown over the method's frame -/
def ZT (X : zX) (pc : Nat) (l st : List Value) (h : zH) (k n : Nat) (E : String) : Prop := match X with
  | (p, ln, e, R, s, m, args, below, meth, c, G, A, nL, Q) => ∀ (H : Heap) (locs : List Loc) (ls : Array Slot) (q9 : Nat) (ce : Cell), zHold G.1 h H → va_S A s.heap H locs → (∀ q, h q ≠ none → A q) → zL ls nL l → H[q9]? = some ce → ce.vm = .none → s.vm.findClass E = some ce.cls → vx_W p ln e R s m args below meth c H locs k n Q (F0 m pc ls st) q9
def zG_of (X : zX) : zG := X.2.2.2.2.2.2.2.2.2.2.1
def zR_of (X : zX) : Room := X.2.2.2.1
/-- contracts -/
def zPc (G : zG) (h : zH) (sz : Nat) (as : List Value) : Array Value → State → Prop := fun v U => v = as.toArray ∧ U.heap.size = sz ∧ zHold G.1 h U.heap ∧ zK G U ∧ zBG G (zA h sz) U U.heap
def zQc (G : zG) (A : Nat → Prop) (Qf : Option Value → zH → Prop) : Array Value → State → Outcome → State → Prop := fun _ st o t => ∃ (v : Option Value) (h' : zH), o = .returned v ∧ Qf v h' ∧ zHold G.1 h' t.heap ∧ va_F A st t ∧ ∀ q, h' q ≠ none → A q
def zXc (G : zG) (A : Nat → Prop) (Xf : String → zH → Prop) : String → State → State → Prop := fun E st t => ∃ h' : zH, Xf E h' ∧ zHold G.1 h' t.heap ∧ va_F A st t ∧ ∀ q, h' q ≠ none → A q
def zRm (d mc ms : Nat) : Room := { frames := d, cells := mc, slots := ms, locals := 38 * d }
def zEnd (X : zX) (ret : Option FieldType) (mc ms : Nat) (Qf : Option Value → zH → Prop) (Xf : String → zH → Prop) : Prop := match X with
  | (_, _, _, _, s, _, args, below, meth, c, G, A, _, Q) => Q = vx_MQ below (zQc G A Qf) (zXc G A Xf) args s mc ms A ∧ meth.sig.returnType = ret ∧ ∀ x ∈ c.exceptionTable.toList, False
def CT (ln : Launch) (G : zG) (y : MethodName) (cc : ByteArray) (maxL : Nat) (ret : Option FieldType) (d : Nat) (as : List Value) (h : zH) (mc ms : Nat) (Qf : Option Value → zH → Prop) (Xf : String → zH → Prop) : Prop :=
  ∀ sz : Nat, vx_Met ln y (Cond.code y cc maxL ret :: zW) (zRm d mc ms) (zPc G h sz as) (zQc G (zA h sz) Qf) (zXc G (zA h sz) Xf) mc ms (zA h sz)
