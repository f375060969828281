/-! the law from its entry -/
theorem Z.lawret {p : Program} {ln : Launch} {e : Env} {s : State} {m : MethodId} {below : List Frame} {meth : Method} {c : Code} {b : Nat} {G : zG} {y : MethodName} {d pc k n : Nat} {l : List Value} {h : zH} (C : ZC (p, ln, e, room_1, s, m, #[Value.ref b], below, meth, c, G, (fun q => s.heap.size ≤ q), 11, lw_Z below #[Value.ref b] s) code y d) (hr : meth.sig.returnType = ret) (hd : decode code pc = .ok (.ireturn, 1)) (hk : k ≤ 967012) (hn : n ≤ 6200433) : Z (p, ln, e, room_1, s, m, #[Value.ref b], below, meth, c, G, (fun q => s.heap.size ≤ q), 11, lw_Z below #[Value.ref b] s) pc l [vI 1] h k n := by
  obtain ⟨hx, hb, hml, hown, hts, hK, hBG, hA, hlk, hnm, hfr, hlo, htr⟩ := C
  intro H locs ls hP hS hdom hl
  refine W.widen hk hn (va_forget (fun q hq => hS.2.2 q hq) ?_)
  exact lw_ret hx hb hr hlk hd
set_option maxRecDepth 100000 in
theorem whole_start {p : Program} {e : Env} {s : State} {m : MethodId} {below : List Frame} {meth : Method} {c : Code} (l : Launch) (hflags : l.flags = flags0) {b L : Nat} {xs : Nat → Int32} (hL : L ≤ 260) (C0 : lw_At p s m meth c b L xs) : W p l e room_1 s m #[Value.ref b] below meth c s.heap [] 0 0 (lw_Z below #[Value.ref b] s) (entryFrame m ([Value.ref b] : List Value).toArray 11) := by
  obtain ⟨hx, hb, hr, hml, hown, hts, hX, hbl, hlocks, hgv⟩ := C0
  have htr : l.stackTraces = false := by unfold Launch.stackTraces; rw [hflags]; decide
  obtain ⟨G, hK, hBG⟩ := z_start hts hgv
  have hcat' : ∀ v ∈ ([Value.ref b] : List Value), v.category = 1 := fun v hv => by rcases List.mem_singleton.mp hv with rfl; rfl
  rw [lg_entry_eq]
  have hln : (lg_sl ([Value.ref b] : List Value)).length = 1 := zsl_len [Value.ref b] hcat'
  have he := lv_entry ([Value.ref b]) (n := 11) (by rw [hln]; decide)
  have C : ZC (p, l, e, room_1, s, m, #[Value.ref b], below, meth, c, G, (fun q => s.heap.size ≤ q), 11, lw_Z below #[Value.ref b] s) cL_law ⟨R_law, meth.name, ""⟩ 13 :=
    ⟨hx, hb, hml, hown, fun w hw => hts w (List.mem_filter.mp hw).1, hK, hBG, fun q hq => hq, hlocks, rfl, Nat.le_of_ble_eq_true rfl, Nat.le_of_ble_eq_true rfl, htr⟩
  have SX : ZS (p, l, e, room_1, s, m, #[Value.ref b], below, meth, c, G, (fun q => s.heap.size ≤ q), 11, lw_Z below #[Value.ref b] s) b L (fun j => (xs j).toInt) := by
    refine ⟨?_, hbl, Nat.not_le.mpr hbl⟩
    have e9 : (fun j => jI (xs j).toInt) = xs := funext fun j => Int32.ofInt_toInt _
    show va_X b L (fun j => jI (xs j).toInt) s s.heap
    rw [e9]
    exact hX
  have hend : ∀ (l9 : List Value) (h : zH) (k n : Nat), k ≤ 967012 → n ≤ 6200433 → Z (p, l, e, room_1, s, m, #[Value.ref b], below, meth, c, G, (fun q => s.heap.size ≤ q), 11, lw_Z below #[Value.ref b] s) 338 l9 [vI 1] h k n := fun l9 h k n hk hn => Z.lawret C hr dL_law_338 hk hn
  suffices main : Z (p, l, e, room_1, s, m, #[Value.ref b], below, meth, c, G, (fun q => s.heap.size ≤ q), 11, lw_Z below #[Value.ref b] s) 0 [.ref b] [] (fun _ => none) 0 0 by
    refine main s.heap [] _ (fun a x hx9 => by cases hx9) va_S.rf (fun q hq => absurd rfl hq) ⟨he.1, he.2.1, fun i v hi => ⟨?_, hcat' v (List.mem_of_getElem? hi)⟩⟩
    have := zargs_mem [Value.ref b] 0 hcat' i v hi
    rw [Nat.zero_add] at this
    exact he.2.2 _ this
  generalize hXe : (p, l, e, room_1, s, m, #[Value.ref b], below, meth, c, G, (fun q : Nat => s.heap.size ≤ q), 11, lw_Z below #[Value.ref b] s) = X at C SX hend ⊢
  have hXl : zLn X = l := by rw [← hXe]; rfl
  have hXG : zG_of X = G := by rw [← hXe]; rfl
  have hXR : zR_of X = room_1 := by rw [← hXe]; rfl
  have hXN : zN X = 11 := by rw [← hXe]; rfl
  clear hXe
  have hRc : (zR_of X).cells = 967012 := by rw [hXR]; rfl
  have hRs : (zR_of X).slots = 6200433 := by rw [hXR]; rfl
  have htr9 : (zLn X).stackTraces = false := by rw [hXl]; exact htr
  subst hXG
  subst hXl
  refine n_L_8 C rfl dL_law_0 (by rw [hRc]; exact Nat.le_of_ble_eq_true rfl) (by rw [hRs]; exact Nat.le_of_ble_eq_true rfl) (fun x9 nx => ?_)
  refine Z.dup C dL_law_3 rfl ?_
  refine i_L_117 C rfl dL_law_4 (c_X6_init htr9 (zput_same _ _ _)) (by decide) (Nat.le_of_ble_eq_true rfl) (by rw [hRc]; exact Nat.le_of_ble_eq_true rfl) (by rw [hRs]; exact Nat.le_of_ble_eq_true rfl) (fun w4 h4 q4 => ?_)
  obtain ⟨rfl, -, kC⟩ := q4
  refine Z.astore_n (l' := [_, _]) C dL_law_7 (Nat.le_of_ble_eq_true rfl) (by rw [hXN]; decide) rfl ?_
  refine n_L_8 C rfl dL_law_8 (by rw [hRc]; exact Nat.le_of_ble_eq_true rfl) (by rw [hRs]; exact Nat.le_of_ble_eq_true rfl) (fun a9 na => ?_)
  generalize hcell : (eO 7 [.null, .null, .null, .null, vI 0, vI 0] : va_E) = x8
  refine Z.dup C dL_law_11 rfl ?_
  have hsub : ∀ q x, zput (fun _ => none) a9 x8 q = some x → zput h4 a9 x8 q = some x := fun q x hq => by
    by_cases z : q = a9
    · subst z
      rw [zput_same] at hq ⊢
      exact hq
    · rw [zput_ne _ _ z] at hq
      cases hq
  refine i_L_117 C rfl dL_law_12 (CT.mono (CT.frame hsub (c_X6_init htr9 (by rw [zput_same, hcell]))) (fun v h' z => z) (fun E h' z => by obtain ⟨_, q, _⟩ := z; exact q)) (by decide) (Nat.le_of_ble_eq_true rfl) (by rw [hRc]; exact Nat.le_of_ble_eq_true rfl) (by rw [hRs]; exact Nat.le_of_ble_eq_true rfl) (fun w12 h12 q12 => ?_)
  obtain ⟨hm9, ⟨rfl, -, kM⟩, f1, f2, f3⟩ := q12
  refine Z.astore_n (l' := [_, _, _]) C dL_law_15 (Nat.le_of_ble_eq_true rfl) (by rw [hXN]; decide) rfl ?_
  refine Z.iconst C dL_law_16 ?_
  refine Z.newI (N := 3) C zw_arrI dL_law_17 rfl (by decide) (by rw [hRc]; exact Nat.le_of_ble_eq_true rfl) (by rw [hRs]; exact Nat.le_of_ble_eq_true rfl) (fun o9 no => ?_)
  rw [← nvf_z]
  refine Z.astore_n (l' := [_, _, _, _]) C dL_law_19 (Nat.le_of_ble_eq_true rfl) (by rw [hXN]; decide) rfl ?_
  refine Z.bipush C dL_law_20 (by decide) ?_
  refine Z.aload_n C dL_law_22 rfl ?_
  refine Z.iconst C dL_law_23 ?_
  refine ss_L_118 C SX rfl dL_law_24 (c_L_drawn htr9 (by decide) hL) (by decide) (Nat.le_of_ble_eq_true rfl) (by rw [hRc]; exact Nat.le_of_ble_eq_true rfl) (by rw [hRs]; exact Nat.le_of_ble_eq_true rfl) (fun w24 h24 q24 => ?_)
  obtain ⟨⟨z24, g24, rfl⟩, e24⟩ := q24
  replace e24 := e24.symm
  subst e24
  refine Z.bipush C dL_law_27 (by decide) ?_
  refine Z.irm C dL_law_29 (by omega) (by omega) (by omega) (by omega) (fun a29 b29 => ?_)
  refine Z.iadd C dL_law_30 ?_
  refine Z.istore (l' := [_, _, _, _, _]) C dL_law_31 (Nat.le_of_ble_eq_true rfl) (by rw [hXN]; decide) rfl ?_
  refine Z.iconst C dL_law_33 ?_
  refine Z.istore (l' := [_, _, _, _, _, _]) C dL_law_34 (Nat.le_of_ble_eq_true rfl) (by rw [hXN]; decide) rfl ?_
  refine Z.iconst C dL_law_36 ?_
  refine Z.istore (l' := [_, _, _, _, _, _, _]) C dL_law_37 (Nat.le_of_ble_eq_true rfl) (by rw [hXN]; decide) rfl ?_
  have key : ∀ q, h4 q ≠ none → q ≠ a9 := fun q hq z => hq (by rw [z]; exact na)
  have hCs : ∀ q x, h4 q = some x → h12 q = some x := fun q x hq => f2 q x (zput_ne _ _ (key q (sn hq))) ((zput_ne _ _ (key q (sn hq))).trans hq)
  have hls : LD (zG_of X) x9 a9 o9 (fun _ _ => 0) (fun _ _ => 0) (nvf 0 0 0) (zput h12 o9 (eI ((zG_of X).2.1 0) 3 (nvf 0 0 0))) := by
    refine ⟨h4, _, hm9, _, ⟨kC, JJ0⟩, ⟨kM, JJ0⟩, fun q x hq => ?_, fun q x hq => ?_, fun q hq => ?_, zput_same _ _ _, ?_, ?_⟩
    · exact (zput_ne _ _ (fun z => by have := hCs q x hq; rw [z, no] at this; cases this)).trans (hCs q x hq)
    · exact (zput_ne _ _ (fun z => by have := f1 q x hq; rw [z, no] at this; cases this)).trans (f1 q x hq)
    · exact f3 q (zput_ne _ _ (key q hq)) (by rw [zput_ne _ _ (key q hq)]; exact hq)
    · cases cc : h4 o9 with
      | none => rfl
      | some x => have := hCs o9 x cc; rw [no] at this; cases this
    · cases cc : hm9 o9 with
      | none => rfl
      | some x => have := f1 o9 x cc; rw [no] at this; cases this
  exact law_loop (y := ⟨R_law, meth.name, ""⟩) rfl C htr9 hXN SX hL hRc hRs hend (S := fun _ _ => 0) (by omega) hls E_0 (Nat.le_of_ble_eq_true rfl) (Nat.le_of_ble_eq_true rfl)
