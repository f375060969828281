theorem z_aL : Cond.arrayClass .long ∈ zW := zW_of 1085 (by decide +kernel) (by decide +kernel)
def AllOPC (l : Launch) (JJ : JT) : Prop := ∀ (G : zG) (b : Nat), OPC_join l G JJ b ∧ OPC_leave l G JJ b ∧ OPC_film l G JJ b ∧ OPC_fetch l G JJ b ∧ OPC_pass l G JJ b ∧ OPC_propose l G JJ b ∧ OPC_vote l G JJ b ∧ OPC_rule l G JJ b ∧ OPC_proposal l G JJ b ∧ OPC_member l G JJ b ∧ OPC_has l G JJ b ∧ OPC_owes l G JJ b ∧ OPC_worth l G JJ b ∧ OPC_accountAnew l G JJ b ∧ OPC_owesAnew l G JJ b ∧ OPC_told l G JJ b
set_option maxRecDepth 100000 in
theorem law_start {p : Program} {e : Env} {s : State} {m : MethodId} {below : List Frame} {meth : Method} {c : Code} (l : Launch) (hflags : l.flags = flags0) {b L : Nat} {xs : Nat → Int32} (hL : L ≤ 2048) (C0 : lw_At p s m meth c b L xs) {JJ : JT} (hJM : ∀ T S, JJ T S → (MB S ∧ (∀ j, S 9 j ≤ 6000) ∧ (∀ j, S 12 j ≤ S 14 0) ∧ ∀ j, S 8 j ≤ S 14 0) ∧ TB T ∧ T 1 0 = S 1 0) (hJ0 : JJ (fun _ _ => 0) (fun _ _ => 0)) (hall : l.stackTraces = false → AllOPC l JJ) : W p l e room_1 s m #[Value.ref b] below meth c s.heap [] 0 0 (lw_Z below #[Value.ref b] s) (entryFrame m ([Value.ref b] : List Value).toArray 7) := by
  obtain ⟨hx, hb, hr, hml, hown, hts, hX, hbl, hlocks, hgv⟩ := C0
  have htr : l.stackTraces = false := by unfold Launch.stackTraces; rw [hflags]; decide
  obtain ⟨G, hK, hBG⟩ := z_start hts hgv
  have hcat' : ∀ v ∈ ([Value.ref b] : List Value), v.category = 1 := fun v hv => by rcases List.mem_singleton.mp hv with rfl; rfl
  rw [lg_entry_eq]
  have hln : (lg_sl ([Value.ref b] : List Value)).length = 1 := zsl_len [Value.ref b] hcat'
  have he := lv_entry ([Value.ref b]) (n := 7) (by rw [hln]; decide)
  have C : ZC (p, l, e, room_1, s, m, #[Value.ref b], below, meth, c, G, (fun q => s.heap.size ≤ q), 7, lw_Z below #[Value.ref b] s) cL_law ⟨R_law, meth.name, ""⟩ 12 :=
    ⟨hx, hb, hml, hown, fun w hw => hts w (List.mem_filter.mp hw).1, hK, hBG, fun q hq => hq, hlocks, rfl, Nat.le_of_ble_eq_true rfl, Nat.le_of_ble_eq_true rfl, htr⟩
  have SC : ZS (p, l, e, room_1, s, m, #[Value.ref b], below, meth, c, G, (fun q => s.heap.size ≤ q), 7, lw_Z below #[Value.ref b] s) b L (fun j => (xs j).toInt) := by
    refine ⟨?_, hbl, Nat.not_le.mpr hbl⟩
    have e9 : (fun j => jI (xs j).toInt) = xs := funext fun j => Int32.ofInt_toInt _
    show va_X b L (fun j => jI (xs j).toInt) s s.heap
    rw [e9]
    exact hX
  have hend : ∀ (l9 : List Value) (h : zH) (k n : Nat), k ≤ 601024 → n ≤ 7293034 → Z (p, l, e, room_1, s, m, #[Value.ref b], below, meth, c, G, (fun q => s.heap.size ≤ q), 7, lw_Z below #[Value.ref b] s) 1191 l9 [vI 1] h k n := fun l9 h k n hk hn => Z.lawret C hr dL_law_1191 hk hn
  have hA := hall htr G
  suffices main : Z (p, l, e, room_1, s, m, #[Value.ref b], below, meth, c, G, (fun q => s.heap.size ≤ q), 7, lw_Z below #[Value.ref b] s) 0 [.ref b] [] (fun _ => none) 0 0 by
    refine main s.heap [] _ (fun a x hx9 => by cases hx9) va_S.rf (fun q hq => absurd rfl hq) ⟨he.1, he.2.1, fun i v hi => ⟨?_, hcat' v (List.mem_of_getElem? hi)⟩⟩
    have := zargs_mem [Value.ref b] 0 hcat' i v hi
    rw [Nat.zero_add] at this
    exact he.2.2 _ this
  generalize hXe : (p, l, e, room_1, s, m, #[Value.ref b], below, meth, c, G, (fun q : Nat => s.heap.size ≤ q), 7, lw_Z below #[Value.ref b] s) = X at C SC hend ⊢
  have hXl : zLn X = l := by rw [← hXe]; rfl
  have hXG : zG_of X = G := by rw [← hXe]; rfl
  have hXR : zR_of X = room_1 := by rw [← hXe]; rfl
  have hXN : zN X = 7 := by rw [← hXe]; rfl
  clear hXe
  have hRc : (zR_of X).cells = 601024 := by rw [hXR]; rfl
  have hRs : (zR_of X).slots = 7293034 := by rw [hXR]; rfl
  have htr9 : (zLn X).stackTraces = false := by rw [hXl]; exact htr
  subst hXG
  subst hXl
  refine n_L_8 C rfl dL_law_0 (by rw [hRc]; exact Nat.le_of_ble_eq_true rfl) (by rw [hRs]; exact Nat.le_of_ble_eq_true rfl) (fun x9 nx => ?_)
  refine Z.dup C dL_law_3 rfl ?_
  refine i_L_69 C rfl dL_law_4 (c_X6_init htr9 (zput_same _ _ _)) (by decide) (Nat.le_of_ble_eq_true rfl) (by rw [hRc]; exact Nat.le_of_ble_eq_true rfl) (by rw [hRs]; exact Nat.le_of_ble_eq_true rfl) (fun w4 h4 q4 => ?_)
  obtain ⟨rfl, -, kC⟩ := q4
  refine Z.astore_n (l' := [_, _]) C dL_law_7 (Nat.le_of_ble_eq_true rfl) (by rw [hXN]; decide) rfl ?_
  refine n_L_70 C rfl dL_law_8 (by rw [hRc]; exact Nat.le_of_ble_eq_true rfl) (by rw [hRs]; exact Nat.le_of_ble_eq_true rfl) (fun a9 na => ?_)
  generalize hcell : (eO 8 [vI 0, vI 0, vI 0, .null, .null, .null, .null, .null, .null, .null, vI 0, .null, .null, .null, vI 0, vI 0, .null, .null, .null, .null, .null, .null, .null] : va_E) = x8
  refine Z.dup C dL_law_11 rfl ?_
  have hsub : ∀ q x, zput (fun _ => none) a9 x8 q = some x → zput h4 a9 x8 q = some x := fun q x hq => by
    by_cases z : q = a9
    · subst z
      rw [zput_same] at hq ⊢
      exact hq
    · rw [zput_ne _ _ z] at hq
      cases hq
  refine i_L_72 C rfl dL_law_12 (CT.mono (CT.frame hsub (c_X7_init htr9 (by rw [zput_same, hcell]))) (fun v h' z => z) (fun E h' z => by obtain ⟨_, q, _⟩ := z; exact q)) (by decide) (Nat.le_of_ble_eq_true rfl) (by rw [hRc]; exact Nat.le_of_ble_eq_true rfl) (by rw [hRs]; exact Nat.le_of_ble_eq_true rfl) (fun w12 h12 q12 => ?_)
  obtain ⟨hm9, ⟨rfl, -, a, rfl, kM⟩, f1, f2, f3⟩ := q12
  refine Z.astore_n (l' := [_, _, _]) C dL_law_15 (Nat.le_of_ble_eq_true rfl) (by rw [hXN]; decide) rfl ?_
  refine Z.iconst C dL_law_16 ?_
  refine Z.newL (N := 1) C z_aL dL_law_17 rfl (by decide) (by rw [hRc]; exact Nat.le_of_ble_eq_true rfl) (by rw [hRs]; exact Nat.le_of_ble_eq_true rfl) (fun o9 no => ?_)
  refine Z.astore_n (l' := [_, _, _, _]) C dL_law_19 (Nat.le_of_ble_eq_true rfl) (by rw [hXN]; decide) rfl ?_
  refine Z.iconst C dL_law_20 ?_
  refine Z.istore (l' := [_, _, _, _, _]) C dL_law_21 (Nat.le_of_ble_eq_true rfl) (by rw [hXN]; decide) rfl ?_
  have key : ∀ q, h4 q ≠ none → q ≠ a 0 := fun q hq z => hq (by rw [z]; exact na)
  have hCs : ∀ q x, h4 q = some x → h12 q = some x := fun q x hq => f2 q x (zput_ne _ _ (key q (sn hq))) ((zput_ne _ _ (key q (sn hq))).trans hq)
  have hls : LSx (zG_of X) x9 a o9 (fun _ _ => 0) (fun _ _ => 0) 0 (fun _ => 0) (zput h12 o9 (eL ((zG_of X).2.1 4) 1 (fun _ => 0))) := by
    refine ⟨h4, hm9, kC, kM, fun q x hq => ?_, fun q x hq => ?_, fun q hq => ?_, zput_same _ _ _, ?_, ?_⟩
    · exact (zput_ne _ _ (fun z => by have := hCs q x hq; rw [z, no] at this; cases this)).trans (hCs q x hq)
    · exact (zput_ne _ _ (fun z => by have := f1 q x hq; rw [z, no] at this; cases this)).trans (f1 q x hq)
    · exact f3 q (zput_ne _ _ (key q hq)) (by rw [zput_ne _ _ (key q hq)]; exact hq)
    · cases cc : h4 o9 with
      | none => rfl
      | some x => have := hCs o9 x cc; rw [no] at this; cases this
    · cases cc : hm9 o9 with
      | none => rfl
      | some x => have := f1 o9 x cc; rw [no] at this; cases this
  obtain ⟨h_join, h_leave, h_film, h_fetch, h_pass, h_propose, h_vote, h_rule, h_proposal, h_member, h_has, h_owes, h_worth, h_accountAnew, h_owesAnew, h_told⟩ := hA x9
  exact law_loop (y := ⟨R_law, meth.name, ""⟩) rfl C htr9 hXN (fun j => ⟨Int32.le_toInt (xs j), Int32.toInt_lt (xs j)⟩) SC hL hJM h_join h_leave h_film h_fetch h_pass h_propose h_vote h_rule h_proposal h_member h_has h_owes h_worth h_accountAnew h_owesAnew h_told hRc hRs hend 512 0 _ _ _ _ 0 (fun _ => 0) _ (by omega) (Nat.le_of_ble_eq_true rfl) (Nat.le_of_ble_eq_true rfl) hJ0 hls (by decide)

