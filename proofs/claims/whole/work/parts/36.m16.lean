theorem zw_arrB : Cond.arrayClass .byte ∈ zW := zW_of 205 (by decide +kernel) (by decide +kernel)
theorem zw_arrZ : Cond.arrayClass .boolean ∈ zW := zW_of 251 (by decide +kernel) (by decide +kernel)
theorem zw_arrI : Cond.arrayClass .int ∈ zW := zW_of 252 (by decide +kernel) (by decide +kernel)
theorem zw_arrL : Cond.arrayClass .long ∈ zW := zW_of 1085 (by decide +kernel) (by decide +kernel)
/-- a list of cells, apart from each other, in the heap -/
def IL (L : List (Nat × va_E)) (h : zH) : Prop := (∀ q ∈ L, h q.1 = some q.2) ∧ (L.map (fun q => q.1)).Nodup
theorem IL.new {L : List (Nat × va_E)} {h : zH} (hL : IL L h) {a : Nat} {e : va_E} (ha : h a = none) : IL ((a, e) :: L) (zput h a e) := by
  obtain ⟨h1, h2⟩ := hL
  have hne : ∀ q ∈ L, q.1 ≠ a := fun q hq z => by
    have := h1 q hq
    rw [z, ha] at this
    cases this
  refine ⟨fun q hq => ?_, ?_⟩
  · rcases List.mem_cons.mp hq with rfl | hq
    · exact zput_same _ _ _
    · rw [zput_ne h e (hne q hq)]
      exact h1 q hq
  · rw [List.map_cons]
    refine List.nodup_cons.mpr ⟨fun hm => ?_, h2⟩
    obtain ⟨q, q1, q2⟩ := List.mem_map.mp hm
    exact hne q q1 q2
theorem IL.upd {A : List (Nat × va_E)} {b : Nat} {e0 e1 : va_E} {h : zH} (hL : IL (A ++ [(b, e0)]) h) : IL (A ++ [(b, e1)]) (zput h b e1) := by
  obtain ⟨h1, h2⟩ := hL
  have h3 : ((A ++ [(b, e1)]).map (fun q => q.1)).Nodup := by
    rw [List.map_append] at h2 ⊢
    exact h2
  refine ⟨fun q hq => ?_, h3⟩
  rcases List.mem_append.mp hq with hq | hq
  · have hne : q.1 ≠ b := by
      intro z
      rw [List.map_append, List.map_cons, List.map_nil] at h2
      have := (List.nodup_append.mp h2).2.2 q.1 (List.mem_map.mpr ⟨q, hq, rfl⟩) b (List.mem_singleton.mpr rfl)
      exact this z
    rw [zput_ne h e1 hne]
    exact h1 q (List.mem_append_left _ hq)
  · rw [List.mem_singleton.mp hq]
    exact zput_same _ _ _
theorem IL.last {A : List (Nat × va_E)} {b : Nat} {e0 : va_E} {h : zH} (hL : IL (A ++ [(b, e0)]) h) : h b = some e0 := hL.1 (b, e0) (List.mem_append_right _ (List.mem_singleton.mpr rfl))
theorem IL.get {L : List (Nat × va_E)} {h : zH} (hL : IL L h) (i : Nat) {q : Nat × va_E} (hq : L[i]? = some q) : h q.1 = some q.2 := hL.1 q (List.mem_of_getElem? hq)
theorem IL.inj {L : List (Nat × va_E)} {h : zH} (hL : IL L h) {i j : Nat} {p q : Nat × va_E} (hi : L[i]? = some p) (hj : L[j]? = some q) (e : p.1 = q.1) : i = j := by
  have hlt : i < (L.map (fun q => q.1)).length := by rw [List.length_map]; exact (List.getElem?_eq_some_iff.mp hi).1
  refine (List.getElem?_inj hlt hL.2).mp ?_
  rw [List.getElem?_map, List.getElem?_map, hi, hj]
  show some p.1 = some q.1
  rw [e]
/-- what was there, but the cell b, stays -/
def PV (b : Nat) (h h' : zH) : Prop := ∀ q x, q ≠ b → h q = some x → h' q = some x
theorem PV.rf (b : Nat) (h : zH) : PV b h h := fun _ _ _ h => h
theorem PV.new {b : Nat} {h h' : zH} (p : PV b h h') {a : Nat} {e : va_E} (ha : h' a = none) : PV b h (zput h' a e) := fun q x hq hx => zput_ne' h' e ha (p q x hq hx)
theorem PV.upd {b : Nat} {h h' : zH} (p : PV b h h') (e : va_E) : PV b h (zput h' b e) := fun q x hq hx => by rw [zput_ne h' e hq]; exact p q x hq hx

def mad (b a3 a4 a5 a6 a7 a8 a9 a11 a12 a13 a16 a17 a18 a19 a20 a21 a22 : Nat) (k : Nat) : Nat := match k with
  | 3 => a3
  | 4 => a4
  | 5 => a5
  | 6 => a6
  | 7 => a7
  | 8 => a8
  | 9 => a9
  | 11 => a11
  | 12 => a12
  | 13 => a13
  | 16 => a16
  | 17 => a17
  | 18 => a18
  | 19 => a19
  | 20 => a20
  | 21 => a21
  | 22 => a22
  | _ => b
def mpos (k : Nat) : Nat := match k with
  | 3 => 16
  | 4 => 15
  | 5 => 14
  | 6 => 13
  | 7 => 12
  | 8 => 11
  | 9 => 10
  | 11 => 9
  | 12 => 8
  | 13 => 7
  | 16 => 6
  | 17 => 5
  | 18 => 4
  | 19 => 3
  | 20 => 2
  | 21 => 1
  | 22 => 0
  | _ => 17
theorem mIs_c {k : Nat} (h : mIs k = true) : k = 3 ∨ k = 4 ∨ k = 5 ∨ k = 6 ∨ k = 7 ∨ k = 8 ∨ k = 9 ∨ k = 11 ∨ k = 12 ∨ k = 13 ∨ k = 16 ∨ k = 17 ∨ k = 18 ∨ k = 19 ∨ k = 20 ∨ k = 21 ∨ k = 22 := by
  unfold mIs at h
  split at h <;> first | omega | cases h
theorem mpos_ok {k : Nat} (h : k = 0 ∨ mIs k = true) : k < 23 := by
  rcases h with rfl | h
  · decide
  · rcases mIs_c h with rfl | rfl | rfl | rfl | rfl | rfl | rfl | rfl | rfl | rfl | rfl | rfl | rfl | rfl | rfl | rfl | rfl <;> decide
theorem mpos_all : ∀ i, i < 23 → ∀ j, j < 23 → (i = 0 ∨ mIs i = true) → (j = 0 ∨ mIs j = true) → mpos i = mpos j → i = j := by decide +kernel
theorem mpos_inj {i j : Nat} (hi : i = 0 ∨ mIs i = true) (hj : j = 0 ∨ mIs j = true) (h : mpos i = mpos j) : i = j := mpos_all i (mpos_ok hi) j (mpos_ok hj) hi hj h
set_option maxRecDepth 100000 in
set_option maxHeartbeats 4000000 in
theorem c_X7_init {ln : Launch} (htr : ln.stackTraces = false) {G : zG} {b : Nat} {h : zH} (ho : h b = some (eO 8 [vI 0, vI 0, vI 0, .null, .null, .null, .null, .null, .null, .null, vI 0, .null, .null, .null, vI 0, vI 0, .null, .null, .null, .null, .null, .null, .null])) : CT ln G yX7_init cX7_init 1 none 1 (.ref b :: []) h 17 880 (fun r9 h9 => r9 = none ∧ PV b h h9 ∧ ∃ a, a 0 = b ∧ MR G a 0 (fun _ _ => 0) h9) zNo := by
  refine CT.intro htr (by decide) rfl (Nat.le_of_ble_eq_true rfl) ?_
  intro X hln hG hR hN C E
  subst hln
  subst hG
  have V : PV b h h := PV.rf b h
  have T : IL ([] ++ [(b, eO 8 [vI 0, vI 0, vI 0, .null, .null, .null, .null, .null, .null, .null, vI 0, .null, .null, .null, vI 0, vI 0, .null, .null, .null, .null, .null, .null, .null])]) h := ⟨fun q hq => by rw [List.mem_singleton.mp hq]; exact ho, by simp⟩
  refine Z.aload_n C dX7_init_0 rfl ?_
  refine o_X7_1 C rfl dX7_init_1 (by decide) (Nat.le_of_ble_eq_true rfl) ?_
  refine Z.aload_n C dX7_init_4 rfl ?_
  refine Z.bipush C dX7_init_5 (by decide) ?_
  refine Z.newZ (N := 10) C zw_arrZ dX7_init_7 rfl (by decide) (by rw [hR]; exact Nat.le_of_ble_eq_true rfl) (by rw [hR]; exact Nat.le_of_ble_eq_true rfl) (fun a3 n3 => ?_)
  have V := V.new (e := eI ((zG_of X).2.1 1) 10 (fun _ => 0)) n3
  have T := T.new (e := eI ((zG_of X).2.1 1) 10 (fun _ => 0)) n3
  generalize zput _ a3 _ = h3 at V T ⊢
  have T : IL ([(a3, eI ((zG_of X).2.1 1) 10 (fun _ => 0))] ++ [(b, eO 8 [vI 0, vI 0, vI 0, .null, .null, .null, .null, .null, .null, .null, vI 0, .null, .null, .null, vI 0, vI 0, .null, .null, .null, .null, .null, .null, .null])]) h3 := T
  refine p_X7_7 (fs' := [vI 0, vI 0, vI 0, .ref a3, .null, .null, .null, .null, .null, .null, vI 0, .null, .null, .null, vI 0, vI 0, .null, .null, .null, .null, .null, .null, .null]) C rfl rfl dX7_init_9 T.last (Nat.le_of_ble_eq_true rfl) rfl ?_
  have V := V.upd (eO 8 [vI 0, vI 0, vI 0, .ref a3, .null, .null, .null, .null, .null, .null, vI 0, .null, .null, .null, vI 0, vI 0, .null, .null, .null, .null, .null, .null, .null])
  have T := T.upd (e1 := eO 8 [vI 0, vI 0, vI 0, .ref a3, .null, .null, .null, .null, .null, .null, vI 0, .null, .null, .null, vI 0, vI 0, .null, .null, .null, .null, .null, .null, .null])
  generalize zput _ b _ = g3 at V T ⊢
  refine Z.aload_n C dX7_init_12 rfl ?_
  refine Z.bipush C dX7_init_13 (by decide) ?_
  refine Z.newI (N := 10) C zw_arrI dX7_init_15 rfl (by decide) (by rw [hR]; exact Nat.le_of_ble_eq_true rfl) (by rw [hR]; exact Nat.le_of_ble_eq_true rfl) (fun a4 n4 => ?_)
  have V := V.new (e := eI ((zG_of X).2.1 0) 10 (fun _ => 0)) n4
  have T := T.new (e := eI ((zG_of X).2.1 0) 10 (fun _ => 0)) n4
  generalize zput _ a4 _ = h4 at V T ⊢
  have T : IL ([(a4, eI ((zG_of X).2.1 0) 10 (fun _ => 0)), (a3, eI ((zG_of X).2.1 1) 10 (fun _ => 0))] ++ [(b, eO 8 [vI 0, vI 0, vI 0, .ref a3, .null, .null, .null, .null, .null, .null, vI 0, .null, .null, .null, vI 0, vI 0, .null, .null, .null, .null, .null, .null, .null])]) h4 := T
  refine p_X7_13 (fs' := [vI 0, vI 0, vI 0, .ref a3, .ref a4, .null, .null, .null, .null, .null, vI 0, .null, .null, .null, vI 0, vI 0, .null, .null, .null, .null, .null, .null, .null]) C rfl rfl dX7_init_17 T.last (Nat.le_of_ble_eq_true rfl) rfl ?_
  have V := V.upd (eO 8 [vI 0, vI 0, vI 0, .ref a3, .ref a4, .null, .null, .null, .null, .null, vI 0, .null, .null, .null, vI 0, vI 0, .null, .null, .null, .null, .null, .null, .null])
  have T := T.upd (e1 := eO 8 [vI 0, vI 0, vI 0, .ref a3, .ref a4, .null, .null, .null, .null, .null, vI 0, .null, .null, .null, vI 0, vI 0, .null, .null, .null, .null, .null, .null, .null])
  generalize zput _ b _ = g4 at V T ⊢
  refine Z.aload_n C dX7_init_20 rfl ?_
  refine Z.bipush C dX7_init_21 (by decide) ?_
  refine Z.newI (N := 10) C zw_arrI dX7_init_23 rfl (by decide) (by rw [hR]; exact Nat.le_of_ble_eq_true rfl) (by rw [hR]; exact Nat.le_of_ble_eq_true rfl) (fun a5 n5 => ?_)
  have V := V.new (e := eI ((zG_of X).2.1 0) 10 (fun _ => 0)) n5
  have T := T.new (e := eI ((zG_of X).2.1 0) 10 (fun _ => 0)) n5
  generalize zput _ a5 _ = h5 at V T ⊢
  have T : IL ([(a5, eI ((zG_of X).2.1 0) 10 (fun _ => 0)), (a4, eI ((zG_of X).2.1 0) 10 (fun _ => 0)), (a3, eI ((zG_of X).2.1 1) 10 (fun _ => 0))] ++ [(b, eO 8 [vI 0, vI 0, vI 0, .ref a3, .ref a4, .null, .null, .null, .null, .null, vI 0, .null, .null, .null, vI 0, vI 0, .null, .null, .null, .null, .null, .null, .null])]) h5 := T
  refine p_X7_17 (fs' := [vI 0, vI 0, vI 0, .ref a3, .ref a4, .ref a5, .null, .null, .null, .null, vI 0, .null, .null, .null, vI 0, vI 0, .null, .null, .null, .null, .null, .null, .null]) C rfl rfl dX7_init_25 T.last (Nat.le_of_ble_eq_true rfl) rfl ?_
  have V := V.upd (eO 8 [vI 0, vI 0, vI 0, .ref a3, .ref a4, .ref a5, .null, .null, .null, .null, vI 0, .null, .null, .null, vI 0, vI 0, .null, .null, .null, .null, .null, .null, .null])
  have T := T.upd (e1 := eO 8 [vI 0, vI 0, vI 0, .ref a3, .ref a4, .ref a5, .null, .null, .null, .null, vI 0, .null, .null, .null, vI 0, vI 0, .null, .null, .null, .null, .null, .null, .null])
  generalize zput _ b _ = g5 at V T ⊢
  refine Z.aload_n C dX7_init_28 rfl ?_
  refine Z.bipush C dX7_init_29 (by decide) ?_
  refine Z.newI (N := 10) C zw_arrI dX7_init_31 rfl (by decide) (by rw [hR]; exact Nat.le_of_ble_eq_true rfl) (by rw [hR]; exact Nat.le_of_ble_eq_true rfl) (fun a6 n6 => ?_)
  have V := V.new (e := eI ((zG_of X).2.1 0) 10 (fun _ => 0)) n6
  have T := T.new (e := eI ((zG_of X).2.1 0) 10 (fun _ => 0)) n6
  generalize zput _ a6 _ = h6 at V T ⊢
  have T : IL ([(a6, eI ((zG_of X).2.1 0) 10 (fun _ => 0)), (a5, eI ((zG_of X).2.1 0) 10 (fun _ => 0)), (a4, eI ((zG_of X).2.1 0) 10 (fun _ => 0)), (a3, eI ((zG_of X).2.1 1) 10 (fun _ => 0))] ++ [(b, eO 8 [vI 0, vI 0, vI 0, .ref a3, .ref a4, .ref a5, .null, .null, .null, .null, vI 0, .null, .null, .null, vI 0, vI 0, .null, .null, .null, .null, .null, .null, .null])]) h6 := T
  refine p_X7_20 (fs' := [vI 0, vI 0, vI 0, .ref a3, .ref a4, .ref a5, .ref a6, .null, .null, .null, vI 0, .null, .null, .null, vI 0, vI 0, .null, .null, .null, .null, .null, .null, .null]) C rfl rfl dX7_init_33 T.last (Nat.le_of_ble_eq_true rfl) rfl ?_
  have V := V.upd (eO 8 [vI 0, vI 0, vI 0, .ref a3, .ref a4, .ref a5, .ref a6, .null, .null, .null, vI 0, .null, .null, .null, vI 0, vI 0, .null, .null, .null, .null, .null, .null, .null])
  have T := T.upd (e1 := eO 8 [vI 0, vI 0, vI 0, .ref a3, .ref a4, .ref a5, .ref a6, .null, .null, .null, vI 0, .null, .null, .null, vI 0, vI 0, .null, .null, .null, .null, .null, .null, .null])
  generalize zput _ b _ = g6 at V T ⊢
  refine Z.aload_n C dX7_init_36 rfl ?_
  refine Z.bipush C dX7_init_37 (by decide) ?_
  refine Z.newI (N := 10) C zw_arrI dX7_init_39 rfl (by decide) (by rw [hR]; exact Nat.le_of_ble_eq_true rfl) (by rw [hR]; exact Nat.le_of_ble_eq_true rfl) (fun a7 n7 => ?_)
  have V := V.new (e := eI ((zG_of X).2.1 0) 10 (fun _ => 0)) n7
  have T := T.new (e := eI ((zG_of X).2.1 0) 10 (fun _ => 0)) n7
  generalize zput _ a7 _ = h7 at V T ⊢
  have T : IL ([(a7, eI ((zG_of X).2.1 0) 10 (fun _ => 0)), (a6, eI ((zG_of X).2.1 0) 10 (fun _ => 0)), (a5, eI ((zG_of X).2.1 0) 10 (fun _ => 0)), (a4, eI ((zG_of X).2.1 0) 10 (fun _ => 0)), (a3, eI ((zG_of X).2.1 1) 10 (fun _ => 0))] ++ [(b, eO 8 [vI 0, vI 0, vI 0, .ref a3, .ref a4, .ref a5, .ref a6, .null, .null, .null, vI 0, .null, .null, .null, vI 0, vI 0, .null, .null, .null, .null, .null, .null, .null])]) h7 := T
  refine p_X7_23 (fs' := [vI 0, vI 0, vI 0, .ref a3, .ref a4, .ref a5, .ref a6, .ref a7, .null, .null, vI 0, .null, .null, .null, vI 0, vI 0, .null, .null, .null, .null, .null, .null, .null]) C rfl rfl dX7_init_41 T.last (Nat.le_of_ble_eq_true rfl) rfl ?_
  have V := V.upd (eO 8 [vI 0, vI 0, vI 0, .ref a3, .ref a4, .ref a5, .ref a6, .ref a7, .null, .null, vI 0, .null, .null, .null, vI 0, vI 0, .null, .null, .null, .null, .null, .null, .null])
  have T := T.upd (e1 := eO 8 [vI 0, vI 0, vI 0, .ref a3, .ref a4, .ref a5, .ref a6, .ref a7, .null, .null, vI 0, .null, .null, .null, vI 0, vI 0, .null, .null, .null, .null, .null, .null, .null])
  generalize zput _ b _ = g7 at V T ⊢
  refine Z.aload_n C dX7_init_44 rfl ?_
  refine Z.bipush C dX7_init_45 (by decide) ?_
  refine Z.newI (N := 10) C zw_arrI dX7_init_47 rfl (by decide) (by rw [hR]; exact Nat.le_of_ble_eq_true rfl) (by rw [hR]; exact Nat.le_of_ble_eq_true rfl) (fun a8 n8 => ?_)
  have V := V.new (e := eI ((zG_of X).2.1 0) 10 (fun _ => 0)) n8
  have T := T.new (e := eI ((zG_of X).2.1 0) 10 (fun _ => 0)) n8
  generalize zput _ a8 _ = h8 at V T ⊢
  have T : IL ([(a8, eI ((zG_of X).2.1 0) 10 (fun _ => 0)), (a7, eI ((zG_of X).2.1 0) 10 (fun _ => 0)), (a6, eI ((zG_of X).2.1 0) 10 (fun _ => 0)), (a5, eI ((zG_of X).2.1 0) 10 (fun _ => 0)), (a4, eI ((zG_of X).2.1 0) 10 (fun _ => 0)), (a3, eI ((zG_of X).2.1 1) 10 (fun _ => 0))] ++ [(b, eO 8 [vI 0, vI 0, vI 0, .ref a3, .ref a4, .ref a5, .ref a6, .ref a7, .null, .null, vI 0, .null, .null, .null, vI 0, vI 0, .null, .null, .null, .null, .null, .null, .null])]) h8 := T
  refine p_X7_26 (fs' := [vI 0, vI 0, vI 0, .ref a3, .ref a4, .ref a5, .ref a6, .ref a7, .ref a8, .null, vI 0, .null, .null, .null, vI 0, vI 0, .null, .null, .null, .null, .null, .null, .null]) C rfl rfl dX7_init_49 T.last (Nat.le_of_ble_eq_true rfl) rfl ?_
  have V := V.upd (eO 8 [vI 0, vI 0, vI 0, .ref a3, .ref a4, .ref a5, .ref a6, .ref a7, .ref a8, .null, vI 0, .null, .null, .null, vI 0, vI 0, .null, .null, .null, .null, .null, .null, .null])
  have T := T.upd (e1 := eO 8 [vI 0, vI 0, vI 0, .ref a3, .ref a4, .ref a5, .ref a6, .ref a7, .ref a8, .null, vI 0, .null, .null, .null, vI 0, vI 0, .null, .null, .null, .null, .null, .null, .null])
  generalize zput _ b _ = g8 at V T ⊢
  refine Z.aload_n C dX7_init_52 rfl ?_
  refine Z.bipush C dX7_init_53 (by decide) ?_
  refine Z.newI (N := 100) C zw_arrI dX7_init_55 rfl (by decide) (by rw [hR]; exact Nat.le_of_ble_eq_true rfl) (by rw [hR]; exact Nat.le_of_ble_eq_true rfl) (fun a9 n9 => ?_)
  have V := V.new (e := eI ((zG_of X).2.1 0) 100 (fun _ => 0)) n9
  have T := T.new (e := eI ((zG_of X).2.1 0) 100 (fun _ => 0)) n9
  generalize zput _ a9 _ = h9 at V T ⊢
  have T : IL ([(a9, eI ((zG_of X).2.1 0) 100 (fun _ => 0)), (a8, eI ((zG_of X).2.1 0) 10 (fun _ => 0)), (a7, eI ((zG_of X).2.1 0) 10 (fun _ => 0)), (a6, eI ((zG_of X).2.1 0) 10 (fun _ => 0)), (a5, eI ((zG_of X).2.1 0) 10 (fun _ => 0)), (a4, eI ((zG_of X).2.1 0) 10 (fun _ => 0)), (a3, eI ((zG_of X).2.1 1) 10 (fun _ => 0))] ++ [(b, eO 8 [vI 0, vI 0, vI 0, .ref a3, .ref a4, .ref a5, .ref a6, .ref a7, .ref a8, .null, vI 0, .null, .null, .null, vI 0, vI 0, .null, .null, .null, .null, .null, .null, .null])]) h9 := T
  refine p_X7_29 (fs' := [vI 0, vI 0, vI 0, .ref a3, .ref a4, .ref a5, .ref a6, .ref a7, .ref a8, .ref a9, vI 0, .null, .null, .null, vI 0, vI 0, .null, .null, .null, .null, .null, .null, .null]) C rfl rfl dX7_init_57 T.last (Nat.le_of_ble_eq_true rfl) rfl ?_
  have V := V.upd (eO 8 [vI 0, vI 0, vI 0, .ref a3, .ref a4, .ref a5, .ref a6, .ref a7, .ref a8, .ref a9, vI 0, .null, .null, .null, vI 0, vI 0, .null, .null, .null, .null, .null, .null, .null])
  have T := T.upd (e1 := eO 8 [vI 0, vI 0, vI 0, .ref a3, .ref a4, .ref a5, .ref a6, .ref a7, .ref a8, .ref a9, vI 0, .null, .null, .null, vI 0, vI 0, .null, .null, .null, .null, .null, .null, .null])
  generalize zput _ b _ = g9 at V T ⊢
  refine Z.aload_n C dX7_init_60 rfl ?_
  refine Z.bipush C dX7_init_61 (by decide) ?_
  refine Z.newI (N := 20) C zw_arrI dX7_init_63 rfl (by decide) (by rw [hR]; exact Nat.le_of_ble_eq_true rfl) (by rw [hR]; exact Nat.le_of_ble_eq_true rfl) (fun a11 n11 => ?_)
  have V := V.new (e := eI ((zG_of X).2.1 0) 20 (fun _ => 0)) n11
  have T := T.new (e := eI ((zG_of X).2.1 0) 20 (fun _ => 0)) n11
  generalize zput _ a11 _ = h11 at V T ⊢
  have T : IL ([(a11, eI ((zG_of X).2.1 0) 20 (fun _ => 0)), (a9, eI ((zG_of X).2.1 0) 100 (fun _ => 0)), (a8, eI ((zG_of X).2.1 0) 10 (fun _ => 0)), (a7, eI ((zG_of X).2.1 0) 10 (fun _ => 0)), (a6, eI ((zG_of X).2.1 0) 10 (fun _ => 0)), (a5, eI ((zG_of X).2.1 0) 10 (fun _ => 0)), (a4, eI ((zG_of X).2.1 0) 10 (fun _ => 0)), (a3, eI ((zG_of X).2.1 1) 10 (fun _ => 0))] ++ [(b, eO 8 [vI 0, vI 0, vI 0, .ref a3, .ref a4, .ref a5, .ref a6, .ref a7, .ref a8, .ref a9, vI 0, .null, .null, .null, vI 0, vI 0, .null, .null, .null, .null, .null, .null, .null])]) h11 := T
  refine p_X7_32 (fs' := [vI 0, vI 0, vI 0, .ref a3, .ref a4, .ref a5, .ref a6, .ref a7, .ref a8, .ref a9, vI 0, .ref a11, .null, .null, vI 0, vI 0, .null, .null, .null, .null, .null, .null, .null]) C rfl rfl dX7_init_65 T.last (Nat.le_of_ble_eq_true rfl) rfl ?_
  have V := V.upd (eO 8 [vI 0, vI 0, vI 0, .ref a3, .ref a4, .ref a5, .ref a6, .ref a7, .ref a8, .ref a9, vI 0, .ref a11, .null, .null, vI 0, vI 0, .null, .null, .null, .null, .null, .null, .null])
  have T := T.upd (e1 := eO 8 [vI 0, vI 0, vI 0, .ref a3, .ref a4, .ref a5, .ref a6, .ref a7, .ref a8, .ref a9, vI 0, .ref a11, .null, .null, vI 0, vI 0, .null, .null, .null, .null, .null, .null, .null])
  generalize zput _ b _ = g11 at V T ⊢
  refine Z.aload_n C dX7_init_68 rfl ?_
  refine Z.bipush C dX7_init_69 (by decide) ?_
  refine Z.newI (N := 20) C zw_arrI dX7_init_71 rfl (by decide) (by rw [hR]; exact Nat.le_of_ble_eq_true rfl) (by rw [hR]; exact Nat.le_of_ble_eq_true rfl) (fun a12 n12 => ?_)
  have V := V.new (e := eI ((zG_of X).2.1 0) 20 (fun _ => 0)) n12
  have T := T.new (e := eI ((zG_of X).2.1 0) 20 (fun _ => 0)) n12
  generalize zput _ a12 _ = h12 at V T ⊢
  have T : IL ([(a12, eI ((zG_of X).2.1 0) 20 (fun _ => 0)), (a11, eI ((zG_of X).2.1 0) 20 (fun _ => 0)), (a9, eI ((zG_of X).2.1 0) 100 (fun _ => 0)), (a8, eI ((zG_of X).2.1 0) 10 (fun _ => 0)), (a7, eI ((zG_of X).2.1 0) 10 (fun _ => 0)), (a6, eI ((zG_of X).2.1 0) 10 (fun _ => 0)), (a5, eI ((zG_of X).2.1 0) 10 (fun _ => 0)), (a4, eI ((zG_of X).2.1 0) 10 (fun _ => 0)), (a3, eI ((zG_of X).2.1 1) 10 (fun _ => 0))] ++ [(b, eO 8 [vI 0, vI 0, vI 0, .ref a3, .ref a4, .ref a5, .ref a6, .ref a7, .ref a8, .ref a9, vI 0, .ref a11, .null, .null, vI 0, vI 0, .null, .null, .null, .null, .null, .null, .null])]) h12 := T
  refine p_X7_35 (fs' := [vI 0, vI 0, vI 0, .ref a3, .ref a4, .ref a5, .ref a6, .ref a7, .ref a8, .ref a9, vI 0, .ref a11, .ref a12, .null, vI 0, vI 0, .null, .null, .null, .null, .null, .null, .null]) C rfl rfl dX7_init_73 T.last (Nat.le_of_ble_eq_true rfl) rfl ?_
  have V := V.upd (eO 8 [vI 0, vI 0, vI 0, .ref a3, .ref a4, .ref a5, .ref a6, .ref a7, .ref a8, .ref a9, vI 0, .ref a11, .ref a12, .null, vI 0, vI 0, .null, .null, .null, .null, .null, .null, .null])
  have T := T.upd (e1 := eO 8 [vI 0, vI 0, vI 0, .ref a3, .ref a4, .ref a5, .ref a6, .ref a7, .ref a8, .ref a9, vI 0, .ref a11, .ref a12, .null, vI 0, vI 0, .null, .null, .null, .null, .null, .null, .null])
  generalize zput _ b _ = g12 at V T ⊢
  refine Z.aload_n C dX7_init_76 rfl ?_
  refine Z.sipush C dX7_init_77 (by decide) ?_
  refine Z.newZ (N := 200) C zw_arrZ dX7_init_80 rfl (by decide) (by rw [hR]; exact Nat.le_of_ble_eq_true rfl) (by rw [hR]; exact Nat.le_of_ble_eq_true rfl) (fun a13 n13 => ?_)
  have V := V.new (e := eI ((zG_of X).2.1 1) 200 (fun _ => 0)) n13
  have T := T.new (e := eI ((zG_of X).2.1 1) 200 (fun _ => 0)) n13
  generalize zput _ a13 _ = h13 at V T ⊢
  have T : IL ([(a13, eI ((zG_of X).2.1 1) 200 (fun _ => 0)), (a12, eI ((zG_of X).2.1 0) 20 (fun _ => 0)), (a11, eI ((zG_of X).2.1 0) 20 (fun _ => 0)), (a9, eI ((zG_of X).2.1 0) 100 (fun _ => 0)), (a8, eI ((zG_of X).2.1 0) 10 (fun _ => 0)), (a7, eI ((zG_of X).2.1 0) 10 (fun _ => 0)), (a6, eI ((zG_of X).2.1 0) 10 (fun _ => 0)), (a5, eI ((zG_of X).2.1 0) 10 (fun _ => 0)), (a4, eI ((zG_of X).2.1 0) 10 (fun _ => 0)), (a3, eI ((zG_of X).2.1 1) 10 (fun _ => 0))] ++ [(b, eO 8 [vI 0, vI 0, vI 0, .ref a3, .ref a4, .ref a5, .ref a6, .ref a7, .ref a8, .ref a9, vI 0, .ref a11, .ref a12, .null, vI 0, vI 0, .null, .null, .null, .null, .null, .null, .null])]) h13 := T
  refine p_X7_38 (fs' := [vI 0, vI 0, vI 0, .ref a3, .ref a4, .ref a5, .ref a6, .ref a7, .ref a8, .ref a9, vI 0, .ref a11, .ref a12, .ref a13, vI 0, vI 0, .null, .null, .null, .null, .null, .null, .null]) C rfl rfl dX7_init_82 T.last (Nat.le_of_ble_eq_true rfl) rfl ?_
  have V := V.upd (eO 8 [vI 0, vI 0, vI 0, .ref a3, .ref a4, .ref a5, .ref a6, .ref a7, .ref a8, .ref a9, vI 0, .ref a11, .ref a12, .ref a13, vI 0, vI 0, .null, .null, .null, .null, .null, .null, .null])
  have T := T.upd (e1 := eO 8 [vI 0, vI 0, vI 0, .ref a3, .ref a4, .ref a5, .ref a6, .ref a7, .ref a8, .ref a9, vI 0, .ref a11, .ref a12, .ref a13, vI 0, vI 0, .null, .null, .null, .null, .null, .null, .null])
  generalize zput _ b _ = g13 at V T ⊢
  refine Z.aload_n C dX7_init_85 rfl ?_
  refine Z.bipush C dX7_init_86 (by decide) ?_
  refine Z.newI (N := 30) C zw_arrI dX7_init_88 rfl (by decide) (by rw [hR]; exact Nat.le_of_ble_eq_true rfl) (by rw [hR]; exact Nat.le_of_ble_eq_true rfl) (fun a16 n16 => ?_)
  have V := V.new (e := eI ((zG_of X).2.1 0) 30 (fun _ => 0)) n16
  have T := T.new (e := eI ((zG_of X).2.1 0) 30 (fun _ => 0)) n16
  generalize zput _ a16 _ = h16 at V T ⊢
  have T : IL ([(a16, eI ((zG_of X).2.1 0) 30 (fun _ => 0)), (a13, eI ((zG_of X).2.1 1) 200 (fun _ => 0)), (a12, eI ((zG_of X).2.1 0) 20 (fun _ => 0)), (a11, eI ((zG_of X).2.1 0) 20 (fun _ => 0)), (a9, eI ((zG_of X).2.1 0) 100 (fun _ => 0)), (a8, eI ((zG_of X).2.1 0) 10 (fun _ => 0)), (a7, eI ((zG_of X).2.1 0) 10 (fun _ => 0)), (a6, eI ((zG_of X).2.1 0) 10 (fun _ => 0)), (a5, eI ((zG_of X).2.1 0) 10 (fun _ => 0)), (a4, eI ((zG_of X).2.1 0) 10 (fun _ => 0)), (a3, eI ((zG_of X).2.1 1) 10 (fun _ => 0))] ++ [(b, eO 8 [vI 0, vI 0, vI 0, .ref a3, .ref a4, .ref a5, .ref a6, .ref a7, .ref a8, .ref a9, vI 0, .ref a11, .ref a12, .ref a13, vI 0, vI 0, .null, .null, .null, .null, .null, .null, .null])]) h16 := T
  refine p_X7_41 (fs' := [vI 0, vI 0, vI 0, .ref a3, .ref a4, .ref a5, .ref a6, .ref a7, .ref a8, .ref a9, vI 0, .ref a11, .ref a12, .ref a13, vI 0, vI 0, .ref a16, .null, .null, .null, .null, .null, .null]) C rfl rfl dX7_init_90 T.last (Nat.le_of_ble_eq_true rfl) rfl ?_
  have V := V.upd (eO 8 [vI 0, vI 0, vI 0, .ref a3, .ref a4, .ref a5, .ref a6, .ref a7, .ref a8, .ref a9, vI 0, .ref a11, .ref a12, .ref a13, vI 0, vI 0, .ref a16, .null, .null, .null, .null, .null, .null])
  have T := T.upd (e1 := eO 8 [vI 0, vI 0, vI 0, .ref a3, .ref a4, .ref a5, .ref a6, .ref a7, .ref a8, .ref a9, vI 0, .ref a11, .ref a12, .ref a13, vI 0, vI 0, .ref a16, .null, .null, .null, .null, .null, .null])
  generalize zput _ b _ = g16 at V T ⊢
  refine Z.aload_n C dX7_init_93 rfl ?_
  refine Z.bipush C dX7_init_94 (by decide) ?_
  refine Z.newI (N := 30) C zw_arrI dX7_init_96 rfl (by decide) (by rw [hR]; exact Nat.le_of_ble_eq_true rfl) (by rw [hR]; exact Nat.le_of_ble_eq_true rfl) (fun a17 n17 => ?_)
  have V := V.new (e := eI ((zG_of X).2.1 0) 30 (fun _ => 0)) n17
  have T := T.new (e := eI ((zG_of X).2.1 0) 30 (fun _ => 0)) n17
  generalize zput _ a17 _ = h17 at V T ⊢
  have T : IL ([(a17, eI ((zG_of X).2.1 0) 30 (fun _ => 0)), (a16, eI ((zG_of X).2.1 0) 30 (fun _ => 0)), (a13, eI ((zG_of X).2.1 1) 200 (fun _ => 0)), (a12, eI ((zG_of X).2.1 0) 20 (fun _ => 0)), (a11, eI ((zG_of X).2.1 0) 20 (fun _ => 0)), (a9, eI ((zG_of X).2.1 0) 100 (fun _ => 0)), (a8, eI ((zG_of X).2.1 0) 10 (fun _ => 0)), (a7, eI ((zG_of X).2.1 0) 10 (fun _ => 0)), (a6, eI ((zG_of X).2.1 0) 10 (fun _ => 0)), (a5, eI ((zG_of X).2.1 0) 10 (fun _ => 0)), (a4, eI ((zG_of X).2.1 0) 10 (fun _ => 0)), (a3, eI ((zG_of X).2.1 1) 10 (fun _ => 0))] ++ [(b, eO 8 [vI 0, vI 0, vI 0, .ref a3, .ref a4, .ref a5, .ref a6, .ref a7, .ref a8, .ref a9, vI 0, .ref a11, .ref a12, .ref a13, vI 0, vI 0, .ref a16, .null, .null, .null, .null, .null, .null])]) h17 := T
  refine p_X7_44 (fs' := [vI 0, vI 0, vI 0, .ref a3, .ref a4, .ref a5, .ref a6, .ref a7, .ref a8, .ref a9, vI 0, .ref a11, .ref a12, .ref a13, vI 0, vI 0, .ref a16, .ref a17, .null, .null, .null, .null, .null]) C rfl rfl dX7_init_98 T.last (Nat.le_of_ble_eq_true rfl) rfl ?_
  have V := V.upd (eO 8 [vI 0, vI 0, vI 0, .ref a3, .ref a4, .ref a5, .ref a6, .ref a7, .ref a8, .ref a9, vI 0, .ref a11, .ref a12, .ref a13, vI 0, vI 0, .ref a16, .ref a17, .null, .null, .null, .null, .null])
  have T := T.upd (e1 := eO 8 [vI 0, vI 0, vI 0, .ref a3, .ref a4, .ref a5, .ref a6, .ref a7, .ref a8, .ref a9, vI 0, .ref a11, .ref a12, .ref a13, vI 0, vI 0, .ref a16, .ref a17, .null, .null, .null, .null, .null])
  generalize zput _ b _ = g17 at V T ⊢
  refine Z.aload_n C dX7_init_101 rfl ?_
  refine Z.bipush C dX7_init_102 (by decide) ?_
  refine Z.newI (N := 30) C zw_arrI dX7_init_104 rfl (by decide) (by rw [hR]; exact Nat.le_of_ble_eq_true rfl) (by rw [hR]; exact Nat.le_of_ble_eq_true rfl) (fun a18 n18 => ?_)
  have V := V.new (e := eI ((zG_of X).2.1 0) 30 (fun _ => 0)) n18
  have T := T.new (e := eI ((zG_of X).2.1 0) 30 (fun _ => 0)) n18
  generalize zput _ a18 _ = h18 at V T ⊢
  have T : IL ([(a18, eI ((zG_of X).2.1 0) 30 (fun _ => 0)), (a17, eI ((zG_of X).2.1 0) 30 (fun _ => 0)), (a16, eI ((zG_of X).2.1 0) 30 (fun _ => 0)), (a13, eI ((zG_of X).2.1 1) 200 (fun _ => 0)), (a12, eI ((zG_of X).2.1 0) 20 (fun _ => 0)), (a11, eI ((zG_of X).2.1 0) 20 (fun _ => 0)), (a9, eI ((zG_of X).2.1 0) 100 (fun _ => 0)), (a8, eI ((zG_of X).2.1 0) 10 (fun _ => 0)), (a7, eI ((zG_of X).2.1 0) 10 (fun _ => 0)), (a6, eI ((zG_of X).2.1 0) 10 (fun _ => 0)), (a5, eI ((zG_of X).2.1 0) 10 (fun _ => 0)), (a4, eI ((zG_of X).2.1 0) 10 (fun _ => 0)), (a3, eI ((zG_of X).2.1 1) 10 (fun _ => 0))] ++ [(b, eO 8 [vI 0, vI 0, vI 0, .ref a3, .ref a4, .ref a5, .ref a6, .ref a7, .ref a8, .ref a9, vI 0, .ref a11, .ref a12, .ref a13, vI 0, vI 0, .ref a16, .ref a17, .null, .null, .null, .null, .null])]) h18 := T
  refine p_X7_47 (fs' := [vI 0, vI 0, vI 0, .ref a3, .ref a4, .ref a5, .ref a6, .ref a7, .ref a8, .ref a9, vI 0, .ref a11, .ref a12, .ref a13, vI 0, vI 0, .ref a16, .ref a17, .ref a18, .null, .null, .null, .null]) C rfl rfl dX7_init_106 T.last (Nat.le_of_ble_eq_true rfl) rfl ?_
  have V := V.upd (eO 8 [vI 0, vI 0, vI 0, .ref a3, .ref a4, .ref a5, .ref a6, .ref a7, .ref a8, .ref a9, vI 0, .ref a11, .ref a12, .ref a13, vI 0, vI 0, .ref a16, .ref a17, .ref a18, .null, .null, .null, .null])
  have T := T.upd (e1 := eO 8 [vI 0, vI 0, vI 0, .ref a3, .ref a4, .ref a5, .ref a6, .ref a7, .ref a8, .ref a9, vI 0, .ref a11, .ref a12, .ref a13, vI 0, vI 0, .ref a16, .ref a17, .ref a18, .null, .null, .null, .null])
  generalize zput _ b _ = g18 at V T ⊢
  refine Z.aload_n C dX7_init_109 rfl ?_
  refine Z.bipush C dX7_init_110 (by decide) ?_
  refine Z.newI (N := 30) C zw_arrI dX7_init_112 rfl (by decide) (by rw [hR]; exact Nat.le_of_ble_eq_true rfl) (by rw [hR]; exact Nat.le_of_ble_eq_true rfl) (fun a19 n19 => ?_)
  have V := V.new (e := eI ((zG_of X).2.1 0) 30 (fun _ => 0)) n19
  have T := T.new (e := eI ((zG_of X).2.1 0) 30 (fun _ => 0)) n19
  generalize zput _ a19 _ = h19 at V T ⊢
  have T : IL ([(a19, eI ((zG_of X).2.1 0) 30 (fun _ => 0)), (a18, eI ((zG_of X).2.1 0) 30 (fun _ => 0)), (a17, eI ((zG_of X).2.1 0) 30 (fun _ => 0)), (a16, eI ((zG_of X).2.1 0) 30 (fun _ => 0)), (a13, eI ((zG_of X).2.1 1) 200 (fun _ => 0)), (a12, eI ((zG_of X).2.1 0) 20 (fun _ => 0)), (a11, eI ((zG_of X).2.1 0) 20 (fun _ => 0)), (a9, eI ((zG_of X).2.1 0) 100 (fun _ => 0)), (a8, eI ((zG_of X).2.1 0) 10 (fun _ => 0)), (a7, eI ((zG_of X).2.1 0) 10 (fun _ => 0)), (a6, eI ((zG_of X).2.1 0) 10 (fun _ => 0)), (a5, eI ((zG_of X).2.1 0) 10 (fun _ => 0)), (a4, eI ((zG_of X).2.1 0) 10 (fun _ => 0)), (a3, eI ((zG_of X).2.1 1) 10 (fun _ => 0))] ++ [(b, eO 8 [vI 0, vI 0, vI 0, .ref a3, .ref a4, .ref a5, .ref a6, .ref a7, .ref a8, .ref a9, vI 0, .ref a11, .ref a12, .ref a13, vI 0, vI 0, .ref a16, .ref a17, .ref a18, .null, .null, .null, .null])]) h19 := T
  refine p_X7_50 (fs' := [vI 0, vI 0, vI 0, .ref a3, .ref a4, .ref a5, .ref a6, .ref a7, .ref a8, .ref a9, vI 0, .ref a11, .ref a12, .ref a13, vI 0, vI 0, .ref a16, .ref a17, .ref a18, .ref a19, .null, .null, .null]) C rfl rfl dX7_init_114 T.last (Nat.le_of_ble_eq_true rfl) rfl ?_
  have V := V.upd (eO 8 [vI 0, vI 0, vI 0, .ref a3, .ref a4, .ref a5, .ref a6, .ref a7, .ref a8, .ref a9, vI 0, .ref a11, .ref a12, .ref a13, vI 0, vI 0, .ref a16, .ref a17, .ref a18, .ref a19, .null, .null, .null])
  have T := T.upd (e1 := eO 8 [vI 0, vI 0, vI 0, .ref a3, .ref a4, .ref a5, .ref a6, .ref a7, .ref a8, .ref a9, vI 0, .ref a11, .ref a12, .ref a13, vI 0, vI 0, .ref a16, .ref a17, .ref a18, .ref a19, .null, .null, .null])
  generalize zput _ b _ = g19 at V T ⊢
  refine Z.aload_n C dX7_init_117 rfl ?_
  refine Z.sipush C dX7_init_118 (by decide) ?_
  refine Z.newI (N := 300) C zw_arrI dX7_init_121 rfl (by decide) (by rw [hR]; exact Nat.le_of_ble_eq_true rfl) (by rw [hR]; exact Nat.le_of_ble_eq_true rfl) (fun a20 n20 => ?_)
  have V := V.new (e := eI ((zG_of X).2.1 0) 300 (fun _ => 0)) n20
  have T := T.new (e := eI ((zG_of X).2.1 0) 300 (fun _ => 0)) n20
  generalize zput _ a20 _ = h20 at V T ⊢
  have T : IL ([(a20, eI ((zG_of X).2.1 0) 300 (fun _ => 0)), (a19, eI ((zG_of X).2.1 0) 30 (fun _ => 0)), (a18, eI ((zG_of X).2.1 0) 30 (fun _ => 0)), (a17, eI ((zG_of X).2.1 0) 30 (fun _ => 0)), (a16, eI ((zG_of X).2.1 0) 30 (fun _ => 0)), (a13, eI ((zG_of X).2.1 1) 200 (fun _ => 0)), (a12, eI ((zG_of X).2.1 0) 20 (fun _ => 0)), (a11, eI ((zG_of X).2.1 0) 20 (fun _ => 0)), (a9, eI ((zG_of X).2.1 0) 100 (fun _ => 0)), (a8, eI ((zG_of X).2.1 0) 10 (fun _ => 0)), (a7, eI ((zG_of X).2.1 0) 10 (fun _ => 0)), (a6, eI ((zG_of X).2.1 0) 10 (fun _ => 0)), (a5, eI ((zG_of X).2.1 0) 10 (fun _ => 0)), (a4, eI ((zG_of X).2.1 0) 10 (fun _ => 0)), (a3, eI ((zG_of X).2.1 1) 10 (fun _ => 0))] ++ [(b, eO 8 [vI 0, vI 0, vI 0, .ref a3, .ref a4, .ref a5, .ref a6, .ref a7, .ref a8, .ref a9, vI 0, .ref a11, .ref a12, .ref a13, vI 0, vI 0, .ref a16, .ref a17, .ref a18, .ref a19, .null, .null, .null])]) h20 := T
  refine p_X7_53 (fs' := [vI 0, vI 0, vI 0, .ref a3, .ref a4, .ref a5, .ref a6, .ref a7, .ref a8, .ref a9, vI 0, .ref a11, .ref a12, .ref a13, vI 0, vI 0, .ref a16, .ref a17, .ref a18, .ref a19, .ref a20, .null, .null]) C rfl rfl dX7_init_123 T.last (Nat.le_of_ble_eq_true rfl) rfl ?_
  have V := V.upd (eO 8 [vI 0, vI 0, vI 0, .ref a3, .ref a4, .ref a5, .ref a6, .ref a7, .ref a8, .ref a9, vI 0, .ref a11, .ref a12, .ref a13, vI 0, vI 0, .ref a16, .ref a17, .ref a18, .ref a19, .ref a20, .null, .null])
  have T := T.upd (e1 := eO 8 [vI 0, vI 0, vI 0, .ref a3, .ref a4, .ref a5, .ref a6, .ref a7, .ref a8, .ref a9, vI 0, .ref a11, .ref a12, .ref a13, vI 0, vI 0, .ref a16, .ref a17, .ref a18, .ref a19, .ref a20, .null, .null])
  generalize zput _ b _ = g20 at V T ⊢
  refine Z.aload_n C dX7_init_126 rfl ?_
  refine Z.bipush C dX7_init_127 (by decide) ?_
  refine Z.newI (N := 30) C zw_arrI dX7_init_129 rfl (by decide) (by rw [hR]; exact Nat.le_of_ble_eq_true rfl) (by rw [hR]; exact Nat.le_of_ble_eq_true rfl) (fun a21 n21 => ?_)
  have V := V.new (e := eI ((zG_of X).2.1 0) 30 (fun _ => 0)) n21
  have T := T.new (e := eI ((zG_of X).2.1 0) 30 (fun _ => 0)) n21
  generalize zput _ a21 _ = h21 at V T ⊢
  have T : IL ([(a21, eI ((zG_of X).2.1 0) 30 (fun _ => 0)), (a20, eI ((zG_of X).2.1 0) 300 (fun _ => 0)), (a19, eI ((zG_of X).2.1 0) 30 (fun _ => 0)), (a18, eI ((zG_of X).2.1 0) 30 (fun _ => 0)), (a17, eI ((zG_of X).2.1 0) 30 (fun _ => 0)), (a16, eI ((zG_of X).2.1 0) 30 (fun _ => 0)), (a13, eI ((zG_of X).2.1 1) 200 (fun _ => 0)), (a12, eI ((zG_of X).2.1 0) 20 (fun _ => 0)), (a11, eI ((zG_of X).2.1 0) 20 (fun _ => 0)), (a9, eI ((zG_of X).2.1 0) 100 (fun _ => 0)), (a8, eI ((zG_of X).2.1 0) 10 (fun _ => 0)), (a7, eI ((zG_of X).2.1 0) 10 (fun _ => 0)), (a6, eI ((zG_of X).2.1 0) 10 (fun _ => 0)), (a5, eI ((zG_of X).2.1 0) 10 (fun _ => 0)), (a4, eI ((zG_of X).2.1 0) 10 (fun _ => 0)), (a3, eI ((zG_of X).2.1 1) 10 (fun _ => 0))] ++ [(b, eO 8 [vI 0, vI 0, vI 0, .ref a3, .ref a4, .ref a5, .ref a6, .ref a7, .ref a8, .ref a9, vI 0, .ref a11, .ref a12, .ref a13, vI 0, vI 0, .ref a16, .ref a17, .ref a18, .ref a19, .ref a20, .null, .null])]) h21 := T
  refine p_X7_56 (fs' := [vI 0, vI 0, vI 0, .ref a3, .ref a4, .ref a5, .ref a6, .ref a7, .ref a8, .ref a9, vI 0, .ref a11, .ref a12, .ref a13, vI 0, vI 0, .ref a16, .ref a17, .ref a18, .ref a19, .ref a20, .ref a21, .null]) C rfl rfl dX7_init_131 T.last (Nat.le_of_ble_eq_true rfl) rfl ?_
  have V := V.upd (eO 8 [vI 0, vI 0, vI 0, .ref a3, .ref a4, .ref a5, .ref a6, .ref a7, .ref a8, .ref a9, vI 0, .ref a11, .ref a12, .ref a13, vI 0, vI 0, .ref a16, .ref a17, .ref a18, .ref a19, .ref a20, .ref a21, .null])
  have T := T.upd (e1 := eO 8 [vI 0, vI 0, vI 0, .ref a3, .ref a4, .ref a5, .ref a6, .ref a7, .ref a8, .ref a9, vI 0, .ref a11, .ref a12, .ref a13, vI 0, vI 0, .ref a16, .ref a17, .ref a18, .ref a19, .ref a20, .ref a21, .null])
  generalize zput _ b _ = g21 at V T ⊢
  refine Z.aload_n C dX7_init_134 rfl ?_
  refine Z.bipush C dX7_init_135 (by decide) ?_
  refine Z.newI (N := 30) C zw_arrI dX7_init_137 rfl (by decide) (by rw [hR]; exact Nat.le_of_ble_eq_true rfl) (by rw [hR]; exact Nat.le_of_ble_eq_true rfl) (fun a22 n22 => ?_)
  have V := V.new (e := eI ((zG_of X).2.1 0) 30 (fun _ => 0)) n22
  have T := T.new (e := eI ((zG_of X).2.1 0) 30 (fun _ => 0)) n22
  generalize zput _ a22 _ = h22 at V T ⊢
  have T : IL ([(a22, eI ((zG_of X).2.1 0) 30 (fun _ => 0)), (a21, eI ((zG_of X).2.1 0) 30 (fun _ => 0)), (a20, eI ((zG_of X).2.1 0) 300 (fun _ => 0)), (a19, eI ((zG_of X).2.1 0) 30 (fun _ => 0)), (a18, eI ((zG_of X).2.1 0) 30 (fun _ => 0)), (a17, eI ((zG_of X).2.1 0) 30 (fun _ => 0)), (a16, eI ((zG_of X).2.1 0) 30 (fun _ => 0)), (a13, eI ((zG_of X).2.1 1) 200 (fun _ => 0)), (a12, eI ((zG_of X).2.1 0) 20 (fun _ => 0)), (a11, eI ((zG_of X).2.1 0) 20 (fun _ => 0)), (a9, eI ((zG_of X).2.1 0) 100 (fun _ => 0)), (a8, eI ((zG_of X).2.1 0) 10 (fun _ => 0)), (a7, eI ((zG_of X).2.1 0) 10 (fun _ => 0)), (a6, eI ((zG_of X).2.1 0) 10 (fun _ => 0)), (a5, eI ((zG_of X).2.1 0) 10 (fun _ => 0)), (a4, eI ((zG_of X).2.1 0) 10 (fun _ => 0)), (a3, eI ((zG_of X).2.1 1) 10 (fun _ => 0))] ++ [(b, eO 8 [vI 0, vI 0, vI 0, .ref a3, .ref a4, .ref a5, .ref a6, .ref a7, .ref a8, .ref a9, vI 0, .ref a11, .ref a12, .ref a13, vI 0, vI 0, .ref a16, .ref a17, .ref a18, .ref a19, .ref a20, .ref a21, .null])]) h22 := T
  refine p_X7_59 (fs' := [vI 0, vI 0, vI 0, .ref a3, .ref a4, .ref a5, .ref a6, .ref a7, .ref a8, .ref a9, vI 0, .ref a11, .ref a12, .ref a13, vI 0, vI 0, .ref a16, .ref a17, .ref a18, .ref a19, .ref a20, .ref a21, .ref a22]) C rfl rfl dX7_init_139 T.last (Nat.le_of_ble_eq_true rfl) rfl ?_
  have V := V.upd (eO 8 [vI 0, vI 0, vI 0, .ref a3, .ref a4, .ref a5, .ref a6, .ref a7, .ref a8, .ref a9, vI 0, .ref a11, .ref a12, .ref a13, vI 0, vI 0, .ref a16, .ref a17, .ref a18, .ref a19, .ref a20, .ref a21, .ref a22])
  have T := T.upd (e1 := eO 8 [vI 0, vI 0, vI 0, .ref a3, .ref a4, .ref a5, .ref a6, .ref a7, .ref a8, .ref a9, vI 0, .ref a11, .ref a12, .ref a13, vI 0, vI 0, .ref a16, .ref a17, .ref a18, .ref a19, .ref a20, .ref a21, .ref a22])
  generalize zput _ b _ = g22 at V T ⊢
  refine Z.vret C E dX7_init_142 (Nat.le_of_ble_eq_true rfl) (Nat.le_of_ble_eq_true rfl) ⟨rfl, V, mad b a3 a4 a5 a6 a7 a8 a9 a11 a12 a13 a16 a17 a18 a19 a20 a21 a22, rfl, T.get 17 rfl, fun k hk => ?_, fun i j hi hj hij => ?_⟩
  · rcases mIs_c hk with rfl | rfl | rfl | rfl | rfl | rfl | rfl | rfl | rfl | rfl | rfl | rfl | rfl | rfl | rfl | rfl | rfl
    · exact T.get 16 rfl
    · exact T.get 15 rfl
    · exact T.get 14 rfl
    · exact T.get 13 rfl
    · exact T.get 12 rfl
    · exact T.get 11 rfl
    · exact T.get 10 rfl
    · exact T.get 9 rfl
    · exact T.get 8 rfl
    · exact T.get 7 rfl
    · exact T.get 6 rfl
    · exact T.get 5 rfl
    · exact T.get 4 rfl
    · exact T.get 3 rfl
    · exact T.get 2 rfl
    · exact T.get 1 rfl
    · exact T.get 0 rfl
  · have hi2 := mpos_ok hi
    have hj2 := mpos_ok hj
    have hg : ∀ k, (k = 0 ∨ mIs k = true) → ∃ x, ([(a22, eI ((zG_of X).2.1 0) 30 (fun _ => 0)), (a21, eI ((zG_of X).2.1 0) 30 (fun _ => 0)), (a20, eI ((zG_of X).2.1 0) 300 (fun _ => 0)), (a19, eI ((zG_of X).2.1 0) 30 (fun _ => 0)), (a18, eI ((zG_of X).2.1 0) 30 (fun _ => 0)), (a17, eI ((zG_of X).2.1 0) 30 (fun _ => 0)), (a16, eI ((zG_of X).2.1 0) 30 (fun _ => 0)), (a13, eI ((zG_of X).2.1 1) 200 (fun _ => 0)), (a12, eI ((zG_of X).2.1 0) 20 (fun _ => 0)), (a11, eI ((zG_of X).2.1 0) 20 (fun _ => 0)), (a9, eI ((zG_of X).2.1 0) 100 (fun _ => 0)), (a8, eI ((zG_of X).2.1 0) 10 (fun _ => 0)), (a7, eI ((zG_of X).2.1 0) 10 (fun _ => 0)), (a6, eI ((zG_of X).2.1 0) 10 (fun _ => 0)), (a5, eI ((zG_of X).2.1 0) 10 (fun _ => 0)), (a4, eI ((zG_of X).2.1 0) 10 (fun _ => 0)), (a3, eI ((zG_of X).2.1 1) 10 (fun _ => 0))] ++ [(b, eO 8 [vI 0, vI 0, vI 0, .ref a3, .ref a4, .ref a5, .ref a6, .ref a7, .ref a8, .ref a9, vI 0, .ref a11, .ref a12, .ref a13, vI 0, vI 0, .ref a16, .ref a17, .ref a18, .ref a19, .ref a20, .ref a21, .ref a22])])[mpos k]? = some (mad b a3 a4 a5 a6 a7 a8 a9 a11 a12 a13 a16 a17 a18 a19 a20 a21 a22 k, x) := by
      intro k hk
      rcases hk with rfl | hk
      · exact ⟨_, rfl⟩
      · rcases mIs_c hk with rfl | rfl | rfl | rfl | rfl | rfl | rfl | rfl | rfl | rfl | rfl | rfl | rfl | rfl | rfl | rfl | rfl <;> exact ⟨_, rfl⟩
    obtain ⟨x, hx⟩ := hg i hi
    obtain ⟨z, hz⟩ := hg j hj
    exact mpos_inj hi hj (T.inj hx hz hij)
