/-! a new club -/
theorem zput_none {h : zH} {a q : Nat} {e : va_E} (hq : zput h a e q = none) : q ≠ a ∧ h q = none := by
  unfold zput at hq
  split at hq
  · cases hq
  · rename_i c; exact ⟨c, hq⟩
def ad0 (b l0 l1 l2 l3 : Nat) : Nat → Nat → Nat := fun k i => if k = 10 then (if i = 0 then l0 else if i = 1 then l1 else if i = 2 then l2 else l3) else b
theorem CR.new0 {G : zG} {h : zH} {b l0 l1 l2 l3 : Nat} (hb : h b = some (eO 7 [.ref l0, .ref l1, .ref l2, .ref l3, vI 0, vI 0])) (h0 : h l0 = some (eO 1 [vI 0, .ref (G.2.2 5), vI 0])) (h1 : h l1 = some (eO 1 [vI 0, .ref (G.2.2 5), vI 0])) (h2 : h l2 = some (eO 1 [vI 0, .ref (G.2.2 5), vI 0])) (h3 : h l3 = some (eO 1 [vI 0, .ref (G.2.2 5), vI 0]))
    (hd : l1 ≠ l0 ∧ l2 ≠ l0 ∧ l3 ≠ l0 ∧ l2 ≠ l1 ∧ l3 ≠ l1 ∧ l3 ≠ l2) (hsep : ∀ q, h q ≠ none → q ≠ G.2.2 5) : CR G (ad0 b l0 l1 l2 l3) (fun _ => G.2.2 5) (fun _ _ => 0) h := by
  have hz : ∀ g, g ≠ 8 → cN (fun _ _ => 0) g = 0 := fun g hg => by
    unfold cN
    split <;> first | rfl | omega
  have hk : ∀ k i, i < cN (fun _ _ => 0) (cG k) → k = 0 ∧ i = 0 := fun k i hi => by
    by_cases c : cG k = 8
    · rw [c] at hi
      refine ⟨?_, Nat.lt_one_iff.mp hi⟩
      unfold cG at c
      split at c <;> first | omega | rfl
    · rw [hz _ c] at hi
      exact absurd hi (Nat.not_lt_zero _)
  have hn : ∀ (q : Nat) (x : va_E), h q = some x → (G.2.2 5) ≠ q := fun q x e z => hsep q (by rw [e]; exact fun y => by cases y) z.symm
  refine ⟨fun k i hi => ?_, fun k i k' i' hi hi' _ => ?_, fun q hq => ?_, fun q q' hq hq' hne => ⟨?_, fun z => ?_⟩⟩
  · obtain ⟨rfl, rfl⟩ := hk k i hi
    exact hb
  · obtain ⟨rfl, rfl⟩ := hk k i hi
    obtain ⟨rfl, rfl⟩ := hk k' i' hi'
    exact ⟨rfl, rfl⟩
  · have hq4 : q = 0 ∨ q = 1 ∨ q = 2 ∨ q = 3 := by omega
    rcases hq4 with rfl | rfl | rfl | rfl
    · exact ⟨⟨0, h0⟩, hn _ _ h0, Or.inl ⟨rfl, rfl⟩⟩
    · exact ⟨⟨0, h1⟩, hn _ _ h1, Or.inl ⟨rfl, rfl⟩⟩
    · exact ⟨⟨0, h2⟩, hn _ _ h2, Or.inl ⟨rfl, rfl⟩⟩
    · exact ⟨⟨0, h3⟩, hn _ _ h3, Or.inl ⟨rfl, rfl⟩⟩
  · obtain ⟨d1, d2, d3, d4, d5, d6⟩ := hd
    have hq4 : q = 0 ∨ q = 1 ∨ q = 2 ∨ q = 3 := by omega
    have hq4' : q' = 0 ∨ q' = 1 ∨ q' = 2 ∨ q' = 3 := by omega
    rcases hq4 with rfl | rfl | rfl | rfl <;> rcases hq4' with rfl | rfl | rfl | rfl
    all_goals first
      | exact absurd rfl hne
      | exact d1
      | exact d2
      | exact d3
      | exact d4
      | exact d5
      | exact d6
      | exact d1.symm
      | exact d2.symm
      | exact d3.symm
      | exact d4.symm
      | exact d5.symm
      | exact d6.symm
  · rw [hz q (by omega)] at z
    exact absurd z (Nat.lt_irrefl _)

set_option maxRecDepth 100000 in
theorem c_X6_init {ln : Launch} (htr : ln.stackTraces = false) {G : zG} {h : zH} {b : Nat} (ho : h b = some (eO 7 [.null, .null, .null, .null, vI 0, vI 0])) : CT ln G yX6_init cX6_init 1 none 4 ([.ref b]) h 4 12 (fun r9 h9 => r9 = none ∧ PV b h h9 ∧ CK G b (fun _ _ => 0) h9) zNo := by
  refine CT.intro htr (by decide) rfl (Nat.le_of_ble_eq_true rfl) ?_
  intro X hln hG hR hN C E
  subst hln
  subst hG
  refine Z.aload_n C dX6_init_0 rfl ?_
  refine o_X6_1 C rfl dX6_init_1 (by decide) (Nat.le_of_ble_eq_true rfl) ?_
  refine Z.aload_n C dX6_init_4 rfl ?_
  refine n_X6_7 C rfl dX6_init_5 (by rw [hR]; exact Nat.le_of_ble_eq_true rfl) (by rw [hR]; exact Nat.le_of_ble_eq_true rfl) (fun l0 na0 => ?_)
  refine Z.dup C dX6_init_8 rfl ?_
  refine i_X6_9 C rfl dX6_init_9 (c_Jx4a65c_init_da8c8 htr (zput_same _ _ _)) (by decide) (Nat.le_of_ble_eq_true rfl) (by rw [hR]; exact Nat.le_of_ble_eq_true rfl) (by rw [hR]; exact Nat.le_of_ble_eq_true rfl) (fun w9 h9 q9 => ?_)
  obtain ⟨rfl, q9⟩ := q9
  rw [zput_zput, zput_zput] at q9
  subst q9
  have n0b : l0 ≠ b := fun z => by rw [z, ho] at na0; cases na0
  refine p_X6_10 (fs' := [.ref l0, .null, .null, .null, vI 0, vI 0]) C rfl rfl dX6_init_12  ((zput_ne _ _ n0b.symm).trans ho) (Nat.le_of_ble_eq_true rfl) rfl ?_
  have B1 : zput (zput h l0 (eO 1 [vI 0, .ref ((zG_of X).2.2 5), vI 0])) b (eO 7 [.ref l0, .null, .null, .null, vI 0, vI 0]) b = some (eO 7 [.ref l0, .null, .null, .null, vI 0, vI 0]) := zput_same _ _ _
  have c0_1 : zput (zput h l0 (eO 1 [vI 0, .ref ((zG_of X).2.2 5), vI 0])) b (eO 7 [.ref l0, .null, .null, .null, vI 0, vI 0]) l0 = some (eO 1 [vI 0, .ref ((zG_of X).2.2 5), vI 0]) := (zput_ne _ _ n0b).trans (zput_same _ _ _)
  have pv1 : PV b h (zput (zput h l0 (eO 1 [vI 0, .ref ((zG_of X).2.2 5), vI 0])) b (eO 7 [.ref l0, .null, .null, .null, vI 0, vI 0])) := ((PV.rf b h).new na0).upd _
  generalize zput (zput h l0 (eO 1 [vI 0, .ref ((zG_of X).2.2 5), vI 0])) b (eO 7 [.ref l0, .null, .null, .null, vI 0, vI 0]) = H1 at *
  refine Z.aload_n C dX6_init_15 rfl ?_
  refine n_X6_7 C rfl dX6_init_16 (by rw [hR]; exact Nat.le_of_ble_eq_true rfl) (by rw [hR]; exact Nat.le_of_ble_eq_true rfl) (fun l1 na1 => ?_)
  refine Z.dup C dX6_init_19 rfl ?_
  refine i_X6_9 C rfl dX6_init_20 (c_Jx4a65c_init_da8c8 htr (zput_same _ _ _)) (by decide) (Nat.le_of_ble_eq_true rfl) (by rw [hR]; exact Nat.le_of_ble_eq_true rfl) (by rw [hR]; exact Nat.le_of_ble_eq_true rfl) (fun w20 h20 q20 => ?_)
  obtain ⟨rfl, q20⟩ := q20
  rw [zput_zput, zput_zput] at q20
  subst q20
  have n1b : l1 ≠ b := fun z => by rw [z, B1] at na1; cases na1
  have n10 : l1 ≠ l0 := fun z => by rw [z, c0_1] at na1; cases na1
  refine p_X6_16 (fs' := [.ref l0, .ref l1, .null, .null, vI 0, vI 0]) C rfl rfl dX6_init_23  ((zput_ne _ _ n1b.symm).trans B1) (Nat.le_of_ble_eq_true rfl) rfl ?_
  have B2 : zput (zput H1 l1 (eO 1 [vI 0, .ref ((zG_of X).2.2 5), vI 0])) b (eO 7 [.ref l0, .ref l1, .null, .null, vI 0, vI 0]) b = some (eO 7 [.ref l0, .ref l1, .null, .null, vI 0, vI 0]) := zput_same _ _ _
  have c1_2 : zput (zput H1 l1 (eO 1 [vI 0, .ref ((zG_of X).2.2 5), vI 0])) b (eO 7 [.ref l0, .ref l1, .null, .null, vI 0, vI 0]) l1 = some (eO 1 [vI 0, .ref ((zG_of X).2.2 5), vI 0]) := (zput_ne _ _ n1b).trans (zput_same _ _ _)
  have c0_2 : zput (zput H1 l1 (eO 1 [vI 0, .ref ((zG_of X).2.2 5), vI 0])) b (eO 7 [.ref l0, .ref l1, .null, .null, vI 0, vI 0]) l0 = some (eO 1 [vI 0, .ref ((zG_of X).2.2 5), vI 0]) := (zput_ne _ _ n0b).trans ((zput_ne _ _ n10.symm).trans c0_1)
  have pv2 : PV b h (zput (zput H1 l1 (eO 1 [vI 0, .ref ((zG_of X).2.2 5), vI 0])) b (eO 7 [.ref l0, .ref l1, .null, .null, vI 0, vI 0])) := ((pv1).new na1).upd _
  generalize zput (zput H1 l1 (eO 1 [vI 0, .ref ((zG_of X).2.2 5), vI 0])) b (eO 7 [.ref l0, .ref l1, .null, .null, vI 0, vI 0]) = H2 at *
  refine Z.aload_n C dX6_init_26 rfl ?_
  refine n_X6_7 C rfl dX6_init_27 (by rw [hR]; exact Nat.le_of_ble_eq_true rfl) (by rw [hR]; exact Nat.le_of_ble_eq_true rfl) (fun l2 na2 => ?_)
  refine Z.dup C dX6_init_30 rfl ?_
  refine i_X6_9 C rfl dX6_init_31 (c_Jx4a65c_init_da8c8 htr (zput_same _ _ _)) (by decide) (Nat.le_of_ble_eq_true rfl) (by rw [hR]; exact Nat.le_of_ble_eq_true rfl) (by rw [hR]; exact Nat.le_of_ble_eq_true rfl) (fun w31 h31 q31 => ?_)
  obtain ⟨rfl, q31⟩ := q31
  rw [zput_zput, zput_zput] at q31
  subst q31
  have n2b : l2 ≠ b := fun z => by rw [z, B2] at na2; cases na2
  have n20 : l2 ≠ l0 := fun z => by rw [z, c0_2] at na2; cases na2
  have n21 : l2 ≠ l1 := fun z => by rw [z, c1_2] at na2; cases na2
  refine p_X6_19 (fs' := [.ref l0, .ref l1, .ref l2, .null, vI 0, vI 0]) C rfl rfl dX6_init_34  ((zput_ne _ _ n2b.symm).trans B2) (Nat.le_of_ble_eq_true rfl) rfl ?_
  have B3 : zput (zput H2 l2 (eO 1 [vI 0, .ref ((zG_of X).2.2 5), vI 0])) b (eO 7 [.ref l0, .ref l1, .ref l2, .null, vI 0, vI 0]) b = some (eO 7 [.ref l0, .ref l1, .ref l2, .null, vI 0, vI 0]) := zput_same _ _ _
  have c2_3 : zput (zput H2 l2 (eO 1 [vI 0, .ref ((zG_of X).2.2 5), vI 0])) b (eO 7 [.ref l0, .ref l1, .ref l2, .null, vI 0, vI 0]) l2 = some (eO 1 [vI 0, .ref ((zG_of X).2.2 5), vI 0]) := (zput_ne _ _ n2b).trans (zput_same _ _ _)
  have c0_3 : zput (zput H2 l2 (eO 1 [vI 0, .ref ((zG_of X).2.2 5), vI 0])) b (eO 7 [.ref l0, .ref l1, .ref l2, .null, vI 0, vI 0]) l0 = some (eO 1 [vI 0, .ref ((zG_of X).2.2 5), vI 0]) := (zput_ne _ _ n0b).trans ((zput_ne _ _ n20.symm).trans c0_2)
  have c1_3 : zput (zput H2 l2 (eO 1 [vI 0, .ref ((zG_of X).2.2 5), vI 0])) b (eO 7 [.ref l0, .ref l1, .ref l2, .null, vI 0, vI 0]) l1 = some (eO 1 [vI 0, .ref ((zG_of X).2.2 5), vI 0]) := (zput_ne _ _ n1b).trans ((zput_ne _ _ n21.symm).trans c1_2)
  have pv3 : PV b h (zput (zput H2 l2 (eO 1 [vI 0, .ref ((zG_of X).2.2 5), vI 0])) b (eO 7 [.ref l0, .ref l1, .ref l2, .null, vI 0, vI 0])) := ((pv2).new na2).upd _
  generalize zput (zput H2 l2 (eO 1 [vI 0, .ref ((zG_of X).2.2 5), vI 0])) b (eO 7 [.ref l0, .ref l1, .ref l2, .null, vI 0, vI 0]) = H3 at *
  refine Z.aload_n C dX6_init_37 rfl ?_
  refine n_X6_7 C rfl dX6_init_38 (by rw [hR]; exact Nat.le_of_ble_eq_true rfl) (by rw [hR]; exact Nat.le_of_ble_eq_true rfl) (fun l3 na3 => ?_)
  refine Z.dup C dX6_init_41 rfl ?_
  refine i_X6_9 C rfl dX6_init_42 (c_Jx4a65c_init_da8c8 htr (zput_same _ _ _)) (by decide) (Nat.le_of_ble_eq_true rfl) (by rw [hR]; exact Nat.le_of_ble_eq_true rfl) (by rw [hR]; exact Nat.le_of_ble_eq_true rfl) (fun w42 h42 q42 => ?_)
  obtain ⟨rfl, q42⟩ := q42
  rw [zput_zput, zput_zput] at q42
  subst q42
  have n3b : l3 ≠ b := fun z => by rw [z, B3] at na3; cases na3
  have n30 : l3 ≠ l0 := fun z => by rw [z, c0_3] at na3; cases na3
  have n31 : l3 ≠ l1 := fun z => by rw [z, c1_3] at na3; cases na3
  have n32 : l3 ≠ l2 := fun z => by rw [z, c2_3] at na3; cases na3
  refine p_X6_22 (fs' := [.ref l0, .ref l1, .ref l2, .ref l3, vI 0, vI 0]) C rfl rfl dX6_init_45  ((zput_ne _ _ n3b.symm).trans B3) (Nat.le_of_ble_eq_true rfl) rfl ?_
  have B4 : zput (zput H3 l3 (eO 1 [vI 0, .ref ((zG_of X).2.2 5), vI 0])) b (eO 7 [.ref l0, .ref l1, .ref l2, .ref l3, vI 0, vI 0]) b = some (eO 7 [.ref l0, .ref l1, .ref l2, .ref l3, vI 0, vI 0]) := zput_same _ _ _
  have c3_4 : zput (zput H3 l3 (eO 1 [vI 0, .ref ((zG_of X).2.2 5), vI 0])) b (eO 7 [.ref l0, .ref l1, .ref l2, .ref l3, vI 0, vI 0]) l3 = some (eO 1 [vI 0, .ref ((zG_of X).2.2 5), vI 0]) := (zput_ne _ _ n3b).trans (zput_same _ _ _)
  have c0_4 : zput (zput H3 l3 (eO 1 [vI 0, .ref ((zG_of X).2.2 5), vI 0])) b (eO 7 [.ref l0, .ref l1, .ref l2, .ref l3, vI 0, vI 0]) l0 = some (eO 1 [vI 0, .ref ((zG_of X).2.2 5), vI 0]) := (zput_ne _ _ n0b).trans ((zput_ne _ _ n30.symm).trans c0_3)
  have c1_4 : zput (zput H3 l3 (eO 1 [vI 0, .ref ((zG_of X).2.2 5), vI 0])) b (eO 7 [.ref l0, .ref l1, .ref l2, .ref l3, vI 0, vI 0]) l1 = some (eO 1 [vI 0, .ref ((zG_of X).2.2 5), vI 0]) := (zput_ne _ _ n1b).trans ((zput_ne _ _ n31.symm).trans c1_3)
  have c2_4 : zput (zput H3 l3 (eO 1 [vI 0, .ref ((zG_of X).2.2 5), vI 0])) b (eO 7 [.ref l0, .ref l1, .ref l2, .ref l3, vI 0, vI 0]) l2 = some (eO 1 [vI 0, .ref ((zG_of X).2.2 5), vI 0]) := (zput_ne _ _ n2b).trans ((zput_ne _ _ n32.symm).trans c2_3)
  have pv4 : PV b h (zput (zput H3 l3 (eO 1 [vI 0, .ref ((zG_of X).2.2 5), vI 0])) b (eO 7 [.ref l0, .ref l1, .ref l2, .ref l3, vI 0, vI 0])) := ((pv3).new na3).upd _
  generalize zput (zput H3 l3 (eO 1 [vI 0, .ref ((zG_of X).2.2 5), vI 0])) b (eO 7 [.ref l0, .ref l1, .ref l2, .ref l3, vI 0, vI 0]) = H4 at *
  refine Z.aload_n C dX6_init_48 rfl ?_
  refine Z.iconst C dX6_init_49 ?_
  refine p_X6_25 (fs' := [.ref l0, .ref l1, .ref l2, .ref l3, vI 0, vI 0]) C rfl  dX6_init_50  (B4) (Nat.le_of_ble_eq_true rfl) rfl ?_
  rw [zput_self B4]
  refine Z.aload_n C dX6_init_53 rfl ?_
  refine Z.iconst C dX6_init_54 ?_
  refine p_X6_29 (fs' := [.ref l0, .ref l1, .ref l2, .ref l3, vI 0, vI 0]) C rfl  dX6_init_55  (B4) (Nat.le_of_ble_eq_true rfl) rfl ?_
  rw [zput_self B4]
  refine Z.sep C (fun hsep => ?_)
  exact Z.vret C E dX6_init_58 (by decide) (by decide) ⟨rfl, pv4, ad0 b l0 l1 l2 l3, fun _ => (zG_of X).2.2 5, rfl, CR.new0 B4 c0_4 c1_4 c2_4 c3_4 ⟨n10, n20, n30, n21, n31, n32⟩ hsep⟩

