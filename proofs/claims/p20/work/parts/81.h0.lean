/-! ONE CLUB ON ITS WAY: its tables S, apart from the rest of the heap -/
theorem zFr.rf {hm h : zH} (hs : ∀ q x, hm q = some x → h q = some x) : zFr hm h hm h := ⟨hs, fun _ _ _ e => e, fun _ e _ => e⟩
theorem zFr.trans {hC h hm1 h1 hm2 h2 : zH} (f : zFr hC h hm1 h1) (g : zFr hm1 h1 hm2 h2) : zFr hC h hm2 h2 := by
  obtain ⟨f1, f2, f3⟩ := f
  obtain ⟨g1, g2, g3⟩ := g
  refine ⟨g1, fun q x e1 e2 => ?_, fun q e1 e2 => ?_⟩
  · have h9 := f2 q x e1 e2
    exact g2 q x (f3 q e1 (by rw [e2]; exact fun z => by cases z)) h9
  · have h9 := f3 q e1 e2
    refine g3 q h9 ?_
    obtain ⟨y, hy⟩ := nn_of e2
    rw [f2 q y e1 hy]
    exact fun z => by cases z
def SC (G : zG) (b : Nat) (S : Nat → Nat → Int) (hC0 h0 h : zH) : Prop := ∃ hm T, CK G b T hm ∧ JJ T S ∧ zFr hC0 h0 hm h
theorem SC.obj {G : zG} {b : Nat} {S : Nat → Nat → Int} {hC0 h0 h : zH} (K : SC G b S hC0 h0 h) : ∃ fs, h b = some (eO 7 fs) := by
  obtain ⟨hm, T, ⟨ad, el, e0, R⟩, -, fr⟩ := K
  have := fr.1 _ _ R.club
  rw [e0] at this
  exact ⟨_, this⟩
theorem SC.c {G : zG} {b : Nat} {S : Nat → Nat → Int} {hC0 h0 h : zH} (K : SC G b S hC0 h0 h) : jC (fun _ _ => False) S := by
  obtain ⟨hm, T, -, j, -⟩ := K
  exact j.2.2
theorem SC.keep {G : zG} {b : Nat} {S : Nat → Nat → Int} {hC0 h0 h : zH} (K : SC G b S hC0 h0 h) {o : Nat} {x : va_E} (ho : h0 o = some x) (oC : hC0 o = none) : h o = some x := by
  obtain ⟨hm, T, -, -, fr⟩ := K
  exact fr.2.1 o x oC ho
def an (c v e1 e2 e3 : Int) : Int := if c = 0 then v else if c = 1 then e1 else if c = 2 then e2 else e3
def stn (c : Int) (S1 S : Nat → Nat → Int) : Nat → Nat → Int := if c = 0 then S1 else S
theorem an_0 (v e1 e2 e3 : Int) : an 0 v e1 e2 e3 = v := rfl
theorem an_1 (v e1 e2 e3 : Int) : an 1 v e1 e2 e3 = e1 := rfl
theorem an_2 (v e1 e2 e3 : Int) : an 2 v e1 e2 e3 = e2 := rfl
theorem an_3 (v e1 e2 e3 : Int) : an 3 v e1 e2 e3 = e3 := rfl
theorem stn_same (c : Int) (S : Nat → Nat → Int) : stn c S S = S := by
  unfold stn
  split <;> rfl

theorem k_join {ln : Launch} (htr : ln.stackTraces = false) {G : zG} {b : Nat} {S : Nat → Nat → Int} {hC0 h0 h : zH} {p0 p1 : Int} (K : SC G b S hC0 h0 h) (r0 : (-2147483648 ≤ p0 ∧ p0 < 2147483648)) (r1 : (-2147483648 ≤ p1 ∧ p1 < 2147483648)) : CT ln G yX6_join cX6_join 4 (some .int) 9 [.ref b, vI p0, vI p1] h 5 521 (fun r9 h9 => r9 = some (vI (S 2 0)) ∧ cJoin S p0 p1 = 0 ∧ SC G b (sJoin S p0 p1) hC0 h0 h9) (fun E9 h9 => (E9 = "java/lang/IllegalArgumentException" ∧ cJoin S p0 p1 = 1 ∧ SC G b S hC0 h0 h9) ∨ (E9 = "java/lang/IllegalStateException" ∧ cJoin S p0 p1 = 2 ∧ SC G b S hC0 h0 h9)) := by
  obtain ⟨hm, T, kC, hj, fr⟩ := K
  refine CT.mono (CT.frame fr.1 (opc_join htr T S hm p0 p1 hj kC r0 r1)) (fun r9 h9 z => ?_) (fun E9 h9 z => ?_)
  · obtain ⟨hm9, ⟨v0, e, z1, rfl, T1, k1, j1⟩, g⟩ := z
    exact ⟨e, z1, hm9, T1, k1, j1, fr.trans g⟩
  · obtain ⟨hm9, z, g⟩ := z
    rcases z with ⟨e, z1, k1⟩ | ⟨e, z1, k1⟩
    · exact Or.inl ⟨e, z1.symm, hm9, T, k1, hj, fr.trans g⟩
    · exact Or.inr ⟨e, z1.symm, hm9, T, k1, hj, fr.trans g⟩

set_option maxRecDepth 100000 in
theorem c_L_join {ln : Launch} (htr : ln.stackTraces = false) {G : zG} {b : Nat} {S : Nat → Nat → Int} {hC0 h0 h : zH} {p0 p1 : Int} (K : SC G b S hC0 h0 h) (r0 : (-2147483648 ≤ p0 ∧ p0 < 2147483648)) (r1 : (-2147483648 ≤ p1 ∧ p1 < 2147483648)) : CTH ln G yL_join cL_join 4 (some .int) [(0, 6, 7, 13), (0, 6, 11, 16)] 10 [.ref b, vI p0, vI p1] h 5 521 (fun r9 h9 => r9 = some (vI (an (cJoin S p0 p1) (S 2 0) (-2000000002) (-2000000003) 0)) ∧ SC G b (stn (cJoin S p0 p1) (sJoin S p0 p1) S) hC0 h0 h9) := by
  obtain ⟨fs, ho⟩ := K.obj
  refine CTH.intro htr (by decide) rfl (Nat.le_of_ble_eq_true rfl) ?_
  intro X hln hG hR hN C E
  subst hln
  subst hG
  refine Z.aload_n C dL_join_0 rfl ?_
  refine Z.iload_n C dL_join_1 rfl ?_
  refine Z.iload_n C dL_join_2 rfl ?_
  refine v_L_7 C rfl dL_join_3 ho (k_join htr K r0 r1) (by decide) (Nat.le_of_ble_eq_true rfl) (by rw [hR]; exact Nat.le_of_ble_eq_true rfl) (by rw [hR]; exact Nat.le_of_ble_eq_true rfl) (fun w9 h9 q9 => ?_) (fun E9 h9 q9 => ?_)
  · obtain ⟨rfl, z0, k9⟩ := q9
    exact Z.iretH C E dL_join_6 (by decide) (by decide) ⟨by rw [z0]; rfl, by rw [z0]; exact k9⟩
  · rcases q9 with ⟨rfl, z0, k9⟩ | ⟨rfl, z0, k9⟩
    · refine ZT.catch C E [] ⟨0, 6, 7, 13⟩ [⟨0, 6, 11, 16⟩] rfl (fun z hz => absurd hz List.not_mem_nil) (by decide) (by decide) zl_k13 (by decide) (fun q => ?_)
      refine Z.astore_n (l' := [_, _, _, _]) C dL_join_7 (Nat.le_of_ble_eq_true rfl) (by rw [hN]; decide) rfl ?_
      refine Z.ldcI (v := -2000000002) C zl_c15 dL_join_8 ?_
      exact Z.iretH C E dL_join_10 (by decide) (by decide) ⟨by rw [z0]; rfl, by rw [z0]; exact k9⟩
    · refine ZT.catch C E [⟨0, 6, 7, 13⟩] ⟨0, 6, 11, 16⟩ [] rfl (fun z hz => by rcases List.mem_singleton.mp hz with rfl; exact ⟨by decide, _, zl_k13, by decide⟩) (by decide) (by decide) zl_k16 (by decide) (fun q => ?_)
      refine Z.astore_n (l' := [_, _, _, _]) C dL_join_11 (Nat.le_of_ble_eq_true rfl) (by rw [hN]; decide) rfl ?_
      refine Z.ldcI (v := -2000000003) C zl_c18 dL_join_12 ?_
      exact Z.iretH C E dL_join_14 (by decide) (by decide) ⟨by rw [z0]; rfl, by rw [z0]; exact k9⟩

theorem k_leave {ln : Launch} (htr : ln.stackTraces = false) {G : zG} {b : Nat} {S : Nat → Nat → Int} {hC0 h0 h : zH} {p0 : Int} (K : SC G b S hC0 h0 h) (r0 : (-2147483648 ≤ p0 ∧ p0 < 2147483648)) : CT ln G yX6_leave cX6_leave 6 (some .int) 10 [.ref b, vI p0] h 3 502 (fun r9 h9 => r9 = some (vI (sLeave S p0.toNat 7 p0.toNat)) ∧ cLeave S p0 = 0 ∧ SC G b (sLeave S p0.toNat) hC0 h0 h9) (fun E9 h9 => (E9 = "java/lang/IndexOutOfBoundsException" ∧ cLeave S p0 = 1 ∧ SC G b S hC0 h0 h9) ∨ (E9 = "java/lang/IllegalStateException" ∧ cLeave S p0 = 2 ∧ SC G b S hC0 h0 h9)) := by
  obtain ⟨hm, T, kC, hj, fr⟩ := K
  refine CT.mono (CT.frame fr.1 (opc_leave htr T S hm p0 hj kC r0)) (fun r9 h9 z => ?_) (fun E9 h9 z => ?_)
  · obtain ⟨hm9, ⟨v0, e, z1, rfl, T1, k1, j1⟩, g⟩ := z
    exact ⟨e, z1, hm9, T1, k1, j1, fr.trans g⟩
  · obtain ⟨hm9, z, g⟩ := z
    rcases z with ⟨e, z1, k1⟩ | ⟨e, z1, k1⟩
    · exact Or.inl ⟨e, z1.symm, hm9, T, k1, hj, fr.trans g⟩
    · exact Or.inr ⟨e, z1.symm, hm9, T, k1, hj, fr.trans g⟩

set_option maxRecDepth 100000 in
theorem c_L_leave {ln : Launch} (htr : ln.stackTraces = false) {G : zG} {b : Nat} {S : Nat → Nat → Int} {hC0 h0 h : zH} {p0 : Int} (K : SC G b S hC0 h0 h) (r0 : (-2147483648 ≤ p0 ∧ p0 < 2147483648)) : CTH ln G yL_leave cL_leave 3 (some .int) [(0, 5, 6, 23), (0, 5, 10, 16)] 11 [.ref b, vI p0] h 3 502 (fun r9 h9 => r9 = some (vI (an (cLeave S p0) (sLeave S p0.toNat 7 p0.toNat) (-2000000001) (-2000000003) 0)) ∧ SC G b (stn (cLeave S p0) (sLeave S p0.toNat) S) hC0 h0 h9) := by
  obtain ⟨fs, ho⟩ := K.obj
  refine CTH.intro htr (by decide) rfl (Nat.le_of_ble_eq_true rfl) ?_
  intro X hln hG hR hN C E
  subst hln
  subst hG
  refine Z.aload_n C dL_leave_0 rfl ?_
  refine Z.iload_n C dL_leave_1 rfl ?_
  refine v_L_19 C rfl dL_leave_2 ho (k_leave htr K r0) (by decide) (Nat.le_of_ble_eq_true rfl) (by rw [hR]; exact Nat.le_of_ble_eq_true rfl) (by rw [hR]; exact Nat.le_of_ble_eq_true rfl) (fun w9 h9 q9 => ?_) (fun E9 h9 q9 => ?_)
  · obtain ⟨rfl, z0, k9⟩ := q9
    exact Z.iretH C E dL_leave_5 (by decide) (by decide) ⟨by rw [z0]; rfl, by rw [z0]; exact k9⟩
  · rcases q9 with ⟨rfl, z0, k9⟩ | ⟨rfl, z0, k9⟩
    · refine ZT.catch C E [] ⟨0, 5, 6, 23⟩ [⟨0, 5, 10, 16⟩] rfl (fun z hz => absurd hz List.not_mem_nil) (by decide) (by decide) zl_k23 (by decide) (fun q => ?_)
      refine Z.astore_n (l' := [_, _, _]) C dL_leave_6 (Nat.le_of_ble_eq_true rfl) (by rw [hN]; decide) rfl ?_
      refine Z.ldcI (v := -2000000001) C zl_c25 dL_leave_7 ?_
      exact Z.iretH C E dL_leave_9 (by decide) (by decide) ⟨by rw [z0]; rfl, by rw [z0]; exact k9⟩
    · refine ZT.catch C E [⟨0, 5, 6, 23⟩] ⟨0, 5, 10, 16⟩ [] rfl (fun z hz => by rcases List.mem_singleton.mp hz with rfl; exact ⟨by decide, _, zl_k23, by decide⟩) (by decide) (by decide) zl_k16 (by decide) (fun q => ?_)
      refine Z.astore_n (l' := [_, _, _]) C dL_leave_10 (Nat.le_of_ble_eq_true rfl) (by rw [hN]; decide) rfl ?_
      refine Z.ldcI (v := -2000000003) C zl_c18 dL_leave_11 ?_
      exact Z.iretH C E dL_leave_13 (by decide) (by decide) ⟨by rw [z0]; rfl, by rw [z0]; exact k9⟩

theorem k_film {ln : Launch} (htr : ln.stackTraces = false) {G : zG} {b : Nat} {S : Nat → Nat → Int} {hC0 h0 h : zH} {p0 : Int} (K : SC G b S hC0 h0 h) (r0 : (-2147483648 ≤ p0 ∧ p0 < 2147483648)) : CT ln G yX6_film cX6_film 2 (some .int) 9 [.ref b, vI p0] h 2 482 (fun r9 h9 => r9 = some (vI (S 10 0)) ∧ cFilm S p0 = 0 ∧ SC G b (sFilm S p0) hC0 h0 h9) (fun E9 h9 => (E9 = "java/lang/IllegalArgumentException" ∧ cFilm S p0 = 1 ∧ SC G b S hC0 h0 h9) ∨ (E9 = "java/lang/IllegalStateException" ∧ cFilm S p0 = 2 ∧ SC G b S hC0 h0 h9)) := by
  obtain ⟨hm, T, kC, hj, fr⟩ := K
  refine CT.mono (CT.frame fr.1 (opc_film htr T S hm p0 hj kC r0)) (fun r9 h9 z => ?_) (fun E9 h9 z => ?_)
  · obtain ⟨hm9, ⟨v0, e, z1, rfl, T1, k1, j1⟩, g⟩ := z
    exact ⟨e, z1, hm9, T1, k1, j1, fr.trans g⟩
  · obtain ⟨hm9, z, g⟩ := z
    rcases z with ⟨e, z1, k1⟩ | ⟨e, z1, k1⟩
    · exact Or.inl ⟨e, z1.symm, hm9, T, k1, hj, fr.trans g⟩
    · exact Or.inr ⟨e, z1.symm, hm9, T, k1, hj, fr.trans g⟩

set_option maxRecDepth 100000 in
theorem c_L_film {ln : Launch} (htr : ln.stackTraces = false) {G : zG} {b : Nat} {S : Nat → Nat → Int} {hC0 h0 h : zH} {p0 : Int} (K : SC G b S hC0 h0 h) (r0 : (-2147483648 ≤ p0 ∧ p0 < 2147483648)) : CTH ln G yL_film cL_film 3 (some .int) [(0, 5, 6, 13), (0, 5, 10, 16)] 10 [.ref b, vI p0] h 2 482 (fun r9 h9 => r9 = some (vI (an (cFilm S p0) (S 10 0) (-2000000002) (-2000000003) 0)) ∧ SC G b (stn (cFilm S p0) (sFilm S p0) S) hC0 h0 h9) := by
  obtain ⟨fs, ho⟩ := K.obj
  refine CTH.intro htr (by decide) rfl (Nat.le_of_ble_eq_true rfl) ?_
  intro X hln hG hR hN C E
  subst hln
  subst hG
  refine Z.aload_n C dL_film_0 rfl ?_
  refine Z.iload_n C dL_film_1 rfl ?_
  refine v_L_26 C rfl dL_film_2 ho (k_film htr K r0) (by decide) (Nat.le_of_ble_eq_true rfl) (by rw [hR]; exact Nat.le_of_ble_eq_true rfl) (by rw [hR]; exact Nat.le_of_ble_eq_true rfl) (fun w9 h9 q9 => ?_) (fun E9 h9 q9 => ?_)
  · obtain ⟨rfl, z0, k9⟩ := q9
    exact Z.iretH C E dL_film_5 (by decide) (by decide) ⟨by rw [z0]; rfl, by rw [z0]; exact k9⟩
  · rcases q9 with ⟨rfl, z0, k9⟩ | ⟨rfl, z0, k9⟩
    · refine ZT.catch C E [] ⟨0, 5, 6, 13⟩ [⟨0, 5, 10, 16⟩] rfl (fun z hz => absurd hz List.not_mem_nil) (by decide) (by decide) zl_k13 (by decide) (fun q => ?_)
      refine Z.astore_n (l' := [_, _, _]) C dL_film_6 (Nat.le_of_ble_eq_true rfl) (by rw [hN]; decide) rfl ?_
      refine Z.ldcI (v := -2000000002) C zl_c15 dL_film_7 ?_
      exact Z.iretH C E dL_film_9 (by decide) (by decide) ⟨by rw [z0]; rfl, by rw [z0]; exact k9⟩
    · refine ZT.catch C E [⟨0, 5, 6, 13⟩] ⟨0, 5, 10, 16⟩ [] rfl (fun z hz => by rcases List.mem_singleton.mp hz with rfl; exact ⟨by decide, _, zl_k13, by decide⟩) (by decide) (by decide) zl_k16 (by decide) (fun q => ?_)
      refine Z.astore_n (l' := [_, _, _]) C dL_film_10 (Nat.le_of_ble_eq_true rfl) (by rw [hN]; decide) rfl ?_
      refine Z.ldcI (v := -2000000003) C zl_c18 dL_film_11 ?_
      exact Z.iretH C E dL_film_13 (by decide) (by decide) ⟨by rw [z0]; rfl, by rw [z0]; exact k9⟩

theorem k_fetch {ln : Launch} (htr : ln.stackTraces = false) {G : zG} {b : Nat} {S : Nat → Nat → Int} {hC0 h0 h : zH} {p0 p1 : Int} (K : SC G b S hC0 h0 h) (r0 : (-2147483648 ≤ p0 ∧ p0 < 2147483648)) (r1 : (-2147483648 ≤ p1 ∧ p1 < 2147483648)) : CT ln G yX6_fetch cX6_fetch 6 (some .int) 10 [.ref b, vI p0, vI p1] h 6 518 (fun r9 h9 => r9 = some (vI (fPays S p0.toNat p1.toNat)) ∧ cFetch S p0 p1 = 0 ∧ SC G b (sFetch S p0.toNat p1.toNat) hC0 h0 h9) (fun E9 h9 => (E9 = "java/lang/IndexOutOfBoundsException" ∧ cFetch S p0 p1 = 1 ∧ SC G b S hC0 h0 h9) ∨ (E9 = "java/lang/IllegalStateException" ∧ cFetch S p0 p1 = 2 ∧ SC G b S hC0 h0 h9)) := by
  obtain ⟨hm, T, kC, hj, fr⟩ := K
  refine CT.mono (CT.frame fr.1 (opc_fetch htr T S hm p0 p1 hj kC r0 r1)) (fun r9 h9 z => ?_) (fun E9 h9 z => ?_)
  · obtain ⟨hm9, ⟨v0, e, z1, rfl, T1, k1, j1⟩, g⟩ := z
    exact ⟨e, z1, hm9, T1, k1, j1, fr.trans g⟩
  · obtain ⟨hm9, z, g⟩ := z
    rcases z with ⟨e, z1, k1⟩ | ⟨e, z1, k1⟩
    · exact Or.inl ⟨e, z1.symm, hm9, T, k1, hj, fr.trans g⟩
    · exact Or.inr ⟨e, z1.symm, hm9, T, k1, hj, fr.trans g⟩

set_option maxRecDepth 100000 in
theorem c_L_fetch {ln : Launch} (htr : ln.stackTraces = false) {G : zG} {b : Nat} {S : Nat → Nat → Int} {hC0 h0 h : zH} {p0 p1 : Int} (K : SC G b S hC0 h0 h) (r0 : (-2147483648 ≤ p0 ∧ p0 < 2147483648)) (r1 : (-2147483648 ≤ p1 ∧ p1 < 2147483648)) : CTH ln G yL_fetch cL_fetch 4 (some .int) [(0, 6, 7, 23), (0, 6, 11, 16)] 11 [.ref b, vI p0, vI p1] h 6 518 (fun r9 h9 => r9 = some (vI (an (cFetch S p0 p1) (fPays S p0.toNat p1.toNat) (-2000000001) (-2000000003) 0)) ∧ SC G b (stn (cFetch S p0 p1) (sFetch S p0.toNat p1.toNat) S) hC0 h0 h9) := by
  obtain ⟨fs, ho⟩ := K.obj
  refine CTH.intro htr (by decide) rfl (Nat.le_of_ble_eq_true rfl) ?_
  intro X hln hG hR hN C E
  subst hln
  subst hG
  refine Z.aload_n C dL_fetch_0 rfl ?_
  refine Z.iload_n C dL_fetch_1 rfl ?_
  refine Z.iload_n C dL_fetch_2 rfl ?_
  refine v_L_29 C rfl dL_fetch_3 ho (k_fetch htr K r0 r1) (by decide) (Nat.le_of_ble_eq_true rfl) (by rw [hR]; exact Nat.le_of_ble_eq_true rfl) (by rw [hR]; exact Nat.le_of_ble_eq_true rfl) (fun w9 h9 q9 => ?_) (fun E9 h9 q9 => ?_)
  · obtain ⟨rfl, z0, k9⟩ := q9
    exact Z.iretH C E dL_fetch_6 (by decide) (by decide) ⟨by rw [z0]; rfl, by rw [z0]; exact k9⟩
  · rcases q9 with ⟨rfl, z0, k9⟩ | ⟨rfl, z0, k9⟩
    · refine ZT.catch C E [] ⟨0, 6, 7, 23⟩ [⟨0, 6, 11, 16⟩] rfl (fun z hz => absurd hz List.not_mem_nil) (by decide) (by decide) zl_k23 (by decide) (fun q => ?_)
      refine Z.astore_n (l' := [_, _, _, _]) C dL_fetch_7 (Nat.le_of_ble_eq_true rfl) (by rw [hN]; decide) rfl ?_
      refine Z.ldcI (v := -2000000001) C zl_c25 dL_fetch_8 ?_
      exact Z.iretH C E dL_fetch_10 (by decide) (by decide) ⟨by rw [z0]; rfl, by rw [z0]; exact k9⟩
    · refine ZT.catch C E [⟨0, 6, 7, 23⟩] ⟨0, 6, 11, 16⟩ [] rfl (fun z hz => by rcases List.mem_singleton.mp hz with rfl; exact ⟨by decide, _, zl_k23, by decide⟩) (by decide) (by decide) zl_k16 (by decide) (fun q => ?_)
      refine Z.astore_n (l' := [_, _, _, _]) C dL_fetch_11 (Nat.le_of_ble_eq_true rfl) (by rw [hN]; decide) rfl ?_
      refine Z.ldcI (v := -2000000003) C zl_c18 dL_fetch_12 ?_
      exact Z.iretH C E dL_fetch_14 (by decide) (by decide) ⟨by rw [z0]; rfl, by rw [z0]; exact k9⟩

theorem k_pass {ln : Launch} (htr : ln.stackTraces = false) {G : zG} {b : Nat} {S : Nat → Nat → Int} {hC0 h0 h : zH} {p0 : Int} (K : SC G b S hC0 h0 h) (r0 : (-2147483648 ≤ p0 ∧ p0 < 2147483648)) : CT ln G yX6_pass cX6_pass 3 (some .int) 6 [.ref b, vI p0] h 1 6 (fun r9 h9 => r9 = some (vI (S 1 0 + p0)) ∧ cPass S p0 = 0 ∧ SC G b (sPass S p0) hC0 h0 h9) (fun E9 h9 => (E9 = "java/lang/IllegalArgumentException" ∧ cPass S p0 = 1 ∧ SC G b S hC0 h0 h9) ∨ (E9 = "java/lang/IllegalStateException" ∧ cPass S p0 = 2 ∧ SC G b S hC0 h0 h9)) := by
  obtain ⟨hm, T, kC, hj, fr⟩ := K
  refine CT.mono (CT.frame fr.1 (opc_pass htr T S hm p0 hj kC r0)) (fun r9 h9 z => ?_) (fun E9 h9 z => ?_)
  · obtain ⟨hm9, ⟨v0, e, z1, rfl, T1, k1, j1⟩, g⟩ := z
    exact ⟨e, z1, hm9, T1, k1, j1, fr.trans g⟩
  · obtain ⟨hm9, z, g⟩ := z
    rcases z with ⟨e, z1, k1⟩ | ⟨e, z1, k1⟩
    · exact Or.inl ⟨e, z1.symm, hm9, T, k1, hj, fr.trans g⟩
    · exact Or.inr ⟨e, z1.symm, hm9, T, k1, hj, fr.trans g⟩

set_option maxRecDepth 100000 in
theorem c_L_pass {ln : Launch} (htr : ln.stackTraces = false) {G : zG} {b : Nat} {S : Nat → Nat → Int} {hC0 h0 h : zH} {p0 : Int} (K : SC G b S hC0 h0 h) (r0 : (-2147483648 ≤ p0 ∧ p0 < 2147483648)) : CTH ln G yL_pass cL_pass 3 (some .int) [(0, 5, 6, 13), (0, 5, 10, 16)] 7 [.ref b, vI p0] h 1 6 (fun r9 h9 => r9 = some (vI (an (cPass S p0) (S 1 0 + p0) (-2000000002) (-2000000003) 0)) ∧ SC G b (stn (cPass S p0) (sPass S p0) S) hC0 h0 h9) := by
  obtain ⟨fs, ho⟩ := K.obj
  refine CTH.intro htr (by decide) rfl (Nat.le_of_ble_eq_true rfl) ?_
  intro X hln hG hR hN C E
  subst hln
  subst hG
  refine Z.aload_n C dL_pass_0 rfl ?_
  refine Z.iload_n C dL_pass_1 rfl ?_
  refine v_L_32 C rfl dL_pass_2 ho (k_pass htr K r0) (by decide) (Nat.le_of_ble_eq_true rfl) (by rw [hR]; exact Nat.le_of_ble_eq_true rfl) (by rw [hR]; exact Nat.le_of_ble_eq_true rfl) (fun w9 h9 q9 => ?_) (fun E9 h9 q9 => ?_)
  · obtain ⟨rfl, z0, k9⟩ := q9
    exact Z.iretH C E dL_pass_5 (by decide) (by decide) ⟨by rw [z0]; rfl, by rw [z0]; exact k9⟩
  · rcases q9 with ⟨rfl, z0, k9⟩ | ⟨rfl, z0, k9⟩
    · refine ZT.catch C E [] ⟨0, 5, 6, 13⟩ [⟨0, 5, 10, 16⟩] rfl (fun z hz => absurd hz List.not_mem_nil) (by decide) (by decide) zl_k13 (by decide) (fun q => ?_)
      refine Z.astore_n (l' := [_, _, _]) C dL_pass_6 (Nat.le_of_ble_eq_true rfl) (by rw [hN]; decide) rfl ?_
      refine Z.ldcI (v := -2000000002) C zl_c15 dL_pass_7 ?_
      exact Z.iretH C E dL_pass_9 (by decide) (by decide) ⟨by rw [z0]; rfl, by rw [z0]; exact k9⟩
    · refine ZT.catch C E [⟨0, 5, 6, 13⟩] ⟨0, 5, 10, 16⟩ [] rfl (fun z hz => by rcases List.mem_singleton.mp hz with rfl; exact ⟨by decide, _, zl_k13, by decide⟩) (by decide) (by decide) zl_k16 (by decide) (fun q => ?_)
      refine Z.astore_n (l' := [_, _, _]) C dL_pass_10 (Nat.le_of_ble_eq_true rfl) (by rw [hN]; decide) rfl ?_
      refine Z.ldcI (v := -2000000003) C zl_c18 dL_pass_11 ?_
      exact Z.iretH C E dL_pass_13 (by decide) (by decide) ⟨by rw [z0]; rfl, by rw [z0]; exact k9⟩

theorem k_propose {ln : Launch} (htr : ln.stackTraces = false) {G : zG} {b : Nat} {S : Nat → Nat → Int} {hC0 h0 h : zH} {p0 p1 p2 : Int} (K : SC G b S hC0 h0 h) (r0 : (-2147483648 ≤ p0 ∧ p0 < 2147483648)) (r1 : (-2147483648 ≤ p1 ∧ p1 < 2147483648)) (r2 : (-2147483648 ≤ p2 ∧ p2 < 2147483648)) : CT ln G yX6_propose cX6_propose 4 (some .int) 9 [.ref b, vI p0, vI p1, vI p2] h 3 495 (fun r9 h9 => r9 = some (vI (S 15 0)) ∧ cProp S p0 p1 p2 = 0 ∧ SC G b (sProp S p1 p2) hC0 h0 h9) (fun E9 h9 => (E9 = "java/lang/IndexOutOfBoundsException" ∧ cProp S p0 p1 p2 = 1 ∧ SC G b S hC0 h0 h9) ∨ (E9 = "java/lang/IllegalArgumentException" ∧ cProp S p0 p1 p2 = 2 ∧ SC G b S hC0 h0 h9) ∨ (E9 = "java/lang/IllegalStateException" ∧ cProp S p0 p1 p2 = 3 ∧ SC G b S hC0 h0 h9)) := by
  obtain ⟨hm, T, kC, hj, fr⟩ := K
  refine CT.mono (CT.frame fr.1 (opc_propose htr T S hm p0 p1 p2 hj kC r0 r1 r2)) (fun r9 h9 z => ?_) (fun E9 h9 z => ?_)
  · obtain ⟨hm9, ⟨v0, e, z1, rfl, T1, k1, j1⟩, g⟩ := z
    exact ⟨e, z1, hm9, T1, k1, j1, fr.trans g⟩
  · obtain ⟨hm9, z, g⟩ := z
    rcases z with ⟨e, z1, k1⟩ | ⟨e, z1, k1⟩ | ⟨e, z1, k1⟩
    · exact Or.inl ⟨e, z1.symm, hm9, T, k1, hj, fr.trans g⟩
    · exact Or.inr <| Or.inl ⟨e, z1.symm, hm9, T, k1, hj, fr.trans g⟩
    · exact Or.inr <| Or.inr ⟨e, z1.symm, hm9, T, k1, hj, fr.trans g⟩

set_option maxRecDepth 100000 in
theorem c_L_propose {ln : Launch} (htr : ln.stackTraces = false) {G : zG} {b : Nat} {S : Nat → Nat → Int} {hC0 h0 h : zH} {p0 p1 p2 : Int} (K : SC G b S hC0 h0 h) (r0 : (-2147483648 ≤ p0 ∧ p0 < 2147483648)) (r1 : (-2147483648 ≤ p1 ∧ p1 < 2147483648)) (r2 : (-2147483648 ≤ p2 ∧ p2 < 2147483648)) : CTH ln G yL_propose cL_propose 5 (some .int) [(0, 7, 8, 23), (0, 7, 13, 13), (0, 7, 18, 16)] 10 [.ref b, vI p0, vI p1, vI p2] h 3 495 (fun r9 h9 => r9 = some (vI (an (cProp S p0 p1 p2) (S 15 0) (-2000000001) (-2000000002) (-2000000003))) ∧ SC G b (stn (cProp S p0 p1 p2) (sProp S p1 p2) S) hC0 h0 h9) := by
  obtain ⟨fs, ho⟩ := K.obj
  refine CTH.intro htr (by decide) rfl (Nat.le_of_ble_eq_true rfl) ?_
  intro X hln hG hR hN C E
  subst hln
  subst hG
  refine Z.aload_n C dL_propose_0 rfl ?_
  refine Z.iload_n C dL_propose_1 rfl ?_
  refine Z.iload_n C dL_propose_2 rfl ?_
  refine Z.iload_n C dL_propose_3 rfl ?_
  refine v_L_35 C rfl dL_propose_4 ho (k_propose htr K r0 r1 r2) (by decide) (Nat.le_of_ble_eq_true rfl) (by rw [hR]; exact Nat.le_of_ble_eq_true rfl) (by rw [hR]; exact Nat.le_of_ble_eq_true rfl) (fun w9 h9 q9 => ?_) (fun E9 h9 q9 => ?_)
  · obtain ⟨rfl, z0, k9⟩ := q9
    exact Z.iretH C E dL_propose_7 (by decide) (by decide) ⟨by rw [z0]; rfl, by rw [z0]; exact k9⟩
  · rcases q9 with ⟨rfl, z0, k9⟩ | ⟨rfl, z0, k9⟩ | ⟨rfl, z0, k9⟩
    · refine ZT.catch C E [] ⟨0, 7, 8, 23⟩ [⟨0, 7, 13, 13⟩, ⟨0, 7, 18, 16⟩] rfl (fun z hz => absurd hz List.not_mem_nil) (by decide) (by decide) zl_k23 (by decide) (fun q => ?_)
      refine Z.astore (l' := [_, _, _, _, _]) C dL_propose_8 (Nat.le_of_ble_eq_true rfl) (by rw [hN]; decide) rfl ?_
      refine Z.ldcI (v := -2000000001) C zl_c25 dL_propose_10 ?_
      exact Z.iretH C E dL_propose_12 (by decide) (by decide) ⟨by rw [z0]; rfl, by rw [z0]; exact k9⟩
    · refine ZT.catch C E [⟨0, 7, 8, 23⟩] ⟨0, 7, 13, 13⟩ [⟨0, 7, 18, 16⟩] rfl (fun z hz => by rcases List.mem_singleton.mp hz with rfl; exact ⟨by decide, _, zl_k23, by decide⟩) (by decide) (by decide) zl_k13 (by decide) (fun q => ?_)
      refine Z.astore (l' := [_, _, _, _, _]) C dL_propose_13 (Nat.le_of_ble_eq_true rfl) (by rw [hN]; decide) rfl ?_
      refine Z.ldcI (v := -2000000002) C zl_c15 dL_propose_15 ?_
      exact Z.iretH C E dL_propose_17 (by decide) (by decide) ⟨by rw [z0]; rfl, by rw [z0]; exact k9⟩
    · refine ZT.catch C E [⟨0, 7, 8, 23⟩, ⟨0, 7, 13, 13⟩] ⟨0, 7, 18, 16⟩ [] rfl (fun z hz => by
        rcases List.mem_cons.mp hz with rfl | hz
        · exact ⟨by decide, _, zl_k23, by decide⟩
        · rcases List.mem_singleton.mp hz with rfl; exact ⟨by decide, _, zl_k13, by decide⟩) (by decide) (by decide) zl_k16 (by decide) (fun q => ?_)
      refine Z.astore (l' := [_, _, _, _, _]) C dL_propose_18 (Nat.le_of_ble_eq_true rfl) (by rw [hN]; decide) rfl ?_
      refine Z.ldcI (v := -2000000003) C zl_c18 dL_propose_20 ?_
      exact Z.iretH C E dL_propose_22 (by decide) (by decide) ⟨by rw [z0]; rfl, by rw [z0]; exact k9⟩

theorem k_vote {ln : Launch} (htr : ln.stackTraces = false) {G : zG} {b : Nat} {S : Nat → Nat → Int} {hC0 h0 h : zH} {p0 p1 p2 : Int} (K : SC G b S hC0 h0 h) (r0 : (-2147483648 ≤ p0 ∧ p0 < 2147483648)) (r1 : (-2147483648 ≤ p1 ∧ p1 < 2147483648)) (r2 : (p2 = 0 ∨ p2 = 1)) : CT ln G yX6_vote cX6_vote 5 (some .int) 8 [.ref b, vI p0, vI p1, vI p2] h 1 6 (fun r9 h9 => r9 = some (vI (sVote S p0 p1 p2 16 p1.toNat)) ∧ cVote S p0 p1 = 0 ∧ SC G b (sVote S p0 p1 p2) hC0 h0 h9) (fun E9 h9 => (E9 = "java/lang/IndexOutOfBoundsException" ∧ cVote S p0 p1 = 1 ∧ SC G b S hC0 h0 h9) ∨ (E9 = "java/lang/IllegalStateException" ∧ cVote S p0 p1 = 2 ∧ SC G b S hC0 h0 h9)) := by
  obtain ⟨hm, T, kC, hj, fr⟩ := K
  refine CT.mono (CT.frame fr.1 (opc_vote htr T S hm p0 p1 p2 hj kC r0 r1 r2)) (fun r9 h9 z => ?_) (fun E9 h9 z => ?_)
  · obtain ⟨hm9, ⟨v0, e, z1, rfl, T1, k1, j1⟩, g⟩ := z
    exact ⟨e, z1, hm9, T1, k1, j1, fr.trans g⟩
  · obtain ⟨hm9, z, g⟩ := z
    rcases z with ⟨e, z1, k1⟩ | ⟨e, z1, k1⟩
    · exact Or.inl ⟨e, z1.symm, hm9, T, k1, hj, fr.trans g⟩
    · exact Or.inr ⟨e, z1.symm, hm9, T, k1, hj, fr.trans g⟩

set_option maxRecDepth 100000 in
theorem c_L_vote {ln : Launch} (htr : ln.stackTraces = false) {G : zG} {b : Nat} {S : Nat → Nat → Int} {hC0 h0 h : zH} {p0 p1 p2 : Int} (K : SC G b S hC0 h0 h) (r0 : (-2147483648 ≤ p0 ∧ p0 < 2147483648)) (r1 : (-2147483648 ≤ p1 ∧ p1 < 2147483648)) (r2 : (p2 = 0 ∨ p2 = 1)) : CTH ln G yL_vote cL_vote 5 (some .int) [(0, 7, 8, 23), (0, 7, 13, 16)] 9 [.ref b, vI p0, vI p1, vI p2] h 1 6 (fun r9 h9 => r9 = some (vI (an (cVote S p0 p1) (sVote S p0 p1 p2 16 p1.toNat) (-2000000001) (-2000000003) 0)) ∧ SC G b (stn (cVote S p0 p1) (sVote S p0 p1 p2) S) hC0 h0 h9) := by
  obtain ⟨fs, ho⟩ := K.obj
  refine CTH.intro htr (by decide) rfl (Nat.le_of_ble_eq_true rfl) ?_
  intro X hln hG hR hN C E
  subst hln
  subst hG
  refine Z.aload_n C dL_vote_0 rfl ?_
  refine Z.iload_n C dL_vote_1 rfl ?_
  refine Z.iload_n C dL_vote_2 rfl ?_
  refine Z.iload_n C dL_vote_3 rfl ?_
  refine v_L_39 C rfl dL_vote_4 ho (k_vote htr K r0 r1 r2) (by decide) (Nat.le_of_ble_eq_true rfl) (by rw [hR]; exact Nat.le_of_ble_eq_true rfl) (by rw [hR]; exact Nat.le_of_ble_eq_true rfl) (fun w9 h9 q9 => ?_) (fun E9 h9 q9 => ?_)
  · obtain ⟨rfl, z0, k9⟩ := q9
    exact Z.iretH C E dL_vote_7 (by decide) (by decide) ⟨by rw [z0]; rfl, by rw [z0]; exact k9⟩
  · rcases q9 with ⟨rfl, z0, k9⟩ | ⟨rfl, z0, k9⟩
    · refine ZT.catch C E [] ⟨0, 7, 8, 23⟩ [⟨0, 7, 13, 16⟩] rfl (fun z hz => absurd hz List.not_mem_nil) (by decide) (by decide) zl_k23 (by decide) (fun q => ?_)
      refine Z.astore (l' := [_, _, _, _, _]) C dL_vote_8 (Nat.le_of_ble_eq_true rfl) (by rw [hN]; decide) rfl ?_
      refine Z.ldcI (v := -2000000001) C zl_c25 dL_vote_10 ?_
      exact Z.iretH C E dL_vote_12 (by decide) (by decide) ⟨by rw [z0]; rfl, by rw [z0]; exact k9⟩
    · refine ZT.catch C E [⟨0, 7, 8, 23⟩] ⟨0, 7, 13, 16⟩ [] rfl (fun z hz => by rcases List.mem_singleton.mp hz with rfl; exact ⟨by decide, _, zl_k23, by decide⟩) (by decide) (by decide) zl_k16 (by decide) (fun q => ?_)
      refine Z.astore (l' := [_, _, _, _, _]) C dL_vote_13 (Nat.le_of_ble_eq_true rfl) (by rw [hN]; decide) rfl ?_
      refine Z.ldcI (v := -2000000003) C zl_c18 dL_vote_15 ?_
      exact Z.iretH C E dL_vote_17 (by decide) (by decide) ⟨by rw [z0]; rfl, by rw [z0]; exact k9⟩

theorem k_rule {ln : Launch} (htr : ln.stackTraces = false) {G : zG} {b : Nat} {S : Nat → Nat → Int} {hC0 h0 h : zH} {p0 : Int} (K : SC G b S hC0 h0 h) (r0 : (-2147483648 ≤ p0 ∧ p0 < 2147483648)) : CT ln G yX6_rule cX6_rule 2 (some .int) 7 [.ref b, vI p0] h 1 6 (fun r9 h9 => r9 = some (vI (mval S p0)) ∧ cRule p0 = 0 ∧ SC G b (S) hC0 h0 h9) (fun E9 h9 => (E9 = "java/lang/IndexOutOfBoundsException" ∧ cRule p0 = 1 ∧ SC G b S hC0 h0 h9)) := by
  obtain ⟨hm, T, kC, hj, fr⟩ := K
  refine CT.mono (CT.frame fr.1 (opc_rule htr T S hm p0 hj kC r0)) (fun r9 h9 z => ?_) (fun E9 h9 z => ?_)
  · obtain ⟨hm9, ⟨v0, e, z1, rfl, T1, k1, j1⟩, g⟩ := z
    exact ⟨e, z1, hm9, T1, k1, j1, fr.trans g⟩
  · obtain ⟨hm9, ⟨e, z1, k1⟩, g⟩ := z
    exact ⟨e, z1.symm, hm9, T, k1, hj, fr.trans g⟩

set_option maxRecDepth 100000 in
theorem c_L_rule {ln : Launch} (htr : ln.stackTraces = false) {G : zG} {b : Nat} {S : Nat → Nat → Int} {hC0 h0 h : zH} {p0 : Int} (K : SC G b S hC0 h0 h) (r0 : (-2147483648 ≤ p0 ∧ p0 < 2147483648)) : CTH ln G yL_rule cL_rule 3 (some .int) [(0, 5, 6, 23)] 8 [.ref b, vI p0] h 1 6 (fun r9 h9 => r9 = some (vI (an (cRule p0) (mval S p0) (-2000000001) 0 0)) ∧ SC G b (stn (cRule p0) (S) S) hC0 h0 h9) := by
  obtain ⟨fs, ho⟩ := K.obj
  refine CTH.intro htr (by decide) rfl (Nat.le_of_ble_eq_true rfl) ?_
  intro X hln hG hR hN C E
  subst hln
  subst hG
  refine Z.aload_n C dL_rule_0 rfl ?_
  refine Z.iload_n C dL_rule_1 rfl ?_
  refine v_L_43 C rfl dL_rule_2 ho (k_rule htr K r0) (by decide) (Nat.le_of_ble_eq_true rfl) (by rw [hR]; exact Nat.le_of_ble_eq_true rfl) (by rw [hR]; exact Nat.le_of_ble_eq_true rfl) (fun w9 h9 q9 => ?_) (fun E9 h9 q9 => ?_)
  · obtain ⟨rfl, z0, k9⟩ := q9
    exact Z.iretH C E dL_rule_5 (by decide) (by decide) ⟨by rw [z0]; rfl, by rw [z0]; exact k9⟩
  · obtain ⟨rfl, z0, k9⟩ := q9
    refine ZT.catch C E [] ⟨0, 5, 6, 23⟩ [] rfl (fun z hz => absurd hz List.not_mem_nil) (by decide) (by decide) zl_k23 (by decide) (fun q => ?_)
    refine Z.astore_n (l' := [_, _, _]) C dL_rule_6 (Nat.le_of_ble_eq_true rfl) (by rw [hN]; decide) rfl ?_
    refine Z.ldcI (v := -2000000001) C zl_c25 dL_rule_7 ?_
    exact Z.iretH C E dL_rule_9 (by decide) (by decide) ⟨by rw [z0]; rfl, by rw [z0]; exact k9⟩

theorem k_proposal {ln : Launch} (htr : ln.stackTraces = false) {G : zG} {b : Nat} {S : Nat → Nat → Int} {hC0 h0 h : zH} {p0 p1 : Int} (K : SC G b S hC0 h0 h) (r0 : (-2147483648 ≤ p0 ∧ p0 < 2147483648)) (r1 : (-2147483648 ≤ p1 ∧ p1 < 2147483648)) : CT ln G yX6_proposal cX6_proposal 4 (some .int) 7 [.ref b, vI p0, vI p1] h 1 6 (fun r9 h9 => r9 = some (vI (vPpl S p0.toNat p1)) ∧ cPpl S p0 p1 = 0 ∧ SC G b (S) hC0 h0 h9) (fun E9 h9 => (E9 = "java/lang/IndexOutOfBoundsException" ∧ cPpl S p0 p1 = 1 ∧ SC G b S hC0 h0 h9) ∨ (E9 = "java/lang/IllegalArgumentException" ∧ cPpl S p0 p1 = 2 ∧ SC G b S hC0 h0 h9)) := by
  obtain ⟨hm, T, kC, hj, fr⟩ := K
  refine CT.mono (CT.frame fr.1 (opc_proposal htr T S hm p0 p1 hj kC r0 r1)) (fun r9 h9 z => ?_) (fun E9 h9 z => ?_)
  · obtain ⟨hm9, ⟨v0, e, z1, rfl, T1, k1, j1⟩, g⟩ := z
    exact ⟨e, z1, hm9, T1, k1, j1, fr.trans g⟩
  · obtain ⟨hm9, z, g⟩ := z
    rcases z with ⟨e, z1, k1⟩ | ⟨e, z1, k1⟩
    · exact Or.inl ⟨e, z1.symm, hm9, T, k1, hj, fr.trans g⟩
    · exact Or.inr ⟨e, z1.symm, hm9, T, k1, hj, fr.trans g⟩

set_option maxRecDepth 100000 in
theorem c_L_proposal {ln : Launch} (htr : ln.stackTraces = false) {G : zG} {b : Nat} {S : Nat → Nat → Int} {hC0 h0 h : zH} {p0 p1 : Int} (K : SC G b S hC0 h0 h) (r0 : (-2147483648 ≤ p0 ∧ p0 < 2147483648)) (r1 : (-2147483648 ≤ p1 ∧ p1 < 2147483648)) : CTH ln G yL_proposal cL_proposal 4 (some .int) [(0, 6, 7, 23), (0, 6, 11, 13)] 8 [.ref b, vI p0, vI p1] h 1 6 (fun r9 h9 => r9 = some (vI (an (cPpl S p0 p1) (vPpl S p0.toNat p1) (-2000000001) (-2000000002) 0)) ∧ SC G b (stn (cPpl S p0 p1) (S) S) hC0 h0 h9) := by
  obtain ⟨fs, ho⟩ := K.obj
  refine CTH.intro htr (by decide) rfl (Nat.le_of_ble_eq_true rfl) ?_
  intro X hln hG hR hN C E
  subst hln
  subst hG
  refine Z.aload_n C dL_proposal_0 rfl ?_
  refine Z.iload_n C dL_proposal_1 rfl ?_
  refine Z.iload_n C dL_proposal_2 rfl ?_
  refine v_L_46 C rfl dL_proposal_3 ho (k_proposal htr K r0 r1) (by decide) (Nat.le_of_ble_eq_true rfl) (by rw [hR]; exact Nat.le_of_ble_eq_true rfl) (by rw [hR]; exact Nat.le_of_ble_eq_true rfl) (fun w9 h9 q9 => ?_) (fun E9 h9 q9 => ?_)
  · obtain ⟨rfl, z0, k9⟩ := q9
    exact Z.iretH C E dL_proposal_6 (by decide) (by decide) ⟨by rw [z0]; rfl, by rw [z0]; exact k9⟩
  · rcases q9 with ⟨rfl, z0, k9⟩ | ⟨rfl, z0, k9⟩
    · refine ZT.catch C E [] ⟨0, 6, 7, 23⟩ [⟨0, 6, 11, 13⟩] rfl (fun z hz => absurd hz List.not_mem_nil) (by decide) (by decide) zl_k23 (by decide) (fun q => ?_)
      refine Z.astore_n (l' := [_, _, _, _]) C dL_proposal_7 (Nat.le_of_ble_eq_true rfl) (by rw [hN]; decide) rfl ?_
      refine Z.ldcI (v := -2000000001) C zl_c25 dL_proposal_8 ?_
      exact Z.iretH C E dL_proposal_10 (by decide) (by decide) ⟨by rw [z0]; rfl, by rw [z0]; exact k9⟩
    · refine ZT.catch C E [⟨0, 6, 7, 23⟩] ⟨0, 6, 11, 13⟩ [] rfl (fun z hz => by rcases List.mem_singleton.mp hz with rfl; exact ⟨by decide, _, zl_k23, by decide⟩) (by decide) (by decide) zl_k13 (by decide) (fun q => ?_)
      refine Z.astore_n (l' := [_, _, _, _]) C dL_proposal_11 (Nat.le_of_ble_eq_true rfl) (by rw [hN]; decide) rfl ?_
      refine Z.ldcI (v := -2000000002) C zl_c15 dL_proposal_12 ?_
      exact Z.iretH C E dL_proposal_14 (by decide) (by decide) ⟨by rw [z0]; rfl, by rw [z0]; exact k9⟩

theorem k_member {ln : Launch} (htr : ln.stackTraces = false) {G : zG} {b : Nat} {S : Nat → Nat → Int} {hC0 h0 h : zH} {p0 p1 : Int} (K : SC G b S hC0 h0 h) (r0 : (-2147483648 ≤ p0 ∧ p0 < 2147483648)) (r1 : (-2147483648 ≤ p1 ∧ p1 < 2147483648)) : CT ln G yX6_member cX6_member 4 (some .int) 7 [.ref b, vI p0, vI p1] h 1 6 (fun r9 h9 => r9 = some (vI (vMem S p0.toNat p1)) ∧ cMem S p0 p1 = 0 ∧ SC G b (S) hC0 h0 h9) (fun E9 h9 => (E9 = "java/lang/IndexOutOfBoundsException" ∧ cMem S p0 p1 = 1 ∧ SC G b S hC0 h0 h9) ∨ (E9 = "java/lang/IllegalArgumentException" ∧ cMem S p0 p1 = 2 ∧ SC G b S hC0 h0 h9)) := by
  obtain ⟨hm, T, kC, hj, fr⟩ := K
  refine CT.mono (CT.frame fr.1 (opc_member htr T S hm p0 p1 hj kC r0 r1)) (fun r9 h9 z => ?_) (fun E9 h9 z => ?_)
  · obtain ⟨hm9, ⟨v0, e, z1, rfl, T1, k1, j1⟩, g⟩ := z
    exact ⟨e, z1, hm9, T1, k1, j1, fr.trans g⟩
  · obtain ⟨hm9, z, g⟩ := z
    rcases z with ⟨e, z1, k1⟩ | ⟨e, z1, k1⟩
    · exact Or.inl ⟨e, z1.symm, hm9, T, k1, hj, fr.trans g⟩
    · exact Or.inr ⟨e, z1.symm, hm9, T, k1, hj, fr.trans g⟩

set_option maxRecDepth 100000 in
theorem c_L_member {ln : Launch} (htr : ln.stackTraces = false) {G : zG} {b : Nat} {S : Nat → Nat → Int} {hC0 h0 h : zH} {p0 p1 : Int} (K : SC G b S hC0 h0 h) (r0 : (-2147483648 ≤ p0 ∧ p0 < 2147483648)) (r1 : (-2147483648 ≤ p1 ∧ p1 < 2147483648)) : CTH ln G yL_member cL_member 4 (some .int) [(0, 6, 7, 23), (0, 6, 11, 13)] 8 [.ref b, vI p0, vI p1] h 1 6 (fun r9 h9 => r9 = some (vI (an (cMem S p0 p1) (vMem S p0.toNat p1) (-2000000001) (-2000000002) 0)) ∧ SC G b (stn (cMem S p0 p1) (S) S) hC0 h0 h9) := by
  obtain ⟨fs, ho⟩ := K.obj
  refine CTH.intro htr (by decide) rfl (Nat.le_of_ble_eq_true rfl) ?_
  intro X hln hG hR hN C E
  subst hln
  subst hG
  refine Z.aload_n C dL_member_0 rfl ?_
  refine Z.iload_n C dL_member_1 rfl ?_
  refine Z.iload_n C dL_member_2 rfl ?_
  refine v_L_49 C rfl dL_member_3 ho (k_member htr K r0 r1) (by decide) (Nat.le_of_ble_eq_true rfl) (by rw [hR]; exact Nat.le_of_ble_eq_true rfl) (by rw [hR]; exact Nat.le_of_ble_eq_true rfl) (fun w9 h9 q9 => ?_) (fun E9 h9 q9 => ?_)
  · obtain ⟨rfl, z0, k9⟩ := q9
    exact Z.iretH C E dL_member_6 (by decide) (by decide) ⟨by rw [z0]; rfl, by rw [z0]; exact k9⟩
  · rcases q9 with ⟨rfl, z0, k9⟩ | ⟨rfl, z0, k9⟩
    · refine ZT.catch C E [] ⟨0, 6, 7, 23⟩ [⟨0, 6, 11, 13⟩] rfl (fun z hz => absurd hz List.not_mem_nil) (by decide) (by decide) zl_k23 (by decide) (fun q => ?_)
      refine Z.astore_n (l' := [_, _, _, _]) C dL_member_7 (Nat.le_of_ble_eq_true rfl) (by rw [hN]; decide) rfl ?_
      refine Z.ldcI (v := -2000000001) C zl_c25 dL_member_8 ?_
      exact Z.iretH C E dL_member_10 (by decide) (by decide) ⟨by rw [z0]; rfl, by rw [z0]; exact k9⟩
    · refine ZT.catch C E [⟨0, 6, 7, 23⟩] ⟨0, 6, 11, 13⟩ [] rfl (fun z hz => by rcases List.mem_singleton.mp hz with rfl; exact ⟨by decide, _, zl_k23, by decide⟩) (by decide) (by decide) zl_k13 (by decide) (fun q => ?_)
      refine Z.astore_n (l' := [_, _, _, _]) C dL_member_11 (Nat.le_of_ble_eq_true rfl) (by rw [hN]; decide) rfl ?_
      refine Z.ldcI (v := -2000000002) C zl_c15 dL_member_12 ?_
      exact Z.iretH C E dL_member_14 (by decide) (by decide) ⟨by rw [z0]; rfl, by rw [z0]; exact k9⟩

theorem k_has {ln : Launch} (htr : ln.stackTraces = false) {G : zG} {b : Nat} {S : Nat → Nat → Int} {hC0 h0 h : zH} {p0 p1 : Int} (K : SC G b S hC0 h0 h) (r0 : (-2147483648 ≤ p0 ∧ p0 < 2147483648)) (r1 : (-2147483648 ≤ p1 ∧ p1 < 2147483648)) : CT ln G yX6_has cX6_has 4 (some .boolean) 7 [.ref b, vI p0, vI p1] h 1 6 (fun r9 h9 => r9 = some (vI ((if S 13 (20 * p0.toNat + p1.toNat) = 0 then 0 else 1))) ∧ cHas S p0 p1 = 0 ∧ SC G b (S) hC0 h0 h9) (fun E9 h9 => (E9 = "java/lang/IndexOutOfBoundsException" ∧ cHas S p0 p1 = 1 ∧ SC G b S hC0 h0 h9)) := by
  obtain ⟨hm, T, kC, hj, fr⟩ := K
  refine CT.mono (CT.frame fr.1 (opc_has htr T S hm p0 p1 hj kC r0 r1)) (fun r9 h9 z => ?_) (fun E9 h9 z => ?_)
  · obtain ⟨hm9, ⟨v0, e, z1, rfl, T1, k1, j1⟩, g⟩ := z
    exact ⟨e, z1, hm9, T1, k1, j1, fr.trans g⟩
  · obtain ⟨hm9, ⟨e, z1, k1⟩, g⟩ := z
    exact ⟨e, z1.symm, hm9, T, k1, hj, fr.trans g⟩

set_option maxRecDepth 100000 in
theorem c_L_has {ln : Launch} (htr : ln.stackTraces = false) {G : zG} {b : Nat} {S : Nat → Nat → Int} {hC0 h0 h : zH} {p0 p1 : Int} (K : SC G b S hC0 h0 h) (r0 : (-2147483648 ≤ p0 ∧ p0 < 2147483648)) (r1 : (-2147483648 ≤ p1 ∧ p1 < 2147483648)) : CTH ln G yL_has cL_has 4 (some .int) [(0, 14, 15, 23)] 8 [.ref b, vI p0, vI p1] h 1 6 (fun r9 h9 => r9 = some (vI (an (cHas S p0 p1) ((if S 13 (20 * p0.toNat + p1.toNat) = 0 then 0 else 1)) (-2000000001) 0 0)) ∧ SC G b (stn (cHas S p0 p1) (S) S) hC0 h0 h9) := by
  obtain ⟨fs, ho⟩ := K.obj
  refine CTH.intro htr (by decide) rfl (Nat.le_of_ble_eq_true rfl) ?_
  intro X hln hG hR hN C E
  subst hln
  subst hG
  refine Z.aload_n C dL_has_0 rfl ?_
  refine Z.iload_n C dL_has_1 rfl ?_
  refine Z.iload_n C dL_has_2 rfl ?_
  refine v_L_52 C rfl dL_has_3 ho (k_has htr K r0 r1) (by decide) (Nat.le_of_ble_eq_true rfl) (by rw [hR]; exact Nat.le_of_ble_eq_true rfl) (by rw [hR]; exact Nat.le_of_ble_eq_true rfl) (fun w9 h9 q9 => ?_) (fun E9 h9 q9 => ?_)
  · obtain ⟨rfl, z0, k9⟩ := q9
    refine Z.if_eq (tgt := 13) C dL_has_6 (by decide) (by split <;> decide) (by split <;> decide) (fun c1 => ?_) (fun c1 => ?_)
    · have hv : (if S 13 (20 * p0.toNat + p1.toNat) = 0 then (0 : Int) else 1) = 0 := by
        by_cases w : S 13 (20 * p0.toNat + p1.toNat) = 0
        · rw [if_pos w] at c1 ⊢
        · rw [if_neg w] at c1 ⊢
          exact absurd c1 (by decide)
      refine Z.iconst C dL_has_13 ?_
      exact Z.iretH C E dL_has_14 (by decide) (by decide) ⟨by rw [z0, hv]; rfl, by rw [z0]; exact k9⟩
    · have hv : (if S 13 (20 * p0.toNat + p1.toNat) = 0 then (0 : Int) else 1) = 1 := by
        by_cases w : S 13 (20 * p0.toNat + p1.toNat) = 0
        · rw [if_pos w] at c1 ⊢
          exact absurd rfl c1
        · rw [if_neg w] at c1 ⊢
      refine Z.iconst C dL_has_9 ?_
      refine Z.goto (tgt := 14) C dL_has_10 (by decide) ?_
      exact Z.iretH C E dL_has_14 (by decide) (by decide) ⟨by rw [z0, hv]; rfl, by rw [z0]; exact k9⟩
  · obtain ⟨rfl, z0, k9⟩ := q9
    refine ZT.catch C E [] ⟨0, 14, 15, 23⟩ [] rfl (fun z hz => absurd hz List.not_mem_nil) (by decide) (by decide) zl_k23 (by decide) (fun q => ?_)
    refine Z.astore_n (l' := [_, _, _, _]) C dL_has_15 (Nat.le_of_ble_eq_true rfl) (by rw [hN]; decide) rfl ?_
    refine Z.ldcI (v := -2000000001) C zl_c25 dL_has_16 ?_
    exact Z.iretH C E dL_has_18 (by decide) (by decide) ⟨by rw [z0]; rfl, by rw [z0]; exact k9⟩

theorem k_owes {ln : Launch} (htr : ln.stackTraces = false) {G : zG} {b : Nat} {S : Nat → Nat → Int} {hC0 h0 h : zH} {p0 p1 : Int} (K : SC G b S hC0 h0 h) (r0 : (-2147483648 ≤ p0 ∧ p0 < 2147483648)) (r1 : (-2147483648 ≤ p1 ∧ p1 < 2147483648)) : CT ln G yX6_owes cX6_owes 4 (some .int) 7 [.ref b, vI p0, vI p1] h 1 6 (fun r9 h9 => r9 = some (vI (S 9 (10 * p0.toNat + p1.toNat))) ∧ cOwes S p0 p1 = 0 ∧ SC G b (S) hC0 h0 h9) (fun E9 h9 => (E9 = "java/lang/IndexOutOfBoundsException" ∧ cOwes S p0 p1 = 1 ∧ SC G b S hC0 h0 h9)) := by
  obtain ⟨hm, T, kC, hj, fr⟩ := K
  refine CT.mono (CT.frame fr.1 (opc_owes htr T S hm p0 p1 hj kC r0 r1)) (fun r9 h9 z => ?_) (fun E9 h9 z => ?_)
  · obtain ⟨hm9, ⟨v0, e, z1, rfl, T1, k1, j1⟩, g⟩ := z
    exact ⟨e, z1, hm9, T1, k1, j1, fr.trans g⟩
  · obtain ⟨hm9, ⟨e, z1, k1⟩, g⟩ := z
    exact ⟨e, z1.symm, hm9, T, k1, hj, fr.trans g⟩

set_option maxRecDepth 100000 in
theorem c_L_owes {ln : Launch} (htr : ln.stackTraces = false) {G : zG} {b : Nat} {S : Nat → Nat → Int} {hC0 h0 h : zH} {p0 p1 : Int} (K : SC G b S hC0 h0 h) (r0 : (-2147483648 ≤ p0 ∧ p0 < 2147483648)) (r1 : (-2147483648 ≤ p1 ∧ p1 < 2147483648)) : CTH ln G yL_owes cL_owes 4 (some .int) [(0, 6, 7, 23)] 8 [.ref b, vI p0, vI p1] h 1 6 (fun r9 h9 => r9 = some (vI (an (cOwes S p0 p1) (S 9 (10 * p0.toNat + p1.toNat)) (-2000000001) 0 0)) ∧ SC G b (stn (cOwes S p0 p1) (S) S) hC0 h0 h9) := by
  obtain ⟨fs, ho⟩ := K.obj
  refine CTH.intro htr (by decide) rfl (Nat.le_of_ble_eq_true rfl) ?_
  intro X hln hG hR hN C E
  subst hln
  subst hG
  refine Z.aload_n C dL_owes_0 rfl ?_
  refine Z.iload_n C dL_owes_1 rfl ?_
  refine Z.iload_n C dL_owes_2 rfl ?_
  refine v_L_56 C rfl dL_owes_3 ho (k_owes htr K r0 r1) (by decide) (Nat.le_of_ble_eq_true rfl) (by rw [hR]; exact Nat.le_of_ble_eq_true rfl) (by rw [hR]; exact Nat.le_of_ble_eq_true rfl) (fun w9 h9 q9 => ?_) (fun E9 h9 q9 => ?_)
  · obtain ⟨rfl, z0, k9⟩ := q9
    exact Z.iretH C E dL_owes_6 (by decide) (by decide) ⟨by rw [z0]; rfl, by rw [z0]; exact k9⟩
  · obtain ⟨rfl, z0, k9⟩ := q9
    refine ZT.catch C E [] ⟨0, 6, 7, 23⟩ [] rfl (fun z hz => absurd hz List.not_mem_nil) (by decide) (by decide) zl_k23 (by decide) (fun q => ?_)
    refine Z.astore_n (l' := [_, _, _, _]) C dL_owes_7 (Nat.le_of_ble_eq_true rfl) (by rw [hN]; decide) rfl ?_
    refine Z.ldcI (v := -2000000001) C zl_c25 dL_owes_8 ?_
    exact Z.iretH C E dL_owes_10 (by decide) (by decide) ⟨by rw [z0]; rfl, by rw [z0]; exact k9⟩

theorem k_worth {ln : Launch} (htr : ln.stackTraces = false) {G : zG} {b : Nat} {S : Nat → Nat → Int} {hC0 h0 h : zH} {p0 : Int} (K : SC G b S hC0 h0 h) (r0 : (-2147483648 ≤ p0 ∧ p0 < 2147483648)) : CT ln G yX6_worth cX6_worth 2 (some .int) 7 [.ref b, vI p0] h 1 6 (fun r9 h9 => r9 = some (vI (S 12 p0.toNat)) ∧ cWorth S p0 = 0 ∧ SC G b (S) hC0 h0 h9) (fun E9 h9 => (E9 = "java/lang/IndexOutOfBoundsException" ∧ cWorth S p0 = 1 ∧ SC G b S hC0 h0 h9)) := by
  obtain ⟨hm, T, kC, hj, fr⟩ := K
  refine CT.mono (CT.frame fr.1 (opc_worth htr T S hm p0 hj kC r0)) (fun r9 h9 z => ?_) (fun E9 h9 z => ?_)
  · obtain ⟨hm9, ⟨v0, e, z1, rfl, T1, k1, j1⟩, g⟩ := z
    exact ⟨e, z1, hm9, T1, k1, j1, fr.trans g⟩
  · obtain ⟨hm9, ⟨e, z1, k1⟩, g⟩ := z
    exact ⟨e, z1.symm, hm9, T, k1, hj, fr.trans g⟩

set_option maxRecDepth 100000 in
theorem c_L_worth {ln : Launch} (htr : ln.stackTraces = false) {G : zG} {b : Nat} {S : Nat → Nat → Int} {hC0 h0 h : zH} {p0 : Int} (K : SC G b S hC0 h0 h) (r0 : (-2147483648 ≤ p0 ∧ p0 < 2147483648)) : CTH ln G yL_worth cL_worth 3 (some .int) [(0, 5, 6, 23)] 8 [.ref b, vI p0] h 1 6 (fun r9 h9 => r9 = some (vI (an (cWorth S p0) (S 12 p0.toNat) (-2000000001) 0 0)) ∧ SC G b (stn (cWorth S p0) (S) S) hC0 h0 h9) := by
  obtain ⟨fs, ho⟩ := K.obj
  refine CTH.intro htr (by decide) rfl (Nat.le_of_ble_eq_true rfl) ?_
  intro X hln hG hR hN C E
  subst hln
  subst hG
  refine Z.aload_n C dL_worth_0 rfl ?_
  refine Z.iload_n C dL_worth_1 rfl ?_
  refine v_L_59 C rfl dL_worth_2 ho (k_worth htr K r0) (by decide) (Nat.le_of_ble_eq_true rfl) (by rw [hR]; exact Nat.le_of_ble_eq_true rfl) (by rw [hR]; exact Nat.le_of_ble_eq_true rfl) (fun w9 h9 q9 => ?_) (fun E9 h9 q9 => ?_)
  · obtain ⟨rfl, z0, k9⟩ := q9
    exact Z.iretH C E dL_worth_5 (by decide) (by decide) ⟨by rw [z0]; rfl, by rw [z0]; exact k9⟩
  · obtain ⟨rfl, z0, k9⟩ := q9
    refine ZT.catch C E [] ⟨0, 5, 6, 23⟩ [] rfl (fun z hz => absurd hz List.not_mem_nil) (by decide) (by decide) zl_k23 (by decide) (fun q => ?_)
    refine Z.astore_n (l' := [_, _, _]) C dL_worth_6 (Nat.le_of_ble_eq_true rfl) (by rw [hN]; decide) rfl ?_
    refine Z.ldcI (v := -2000000001) C zl_c25 dL_worth_7 ?_
    exact Z.iretH C E dL_worth_9 (by decide) (by decide) ⟨by rw [z0]; rfl, by rw [z0]; exact k9⟩

theorem k_anew {ln : Launch} (htr : ln.stackTraces = false) {G : zG} {b : Nat} {S : Nat → Nat → Int} {hC0 h0 h : zH} {p0 : Int} (K : SC G b S hC0 h0 h) (r0 : (-2147483648 ≤ p0 ∧ p0 < 2147483648)) : CT ln G yX6_accountAnew cX6_accountAnew 2 (some .int) 8 [.ref b, vI p0] h 2 13 (fun r9 h9 => r9 = some (vI (S 7 p0.toNat)) ∧ cAcc S p0 = 0 ∧ SC G b (S) hC0 h0 h9) (fun E9 h9 => (E9 = "java/lang/IndexOutOfBoundsException" ∧ cAcc S p0 = 1 ∧ SC G b S hC0 h0 h9)) := by
  obtain ⟨hm, T, kC, hj, fr⟩ := K
  refine CT.mono (CT.frame fr.1 (opc_accountAnew htr T S hm p0 hj kC r0)) (fun r9 h9 z => ?_) (fun E9 h9 z => ?_)
  · obtain ⟨hm9, ⟨v0, e, z1, rfl, T1, k1, j1⟩, g⟩ := z
    exact ⟨e, z1, hm9, T1, k1, j1, fr.trans g⟩
  · obtain ⟨hm9, ⟨e, z1, k1⟩, g⟩ := z
    exact ⟨e, z1.symm, hm9, T, k1, hj, fr.trans g⟩

set_option maxRecDepth 100000 in
theorem c_L_anew {ln : Launch} (htr : ln.stackTraces = false) {G : zG} {b : Nat} {S : Nat → Nat → Int} {hC0 h0 h : zH} {p0 : Int} (K : SC G b S hC0 h0 h) (r0 : (-2147483648 ≤ p0 ∧ p0 < 2147483648)) : CTH ln G yL_anew cL_anew 3 (some .int) [(0, 5, 6, 23)] 9 [.ref b, vI p0] h 2 13 (fun r9 h9 => r9 = some (vI (an (cAcc S p0) (S 7 p0.toNat) (-2000000001) 0 0)) ∧ SC G b (stn (cAcc S p0) (S) S) hC0 h0 h9) := by
  obtain ⟨fs, ho⟩ := K.obj
  refine CTH.intro htr (by decide) rfl (Nat.le_of_ble_eq_true rfl) ?_
  intro X hln hG hR hN C E
  subst hln
  subst hG
  refine Z.aload_n C dL_anew_0 rfl ?_
  refine Z.iload_n C dL_anew_1 rfl ?_
  refine v_L_62 C rfl dL_anew_2 ho (k_anew htr K r0) (by decide) (Nat.le_of_ble_eq_true rfl) (by rw [hR]; exact Nat.le_of_ble_eq_true rfl) (by rw [hR]; exact Nat.le_of_ble_eq_true rfl) (fun w9 h9 q9 => ?_) (fun E9 h9 q9 => ?_)
  · obtain ⟨rfl, z0, k9⟩ := q9
    exact Z.iretH C E dL_anew_5 (by decide) (by decide) ⟨by rw [z0]; rfl, by rw [z0]; exact k9⟩
  · obtain ⟨rfl, z0, k9⟩ := q9
    refine ZT.catch C E [] ⟨0, 5, 6, 23⟩ [] rfl (fun z hz => absurd hz List.not_mem_nil) (by decide) (by decide) zl_k23 (by decide) (fun q => ?_)
    refine Z.astore_n (l' := [_, _, _]) C dL_anew_6 (Nat.le_of_ble_eq_true rfl) (by rw [hN]; decide) rfl ?_
    refine Z.ldcI (v := -2000000001) C zl_c25 dL_anew_7 ?_
    exact Z.iretH C E dL_anew_9 (by decide) (by decide) ⟨by rw [z0]; rfl, by rw [z0]; exact k9⟩

theorem k_owesAnew {ln : Launch} (htr : ln.stackTraces = false) {G : zG} {b : Nat} {S : Nat → Nat → Int} {hC0 h0 h : zH} {p0 p1 : Int} (K : SC G b S hC0 h0 h) (r0 : (-2147483648 ≤ p0 ∧ p0 < 2147483648)) (r1 : (-2147483648 ≤ p1 ∧ p1 < 2147483648)) : CT ln G yX6_owesAnew cX6_owesAnew 3 (some .int) 8 [.ref b, vI p0, vI p1] h 2 13 (fun r9 h9 => r9 = some (vI (S 9 (10 * p0.toNat + p1.toNat))) ∧ cOwes S p0 p1 = 0 ∧ SC G b (S) hC0 h0 h9) (fun E9 h9 => (E9 = "java/lang/IndexOutOfBoundsException" ∧ cOwes S p0 p1 = 1 ∧ SC G b S hC0 h0 h9)) := by
  obtain ⟨hm, T, kC, hj, fr⟩ := K
  refine CT.mono (CT.frame fr.1 (opc_owesAnew htr T S hm p0 p1 hj kC r0 r1)) (fun r9 h9 z => ?_) (fun E9 h9 z => ?_)
  · obtain ⟨hm9, ⟨v0, e, z1, rfl, T1, k1, j1⟩, g⟩ := z
    exact ⟨e, z1, hm9, T1, k1, j1, fr.trans g⟩
  · obtain ⟨hm9, ⟨e, z1, k1⟩, g⟩ := z
    exact ⟨e, z1.symm, hm9, T, k1, hj, fr.trans g⟩

set_option maxRecDepth 100000 in
theorem c_L_owesAnew {ln : Launch} (htr : ln.stackTraces = false) {G : zG} {b : Nat} {S : Nat → Nat → Int} {hC0 h0 h : zH} {p0 p1 : Int} (K : SC G b S hC0 h0 h) (r0 : (-2147483648 ≤ p0 ∧ p0 < 2147483648)) (r1 : (-2147483648 ≤ p1 ∧ p1 < 2147483648)) : CTH ln G yL_owesAnew cL_owesAnew 4 (some .int) [(0, 6, 7, 23)] 9 [.ref b, vI p0, vI p1] h 2 13 (fun r9 h9 => r9 = some (vI (an (cOwes S p0 p1) (S 9 (10 * p0.toNat + p1.toNat)) (-2000000001) 0 0)) ∧ SC G b (stn (cOwes S p0 p1) (S) S) hC0 h0 h9) := by
  obtain ⟨fs, ho⟩ := K.obj
  refine CTH.intro htr (by decide) rfl (Nat.le_of_ble_eq_true rfl) ?_
  intro X hln hG hR hN C E
  subst hln
  subst hG
  refine Z.aload_n C dL_owesAnew_0 rfl ?_
  refine Z.iload_n C dL_owesAnew_1 rfl ?_
  refine Z.iload_n C dL_owesAnew_2 rfl ?_
  refine v_L_65 C rfl dL_owesAnew_3 ho (k_owesAnew htr K r0 r1) (by decide) (Nat.le_of_ble_eq_true rfl) (by rw [hR]; exact Nat.le_of_ble_eq_true rfl) (by rw [hR]; exact Nat.le_of_ble_eq_true rfl) (fun w9 h9 q9 => ?_) (fun E9 h9 q9 => ?_)
  · obtain ⟨rfl, z0, k9⟩ := q9
    exact Z.iretH C E dL_owesAnew_6 (by decide) (by decide) ⟨by rw [z0]; rfl, by rw [z0]; exact k9⟩
  · obtain ⟨rfl, z0, k9⟩ := q9
    refine ZT.catch C E [] ⟨0, 6, 7, 23⟩ [] rfl (fun z hz => absurd hz List.not_mem_nil) (by decide) (by decide) zl_k23 (by decide) (fun q => ?_)
    refine Z.astore_n (l' := [_, _, _, _]) C dL_owesAnew_7 (Nat.le_of_ble_eq_true rfl) (by rw [hN]; decide) rfl ?_
    refine Z.ldcI (v := -2000000001) C zl_c25 dL_owesAnew_8 ?_
    exact Z.iretH C E dL_owesAnew_10 (by decide) (by decide) ⟨by rw [z0]; rfl, by rw [z0]; exact k9⟩

theorem k_told {ln : Launch} (htr : ln.stackTraces = false) {G : zG} {b : Nat} {S : Nat → Nat → Int} {hC0 h0 h : zH} {p0 : Int} (K : SC G b S hC0 h0 h) (r0 : (-2147483648 ≤ p0 ∧ p0 < 2147483648)) : CT ln G yX6_told cX6_told 4 (some .char) 9 [.ref b, vI p0] h 8 2276 (fun r9 h9 => r9 = some (vI (mtold S p0)) ∧ cTold p0 = 0 ∧ SC G b (S) hC0 h0 h9) (fun E9 h9 => (E9 = "java/lang/IndexOutOfBoundsException" ∧ cTold p0 = 1 ∧ SC G b S hC0 h0 h9)) := by
  obtain ⟨hm, T, kC, hj, fr⟩ := K
  refine CT.mono (CT.frame fr.1 (opc_told htr T S hm p0 hj kC r0)) (fun r9 h9 z => ?_) (fun E9 h9 z => ?_)
  · obtain ⟨hm9, ⟨v0, e, z1, rfl, T1, k1, j1⟩, g⟩ := z
    exact ⟨e, z1, hm9, T1, k1, j1, fr.trans g⟩
  · obtain ⟨hm9, ⟨e, z1, k1⟩, g⟩ := z
    exact ⟨e, z1.symm, hm9, T, k1, hj, fr.trans g⟩

set_option maxRecDepth 100000 in
theorem c_L_told {ln : Launch} (htr : ln.stackTraces = false) {G : zG} {b : Nat} {S : Nat → Nat → Int} {hC0 h0 h : zH} {p0 : Int} (K : SC G b S hC0 h0 h) (r0 : (-2147483648 ≤ p0 ∧ p0 < 2147483648)) : CTH ln G yL_told cL_told 3 (some .int) [(0, 5, 6, 23)] 10 [.ref b, vI p0] h 8 2276 (fun r9 h9 => r9 = some (vI (an (cTold p0) (mtold S p0) (-2000000001) 0 0)) ∧ SC G b (stn (cTold p0) (S) S) hC0 h0 h9) := by
  obtain ⟨fs, ho⟩ := K.obj
  refine CTH.intro htr (by decide) rfl (Nat.le_of_ble_eq_true rfl) ?_
  intro X hln hG hR hN C E
  subst hln
  subst hG
  refine Z.aload_n C dL_told_0 rfl ?_
  refine Z.iload_n C dL_told_1 rfl ?_
  refine v_L_68 C rfl dL_told_2 ho (k_told htr K r0) (by decide) (Nat.le_of_ble_eq_true rfl) (by rw [hR]; exact Nat.le_of_ble_eq_true rfl) (by rw [hR]; exact Nat.le_of_ble_eq_true rfl) (fun w9 h9 q9 => ?_) (fun E9 h9 q9 => ?_)
  · obtain ⟨rfl, z0, k9⟩ := q9
    exact Z.iretH C E dL_told_5 (by decide) (by decide) ⟨by rw [z0]; rfl, by rw [z0]; exact k9⟩
  · obtain ⟨rfl, z0, k9⟩ := q9
    refine ZT.catch C E [] ⟨0, 5, 6, 23⟩ [] rfl (fun z hz => absurd hz List.not_mem_nil) (by decide) (by decide) zl_k23 (by decide) (fun q => ?_)
    refine Z.astore_n (l' := [_, _, _]) C dL_told_6 (Nat.le_of_ble_eq_true rfl) (by rw [hN]; decide) rfl ?_
    refine Z.ldcI (v := -2000000001) C zl_c25 dL_told_7 ?_
    exact Z.iretH C E dL_told_9 (by decide) (by decide) ⟨by rw [z0]; rfl, by rw [z0]; exact k9⟩

