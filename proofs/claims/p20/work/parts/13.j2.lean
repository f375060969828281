/-! ArrayList.add: a list of objects of one class, as a function -/
theorem jI_half : ∀ N : Nat, N ≤ 310 → jI (N : Int) >>> (jI 1 &&& 31) = jI ((N / 2 : Nat) : Int) := by
  have h : ∀ N : Fin 311, jI ((N.1 : Nat) : Int) >>> (jI 1 &&& 31) = jI ((N.1 / 2 : Nat) : Int) := by decide +kernel
  exact fun N hN => h ⟨N, by omega⟩
def LL (G : zG) (h : zH) (lo el n : Nat) (g : Nat → Nat) : Prop := (∃ m : Int, h lo = some (eO 1 [vI m, .ref el, vI (n : Int)])) ∧ el ≠ lo ∧ ((el = G.2.2 5 ∧ n = 0) ∨ ∃ (N : Nat) (f : Nat → Option Nat), h el = some (eR (G.2.1 3) N f) ∧ n ≤ N ∧ 0 < n ∧ N ≤ 465 ∧ ∀ j, j < n → f j = some (g j))
def LPost (G : zG) (h h9 : zH) (lo el n e : Nat) (g : Nat → Nat) : Prop := ∃ el', LL G h9 lo el' (n + 1) (fun j => if j = n then e else g j) ∧ (h el' = none ∨ (el' = el ∧ 0 < n)) ∧ ∀ q, q ≠ lo → (q ≠ el ∨ n = 0) → h q ≠ none → h9 q = h q

set_option maxRecDepth 100000 in
theorem c_grow0 {ln : Launch} (htr : ln.stackTraces = false) {G : zG} {h : zH} {b : Nat} {m : Value} (ho : h b = some (eO 1 [m, .ref (G.2.2 5), vI 0])) : CT ln G yJx4a65c_grow_92f84 cJx4a65c_grow_92f84 4 (some (.array (.object "java/lang/Object"))) 5 ([.ref b, vI 1]) h 1 480 (fun r9 h9 => ∃ a1, h a1 = none ∧ r9 = some (.ref a1) ∧ h9 = zput (zput h a1 (eR (G.2.1 3) 10 (fun _ => none))) b (eO 1 [m, .ref a1, vI 0])) zNo := by
  refine CT.intro htr (by decide) rfl (Nat.le_of_ble_eq_true rfl) ?_
  intro X hln hG hR hN C E
  subst hln
  subst hG
  refine Z.aload_n C dJx4a65c_grow_92f84_0 rfl ?_
  refine g_Jx4a65c_9  C rfl dJx4a65c_grow_92f84_1 (ho) rfl ?_
  refine Z.emptyLen C dJx4a65c_grow_92f84_4 ?_
  refine Z.istore_n (l' := [_, _, _]) C dJx4a65c_grow_92f84_5 (Nat.le_of_ble_eq_true rfl) (by rw [hN]; decide) rfl ?_
  refine Z.iload_n C dJx4a65c_grow_92f84_6 rfl ?_
  refine Z.if_gt (tgt := 20) C dJx4a65c_grow_92f84_7 (by decide) (by omega) (by omega) (fun c7 => ?_) (fun c7 => ?_)
  · exfalso; omega
  · refine Z.aload_n C dJx4a65c_grow_92f84_10 rfl ?_
    refine g_Jx4a65c_9  C rfl dJx4a65c_grow_92f84_11 (ho) rfl ?_
    refine Z.emptyR C zj_def dJx4a65c_grow_92f84_14 ?_
    refine Z.acmp_eq (tgt := 45) C dJx4a65c_grow_92f84_17 (by decide) (fun c17 => ?_) (fun c17 => ?_)
    · refine Z.aload_n C dJx4a65c_grow_92f84_45 rfl ?_
      refine Z.bipush C dJx4a65c_grow_92f84_46 (by decide) ?_
      refine Z.iload_n C dJx4a65c_grow_92f84_48 rfl ?_
      refine Z.mmax C zj_max2 zj_maxs zj_mathi zj_maxc dJx4a65c_grow_92f84_49 (by decide) (Nat.le_of_ble_eq_true rfl) (by rw [hR]; exact Nat.zero_le _) (by rw [hR]; exact Nat.zero_le _) (by omega) (by omega) (by omega) (by omega) ?_
      rw [if_neg (by omega)]
      refine Z.newR (N := 10) C zj_al7 dJx4a65c_grow_92f84_52 rfl (by decide) (by rw [hR]; exact Nat.le_of_ble_eq_true rfl) (by rw [hR]; exact Nat.le_of_ble_eq_true rfl) (fun a1 na => ?_)
      refine Z.widen (k' := 1) (n' := 480) (by decide) (by decide) ?_
      refine Z.dup_x1 C dJx4a65c_grow_92f84_55 rfl rfl ?_
      refine p_Jx4a65c_9 (fs' := [m, .ref a1, vI 0]) C rfl  dJx4a65c_grow_92f84_56  (zput_ne' h _ na ho) (Nat.le_of_ble_eq_true rfl) rfl ?_
      exact Z.aret C E (Or.inr ⟨_, rfl⟩) dJx4a65c_grow_92f84_59 (by decide) (by decide) ⟨a1, na, rfl, rfl⟩
    · exact absurd rfl c17

set_option maxRecDepth 100000 in
theorem c_grow1 {ln : Launch} (htr : ln.stackTraces = false) {G : zG} {h : zH} {b a0 N : Nat} {m : Value} {f : Nat → Option Nat} {ci : Nat} {r : vw_C} (hc : vwCl[ci]? = some r) (hcast : (r.1, "java/lang/Object") ∈ zCasts) (ho : h b = some (eO 1 [m, .ref a0, vI (N : Int)])) (h0 : h a0 = some (eR (G.2.1 3) N f)) (h1 : 0 < N) (h2 : N ≤ 310) (hel : ∀ (j y : Nat), j < N → f j = some y → ∃ fs, h y = some (eO ci fs)) : CT ln G yJx4a65c_grow_92f84 cJx4a65c_grow_92f84 4 (some (.array (.object "java/lang/Object"))) 5 ([.ref b, vI ((N : Int) + 1)]) h 1 480 (fun r9 h9 => ∃ a1, h a1 = none ∧ r9 = some (.ref a1) ∧ h9 = zput (zput (zput h a1 (eR (G.2.1 3) (N + if 1 < N / 2 then N / 2 else 1) (fun _ => none))) a1 (eR (G.2.1 3) (N + if 1 < N / 2 then N / 2 else 1) (va_cpy f (fun _ => none) 0 0 N))) b (eO 1 [m, .ref a1, vI (N : Int)])) zNo := by
  refine CT.intro htr (by decide) rfl (Nat.le_of_ble_eq_true rfl) ?_
  intro X hln hG hR hN C E
  subst hln
  subst hG
  have hn1 : ∃ n1 : Nat, n1 = N + (if 1 < N / 2 then N / 2 else 1) ∧ N ≤ n1 ∧ n1 ≤ 480 := ⟨_, rfl, by omega, by split <;> omega⟩
  obtain ⟨n1, hn1, hn2, hn3⟩ := hn1
  rw [← hn1] at E
  have e9 : (N : Int) + (if (N : Int) + 1 - (N : Int) < ((N / 2 : Nat) : Int) then ((N / 2 : Nat) : Int) else (N : Int) + 1 - (N : Int)) = (n1 : Int) := by rw [hn1]; split <;> split <;> omega
  refine Z.aload_n C dJx4a65c_grow_92f84_0 rfl ?_
  refine g_Jx4a65c_9  C rfl dJx4a65c_grow_92f84_1 (ho) rfl ?_
  refine Z.alenR C dJx4a65c_grow_92f84_4 h0 ?_
  refine Z.istore_n (l' := [_, _, _]) C dJx4a65c_grow_92f84_5 (Nat.le_of_ble_eq_true rfl) (by rw [hN]; decide) rfl ?_
  refine Z.iload_n C dJx4a65c_grow_92f84_6 rfl ?_
  refine Z.if_gt (tgt := 20) C dJx4a65c_grow_92f84_7 (by decide) (by omega) (by omega) (fun c7 => ?_) (fun c7 => ?_)
  · refine Z.iload_n C dJx4a65c_grow_92f84_20 rfl ?_
    refine Z.iload_n C dJx4a65c_grow_92f84_21 rfl ?_
    refine Z.iload_n C dJx4a65c_grow_92f84_22 rfl ?_
    refine Z.isub C dJx4a65c_grow_92f84_23 ?_
    refine Z.iload_n C dJx4a65c_grow_92f84_24 rfl ?_
    refine Z.iconst C dJx4a65c_grow_92f84_25 ?_
    refine Z.ishr (z := ((N / 2 : Nat) : Int)) C dJx4a65c_grow_92f84_26  (jI_half N h2) ?_
    refine s_Jx4a65c_73 C rfl dJx4a65c_grow_92f84_27 (c_J8_newLength_cabcc htr ⟨by omega, by omega⟩ ⟨by omega, by omega⟩ ⟨by omega, by omega⟩) (by decide) (Nat.le_of_ble_eq_true rfl) (by rw [hR]; exact Nat.le_of_ble_eq_true rfl) (by rw [hR]; exact Nat.le_of_ble_eq_true rfl) (fun w27 h27 q27 => ?_) (fun _ _ q => q.elim)
    obtain ⟨rfl, q27⟩ := q27
    replace q27 := q27.symm
    subst q27
    rw [e9]
    refine Z.istore_n (l' := [_, _, _, _]) C dJx4a65c_grow_92f84_30 (Nat.le_of_ble_eq_true rfl) (by rw [hN]; decide) rfl ?_
    refine Z.aload_n C dJx4a65c_grow_92f84_31 rfl ?_
    refine Z.aload_n C dJx4a65c_grow_92f84_32 rfl ?_
    refine g_Jx4a65c_9  C rfl dJx4a65c_grow_92f84_33 (ho) rfl ?_
    refine Z.iload_n C dJx4a65c_grow_92f84_36 rfl ?_
    refine s_Jx4a65c_66 C rfl dJx4a65c_grow_92f84_37 (c_J7_copyOf_1904c htr hc hcast h0 hn2 hn3 hel) (by decide) (Nat.le_of_ble_eq_true rfl) (by rw [hR]; exact Nat.le_of_ble_eq_true rfl) (by rw [hR]; exact Nat.le_of_ble_eq_true rfl) (fun w37 h37 q37 => ?_) (fun _ _ q => q.elim)
    obtain ⟨a1, na, rfl, rfl⟩ := q37
    refine Z.dup_x1 C dJx4a65c_grow_92f84_40 rfl rfl ?_
    refine p_Jx4a65c_9 (fs' := [m, .ref a1, vI (N : Int)]) C rfl  dJx4a65c_grow_92f84_41  (by rw [zput_ne _ _ (fun q => by rw [q, na] at ho; cases ho)]; exact zput_ne' h _ na ho) (Nat.le_of_ble_eq_true rfl) rfl ?_
    exact Z.aret C E (Or.inr ⟨_, rfl⟩) dJx4a65c_grow_92f84_44 (by decide) (by decide) ⟨a1, na, rfl, rfl⟩
  · exfalso; omega

set_option maxRecDepth 100000 in
theorem c_grows0 {ln : Launch} (htr : ln.stackTraces = false) {G : zG} {h : zH} {b : Nat} {m : Value} (ho : h b = some (eO 1 [m, .ref (G.2.2 5), vI 0])) : CT ln G yJx4a65c_grow_d5877 cJx4a65c_grow_d5877 1 (some (.array (.object "java/lang/Object"))) 6 ([.ref b]) h 1 480 (fun r9 h9 => ∃ a1, h a1 = none ∧ r9 = some (.ref a1) ∧ h9 = zput (zput h a1 (eR (G.2.1 3) 10 (fun _ => none))) b (eO 1 [m, .ref a1, vI 0])) zNo := by
  refine CT.intro htr (by decide) rfl (Nat.le_of_ble_eq_true rfl) ?_
  intro X hln hG hR hN C E
  subst hln
  subst hG
  refine Z.aload_n C dJx4a65c_grow_d5877_0 rfl ?_
  refine Z.aload_n C dJx4a65c_grow_d5877_1 rfl ?_
  refine g_Jx4a65c_48  C rfl dJx4a65c_grow_d5877_2 (ho) rfl ?_
  refine Z.iconst C dJx4a65c_grow_d5877_5 ?_
  refine Z.iadd C dJx4a65c_grow_d5877_6 ?_
  show Z X _ _ (vI 1 :: _) _ _ _
  refine v_Jx4a65c_69 C rfl dJx4a65c_grow_d5877_7 (ho) (c_grow0 htr ho) (by decide) (Nat.le_of_ble_eq_true rfl) (by rw [hR]; exact Nat.le_of_ble_eq_true rfl) (by rw [hR]; exact Nat.le_of_ble_eq_true rfl) (fun w7 h7 q7 => ?_) (fun _ _ q => q.elim)
  obtain ⟨a1, na, rfl, rfl⟩ := q7
  exact Z.aret C E (Or.inr ⟨_, rfl⟩) dJx4a65c_grow_d5877_10 (by decide) (by decide) ⟨a1, na, rfl, rfl⟩

set_option maxRecDepth 100000 in
theorem c_grows1 {ln : Launch} (htr : ln.stackTraces = false) {G : zG} {h : zH} {b a0 N : Nat} {m : Value} {f : Nat → Option Nat} {ci : Nat} {r : vw_C} (hc : vwCl[ci]? = some r) (hcast : (r.1, "java/lang/Object") ∈ zCasts) (ho : h b = some (eO 1 [m, .ref a0, vI (N : Int)])) (h0 : h a0 = some (eR (G.2.1 3) N f)) (h1 : 0 < N) (h2 : N ≤ 310) (hel : ∀ (j y : Nat), j < N → f j = some y → ∃ fs, h y = some (eO ci fs)) : CT ln G yJx4a65c_grow_d5877 cJx4a65c_grow_d5877 1 (some (.array (.object "java/lang/Object"))) 6 ([.ref b]) h 1 480 (fun r9 h9 => ∃ a1, h a1 = none ∧ r9 = some (.ref a1) ∧ h9 = zput (zput (zput h a1 (eR (G.2.1 3) (N + if 1 < N / 2 then N / 2 else 1) (fun _ => none))) a1 (eR (G.2.1 3) (N + if 1 < N / 2 then N / 2 else 1) (va_cpy f (fun _ => none) 0 0 N))) b (eO 1 [m, .ref a1, vI (N : Int)])) zNo := by
  refine CT.intro htr (by decide) rfl (Nat.le_of_ble_eq_true rfl) ?_
  intro X hln hG hR hN C E
  subst hln
  subst hG
  refine Z.aload_n C dJx4a65c_grow_d5877_0 rfl ?_
  refine Z.aload_n C dJx4a65c_grow_d5877_1 rfl ?_
  refine g_Jx4a65c_48  C rfl dJx4a65c_grow_d5877_2 (ho) rfl ?_
  refine Z.iconst C dJx4a65c_grow_d5877_5 ?_
  refine Z.iadd C dJx4a65c_grow_d5877_6 ?_
  refine v_Jx4a65c_69 C rfl dJx4a65c_grow_d5877_7 (ho) (c_grow1 htr hc hcast ho h0 h1 h2 hel) (by decide) (Nat.le_of_ble_eq_true rfl) (by rw [hR]; exact Nat.le_of_ble_eq_true rfl) (by rw [hR]; exact Nat.le_of_ble_eq_true rfl) (fun w7 h7 q7 => ?_) (fun _ _ q => q.elim)
  obtain ⟨a1, na, rfl, rfl⟩ := q7
  exact Z.aret C E (Or.inr ⟨_, rfl⟩) dJx4a65c_grow_d5877_10 (by decide) (by decide) ⟨a1, na, rfl, rfl⟩

/-- the end of add: the element stored, the size set -/
theorem LPost.mk {G : zG} {h h1 : zH} {b el el' e n N : Nat} {m : Int} {f : Nat → Option Nat} {g : Nat → Nat} (hne : el' ≠ b) (hb : h1 b = some (eO 1 [vI m, .ref el', vI (n : Int)])) (hf : ∀ j, j < n → f j = some (g j)) (hn : n < N) (hN : N ≤ 465) (hel : h el' = none ∨ (el' = el ∧ 0 < n)) (hfr : ∀ q, q ≠ b → (q ≠ el ∨ n = 0) → h q ≠ none → h1 q = h q) (x : Int) (hx : x = (n : Int) + 1) : LPost G h (zput (zput h1 el' (eR (G.2.1 3) N (va_up f ((n : Int).toNat) (some e)))) b (eO 1 [vI m, .ref el', vI x])) b el n e g := by
  subst hx
  refine ⟨el', ⟨⟨m, by rw [zput_same]; rfl⟩, hne, Or.inr ⟨N, va_up f ((n : Int).toNat) (some e), by rw [zput_ne _ _ hne, zput_same], by omega, by omega, hN, fun j hj => ?_⟩⟩, hel, fun q q1 q2 q3 => ?_⟩
  · rw [Int.toNat_natCast]
    by_cases c : j = n
    · subst c; simp [va_up]
    · simp only [va_up, if_neg c]
      exact hf j (by omega)
  · rw [zput_ne _ _ q1, zput_ne _ _ (fun z => ?_)]
    · exact hfr q q1 q2 q3
    · rcases hel with hel | hel
      · exact q3 (by rw [z]; exact hel)
      · rcases q2 with q2 | q2
        · exact q2 (z.trans hel.1)
        · omega


set_option maxRecDepth 100000 in
theorem c_adds0 {ln : Launch} (htr : ln.stackTraces = false) {G : zG} {h : zH} {b e : Nat} {m : Int} {g : Nat → Nat} {fs : List Value} {ci : Nat} {r : vw_C} (hc : vwCl[ci]? = some r) (hcast : (r.1, "java/lang/Object") ∈ zCasts) (ho : h b = some (eO 1 [vI m, .ref (G.2.2 5), vI 0])) (he : h e = some (eO ci fs)) (neb : e ≠ b) : CT ln G yJx4a65c_add_72be8 cJx4a65c_add_72be8 4 none 7 ([.ref b, .ref e, .ref (G.2.2 5), vI 0]) h 1 480 (fun r9 h9 => r9 = none ∧ LPost G h h9 b (G.2.2 5) 0 e g) zNo := by
  refine CT.intro htr (by decide) rfl (Nat.le_of_ble_eq_true rfl) ?_
  intro X hln hG hR hN C E
  subst hln
  subst hG
  refine Z.iload_n C dJx4a65c_add_72be8_0 rfl ?_
  refine Z.aload_n C dJx4a65c_add_72be8_1 rfl ?_
  refine Z.emptyLen C dJx4a65c_add_72be8_2 ?_
  refine Z.icmp_ne (tgt := 11) C dJx4a65c_add_72be8_3 (by decide) (by omega) (by omega) (by omega) (by omega) (fun c3 => ?_) (fun c3 => ?_)
  · exfalso; omega
  · refine Z.aload_n C dJx4a65c_add_72be8_6 rfl ?_
    refine v_Jx4a65c_129 C rfl dJx4a65c_add_72be8_7 (ho) (c_grows0 htr ho) (by decide) (Nat.le_of_ble_eq_true rfl) (by rw [hR]; exact Nat.le_of_ble_eq_true rfl) (by rw [hR]; exact Nat.le_of_ble_eq_true rfl) (fun w7 h7 q7 => ?_) (fun _ _ q => q.elim)
    obtain ⟨a1, na, rfl, rfl⟩ := q7
    have nb : a1 ≠ b := fun q => by rw [q, ho] at na; cases na
    refine Z.astore_n (l' := [_, _, _, _]) C dJx4a65c_add_72be8_10 (Nat.le_of_ble_eq_true rfl) (by rw [hN]; decide) rfl ?_
    refine Z.aload_n C dJx4a65c_add_72be8_11 rfl ?_
    refine Z.iload_n C dJx4a65c_add_72be8_12 rfl ?_
    refine Z.aload_n C dJx4a65c_add_72be8_13 rfl ?_
    refine Z.aastore (N := 10) (f := fun _ => none) C dJx4a65c_add_72be8_14 (by rw [zput_ne _ _ nb, zput_same]) hc hcast (by rw [zput_ne _ _ neb]; exact zput_ne' h _ na he) (by omega) (by omega) (by omega) ?_
    refine Z.aload_n C dJx4a65c_add_72be8_15 rfl ?_
    refine Z.iload_n C dJx4a65c_add_72be8_16 rfl ?_
    refine Z.iconst C dJx4a65c_add_72be8_17 ?_
    refine Z.iadd C dJx4a65c_add_72be8_18 ?_
    refine p_Jx4a65c_48 (fs' := [vI m, .ref a1, vI ((0 : Int) + 1)]) C rfl  dJx4a65c_add_72be8_19  (by rw [zput_ne _ _ (Ne.symm nb), zput_same]) (Nat.le_of_ble_eq_true rfl) rfl ?_
    exact Z.vret C E dJx4a65c_add_72be8_22 (by decide) (by decide) ⟨rfl, LPost.mk (n := 0) (f := fun _ => none) nb (zput_same _ _ _) (fun j hj => by omega) (by decide) (by decide) (Or.inl na) (fun q q1 q2 q3 => by rw [zput_ne _ _ q1, zput_ne _ _ (fun z => q3 (by rw [z]; exact na))]) _ (by omega)⟩

set_option maxRecDepth 100000 in
theorem c_adds1 {ln : Launch} (htr : ln.stackTraces = false) {G : zG} {h : zH} {b a0 N : Nat} {m : Int} {f : Nat → Option Nat} {ci : Nat} {r : vw_C} (hc : vwCl[ci]? = some r) (hcast : (r.1, "java/lang/Object") ∈ zCasts) (ho : h b = some (eO 1 [vI m, .ref a0, vI (N : Int)])) (h0 : h a0 = some (eR (G.2.1 3) N f)) (h1 : 0 < N) (h2 : N ≤ 310) (hel : ∀ (j y : Nat), j < N → f j = some y → ∃ fs, h y = some (eO ci fs)) {e : Nat} {g : Nat → Nat} {fs : List Value} (he : h e = some (eO ci fs)) (neb : e ≠ b) (hg : ∀ j, j < N → f j = some (g j)) : CT ln G yJx4a65c_add_72be8 cJx4a65c_add_72be8 4 none 7 ([.ref b, .ref e, .ref a0, vI (N : Int)]) h 1 480 (fun r9 h9 => r9 = none ∧ LPost G h h9 b a0 N e g) zNo := by
  refine CT.intro htr (by decide) rfl (Nat.le_of_ble_eq_true rfl) ?_
  intro X hln hG hR hN C E
  subst hln
  subst hG
  refine Z.iload_n C dJx4a65c_add_72be8_0 rfl ?_
  refine Z.aload_n C dJx4a65c_add_72be8_1 rfl ?_
  refine Z.alenR C dJx4a65c_add_72be8_2 h0 ?_
  refine Z.icmp_ne (tgt := 11) C dJx4a65c_add_72be8_3 (by decide) (by omega) (by omega) (by omega) (by omega) (fun c3 => ?_) (fun c3 => ?_)
  · exfalso; omega
  · refine Z.aload_n C dJx4a65c_add_72be8_6 rfl ?_
    refine v_Jx4a65c_129 C rfl dJx4a65c_add_72be8_7 (ho) (c_grows1 htr hc hcast ho h0 h1 h2 hel) (by decide) (Nat.le_of_ble_eq_true rfl) (by rw [hR]; exact Nat.le_of_ble_eq_true rfl) (by rw [hR]; exact Nat.le_of_ble_eq_true rfl) (fun w7 h7 q7 => ?_) (fun _ _ q => q.elim)
    obtain ⟨a1, na, rfl, rfl⟩ := q7
    have nb : a1 ≠ b := fun q => by rw [q, ho] at na; cases na
    refine Z.astore_n (l' := [_, _, _, _]) C dJx4a65c_add_72be8_10 (Nat.le_of_ble_eq_true rfl) (by rw [hN]; decide) rfl ?_
    refine Z.aload_n C dJx4a65c_add_72be8_11 rfl ?_
    refine Z.iload_n C dJx4a65c_add_72be8_12 rfl ?_
    refine Z.aload_n C dJx4a65c_add_72be8_13 rfl ?_
    refine Z.aastore (N := N + if 1 < N / 2 then N / 2 else 1) (f := va_cpy f (fun _ => none) 0 0 N) C dJx4a65c_add_72be8_14 (by rw [zput_ne _ _ nb, zput_same]) hc hcast (by rw [zput_ne _ _ neb, zput_ne _ _ (fun q => by rw [q, na] at he; cases he)]; exact zput_ne' h _ na he) (by omega) (by split <;> omega) (by split <;> omega) ?_
    refine Z.aload_n C dJx4a65c_add_72be8_15 rfl ?_
    refine Z.iload_n C dJx4a65c_add_72be8_16 rfl ?_
    refine Z.iconst C dJx4a65c_add_72be8_17 ?_
    refine Z.iadd C dJx4a65c_add_72be8_18 ?_
    refine p_Jx4a65c_48 (fs' := [vI m, .ref a1, vI ((N : Int) + 1)]) C rfl  dJx4a65c_add_72be8_19  (by rw [zput_ne _ _ (Ne.symm nb), zput_same]) (Nat.le_of_ble_eq_true rfl) rfl ?_
    exact Z.vret C E dJx4a65c_add_72be8_22 (by decide) (by decide) ⟨rfl, LPost.mk (n := N) (f := va_cpy f (fun _ => none) 0 0 N) nb (zput_same _ _ _) (fun j hj => by rw [va_cpy_lo hj]; exact hg j hj) (by split <;> omega) (by split <;> omega) (Or.inl na) (fun q q1 q2 q3 => by rw [zput_ne _ _ q1, zput_ne _ _ (fun z => q3 (by rw [z]; exact na)), zput_ne _ _ (fun z => q3 (by rw [z]; exact na))]) _ rfl⟩

set_option maxRecDepth 100000 in
theorem c_adds2 {ln : Launch} (htr : ln.stackTraces = false) {G : zG} {h : zH} {b a0 n N e : Nat} {m : Int} {f : Nat → Option Nat} {g : Nat → Nat} {fs : List Value} {ci : Nat} {r : vw_C} (hc : vwCl[ci]? = some r) (hcast : (r.1, "java/lang/Object") ∈ zCasts) (ho : h b = some (eO 1 [vI m, .ref a0, vI (n : Int)])) (h0 : h a0 = some (eR (G.2.1 3) N f)) (hn0 : 0 < n) (h1 : n < N) (h2 : N ≤ 465) (he : h e = some (eO ci fs)) (nb : a0 ≠ b) (hg : ∀ j, j < n → f j = some (g j)) : CT ln G yJx4a65c_add_72be8 cJx4a65c_add_72be8 4 none 7 ([.ref b, .ref e, .ref a0, vI (n : Int)]) h 1 480 (fun r9 h9 => r9 = none ∧ LPost G h h9 b a0 n e g) zNo := by
  refine CT.intro htr (by decide) rfl (Nat.le_of_ble_eq_true rfl) ?_
  intro X hln hG hR hN C E
  subst hln
  subst hG
  refine Z.iload_n C dJx4a65c_add_72be8_0 rfl ?_
  refine Z.aload_n C dJx4a65c_add_72be8_1 rfl ?_
  refine Z.alenR C dJx4a65c_add_72be8_2 h0 ?_
  refine Z.icmp_ne (tgt := 11) C dJx4a65c_add_72be8_3 (by decide) (by omega) (by omega) (by omega) (by omega) (fun c3 => ?_) (fun c3 => ?_)
  · refine Z.aload_n C dJx4a65c_add_72be8_11 rfl ?_
    refine Z.iload_n C dJx4a65c_add_72be8_12 rfl ?_
    refine Z.aload_n C dJx4a65c_add_72be8_13 rfl ?_
    refine Z.aastore (N := N) (f := f) C dJx4a65c_add_72be8_14 h0 hc hcast he (by omega) (by omega) (by omega) ?_
    refine Z.aload_n C dJx4a65c_add_72be8_15 rfl ?_
    refine Z.iload_n C dJx4a65c_add_72be8_16 rfl ?_
    refine Z.iconst C dJx4a65c_add_72be8_17 ?_
    refine Z.iadd C dJx4a65c_add_72be8_18 ?_
    refine p_Jx4a65c_48 (fs' := [vI m, .ref a0, vI ((n : Int) + 1)]) C rfl  dJx4a65c_add_72be8_19  (by rw [zput_ne _ _ (Ne.symm nb)]; exact ho) (Nat.le_of_ble_eq_true rfl) rfl ?_
    exact Z.vret C E dJx4a65c_add_72be8_22 (by decide) (by decide) ⟨rfl, LPost.mk (n := n) (f := f) nb ho (fun j hj => hg j hj) h1 h2 (Or.inr ⟨rfl, hn0⟩) (fun q q1 q2 q3 => rfl) _ rfl⟩
  · exfalso; omega

theorem c_adds {ln : Launch} (htr : ln.stackTraces = false) {G : zG} {h : zH} {b el e n : Nat} {m : Int} {g : Nat → Nat} {fs : List Value} {ci : Nat} {r : vw_C} (hc : vwCl[ci]? = some r) (hcast : (r.1, "java/lang/Object") ∈ zCasts) (ho : h b = some (eO 1 [vI m, .ref el, vI (n : Int)])) (hne : el ≠ b) (hcs : (el = G.2.2 5 ∧ n = 0) ∨ ∃ (N : Nat) (f : Nat → Option Nat), h el = some (eR (G.2.1 3) N f) ∧ n ≤ N ∧ 0 < n ∧ N ≤ 465 ∧ ∀ j, j < n → f j = some (g j)) (hn : n ≤ 310) (he : h e = some (eO ci fs)) (neb : e ≠ b) (hg : ∀ j, j < n → ∃ fs, h (g j) = some (eO ci fs)) : CT ln G yJx4a65c_add_72be8 cJx4a65c_add_72be8 4 none 7 [.ref b, .ref e, .ref el, vI (n : Int)] h 1 480 (fun r9 h9 => r9 = none ∧ LPost G h h9 b el n e g) zNo := by
  rcases hcs with ⟨rfl, rfl⟩ | ⟨N, f, h0, h1, h2, h3, h4⟩
  · exact c_adds0 htr hc hcast ho he neb
  · by_cases c : n = N
    · subst c
      exact c_adds1 htr hc hcast ho h0 h2 (by omega) (fun j y hj hy => by rw [h4 j hj] at hy; cases hy; exact hg j hj) he neb h4
    · exact c_adds2 htr hc hcast ho h0 h2 (by omega) h3 he hne h4
theorem LL.up {G : zG} {h : zH} {lo el n : Nat} {g : Nat → Nat} (hl : LL G h lo el n g) {q : Nat} {x : va_E} (h1 : q ≠ lo) (h2 : ∀ N f, h q ≠ some (eR (G.2.1 3) N f)) : LL G (zput h q x) lo el n g := by
  obtain ⟨⟨m, ho⟩, hne, hcs⟩ := hl
  refine ⟨⟨m, by rw [zput_ne _ _ (Ne.symm h1)]; exact ho⟩, hne, ?_⟩
  rcases hcs with hcs | ⟨N, f, h0, hcs⟩
  · exact Or.inl hcs
  · exact Or.inr ⟨N, f, by rw [zput_ne _ _ (fun z => h2 N f (by rw [← z]; exact h0))]; exact h0, hcs⟩
theorem LL.keep {G : zG} {h h9 : zH} {lo el n : Nat} {g : Nat → Nat} (hl : LL G h lo el n g) (h1 : h9 lo = h lo) (h2 : 0 < n → h9 el = h el) : LL G h9 lo el n g := by
  obtain ⟨⟨m, ho⟩, hne, hcs⟩ := hl
  refine ⟨⟨m, h1.trans ho⟩, hne, ?_⟩
  rcases hcs with hcs | ⟨N, f, h0, h3, h4, h5⟩
  · exact Or.inl hcs
  · exact Or.inr ⟨N, f, (h2 h4).trans h0, h3, h4, h5⟩

set_option maxRecDepth 100000 in
theorem c_Jx4a65c_add_9ea2d {ln : Launch} (htr : ln.stackTraces = false) {G : zG} {h : zH} {b el e n : Nat} {g : Nat → Nat} {fs : List Value} {ci : Nat} (hc1 : ci ≠ 1) {r : vw_C} (hc : vwCl[ci]? = some r) (hcast : (r.1, "java/lang/Object") ∈ zCasts) (hl : LL G h b el n g) (hn : n ≤ 310) (he : h e = some (eO ci fs)) (hg : ∀ j, j < n → ∃ fs, h (g j) = some (eO ci fs)) (neb : e ≠ b) : CT ln G yJx4a65c_add_9ea2d cJx4a65c_add_9ea2d 2 (some .boolean) 8 ([.ref b, .ref e]) h 1 480 (fun r9 h9 => r9 = some (vI 1) ∧ LPost G h h9 b el n e g) zNo := by
  refine CT.intro htr (by decide) rfl (Nat.le_of_ble_eq_true rfl) ?_
  intro X hln hG hR hN C E
  subst hln
  subst hG
  obtain ⟨⟨m, ho⟩, hne, hcs⟩ := hl
  refine Z.aload_n C dJx4a65c_add_9ea2d_0 rfl ?_
  refine Z.dup C dJx4a65c_add_9ea2d_1 rfl ?_
  refine g_Jx4a65c_63  C rfl dJx4a65c_add_9ea2d_2 (ho) rfl ?_
  refine Z.iconst C dJx4a65c_add_9ea2d_5 ?_
  refine Z.iadd C dJx4a65c_add_9ea2d_6 ?_
  refine p_Jx4a65c_63 (fs' := [vI (m + 1), .ref el, vI (n : Int)]) C rfl  dJx4a65c_add_9ea2d_7  (ho) (Nat.le_of_ble_eq_true rfl) rfl ?_
  have ho1 := zput_same h b (eO 1 [vI (m + 1), .ref el, vI (n : Int)])
  have he1 : zput h b (eO 1 [vI (m + 1), .ref el, vI (n : Int)]) e = some (eO ci fs) := by rw [zput_ne _ _ neb]; exact he
  refine Z.aload_n C dJx4a65c_add_9ea2d_10 rfl ?_
  refine Z.aload_n C dJx4a65c_add_9ea2d_11 rfl ?_
  refine Z.aload_n C dJx4a65c_add_9ea2d_12 rfl ?_
  refine g_Jx4a65c_9  C rfl dJx4a65c_add_9ea2d_13 (ho1) rfl ?_
  refine Z.aload_n C dJx4a65c_add_9ea2d_16 rfl ?_
  refine g_Jx4a65c_48  C rfl dJx4a65c_add_9ea2d_17 (ho1) rfl ?_
  refine v_Jx4a65c_131 C rfl dJx4a65c_add_9ea2d_20 (ho1) (c_adds htr (g := g) hc hcast ho1 hne (by
      rcases hcs with hcs | ⟨N, f, h0, hcs⟩
      · exact Or.inl hcs
      · exact Or.inr ⟨N, f, by rw [zput_ne _ _ hne]; exact h0, hcs⟩) hn he1 neb (fun j hj => by
        by_cases c : g j = b
        · rw [c]; exact absurd (hg j hj) (fun ⟨fs2, h2⟩ => by rw [c, ho] at h2; cases h2; exact hc1 rfl)
        · obtain ⟨fs2, h2⟩ := hg j hj; exact ⟨fs2, by rw [zput_ne _ _ c]; exact h2⟩)) (by decide) (Nat.le_of_ble_eq_true rfl) (by rw [hR]; exact Nat.le_of_ble_eq_true rfl) (by rw [hR]; exact Nat.le_of_ble_eq_true rfl) (fun w20 h20 q20 => ?_) (fun _ _ q => q.elim)
  obtain ⟨rfl, el1, q1, q2, q3⟩ := q20
  refine Z.iconst C dJx4a65c_add_9ea2d_23 ?_
  refine Z.zret C E dJx4a65c_add_9ea2d_24 rfl (by decide) (by decide) ⟨rfl, el1, q1, ?_, fun q z1 z2 z3 => by rw [q3 q z1 z2 (by rw [zput_ne _ _ z1]; exact z3), zput_ne _ _ z1]⟩
  rcases q2 with q2 | q2
  · by_cases c : el1 = b
    · rw [c, zput_same] at q2; cases q2
    · rw [zput_ne _ _ c] at q2; exact Or.inl q2
  · exact Or.inr q2

theorem c_size {ln : Launch} (htr : ln.stackTraces = false) {G : zG} {h : zH} {b el n : Nat} {g : Nat → Nat} (hl : LL G h b el n g) : CT ln G yJx4a65c_size_8abf5 cJx4a65c_size_8abf5 1 (some .int) 1 [.ref b] h 0 0 (fun r9 h9 => r9 = some (vI (n : Int)) ∧ h9 = h) zNo := by
  obtain ⟨⟨m, ho⟩, -, -⟩ := hl
  exact c_Jx4a65c_size_8abf5 htr ho
theorem c_get {ln : Launch} (htr : ln.stackTraces = false) {G : zG} {h : zH} {b el n : Nat} {g : Nat → Nat} {i : Int} (hl : LL G h b el n g) (h1 : 0 ≤ i ∧ i < n) : CT ln G yJx4a65c_get_915e3 cJx4a65c_get_915e3 2 (some (.object "java/lang/Object")) 3 [.ref b, vI i] h 0 0 (fun r9 h9 => r9 = some (.ref (g i.toNat)) ∧ h9 = h) zNo := by
  obtain ⟨⟨m, ho⟩, -, hcs⟩ := hl
  rcases hcs with ⟨-, rfl⟩ | ⟨N, f, h0, h2, h3, h4, h5⟩
  · exfalso; omega
  · exact c_Jx4a65c_get_915e3 htr ho h0 h1 (by omega) (by omega) (h5 _ (by omega))

