theorem zj_gcl : Cond.methodLink RJ7 86 ⟨"java/lang/Object", "getClass", "()Ljava/lang/Class;"⟩ ∈ zW := zW_of 300 (by decide +kernel) (by decide +kernel)
theorem zj_gci : Cond.instanceMethod ⟨"java/lang/Object", "getClass", "()Ljava/lang/Class;"⟩ ∈ zW := zW_of 301 (by decide +kernel) (by decide +kernel)
theorem zj_gcn : Cond.native ⟨"java/lang/Object", "getClass", "()Ljava/lang/Class;"⟩ ∈ zW := zW_of 315 (by decide +kernel) (by decide +kernel)
theorem zj_gcs : Cond.selects "[Ljava/lang/Object;" ⟨"java/lang/Object", "getClass", "()Ljava/lang/Class;"⟩ ⟨"java/lang/Object", "getClass", "()Ljava/lang/Class;"⟩ ∈ zW := zW_of 884 (by decide +kernel) (by decide +kernel)
theorem zj_110 : Cond.classLink RJ7 110 "[Ljava/lang/Object;" ∈ zW := zW_of 319 (by decide +kernel) (by decide +kernel)
theorem zj_2 : Cond.classLink RJ7 2 "java/lang/Object" ∈ zW := zW_of 321 (by decide +kernel) (by decide +kernel)
theorem zj_al7 : Cond.classLink RJx4a65c 7 "java/lang/Object" ∈ zW := zW_of 329 (by decide +kernel) (by decide +kernel)
theorem zj_min1 : Cond.methodLink RJ7 304 Lib.Math.min.name ∈ zW := zW_of 322 (by decide +kernel) (by decide +kernel)
theorem zj_min2 : Cond.methodLink RJ5 138 Lib.Math.min.name ∈ zW := zW_of 844 (by decide +kernel) (by decide +kernel)
theorem zj_mins : Cond.static Lib.Math.min.name ∈ zW := zW_of 323 (by decide +kernel) (by decide +kernel)
theorem zj_minc : Cond.code Lib.Math.min.name Lib.Math.min.code 2 (some .int) ∈ zW := zW_of 324 (by decide +kernel) (by decide +kernel)
theorem zj_maxs : Cond.static Lib.Math.max.name ∈ zW := zW_of 291 (by decide +kernel) (by decide +kernel)
theorem zj_maxc : Cond.code Lib.Math.max.name Lib.Math.max.code 2 (some .int) ∈ zW := zW_of 292 (by decide +kernel) (by decide +kernel)
theorem zj_max1 : Cond.methodLink RJ8 194 Lib.Math.max.name ∈ zW := zW_of 290 (by decide +kernel) (by decide +kernel)
theorem zj_max2 : Cond.methodLink RJx4a65c 79 Lib.Math.max.name ∈ zW := zW_of 328 (by decide +kernel) (by decide +kernel)
theorem zj_mathi : Cond.initialized "java/lang/Math" ∈ zW := zW_of 39 (by decide +kernel) (by decide +kernel)
theorem zj_acl : Cond.methodLink RJ7 150 arraycopyName ∈ zW := zW_of 325 (by decide +kernel) (by decide +kernel)
theorem zj_acs : Cond.static arraycopyName ∈ zW := zW_of 326 (by decide +kernel) (by decide +kernel)
theorem zj_acn : Cond.native arraycopyName ∈ zW := zW_of 327 (by decide +kernel) (by decide +kernel)
theorem zj_sysi : Cond.initialized "java/lang/System" ∈ zW := zW_of 41 (by decide +kernel) (by decide +kernel)
theorem zj_c200 : Cond.constant RJ8 200 (jI 2147483639) ∈ zW := zW_of 293 (by decide +kernel) (by decide +kernel)
theorem zj_c39 : Cond.constant RJ5 39 (jI 2147483647) ∈ zW := zW_of 775 (by decide +kernel) (by decide +kernel)
theorem zj_def : Cond.fieldLink RJx4a65c 39 "java/util/ArrayList" "DEFAULTCAPACITY_EMPTY_ELEMENTDATA" "[Ljava/lang/Object;" ∈ zW := zW_of 75 (by decide +kernel) (by decide +kernel)
theorem zj_comp : Cond.fieldLink RJ5 18 "java/lang/String" "COMPACT_STRINGS" "Z" ∈ zW := zW_of 724 (by decide +kernel) (by decide +kernel)
theorem zj_sio : Cond.fieldLink RJ0 1053 "jdk/internal/util/Preconditions" "SIOOBE_FORMATTER" "Ljava/util/function/BiFunction;" ∈ zW := zW_of 813 (by decide +kernel) (by decide +kernel)
theorem zj_sup : Cond.superclass RJ4 RJ5 ∈ zW := zW_of 744 (by decide +kernel) (by decide +kernel)
set_option maxRecDepth 100000 in
theorem c_J3_checkIndex_8e157 {ln : Launch} (htr : ln.stackTraces = false) {G : zG} {h : zH} {i n : Int} {v : Value} (hv : v.category = 1) (h1 : 0 ≤ i ∧ i < n) (h2 : n < 2147483648) : CT ln G yJ3_checkIndex_8e157 cJ3_checkIndex_8e157 3 (some .int) 1 ([vI i, vI n, v]) h 0 0 (fun r9 h9 => r9 = some (vI i) ∧ h9 = h) zNo := by
  refine CT.intro htr (by decide) (by simp [hv]; exact ⟨rfl, rfl⟩) (Nat.le_of_ble_eq_true rfl) ?_
  intro X hln hG hR hN C E
  subst hln
  subst hG
  refine Z.iload_n C dJ3_checkIndex_8e157_0 rfl ?_
  refine Z.if_lt (tgt := 9) C dJ3_checkIndex_8e157_1 (by decide) (by omega) (by omega) (fun c1 => ?_) (fun c1 => ?_)
  · exfalso; omega
  · refine Z.iload_n C dJ3_checkIndex_8e157_4 rfl ?_
    refine Z.iload_n C dJ3_checkIndex_8e157_5 rfl ?_
    refine Z.icmp_lt (tgt := 16) C dJ3_checkIndex_8e157_6 (by decide) (by omega) (by omega) (by omega) (by omega) (fun c6 => ?_) (fun c6 => ?_)
    · refine Z.iload_n C dJ3_checkIndex_8e157_16 rfl ?_
      exact Z.iret C E dJ3_checkIndex_8e157_17 (by decide) (by decide) ⟨rfl, rfl⟩
    · exfalso; omega

set_option maxRecDepth 100000 in
theorem c_J15_checkIndex_7cf53 {ln : Launch} (htr : ln.stackTraces = false) {G : zG} {h : zH} {i n : Int} (h1 : 0 ≤ i ∧ i < n) (h2 : n < 2147483648) : CT ln G yJ15_checkIndex_7cf53 cJ15_checkIndex_7cf53 2 (some .int) 2 ([vI i, vI n]) h 0 0 (fun r9 h9 => r9 = some (vI i) ∧ h9 = h) zNo := by
  refine CT.intro htr (by decide) rfl (Nat.le_of_ble_eq_true rfl) ?_
  intro X hln hG hR hN C E
  subst hln
  subst hG
  refine Z.iload_n C dJ15_checkIndex_7cf53_0 rfl ?_
  refine Z.iload_n C dJ15_checkIndex_7cf53_1 rfl ?_
  refine Z.null C dJ15_checkIndex_7cf53_2 ?_
  refine s_J15_105 C rfl dJ15_checkIndex_7cf53_3 (c_J3_checkIndex_8e157 htr rfl h1 h2) (by decide) (Nat.le_of_ble_eq_true rfl) (by rw [hR]; exact Nat.le_of_ble_eq_true rfl) (by rw [hR]; exact Nat.le_of_ble_eq_true rfl) (fun w3 h3 q3 => ?_) (fun _ _ q => q.elim)
  obtain ⟨rfl, q3⟩ := q3
  replace q3 := q3.symm
  subst q3
  exact Z.iret C E dJ15_checkIndex_7cf53_6 (by decide) (by decide) ⟨rfl, rfl⟩

set_option maxRecDepth 100000 in
theorem c_Jxa1e45_init_da8c8 {ln : Launch} (htr : ln.stackTraces = false) {G : zG} {h : zH} {b : Nat} : CT ln G yJxa1e45_init_da8c8 cJxa1e45_init_da8c8 1 none 1 ([.ref b]) h 0 0 (fun r9 h9 => r9 = none ∧ h9 = h) zNo := by
  refine CT.intro htr (by decide) rfl (Nat.le_of_ble_eq_true rfl) ?_
  intro X hln hG hR hN C E
  subst hln
  subst hG
  refine Z.aload_n C dJxa1e45_init_da8c8_0 rfl ?_
  refine o_Jxa1e45_1 C rfl dJxa1e45_init_da8c8_1 (by decide) (Nat.le_of_ble_eq_true rfl) ?_
  exact Z.vret C E dJxa1e45_init_da8c8_4 (by decide) (by decide) ⟨rfl, rfl⟩

set_option maxRecDepth 100000 in
theorem c_Jxc12de_init_da8c8 {ln : Launch} (htr : ln.stackTraces = false) {G : zG} {h : zH} {b : Nat} {x : Int} {e z : Value} (ho : h b = some (eO 1 [vI x, e, z])) : CT ln G yJxc12de_init_da8c8 cJxc12de_init_da8c8 1 none 2 ([.ref b]) h 0 0 (fun r9 h9 => r9 = none ∧ h9 = zput h b (eO 1 [vI 0, e, z])) zNo := by
  refine CT.intro htr (by decide) rfl (Nat.le_of_ble_eq_true rfl) ?_
  intro X hln hG hR hN C E
  subst hln
  subst hG
  refine Z.aload_n C dJxc12de_init_da8c8_0 rfl ?_
  refine i_Jxc12de_1 C rfl dJxc12de_init_da8c8_1 (c_Jxa1e45_init_da8c8 htr) (by decide) (Nat.le_of_ble_eq_true rfl) (by rw [hR]; exact Nat.le_of_ble_eq_true rfl) (by rw [hR]; exact Nat.le_of_ble_eq_true rfl) (fun w1 h1 q1 => ?_)
  obtain ⟨rfl, q1⟩ := q1
  replace q1 := q1.symm
  subst q1
  refine Z.aload_n C dJxc12de_init_da8c8_4 rfl ?_
  refine Z.iconst C dJxc12de_init_da8c8_5 ?_
  refine p_Jxc12de_7 (fs' := [vI 0, e, z]) C rfl  dJxc12de_init_da8c8_6  (ho) (Nat.le_of_ble_eq_true rfl) rfl ?_
  exact Z.vret C E dJxc12de_init_da8c8_9 (by decide) (by decide) ⟨rfl, rfl⟩

set_option maxRecDepth 100000 in
theorem c_Jx4a65c_init_da8c8 {ln : Launch} (htr : ln.stackTraces = false) {G : zG} {h : zH} {b : Nat} {x : Int} {e z : Value} (ho : h b = some (eO 1 [vI x, e, z])) : CT ln G yJx4a65c_init_da8c8 cJx4a65c_init_da8c8 1 none 3 ([.ref b]) h 0 0 (fun r9 h9 => r9 = none ∧ h9 = zput (zput h b (eO 1 [vI 0, e, z])) b (eO 1 [vI 0, .ref (G.2.2 5), z])) zNo := by
  refine CT.intro htr (by decide) rfl (Nat.le_of_ble_eq_true rfl) ?_
  intro X hln hG hR hN C E
  subst hln
  subst hG
  refine Z.aload_n C dJx4a65c_init_da8c8_0 rfl ?_
  refine i_Jx4a65c_1 C rfl dJx4a65c_init_da8c8_1 (c_Jxc12de_init_da8c8 htr ho) (by decide) (Nat.le_of_ble_eq_true rfl) (by rw [hR]; exact Nat.le_of_ble_eq_true rfl) (by rw [hR]; exact Nat.le_of_ble_eq_true rfl) (fun w1 h1 q1 => ?_)
  obtain ⟨rfl, rfl⟩ := q1
  refine Z.aload_n C dJx4a65c_init_da8c8_4 rfl ?_
  refine Z.emptyR C zj_def dJx4a65c_init_da8c8_5 ?_
  refine p_Jx4a65c_9 (fs' := [vI 0, .ref ((zG_of X).2.2 5), z]) C rfl  dJx4a65c_init_da8c8_8  (zput_same _ _ _) (Nat.le_of_ble_eq_true rfl) rfl ?_
  exact Z.vret C E dJx4a65c_init_da8c8_11 (by decide) (by decide) ⟨rfl, rfl⟩

set_option maxRecDepth 100000 in
theorem c_Jx4a65c_size_8abf5 {ln : Launch} (htr : ln.stackTraces = false) {G : zG} {h : zH} {b : Nat} {m e : Value} {n : Int} (ho : h b = some (eO 1 [m, e, vI n])) : CT ln G yJx4a65c_size_8abf5 cJx4a65c_size_8abf5 1 (some .int) 1 ([.ref b]) h 0 0 (fun r9 h9 => r9 = some (vI n) ∧ h9 = h) zNo := by
  refine CT.intro htr (by decide) rfl (Nat.le_of_ble_eq_true rfl) ?_
  intro X hln hG hR hN C E
  subst hln
  subst hG
  refine Z.aload_n C dJx4a65c_size_8abf5_0 rfl ?_
  refine g_Jx4a65c_48  C rfl dJx4a65c_size_8abf5_1 (ho) rfl ?_
  exact Z.iret C E dJx4a65c_size_8abf5_4 (by decide) (by decide) ⟨rfl, rfl⟩

set_option maxRecDepth 100000 in
theorem c_Jx4a65c_elementData_915e3 {ln : Launch} (htr : ln.stackTraces = false) {G : zG} {h : zH} {b el N v : Nat} {m z : Value} {i : Int} {f : Nat → Option Nat} (ho : h b = some (eO 1 [m, .ref el, z])) (he : h el = some (eR (G.2.1 3) N f)) (h1 : 0 ≤ i ∧ i < N) (hN2 : N < 2147483648) (hv : f i.toNat = some v) : CT ln G yJx4a65c_elementData_915e3 cJx4a65c_elementData_915e3 2 (some (.object "java/lang/Object")) 1 ([.ref b, vI i]) h 0 0 (fun r9 h9 => r9 = some (.ref v) ∧ h9 = h) zNo := by
  refine CT.intro htr (by decide) rfl (Nat.le_of_ble_eq_true rfl) ?_
  intro X hln hG hR hN C E
  subst hln
  subst hG
  refine Z.aload_n C dJx4a65c_elementData_915e3_0 rfl ?_
  refine g_Jx4a65c_9  C rfl dJx4a65c_elementData_915e3_1 (ho) rfl ?_
  refine Z.iload_n C dJx4a65c_elementData_915e3_4 rfl ?_
  refine Z.aaload C dJx4a65c_elementData_915e3_5 he h1.1 h1.2 hN2 hv ?_
  exact Z.aret C E (Or.inl ⟨_, rfl⟩) dJx4a65c_elementData_915e3_6 (by decide) (by decide) ⟨rfl, rfl⟩

set_option maxRecDepth 100000 in
theorem c_Jx4a65c_get_915e3 {ln : Launch} (htr : ln.stackTraces = false) {G : zG} {h : zH} {b el N v : Nat} {m : Value} {i n : Int} {f : Nat → Option Nat} (ho : h b = some (eO 1 [m, .ref el, vI n])) (he : h el = some (eR (G.2.1 3) N f)) (h1 : 0 ≤ i ∧ i < n) (hn : n ≤ N) (hN2 : N < 2147483648) (hv : f i.toNat = some v) : CT ln G yJx4a65c_get_915e3 cJx4a65c_get_915e3 2 (some (.object "java/lang/Object")) 3 ([.ref b, vI i]) h 0 0 (fun r9 h9 => r9 = some (.ref v) ∧ h9 = h) zNo := by
  refine CT.intro htr (by decide) rfl (Nat.le_of_ble_eq_true rfl) ?_
  intro X hln hG hR hN C E
  subst hln
  subst hG
  refine Z.iload_n C dJx4a65c_get_915e3_0 rfl ?_
  refine Z.aload_n C dJx4a65c_get_915e3_1 rfl ?_
  refine g_Jx4a65c_48  C rfl dJx4a65c_get_915e3_2 (ho) rfl ?_
  refine s_Jx4a65c_118 C rfl dJx4a65c_get_915e3_5 (c_J15_checkIndex_7cf53 htr h1 (by omega)) (by decide) (Nat.le_of_ble_eq_true rfl) (by rw [hR]; exact Nat.le_of_ble_eq_true rfl) (by rw [hR]; exact Nat.le_of_ble_eq_true rfl) (fun w5 h5 q5 => ?_) (fun _ _ q => q.elim)
  obtain ⟨rfl, q5⟩ := q5
  replace q5 := q5.symm
  subst q5
  refine Z.pop C dJx4a65c_get_915e3_8 rfl ?_
  refine Z.aload_n C dJx4a65c_get_915e3_9 rfl ?_
  refine Z.iload_n C dJx4a65c_get_915e3_10 rfl ?_
  refine v_Jx4a65c_123 C rfl dJx4a65c_get_915e3_11 (ho) (c_Jx4a65c_elementData_915e3 htr ho he ⟨h1.1, by omega⟩ hN2 hv) (by decide) (Nat.le_of_ble_eq_true rfl) (by rw [hR]; exact Nat.le_of_ble_eq_true rfl) (by rw [hR]; exact Nat.le_of_ble_eq_true rfl) (fun w11 h11 q11 => ?_) (fun _ _ q => q.elim)
  obtain ⟨rfl, q11⟩ := q11
  replace q11 := q11.symm
  subst q11
  exact Z.aret C E (Or.inl ⟨_, rfl⟩) dJx4a65c_get_915e3_14 (by decide) (by decide) ⟨rfl, rfl⟩

set_option maxRecDepth 100000 in
theorem c_J8_newLength_cabcc {ln : Launch} (htr : ln.stackTraces = false) {G : zG} {h : zH} {a b c : Int} (h1 : 0 ≤ a ∧ a < 100000) (h2 : 0 < b ∧ b < 100000) (h3 : 0 ≤ c ∧ c < 200000) : CT ln G yJ8_newLength_cabcc cJ8_newLength_cabcc 4 (some .int) 2 ([vI a, vI b, vI c]) h 0 0 (fun r9 h9 => r9 = some (vI (a + if b < c then c else b)) ∧ h9 = h) zNo := by
  refine CT.intro htr (by decide) rfl (Nat.le_of_ble_eq_true rfl) ?_
  intro X hln hG hR hN C E
  subst hln
  subst hG
  refine Z.iload_n C dJ8_newLength_cabcc_0 rfl ?_
  refine Z.iload_n C dJ8_newLength_cabcc_1 rfl ?_
  refine Z.iload_n C dJ8_newLength_cabcc_2 rfl ?_
  have hmx : 0 ≤ (if b < c then c else b) ∧ (if b < c then c else b) < 200000 ∧ 0 < (if b < c then c else b) := by split <;> omega
  refine Z.mmax C zj_max1 zj_maxs zj_mathi zj_maxc dJ8_newLength_cabcc_3 (by decide) (Nat.le_of_ble_eq_true rfl) (by rw [hR]; exact Nat.zero_le _) (by rw [hR]; exact Nat.zero_le _) (by omega) (by omega) (by omega) (by omega) ?_
  refine Z.iadd C dJ8_newLength_cabcc_6 ?_
  refine Z.istore_n (l' := [_, _, _, _]) C dJ8_newLength_cabcc_7 (Nat.le_of_ble_eq_true rfl) (by rw [hN]; decide) rfl ?_
  refine Z.iconst C dJ8_newLength_cabcc_8 ?_
  refine Z.iload_n C dJ8_newLength_cabcc_9 rfl ?_
  refine Z.icmp_ge (tgt := 21) C dJ8_newLength_cabcc_10 (by decide) (by omega) (by omega) (by omega) (by omega) (fun c10 => ?_) (fun c10 => ?_)
  · exfalso; omega
  · refine Z.iload_n C dJ8_newLength_cabcc_13 rfl ?_
    refine Z.ldcI (v := 2147483639) C zj_c200 dJ8_newLength_cabcc_14 ?_
    refine Z.icmp_gt (tgt := 21) C dJ8_newLength_cabcc_16 (by decide) (by omega) (by omega) (by omega) (by omega) (fun c16 => ?_) (fun c16 => ?_)
    · exfalso; omega
    · refine Z.iload_n C dJ8_newLength_cabcc_19 rfl ?_
      exact Z.iret C E dJ8_newLength_cabcc_20 (by decide) (by decide) ⟨rfl, rfl⟩

/-- a copy of an array of references, made longer -/
theorem va_cpy_lo {α : Type} {f g : Nat → α} {n j : Nat} (h : j < n) : va_cpy f g 0 0 n j = f j := by
  unfold va_cpy
  rw [if_pos (by omega)]
  congr 1
  omega

set_option maxRecDepth 100000 in
theorem c_J7_copyOf_6403c {ln : Launch} (htr : ln.stackTraces = false) {G : zG} {h : zH} {a0 n0 n1 ci : Nat} {r : vw_C} {f : Nat → Option Nat} (hc : vwCl[ci]? = some r) (hcast : (r.1, "java/lang/Object") ∈ zCasts) (h0 : h a0 = some (eR (G.2.1 3) n0 f)) (h1 : n0 ≤ n1) (h2 : n1 ≤ 480) (hel : ∀ (j y : Nat), j < n0 → f j = some y → ∃ fs, h y = some (eO ci fs)) : CT ln G yJ7_copyOf_6403c cJ7_copyOf_6403c 4 (some (.array (.object "java/lang/Object"))) 3 ([.ref a0, vI (n1 : Int), .ref (G.2.2 6)]) h 1 480 (fun r9 h9 => ∃ a1, h a1 = none ∧ r9 = some (.ref a1) ∧ h9 = zput (zput h a1 (eR (G.2.1 3) n1 (fun _ => none))) a1 (eR (G.2.1 3) n1 (va_cpy f (fun _ => none) 0 0 n0))) zNo := by
  refine CT.intro htr (by decide) rfl (Nat.le_of_ble_eq_true rfl) ?_
  intro X hln hG hR hN C E
  subst hln
  subst hG
  refine Z.aload_n C dJ7_copyOf_6403c_0 rfl ?_
  refine Z.ldcM C zj_110 dJ7_copyOf_6403c_1 ?_
  refine Z.acmp_ne (tgt := 13) C dJ7_copyOf_6403c_3 (by decide) (fun c3 => ?_) (fun c3 => ?_)
  · exact absurd rfl c3
  · refine Z.iload_n C dJ7_copyOf_6403c_6 rfl ?_
    refine Z.newR (N := n1) C zj_2 dJ7_copyOf_6403c_7 rfl (by omega) (by rw [hR]; exact Nat.le_of_ble_eq_true rfl) (by rw [hR]; show 0 + n1 ≤ 480; omega) (fun a1 na => ?_)
    refine Z.widen (k' := 1) (n' := 480) (by decide) (by omega) ?_
    refine Z.goto (tgt := 24) C dJ7_copyOf_6403c_10 (by decide) ?_
    refine Z.astore_n (l' := [_, _, _, _]) C dJ7_copyOf_6403c_24 (Nat.le_of_ble_eq_true rfl) (by rw [hN]; decide) rfl ?_
    refine Z.aload_n C dJ7_copyOf_6403c_25 rfl ?_
    refine Z.iconst C dJ7_copyOf_6403c_26 ?_
    refine Z.aload_n C dJ7_copyOf_6403c_27 rfl ?_
    refine Z.iconst C dJ7_copyOf_6403c_28 ?_
    refine Z.aload_n C dJ7_copyOf_6403c_29 rfl ?_
    refine Z.alenR C dJ7_copyOf_6403c_30 (zput_ne' h _ na h0) ?_
    refine Z.iload_n C dJ7_copyOf_6403c_31 rfl ?_
    refine Z.mmin C zj_min1 zj_mins zj_mathi zj_minc dJ7_copyOf_6403c_32 (by decide) (Nat.le_of_ble_eq_true rfl) (by rw [hR]; exact Nat.le_refl _) (by rw [hR]; exact Nat.le_refl _) (by omega) (by omega) (by omega) (by omega) ?_
    rw [if_neg (by omega)]
    refine Z.copyR (ci := ci) (r := r) C zj_acl zj_acn zj_acs zj_sysi hc hcast dJ7_copyOf_6403c_35 (zput_ne' h _ na h0) (zput_same _ _ _) (by omega) (by omega) (by omega) (by omega) (by omega) (by omega) (by omega) (fun j y hj hy => by obtain ⟨fs, hfs⟩ := hel j y (by omega) hy; exact ⟨fs, zput_ne' h _ na hfs⟩) (by decide) (Nat.le_of_ble_eq_true rfl) ?_
    refine Z.aload_n C dJ7_copyOf_6403c_38 rfl ?_
    exact Z.aret C E (Or.inr ⟨_, rfl⟩) dJ7_copyOf_6403c_39 (by decide) (by decide) ⟨a1, na, rfl, rfl⟩

set_option maxRecDepth 100000 in
theorem c_J7_copyOf_1904c {ln : Launch} (htr : ln.stackTraces = false) {G : zG} {h : zH} {a0 n0 n1 ci : Nat} {r : vw_C} {f : Nat → Option Nat} (hc : vwCl[ci]? = some r) (hcast : (r.1, "java/lang/Object") ∈ zCasts) (h0 : h a0 = some (eR (G.2.1 3) n0 f)) (h1 : n0 ≤ n1) (h2 : n1 ≤ 480) (hel : ∀ (j y : Nat), j < n0 → f j = some y → ∃ fs, h y = some (eO ci fs)) : CT ln G yJ7_copyOf_1904c cJ7_copyOf_1904c 2 (some (.array (.object "java/lang/Object"))) 4 ([.ref a0, vI (n1 : Int)]) h 1 480 (fun r9 h9 => ∃ a1, h a1 = none ∧ r9 = some (.ref a1) ∧ h9 = zput (zput h a1 (eR (G.2.1 3) n1 (fun _ => none))) a1 (eR (G.2.1 3) n1 (va_cpy f (fun _ => none) 0 0 n0))) zNo := by
  refine CT.intro htr (by decide) rfl (Nat.le_of_ble_eq_true rfl) ?_
  intro X hln hG hR hN C E
  subst hln
  subst hG
  refine Z.aload_n C dJ7_copyOf_1904c_0 rfl ?_
  refine Z.iload_n C dJ7_copyOf_1904c_1 rfl ?_
  refine Z.aload_n C dJ7_copyOf_1904c_2 rfl ?_
  refine Z.getC C zj_gcl zj_gcs zj_gci zj_gcn dJ7_copyOf_1904c_3 h0 (by decide) (Nat.le_of_ble_eq_true rfl) ?_
  refine s_J7_300 C rfl dJ7_copyOf_1904c_6 (c_J7_copyOf_6403c htr hc hcast h0 h1 h2 hel) (by decide) (Nat.le_of_ble_eq_true rfl) (by rw [hR]; exact Nat.le_of_ble_eq_true rfl) (by rw [hR]; exact Nat.le_of_ble_eq_true rfl) (fun w6 h6 q6 => ?_) (fun _ _ q => q.elim)
  obtain ⟨a1, na, rfl, rfl⟩ := q6
  exact Z.aret C E (Or.inr ⟨_, rfl⟩) dJ7_copyOf_1904c_9 (by decide) (by decide) ⟨a1, na, rfl, rfl⟩

