/-! StringBuilder -/
theorem jI_shr0 (x : Int) : jI x >>> (jI 0 &&& 31) = jI x := by
  have h : jI 0 &&& 31 = 0 := by decide +kernel
  rw [h]; simp
theorem jI_shl0 (x : Int) : jI x <<< (jI 0 &&& 31) = jI x := by
  have h : jI 0 &&& 31 = 0 := by decide +kernel
  rw [h]; simp
theorem jI_and255 {x : Int} (h1 : 0 ≤ x ∧ x < 128) : jI x &&& jI 255 = jI x := by
  have h : ∀ N : Fin 128, jI ((N.1 : Nat) : Int) &&& jI 255 = jI ((N.1 : Nat) : Int) := by decide +kernel
  have := h ⟨x.toNat, by omega⟩
  rw [show ((x.toNat : Nat) : Int) = x by omega] at this
  exact this
theorem jI_byte {x : Int} (h1 : 0 ≤ x ∧ x < 128) : (jI x).toInt8.toInt32 = jI x := by
  have h : ∀ N : Fin 128, (jI ((N.1 : Nat) : Int)).toInt8.toInt32 = jI ((N.1 : Nat) : Int) := by decide +kernel
  have := h ⟨x.toNat, by omega⟩
  rw [show ((x.toNat : Nat) : Int) = x by omega] at this
  exact this
theorem vI_narrowB {x : Int} (h1 : 0 ≤ x ∧ x < 128) : narrow .byte (.int (jI x)) = .int (jI x) ∧ fits .byte (vI x) = true ∧ narrow .char (vI x) = vI x := by
  have h : ∀ N : Fin 128, narrow .byte (.int (jI ((N.1 : Nat) : Int))) = .int (jI ((N.1 : Nat) : Int)) ∧ fits .byte (vI ((N.1 : Nat) : Int)) = true ∧ narrow .char (vI ((N.1 : Nat) : Int)) = vI ((N.1 : Nat) : Int) := by decide +kernel
  have := h ⟨x.toNat, by omega⟩
  rw [show ((x.toNat : Nat) : Int) = x by omega] at this
  exact this
def sbN (c : Nat) : Nat := if c ≤ 16 then 16 else if c ≤ 34 then 34 else if c ≤ 70 then 70 else if c ≤ 142 then 142 else if c ≤ 286 then 286 else if c ≤ 574 then 574 else 1150
def sbK (c : Nat) : Nat := if c ≤ 16 then 0 else if c ≤ 34 then 1 else if c ≤ 70 then 2 else if c ≤ 142 then 3 else if c ≤ 286 then 4 else if c ≤ 574 then 5 else 6
def sbS (c : Nat) : Nat := if c ≤ 16 then 0 else if c ≤ 34 then 34 else if c ≤ 70 then 104 else if c ≤ 142 then 246 else if c ≤ 286 then 532 else if c ≤ 574 then 1106 else 2256
theorem sb_cases (c : Nat) : (c ≤ 16 ∧ sbN c = 16 ∧ sbK c = 0 ∧ sbS c = 0) ∨ (16 < c ∧ c ≤ 34 ∧ sbN c = 34 ∧ sbK c = 1 ∧ sbS c = 34) ∨ (34 < c ∧ c ≤ 70 ∧ sbN c = 70 ∧ sbK c = 2 ∧ sbS c = 104) ∨ (70 < c ∧ c ≤ 142 ∧ sbN c = 142 ∧ sbK c = 3 ∧ sbS c = 246) ∨ (142 < c ∧ c ≤ 286 ∧ sbN c = 286 ∧ sbK c = 4 ∧ sbS c = 532) ∨ (286 < c ∧ c ≤ 574 ∧ sbN c = 574 ∧ sbK c = 5 ∧ sbS c = 1106) ∨ (574 < c ∧ sbN c = 1150 ∧ sbK c = 6 ∧ sbS c = 2256) := by
  unfold sbN sbK sbS
  (repeat' split) <;> omega
theorem l_le {c : Nat} (h : c ≤ 1100) : c ≤ sbN c ∧ sbN c ≤ 1150 := by have := sb_cases c; omega
theorem l_mono {a b : Nat} (h : a ≤ b) : sbK a ≤ sbK b ∧ sbS a ≤ sbS b := by have := sb_cases a; have := sb_cases b; omega
theorem l_top (c : Nat) : sbK c ≤ 6 ∧ sbS c ≤ 2256 := by have := sb_cases c; omega
theorem l_room {c : Nat} (h : c < sbN c) : sbN (c + 1) = sbN c ∧ sbK (c + 1) = sbK c ∧ sbS (c + 1) = sbS c := by have := sb_cases c; have := sb_cases (c + 1); omega
theorem l_full {c : Nat} (h : c = sbN c) (hc : c ≤ 1000) : sbN (c + 1) = c + (c + 2) ∧ sbK (c + 1) = sbK c + 1 ∧ sbS (c + 1) = sbS c + (c + (c + 2)) := by have := sb_cases c; have := sb_cases (c + 1); omega
def SB (G : zG) (h : zH) (b v c : Nat) (g : Nat → Int) : Prop := v ≠ b ∧ ∃ f : Nat → Int, h b = some (eO 0 [.ref v, vI 0, vI 0, vI (c : Int)]) ∧ h v = some (eI (G.2.1 2) (sbN c) f) ∧ (∀ j, 0 ≤ f j ∧ f j < 128) ∧ ∀ j, j < c → f j = g j
def SE (G : zG) (h h9 : zH) (b v c : Nat) (g : Nat → Int) : Prop := ∃ v', (v' ≠ b ∧ ∃ f : Nat → Int, h9 b = some (eO 0 [.ref v', vI 0, vI 0, vI (c : Int)]) ∧ h9 v' = some (eI (G.2.1 2) (sbN (c + 1)) f) ∧ (∀ j, 0 ≤ f j ∧ f j < 128) ∧ ∀ j, j < c → f j = g j) ∧ (h v' = none ∨ v' = v) ∧ ∀ q, q ≠ b → q ≠ v → h q ≠ none → h9 q = h q
def SP (G : zG) (h h9 : zH) (b v c : Nat) (g : Nat → Int) : Prop := ∃ v', SB G h9 b v' c g ∧ (h v' = none ∨ v' = v) ∧ ∀ q, q ≠ b → q ≠ v → h q ≠ none → h9 q = h q

theorem zs_ini : Cond.initialized "java/lang/AbstractStringBuilder" ∈ zW := zW_of 50 (by decide +kernel) (by decide +kernel)
theorem zs_lk_J5_83 : Cond.methodLink RJ5 83 yJ5_isLatin1_aae02 ∈ zW := zW_of 786 (by decide +kernel) (by decide +kernel)
theorem zs_inst_yJ5_isLatin1_aae02 : Cond.instanceMethod yJ5_isLatin1_aae02 ∈ zW := zW_of 787 (by decide +kernel) (by decide +kernel)
theorem zs_same_yJ5_isLatin1_aae02 : Cond.sameMethod "java/lang/AbstractStringBuilder" "java/lang/AbstractStringBuilder" "isLatin1" "()Z" ∈ zW := zW_of 788 (by decide +kernel) (by decide +kernel)
theorem zs_code_yJ5_isLatin1_aae02 : Cond.code yJ5_isLatin1_aae02 cJ5_isLatin1_aae02 1 (some .boolean) ∈ zW := zW_of 790 (by decide +kernel) (by decide +kernel)
theorem zs_sel_yJ5_isLatin1_aae02 : Cond.selects "java/lang/StringBuilder" yJ5_isLatin1_aae02 yJ5_isLatin1_aae02 ∈ zW := zW_of 789 (by decide +kernel) (by decide +kernel)
theorem u_J5_83 {X : zX} {cc : ByteArray} {y : MethodName} {d pc k n : Nat} {l st : List Value} {h : zH} (C : ZC X cc y d) {d2 mc ms : Nat} {Qf : Option Value → zH → Prop} {fs : List Value} {b : Nat} (hy : y.cls = RJ5) (hd : decode cc pc = .ok (.invokevirtual 83, 3)) (ho : h b = some (eO 0 fs)) (hct : CT (zLn X) (zG_of X) yJ5_isLatin1_aae02 cJ5_isLatin1_aae02 1 (some .boolean) d2 (.ref b :: []) h mc ms Qf zNo) (hd2 : d2 + 1 ≤ d) (hcat : (st.map fun v => v.category).sum ≤ 8) (hmc : k + mc ≤ (zR_of X).cells) (hms : n + ms ≤ (zR_of X).slots) (kk : ∀ (v : Option Value) (h' : zH), Qf v h' → Z X (pc + 3) l (v.toList ++ st) h' (k + mc) (n + ms)) : Z X pc l (.ref b :: st) h k n := Z.callU (as := []) (T := TJ4) (N := 4) (ci := 0) (CN := RJ4) C (by rw [hy]; exact zs_lk_J5_83) zs_ini zs_code_yJ5_isLatin1_aae02 (by decide) (show (parseMethodDescriptor yJ5_isLatin1_aae02.desc).map (fun d => d.parameters.length) = some 0 from by decide +kernel) (by decide) rfl zs_same_yJ5_isLatin1_aae02 (Or.inl zs_sel_yJ5_isLatin1_aae02) zs_inst_yJ5_isLatin1_aae02 hd ho hct rfl hd2 hcat hmc hms kk
theorem zs_lk_J5_100 : Cond.methodLink RJ5 100 yJ5_ensureCapacityInternal_d00df ∈ zW := zW_of 766 (by decide +kernel) (by decide +kernel)
theorem zs_inst_yJ5_ensureCapacityInternal_d00df : Cond.instanceMethod yJ5_ensureCapacityInternal_d00df ∈ zW := zW_of 768 (by decide +kernel) (by decide +kernel)
theorem zs_same_yJ5_ensureCapacityInternal_d00df : Cond.sameMethod "java/lang/AbstractStringBuilder" "java/lang/AbstractStringBuilder" "ensureCapacityInternal" "(I)V" ∈ zW := zW_of 865 (by decide +kernel) (by decide +kernel)
theorem zs_code_yJ5_ensureCapacityInternal_d00df : Cond.code yJ5_ensureCapacityInternal_d00df cJ5_ensureCapacityInternal_d00df 3 none ∈ zW := zW_of 769 (by decide +kernel) (by decide +kernel)
theorem u_J5_100 {X : zX} {cc : ByteArray} {y : MethodName} {d pc k n : Nat} {l st : List Value} {h : zH} (C : ZC X cc y d) {d2 mc ms : Nat} {Qf : Option Value → zH → Prop} {a0 : Value} {fs : List Value} {b : Nat} (hy : y.cls = RJ5) (hd : decode cc pc = .ok (.invokevirtual 100, 3)) (ho : h b = some (eO 0 fs)) (hct : CT (zLn X) (zG_of X) yJ5_ensureCapacityInternal_d00df cJ5_ensureCapacityInternal_d00df 3 none d2 (.ref b :: [a0]) h mc ms Qf zNo) (hd2 : d2 + 1 ≤ d) (hcat : (st.map fun v => v.category).sum ≤ 8) (hmc : k + mc ≤ (zR_of X).cells) (hms : n + ms ≤ (zR_of X).slots) (kk : ∀ (v : Option Value) (h' : zH), Qf v h' → Z X (pc + 3) l (v.toList ++ st) h' (k + mc) (n + ms)) : Z X pc l (a0 :: .ref b :: st) h k n := Z.callU (as := [a0]) (T := TJ4) (N := 4) (ci := 0) (CN := RJ4) C (by rw [hy]; exact zs_lk_J5_100) zs_ini zs_code_yJ5_ensureCapacityInternal_d00df (by decide) (show (parseMethodDescriptor yJ5_ensureCapacityInternal_d00df.desc).map (fun d => d.parameters.length) = some 1 from by decide +kernel) (by decide) rfl zs_same_yJ5_ensureCapacityInternal_d00df (Or.inr ⟨rfl, by decide +kernel⟩) zs_inst_yJ5_ensureCapacityInternal_d00df hd ho hct rfl hd2 hcat hmc hms kk
theorem zs_lk_J5_104 : Cond.methodLink RJ5 104 yJ5_newCapacity_0f7a4 ∈ zW := zW_of 770 (by decide +kernel) (by decide +kernel)
theorem zs_inst_yJ5_newCapacity_0f7a4 : Cond.instanceMethod yJ5_newCapacity_0f7a4 ∈ zW := zW_of 772 (by decide +kernel) (by decide +kernel)
theorem zs_same_yJ5_newCapacity_0f7a4 : Cond.sameMethod "java/lang/AbstractStringBuilder" "java/lang/AbstractStringBuilder" "newCapacity" "(I)I" ∈ zW := zW_of 866 (by decide +kernel) (by decide +kernel)
theorem zs_code_yJ5_newCapacity_0f7a4 : Cond.code yJ5_newCapacity_0f7a4 cJ5_newCapacity_0f7a4 6 (some .int) ∈ zW := zW_of 773 (by decide +kernel) (by decide +kernel)
theorem u_J5_104 {X : zX} {cc : ByteArray} {y : MethodName} {d pc k n : Nat} {l st : List Value} {h : zH} (C : ZC X cc y d) {d2 mc ms : Nat} {Qf : Option Value → zH → Prop} {a0 : Value} {fs : List Value} {b : Nat} (hy : y.cls = RJ5) (hd : decode cc pc = .ok (.invokevirtual 104, 3)) (ho : h b = some (eO 0 fs)) (hct : CT (zLn X) (zG_of X) yJ5_newCapacity_0f7a4 cJ5_newCapacity_0f7a4 6 (some .int) d2 (.ref b :: [a0]) h mc ms Qf zNo) (hd2 : d2 + 1 ≤ d) (hcat : (st.map fun v => v.category).sum ≤ 8) (hmc : k + mc ≤ (zR_of X).cells) (hms : n + ms ≤ (zR_of X).slots) (kk : ∀ (v : Option Value) (h' : zH), Qf v h' → Z X (pc + 3) l (v.toList ++ st) h' (k + mc) (n + ms)) : Z X pc l (a0 :: .ref b :: st) h k n := Z.callU (as := [a0]) (T := TJ4) (N := 4) (ci := 0) (CN := RJ4) C (by rw [hy]; exact zs_lk_J5_104) zs_ini zs_code_yJ5_newCapacity_0f7a4 (by decide) (show (parseMethodDescriptor yJ5_newCapacity_0f7a4.desc).map (fun d => d.parameters.length) = some 1 from by decide +kernel) (by decide) rfl zs_same_yJ5_newCapacity_0f7a4 (Or.inr ⟨rfl, by decide +kernel⟩) zs_inst_yJ5_newCapacity_0f7a4 hd ho hct rfl hd2 hcat hmc hms kk
theorem zs_lk_J4_50 : Cond.methodLink RJ4 50 yJ5_append_3fe6f ∈ zW := zW_of 763 (by decide +kernel) (by decide +kernel)
theorem zs_inst_yJ5_append_3fe6f : Cond.instanceMethod yJ5_append_3fe6f ∈ zW := zW_of 764 (by decide +kernel) (by decide +kernel)
theorem zs_same_yJ5_append_3fe6f : Cond.sameMethod "java/lang/AbstractStringBuilder" "java/lang/AbstractStringBuilder" "append" "(C)Ljava/lang/AbstractStringBuilder;" ∈ zW := zW_of 864 (by decide +kernel) (by decide +kernel)
theorem zs_code_yJ5_append_3fe6f : Cond.code yJ5_append_3fe6f cJ5_append_3fe6f 2 (some (.object "java/lang/AbstractStringBuilder")) ∈ zW := zW_of 765 (by decide +kernel) (by decide +kernel)
theorem q_J4_50 {X : zX} {cc : ByteArray} {y : MethodName} {d pc k n : Nat} {l st : List Value} {h : zH} (C : ZC X cc y d) {d2 mc ms : Nat} {Qf : Option Value → zH → Prop} {a0 : Value} {fs : List Value} {b : Nat} (hy : y.cls = RJ4) (hd : decode cc pc = .ok (.invokespecial 50, 3)) (ho : h b = some (eO 0 fs)) (hct : CT (zLn X) (zG_of X) yJ5_append_3fe6f cJ5_append_3fe6f 2 (some (.object "java/lang/AbstractStringBuilder")) d2 (.ref b :: [a0]) h mc ms Qf zNo) (hd2 : d2 + 1 ≤ d) (hcat : (st.map fun v => v.category).sum ≤ 8) (hmc : k + mc ≤ (zR_of X).cells) (hms : n + ms ≤ (zR_of X).slots) (kk : ∀ (v : Option Value) (h' : zH), Qf v h' → Z X (pc + 3) l (v.toList ++ st) h' (k + mc) (n + ms)) : Z X pc l (a0 :: .ref b :: st) h k n := Z.callP (as := [a0]) (T := TJ4) (N := 4) (ci := 0) (CN := RJ4) C (by rw [hy]; exact zs_lk_J4_50) zs_ini zs_code_yJ5_append_3fe6f (by decide) (show (parseMethodDescriptor yJ5_append_3fe6f.desc).map (fun d => d.parameters.length) = some 1 from by decide +kernel) (by decide) rfl zs_same_yJ5_append_3fe6f (by rw [hy]; exact zj_sup) zs_inst_yJ5_append_3fe6f (by decide) hd ho hct rfl hd2 hcat hmc hms kk
theorem zs_lk_J4_329 : Cond.methodLink RJ4 329 yJ5_charAt_5068e ∈ zW := zW_of 841 (by decide +kernel) (by decide +kernel)
theorem zs_inst_yJ5_charAt_5068e : Cond.instanceMethod yJ5_charAt_5068e ∈ zW := zW_of 842 (by decide +kernel) (by decide +kernel)
theorem zs_same_yJ5_charAt_5068e : Cond.sameMethod "java/lang/AbstractStringBuilder" "java/lang/AbstractStringBuilder" "charAt" "(I)C" ∈ zW := zW_of 868 (by decide +kernel) (by decide +kernel)
theorem zs_code_yJ5_charAt_5068e : Cond.code yJ5_charAt_5068e cJ5_charAt_5068e 5 (some .char) ∈ zW := zW_of 843 (by decide +kernel) (by decide +kernel)
theorem q_J4_329 {X : zX} {cc : ByteArray} {y : MethodName} {d pc k n : Nat} {l st : List Value} {h : zH} (C : ZC X cc y d) {d2 mc ms : Nat} {Qf : Option Value → zH → Prop} {a0 : Value} {fs : List Value} {b : Nat} (hy : y.cls = RJ4) (hd : decode cc pc = .ok (.invokespecial 329, 3)) (ho : h b = some (eO 0 fs)) (hct : CT (zLn X) (zG_of X) yJ5_charAt_5068e cJ5_charAt_5068e 5 (some .char) d2 (.ref b :: [a0]) h mc ms Qf zNo) (hd2 : d2 + 1 ≤ d) (hcat : (st.map fun v => v.category).sum ≤ 8) (hmc : k + mc ≤ (zR_of X).cells) (hms : n + ms ≤ (zR_of X).slots) (kk : ∀ (v : Option Value) (h' : zH), Qf v h' → Z X (pc + 3) l (v.toList ++ st) h' (k + mc) (n + ms)) : Z X pc l (a0 :: .ref b :: st) h k n := Z.callP (as := [a0]) (T := TJ4) (N := 4) (ci := 0) (CN := RJ4) C (by rw [hy]; exact zs_lk_J4_329) zs_ini zs_code_yJ5_charAt_5068e (by decide) (show (parseMethodDescriptor yJ5_charAt_5068e.desc).map (fun d => d.parameters.length) = some 1 from by decide +kernel) (by decide) rfl zs_same_yJ5_charAt_5068e (by rw [hy]; exact zj_sup) zs_inst_yJ5_charAt_5068e (by decide) hd ho hct rfl hd2 hcat hmc hms kk
theorem zs_lk_J4_343 : Cond.methodLink RJ4 343 yJ5_length_8abf5 ∈ zW := zW_of 749 (by decide +kernel) (by decide +kernel)
theorem zs_inst_yJ5_length_8abf5 : Cond.instanceMethod yJ5_length_8abf5 ∈ zW := zW_of 750 (by decide +kernel) (by decide +kernel)
theorem zs_same_yJ5_length_8abf5 : Cond.sameMethod "java/lang/AbstractStringBuilder" "java/lang/AbstractStringBuilder" "length" "()I" ∈ zW := zW_of 863 (by decide +kernel) (by decide +kernel)
theorem zs_code_yJ5_length_8abf5 : Cond.code yJ5_length_8abf5 cJ5_length_8abf5 1 (some .int) ∈ zW := zW_of 751 (by decide +kernel) (by decide +kernel)
theorem q_J4_343 {X : zX} {cc : ByteArray} {y : MethodName} {d pc k n : Nat} {l st : List Value} {h : zH} (C : ZC X cc y d) {d2 mc ms : Nat} {Qf : Option Value → zH → Prop} {fs : List Value} {b : Nat} (hy : y.cls = RJ4) (hd : decode cc pc = .ok (.invokespecial 343, 3)) (ho : h b = some (eO 0 fs)) (hct : CT (zLn X) (zG_of X) yJ5_length_8abf5 cJ5_length_8abf5 1 (some .int) d2 (.ref b :: []) h mc ms Qf zNo) (hd2 : d2 + 1 ≤ d) (hcat : (st.map fun v => v.category).sum ≤ 8) (hmc : k + mc ≤ (zR_of X).cells) (hms : n + ms ≤ (zR_of X).slots) (kk : ∀ (v : Option Value) (h' : zH), Qf v h' → Z X (pc + 3) l (v.toList ++ st) h' (k + mc) (n + ms)) : Z X pc l (.ref b :: st) h k n := Z.callP (as := []) (T := TJ4) (N := 4) (ci := 0) (CN := RJ4) C (by rw [hy]; exact zs_lk_J4_343) zs_ini zs_code_yJ5_length_8abf5 (by decide) (show (parseMethodDescriptor yJ5_length_8abf5.desc).map (fun d => d.parameters.length) = some 0 from by decide +kernel) (by decide) rfl zs_same_yJ5_length_8abf5 (by rw [hy]; exact zj_sup) zs_inst_yJ5_length_8abf5 (by decide) hd ho hct rfl hd2 hcat hmc hms kk
set_option maxRecDepth 100000 in
theorem c_J5_isLatin1_aae02 {ln : Launch} (htr : ln.stackTraces = false) {G : zG} {h : zH} {b : Nat} {v z : Value} (ho : h b = some (eO 0 [v, vI 0, vI 0, z])) : CT ln G yJ5_isLatin1_aae02 cJ5_isLatin1_aae02 1 (some .boolean) 1 ([.ref b]) h 0 0 (fun r9 h9 => r9 = some (vI 1) ∧ h9 = h) zNo := by
  refine CT.intro htr (by decide) rfl (Nat.le_of_ble_eq_true rfl) ?_
  intro X hln hG hR hN C E
  subst hln
  subst hG
  refine Z.compact C zj_comp dJ5_isLatin1_aae02_0 ?_
  refine Z.if_eq (tgt := 17) C dJ5_isLatin1_aae02_3 (by decide) (by omega) (by omega) (fun c3 => ?_) (fun c3 => ?_)
  · exfalso; omega
  · refine Z.aload_n C dJ5_isLatin1_aae02_6 rfl ?_
    refine g_J5_22  C rfl dJ5_isLatin1_aae02_7 (ho) rfl ?_
    refine Z.if_ne (tgt := 17) C dJ5_isLatin1_aae02_10 (by decide) (by omega) (by omega) (fun c10 => ?_) (fun c10 => ?_)
    · exfalso; omega
    · refine Z.iconst C dJ5_isLatin1_aae02_13 ?_
      refine Z.goto (tgt := 18) C dJ5_isLatin1_aae02_14 (by decide) ?_
      exact Z.zret C E dJ5_isLatin1_aae02_18 rfl (by decide) (by decide) ⟨rfl, rfl⟩

set_option maxRecDepth 100000 in
theorem c_J1_canEncode_fc78d {ln : Launch} (htr : ln.stackTraces = false) {G : zG} {h : zH} {x : Int} (h1 : 0 ≤ x ∧ x < 128) : CT ln G yJ1_canEncode_fc78d cJ1_canEncode_fc78d 1 (some .boolean) 1 ([vI x]) h 0 0 (fun r9 h9 => r9 = some (vI 1) ∧ h9 = h) zNo := by
  refine CT.intro htr (by decide) rfl (Nat.le_of_ble_eq_true rfl) ?_
  intro X hln hG hR hN C E
  subst hln
  subst hG
  refine Z.iload_n C dJ1_canEncode_fc78d_0 rfl ?_
  refine Z.sipush C dJ1_canEncode_fc78d_1 (by decide) ?_
  refine Z.icmp_gt (tgt := 11) C dJ1_canEncode_fc78d_4 (by decide) (by omega) (by omega) (by omega) (by omega) (fun c4 => ?_) (fun c4 => ?_)
  · exfalso; omega
  · refine Z.iconst C dJ1_canEncode_fc78d_7 ?_
    refine Z.goto (tgt := 12) C dJ1_canEncode_fc78d_8 (by decide) ?_
    exact Z.zret C E dJ1_canEncode_fc78d_12 rfl (by decide) (by decide) ⟨rfl, rfl⟩

set_option maxRecDepth 100000 in
theorem c_J0_checkIndex_df160 {ln : Launch} (htr : ln.stackTraces = false) {G : zG} {h : zH} {i n : Int} (h1 : 0 ≤ i ∧ i < n) (h2 : n < 2147483648) : CT ln G yJ0_checkIndex_df160 cJ0_checkIndex_df160 2 none 2 ([vI i, vI n]) h 0 0 (fun r9 h9 => r9 = none ∧ h9 = h) zNo := by
  refine CT.intro htr (by decide) rfl (Nat.le_of_ble_eq_true rfl) ?_
  intro X hln hG hR hN C E
  subst hln
  subst hG
  refine Z.iload_n C dJ0_checkIndex_df160_0 rfl ?_
  refine Z.iload_n C dJ0_checkIndex_df160_1 rfl ?_
  refine Z.siobe C zj_sio dJ0_checkIndex_df160_2 (fun v hv => ?_)
  refine s_J0_1059 C rfl dJ0_checkIndex_df160_5 (c_J3_checkIndex_8e157 htr hv h1 h2) (by decide) (Nat.le_of_ble_eq_true rfl) (by rw [hR]; exact Nat.le_of_ble_eq_true rfl) (by rw [hR]; exact Nat.le_of_ble_eq_true rfl) (fun w5 h5 q5 => ?_) (fun _ _ q => q.elim)
  obtain ⟨rfl, q5⟩ := q5
  replace q5 := q5.symm
  subst q5
  refine Z.pop C dJ0_checkIndex_df160_8 rfl ?_
  exact Z.vret C E dJ0_checkIndex_df160_9 (by decide) (by decide) ⟨rfl, rfl⟩

set_option maxRecDepth 100000 in
theorem c_J5_newCapacity_0f7a4 {ln : Launch} (htr : ln.stackTraces = false) {G : zG} {h : zH} {b v N : Nat} {z : Value} {f : Nat → Int} (ho : h b = some (eO 0 [.ref v, vI 0, vI 0, z])) (hv : h v = some (eI (G.2.1 2) N f)) (hN9 : N ≤ 1150) : CT ln G yJ5_newCapacity_0f7a4 cJ5_newCapacity_0f7a4 6 (some .int) 3 ([.ref b, vI ((N : Int) + 1)]) h 0 0 (fun r9 h9 => r9 = some (vI ((N + (N + 2) : Nat) : Int)) ∧ h9 = h) zNo := by
  refine CT.intro htr (by decide) rfl (Nat.le_of_ble_eq_true rfl) ?_
  intro X hln hG hR hN C E
  subst hln
  subst hG
  refine Z.aload_n C dJ5_newCapacity_0f7a4_0 rfl ?_
  refine g_J5_15  C rfl dJ5_newCapacity_0f7a4_1 (ho) rfl ?_
  refine Z.alenB C dJ5_newCapacity_0f7a4_4 hv ?_
  refine Z.istore_n (l' := [_, _, _]) C dJ5_newCapacity_0f7a4_5 (Nat.le_of_ble_eq_true rfl) (by rw [hN]; decide) rfl ?_
  refine Z.iload_n C dJ5_newCapacity_0f7a4_6 rfl ?_
  refine Z.aload_n C dJ5_newCapacity_0f7a4_7 rfl ?_
  refine g_J5_22  C rfl dJ5_newCapacity_0f7a4_8 (ho) rfl ?_
  refine Z.ishl (z := ((N : Int) + 1)) C dJ5_newCapacity_0f7a4_11  (jI_shl0 _) ?_
  refine Z.istore_n (l' := [_, _, _, _]) C dJ5_newCapacity_0f7a4_12 (Nat.le_of_ble_eq_true rfl) (by rw [hN]; decide) rfl ?_
  refine Z.iload_n C dJ5_newCapacity_0f7a4_13 rfl ?_
  refine Z.iload_n C dJ5_newCapacity_0f7a4_14 rfl ?_
  refine Z.isub C dJ5_newCapacity_0f7a4_15 ?_
  refine Z.istore (l' := [_, _, _, _, _]) C dJ5_newCapacity_0f7a4_16 (Nat.le_of_ble_eq_true rfl) (by rw [hN]; decide) rfl ?_
  refine Z.iload_n C dJ5_newCapacity_0f7a4_18 rfl ?_
  refine Z.iload C dJ5_newCapacity_0f7a4_19 rfl ?_
  refine Z.iload_n C dJ5_newCapacity_0f7a4_21 rfl ?_
  refine Z.iconst C dJ5_newCapacity_0f7a4_22 ?_
  refine Z.aload_n C dJ5_newCapacity_0f7a4_23 rfl ?_
  refine g_J5_22  C rfl dJ5_newCapacity_0f7a4_24 (ho) rfl ?_
  refine Z.ishl (z := 2) C dJ5_newCapacity_0f7a4_27  (jI_shl0 _) ?_
  refine Z.iadd C dJ5_newCapacity_0f7a4_28 ?_
  refine s_J5_114 C rfl dJ5_newCapacity_0f7a4_29 (c_J8_newLength_cabcc htr ⟨by omega, by omega⟩ ⟨by omega, by omega⟩ ⟨by omega, by omega⟩) (by decide) (Nat.le_of_ble_eq_true rfl) (by rw [hR]; exact Nat.le_of_ble_eq_true rfl) (by rw [hR]; exact Nat.le_of_ble_eq_true rfl) (fun w29 h29 q29 => ?_) (fun _ _ q => q.elim)
  obtain ⟨rfl, q29⟩ := q29
  replace q29 := q29.symm
  subst q29
  rw [show (N : Int) + (if (N : Int) + 1 - (N : Int) < (N : Int) + 2 then (N : Int) + 2 else (N : Int) + 1 - (N : Int)) = ((N + (N + 2) : Nat) : Int) by split <;> omega]
  refine Z.istore (l' := [_, _, _, _, _, _]) C dJ5_newCapacity_0f7a4_32 (Nat.le_of_ble_eq_true rfl) (by rw [hN]; decide) rfl ?_
  refine Z.iload C dJ5_newCapacity_0f7a4_34 rfl ?_
  refine Z.ldcI (v := 2147483647) C zj_c39 dJ5_newCapacity_0f7a4_36 ?_
  refine Z.icmp_ne (tgt := 51) C dJ5_newCapacity_0f7a4_38 (by decide) (by omega) (by omega) (by omega) (by omega) (fun c38 => ?_) (fun c38 => ?_)
  · refine Z.iload C dJ5_newCapacity_0f7a4_51 rfl ?_
    refine Z.aload_n C dJ5_newCapacity_0f7a4_53 rfl ?_
    refine g_J5_22  C rfl dJ5_newCapacity_0f7a4_54 (ho) rfl ?_
    refine Z.ishr (z := ((N + (N + 2) : Nat) : Int)) C dJ5_newCapacity_0f7a4_57  (jI_shr0 _) ?_
    exact Z.iret C E dJ5_newCapacity_0f7a4_58 (by decide) (by decide) ⟨rfl, rfl⟩
  · exfalso; omega

theorem zs_arrB : Cond.arrayClass .byte ∈ zW := zW_of 192 (by decide +kernel) (by decide +kernel)
set_option maxRecDepth 100000 in
theorem c_J7_copyOf_9075b {ln : Launch} (htr : ln.stackTraces = false) {G : zG} {h : zH} {v N n1 : Nat} {f : Nat → Int} (hv : h v = some (eI (G.2.1 2) N f)) (h1 : N < n1) (h2 : n1 ≤ 2302) (hf : ∀ j, 0 ≤ f j ∧ f j < 128) : CT ln G yJ7_copyOf_9075b cJ7_copyOf_9075b 3 (some (.array .byte)) 3 ([.ref v, vI (n1 : Int)]) h 1 n1 (fun r9 h9 => ∃ a1, h a1 = none ∧ r9 = some (.ref a1) ∧ h9 = zput (zput h a1 (eI (G.2.1 2) n1 (fun _ => 0))) a1 (eI (G.2.1 2) n1 (va_cpy f (fun _ => 0) 0 0 N))) zNo := by
  refine CT.intro htr (by decide) rfl (Nat.le_of_ble_eq_true rfl) ?_
  intro X hln hG hR hN C E
  subst hln
  subst hG
  refine Z.iload_n C dJ7_copyOf_9075b_0 rfl ?_
  refine Z.aload_n C dJ7_copyOf_9075b_1 rfl ?_
  refine Z.alenB C dJ7_copyOf_9075b_2 hv ?_
  refine Z.icmp_ne (tgt := 14) C dJ7_copyOf_9075b_3 (by decide) (by omega) (by omega) (by omega) (by omega) (fun c3 => ?_) (fun c3 => ?_)
  · refine Z.iload_n C dJ7_copyOf_9075b_14 rfl ?_
    refine Z.newB (N := n1) C zs_arrB dJ7_copyOf_9075b_15 rfl (by omega) (by rw [hR]; exact Nat.le_of_ble_eq_true rfl) (by rw [hR]; show 0 + n1 ≤ n1; omega) (fun a1 na => ?_)
    refine Z.widen (k' := 1) (n' := n1) (by decide) (by omega) ?_
    refine Z.astore_n (l' := [_, _, _]) C dJ7_copyOf_9075b_17 (Nat.le_of_ble_eq_true rfl) (by rw [hN]; decide) rfl ?_
    refine Z.aload_n C dJ7_copyOf_9075b_18 rfl ?_
    refine Z.iconst C dJ7_copyOf_9075b_19 ?_
    refine Z.aload_n C dJ7_copyOf_9075b_20 rfl ?_
    refine Z.iconst C dJ7_copyOf_9075b_21 ?_
    refine Z.aload_n C dJ7_copyOf_9075b_22 rfl ?_
    refine Z.alenB C dJ7_copyOf_9075b_23 (zput_ne' h _ na hv) ?_
    refine Z.iload_n C dJ7_copyOf_9075b_24 rfl ?_
    refine Z.mmin C zj_min1 zj_mins zj_mathi zj_minc dJ7_copyOf_9075b_25 (by decide) (Nat.le_of_ble_eq_true rfl) (by rw [hR]; exact Nat.le_refl _) (by rw [hR]; exact Nat.le_refl _) (by omega) (by omega) (by omega) (by omega) ?_
    rw [if_neg (by omega)]
    refine Z.copyB C zj_acl zj_acn zj_acs zj_sysi dJ7_copyOf_9075b_28 (zput_ne' h _ na hv) (zput_same _ _ _) (by omega) (by omega) (by omega) (by omega) (by omega) (by omega) (by omega) (fun j => (vI_narrowB (hf j)).2.1) (by decide) (Nat.le_of_ble_eq_true rfl) ?_
    refine Z.aload_n C dJ7_copyOf_9075b_31 rfl ?_
    exact Z.aret C E (Or.inr ⟨_, rfl⟩) dJ7_copyOf_9075b_32 (by decide) (Nat.le_refl _) ⟨a1, na, rfl, rfl⟩
  · exfalso; omega

set_option maxRecDepth 100000 in
theorem c_ens0 {ln : Launch} (htr : ln.stackTraces = false) {G : zG} {h : zH} {b v c : Nat} {f g : Nat → Int} (hvb : v ≠ b) (ho : h b = some (eO 0 [.ref v, vI 0, vI 0, vI (c : Int)])) (hv : h v = some (eI (G.2.1 2) (sbN c) f)) (hf : ∀ j, 0 ≤ f j ∧ f j < 128) (hg : ∀ j, j < c → f j = g j) (hc9 : c ≤ 1000) {mc ms : Nat} (hr : c < sbN c) : CT ln G yJ5_ensureCapacityInternal_d00df cJ5_ensureCapacityInternal_d00df 3 none 4 ([.ref b, vI ((c : Int) + 1)]) h mc ms (fun r9 h9 => r9 = none ∧ SE G h h9 b v c g) zNo := by
  refine CT.intro htr (by decide) rfl (Nat.le_of_ble_eq_true rfl) ?_
  intro X hln hG hR hN C E
  subst hln
  subst hG
  have hl9 := l_le (c := c) (by omega)
  refine Z.aload_n C dJ5_ensureCapacityInternal_d00df_0 rfl ?_
  refine g_J5_15  C rfl dJ5_ensureCapacityInternal_d00df_1 (ho) rfl ?_
  refine Z.alenB C dJ5_ensureCapacityInternal_d00df_4 hv ?_
  refine Z.aload_n C dJ5_ensureCapacityInternal_d00df_5 rfl ?_
  refine g_J5_22  C rfl dJ5_ensureCapacityInternal_d00df_6 (ho) rfl ?_
  refine Z.ishr (z := ((sbN c : Nat) : Int)) C dJ5_ensureCapacityInternal_d00df_9  (jI_shr0 _) ?_
  refine Z.istore_n (l' := [_, _, _]) C dJ5_ensureCapacityInternal_d00df_10 (Nat.le_of_ble_eq_true rfl) (by rw [hN]; decide) rfl ?_
  refine Z.iload_n C dJ5_ensureCapacityInternal_d00df_11 rfl ?_
  refine Z.iload_n C dJ5_ensureCapacityInternal_d00df_12 rfl ?_
  refine Z.isub C dJ5_ensureCapacityInternal_d00df_13 ?_
  refine Z.if_le (tgt := 38) C dJ5_ensureCapacityInternal_d00df_14 (by decide) (by omega) (by omega) (fun c14 => ?_) (fun c14 => ?_)
  · exact Z.vret C E dJ5_ensureCapacityInternal_d00df_38 (Nat.zero_le _) (Nat.zero_le _) ⟨rfl, v, ⟨hvb, f, ho, by rw [(l_room hr).1]; exact hv, hf, hg⟩, Or.inr rfl, fun q _ _ _ => rfl⟩
  · exfalso; omega

set_option maxRecDepth 100000 in
theorem c_ens1 {ln : Launch} (htr : ln.stackTraces = false) {G : zG} {h : zH} {b v c : Nat} {f g : Nat → Int} (hvb : v ≠ b) (ho : h b = some (eO 0 [.ref v, vI 0, vI 0, vI (c : Int)])) (hv : h v = some (eI (G.2.1 2) (sbN c) f)) (hf : ∀ j, 0 ≤ f j ∧ f j < 128) (hg : ∀ j, j < c → f j = g j) (hc9 : c ≤ 1000) (hr : c = sbN c) : CT ln G yJ5_ensureCapacityInternal_d00df cJ5_ensureCapacityInternal_d00df 3 none 4 ([.ref b, vI ((c : Int) + 1)]) h 1 (c + (c + 2)) (fun r9 h9 => r9 = none ∧ SE G h h9 b v c g) zNo := by
  refine CT.intro htr (by decide) rfl (Nat.le_of_ble_eq_true rfl) ?_
  intro X hln hG hR hN C E
  subst hln
  subst hG
  have hl9 := l_le (c := c) (by omega)
  refine Z.aload_n C dJ5_ensureCapacityInternal_d00df_0 rfl ?_
  refine g_J5_15  C rfl dJ5_ensureCapacityInternal_d00df_1 (ho) rfl ?_
  refine Z.alenB C dJ5_ensureCapacityInternal_d00df_4 hv ?_
  refine Z.aload_n C dJ5_ensureCapacityInternal_d00df_5 rfl ?_
  refine g_J5_22  C rfl dJ5_ensureCapacityInternal_d00df_6 (ho) rfl ?_
  refine Z.ishr (z := ((sbN c : Nat) : Int)) C dJ5_ensureCapacityInternal_d00df_9  (jI_shr0 _) ?_
  refine Z.istore_n (l' := [_, _, _]) C dJ5_ensureCapacityInternal_d00df_10 (Nat.le_of_ble_eq_true rfl) (by rw [hN]; decide) rfl ?_
  refine Z.iload_n C dJ5_ensureCapacityInternal_d00df_11 rfl ?_
  refine Z.iload_n C dJ5_ensureCapacityInternal_d00df_12 rfl ?_
  refine Z.isub C dJ5_ensureCapacityInternal_d00df_13 ?_
  refine Z.if_le (tgt := 38) C dJ5_ensureCapacityInternal_d00df_14 (by decide) (by omega) (by omega) (fun c14 => ?_) (fun c14 => ?_)
  · exfalso; omega
  · refine Z.aload_n C dJ5_ensureCapacityInternal_d00df_17 rfl ?_
    refine Z.aload_n C dJ5_ensureCapacityInternal_d00df_18 rfl ?_
    refine g_J5_15  C rfl dJ5_ensureCapacityInternal_d00df_19 (ho) rfl ?_
    refine Z.aload_n C dJ5_ensureCapacityInternal_d00df_22 rfl ?_
    refine Z.iload_n C dJ5_ensureCapacityInternal_d00df_23 rfl ?_
    refine u_J5_104 C rfl dJ5_ensureCapacityInternal_d00df_24 (ho) (c_J5_newCapacity_0f7a4 htr ho (by rw [hr]; exact hv) (by omega)) (by decide) (Nat.le_of_ble_eq_true rfl) (by rw [hR]; exact Nat.le_of_ble_eq_true rfl) (by rw [hR]; exact Nat.zero_le _) (fun w9 h9 q9 => ?_)
    obtain ⟨rfl, q9⟩ := q9
    replace q9 := q9.symm
    subst q9
    refine Z.aload_n C dJ5_ensureCapacityInternal_d00df_27 rfl ?_
    refine g_J5_22  C rfl dJ5_ensureCapacityInternal_d00df_28 (ho) rfl ?_
    refine Z.ishl (z := ((c + (c + 2) : Nat) : Int)) C dJ5_ensureCapacityInternal_d00df_31  (jI_shl0 _) ?_
    refine s_J5_108 C rfl dJ5_ensureCapacityInternal_d00df_32 (c_J7_copyOf_9075b htr hv (by omega) (by omega) hf) (by decide) (Nat.le_of_ble_eq_true rfl) (by rw [hR]; exact Nat.le_of_ble_eq_true rfl) (by rw [hR]; show 0 + 0 + (c + (c + 2)) ≤ c + (c + 2); omega) (fun w32 h32 q32 => ?_) (fun _ _ q => q.elim)
    obtain ⟨a1, na, rfl, rfl⟩ := q32
    have nb : a1 ≠ b := fun q => by rw [q, ho] at na; cases na
    refine p_J5_15 (fs' := [.ref a1, vI 0, vI 0, vI (c : Int)]) C rfl  dJ5_ensureCapacityInternal_d00df_35  (by rw [zput_ne _ _ (Ne.symm nb), zput_ne _ _ (Ne.symm nb)]; exact ho) (Nat.le_of_ble_eq_true rfl) rfl ?_
    exact Z.vret C E dJ5_ensureCapacityInternal_d00df_38 (by decide) (by omega) ⟨rfl, a1, ⟨nb, va_cpy f (fun _ => 0) 0 0 (sbN c), zput_same _ _ _, by rw [zput_ne _ _ nb, zput_same, (l_full hr hc9).1], fun j => by unfold va_cpy; split; exact hf _; show (0 : Int) ≤ 0 ∧ (0 : Int) < 128; decide, fun j hj => by rw [va_cpy_lo (by omega)]; exact hg j hj⟩, Or.inl na, fun q q1 q2 q3 => by rw [zput_ne _ _ q1, zput_ne _ _ (fun z => q3 (by rw [z]; exact na)), zput_ne _ _ (fun z => q3 (by rw [z]; exact na))]⟩

theorem c_ens {ln : Launch} (htr : ln.stackTraces = false) {G : zG} {h : zH} {b v c : Nat} {f g : Nat → Int} (hvb : v ≠ b) (ho : h b = some (eO 0 [.ref v, vI 0, vI 0, vI (c : Int)])) (hv : h v = some (eI (G.2.1 2) (sbN c) f)) (hf : ∀ j, 0 ≤ f j ∧ f j < 128) (hg : ∀ j, j < c → f j = g j) (hc9 : c ≤ 1000) : CT ln G yJ5_ensureCapacityInternal_d00df cJ5_ensureCapacityInternal_d00df 3 none 4 [.ref b, vI ((c : Int) + 1)] h (sbK (c + 1) - sbK c) (sbS (c + 1) - sbS c) (fun r9 h9 => r9 = none ∧ SE G h h9 b v c g) zNo := by
  by_cases hr : c = sbN c
  · have e := l_full hr hc9
    rw [e.2.1, e.2.2, Nat.add_sub_cancel_left, Nat.add_sub_cancel_left]
    exact c_ens1 htr hvb ho hv hf hg hc9 hr
  · have hl9 := l_le (c := c) (by omega)
    exact c_ens0 htr hvb ho hv hf hg hc9 (by omega)

set_option maxRecDepth 100000 in
theorem c_J5_append_3fe6f {ln : Launch} (htr : ln.stackTraces = false) {G : zG} {h : zH} {b v c : Nat} {g : Nat → Int} {x : Int} (hs : SB G h b v c g) (hc9 : c ≤ 1000) (hx : 0 ≤ x ∧ x < 128) : CT ln G yJ5_append_3fe6f cJ5_append_3fe6f 2 (some (.object "java/lang/AbstractStringBuilder")) 5 ([.ref b, vI x]) h (sbK (c + 1) - sbK c) (sbS (c + 1) - sbS c) (fun r9 h9 => r9 = some (.ref b) ∧ SP G h h9 b v (c + 1) (fun j => if j = c then x else g j)) zNo := by
  refine CT.intro htr (by decide) rfl (Nat.le_of_ble_eq_true rfl) ?_
  intro X hln hG hR hN C E
  subst hln
  subst hG
  obtain ⟨hvb, f, ho, hv, hf, hg⟩ := hs
  have hl9 := l_le (c := c + 1) (by omega)
  refine Z.aload_n C dJ5_append_3fe6f_0 rfl ?_
  refine Z.aload_n C dJ5_append_3fe6f_1 rfl ?_
  refine g_J5_79  C rfl dJ5_append_3fe6f_2 (ho) rfl ?_
  refine Z.iconst C dJ5_append_3fe6f_5 ?_
  refine Z.iadd C dJ5_append_3fe6f_6 ?_
  refine u_J5_100 C rfl dJ5_append_3fe6f_7 (ho) (c_ens htr hvb ho hv hf hg hc9) (by decide) (Nat.le_of_ble_eq_true rfl) (by rw [hR]; show 0 + (sbK (c + 1) - sbK c) ≤ sbK (c + 1) - sbK c; omega) (by rw [hR]; show 0 + (sbS (c + 1) - sbS c) ≤ sbS (c + 1) - sbS c; omega) (fun w9 h9 q9 => ?_)
  obtain ⟨rfl, v1, ⟨nb, f1, p1, p2, p3, p4⟩, p5, p6⟩ := q9
  refine Z.aload_n C dJ5_append_3fe6f_10 rfl ?_
  refine u_J5_83 C rfl dJ5_append_3fe6f_11 (p1) (c_J5_isLatin1_aae02 htr p1) (by decide) (Nat.le_of_ble_eq_true rfl) (by rw [hR]; show 0 + (sbK (c + 1) - sbK c) + 0 ≤ sbK (c + 1) - sbK c; omega) (by rw [hR]; show 0 + (sbS (c + 1) - sbS c) + 0 ≤ sbS (c + 1) - sbS c; omega) (fun w9 h9 q9 => ?_)
  obtain ⟨rfl, q9⟩ := q9
  replace q9 := q9.symm
  subst q9
  refine Z.if_eq (tgt := 45) C dJ5_append_3fe6f_14 (by decide) (by omega) (by omega) (fun c14 => ?_) (fun c14 => ?_)
  · exfalso; omega
  · refine Z.iload_n C dJ5_append_3fe6f_17 rfl ?_
    refine s_J5_191 C rfl dJ5_append_3fe6f_18 (c_J1_canEncode_fc78d htr hx) (by decide) (Nat.le_of_ble_eq_true rfl) (by rw [hR]; show 0 + (sbK (c + 1) - sbK c) + 0 + 0 ≤ sbK (c + 1) - sbK c; omega) (by rw [hR]; show 0 + (sbS (c + 1) - sbS c) + 0 + 0 ≤ sbS (c + 1) - sbS c; omega) (fun w18 h18 q18 => ?_) (fun _ _ q => q.elim)
    obtain ⟨rfl, q18⟩ := q18
    replace q18 := q18.symm
    subst q18
    refine Z.if_eq (tgt := 45) C dJ5_append_3fe6f_21 (by decide) (by omega) (by omega) (fun c21 => ?_) (fun c21 => ?_)
    · exfalso; omega
    · refine Z.aload_n C dJ5_append_3fe6f_24 rfl ?_
      refine g_J5_15  C rfl dJ5_append_3fe6f_25 (p1) rfl ?_
      refine Z.aload_n C dJ5_append_3fe6f_28 rfl ?_
      refine Z.dup C dJ5_append_3fe6f_29 rfl ?_
      refine g_J5_79  C rfl dJ5_append_3fe6f_30 (p1) rfl ?_
      refine Z.dup_x1 C dJ5_append_3fe6f_33 rfl rfl ?_
      refine Z.iconst C dJ5_append_3fe6f_34 ?_
      refine Z.iadd C dJ5_append_3fe6f_35 ?_
      refine p_J5_79 (fs' := [.ref v1, vI 0, vI 0, vI ((c : Int) + 1)]) C rfl  dJ5_append_3fe6f_36  (p1) (Nat.le_of_ble_eq_true rfl) rfl ?_
      refine Z.iload_n C dJ5_append_3fe6f_39 rfl ?_
      refine Z.i2b (z := x) C dJ5_append_3fe6f_40 (jI_byte hx) ?_
      refine Z.bastore C dJ5_append_3fe6f_41 (by rw [zput_ne _ _ nb]; exact p2) (by omega) (by omega) (by omega) (vI_narrowB hx).1 ?_
      refine Z.goto (tgt := 75) C dJ5_append_3fe6f_42 (by decide) ?_
      refine Z.aload_n C dJ5_append_3fe6f_75 rfl ?_
      refine Z.aret C E (Or.inl ⟨_, rfl⟩) dJ5_append_3fe6f_76 (by omega) (by omega) ⟨rfl, v1, ⟨nb, va_up f1 ((c : Int).toNat) x, by rw [zput_ne _ _ (Ne.symm nb), zput_same]; rfl, zput_same _ _ _, fun j => by unfold va_up; split; exact hx; exact p3 j, fun j hj => ?_⟩, p5, fun q q1 q2 q3 => ?_⟩
      · rw [Int.toNat_natCast]
        by_cases e : j = c
        · subst e; simp [va_up]
        · simp only [va_up, if_neg e]; exact p4 j (by omega)
      · rw [zput_ne _ _ (fun z => by rcases p5 with p5 | p5; exact q3 (by rw [z]; exact p5); exact q2 (z.trans p5)), zput_ne _ _ q1]; exact p6 q q1 q2 q3

set_option maxRecDepth 100000 in
theorem c_app {ln : Launch} (htr : ln.stackTraces = false) {G : zG} {h : zH} {b v c : Nat} {g : Nat → Int} {x : Int} (hs : SB G h b v c g) (hc9 : c ≤ 1000) (hx : 0 ≤ x ∧ x < 128) : CT ln G yJ4_append_cf468 cJ4_append_cf468 2 (some (.object "java/lang/StringBuilder")) 6 ([.ref b, vI x]) h (sbK (c + 1) - sbK c) (sbS (c + 1) - sbS c) (fun r9 h9 => r9 = some (.ref b) ∧ SP G h h9 b v (c + 1) (fun j => if j = c then x else g j)) zNo := by
  refine CT.intro htr (by decide) rfl (Nat.le_of_ble_eq_true rfl) ?_
  intro X hln hG hR hN C E
  subst hln
  subst hG
  have ho : ∃ fs, h b = some (eO 0 fs) := by obtain ⟨-, f, ho, -⟩ := hs; exact ⟨_, ho⟩
  obtain ⟨fs, ho⟩ := ho
  refine Z.aload_n C dJ4_append_cf468_0 rfl ?_
  refine Z.iload_n C dJ4_append_cf468_1 rfl ?_
  refine q_J4_50 C rfl dJ4_append_cf468_2 (ho) (c_J5_append_3fe6f htr hs hc9 hx) (by decide) (Nat.le_of_ble_eq_true rfl) (by rw [hR]; show 0 + (sbK (c + 1) - sbK c) ≤ sbK (c + 1) - sbK c; omega) (by rw [hR]; show 0 + (sbS (c + 1) - sbS c) ≤ sbS (c + 1) - sbS c; omega) (fun w9 h9 q9 => ?_)
  obtain ⟨rfl, q9⟩ := q9
  refine Z.pop C dJ4_append_cf468_5 rfl ?_
  refine Z.aload_n C dJ4_append_cf468_6 rfl ?_
  exact Z.aret C E (Or.inl ⟨_, rfl⟩) dJ4_append_cf468_7 (by omega) (by omega) ⟨rfl, q9⟩

set_option maxRecDepth 100000 in
theorem c_J5_length_8abf5 {ln : Launch} (htr : ln.stackTraces = false) {G : zG} {h : zH} {b v c : Nat} {g : Nat → Int} (hs : SB G h b v c g) : CT ln G yJ5_length_8abf5 cJ5_length_8abf5 1 (some .int) 1 ([.ref b]) h 0 0 (fun r9 h9 => r9 = some (vI (c : Int)) ∧ h9 = h) zNo := by
  refine CT.intro htr (by decide) rfl (Nat.le_of_ble_eq_true rfl) ?_
  intro X hln hG hR hN C E
  subst hln
  subst hG
  obtain ⟨hvb, f, ho, hv, hf, hg⟩ := hs
  refine Z.aload_n C dJ5_length_8abf5_0 rfl ?_
  refine g_J5_79  C rfl dJ5_length_8abf5_1 (ho) rfl ?_
  exact Z.iret C E dJ5_length_8abf5_4 (by decide) (by decide) ⟨rfl, rfl⟩

set_option maxRecDepth 100000 in
theorem c_len {ln : Launch} (htr : ln.stackTraces = false) {G : zG} {h : zH} {b v c : Nat} {g : Nat → Int} (hs : SB G h b v c g) : CT ln G yJ4_length_8abf5 cJ4_length_8abf5 1 (some .int) 2 ([.ref b]) h 0 0 (fun r9 h9 => r9 = some (vI (c : Int)) ∧ h9 = h) zNo := by
  refine CT.intro htr (by decide) rfl (Nat.le_of_ble_eq_true rfl) ?_
  intro X hln hG hR hN C E
  subst hln
  subst hG
  refine Z.aload_n C dJ4_length_8abf5_0 rfl ?_
  refine q_J4_343 C rfl dJ4_length_8abf5_1 (hs.2.choose_spec.1) (c_J5_length_8abf5 htr hs) (by decide) (Nat.le_of_ble_eq_true rfl) (by rw [hR]; exact Nat.le_of_ble_eq_true rfl) (by rw [hR]; exact Nat.le_of_ble_eq_true rfl) (fun w9 h9 q9 => ?_)
  obtain ⟨rfl, q9⟩ := q9
  replace q9 := q9.symm
  subst q9
  exact Z.iret C E dJ4_length_8abf5_4 (by decide) (by decide) ⟨rfl, rfl⟩

set_option maxRecDepth 100000 in
theorem c_J5_charAt_5068e {ln : Launch} (htr : ln.stackTraces = false) {G : zG} {h : zH} {b v c : Nat} {g : Nat → Int} (hs : SB G h b v c g) {i : Int} (hc9 : c ≤ 1000) (h1 : 0 ≤ i ∧ i < c) : CT ln G yJ5_charAt_5068e cJ5_charAt_5068e 5 (some .char) 3 ([.ref b, vI i]) h 0 0 (fun r9 h9 => r9 = some (vI (g i.toNat)) ∧ h9 = h) zNo := by
  refine CT.intro htr (by decide) rfl (Nat.le_of_ble_eq_true rfl) ?_
  intro X hln hG hR hN C E
  subst hln
  subst hG
  obtain ⟨hvb, f, ho, hv, hf, hg⟩ := hs
  have hl9 := l_le (c := c) (by omega)
  have hr9 := hf i.toNat
  rw [hg i.toNat (by omega)] at hr9
  refine Z.aload_n C dJ5_charAt_5068e_0 rfl ?_
  refine g_J5_22  C rfl dJ5_charAt_5068e_1 (ho) rfl ?_
  refine Z.istore_n (l' := [_, _, _]) C dJ5_charAt_5068e_4 (Nat.le_of_ble_eq_true rfl) (by rw [hN]; decide) rfl ?_
  refine Z.aload_n C dJ5_charAt_5068e_5 rfl ?_
  refine g_J5_15  C rfl dJ5_charAt_5068e_6 (ho) rfl ?_
  refine Z.astore_n (l' := [_, _, _, _]) C dJ5_charAt_5068e_9 (Nat.le_of_ble_eq_true rfl) (by rw [hN]; decide) rfl ?_
  refine Z.aload_n C dJ5_charAt_5068e_10 rfl ?_
  refine g_J5_79  C rfl dJ5_charAt_5068e_11 (ho) rfl ?_
  refine Z.aload_n C dJ5_charAt_5068e_14 rfl ?_
  refine Z.alenB C dJ5_charAt_5068e_15 hv ?_
  refine Z.iload_n C dJ5_charAt_5068e_16 rfl ?_
  refine Z.ishr (z := ((sbN c : Nat) : Int)) C dJ5_charAt_5068e_17  (jI_shr0 _) ?_
  refine Z.mmin C zj_min2 zj_mins zj_mathi zj_minc dJ5_charAt_5068e_18 (by decide) (Nat.le_of_ble_eq_true rfl) (by rw [hR]; exact Nat.zero_le _) (by rw [hR]; exact Nat.zero_le _) (by omega) (by omega) (by omega) (by omega) ?_
  rw [if_neg (by omega)]
  refine Z.istore (l' := [_, _, _, _, _]) C dJ5_charAt_5068e_21 (Nat.le_of_ble_eq_true rfl) (by rw [hN]; decide) rfl ?_
  refine Z.iload_n C dJ5_charAt_5068e_23 rfl ?_
  refine Z.iload C dJ5_charAt_5068e_24 rfl ?_
  refine s_J5_144 C rfl dJ5_charAt_5068e_26 (c_J0_checkIndex_df160 htr h1 (by omega)) (by decide) (Nat.le_of_ble_eq_true rfl) (by rw [hR]; exact Nat.le_of_ble_eq_true rfl) (by rw [hR]; exact Nat.le_of_ble_eq_true rfl) (fun w26 h26 q26 => ?_) (fun _ _ q => q.elim)
  obtain ⟨rfl, q26⟩ := q26
  replace q26 := q26.symm
  subst q26
  refine Z.iload_n C dJ5_charAt_5068e_29 rfl ?_
  refine Z.if_ne (tgt := 42) C dJ5_charAt_5068e_30 (by decide) (by omega) (by omega) (fun c30 => ?_) (fun c30 => ?_)
  · exfalso; omega
  · refine Z.aload_n C dJ5_charAt_5068e_33 rfl ?_
    refine Z.iload_n C dJ5_charAt_5068e_34 rfl ?_
    refine Z.baload C dJ5_charAt_5068e_35 hv (by omega) (by omega) (by omega) ?_
    rw [hg i.toNat (by omega)]
    refine Z.sipush C dJ5_charAt_5068e_36 (by decide) ?_
    refine Z.iand (z := (g i.toNat)) C dJ5_charAt_5068e_39  (jI_and255 hr9) ?_
    refine Z.i2c C dJ5_charAt_5068e_40 (by omega) (by omega) ?_
    exact Z.zret C E dJ5_charAt_5068e_41 (vI_narrowB hr9).2.2 (by decide) (by decide) ⟨rfl, rfl⟩

set_option maxRecDepth 100000 in
theorem c_charAt {ln : Launch} (htr : ln.stackTraces = false) {G : zG} {h : zH} {b v c : Nat} {g : Nat → Int} (hs : SB G h b v c g) {i : Int} (hc9 : c ≤ 1000) (h1 : 0 ≤ i ∧ i < c) : CT ln G yJ4_charAt_5068e cJ4_charAt_5068e 2 (some .char) 4 ([.ref b, vI i]) h 0 0 (fun r9 h9 => r9 = some (vI (g i.toNat)) ∧ h9 = h) zNo := by
  refine CT.intro htr (by decide) rfl (Nat.le_of_ble_eq_true rfl) ?_
  intro X hln hG hR hN C E
  subst hln
  subst hG
  have hr9 : 0 ≤ g i.toNat ∧ g i.toNat < 128 := by
    obtain ⟨hvb, f, ho, hv, hf, hg⟩ := hs
    have hr9 := hf i.toNat
    rw [hg i.toNat (by omega)] at hr9
    exact hr9
  refine Z.aload_n C dJ4_charAt_5068e_0 rfl ?_
  refine Z.iload_n C dJ4_charAt_5068e_1 rfl ?_
  refine q_J4_329 C rfl dJ4_charAt_5068e_2 (hs.2.choose_spec.1) (c_J5_charAt_5068e htr hs hc9 h1) (by decide) (Nat.le_of_ble_eq_true rfl) (by rw [hR]; exact Nat.le_of_ble_eq_true rfl) (by rw [hR]; exact Nat.le_of_ble_eq_true rfl) (fun w9 h9 q9 => ?_)
  obtain ⟨rfl, q9⟩ := q9
  replace q9 := q9.symm
  subst q9
  exact Z.zret C E dJ4_charAt_5068e_5 (vI_narrowB hr9).2.2 (by decide) (by decide) ⟨rfl, rfl⟩

set_option maxRecDepth 100000 in
theorem c_J5_init_d00df {ln : Launch} (htr : ln.stackTraces = false) {G : zG} {h : zH} {b : Nat} (ho : h b = some (eO 0 [.null, vI 0, vI 0, vI 0])) : CT ln G yJ5_init_d00df cJ5_init_d00df 2 none 2 ([.ref b, vI 16]) h 1 16 (fun r9 h9 => r9 = none ∧ ∃ v, h v = none ∧ SB G h9 b v 0 (fun _ => 0) ∧ ∀ q, q ≠ b → h q ≠ none → h9 q = h q) zNo := by
  refine CT.intro htr (by decide) rfl (Nat.le_of_ble_eq_true rfl) ?_
  intro X hln hG hR hN C E
  subst hln
  subst hG
  refine Z.aload_n C dJ5_init_d00df_0 rfl ?_
  refine o_J5_3 C rfl dJ5_init_d00df_1 (by decide) (Nat.le_of_ble_eq_true rfl) ?_
  refine Z.compact C zj_comp dJ5_init_d00df_4 ?_
  refine Z.if_eq (tgt := 25) C dJ5_init_d00df_7 (by decide) (by omega) (by omega) (fun c7 => ?_) (fun c7 => ?_)
  · exfalso; omega
  · refine Z.aload_n C dJ5_init_d00df_10 rfl ?_
    refine Z.iload_n C dJ5_init_d00df_11 rfl ?_
    refine Z.newB (N := 16) C zs_arrB dJ5_init_d00df_12 rfl (by decide) (by rw [hR]; exact Nat.le_of_ble_eq_true rfl) (by rw [hR]; exact Nat.le_of_ble_eq_true rfl) (fun a1 na => ?_)
    refine Z.widen (k' := 1) (n' := 16) (by decide) (by decide) ?_
    have nb : a1 ≠ b := fun q => by rw [q, ho] at na; cases na
    refine p_J5_15 (fs' := [.ref a1, vI 0, vI 0, vI 0]) C rfl  dJ5_init_d00df_14  (zput_ne' h _ na ho) (Nat.le_of_ble_eq_true rfl) rfl ?_
    refine Z.aload_n C dJ5_init_d00df_17 rfl ?_
    refine Z.iconst C dJ5_init_d00df_18 ?_
    refine p_J5_22 (fs' := [.ref a1, vI 0, vI 0, vI 0]) C rfl  dJ5_init_d00df_19 ⟨rfl, rfl⟩ (zput_same _ _ _) (Nat.le_of_ble_eq_true rfl) rfl ?_
    refine Z.goto (tgt := 38) C dJ5_init_d00df_22 (by decide) ?_
    exact Z.vret C E dJ5_init_d00df_38 (by decide) (by decide) ⟨rfl, a1, na, ⟨nb, fun _ => 0, zput_same _ _ _, by rw [zput_ne _ _ nb, zput_ne _ _ nb, zput_same]; rfl, fun _ => ⟨Int.le_refl 0, by show (0 : Int) < 128; decide⟩, fun j hj => by omega⟩, fun q q1 q2 => by rw [zput_ne _ _ q1, zput_ne _ _ q1, zput_ne _ _ (fun z => q2 (by rw [z]; exact na))]⟩

set_option maxRecDepth 100000 in
theorem c_sbnew {ln : Launch} (htr : ln.stackTraces = false) {G : zG} {h : zH} {b : Nat} (ho : h b = some (eO 0 [.null, vI 0, vI 0, vI 0])) : CT ln G yJ4_init_da8c8 cJ4_init_da8c8 1 none 3 ([.ref b]) h 1 16 (fun r9 h9 => r9 = none ∧ ∃ v, h v = none ∧ SB G h9 b v 0 (fun _ => 0) ∧ ∀ q, q ≠ b → h q ≠ none → h9 q = h q) zNo := by
  refine CT.intro htr (by decide) rfl (Nat.le_of_ble_eq_true rfl) ?_
  intro X hln hG hR hN C E
  subst hln
  subst hG
  refine Z.aload_n C dJ4_init_da8c8_0 rfl ?_
  refine Z.bipush C dJ4_init_da8c8_1 (by decide) ?_
  refine i_J4_1 C rfl dJ4_init_da8c8_3 (c_J5_init_d00df htr ho) (by decide) (Nat.le_of_ble_eq_true rfl) (by rw [hR]; exact Nat.le_of_ble_eq_true rfl) (by rw [hR]; exact Nat.le_of_ble_eq_true rfl) (fun w3 h3 q3 => ?_)
  obtain ⟨rfl, q9⟩ := q3
  exact Z.vret C E dJ4_init_da8c8_6 (by decide) (by decide) ⟨rfl, q9⟩

