/-! the law's helpers -/
set_option maxRecDepth 100000 in
theorem c_L_join {ln : Launch} (htr : ln.stackTraces = false) {G : zG} {h : zH} {b o : Nat} {p0 p1 : Int} {fs : List Value} {QK QX : Int → zH → Prop} (ho : h b = some (eO 7 fs)) (hk : CT ln G yX6_join cX6_join 4 (some .int) 9 [.ref b, vI p0, vI p1] h 5 521 (fun r9 h9 => ∃ v, r9 = some (vI v) ∧ QK v h9) (fun E9 h9 => (E9 = "java/lang/IllegalArgumentException" ∧ QX 1 h9) ∨ (E9 = "java/lang/IllegalStateException" ∧ QX 2 h9))) (hQ : ∀ v h9, QK v h9 → ∃ f, h9 o = some (eL (G.2.1 4) 1 f)) : CTH ln G yL_join cL_join 5 (some .int) [(0, 10, 13, 13), (0, 10, 17, 15)] 10 [.ref b, vI p0, vI p1, .ref o] h 5 521 (fun r9 h9 => (∃ v h8 f, QK v h8 ∧ r9 = some (vI 0) ∧ h9 = zput h8 o (eL (G.2.1 4) 1 f) ∧ f 0 = (jI v).toInt64) ∨ ∃ c : Int, (1 ≤ c ∧ c ≤ 3) ∧ QX c h9 ∧ r9 = some (vI c)) := by
  refine CTH.intro htr (by decide) rfl (Nat.le_of_ble_eq_true rfl) ?_
  intro X hln hG hR hN C E
  subst hln
  subst hG
  refine Z.aload_n C dL_join_0 rfl ?_
  refine Z.iconst C dL_join_1 ?_
  refine Z.aload_n C dL_join_2 rfl ?_
  refine Z.iload_n C dL_join_3 rfl ?_
  refine Z.iload_n C dL_join_4 rfl ?_
  refine v_L_7 C rfl dL_join_5 ho hk (by decide) (Nat.le_of_ble_eq_true rfl) (by rw [hR]; exact Nat.le_of_ble_eq_true rfl) (by rw [hR]; exact Nat.le_of_ble_eq_true rfl) (fun w9 h9 q9 => ?_) (fun E9 h9 q9 => ?_)
  · obtain ⟨v, rfl, hqk⟩ := q9
    obtain ⟨f, hf⟩ := hQ v _ hqk
    refine Z.i2l C dL_join_8 ?_
    refine Z.lastore C dL_join_9 hf (by decide) (by decide) (by decide) ?_
    refine Z.goto (tgt := 21) C dL_join_10 (by decide) ?_
    refine Z.iconst C dL_join_21 ?_
    exact Z.iretH C E dL_join_22 (by decide) (by decide) (Or.inl ⟨_, _, _, hqk, rfl, rfl, rfl⟩)
  · rcases q9 with ⟨rfl, hq⟩ | ⟨rfl, hq⟩
    · refine ZT.catch C E [] ⟨0, 10, 13, 13⟩ [⟨0, 10, 17, 15⟩] rfl (fun z hz => absurd hz List.not_mem_nil) (by decide) (by decide) zl_k13 (by decide) (fun q => ?_)
      refine Z.astore (l' := [_, _, _, _, _]) C dL_join_13 (Nat.le_of_ble_eq_true rfl) (by rw [hN]; decide) rfl ?_
      refine Z.iconst C dL_join_15 ?_
      exact Z.iretH C E dL_join_16 (by decide) (by decide) (Or.inr ⟨1, by decide, hq, rfl⟩)
    · refine ZT.catch C E [⟨0, 10, 13, 13⟩] ⟨0, 10, 17, 15⟩ [] rfl (fun z hz => by rcases List.mem_singleton.mp hz with rfl; exact ⟨by decide, _, zl_k13, by decide⟩) (by decide) (by decide) zl_k15 (by decide) (fun q => ?_)
      refine Z.astore (l' := [_, _, _, _, _]) C dL_join_17 (Nat.le_of_ble_eq_true rfl) (by rw [hN]; decide) rfl ?_
      refine Z.iconst C dL_join_19 ?_
      exact Z.iretH C E dL_join_20 (by decide) (by decide) (Or.inr ⟨2, by decide, hq, rfl⟩)

set_option maxRecDepth 100000 in
theorem c_L_leave {ln : Launch} (htr : ln.stackTraces = false) {G : zG} {h : zH} {b o : Nat} {p0 : Int} {fs : List Value} {QK QX : Int → zH → Prop} (ho : h b = some (eO 7 fs)) (hk : CT ln G yX6_leave cX6_leave 6 (some .int) 10 [.ref b, vI p0] h 3 502 (fun r9 h9 => ∃ v, r9 = some (vI v) ∧ QK v h9) (fun E9 h9 => (E9 = "java/lang/IndexOutOfBoundsException" ∧ QX 1 h9) ∨ (E9 = "java/lang/IllegalStateException" ∧ QX 2 h9))) (hQ : ∀ v h9, QK v h9 → ∃ f, h9 o = some (eL (G.2.1 4) 1 f)) : CTH ln G yL_leave cL_leave 4 (some .int) [(0, 9, 12, 21), (0, 9, 15, 15)] 11 [.ref b, vI p0, .ref o] h 3 502 (fun r9 h9 => (∃ v h8 f, QK v h8 ∧ r9 = some (vI 0) ∧ h9 = zput h8 o (eL (G.2.1 4) 1 f) ∧ f 0 = (jI v).toInt64) ∨ ∃ c : Int, (1 ≤ c ∧ c ≤ 3) ∧ QX c h9 ∧ r9 = some (vI c)) := by
  refine CTH.intro htr (by decide) rfl (Nat.le_of_ble_eq_true rfl) ?_
  intro X hln hG hR hN C E
  subst hln
  subst hG
  refine Z.aload_n C dL_leave_0 rfl ?_
  refine Z.iconst C dL_leave_1 ?_
  refine Z.aload_n C dL_leave_2 rfl ?_
  refine Z.iload_n C dL_leave_3 rfl ?_
  refine v_L_17 C rfl dL_leave_4 ho hk (by decide) (Nat.le_of_ble_eq_true rfl) (by rw [hR]; exact Nat.le_of_ble_eq_true rfl) (by rw [hR]; exact Nat.le_of_ble_eq_true rfl) (fun w9 h9 q9 => ?_) (fun E9 h9 q9 => ?_)
  · obtain ⟨v, rfl, hqk⟩ := q9
    obtain ⟨f, hf⟩ := hQ v _ hqk
    refine Z.i2l C dL_leave_7 ?_
    refine Z.lastore C dL_leave_8 hf (by decide) (by decide) (by decide) ?_
    refine Z.goto (tgt := 18) C dL_leave_9 (by decide) ?_
    refine Z.iconst C dL_leave_18 ?_
    exact Z.iretH C E dL_leave_19 (by decide) (by decide) (Or.inl ⟨_, _, _, hqk, rfl, rfl, rfl⟩)
  · rcases q9 with ⟨rfl, hq⟩ | ⟨rfl, hq⟩
    · refine ZT.catch C E [] ⟨0, 9, 12, 21⟩ [⟨0, 9, 15, 15⟩] rfl (fun z hz => absurd hz List.not_mem_nil) (by decide) (by decide) zl_k21 (by decide) (fun q => ?_)
      refine Z.astore_n (l' := [_, _, _, _]) C dL_leave_12 (Nat.le_of_ble_eq_true rfl) (by rw [hN]; decide) rfl ?_
      refine Z.iconst C dL_leave_13 ?_
      exact Z.iretH C E dL_leave_14 (by decide) (by decide) (Or.inr ⟨1, by decide, hq, rfl⟩)
    · refine ZT.catch C E [⟨0, 9, 12, 21⟩] ⟨0, 9, 15, 15⟩ [] rfl (fun z hz => by rcases List.mem_singleton.mp hz with rfl; exact ⟨by decide, _, zl_k21, by decide⟩) (by decide) (by decide) zl_k15 (by decide) (fun q => ?_)
      refine Z.astore_n (l' := [_, _, _, _]) C dL_leave_15 (Nat.le_of_ble_eq_true rfl) (by rw [hN]; decide) rfl ?_
      refine Z.iconst C dL_leave_16 ?_
      exact Z.iretH C E dL_leave_17 (by decide) (by decide) (Or.inr ⟨2, by decide, hq, rfl⟩)

set_option maxRecDepth 100000 in
theorem c_L_film {ln : Launch} (htr : ln.stackTraces = false) {G : zG} {h : zH} {b o : Nat} {p0 : Int} {fs : List Value} {QK QX : Int → zH → Prop} (ho : h b = some (eO 7 fs)) (hk : CT ln G yX6_film cX6_film 2 (some .int) 9 [.ref b, vI p0] h 2 482 (fun r9 h9 => ∃ v, r9 = some (vI v) ∧ QK v h9) (fun E9 h9 => (E9 = "java/lang/IllegalArgumentException" ∧ QX 1 h9) ∨ (E9 = "java/lang/IllegalStateException" ∧ QX 2 h9))) (hQ : ∀ v h9, QK v h9 → ∃ f, h9 o = some (eL (G.2.1 4) 1 f)) : CTH ln G yL_film cL_film 4 (some .int) [(0, 9, 12, 13), (0, 9, 15, 15)] 10 [.ref b, vI p0, .ref o] h 2 482 (fun r9 h9 => (∃ v h8 f, QK v h8 ∧ r9 = some (vI 0) ∧ h9 = zput h8 o (eL (G.2.1 4) 1 f) ∧ f 0 = (jI v).toInt64) ∨ ∃ c : Int, (1 ≤ c ∧ c ≤ 3) ∧ QX c h9 ∧ r9 = some (vI c)) := by
  refine CTH.intro htr (by decide) rfl (Nat.le_of_ble_eq_true rfl) ?_
  intro X hln hG hR hN C E
  subst hln
  subst hG
  refine Z.aload_n C dL_film_0 rfl ?_
  refine Z.iconst C dL_film_1 ?_
  refine Z.aload_n C dL_film_2 rfl ?_
  refine Z.iload_n C dL_film_3 rfl ?_
  refine v_L_23 C rfl dL_film_4 ho hk (by decide) (Nat.le_of_ble_eq_true rfl) (by rw [hR]; exact Nat.le_of_ble_eq_true rfl) (by rw [hR]; exact Nat.le_of_ble_eq_true rfl) (fun w9 h9 q9 => ?_) (fun E9 h9 q9 => ?_)
  · obtain ⟨v, rfl, hqk⟩ := q9
    obtain ⟨f, hf⟩ := hQ v _ hqk
    refine Z.i2l C dL_film_7 ?_
    refine Z.lastore C dL_film_8 hf (by decide) (by decide) (by decide) ?_
    refine Z.goto (tgt := 18) C dL_film_9 (by decide) ?_
    refine Z.iconst C dL_film_18 ?_
    exact Z.iretH C E dL_film_19 (by decide) (by decide) (Or.inl ⟨_, _, _, hqk, rfl, rfl, rfl⟩)
  · rcases q9 with ⟨rfl, hq⟩ | ⟨rfl, hq⟩
    · refine ZT.catch C E [] ⟨0, 9, 12, 13⟩ [⟨0, 9, 15, 15⟩] rfl (fun z hz => absurd hz List.not_mem_nil) (by decide) (by decide) zl_k13 (by decide) (fun q => ?_)
      refine Z.astore_n (l' := [_, _, _, _]) C dL_film_12 (Nat.le_of_ble_eq_true rfl) (by rw [hN]; decide) rfl ?_
      refine Z.iconst C dL_film_13 ?_
      exact Z.iretH C E dL_film_14 (by decide) (by decide) (Or.inr ⟨1, by decide, hq, rfl⟩)
    · refine ZT.catch C E [⟨0, 9, 12, 13⟩] ⟨0, 9, 15, 15⟩ [] rfl (fun z hz => by rcases List.mem_singleton.mp hz with rfl; exact ⟨by decide, _, zl_k13, by decide⟩) (by decide) (by decide) zl_k15 (by decide) (fun q => ?_)
      refine Z.astore_n (l' := [_, _, _, _]) C dL_film_15 (Nat.le_of_ble_eq_true rfl) (by rw [hN]; decide) rfl ?_
      refine Z.iconst C dL_film_16 ?_
      exact Z.iretH C E dL_film_17 (by decide) (by decide) (Or.inr ⟨2, by decide, hq, rfl⟩)

set_option maxRecDepth 100000 in
theorem c_L_fetch {ln : Launch} (htr : ln.stackTraces = false) {G : zG} {h : zH} {b o : Nat} {p0 p1 : Int} {fs : List Value} {QK QX : Int → zH → Prop} (ho : h b = some (eO 7 fs)) (hk : CT ln G yX6_fetch cX6_fetch 6 (some .int) 10 [.ref b, vI p0, vI p1] h 6 518 (fun r9 h9 => ∃ v, r9 = some (vI v) ∧ QK v h9) (fun E9 h9 => (E9 = "java/lang/IndexOutOfBoundsException" ∧ QX 1 h9) ∨ (E9 = "java/lang/IllegalStateException" ∧ QX 2 h9))) (hQ : ∀ v h9, QK v h9 → ∃ f, h9 o = some (eL (G.2.1 4) 1 f)) : CTH ln G yL_fetch cL_fetch 5 (some .int) [(0, 10, 13, 21), (0, 10, 17, 15)] 11 [.ref b, vI p0, vI p1, .ref o] h 6 518 (fun r9 h9 => (∃ v h8 f, QK v h8 ∧ r9 = some (vI 0) ∧ h9 = zput h8 o (eL (G.2.1 4) 1 f) ∧ f 0 = (jI v).toInt64) ∨ ∃ c : Int, (1 ≤ c ∧ c ≤ 3) ∧ QX c h9 ∧ r9 = some (vI c)) := by
  refine CTH.intro htr (by decide) rfl (Nat.le_of_ble_eq_true rfl) ?_
  intro X hln hG hR hN C E
  subst hln
  subst hG
  refine Z.aload_n C dL_fetch_0 rfl ?_
  refine Z.iconst C dL_fetch_1 ?_
  refine Z.aload_n C dL_fetch_2 rfl ?_
  refine Z.iload_n C dL_fetch_3 rfl ?_
  refine Z.iload_n C dL_fetch_4 rfl ?_
  refine v_L_26 C rfl dL_fetch_5 ho hk (by decide) (Nat.le_of_ble_eq_true rfl) (by rw [hR]; exact Nat.le_of_ble_eq_true rfl) (by rw [hR]; exact Nat.le_of_ble_eq_true rfl) (fun w9 h9 q9 => ?_) (fun E9 h9 q9 => ?_)
  · obtain ⟨v, rfl, hqk⟩ := q9
    obtain ⟨f, hf⟩ := hQ v _ hqk
    refine Z.i2l C dL_fetch_8 ?_
    refine Z.lastore C dL_fetch_9 hf (by decide) (by decide) (by decide) ?_
    refine Z.goto (tgt := 21) C dL_fetch_10 (by decide) ?_
    refine Z.iconst C dL_fetch_21 ?_
    exact Z.iretH C E dL_fetch_22 (by decide) (by decide) (Or.inl ⟨_, _, _, hqk, rfl, rfl, rfl⟩)
  · rcases q9 with ⟨rfl, hq⟩ | ⟨rfl, hq⟩
    · refine ZT.catch C E [] ⟨0, 10, 13, 21⟩ [⟨0, 10, 17, 15⟩] rfl (fun z hz => absurd hz List.not_mem_nil) (by decide) (by decide) zl_k21 (by decide) (fun q => ?_)
      refine Z.astore (l' := [_, _, _, _, _]) C dL_fetch_13 (Nat.le_of_ble_eq_true rfl) (by rw [hN]; decide) rfl ?_
      refine Z.iconst C dL_fetch_15 ?_
      exact Z.iretH C E dL_fetch_16 (by decide) (by decide) (Or.inr ⟨1, by decide, hq, rfl⟩)
    · refine ZT.catch C E [⟨0, 10, 13, 21⟩] ⟨0, 10, 17, 15⟩ [] rfl (fun z hz => by rcases List.mem_singleton.mp hz with rfl; exact ⟨by decide, _, zl_k21, by decide⟩) (by decide) (by decide) zl_k15 (by decide) (fun q => ?_)
      refine Z.astore (l' := [_, _, _, _, _]) C dL_fetch_17 (Nat.le_of_ble_eq_true rfl) (by rw [hN]; decide) rfl ?_
      refine Z.iconst C dL_fetch_19 ?_
      exact Z.iretH C E dL_fetch_20 (by decide) (by decide) (Or.inr ⟨2, by decide, hq, rfl⟩)

set_option maxRecDepth 100000 in
theorem c_L_pass {ln : Launch} (htr : ln.stackTraces = false) {G : zG} {h : zH} {b o : Nat} {p0 : Int} {fs : List Value} {QK QX : Int → zH → Prop} (ho : h b = some (eO 7 fs)) (hk : CT ln G yX6_pass cX6_pass 3 (some .int) 6 [.ref b, vI p0] h 1 6 (fun r9 h9 => ∃ v, r9 = some (vI v) ∧ QK v h9) (fun E9 h9 => (E9 = "java/lang/IllegalArgumentException" ∧ QX 1 h9) ∨ (E9 = "java/lang/IllegalStateException" ∧ QX 2 h9))) (hQ : ∀ v h9, QK v h9 → ∃ f, h9 o = some (eL (G.2.1 4) 1 f)) : CTH ln G yL_pass cL_pass 4 (some .int) [(0, 9, 12, 13), (0, 9, 15, 15)] 7 [.ref b, vI p0, .ref o] h 1 6 (fun r9 h9 => (∃ v h8 f, QK v h8 ∧ r9 = some (vI 0) ∧ h9 = zput h8 o (eL (G.2.1 4) 1 f) ∧ f 0 = (jI v).toInt64) ∨ ∃ c : Int, (1 ≤ c ∧ c ≤ 3) ∧ QX c h9 ∧ r9 = some (vI c)) := by
  refine CTH.intro htr (by decide) rfl (Nat.le_of_ble_eq_true rfl) ?_
  intro X hln hG hR hN C E
  subst hln
  subst hG
  refine Z.aload_n C dL_pass_0 rfl ?_
  refine Z.iconst C dL_pass_1 ?_
  refine Z.aload_n C dL_pass_2 rfl ?_
  refine Z.iload_n C dL_pass_3 rfl ?_
  refine v_L_29 C rfl dL_pass_4 ho hk (by decide) (Nat.le_of_ble_eq_true rfl) (by rw [hR]; exact Nat.le_of_ble_eq_true rfl) (by rw [hR]; exact Nat.le_of_ble_eq_true rfl) (fun w9 h9 q9 => ?_) (fun E9 h9 q9 => ?_)
  · obtain ⟨v, rfl, hqk⟩ := q9
    obtain ⟨f, hf⟩ := hQ v _ hqk
    refine Z.i2l C dL_pass_7 ?_
    refine Z.lastore C dL_pass_8 hf (by decide) (by decide) (by decide) ?_
    refine Z.goto (tgt := 18) C dL_pass_9 (by decide) ?_
    refine Z.iconst C dL_pass_18 ?_
    exact Z.iretH C E dL_pass_19 (by decide) (by decide) (Or.inl ⟨_, _, _, hqk, rfl, rfl, rfl⟩)
  · rcases q9 with ⟨rfl, hq⟩ | ⟨rfl, hq⟩
    · refine ZT.catch C E [] ⟨0, 9, 12, 13⟩ [⟨0, 9, 15, 15⟩] rfl (fun z hz => absurd hz List.not_mem_nil) (by decide) (by decide) zl_k13 (by decide) (fun q => ?_)
      refine Z.astore_n (l' := [_, _, _, _]) C dL_pass_12 (Nat.le_of_ble_eq_true rfl) (by rw [hN]; decide) rfl ?_
      refine Z.iconst C dL_pass_13 ?_
      exact Z.iretH C E dL_pass_14 (by decide) (by decide) (Or.inr ⟨1, by decide, hq, rfl⟩)
    · refine ZT.catch C E [⟨0, 9, 12, 13⟩] ⟨0, 9, 15, 15⟩ [] rfl (fun z hz => by rcases List.mem_singleton.mp hz with rfl; exact ⟨by decide, _, zl_k13, by decide⟩) (by decide) (by decide) zl_k15 (by decide) (fun q => ?_)
      refine Z.astore_n (l' := [_, _, _, _]) C dL_pass_15 (Nat.le_of_ble_eq_true rfl) (by rw [hN]; decide) rfl ?_
      refine Z.iconst C dL_pass_16 ?_
      exact Z.iretH C E dL_pass_17 (by decide) (by decide) (Or.inr ⟨2, by decide, hq, rfl⟩)

set_option maxRecDepth 100000 in
theorem c_L_propose {ln : Launch} (htr : ln.stackTraces = false) {G : zG} {h : zH} {b o : Nat} {p0 p1 p2 : Int} {fs : List Value} {QK QX : Int → zH → Prop} (ho : h b = some (eO 7 fs)) (hk : CT ln G yX6_propose cX6_propose 4 (some .int) 9 [.ref b, vI p0, vI p1, vI p2] h 3 495 (fun r9 h9 => ∃ v, r9 = some (vI v) ∧ QK v h9) (fun E9 h9 => (E9 = "java/lang/IndexOutOfBoundsException" ∧ QX 1 h9) ∨ (E9 = "java/lang/IllegalArgumentException" ∧ QX 2 h9) ∨ (E9 = "java/lang/IllegalStateException" ∧ QX 3 h9))) (hQ : ∀ v h9, QK v h9 → ∃ f, h9 o = some (eL (G.2.1 4) 1 f)) : CTH ln G yL_propose cL_propose 6 (some .int) [(0, 12, 15, 21), (0, 12, 19, 13), (0, 12, 23, 15)] 10 [.ref b, vI p0, vI p1, vI p2, .ref o] h 3 495 (fun r9 h9 => (∃ v h8 f, QK v h8 ∧ r9 = some (vI 0) ∧ h9 = zput h8 o (eL (G.2.1 4) 1 f) ∧ f 0 = (jI v).toInt64) ∨ ∃ c : Int, (1 ≤ c ∧ c ≤ 3) ∧ QX c h9 ∧ r9 = some (vI c)) := by
  refine CTH.intro htr (by decide) rfl (Nat.le_of_ble_eq_true rfl) ?_
  intro X hln hG hR hN C E
  subst hln
  subst hG
  refine Z.aload C dL_propose_0 rfl ?_
  refine Z.iconst C dL_propose_2 ?_
  refine Z.aload_n C dL_propose_3 rfl ?_
  refine Z.iload_n C dL_propose_4 rfl ?_
  refine Z.iload_n C dL_propose_5 rfl ?_
  refine Z.iload_n C dL_propose_6 rfl ?_
  refine v_L_32 C rfl dL_propose_7 ho hk (by decide) (Nat.le_of_ble_eq_true rfl) (by rw [hR]; exact Nat.le_of_ble_eq_true rfl) (by rw [hR]; exact Nat.le_of_ble_eq_true rfl) (fun w9 h9 q9 => ?_) (fun E9 h9 q9 => ?_)
  · obtain ⟨v, rfl, hqk⟩ := q9
    obtain ⟨f, hf⟩ := hQ v _ hqk
    refine Z.i2l C dL_propose_10 ?_
    refine Z.lastore C dL_propose_11 hf (by decide) (by decide) (by decide) ?_
    refine Z.goto (tgt := 27) C dL_propose_12 (by decide) ?_
    refine Z.iconst C dL_propose_27 ?_
    exact Z.iretH C E dL_propose_28 (by decide) (by decide) (Or.inl ⟨_, _, _, hqk, rfl, rfl, rfl⟩)
  · rcases q9 with ⟨rfl, hq⟩ | ⟨rfl, hq⟩ | ⟨rfl, hq⟩
    · refine ZT.catch C E [] ⟨0, 12, 15, 21⟩ [⟨0, 12, 19, 13⟩, ⟨0, 12, 23, 15⟩] rfl (fun z hz => absurd hz List.not_mem_nil) (by decide) (by decide) zl_k21 (by decide) (fun q => ?_)
      refine Z.astore (l' := [_, _, _, _, _, _]) C dL_propose_15 (Nat.le_of_ble_eq_true rfl) (by rw [hN]; decide) rfl ?_
      refine Z.iconst C dL_propose_17 ?_
      exact Z.iretH C E dL_propose_18 (by decide) (by decide) (Or.inr ⟨1, by decide, hq, rfl⟩)
    · refine ZT.catch C E [⟨0, 12, 15, 21⟩] ⟨0, 12, 19, 13⟩ [⟨0, 12, 23, 15⟩] rfl (fun z hz => by rcases List.mem_singleton.mp hz with rfl; exact ⟨by decide, _, zl_k21, by decide⟩) (by decide) (by decide) zl_k13 (by decide) (fun q => ?_)
      refine Z.astore (l' := [_, _, _, _, _, _]) C dL_propose_19 (Nat.le_of_ble_eq_true rfl) (by rw [hN]; decide) rfl ?_
      refine Z.iconst C dL_propose_21 ?_
      exact Z.iretH C E dL_propose_22 (by decide) (by decide) (Or.inr ⟨2, by decide, hq, rfl⟩)
    · refine ZT.catch C E [⟨0, 12, 15, 21⟩, ⟨0, 12, 19, 13⟩] ⟨0, 12, 23, 15⟩ [] rfl (fun z hz => by
        rcases List.mem_cons.mp hz with rfl | hz
        · exact ⟨by decide, _, zl_k21, by decide⟩
        · rcases List.mem_singleton.mp hz with rfl; exact ⟨by decide, _, zl_k13, by decide⟩) (by decide) (by decide) zl_k15 (by decide) (fun q => ?_)
      refine Z.astore (l' := [_, _, _, _, _, _]) C dL_propose_23 (Nat.le_of_ble_eq_true rfl) (by rw [hN]; decide) rfl ?_
      refine Z.iconst C dL_propose_25 ?_
      exact Z.iretH C E dL_propose_26 (by decide) (by decide) (Or.inr ⟨3, by decide, hq, rfl⟩)

set_option maxRecDepth 100000 in
theorem c_L_vote {ln : Launch} (htr : ln.stackTraces = false) {G : zG} {h : zH} {b o : Nat} {p0 p1 p2 : Int} {fs : List Value} {QK QX : Int → zH → Prop} (ho : h b = some (eO 7 fs)) (hk : CT ln G yX6_vote cX6_vote 5 (some .int) 8 [.ref b, vI p0, vI p1, vI p2] h 1 6 (fun r9 h9 => ∃ v, r9 = some (vI v) ∧ QK v h9) (fun E9 h9 => (E9 = "java/lang/IndexOutOfBoundsException" ∧ QX 1 h9) ∨ (E9 = "java/lang/IllegalStateException" ∧ QX 2 h9))) (hQ : ∀ v h9, QK v h9 → ∃ f, h9 o = some (eL (G.2.1 4) 1 f)) : CTH ln G yL_vote cL_vote 6 (some .int) [(0, 12, 15, 21), (0, 12, 19, 15)] 9 [.ref b, vI p0, vI p1, vI p2, .ref o] h 1 6 (fun r9 h9 => (∃ v h8 f, QK v h8 ∧ r9 = some (vI 0) ∧ h9 = zput h8 o (eL (G.2.1 4) 1 f) ∧ f 0 = (jI v).toInt64) ∨ ∃ c : Int, (1 ≤ c ∧ c ≤ 3) ∧ QX c h9 ∧ r9 = some (vI c)) := by
  refine CTH.intro htr (by decide) rfl (Nat.le_of_ble_eq_true rfl) ?_
  intro X hln hG hR hN C E
  subst hln
  subst hG
  refine Z.aload C dL_vote_0 rfl ?_
  refine Z.iconst C dL_vote_2 ?_
  refine Z.aload_n C dL_vote_3 rfl ?_
  refine Z.iload_n C dL_vote_4 rfl ?_
  refine Z.iload_n C dL_vote_5 rfl ?_
  refine Z.iload_n C dL_vote_6 rfl ?_
  refine v_L_36 C rfl dL_vote_7 ho hk (by decide) (Nat.le_of_ble_eq_true rfl) (by rw [hR]; exact Nat.le_of_ble_eq_true rfl) (by rw [hR]; exact Nat.le_of_ble_eq_true rfl) (fun w9 h9 q9 => ?_) (fun E9 h9 q9 => ?_)
  · obtain ⟨v, rfl, hqk⟩ := q9
    obtain ⟨f, hf⟩ := hQ v _ hqk
    refine Z.i2l C dL_vote_10 ?_
    refine Z.lastore C dL_vote_11 hf (by decide) (by decide) (by decide) ?_
    refine Z.goto (tgt := 23) C dL_vote_12 (by decide) ?_
    refine Z.iconst C dL_vote_23 ?_
    exact Z.iretH C E dL_vote_24 (by decide) (by decide) (Or.inl ⟨_, _, _, hqk, rfl, rfl, rfl⟩)
  · rcases q9 with ⟨rfl, hq⟩ | ⟨rfl, hq⟩
    · refine ZT.catch C E [] ⟨0, 12, 15, 21⟩ [⟨0, 12, 19, 15⟩] rfl (fun z hz => absurd hz List.not_mem_nil) (by decide) (by decide) zl_k21 (by decide) (fun q => ?_)
      refine Z.astore (l' := [_, _, _, _, _, _]) C dL_vote_15 (Nat.le_of_ble_eq_true rfl) (by rw [hN]; decide) rfl ?_
      refine Z.iconst C dL_vote_17 ?_
      exact Z.iretH C E dL_vote_18 (by decide) (by decide) (Or.inr ⟨1, by decide, hq, rfl⟩)
    · refine ZT.catch C E [⟨0, 12, 15, 21⟩] ⟨0, 12, 19, 15⟩ [] rfl (fun z hz => by rcases List.mem_singleton.mp hz with rfl; exact ⟨by decide, _, zl_k21, by decide⟩) (by decide) (by decide) zl_k15 (by decide) (fun q => ?_)
      refine Z.astore (l' := [_, _, _, _, _, _]) C dL_vote_19 (Nat.le_of_ble_eq_true rfl) (by rw [hN]; decide) rfl ?_
      refine Z.iconst C dL_vote_21 ?_
      exact Z.iretH C E dL_vote_22 (by decide) (by decide) (Or.inr ⟨2, by decide, hq, rfl⟩)

set_option maxRecDepth 100000 in
theorem c_L_rule {ln : Launch} (htr : ln.stackTraces = false) {G : zG} {h : zH} {b o : Nat} {p0 : Int} {fs : List Value} {QK QX : Int → zH → Prop} (ho : h b = some (eO 7 fs)) (hk : CT ln G yX6_rule cX6_rule 2 (some .int) 7 [.ref b, vI p0] h 1 6 (fun r9 h9 => ∃ v, r9 = some (vI v) ∧ QK v h9) (fun E9 h9 => (E9 = "java/lang/IndexOutOfBoundsException" ∧ QX 1 h9))) (hQ : ∀ v h9, QK v h9 → ∃ f, h9 o = some (eL (G.2.1 4) 1 f)) : CTH ln G yL_rule cL_rule 4 (some .int) [(0, 9, 12, 21)] 8 [.ref b, vI p0, .ref o] h 1 6 (fun r9 h9 => (∃ v h8 f, QK v h8 ∧ r9 = some (vI 0) ∧ h9 = zput h8 o (eL (G.2.1 4) 1 f) ∧ f 0 = (jI v).toInt64) ∨ ∃ c : Int, (1 ≤ c ∧ c ≤ 3) ∧ QX c h9 ∧ r9 = some (vI c)) := by
  refine CTH.intro htr (by decide) rfl (Nat.le_of_ble_eq_true rfl) ?_
  intro X hln hG hR hN C E
  subst hln
  subst hG
  refine Z.aload_n C dL_rule_0 rfl ?_
  refine Z.iconst C dL_rule_1 ?_
  refine Z.aload_n C dL_rule_2 rfl ?_
  refine Z.iload_n C dL_rule_3 rfl ?_
  refine v_L_40 C rfl dL_rule_4 ho hk (by decide) (Nat.le_of_ble_eq_true rfl) (by rw [hR]; exact Nat.le_of_ble_eq_true rfl) (by rw [hR]; exact Nat.le_of_ble_eq_true rfl) (fun w9 h9 q9 => ?_) (fun E9 h9 q9 => ?_)
  · obtain ⟨v, rfl, hqk⟩ := q9
    obtain ⟨f, hf⟩ := hQ v _ hqk
    refine Z.i2l C dL_rule_7 ?_
    refine Z.lastore C dL_rule_8 hf (by decide) (by decide) (by decide) ?_
    refine Z.goto (tgt := 15) C dL_rule_9 (by decide) ?_
    refine Z.iconst C dL_rule_15 ?_
    exact Z.iretH C E dL_rule_16 (by decide) (by decide) (Or.inl ⟨_, _, _, hqk, rfl, rfl, rfl⟩)
  · obtain ⟨rfl, hq⟩ := q9
    refine ZT.catch C E [] ⟨0, 9, 12, 21⟩ [] rfl (fun z hz => absurd hz List.not_mem_nil) (by decide) (by decide) zl_k21 (by decide) (fun q => ?_)
    refine Z.astore_n (l' := [_, _, _, _]) C dL_rule_12 (Nat.le_of_ble_eq_true rfl) (by rw [hN]; decide) rfl ?_
    refine Z.iconst C dL_rule_13 ?_
    exact Z.iretH C E dL_rule_14 (by decide) (by decide) (Or.inr ⟨1, by decide, hq, rfl⟩)

set_option maxRecDepth 100000 in
theorem c_L_proposal {ln : Launch} (htr : ln.stackTraces = false) {G : zG} {h : zH} {b o : Nat} {p0 p1 : Int} {fs : List Value} {QK QX : Int → zH → Prop} (ho : h b = some (eO 7 fs)) (hk : CT ln G yX6_proposal cX6_proposal 4 (some .int) 7 [.ref b, vI p0, vI p1] h 1 6 (fun r9 h9 => ∃ v, r9 = some (vI v) ∧ QK v h9) (fun E9 h9 => (E9 = "java/lang/IndexOutOfBoundsException" ∧ QX 1 h9) ∨ (E9 = "java/lang/IllegalArgumentException" ∧ QX 2 h9))) (hQ : ∀ v h9, QK v h9 → ∃ f, h9 o = some (eL (G.2.1 4) 1 f)) : CTH ln G yL_proposal cL_proposal 5 (some .int) [(0, 10, 13, 21), (0, 10, 17, 13)] 8 [.ref b, vI p0, vI p1, .ref o] h 1 6 (fun r9 h9 => (∃ v h8 f, QK v h8 ∧ r9 = some (vI 0) ∧ h9 = zput h8 o (eL (G.2.1 4) 1 f) ∧ f 0 = (jI v).toInt64) ∨ ∃ c : Int, (1 ≤ c ∧ c ≤ 3) ∧ QX c h9 ∧ r9 = some (vI c)) := by
  refine CTH.intro htr (by decide) rfl (Nat.le_of_ble_eq_true rfl) ?_
  intro X hln hG hR hN C E
  subst hln
  subst hG
  refine Z.aload_n C dL_proposal_0 rfl ?_
  refine Z.iconst C dL_proposal_1 ?_
  refine Z.aload_n C dL_proposal_2 rfl ?_
  refine Z.iload_n C dL_proposal_3 rfl ?_
  refine Z.iload_n C dL_proposal_4 rfl ?_
  refine v_L_43 C rfl dL_proposal_5 ho hk (by decide) (Nat.le_of_ble_eq_true rfl) (by rw [hR]; exact Nat.le_of_ble_eq_true rfl) (by rw [hR]; exact Nat.le_of_ble_eq_true rfl) (fun w9 h9 q9 => ?_) (fun E9 h9 q9 => ?_)
  · obtain ⟨v, rfl, hqk⟩ := q9
    obtain ⟨f, hf⟩ := hQ v _ hqk
    refine Z.i2l C dL_proposal_8 ?_
    refine Z.lastore C dL_proposal_9 hf (by decide) (by decide) (by decide) ?_
    refine Z.goto (tgt := 21) C dL_proposal_10 (by decide) ?_
    refine Z.iconst C dL_proposal_21 ?_
    exact Z.iretH C E dL_proposal_22 (by decide) (by decide) (Or.inl ⟨_, _, _, hqk, rfl, rfl, rfl⟩)
  · rcases q9 with ⟨rfl, hq⟩ | ⟨rfl, hq⟩
    · refine ZT.catch C E [] ⟨0, 10, 13, 21⟩ [⟨0, 10, 17, 13⟩] rfl (fun z hz => absurd hz List.not_mem_nil) (by decide) (by decide) zl_k21 (by decide) (fun q => ?_)
      refine Z.astore (l' := [_, _, _, _, _]) C dL_proposal_13 (Nat.le_of_ble_eq_true rfl) (by rw [hN]; decide) rfl ?_
      refine Z.iconst C dL_proposal_15 ?_
      exact Z.iretH C E dL_proposal_16 (by decide) (by decide) (Or.inr ⟨1, by decide, hq, rfl⟩)
    · refine ZT.catch C E [⟨0, 10, 13, 21⟩] ⟨0, 10, 17, 13⟩ [] rfl (fun z hz => by rcases List.mem_singleton.mp hz with rfl; exact ⟨by decide, _, zl_k21, by decide⟩) (by decide) (by decide) zl_k13 (by decide) (fun q => ?_)
      refine Z.astore (l' := [_, _, _, _, _]) C dL_proposal_17 (Nat.le_of_ble_eq_true rfl) (by rw [hN]; decide) rfl ?_
      refine Z.iconst C dL_proposal_19 ?_
      exact Z.iretH C E dL_proposal_20 (by decide) (by decide) (Or.inr ⟨2, by decide, hq, rfl⟩)

set_option maxRecDepth 100000 in
theorem c_L_member {ln : Launch} (htr : ln.stackTraces = false) {G : zG} {h : zH} {b o : Nat} {p0 p1 : Int} {fs : List Value} {QK QX : Int → zH → Prop} (ho : h b = some (eO 7 fs)) (hk : CT ln G yX6_member cX6_member 4 (some .int) 7 [.ref b, vI p0, vI p1] h 1 6 (fun r9 h9 => ∃ v, r9 = some (vI v) ∧ QK v h9) (fun E9 h9 => (E9 = "java/lang/IndexOutOfBoundsException" ∧ QX 1 h9) ∨ (E9 = "java/lang/IllegalArgumentException" ∧ QX 2 h9))) (hQ : ∀ v h9, QK v h9 → ∃ f, h9 o = some (eL (G.2.1 4) 1 f)) : CTH ln G yL_member cL_member 5 (some .int) [(0, 10, 13, 21), (0, 10, 17, 13)] 8 [.ref b, vI p0, vI p1, .ref o] h 1 6 (fun r9 h9 => (∃ v h8 f, QK v h8 ∧ r9 = some (vI 0) ∧ h9 = zput h8 o (eL (G.2.1 4) 1 f) ∧ f 0 = (jI v).toInt64) ∨ ∃ c : Int, (1 ≤ c ∧ c ≤ 3) ∧ QX c h9 ∧ r9 = some (vI c)) := by
  refine CTH.intro htr (by decide) rfl (Nat.le_of_ble_eq_true rfl) ?_
  intro X hln hG hR hN C E
  subst hln
  subst hG
  refine Z.aload_n C dL_member_0 rfl ?_
  refine Z.iconst C dL_member_1 ?_
  refine Z.aload_n C dL_member_2 rfl ?_
  refine Z.iload_n C dL_member_3 rfl ?_
  refine Z.iload_n C dL_member_4 rfl ?_
  refine v_L_46 C rfl dL_member_5 ho hk (by decide) (Nat.le_of_ble_eq_true rfl) (by rw [hR]; exact Nat.le_of_ble_eq_true rfl) (by rw [hR]; exact Nat.le_of_ble_eq_true rfl) (fun w9 h9 q9 => ?_) (fun E9 h9 q9 => ?_)
  · obtain ⟨v, rfl, hqk⟩ := q9
    obtain ⟨f, hf⟩ := hQ v _ hqk
    refine Z.i2l C dL_member_8 ?_
    refine Z.lastore C dL_member_9 hf (by decide) (by decide) (by decide) ?_
    refine Z.goto (tgt := 21) C dL_member_10 (by decide) ?_
    refine Z.iconst C dL_member_21 ?_
    exact Z.iretH C E dL_member_22 (by decide) (by decide) (Or.inl ⟨_, _, _, hqk, rfl, rfl, rfl⟩)
  · rcases q9 with ⟨rfl, hq⟩ | ⟨rfl, hq⟩
    · refine ZT.catch C E [] ⟨0, 10, 13, 21⟩ [⟨0, 10, 17, 13⟩] rfl (fun z hz => absurd hz List.not_mem_nil) (by decide) (by decide) zl_k21 (by decide) (fun q => ?_)
      refine Z.astore (l' := [_, _, _, _, _]) C dL_member_13 (Nat.le_of_ble_eq_true rfl) (by rw [hN]; decide) rfl ?_
      refine Z.iconst C dL_member_15 ?_
      exact Z.iretH C E dL_member_16 (by decide) (by decide) (Or.inr ⟨1, by decide, hq, rfl⟩)
    · refine ZT.catch C E [⟨0, 10, 13, 21⟩] ⟨0, 10, 17, 13⟩ [] rfl (fun z hz => by rcases List.mem_singleton.mp hz with rfl; exact ⟨by decide, _, zl_k21, by decide⟩) (by decide) (by decide) zl_k13 (by decide) (fun q => ?_)
      refine Z.astore (l' := [_, _, _, _, _]) C dL_member_17 (Nat.le_of_ble_eq_true rfl) (by rw [hN]; decide) rfl ?_
      refine Z.iconst C dL_member_19 ?_
      exact Z.iretH C E dL_member_20 (by decide) (by decide) (Or.inr ⟨2, by decide, hq, rfl⟩)

set_option maxRecDepth 100000 in
theorem c_L_has {ln : Launch} (htr : ln.stackTraces = false) {G : zG} {h : zH} {b o : Nat} {p0 p1 : Int} {fs : List Value} {QK QX : Int → zH → Prop} (ho : h b = some (eO 7 fs)) (hk : CT ln G yX6_has cX6_has 4 (some .boolean) 7 [.ref b, vI p0, vI p1] h 1 6 (fun r9 h9 => ∃ v, r9 = some (vI v) ∧ QK v h9) (fun E9 h9 => (E9 = "java/lang/IndexOutOfBoundsException" ∧ QX 1 h9))) (hQ : ∀ v h9, QK v h9 → ∃ f, h9 o = some (eL (G.2.1 4) 1 f)) (h01 : ∀ v h9, QK v h9 → v = 0 ∨ v = 1) : CTH ln G yL_has cL_has 5 (some .int) [(0, 17, 20, 21)] 8 [.ref b, vI p0, vI p1, .ref o] h 1 6 (fun r9 h9 => (∃ v h8 f, QK v h8 ∧ r9 = some (vI 0) ∧ h9 = zput h8 o (eL (G.2.1 4) 1 f) ∧ f 0 = (jI v).toInt64) ∨ ∃ c : Int, (1 ≤ c ∧ c ≤ 3) ∧ QX c h9 ∧ r9 = some (vI c)) := by
  refine CTH.intro htr (by decide) rfl (Nat.le_of_ble_eq_true rfl) ?_
  intro X hln hG hR hN C E
  subst hln
  subst hG
  refine Z.aload_n C dL_has_0 rfl ?_
  refine Z.iconst C dL_has_1 ?_
  refine Z.aload_n C dL_has_2 rfl ?_
  refine Z.iload_n C dL_has_3 rfl ?_
  refine Z.iload_n C dL_has_4 rfl ?_
  refine v_L_49 C rfl dL_has_5 ho hk (by decide) (Nat.le_of_ble_eq_true rfl) (by rw [hR]; exact Nat.le_of_ble_eq_true rfl) (by rw [hR]; exact Nat.le_of_ble_eq_true rfl) (fun w9 h9 q9 => ?_) (fun E9 h9 q9 => ?_)
  · obtain ⟨v, rfl, hqk⟩ := q9
    obtain ⟨f, hf⟩ := hQ v _ hqk
    have hv := h01 v _ hqk
    refine Z.if_eq (tgt := 15) C dL_has_8 (by decide) (by omega) (by omega) (fun c1 => ?_) (fun c1 => ?_)
    · obtain rfl : v = 0 := by omega
      refine Z.lconst C dL_has_15 ?_
      refine Z.lastore C dL_has_16 hf (by decide) (by decide) (by decide) ?_
      refine Z.goto (tgt := 24) C dL_has_17 (by decide) ?_
      refine Z.iconst C dL_has_24 ?_
      exact Z.iretH C E dL_has_25 (by decide) (by decide) (Or.inl ⟨_, _, _, hqk, rfl, rfl, by show Int64.ofNat _ = _; decide⟩)
    · obtain rfl : v = 1 := by omega
      refine Z.lconst C dL_has_11 ?_
      refine Z.goto (tgt := 16) C dL_has_12 (by decide) ?_
      refine Z.lastore C dL_has_16 hf (by decide) (by decide) (by decide) ?_
      refine Z.goto (tgt := 24) C dL_has_17 (by decide) ?_
      refine Z.iconst C dL_has_24 ?_
      exact Z.iretH C E dL_has_25 (by decide) (by decide) (Or.inl ⟨_, _, _, hqk, rfl, rfl, by show Int64.ofNat _ = _; decide⟩)
  · obtain ⟨rfl, hq⟩ := q9
    refine ZT.catch C E [] ⟨0, 17, 20, 21⟩ [] rfl (fun z hz => absurd hz List.not_mem_nil) (by decide) (by decide) zl_k21 (by decide) (fun q => ?_)
    refine Z.astore (l' := [_, _, _, _, _]) C dL_has_20 (Nat.le_of_ble_eq_true rfl) (by rw [hN]; decide) rfl ?_
    refine Z.iconst C dL_has_22 ?_
    exact Z.iretH C E dL_has_23 (by decide) (by decide) (Or.inr ⟨1, by decide, hq, rfl⟩)

set_option maxRecDepth 100000 in
theorem c_L_owes {ln : Launch} (htr : ln.stackTraces = false) {G : zG} {h : zH} {b o : Nat} {p0 p1 : Int} {fs : List Value} {QK QX : Int → zH → Prop} (ho : h b = some (eO 7 fs)) (hk : CT ln G yX6_owes cX6_owes 4 (some .int) 7 [.ref b, vI p0, vI p1] h 1 6 (fun r9 h9 => ∃ v, r9 = some (vI v) ∧ QK v h9) (fun E9 h9 => (E9 = "java/lang/IndexOutOfBoundsException" ∧ QX 1 h9))) (hQ : ∀ v h9, QK v h9 → ∃ f, h9 o = some (eL (G.2.1 4) 1 f)) : CTH ln G yL_owes cL_owes 5 (some .int) [(0, 10, 13, 21)] 8 [.ref b, vI p0, vI p1, .ref o] h 1 6 (fun r9 h9 => (∃ v h8 f, QK v h8 ∧ r9 = some (vI 0) ∧ h9 = zput h8 o (eL (G.2.1 4) 1 f) ∧ f 0 = (jI v).toInt64) ∨ ∃ c : Int, (1 ≤ c ∧ c ≤ 3) ∧ QX c h9 ∧ r9 = some (vI c)) := by
  refine CTH.intro htr (by decide) rfl (Nat.le_of_ble_eq_true rfl) ?_
  intro X hln hG hR hN C E
  subst hln
  subst hG
  refine Z.aload_n C dL_owes_0 rfl ?_
  refine Z.iconst C dL_owes_1 ?_
  refine Z.aload_n C dL_owes_2 rfl ?_
  refine Z.iload_n C dL_owes_3 rfl ?_
  refine Z.iload_n C dL_owes_4 rfl ?_
  refine v_L_53 C rfl dL_owes_5 ho hk (by decide) (Nat.le_of_ble_eq_true rfl) (by rw [hR]; exact Nat.le_of_ble_eq_true rfl) (by rw [hR]; exact Nat.le_of_ble_eq_true rfl) (fun w9 h9 q9 => ?_) (fun E9 h9 q9 => ?_)
  · obtain ⟨v, rfl, hqk⟩ := q9
    obtain ⟨f, hf⟩ := hQ v _ hqk
    refine Z.i2l C dL_owes_8 ?_
    refine Z.lastore C dL_owes_9 hf (by decide) (by decide) (by decide) ?_
    refine Z.goto (tgt := 17) C dL_owes_10 (by decide) ?_
    refine Z.iconst C dL_owes_17 ?_
    exact Z.iretH C E dL_owes_18 (by decide) (by decide) (Or.inl ⟨_, _, _, hqk, rfl, rfl, rfl⟩)
  · obtain ⟨rfl, hq⟩ := q9
    refine ZT.catch C E [] ⟨0, 10, 13, 21⟩ [] rfl (fun z hz => absurd hz List.not_mem_nil) (by decide) (by decide) zl_k21 (by decide) (fun q => ?_)
    refine Z.astore (l' := [_, _, _, _, _]) C dL_owes_13 (Nat.le_of_ble_eq_true rfl) (by rw [hN]; decide) rfl ?_
    refine Z.iconst C dL_owes_15 ?_
    exact Z.iretH C E dL_owes_16 (by decide) (by decide) (Or.inr ⟨1, by decide, hq, rfl⟩)

set_option maxRecDepth 100000 in
theorem c_L_worth {ln : Launch} (htr : ln.stackTraces = false) {G : zG} {h : zH} {b o : Nat} {p0 : Int} {fs : List Value} {QK QX : Int → zH → Prop} (ho : h b = some (eO 7 fs)) (hk : CT ln G yX6_worth cX6_worth 2 (some .int) 7 [.ref b, vI p0] h 1 6 (fun r9 h9 => ∃ v, r9 = some (vI v) ∧ QK v h9) (fun E9 h9 => (E9 = "java/lang/IndexOutOfBoundsException" ∧ QX 1 h9))) (hQ : ∀ v h9, QK v h9 → ∃ f, h9 o = some (eL (G.2.1 4) 1 f)) : CTH ln G yL_worth cL_worth 4 (some .int) [(0, 9, 12, 21)] 8 [.ref b, vI p0, .ref o] h 1 6 (fun r9 h9 => (∃ v h8 f, QK v h8 ∧ r9 = some (vI 0) ∧ h9 = zput h8 o (eL (G.2.1 4) 1 f) ∧ f 0 = (jI v).toInt64) ∨ ∃ c : Int, (1 ≤ c ∧ c ≤ 3) ∧ QX c h9 ∧ r9 = some (vI c)) := by
  refine CTH.intro htr (by decide) rfl (Nat.le_of_ble_eq_true rfl) ?_
  intro X hln hG hR hN C E
  subst hln
  subst hG
  refine Z.aload_n C dL_worth_0 rfl ?_
  refine Z.iconst C dL_worth_1 ?_
  refine Z.aload_n C dL_worth_2 rfl ?_
  refine Z.iload_n C dL_worth_3 rfl ?_
  refine v_L_56 C rfl dL_worth_4 ho hk (by decide) (Nat.le_of_ble_eq_true rfl) (by rw [hR]; exact Nat.le_of_ble_eq_true rfl) (by rw [hR]; exact Nat.le_of_ble_eq_true rfl) (fun w9 h9 q9 => ?_) (fun E9 h9 q9 => ?_)
  · obtain ⟨v, rfl, hqk⟩ := q9
    obtain ⟨f, hf⟩ := hQ v _ hqk
    refine Z.i2l C dL_worth_7 ?_
    refine Z.lastore C dL_worth_8 hf (by decide) (by decide) (by decide) ?_
    refine Z.goto (tgt := 15) C dL_worth_9 (by decide) ?_
    refine Z.iconst C dL_worth_15 ?_
    exact Z.iretH C E dL_worth_16 (by decide) (by decide) (Or.inl ⟨_, _, _, hqk, rfl, rfl, rfl⟩)
  · obtain ⟨rfl, hq⟩ := q9
    refine ZT.catch C E [] ⟨0, 9, 12, 21⟩ [] rfl (fun z hz => absurd hz List.not_mem_nil) (by decide) (by decide) zl_k21 (by decide) (fun q => ?_)
    refine Z.astore_n (l' := [_, _, _, _]) C dL_worth_12 (Nat.le_of_ble_eq_true rfl) (by rw [hN]; decide) rfl ?_
    refine Z.iconst C dL_worth_13 ?_
    exact Z.iretH C E dL_worth_14 (by decide) (by decide) (Or.inr ⟨1, by decide, hq, rfl⟩)

set_option maxRecDepth 100000 in
theorem c_L_accountAnew {ln : Launch} (htr : ln.stackTraces = false) {G : zG} {h : zH} {b o : Nat} {p0 : Int} {fs : List Value} {QK QX : Int → zH → Prop} (ho : h b = some (eO 7 fs)) (hk : CT ln G yX6_accountAnew cX6_accountAnew 2 (some .int) 8 [.ref b, vI p0] h 2 13 (fun r9 h9 => ∃ v, r9 = some (vI v) ∧ QK v h9) (fun E9 h9 => (E9 = "java/lang/IndexOutOfBoundsException" ∧ QX 1 h9))) (hQ : ∀ v h9, QK v h9 → ∃ f, h9 o = some (eL (G.2.1 4) 1 f)) : CTH ln G yL_accountAnew cL_accountAnew 4 (some .int) [(0, 9, 12, 21)] 9 [.ref b, vI p0, .ref o] h 2 13 (fun r9 h9 => (∃ v h8 f, QK v h8 ∧ r9 = some (vI 0) ∧ h9 = zput h8 o (eL (G.2.1 4) 1 f) ∧ f 0 = (jI v).toInt64) ∨ ∃ c : Int, (1 ≤ c ∧ c ≤ 3) ∧ QX c h9 ∧ r9 = some (vI c)) := by
  refine CTH.intro htr (by decide) rfl (Nat.le_of_ble_eq_true rfl) ?_
  intro X hln hG hR hN C E
  subst hln
  subst hG
  refine Z.aload_n C dL_accountAnew_0 rfl ?_
  refine Z.iconst C dL_accountAnew_1 ?_
  refine Z.aload_n C dL_accountAnew_2 rfl ?_
  refine Z.iload_n C dL_accountAnew_3 rfl ?_
  refine v_L_59 C rfl dL_accountAnew_4 ho hk (by decide) (Nat.le_of_ble_eq_true rfl) (by rw [hR]; exact Nat.le_of_ble_eq_true rfl) (by rw [hR]; exact Nat.le_of_ble_eq_true rfl) (fun w9 h9 q9 => ?_) (fun E9 h9 q9 => ?_)
  · obtain ⟨v, rfl, hqk⟩ := q9
    obtain ⟨f, hf⟩ := hQ v _ hqk
    refine Z.i2l C dL_accountAnew_7 ?_
    refine Z.lastore C dL_accountAnew_8 hf (by decide) (by decide) (by decide) ?_
    refine Z.goto (tgt := 15) C dL_accountAnew_9 (by decide) ?_
    refine Z.iconst C dL_accountAnew_15 ?_
    exact Z.iretH C E dL_accountAnew_16 (by decide) (by decide) (Or.inl ⟨_, _, _, hqk, rfl, rfl, rfl⟩)
  · obtain ⟨rfl, hq⟩ := q9
    refine ZT.catch C E [] ⟨0, 9, 12, 21⟩ [] rfl (fun z hz => absurd hz List.not_mem_nil) (by decide) (by decide) zl_k21 (by decide) (fun q => ?_)
    refine Z.astore_n (l' := [_, _, _, _]) C dL_accountAnew_12 (Nat.le_of_ble_eq_true rfl) (by rw [hN]; decide) rfl ?_
    refine Z.iconst C dL_accountAnew_13 ?_
    exact Z.iretH C E dL_accountAnew_14 (by decide) (by decide) (Or.inr ⟨1, by decide, hq, rfl⟩)

set_option maxRecDepth 100000 in
theorem c_L_owesAnew {ln : Launch} (htr : ln.stackTraces = false) {G : zG} {h : zH} {b o : Nat} {p0 p1 : Int} {fs : List Value} {QK QX : Int → zH → Prop} (ho : h b = some (eO 7 fs)) (hk : CT ln G yX6_owesAnew cX6_owesAnew 3 (some .int) 8 [.ref b, vI p0, vI p1] h 2 13 (fun r9 h9 => ∃ v, r9 = some (vI v) ∧ QK v h9) (fun E9 h9 => (E9 = "java/lang/IndexOutOfBoundsException" ∧ QX 1 h9))) (hQ : ∀ v h9, QK v h9 → ∃ f, h9 o = some (eL (G.2.1 4) 1 f)) : CTH ln G yL_owesAnew cL_owesAnew 5 (some .int) [(0, 10, 13, 21)] 9 [.ref b, vI p0, vI p1, .ref o] h 2 13 (fun r9 h9 => (∃ v h8 f, QK v h8 ∧ r9 = some (vI 0) ∧ h9 = zput h8 o (eL (G.2.1 4) 1 f) ∧ f 0 = (jI v).toInt64) ∨ ∃ c : Int, (1 ≤ c ∧ c ≤ 3) ∧ QX c h9 ∧ r9 = some (vI c)) := by
  refine CTH.intro htr (by decide) rfl (Nat.le_of_ble_eq_true rfl) ?_
  intro X hln hG hR hN C E
  subst hln
  subst hG
  refine Z.aload_n C dL_owesAnew_0 rfl ?_
  refine Z.iconst C dL_owesAnew_1 ?_
  refine Z.aload_n C dL_owesAnew_2 rfl ?_
  refine Z.iload_n C dL_owesAnew_3 rfl ?_
  refine Z.iload_n C dL_owesAnew_4 rfl ?_
  refine v_L_62 C rfl dL_owesAnew_5 ho hk (by decide) (Nat.le_of_ble_eq_true rfl) (by rw [hR]; exact Nat.le_of_ble_eq_true rfl) (by rw [hR]; exact Nat.le_of_ble_eq_true rfl) (fun w9 h9 q9 => ?_) (fun E9 h9 q9 => ?_)
  · obtain ⟨v, rfl, hqk⟩ := q9
    obtain ⟨f, hf⟩ := hQ v _ hqk
    refine Z.i2l C dL_owesAnew_8 ?_
    refine Z.lastore C dL_owesAnew_9 hf (by decide) (by decide) (by decide) ?_
    refine Z.goto (tgt := 17) C dL_owesAnew_10 (by decide) ?_
    refine Z.iconst C dL_owesAnew_17 ?_
    exact Z.iretH C E dL_owesAnew_18 (by decide) (by decide) (Or.inl ⟨_, _, _, hqk, rfl, rfl, rfl⟩)
  · obtain ⟨rfl, hq⟩ := q9
    refine ZT.catch C E [] ⟨0, 10, 13, 21⟩ [] rfl (fun z hz => absurd hz List.not_mem_nil) (by decide) (by decide) zl_k21 (by decide) (fun q => ?_)
    refine Z.astore (l' := [_, _, _, _, _]) C dL_owesAnew_13 (Nat.le_of_ble_eq_true rfl) (by rw [hN]; decide) rfl ?_
    refine Z.iconst C dL_owesAnew_15 ?_
    exact Z.iretH C E dL_owesAnew_16 (by decide) (by decide) (Or.inr ⟨1, by decide, hq, rfl⟩)

set_option maxRecDepth 100000 in
theorem c_L_told {ln : Launch} (htr : ln.stackTraces = false) {G : zG} {h : zH} {b o : Nat} {p0 : Int} {fs : List Value} {QK QX : Int → zH → Prop} (ho : h b = some (eO 7 fs)) (hk : CT ln G yX6_told cX6_told 4 (some .char) 9 [.ref b, vI p0] h 8 2276 (fun r9 h9 => ∃ v, r9 = some (vI v) ∧ QK v h9) (fun E9 h9 => (E9 = "java/lang/IndexOutOfBoundsException" ∧ QX 1 h9))) (hQ : ∀ v h9, QK v h9 → ∃ f, h9 o = some (eL (G.2.1 4) 1 f)) : CTH ln G yL_told cL_told 4 (some .int) [(0, 9, 12, 21)] 10 [.ref b, vI p0, .ref o] h 8 2276 (fun r9 h9 => (∃ v h8 f, QK v h8 ∧ r9 = some (vI 0) ∧ h9 = zput h8 o (eL (G.2.1 4) 1 f) ∧ f 0 = (jI v).toInt64) ∨ ∃ c : Int, (1 ≤ c ∧ c ≤ 3) ∧ QX c h9 ∧ r9 = some (vI c)) := by
  refine CTH.intro htr (by decide) rfl (Nat.le_of_ble_eq_true rfl) ?_
  intro X hln hG hR hN C E
  subst hln
  subst hG
  refine Z.aload_n C dL_told_0 rfl ?_
  refine Z.iconst C dL_told_1 ?_
  refine Z.aload_n C dL_told_2 rfl ?_
  refine Z.iload_n C dL_told_3 rfl ?_
  refine v_L_65 C rfl dL_told_4 ho hk (by decide) (Nat.le_of_ble_eq_true rfl) (by rw [hR]; exact Nat.le_of_ble_eq_true rfl) (by rw [hR]; exact Nat.le_of_ble_eq_true rfl) (fun w9 h9 q9 => ?_) (fun E9 h9 q9 => ?_)
  · obtain ⟨v, rfl, hqk⟩ := q9
    obtain ⟨f, hf⟩ := hQ v _ hqk
    refine Z.i2l C dL_told_7 ?_
    refine Z.lastore C dL_told_8 hf (by decide) (by decide) (by decide) ?_
    refine Z.goto (tgt := 15) C dL_told_9 (by decide) ?_
    refine Z.iconst C dL_told_15 ?_
    exact Z.iretH C E dL_told_16 (by decide) (by decide) (Or.inl ⟨_, _, _, hqk, rfl, rfl, rfl⟩)
  · obtain ⟨rfl, hq⟩ := q9
    refine ZT.catch C E [] ⟨0, 9, 12, 21⟩ [] rfl (fun z hz => absurd hz List.not_mem_nil) (by decide) (by decide) zl_k21 (by decide) (fun q => ?_)
    refine Z.astore_n (l' := [_, _, _, _]) C dL_told_12 (Nat.le_of_ble_eq_true rfl) (by rw [hN]; decide) rfl ?_
    refine Z.iconst C dL_told_13 ?_
    exact Z.iretH C E dL_told_14 (by decide) (by decide) (Or.inr ⟨1, by decide, hq, rfl⟩)

