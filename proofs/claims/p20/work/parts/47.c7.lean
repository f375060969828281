/-! writing one number of the club -/
theorem cN_su (T : Nat → Nat → Int) {k : Nat} (j : Nat) (v : Int) (h2 : k ≠ 2) (h10 : k ≠ 10) (h15 : k ≠ 15) (h31 : k ≠ 31) (g : Nat) : cN (su T k j v) g = cN T g := by
  unfold cN
  split
  · rw [su_ne T j v (Ne.symm h2)]
  · rw [su_ne T j v (Ne.symm h10)]
  · rw [su_ne T j v (Ne.symm h15)]
  · rw [su_ne T j v (Ne.symm h31)]
  · rfl
  · rfl

theorem CR.st1 {G : zG} {ad : Nat → Nat → Nat} {el : Nat → Nat} {T : Nat → Nat → Int} {h : zH} (R : CR G ad el T h) (v : Int) : CR G ad el (su T 1 0 v) (zput h (ad 0 0) (eO 7 [.ref (ad 10 0), .ref (ad 10 1), .ref (ad 10 2), .ref (ad 10 3), vI v, vI (T 14 0)])) := by
  refine R.put (k := 0) (i := 0) (Nat.lt_succ_self 0) (cN_su T 0 v (by decide) (by decide) (by decide) (by decide)) (fun k' i' hi' hne => ?_) rfl
  unfold cel
  split
  all_goals first
    | rfl
    | (exact absurd ⟨rfl, by have : i' < 1 := hi'; omega⟩ hne)

theorem CR.st14 {G : zG} {ad : Nat → Nat → Nat} {el : Nat → Nat} {T : Nat → Nat → Int} {h : zH} (R : CR G ad el T h) (v : Int) : CR G ad el (su T 14 0 v) (zput h (ad 0 0) (eO 7 [.ref (ad 10 0), .ref (ad 10 1), .ref (ad 10 2), .ref (ad 10 3), vI (T 1 0), vI v])) := by
  refine R.put (k := 0) (i := 0) (Nat.lt_succ_self 0) (cN_su T 0 v (by decide) (by decide) (by decide) (by decide)) (fun k' i' hi' hne => ?_) rfl
  unfold cel
  split
  all_goals first
    | rfl
    | (exact absurd ⟨rfl, by have : i' < 1 := hi'; omega⟩ hne)

theorem cel_su3 (G : zG) (ad : Nat → Nat → Nat) (T : Nat → Nat → Int) (j : Nat) (v : Int) (k' i' : Nat) (hne : ¬ (k' = 1 ∧ i' = j)) : cel G ad (su T 3 j v) k' i' = cel G ad T k' i' := by
  unfold cel
  split
  all_goals first
    | rfl
    | (have e : su T 3 j v 3 i' = T 3 i' := by rw [su_at, if_neg (fun z => hne ⟨rfl, z.2⟩)]
       rw [e] <;> rfl)

theorem CR.st3 {G : zG} {ad : Nat → Nat → Nat} {el : Nat → Nat} {T : Nat → Nat → Int} {h : zH} (R : CR G ad el T h) {j : Nat} (hj : j < cN T 0) (v : Int) : CR G ad el (su T 3 j v) (zput h (ad 1 j) (eO 5 [vI (j : Int), vI (T 4 j), vI (T 6 j), .ref (ad 3 j), .ref (ad 2 j), vI v, vI (T 5 j), vI (T 8 j)])) := by
  refine R.put (k := 1) (i := j) hj (cN_su T j v (by decide) (by decide) (by decide) (by decide)) (fun k' i' _ hne => cel_su3 G ad T j v k' i' hne) ?_
  have e : su T 3 j v 3 j = v := by rw [su_at, if_pos ⟨rfl, rfl⟩]
  unfold cel
  rw [e] <;> rfl

theorem cel_su5 (G : zG) (ad : Nat → Nat → Nat) (T : Nat → Nat → Int) (j : Nat) (v : Int) (k' i' : Nat) (hne : ¬ (k' = 1 ∧ i' = j)) : cel G ad (su T 5 j v) k' i' = cel G ad T k' i' := by
  unfold cel
  split
  all_goals first
    | rfl
    | (have e : su T 5 j v 5 i' = T 5 i' := by rw [su_at, if_neg (fun z => hne ⟨rfl, z.2⟩)]
       rw [e] <;> rfl)

theorem CR.st5 {G : zG} {ad : Nat → Nat → Nat} {el : Nat → Nat} {T : Nat → Nat → Int} {h : zH} (R : CR G ad el T h) {j : Nat} (hj : j < cN T 0) (v : Int) : CR G ad el (su T 5 j v) (zput h (ad 1 j) (eO 5 [vI (j : Int), vI (T 4 j), vI (T 6 j), .ref (ad 3 j), .ref (ad 2 j), vI (T 3 j), vI v, vI (T 8 j)])) := by
  refine R.put (k := 1) (i := j) hj (cN_su T j v (by decide) (by decide) (by decide) (by decide)) (fun k' i' _ hne => cel_su5 G ad T j v k' i' hne) ?_
  have e : su T 5 j v 5 j = v := by rw [su_at, if_pos ⟨rfl, rfl⟩]
  unfold cel
  rw [e] <;> rfl

theorem cel_su8 (G : zG) (ad : Nat → Nat → Nat) (T : Nat → Nat → Int) (j : Nat) (v : Int) (k' i' : Nat) (hne : ¬ (k' = 1 ∧ i' = j)) : cel G ad (su T 8 j v) k' i' = cel G ad T k' i' := by
  unfold cel
  split
  all_goals first
    | rfl
    | (have e : su T 8 j v 8 i' = T 8 i' := by rw [su_at, if_neg (fun z => hne ⟨rfl, z.2⟩)]
       rw [e] <;> rfl)

theorem CR.st8 {G : zG} {ad : Nat → Nat → Nat} {el : Nat → Nat} {T : Nat → Nat → Int} {h : zH} (R : CR G ad el T h) {j : Nat} (hj : j < cN T 0) (v : Int) : CR G ad el (su T 8 j v) (zput h (ad 1 j) (eO 5 [vI (j : Int), vI (T 4 j), vI (T 6 j), .ref (ad 3 j), .ref (ad 2 j), vI (T 3 j), vI (T 5 j), vI v])) := by
  refine R.put (k := 1) (i := j) hj (cN_su T j v (by decide) (by decide) (by decide) (by decide)) (fun k' i' _ hne => cel_su8 G ad T j v k' i' hne) ?_
  have e : su T 8 j v 8 j = v := by rw [su_at, if_pos ⟨rfl, rfl⟩]
  unfold cel
  rw [e] <;> rfl

theorem cel_su7 (G : zG) (ad : Nat → Nat → Nat) (T : Nat → Nat → Int) (j : Nat) (v : Int) (k' i' : Nat) (hne : ¬ (k' = 3 ∧ i' = j)) : cel G ad (su T 7 j v) k' i' = cel G ad T k' i' := by
  unfold cel
  split
  all_goals first
    | rfl
    | (have e : su T 7 j v 7 i' = T 7 i' := by rw [su_at, if_neg (fun z => hne ⟨rfl, z.2⟩)]
       rw [e] <;> rfl)

theorem CR.st7 {G : zG} {ad : Nat → Nat → Nat} {el : Nat → Nat} {T : Nat → Nat → Int} {h : zH} (R : CR G ad el T h) {j : Nat} (hj : j < cN T 0) (v : Int) : CR G ad el (su T 7 j v) (zput h (ad 3 j) (eO 2 [vI (j : Int), .ref (ad 4 j), vI v])) := by
  refine R.put (k := 3) (i := j) hj (cN_su T j v (by decide) (by decide) (by decide) (by decide)) (fun k' i' _ hne => cel_su7 G ad T j v k' i' hne) ?_
  have e : su T 7 j v 7 j = v := by rw [su_at, if_pos ⟨rfl, rfl⟩]
  unfold cel
  rw [e] <;> rfl

theorem cel_su12 (G : zG) (ad : Nat → Nat → Nat) (T : Nat → Nat → Int) (j : Nat) (v : Int) (k' i' : Nat) (hne : ¬ (k' = 5 ∧ i' = j)) : cel G ad (su T 12 j v) k' i' = cel G ad T k' i' := by
  unfold cel
  split
  all_goals first
    | rfl
    | (have e : su T 12 j v 12 i' = T 12 i' := by rw [su_at, if_neg (fun z => hne ⟨rfl, z.2⟩)]
       rw [e] <;> rfl)

theorem CR.st12 {G : zG} {ad : Nat → Nat → Nat} {el : Nat → Nat} {T : Nat → Nat → Int} {h : zH} (R : CR G ad el T h) {j : Nat} (hj : j < cN T 1) (v : Int) : CR G ad el (su T 12 j v) (zput h (ad 5 j) (eO 4 [vI (T 11 j), vI v])) := by
  refine R.put (k := 5) (i := j) hj (cN_su T j v (by decide) (by decide) (by decide) (by decide)) (fun k' i' _ hne => cel_su12 G ad T j v k' i' hne) ?_
  have e : su T 12 j v 12 j = v := by rw [su_at, if_pos ⟨rfl, rfl⟩]
  unfold cel
  rw [e] <;> rfl

theorem cel_su16 (G : zG) (ad : Nat → Nat → Nat) (T : Nat → Nat → Int) (j : Nat) (v : Int) (k' i' : Nat) (hne : ¬ (k' = 6 ∧ i' = j)) : cel G ad (su T 16 j v) k' i' = cel G ad T k' i' := by
  unfold cel
  split
  all_goals first
    | rfl
    | (have e : su T 16 j v 16 i' = T 16 i' := by rw [su_at, if_neg (fun z => hne ⟨rfl, z.2⟩)]
       rw [e] <;> rfl)

theorem CR.st16 {G : zG} {ad : Nat → Nat → Nat} {el : Nat → Nat} {T : Nat → Nat → Int} {h : zH} (R : CR G ad el T h) {j : Nat} (hj : j < cN T 2) (v : Int) : CR G ad el (su T 16 j v) (zput h (ad 6 j) (eO 6 [vI (T 17 j), vI (T 18 j), .ref (ad 7 j), vI v, vI (T 19 j)])) := by
  refine R.put (k := 6) (i := j) hj (cN_su T j v (by decide) (by decide) (by decide) (by decide)) (fun k' i' _ hne => cel_su16 G ad T j v k' i' hne) ?_
  have e : su T 16 j v 16 j = v := by rw [su_at, if_pos ⟨rfl, rfl⟩]
  unfold cel
  rw [e] <;> rfl

theorem cel_su19 (G : zG) (ad : Nat → Nat → Nat) (T : Nat → Nat → Int) (j : Nat) (v : Int) (k' i' : Nat) (hne : ¬ (k' = 6 ∧ i' = j)) : cel G ad (su T 19 j v) k' i' = cel G ad T k' i' := by
  unfold cel
  split
  all_goals first
    | rfl
    | (have e : su T 19 j v 19 i' = T 19 i' := by rw [su_at, if_neg (fun z => hne ⟨rfl, z.2⟩)]
       rw [e] <;> rfl)

theorem CR.st19 {G : zG} {ad : Nat → Nat → Nat} {el : Nat → Nat} {T : Nat → Nat → Int} {h : zH} (R : CR G ad el T h) {j : Nat} (hj : j < cN T 2) (v : Int) : CR G ad el (su T 19 j v) (zput h (ad 6 j) (eO 6 [vI (T 17 j), vI (T 18 j), .ref (ad 7 j), vI (T 16 j), vI v])) := by
  refine R.put (k := 6) (i := j) hj (cN_su T j v (by decide) (by decide) (by decide) (by decide)) (fun k' i' _ hne => cel_su19 G ad T j v k' i' hne) ?_
  have e : su T 19 j v 19 j = v := by rw [su_at, if_pos ⟨rfl, rfl⟩]
  unfold cel
  rw [e] <;> rfl

theorem cel_su36 (G : zG) (ad : Nat → Nat → Nat) (T : Nat → Nat → Int) (j : Nat) (v : Int) (k' i' : Nat) (hne : ¬ (k' = 8 ∧ i' = j)) : cel G ad (su T 36 j v) k' i' = cel G ad T k' i' := by
  unfold cel
  split
  all_goals first
    | rfl
    | (have e : su T 36 j v 36 i' = T 36 i' := by rw [su_at, if_neg (fun z => hne ⟨rfl, z.2⟩)]
       rw [e] <;> rfl)

theorem CR.st36 {G : zG} {ad : Nat → Nat → Nat} {el : Nat → Nat} {T : Nat → Nat → Int} {h : zH} (R : CR G ad el T h) {j : Nat} (hj : j < cN T 3) (v : Int) : CR G ad el (su T 36 j v) (zput h (ad 8 j) (eO 3 [.ref (G.2.2 (T 32 j).toNat), vI (T 33 j), vI (T 34 j), vI (T 35 j), .ref (ad 9 j), vI v])) := by
  refine R.put (k := 8) (i := j) hj (cN_su T j v (by decide) (by decide) (by decide) (by decide)) (fun k' i' _ hne => cel_su36 G ad T j v k' i' hne) ?_
  have e : su T 36 j v 36 j = v := by rw [su_at, if_pos ⟨rfl, rfl⟩]
  unfold cel
  rw [e] <;> rfl

theorem cG_9 {T : Nat → Nat → Int} {k i : Nat} (hi : i < cN T (cG k)) : k ≤ 9 := by
  refine Nat.le_of_not_lt (fun z => ?_)
  have e : cG k = 9 := by
    unfold cG
    split <;> first | omega | rfl
  rw [e] at hi
  exact absurd hi (Nat.not_lt_zero _)
/-- a whole row of a table -/
def rput (T : Nat → Nat → Int) (k w i : Nat) (F : Nat → Int) : Nat → Nat → Int := fun g => if g = k then (fun j => if j / w = i then F (j % w) else T k j) else T g
theorem rput_ne (T : Nat → Nat → Int) {k g : Nat} (w i : Nat) (F : Nat → Int) (h : g ≠ k) : rput T k w i F g = T g := by simp [rput, h]
theorem rput_at (T : Nat → Nat → Int) (k w i : Nat) (F : Nat → Int) {i' j : Nat} (hj : j < w) : rput T k w i F k (w * i' + j) = if i' = i then F j else T k (w * i' + j) := by
  have h1 : (w * i' + j) / w = i' := by rw [Nat.mul_add_div (by omega), Nat.div_eq_of_lt hj, Nat.add_zero]
  have h2 : (w * i' + j) % w = j := by rw [Nat.mul_add_mod, Nat.mod_eq_of_lt hj]
  simp only [rput, if_true, h1, h2]
theorem row_rput (T : Nat → Nat → Int) (k w i : Nat) (F : Nat → Int) (hF : ∀ j, w ≤ j → F j = 0) : row (rput T k w i F) k w i = F := by
  funext j
  unfold row
  by_cases c : j < w
  · rw [if_pos c, rput_at T k w i F c, if_pos rfl]
  · rw [if_neg c, hF j (by omega)]
theorem row_rput_ne (T : Nat → Nat → Int) (k w : Nat) {i i' : Nat} (F : Nat → Int) (hi : i' ≠ i) : row (rput T k w i F) k w i' = row T k w i' := by
  funext j
  unfold row
  by_cases c : j < w
  · rw [if_pos c, if_pos c, rput_at T k w i F c, if_neg hi]
  · rw [if_neg c, if_neg c]
theorem row_hi (T : Nat → Nat → Int) (k w i : Nat) {j : Nat} (hj : w ≤ j) : row T k w i j = 0 := if_neg (by omega)
theorem cN_rput (T : Nat → Nat → Int) {k : Nat} (w i : Nat) (F : Nat → Int) (h2 : k ≠ 2) (h10 : k ≠ 10) (h15 : k ≠ 15) (h31 : k ≠ 31) (g : Nat) : cN (rput T k w i F) g = cN T g := by
  unfold cN
  split
  · rw [rput_ne T w i F (Ne.symm h2)]
  · rw [rput_ne T w i F (Ne.symm h10)]
  · rw [rput_ne T w i F (Ne.symm h15)]
  · rw [rput_ne T w i F (Ne.symm h31)]
  · rfl
  · rfl

theorem CR.rw13 {G : zG} {ad : Nat → Nat → Nat} {el : Nat → Nat} {T : Nat → Nat → Int} {h : zH} (R : CR G ad el T h) {i : Nat} (hi : i < cN T 0) (F : Nat → Int) (hF : ∀ j, 20 ≤ j → F j = 0) : CR G ad el (rput T 13 20 i F) (zput h (ad 2 i) (eI (G.2.1 1) 20 F)) := by
  refine R.put (k := 2) (i := i) hi (cN_rput T 20 i F (by decide) (by decide) (by decide) (by decide)) (fun k' i' hi' hne => ?_) ?_
  · have hk := cG_9 hi'
    unfold cel
    split
    all_goals first
      | rfl
      | (rw [row_rput_ne T 13 20 F (fun z => hne ⟨by omega, z⟩)])
  · have e := row_rput T 13 20 i F hF
    unfold cel
    rw [e] <;> rfl
theorem CR.sr13 {G : zG} {ad : Nat → Nat → Nat} {el : Nat → Nat} {T : Nat → Nat → Int} {h : zH} (R : CR G ad el T h) {i m : Nat} (hi : i < cN T 0) (hm : m < 20) (v : Int) : CR G ad el (su T 13 (20 * i + m) v) (zput h (ad 2 i) (eI (G.2.1 1) 20 (va_up (row T 13 20 i) m v))) := by
  refine R.put (k := 2) (i := i) hi (cN_su T (20 * i + m) v (by decide) (by decide) (by decide) (by decide)) (fun k' i' hi' hne => ?_) ?_
  · have hk := cG_9 hi'
    unfold cel
    split
    all_goals first
      | rfl
      | (rw [row_ne T 13 20 v hm (fun z => hne ⟨by omega, z⟩)])
  · have e := row_up T 13 20 i v hm
    unfold cel
    rw [e] <;> rfl

theorem CR.rw30 {G : zG} {ad : Nat → Nat → Nat} {el : Nat → Nat} {T : Nat → Nat → Int} {h : zH} (R : CR G ad el T h) {i : Nat} (hi : i < cN T 0) (F : Nat → Int) (hF : ∀ j, 10 ≤ j → F j = 0) : CR G ad el (rput T 30 10 i F) (zput h (ad 4 i) (eI (G.2.1 0) 10 F)) := by
  refine R.put (k := 4) (i := i) hi (cN_rput T 10 i F (by decide) (by decide) (by decide) (by decide)) (fun k' i' hi' hne => ?_) ?_
  · have hk := cG_9 hi'
    unfold cel
    split
    all_goals first
      | rfl
      | (rw [row_rput_ne T 30 10 F (fun z => hne ⟨by omega, z⟩)])
  · have e := row_rput T 30 10 i F hF
    unfold cel
    rw [e] <;> rfl
theorem CR.sr30 {G : zG} {ad : Nat → Nat → Nat} {el : Nat → Nat} {T : Nat → Nat → Int} {h : zH} (R : CR G ad el T h) {i m : Nat} (hi : i < cN T 0) (hm : m < 10) (v : Int) : CR G ad el (su T 30 (10 * i + m) v) (zput h (ad 4 i) (eI (G.2.1 0) 10 (va_up (row T 30 10 i) m v))) := by
  refine R.put (k := 4) (i := i) hi (cN_su T (10 * i + m) v (by decide) (by decide) (by decide) (by decide)) (fun k' i' hi' hne => ?_) ?_
  · have hk := cG_9 hi'
    unfold cel
    split
    all_goals first
      | rfl
      | (rw [row_ne T 30 10 v hm (fun z => hne ⟨by omega, z⟩)])
  · have e := row_up T 30 10 i v hm
    unfold cel
    rw [e] <;> rfl

theorem CR.rw20 {G : zG} {ad : Nat → Nat → Nat} {el : Nat → Nat} {T : Nat → Nat → Int} {h : zH} (R : CR G ad el T h) {i : Nat} (hi : i < cN T 2) (F : Nat → Int) (hF : ∀ j, 10 ≤ j → F j = 0) : CR G ad el (rput T 20 10 i F) (zput h (ad 7 i) (eI (G.2.1 0) 10 F)) := by
  refine R.put (k := 7) (i := i) hi (cN_rput T 10 i F (by decide) (by decide) (by decide) (by decide)) (fun k' i' hi' hne => ?_) ?_
  · have hk := cG_9 hi'
    unfold cel
    split
    all_goals first
      | rfl
      | (rw [row_rput_ne T 20 10 F (fun z => hne ⟨by omega, z⟩)])
  · have e := row_rput T 20 10 i F hF
    unfold cel
    rw [e] <;> rfl
theorem CR.sr20 {G : zG} {ad : Nat → Nat → Nat} {el : Nat → Nat} {T : Nat → Nat → Int} {h : zH} (R : CR G ad el T h) {i m : Nat} (hi : i < cN T 2) (hm : m < 10) (v : Int) : CR G ad el (su T 20 (10 * i + m) v) (zput h (ad 7 i) (eI (G.2.1 0) 10 (va_up (row T 20 10 i) m v))) := by
  refine R.put (k := 7) (i := i) hi (cN_su T (10 * i + m) v (by decide) (by decide) (by decide) (by decide)) (fun k' i' hi' hne => ?_) ?_
  · have hk := cG_9 hi'
    unfold cel
    split
    all_goals first
      | rfl
      | (rw [row_ne T 20 10 v hm (fun z => hne ⟨by omega, z⟩)])
  · have e := row_up T 20 10 i v hm
    unfold cel
    rw [e] <;> rfl

theorem CR.rw37 {G : zG} {ad : Nat → Nat → Nat} {el : Nat → Nat} {T : Nat → Nat → Int} {h : zH} (R : CR G ad el T h) {i : Nat} (hi : i < cN T 3) (F : Nat → Int) (hF : ∀ j, 10 ≤ j → F j = 0) : CR G ad el (rput T 37 10 i F) (zput h (ad 9 i) (eI (G.2.1 0) 10 F)) := by
  refine R.put (k := 9) (i := i) hi (cN_rput T 10 i F (by decide) (by decide) (by decide) (by decide)) (fun k' i' hi' hne => ?_) ?_
  · have hk := cG_9 hi'
    have hc : k' = 0 ∨ k' = 1 ∨ k' = 2 ∨ k' = 3 ∨ k' = 4 ∨ k' = 5 ∨ k' = 6 ∨ k' = 7 ∨ k' = 8 ∨ k' = 9 := by omega
    rcases hc with rfl | rfl | rfl | rfl | rfl | rfl | rfl | rfl | rfl | rfl
    all_goals first
      | rfl
      | (show eI _ 10 (row (rput T 37 10 i F) 37 10 i') = eI _ 10 (row T 37 10 i'); rw [row_rput_ne T 37 10 F (fun z => hne ⟨rfl, z⟩)])
  · have e := row_rput T 37 10 i F hF
    unfold cel
    rw [e] <;> rfl
theorem CR.sr37 {G : zG} {ad : Nat → Nat → Nat} {el : Nat → Nat} {T : Nat → Nat → Int} {h : zH} (R : CR G ad el T h) {i m : Nat} (hi : i < cN T 3) (hm : m < 10) (v : Int) : CR G ad el (su T 37 (10 * i + m) v) (zput h (ad 9 i) (eI (G.2.1 0) 10 (va_up (row T 37 10 i) m v))) := by
  refine R.put (k := 9) (i := i) hi (cN_su T (10 * i + m) v (by decide) (by decide) (by decide) (by decide)) (fun k' i' hi' hne => ?_) ?_
  · have hk := cG_9 hi'
    have hc : k' = 0 ∨ k' = 1 ∨ k' = 2 ∨ k' = 3 ∨ k' = 4 ∨ k' = 5 ∨ k' = 6 ∨ k' = 7 ∨ k' = 8 ∨ k' = 9 := by omega
    rcases hc with rfl | rfl | rfl | rfl | rfl | rfl | rfl | rfl | rfl | rfl
    all_goals first
      | rfl
      | (show eI _ 10 (row (su T 37 (10 * i + m) v) 37 10 i') = eI _ 10 (row T 37 10 i'); rw [row_ne T 37 10 v hm (fun z => hne ⟨rfl, z⟩)])
  · have e := row_up T 37 10 i v hm
    unfold cel
    rw [e] <;> rfl

