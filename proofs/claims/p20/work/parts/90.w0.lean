/-! the law's method isWhole -/
def hcn (S : Nat → Nat → Int) (m : Nat) : Nat → Int
  | 0 => 0
  | n + 1 => hcn S m n + (if S 13 (20 * m + n) = 0 then 0 else 1)
theorem hcn_b (S : Nat → Nat → Int) (m : Nat) : ∀ n : Nat, 0 ≤ hcn S m n ∧ hcn S m n ≤ n
  | 0 => ⟨Int.le_refl _, Int.le_refl _⟩
  | n + 1 => by
    have ih := hcn_b S m n
    rw [hcn]
    split <;> omega
theorem hcn_u {S : Nat → Nat → Int} {m : Nat} : ∀ n, (∀ j, j < n → 1 ≤ S 11 j) → hcn S m n ≤ mused S m n ∧ (hcn S m n = 0 → mused S m n = 0)
  | 0, _ => ⟨Int.le_refl _, fun _ => rfl⟩
  | n + 1, h => by
    have ih := hcn_u (S := S) (m := m) n (fun j hj => h j (by omega))
    have h1 := h n (by omega)
    have h2 := hcn_b S m n
    rw [hcn, mused]
    by_cases c : S 13 (20 * m + n) = 0
    · rw [if_pos c, if_pos c]
      refine ⟨by omega, fun z => ?_⟩
      have := ih.2 (by omega)
      omega
    · rw [if_neg c, if_neg c]
      exact ⟨by omega, fun z => by omega⟩
theorem sm_b {f : Nat → Int} {B : Int} (h : ∀ j, 0 ≤ f j ∧ f j ≤ B) : ∀ n : Nat, 0 ≤ sm f n ∧ sm f n ≤ B * n
  | 0 => ⟨Int.le_refl _, by rw [show sm f 0 = 0 from rfl]; simp⟩
  | n + 1 => by
    have ih := sm_b h n
    have h1 := h n
    rw [sm, show ((n + 1 : Nat) : Int) = (n : Int) + 1 from rfl, Int.mul_add, Int.mul_one]
    omega
theorem bit_c (z : Int) : (z = 0 ∧ (if z = 0 then (0 : Int) else 1) = 0) ∨ (¬ z = 0 ∧ (if z = 0 then (0 : Int) else 1) = 1) := by
  by_cases c : z = 0
  · exact Or.inl ⟨c, if_pos c⟩
  · exact Or.inr ⟨c, if_neg c⟩
theorem vMem_1b {S : Nat → Nat → Int} (M : MB S) (m : Nat) : 0 ≤ vMem S m 1 ∧ vMem S m 1 ≤ 20 := by
  have h : 0 ≤ S 5 m ∧ S 5 m ≤ 20 := M 5 m (by decide)
  rw [vMem_1]
  split <;> omega
theorem vPpl_b {S : Nat → Nat → Int} (M : MB S) (p : Nat) : (0 ≤ vPpl S p 3 ∧ vPpl S p 3 ≤ 10) ∧ 0 ≤ vPpl S p 4 ∧ vPpl S p 4 ≤ 10 := by
  have h1 : 0 ≤ S 21 p ∧ S 21 p ≤ 10 := M 21 p (by decide)
  have h2 : 0 ≤ S 22 p ∧ S 22 p ≤ 10 := M 22 p (by decide)
  have h3 := mvoted_le S p 1 (mM S)
  have h4 := mvoted_le S p 2 (mM S)
  have h5 := mmany_b S (mM S)
  have h6 := (mM_b M).2
  rw [vPpl_3, vPpl_4]
  by_cases c : S 16 p = 0
  · rw [if_pos c, if_pos c]
    omega
  · rw [if_neg c, if_neg c]
    exact ⟨h1, h2⟩

set_option maxHeartbeats 8000000 in
set_option maxRecDepth 100000 in
theorem c_L_isWhole {ln : Launch} (htr : ln.stackTraces = false) {G : zG} {b o : Nat} {S : Nat → Nat → Int} {hC0 h0 h : zH} (K : SC G b S hC0 h0 h) (ho : h0 o = some (eI (G.2.1 0) 3 (nvf (S 2 0) (S 10 0) (S 15 0)))) (oC : hC0 o = none) (E : ES S) : CT ln G yL_isWhole cL_isWhole 10 (some .boolean) 12 [.ref b, .ref o] h 1200 7300 (fun r9 h9 => r9 = some (vI 1) ∧ SC G b S hC0 h0 h9) zNo := by
  have C0 := K.c
  have MBs : MB S := C0.1
  obtain ⟨n2, n2b⟩ := mM_b MBs
  obtain ⟨n10, n10b⟩ := mF_b MBs
  obtain ⟨n15, n15b⟩ := mP_b MBs
  have C2 := C0.2.1
  have C3 : ∀ j, j < 10 → S 3 j = 0 → (∀ f, f < 20 → S 13 (20 * j + f) = 0) ∧ (∀ i, i < 10 → S 9 (10 * i + j) = 0 ∧ S 9 (10 * j + i) = 0) ∧ ∀ p, S 16 p = 0 → ¬ False → S 20 (10 * p + j) = 0 := C0.2.2.1
  have C4 := C0.2.2.2.1
  have C8 : ∀ i j, i < 10 → j < 10 → S 9 (10 * i + j) = 0 ∨ S 9 (10 * j + i) = 0 := C0.2.2.2.2.2.2.1
  have C9 : ∀ f, f < mF S → 1 ≤ S 11 f := C0.2.2.2.2.2.2.2.2
  have s7 : sm (S 7) (mM S) ≤ 0 ∧ -54000 ≤ sm (S 7) (mM S) := by
    have e := sm_zero (f := S 7) (m := mM S) (fun j hj => (C2 j hj).2.1) (10 - mM S)
    rw [show mM S + (10 - mM S) = 10 by omega] at e
    have h14 : 0 ≤ S 14 0 ∧ S 14 0 ≤ 300 := MBs 14 0 (by decide)
    have := E.1.1
    omega
  have s8 : sm (S 12) (mF S) = sm (S 8) (mM S) ∧ 0 ≤ sm (S 8) (mM S) ∧ sm (S 8) (mM S) ≤ 6000 := by
    have e := sm_zero (f := S 8) (m := mM S) (fun j hj => (C2 j hj).2.2) (10 - mM S)
    rw [show mM S + (10 - mM S) = 10 by omega] at e
    have e2 := sm_zero (f := S 12) (m := mF S) C4 (20 - mF S)
    rw [show mF S + (20 - mF S) = 20 by omega] at e2
    have h8 := sm_b (f := S 8) (B := 300) (fun j => MBs 8 j (by decide)) (mM S)
    have := E.1.2
    omega
  refine CT.intro htr (by decide) rfl (Nat.le_of_ble_eq_true rfl) ?_
  intro X hln hG hR hN C E9
  subst hln
  subst hG
  have hRc : (zR_of X).cells = 1200 := by rw [hR]; rfl
  have hRs : (zR_of X).slots = 7300 := by rw [hR]; rfl
  refine Z.iconst C dL_isWhole_0 ?_
  refine Z.istore_n (l' := [_, _, _]) C dL_isWhole_1 (Nat.le_of_ble_eq_true rfl) (by rw [hN]; decide) rfl ?_
  refine Z.iconst C dL_isWhole_2 ?_
  refine Z.istore_n (l' := [_, _, _, _]) C dL_isWhole_3 (Nat.le_of_ble_eq_true rfl) (by rw [hN]; decide) rfl ?_
  refine Z.iconst C dL_isWhole_4 ?_
  refine Z.istore (l' := [_, _, _, _, _]) C dL_isWhole_5 (Nat.le_of_ble_eq_true rfl) (by rw [hN]; decide) rfl ?_
  refine Z.iconst C dL_isWhole_7 ?_
  refine Z.istore (l' := [_, _, _, _, _, _]) C dL_isWhole_8 (Nat.le_of_ble_eq_true rfl) (by rw [hN]; decide) rfl ?_
  have L10 : ∀ (q kk : Nat) (hh : zH) (aa10 bb10 : Nat), kk + q = mM S → SC (zG_of X) b S hC0 h0 hh → aa10 + q * 105 ≤ 1060 → bb10 + q * 650 ≤ 6510 → Z X 10 [.ref b, .ref o, vI (1), vI (sm (S 7) kk), vI (sm (S 8) kk), vI ((kk : Int))] [] hh aa10 bb10 := by
    intro q
    induction q with
    | zero =>
      intro kk hh aa10 bb10 hv10 Kl10 ha10 hb10
      refine Z.iload C dL_isWhole_10 rfl ?_
      refine Z.aload_n C dL_isWhole_12 rfl ?_
      refine Z.iconst C dL_isWhole_13 ?_
      refine Z.nld0 C dL_isWhole_14 (Kl10.keep ho oC) ?_
      refine Z.icmp_ge (tgt := 330) C dL_isWhole_15 (by decide) (by omega) (by omega) (by omega) (by omega) (fun _ => ?_) (fun z => by exfalso; omega)
      have e10 : kk = mM S := by omega
      subst e10
      refine Z.widen (k' := 1060) (n' := 6510) (by omega) (by omega) ?_
      refine Z.iconst C dL_isWhole_330 ?_
      refine Z.istore (l' := [_, _, _, _, _, _]) C dL_isWhole_331 (Nat.le_of_ble_eq_true rfl) (by rw [hN]; decide) rfl ?_
      refine Z.iconst C dL_isWhole_333 ?_
      refine Z.istore (l' := [_, _, _, _, _, _, _]) C dL_isWhole_334 (Nat.le_of_ble_eq_true rfl) (by rw [hN]; decide) rfl ?_
      have L336 : ∀ (q jf : Nat) (hh : zH) (aa336 bb336 : Nat), jf + q = mF S → SC (zG_of X) b S hC0 h0 hh → aa336 + q * 1 ≤ 1085 → bb336 + q * 6 ≤ 6640 → Z X 336 [.ref b, .ref o, vI (1), vI (sm (S 7) (mM S)), vI (sm (S 8) (mM S)), vI (sm (S 12) jf), vI ((jf : Int))] [] hh aa336 bb336 := by
        intro q
        induction q with
        | zero =>
          intro jf hh aa336 bb336 hv336 Kl336 ha336 hb336
          refine Z.iload C dL_isWhole_336 rfl ?_
          refine Z.aload_n C dL_isWhole_338 rfl ?_
          refine Z.iconst C dL_isWhole_339 ?_
          refine Z.nld1 C dL_isWhole_340 (Kl336.keep ho oC) ?_
          refine Z.icmp_ge (tgt := 365) C dL_isWhole_341 (by decide) (by omega) (by omega) (by omega) (by omega) (fun _ => ?_) (fun z => by exfalso; omega)
          have e336 : jf = mF S := by omega
          subst e336
          refine Z.widen (k' := 1085) (n' := 6640) (by omega) (by omega) ?_
          refine Z.iconst C dL_isWhole_365 ?_
          refine Z.istore (l' := [_, _, _, _, _, _, _]) C dL_isWhole_366 (Nat.le_of_ble_eq_true rfl) (by rw [hN]; decide) rfl ?_
          refine Z.iconst C dL_isWhole_368 ?_
          refine Z.istore (l' := [_, _, _, _, _, _, _, _]) C dL_isWhole_369 (Nat.le_of_ble_eq_true rfl) (by rw [hN]; decide) rfl ?_
          have L371 : ∀ (q jm : Nat) (hh : zH) (aa371 bb371 : Nat), jm + q = mM S → SC (zG_of X) b S hC0 h0 hh → aa371 + q * 1 ≤ 1100 → bb371 + q * 6 ≤ 6710 → Z X 371 [.ref b, .ref o, vI (1), vI (sm (S 7) (mM S)), vI (sm (S 8) (mM S)), vI (sm (S 12) (mF S)), vI (mmany S jm), vI ((jm : Int))] [] hh aa371 bb371 := by
            intro q
            induction q with
            | zero =>
              intro jm hh aa371 bb371 hv371 Kl371 ha371 hb371
              refine Z.iload C dL_isWhole_371 rfl ?_
              refine Z.aload_n C dL_isWhole_373 rfl ?_
              refine Z.iconst C dL_isWhole_374 ?_
              refine Z.nld0 C dL_isWhole_375 (Kl371.keep ho oC) ?_
              refine Z.icmp_ge (tgt := 397) C dL_isWhole_376 (by decide) (by omega) (by omega) (by omega) (by omega) (fun _ => ?_) (fun z => by exfalso; omega)
              have e371 : jm = mM S := by omega
              subst e371
              refine Z.widen (k' := 1100) (n' := 6710) (by omega) (by omega) ?_
              refine Z.iconst C dL_isWhole_397 ?_
              refine Z.istore (l' := [_, _, _, _, _, _, _, _]) C dL_isWhole_398 (Nat.le_of_ble_eq_true rfl) (by rw [hN]; decide) rfl ?_
              have L400 : ∀ (q jp : Nat) (hh : zH) (aa400 bb400 : Nat), jp + q = mP S → SC (zG_of X) b S hC0 h0 hh → aa400 + q * 3 ≤ 1200 → bb400 + q * 18 ≤ 7300 → Z X 400 [.ref b, .ref o, vI (1), vI (sm (S 7) (mM S)), vI (sm (S 8) (mM S)), vI (sm (S 12) (mF S)), vI (mmany S (mM S)), vI ((jp : Int))] [] hh aa400 bb400 := by
                intro q
                induction q with
                | zero =>
                  intro jp hh aa400 bb400 hv400 Kl400 ha400 hb400
                  refine Z.iload C dL_isWhole_400 rfl ?_
                  refine Z.aload_n C dL_isWhole_402 rfl ?_
                  refine Z.iconst C dL_isWhole_403 ?_
                  refine Z.nld2 C dL_isWhole_404 (Kl400.keep ho oC) ?_
                  refine Z.icmp_ge (tgt := 485) C dL_isWhole_405 (by decide) (by omega) (by omega) (by omega) (by omega) (fun _ => ?_) (fun z => by exfalso; omega)
                  have e400 : jp = mP S := by omega
                  subst e400
                  refine Z.widen (k' := 1200) (n' := 7300) (by omega) (by omega) ?_
                  refine Z.iload_n C dL_isWhole_485 rfl ?_
                  refine Z.if_eq (tgt := 504) C dL_isWhole_486 (by decide) (by omega) (by omega) (fun z => absurd z (by decide)) (fun _ => ?_)
                  refine Z.iload_n C dL_isWhole_489 rfl ?_
                  refine Z.if_gt (tgt := 504) C dL_isWhole_490 (by decide) (by omega) (by omega) (fun z => by exfalso; omega) (fun _ => ?_)
                  refine Z.iload C dL_isWhole_493 rfl ?_
                  refine Z.iload C dL_isWhole_495 rfl ?_
                  refine Z.icmp_ne (tgt := 504) C dL_isWhole_497 (by decide) (by omega) (by omega) (by omega) (by omega) (fun z => by exfalso; omega) (fun _ => ?_)
                  refine Z.iconst C dL_isWhole_500 ?_
                  refine Z.goto (tgt := 505) C dL_isWhole_501 (by decide) ?_
                  exact Z.zret C E9 dL_isWhole_505 rfl (by decide) (by decide) ⟨rfl, Kl400⟩
                | succ q ih400 =>
                  intro jp hh aa400 bb400 hv400 Kl400 ha400 hb400
                  refine Z.iload C dL_isWhole_400 rfl ?_
                  refine Z.aload_n C dL_isWhole_402 rfl ?_
                  refine Z.iconst C dL_isWhole_403 ?_
                  refine Z.nld2 C dL_isWhole_404 (Kl400.keep ho oC) ?_
                  refine Z.icmp_ge (tgt := 485) C dL_isWhole_405 (by decide) (by omega) (by omega) (by omega) (by omega) (fun z => by exfalso; omega) (fun _ => ?_)
                  refine Z.iload_n C dL_isWhole_408 rfl ?_
                  refine Z.if_eq (tgt := 485) C dL_isWhole_409 (by decide) (by omega) (by omega) (fun z => absurd z (by decide)) (fun _ => ?_)
                  refine Z.aload_n C dL_isWhole_412 rfl ?_
                  refine Z.iload C dL_isWhole_413 rfl ?_
                  refine Z.iconst C dL_isWhole_415 ?_
                  refine h_L_96 C rfl dL_isWhole_416 (x_proposal_0 htr Kl400 (by omega) (by decide) (eq_0 (by omega) (by decide))) (by decide) (Nat.le_of_ble_eq_true rfl) (by omega) (by omega) (fun w416 h416 q416 => ?_)
                  obtain ⟨rfl, K416⟩ := q416
                  rw [Int.toNat_natCast]
                  have vp := vPpl_b MBs jp
                  refine Z.istore (l' := [_, _, _, _, _, _, _, _, _]) C dL_isWhole_419 (Nat.le_of_ble_eq_true rfl) (by rw [hN]; decide) rfl ?_
                  refine Z.aload_n C dL_isWhole_421 rfl ?_
                  refine Z.iload C dL_isWhole_422 rfl ?_
                  refine Z.iconst C dL_isWhole_424 ?_
                  refine h_L_96 C rfl dL_isWhole_425 (x_proposal_0 htr K416 (by omega) (by decide) (eq_0 (by omega) (by decide))) (by decide) (Nat.le_of_ble_eq_true rfl) (by omega) (by omega) (fun w425 h425 q425 => ?_)
                  obtain ⟨rfl, K425⟩ := q425
                  rw [Int.toNat_natCast]
                  refine Z.istore (l' := [_, _, _, _, _, _, _, _, _, _]) C dL_isWhole_428 (Nat.le_of_ble_eq_true rfl) (by rw [hN]; decide) rfl ?_
                  refine Z.iload C dL_isWhole_430 rfl ?_
                  refine Z.if_lt (tgt := 477) C dL_isWhole_432 (by decide) (by omega) (by omega) (fun z => by exfalso; omega) (fun _ => ?_)
                  refine Z.iload C dL_isWhole_435 rfl ?_
                  refine Z.if_lt (tgt := 477) C dL_isWhole_437 (by decide) (by omega) (by omega) (fun z => by exfalso; omega) (fun _ => ?_)
                  refine Z.aload_n C dL_isWhole_440 rfl ?_
                  refine Z.iload C dL_isWhole_441 rfl ?_
                  refine Z.iconst C dL_isWhole_443 ?_
                  refine h_L_96 C rfl dL_isWhole_444 (x_proposal_0 htr K425 (by omega) (by decide) (eq_0 (by omega) (by decide))) (by decide) (Nat.le_of_ble_eq_true rfl) (by omega) (by omega) (fun w444 h444 q444 => ?_)
                  obtain ⟨rfl, K444⟩ := q444
                  rw [Int.toNat_natCast, vPpl_0]
                  have vs : 0 ≤ S 16 jp ∧ S 16 jp ≤ 2 := MBs 16 jp (by decide)
                  have J473 : ∀ hh : zH, SC (zG_of X) b S hC0 h0 hh → Z X 473 [.ref b, .ref o, vI (1), vI (sm (S 7) (mM S)), vI (sm (S 8) (mM S)), vI (sm (S 12) (mF S)), vI (mmany S (mM S)), vI ((jp : Int)), vI (vPpl S jp 3), vI (vPpl S jp 4)] [] hh (aa400 + 3) (bb400 + 18) := by
                    intro hh Kj473
                    refine Z.iconst C dL_isWhole_473 ?_
                    refine Z.goto (tgt := 478) C dL_isWhole_474 (by decide) ?_
                    refine Z.istore_n (l' := [_, _, _, _, _, _, _, _, _, _]) C dL_isWhole_478 (Nat.le_of_ble_eq_true rfl) (by rw [hN]; decide) rfl ?_
                    refine Z.iinc (l' := [_, _, _, _, _, _, _, _, _, _]) C dL_isWhole_479 rfl (Nat.le_of_ble_eq_true rfl) (by rw [hN]; decide) rfl ?_
                    refine Z.goto (tgt := 400) C dL_isWhole_482 (by decide) ?_
                    refine Z.pre (l' := [_, _, _, _, _, _, _, _]) 8 rfl ?_
                    rw [show ((jp : Int) + 1) = ((jp + 1 : Nat) : Int) from rfl]
                    exact ih400 (jp + 1) _ _ _ (by omega) Kj473 (by omega) (by omega)
                  refine Z.if_gt (tgt := 473) C dL_isWhole_447 (by decide) (by omega) (by omega) (fun c447 => ?_) (fun c447 => ?_)
                  · refine Z.widen (k' := aa400 + 3) (n' := bb400 + 18) (by omega) (by omega) ?_
                    exact J473 _ K444
                  · have hV := E.2.2.2.1 jp (by omega) (by omega)
                    have e3 : vPpl S jp 3 = mvoted S jp 1 (mM S) := by
                      rw [vPpl_3, if_pos (by omega)]
                    have e4 : vPpl S jp 4 = mvoted S jp 2 (mM S) := by
                      rw [vPpl_4, if_pos (by omega)]
                    refine Z.iload C dL_isWhole_450 rfl ?_
                    have hmb := mmany_b S (mM S)
                    refine Z.if_eq (tgt := 473) C dL_isWhole_452 (by decide) (by omega) (by omega) (fun c452 => ?_) (fun c452 => ?_)
                    · refine Z.widen (k' := aa400 + 3) (n' := bb400 + 18) (by omega) (by omega) ?_
                      exact J473 _ K444
                    · refine Z.iconst C dL_isWhole_455 ?_
                      refine Z.iload C dL_isWhole_456 rfl ?_
                      refine Z.imul C dL_isWhole_458 ?_
                      refine Z.iload C dL_isWhole_459 rfl ?_
                      refine Z.icmp_gt (tgt := 477) C dL_isWhole_461 (by decide) (by omega) (by omega) (by omega) (by omega) (fun z => by exfalso; omega) (fun _ => ?_)
                      refine Z.iconst C dL_isWhole_464 ?_
                      refine Z.iload C dL_isWhole_465 rfl ?_
                      refine Z.imul C dL_isWhole_467 ?_
                      refine Z.iload C dL_isWhole_468 rfl ?_
                      refine Z.icmp_ge (tgt := 477) C dL_isWhole_470 (by decide) (by omega) (by omega) (by omega) (by omega) (fun z => by exfalso; omega) (fun _ => ?_)
                      refine Z.widen (k' := aa400 + 3) (n' := bb400 + 18) (by omega) (by omega) ?_
                      exact J473 _ K444
              exact L400 (mP S) 0 _ _ _ (by omega) Kl371 (by omega) (by omega)
            | succ q ih371 =>
              intro jm hh aa371 bb371 hv371 Kl371 ha371 hb371
              refine Z.iload C dL_isWhole_371 rfl ?_
              refine Z.aload_n C dL_isWhole_373 rfl ?_
              refine Z.iconst C dL_isWhole_374 ?_
              refine Z.nld0 C dL_isWhole_375 (Kl371.keep ho oC) ?_
              refine Z.icmp_ge (tgt := 397) C dL_isWhole_376 (by decide) (by omega) (by omega) (by omega) (by omega) (fun z => by exfalso; omega) (fun _ => ?_)
              refine Z.iload C dL_isWhole_379 rfl ?_
              refine Z.aload_n C dL_isWhole_381 rfl ?_
              refine Z.iload C dL_isWhole_382 rfl ?_
              refine Z.iconst C dL_isWhole_384 ?_
              refine h_L_98 C rfl dL_isWhole_385 (x_member_0 htr Kl371 (by omega) (by decide) (em_0 (by omega) (by decide))) (by decide) (Nat.le_of_ble_eq_true rfl) (by omega) (by omega) (fun w385 h385 q385 => ?_)
              obtain ⟨rfl, K385⟩ := q385
              rw [Int.toNat_natCast, vMem_0]
              refine Z.iadd C dL_isWhole_388 ?_
              refine Z.istore (l' := [_, _, _, _, _, _, _, _]) C dL_isWhole_389 (Nat.le_of_ble_eq_true rfl) (by rw [hN]; decide) rfl ?_
              refine Z.iinc (l' := [_, _, _, _, _, _, _, _]) C dL_isWhole_391 rfl (Nat.le_of_ble_eq_true rfl) (by rw [hN]; decide) rfl ?_
              refine Z.goto (tgt := 371) C dL_isWhole_394 (by decide) ?_
              rw [show mmany S jm + (if S 3 jm = 0 then 0 else 1) = mmany S (jm + 1) from rfl]
              rw [show ((jm : Int) + 1) = ((jm + 1 : Nat) : Int) from rfl]
              exact ih371 (jm + 1) _ _ _ (by omega) K385 (by omega) (by omega)
          exact L371 (mM S) 0 _ _ _ (by omega) Kl336 (by omega) (by omega)
        | succ q ih336 =>
          intro jf hh aa336 bb336 hv336 Kl336 ha336 hb336
          refine Z.iload C dL_isWhole_336 rfl ?_
          refine Z.aload_n C dL_isWhole_338 rfl ?_
          refine Z.iconst C dL_isWhole_339 ?_
          refine Z.nld1 C dL_isWhole_340 (Kl336.keep ho oC) ?_
          refine Z.icmp_ge (tgt := 365) C dL_isWhole_341 (by decide) (by omega) (by omega) (by omega) (by omega) (fun z => by exfalso; omega) (fun _ => ?_)
          refine Z.iload_n C dL_isWhole_344 rfl ?_
          refine Z.if_eq (tgt := 365) C dL_isWhole_345 (by decide) (by omega) (by omega) (fun z => absurd z (by decide)) (fun _ => ?_)
          refine Z.iload C dL_isWhole_348 rfl ?_
          refine Z.aload_n C dL_isWhole_350 rfl ?_
          refine Z.iload C dL_isWhole_351 rfl ?_
          refine h_L_104 C rfl dL_isWhole_353 (x_worth_0 htr Kl336 (by omega) (ex_0 (by omega))) (by decide) (Nat.le_of_ble_eq_true rfl) (by omega) (by omega) (fun w353 h353 q353 => ?_)
          obtain ⟨rfl, K353⟩ := q353
          rw [Int.toNat_natCast]
          refine Z.iadd C dL_isWhole_356 ?_
          refine Z.istore (l' := [_, _, _, _, _, _, _]) C dL_isWhole_357 (Nat.le_of_ble_eq_true rfl) (by rw [hN]; decide) rfl ?_
          refine Z.iinc (l' := [_, _, _, _, _, _, _]) C dL_isWhole_359 rfl (Nat.le_of_ble_eq_true rfl) (by rw [hN]; decide) rfl ?_
          refine Z.goto (tgt := 336) C dL_isWhole_362 (by decide) ?_
          rw [show sm (S 12) jf + S 12 jf = sm (S 12) (jf + 1) from rfl]
          rw [show ((jf : Int) + 1) = ((jf + 1 : Nat) : Int) from rfl]
          exact ih336 (jf + 1) _ _ _ (by omega) K353 (by omega) (by omega)
      exact L336 (mF S) 0 _ _ _ (by omega) Kl10 (by omega) (by omega)
    | succ q ih10 =>
      intro kk hh aa10 bb10 hv10 Kl10 ha10 hb10
      refine Z.iload C dL_isWhole_10 rfl ?_
      refine Z.aload_n C dL_isWhole_12 rfl ?_
      refine Z.iconst C dL_isWhole_13 ?_
      refine Z.nld0 C dL_isWhole_14 (Kl10.keep ho oC) ?_
      refine Z.icmp_ge (tgt := 330) C dL_isWhole_15 (by decide) (by omega) (by omega) (by omega) (by omega) (fun z => by exfalso; omega) (fun _ => ?_)
      refine Z.iload_n C dL_isWhole_18 rfl ?_
      refine Z.if_eq (tgt := 330) C dL_isWhole_19 (by decide) (by omega) (by omega) (fun z => absurd z (by decide)) (fun _ => ?_)
      refine Z.iconst C dL_isWhole_22 ?_
      refine Z.istore (l' := [_, _, _, _, _, _, _]) C dL_isWhole_23 (Nat.le_of_ble_eq_true rfl) (by rw [hN]; decide) rfl ?_
      refine Z.aload_n C dL_isWhole_25 rfl ?_
      refine Z.iload C dL_isWhole_26 rfl ?_
      refine Z.iconst C dL_isWhole_28 ?_
      refine h_L_98 C rfl dL_isWhole_29 (x_member_0 htr Kl10 (by omega) (by decide) (em_0 (by omega) (by decide))) (by decide) (Nat.le_of_ble_eq_true rfl) (by omega) (by omega) (fun w29 h29 q29 => ?_)
      obtain ⟨rfl, K29⟩ := q29
      rw [Int.toNat_natCast]
      have vb := vMem_in (S := S) (m := kk)
      refine Z.iconst C dL_isWhole_32 ?_
      have J41 : ∀ ii : Int, (ii = 0 ∧ S 3 kk = 0) ∨ (ii = 1 ∧ ¬ S 3 kk = 0) → Z X 41 [.ref b, .ref o, vI (1), vI (sm (S 7) kk), vI (sm (S 8) kk), vI ((kk : Int)), vI (0)] [vI (ii)] h29 (aa10 + 1) (bb10 + 6) := by
        intro ii hii
        refine Z.istore (l' := [_, _, _, _, _, _, _, _]) C dL_isWhole_41 (Nat.le_of_ble_eq_true rfl) (by rw [hN]; decide) rfl ?_
        refine Z.iload C dL_isWhole_43 rfl ?_
        refine Z.aload_n C dL_isWhole_45 rfl ?_
        refine Z.iload C dL_isWhole_46 rfl ?_
        refine Z.iconst C dL_isWhole_48 ?_
        refine h_L_98 C rfl dL_isWhole_49 (x_member_0 htr K29 (by omega) (by decide) (em_0 (by omega) (by decide))) (by decide) (Nat.le_of_ble_eq_true rfl) (by omega) (by omega) (fun w49 h49 q49 => ?_)
        obtain ⟨rfl, K49⟩ := q49
        rw [Int.toNat_natCast, vMem_4]
        refine Z.iadd C dL_isWhole_52 ?_
        refine Z.istore (l' := [_, _, _, _, _, _, _, _]) C dL_isWhole_53 (Nat.le_of_ble_eq_true rfl) (by rw [hN]; decide) rfl ?_
        refine Z.iload_n C dL_isWhole_55 rfl ?_
        refine Z.aload_n C dL_isWhole_56 rfl ?_
        refine Z.iload C dL_isWhole_57 rfl ?_
        refine Z.iconst C dL_isWhole_59 ?_
        refine h_L_98 C rfl dL_isWhole_60 (x_member_0 htr K49 (by omega) (by decide) (em_0 (by omega) (by decide))) (by decide) (Nat.le_of_ble_eq_true rfl) (by omega) (by omega) (fun w60 h60 q60 => ?_)
        obtain ⟨rfl, K60⟩ := q60
        rw [Int.toNat_natCast, vMem_3]
        refine Z.iadd C dL_isWhole_63 ?_
        refine Z.istore_n (l' := [_, _, _, _, _, _, _, _]) C dL_isWhole_64 (Nat.le_of_ble_eq_true rfl) (by rw [hN]; decide) rfl ?_
        refine Z.iconst C dL_isWhole_65 ?_
        refine Z.istore (l' := [_, _, _, _, _, _, _, _, _]) C dL_isWhole_66 (Nat.le_of_ble_eq_true rfl) (by rw [hN]; decide) rfl ?_
        have L68 : ∀ (q jj : Nat) (hh : zH) (aa68 bb68 : Nat), jj + q = mF S → SC (zG_of X) b S hC0 h0 hh → aa68 + q * 2 ≤ aa10 + 45 → bb68 + q * 12 ≤ bb10 + 262 → Z X 68 [.ref b, .ref o, vI (1), vI ((sm (S 7) kk) + (S 7 kk)), vI ((sm (S 8) kk) + (S 8 kk)), vI ((kk : Int)), vI (hcn S kk jj), vI (ii), vI ((jj : Int))] [] hh aa68 bb68 := by
          intro q
          induction q with
          | zero =>
            intro jj hh aa68 bb68 hv68 Kl68 ha68 hb68
            refine Z.iload C dL_isWhole_68 rfl ?_
            refine Z.aload_n C dL_isWhole_70 rfl ?_
            refine Z.iconst C dL_isWhole_71 ?_
            refine Z.nld1 C dL_isWhole_72 (Kl68.keep ho oC) ?_
            refine Z.icmp_ge (tgt := 130) C dL_isWhole_73 (by decide) (by omega) (by omega) (by omega) (by omega) (fun _ => ?_) (fun z => by exfalso; omega)
            have e68 : jj = mF S := by omega
            subst e68
            refine Z.widen (k' := aa10 + 45) (n' := bb10 + 262) (by omega) (by omega) ?_
            refine Z.iload_n C dL_isWhole_130 rfl ?_
            refine Z.if_eq (tgt := 228) C dL_isWhole_131 (by decide) (by omega) (by omega) (fun z => absurd z (by decide)) (fun _ => ?_)
            refine Z.aload_n C dL_isWhole_134 rfl ?_
            refine Z.iload C dL_isWhole_135 rfl ?_
            refine Z.iconst C dL_isWhole_137 ?_
            refine h_L_98 C rfl dL_isWhole_138 (x_member_0 htr Kl68 (by omega) (by decide) (em_0 (by omega) (by decide))) (by decide) (Nat.le_of_ble_eq_true rfl) (by omega) (by omega) (fun w138 h138 q138 => ?_)
            obtain ⟨rfl, K138⟩ := q138
            rw [Int.toNat_natCast, vMem_2]
            refine Z.iload C dL_isWhole_141 rfl ?_
            have hu := hcn_u (S := S) (m := kk) (mF S) (fun j hj => C9 j hj)
            have hu2 := hcn_b S kk (mF S)
            have hu3 := E.2.1 kk (by omega)
            have hu4 : 0 ≤ S 6 kk ∧ S 6 kk ≤ 50 := MBs 6 kk (by decide)
            have hu5 : hcn S kk (mF S) = 0 → mused S kk (mF S) = 0 := hu.2
            replace hu := hu.1
            refine Z.icmp_lt (tgt := 228) C dL_isWhole_143 (by decide) (by omega) (by omega) (by omega) (by omega) (fun z => by exfalso; omega) (fun _ => ?_)
            refine Z.aload_n C dL_isWhole_146 rfl ?_
            refine Z.iload C dL_isWhole_147 rfl ?_
            refine Z.iconst C dL_isWhole_149 ?_
            refine h_L_98 C rfl dL_isWhole_150 (x_member_0 htr K138 (by omega) (by decide) (em_0 (by omega) (by decide))) (by decide) (Nat.le_of_ble_eq_true rfl) (by omega) (by omega) (fun w150 h150 q150 => ?_)
            obtain ⟨rfl, K150⟩ := q150
            rw [Int.toNat_natCast, vMem_2]
            refine Z.bipush C dL_isWhole_153 (by decide) ?_
            refine Z.icmp_gt (tgt := 228) C dL_isWhole_155 (by decide) (by omega) (by omega) (by omega) (by omega) (fun z => by exfalso; omega) (fun _ => ?_)
            refine Z.iload C dL_isWhole_158 rfl ?_
            have J168 : ∀ w1 : Int, (w1 = 0 ∧ hcn S kk (mF S) ≤ 0) ∨ (w1 = 1 ∧ 0 < hcn S kk (mF S)) → Z X 168 [.ref b, .ref o, vI (1), vI ((sm (S 7) kk) + (S 7 kk)), vI ((sm (S 8) kk) + (S 8 kk)), vI ((kk : Int)), vI (hcn S kk (mF S)), vI (ii), vI (((mF S) : Int))] [vI (w1)] h150 ((aa10 + 45) + 1 + 1) ((bb10 + 262) + 6 + 6) := by
              intro w1 hw1
              refine Z.aload_n C dL_isWhole_168 rfl ?_
              refine Z.iload C dL_isWhole_169 rfl ?_
              refine Z.iconst C dL_isWhole_171 ?_
              refine h_L_98 C rfl dL_isWhole_172 (x_member_0 htr K150 (by omega) (by decide) (em_0 (by omega) (by decide))) (by decide) (Nat.le_of_ble_eq_true rfl) (by omega) (by omega) (fun w172 h172 q172 => ?_)
              obtain ⟨rfl, K172⟩ := q172
              rw [Int.toNat_natCast, vMem_2]
              have J183 : ∀ w2 : Int, (w2 = 0 ∧ mused S kk (mF S) ≤ 0) ∨ (w2 = 1 ∧ 0 < mused S kk (mF S)) → Z X 183 [.ref b, .ref o, vI (1), vI ((sm (S 7) kk) + (S 7 kk)), vI ((sm (S 8) kk) + (S 8 kk)), vI ((kk : Int)), vI (hcn S kk (mF S)), vI (ii), vI (((mF S) : Int))] [vI (w2), vI (w1)] h172 ((aa10 + 45) + 1 + 1 + 1) ((bb10 + 262) + 6 + 6 + 6) := by
                intro w2 hw2
                refine Z.icmp_ne (tgt := 228) C dL_isWhole_183 (by decide) (by omega) (by omega) (by omega) (by omega) (fun z => by exfalso; omega) (fun _ => ?_)
                refine Z.aload_n C dL_isWhole_186 rfl ?_
                refine Z.iload C dL_isWhole_187 rfl ?_
                refine Z.iconst C dL_isWhole_189 ?_
                refine h_L_98 C rfl dL_isWhole_190 (x_member_0 htr K172 (by omega) (by decide) (em_0 (by omega) (by decide))) (by decide) (Nat.le_of_ble_eq_true rfl) (by omega) (by omega) (fun w190 h190 q190 => ?_)
                obtain ⟨rfl, K190⟩ := q190
                rw [Int.toNat_natCast]
                have vl := vMem_1b MBs kk
                refine Z.if_lt (tgt := 228) C dL_isWhole_193 (by decide) (by omega) (by omega) (fun z => by exfalso; omega) (fun _ => ?_)
                refine Z.aload_n C dL_isWhole_196 rfl ?_
                refine Z.iload C dL_isWhole_197 rfl ?_
                refine Z.iconst C dL_isWhole_199 ?_
                refine h_L_98 C rfl dL_isWhole_200 (x_member_0 htr K190 (by omega) (by decide) (em_0 (by omega) (by decide))) (by decide) (Nat.le_of_ble_eq_true rfl) (by omega) (by omega) (fun w200 h200 q200 => ?_)
                obtain ⟨rfl, K200⟩ := q200
                rw [Int.toNat_natCast]
                refine Z.bipush C dL_isWhole_203 (by decide) ?_
                refine Z.icmp_gt (tgt := 228) C dL_isWhole_205 (by decide) (by omega) (by omega) (by omega) (by omega) (fun z => by exfalso; omega) (fun _ => ?_)
                refine Z.aload_n C dL_isWhole_208 rfl ?_
                refine Z.iload C dL_isWhole_209 rfl ?_
                refine h_L_106 C rfl dL_isWhole_211 (x_anew_0 htr K200 (by omega) (ea_0 (by omega))) (by decide) (Nat.le_of_ble_eq_true rfl) (by omega) (by omega) (fun w211 h211 q211 => ?_)
                obtain ⟨rfl, K211⟩ := q211
                rw [Int.toNat_natCast]
                refine Z.aload_n C dL_isWhole_214 rfl ?_
                refine Z.iload C dL_isWhole_215 rfl ?_
                refine Z.iconst C dL_isWhole_217 ?_
                refine h_L_98 C rfl dL_isWhole_218 (x_member_0 htr K211 (by omega) (by decide) (em_0 (by omega) (by decide))) (by decide) (Nat.le_of_ble_eq_true rfl) (by omega) (by omega) (fun w218 h218 q218 => ?_)
                obtain ⟨rfl, K218⟩ := q218
                rw [Int.toNat_natCast, vMem_3]
                refine Z.icmp_same (tgt := 228) C dL_isWhole_221 (by decide) ?_
                refine Z.iconst C dL_isWhole_224 ?_
                refine Z.goto (tgt := 229) C dL_isWhole_225 (by decide) ?_
                refine Z.istore_n (l' := [_, _, _, _, _, _, _, _, _]) C dL_isWhole_229 (Nat.le_of_ble_eq_true rfl) (by rw [hN]; decide) rfl ?_
                refine Z.iconst C dL_isWhole_230 ?_
                refine Z.istore (l' := [_, _, _, _, _, _, _, _, _]) C dL_isWhole_231 (Nat.le_of_ble_eq_true rfl) (by rw [hN]; decide) rfl ?_
                have L233 : ∀ (q ji : Nat) (hh : zH) (aa233 bb233 : Nat), ji + q = mM S → SC (zG_of X) b S hC0 h0 hh → aa233 + q * 5 ≤ aa10 + 105 → bb233 + q * 31 ≤ bb10 + 650 → Z X 233 [.ref b, .ref o, vI (1), vI ((sm (S 7) kk) + (S 7 kk)), vI ((sm (S 8) kk) + (S 8 kk)), vI ((kk : Int)), vI (hcn S kk (mF S)), vI (ii), vI ((ji : Int))] [] hh aa233 bb233 := by
                  intro q
                  induction q with
                  | zero =>
                    intro ji hh aa233 bb233 hv233 Kl233 ha233 hb233
                    refine Z.iload C dL_isWhole_233 rfl ?_
                    refine Z.aload_n C dL_isWhole_235 rfl ?_
                    refine Z.iconst C dL_isWhole_236 ?_
                    refine Z.nld0 C dL_isWhole_237 (Kl233.keep ho oC) ?_
                    refine Z.icmp_ge (tgt := 324) C dL_isWhole_238 (by decide) (by omega) (by omega) (by omega) (by omega) (fun _ => ?_) (fun z => by exfalso; omega)
                    have e233 : ji = mM S := by omega
                    subst e233
                    refine Z.widen (k' := aa10 + 105) (n' := bb10 + 650) (by omega) (by omega) ?_
                    refine Z.iinc (l' := [_, _, _, _, _, _, _, _, _]) C dL_isWhole_324 rfl (Nat.le_of_ble_eq_true rfl) (by rw [hN]; decide) rfl ?_
                    refine Z.goto (tgt := 10) C dL_isWhole_327 (by decide) ?_
                    refine Z.pre (l' := [_, _, _, _, _, _]) 6 rfl ?_
                    rw [show sm (S 7) kk + S 7 kk = sm (S 7) (kk + 1) from rfl, show sm (S 8) kk + S 8 kk = sm (S 8) (kk + 1) from rfl]
                    rw [show ((kk : Int) + 1) = ((kk + 1 : Nat) : Int) from rfl]
                    exact ih10 (kk + 1) _ _ _ (by omega) Kl233 (by omega) (by omega)
                  | succ q ih233 =>
                    intro ji hh aa233 bb233 hv233 Kl233 ha233 hb233
                    refine Z.iload C dL_isWhole_233 rfl ?_
                    refine Z.aload_n C dL_isWhole_235 rfl ?_
                    refine Z.iconst C dL_isWhole_236 ?_
                    refine Z.nld0 C dL_isWhole_237 (Kl233.keep ho oC) ?_
                    refine Z.icmp_ge (tgt := 324) C dL_isWhole_238 (by decide) (by omega) (by omega) (by omega) (by omega) (fun z => by exfalso; omega) (fun _ => ?_)
                    refine Z.iload_n C dL_isWhole_241 rfl ?_
                    refine Z.if_eq (tgt := 324) C dL_isWhole_242 (by decide) (by omega) (by omega) (fun z => absurd z (by decide)) (fun _ => ?_)
                    refine Z.aload_n C dL_isWhole_245 rfl ?_
                    refine Z.iload C dL_isWhole_246 rfl ?_
                    refine Z.iload C dL_isWhole_248 rfl ?_
                    refine h_L_102 C rfl dL_isWhole_250 (x_owes_0 htr Kl233 (by omega) (by omega) (ew_0 (by omega))) (by decide) (Nat.le_of_ble_eq_true rfl) (by omega) (by omega) (fun w250 h250 q250 => ?_)
                    obtain ⟨rfl, K250⟩ := q250
                    rw [Int.toNat_natCast, Int.toNat_natCast]
                    have o1 : 0 ≤ S 9 (10 * kk + ji) ∧ S 9 (10 * kk + ji) ≤ 1000000 := MBs 9 _ (by decide)
                    have o2 : 0 ≤ S 9 (10 * ji + kk) ∧ S 9 (10 * ji + kk) ≤ 1000000 := MBs 9 _ (by decide)
                    have o3 := C8 kk ji (by omega) (by omega)
                    have o6 : ji = kk → S 9 (10 * kk + ji) = 0 := by
                      intro e
                      subst e
                      omega
                    have o4 := fun z => ((C3 kk (by omega) z).2.1 ji (by omega)).2
                    have o5 := fun z => ((C3 ji (by omega) z).2.1 kk (by omega)).1
                    refine Z.istore (l' := [_, _, _, _, _, _, _, _, _, _]) C dL_isWhole_253 (Nat.le_of_ble_eq_true rfl) (by rw [hN]; decide) rfl ?_
                    refine Z.iload C dL_isWhole_255 rfl ?_
                    refine Z.if_lt (tgt := 316) C dL_isWhole_257 (by decide) (by omega) (by omega) (fun z => by exfalso; omega) (fun _ => ?_)
                    refine Z.aload_n C dL_isWhole_260 rfl ?_
                    refine Z.iload C dL_isWhole_261 rfl ?_
                    refine Z.iload C dL_isWhole_263 rfl ?_
                    refine h_L_109 C rfl dL_isWhole_265 (x_owesAnew_0 htr K250 (by omega) (by omega) (ew_0 (by omega))) (by decide) (Nat.le_of_ble_eq_true rfl) (by omega) (by omega) (fun w265 h265 q265 => ?_)
                    obtain ⟨rfl, K265⟩ := q265
                    rw [Int.toNat_natCast, Int.toNat_natCast]
                    refine Z.iload C dL_isWhole_268 rfl ?_
                    refine Z.icmp_same (tgt := 316) C dL_isWhole_270 (by decide) ?_
                    refine Z.iload C dL_isWhole_273 rfl ?_
                    have J312 : ∀ hh : zH, SC (zG_of X) b S hC0 h0 hh → Z X 312 [.ref b, .ref o, vI (1), vI ((sm (S 7) kk) + (S 7 kk)), vI ((sm (S 8) kk) + (S 8 kk)), vI ((kk : Int)), vI (hcn S kk (mF S)), vI (ii), vI ((ji : Int)), vI (S 9 (10 * kk + ji))] [] hh (aa233 + 5) (bb233 + 31) := by
                      intro hh Kj312
                      refine Z.iconst C dL_isWhole_312 ?_
                      refine Z.goto (tgt := 317) C dL_isWhole_313 (by decide) ?_
                      refine Z.istore_n (l' := [_, _, _, _, _, _, _, _, _, _]) C dL_isWhole_317 (Nat.le_of_ble_eq_true rfl) (by rw [hN]; decide) rfl ?_
                      refine Z.iinc (l' := [_, _, _, _, _, _, _, _, _, _]) C dL_isWhole_318 rfl (Nat.le_of_ble_eq_true rfl) (by rw [hN]; decide) rfl ?_
                      refine Z.goto (tgt := 233) C dL_isWhole_321 (by decide) ?_
                      refine Z.pre (l' := [_, _, _, _, _, _, _, _, _]) 9 rfl ?_
                      rw [show ((ji : Int) + 1) = ((ji + 1 : Nat) : Int) from rfl]
                      exact ih233 (ji + 1) _ _ _ (by omega) Kj312 (by omega) (by omega)
                    refine Z.if_eq (tgt := 312) C dL_isWhole_275 (by decide) (by omega) (by omega) (fun c275 => ?_) (fun c275 => ?_)
                    · refine Z.widen (k' := aa233 + 5) (n' := bb233 + 31) (by omega) (by omega) ?_
                      exact J312 _ K265
                    · refine Z.aload_n C dL_isWhole_278 rfl ?_
                      refine Z.iload C dL_isWhole_279 rfl ?_
                      refine Z.iload C dL_isWhole_281 rfl ?_
                      refine h_L_102 C rfl dL_isWhole_283 (x_owes_0 htr K265 (by omega) (by omega) (ew_0 (by omega))) (by decide) (Nat.le_of_ble_eq_true rfl) (by omega) (by omega) (fun w283 h283 q283 => ?_)
                      obtain ⟨rfl, K283⟩ := q283
                      rw [Int.toNat_natCast, Int.toNat_natCast]
                      refine Z.if_ne (tgt := 316) C dL_isWhole_286 (by decide) (by omega) (by omega) (fun z => by exfalso; omega) (fun _ => ?_)
                      refine Z.iload C dL_isWhole_289 rfl ?_
                      refine Z.if_eq (tgt := 316) C dL_isWhole_291 (by decide) (by omega) (by omega) (fun z => absurd (o4 (by omega)) c275) (fun _ => ?_)
                      refine Z.aload_n C dL_isWhole_294 rfl ?_
                      refine Z.iload C dL_isWhole_295 rfl ?_
                      refine Z.iconst C dL_isWhole_297 ?_
                      refine h_L_98 C rfl dL_isWhole_298 (x_member_0 htr K283 (by omega) (by decide) (em_0 (by omega) (by decide))) (by decide) (Nat.le_of_ble_eq_true rfl) (by omega) (by omega) (fun w298 h298 q298 => ?_)
                      obtain ⟨rfl, K298⟩ := q298
                      rw [Int.toNat_natCast]
                      have vj := vMem_in (S := S) (m := ji)
                      refine Z.iconst C dL_isWhole_301 ?_
                      refine Z.icmp_ne (tgt := 316) C dL_isWhole_302 (by decide) (by omega) (by omega) (by omega) (by omega) (fun z => absurd (o5 (by omega)) c275) (fun _ => ?_)
                      refine Z.iload C dL_isWhole_305 rfl ?_
                      refine Z.iload C dL_isWhole_307 rfl ?_
                      refine Z.icmp_eq (tgt := 316) C dL_isWhole_309 (by decide) (by omega) (by omega) (by omega) (by omega) (fun z => absurd (o6 (by omega)) c275) (fun _ => ?_)
                      refine Z.widen (k' := aa233 + 5) (n' := bb233 + 31) (by omega) (by omega) ?_
                      exact J312 _ K298
                exact L233 (mM S) 0 _ _ _ (by omega) K218 (by omega) (by omega)
              refine Z.if_le (tgt := 182) C dL_isWhole_175 (by decide) (by omega) (by omega) (fun c175 => ?_) (fun c175 => ?_)
              · refine Z.iconst C dL_isWhole_182 ?_
                exact J183 _ (by omega)
              · refine Z.iconst C dL_isWhole_178 ?_
                refine Z.goto (tgt := 183) C dL_isWhole_179 (by decide) ?_
                exact J183 _ (by omega)
            refine Z.if_le (tgt := 167) C dL_isWhole_160 (by decide) (by omega) (by omega) (fun c160 => ?_) (fun c160 => ?_)
            · refine Z.iconst C dL_isWhole_167 ?_
              exact J168 _ (by omega)
            · refine Z.iconst C dL_isWhole_163 ?_
              refine Z.goto (tgt := 168) C dL_isWhole_164 (by decide) ?_
              exact J168 _ (by omega)
          | succ q ih68 =>
            intro jj hh aa68 bb68 hv68 Kl68 ha68 hb68
            refine Z.iload C dL_isWhole_68 rfl ?_
            refine Z.aload_n C dL_isWhole_70 rfl ?_
            refine Z.iconst C dL_isWhole_71 ?_
            refine Z.nld1 C dL_isWhole_72 (Kl68.keep ho oC) ?_
            refine Z.icmp_ge (tgt := 130) C dL_isWhole_73 (by decide) (by omega) (by omega) (by omega) (by omega) (fun z => by exfalso; omega) (fun _ => ?_)
            refine Z.iload_n C dL_isWhole_76 rfl ?_
            refine Z.if_eq (tgt := 130) C dL_isWhole_77 (by decide) (by omega) (by omega) (fun z => absurd z (by decide)) (fun _ => ?_)
            refine Z.iload C dL_isWhole_80 rfl ?_
            refine Z.aload_n C dL_isWhole_82 rfl ?_
            refine Z.iload C dL_isWhole_83 rfl ?_
            refine Z.iload C dL_isWhole_85 rfl ?_
            refine h_L_100 C rfl dL_isWhole_87 (x_has_0 htr Kl68 (by omega) (by omega) (eh_0 (by omega))) (by decide) (Nat.le_of_ble_eq_true rfl) (by omega) (by omega) (fun w87 h87 q87 => ?_)
            obtain ⟨rfl, K87⟩ := q87
            rw [Int.toNat_natCast, Int.toNat_natCast]
            obtain ⟨b1, hb1⟩ : ∃ b1 : Int, b1 = (if S 13 (20 * kk + jj) = 0 then (0 : Int) else 1) := ⟨_, rfl⟩
            rw [← hb1]
            have gb1 : (S 13 (20 * kk + jj) = 0 ∧ b1 = 0) ∨ (¬ S 13 (20 * kk + jj) = 0 ∧ b1 = 1) := by
              rw [hb1]
              exact bit_c _
            refine Z.iconst C dL_isWhole_90 ?_
            have J99 : ∀ v9 : Int, v9 = b1 → Z X 99 [.ref b, .ref o, vI (1), vI ((sm (S 7) kk) + (S 7 kk)), vI ((sm (S 8) kk) + (S 8 kk)), vI ((kk : Int)), vI (hcn S kk jj), vI (ii), vI ((jj : Int))] [vI (v9), vI (hcn S kk jj)] h87 (aa68 + 1) (bb68 + 6) := by
              intro v9 hv9
              subst hv9
              refine Z.iadd C dL_isWhole_99 ?_
              refine Z.istore (l' := [_, _, _, _, _, _, _, _, _]) C dL_isWhole_100 (Nat.le_of_ble_eq_true rfl) (by rw [hN]; decide) rfl ?_
              refine Z.iload C dL_isWhole_102 rfl ?_
              have J123 : ∀ hh : zH, SC (zG_of X) b S hC0 h0 hh → Z X 123 [.ref b, .ref o, vI (1), vI ((sm (S 7) kk) + (S 7 kk)), vI ((sm (S 8) kk) + (S 8 kk)), vI ((kk : Int)), vI ((hcn S kk jj) + v9), vI (ii), vI ((jj : Int))] [vI (1)] hh (aa68 + 2) (bb68 + 12) := by
                intro hh Kj123
                refine Z.istore_n (l' := [_, _, _, _, _, _, _, _, _]) C dL_isWhole_123 (Nat.le_of_ble_eq_true rfl) (by rw [hN]; decide) rfl ?_
                refine Z.iinc (l' := [_, _, _, _, _, _, _, _, _]) C dL_isWhole_124 rfl (Nat.le_of_ble_eq_true rfl) (by rw [hN]; decide) rfl ?_
                refine Z.goto (tgt := 68) C dL_isWhole_127 (by decide) ?_
                rw [show hcn S kk jj + v9 = hcn S kk (jj + 1) by rw [hb1]; rfl]
                rw [show ((jj : Int) + 1) = ((jj + 1 : Nat) : Int) from rfl]
                exact ih68 (jj + 1) _ _ _ (by omega) Kj123 (by omega) (by omega)
              refine Z.if_ne (tgt := 118) C dL_isWhole_104 (by decide) (by omega) (by omega) (fun c104 => ?_) (fun c104 => ?_)
              · refine Z.iconst C dL_isWhole_118 ?_
                refine Z.goto (tgt := 123) C dL_isWhole_119 (by decide) ?_
                refine Z.widen (k' := aa68 + 2) (n' := bb68 + 12) (by omega) (by omega) ?_
                exact J123 _ K87
              · refine Z.aload_n C dL_isWhole_107 rfl ?_
                refine Z.iload C dL_isWhole_108 rfl ?_
                refine Z.iload C dL_isWhole_110 rfl ?_
                refine h_L_100 C rfl dL_isWhole_112 (x_has_0 htr K87 (by omega) (by omega) (eh_0 (by omega))) (by decide) (Nat.le_of_ble_eq_true rfl) (by omega) (by omega) (fun w112 h112 q112 => ?_)
                obtain ⟨rfl, K112⟩ := q112
                rw [Int.toNat_natCast, Int.toNat_natCast]
                obtain ⟨b2, hb2⟩ : ∃ b2 : Int, b2 = (if S 13 (20 * kk + jj) = 0 then (0 : Int) else 1) := ⟨_, rfl⟩
                rw [← hb2]
                have gb2 : (S 13 (20 * kk + jj) = 0 ∧ b2 = 0) ∨ (¬ S 13 (20 * kk + jj) = 0 ∧ b2 = 1) := by
                  rw [hb2]
                  exact bit_c _
                refine Z.if_ne (tgt := 122) C dL_isWhole_115 (by decide) (by omega) (by omega) (fun z => by exfalso; have := (C3 kk (by omega) (by omega)).1 jj (by omega); omega) (fun _ => ?_)
                refine Z.iconst C dL_isWhole_118 ?_
                refine Z.goto (tgt := 123) C dL_isWhole_119 (by decide) ?_
                refine Z.widen (k' := aa68 + 2) (n' := bb68 + 12) (by omega) (by omega) ?_
                exact J123 _ K112
            refine Z.icmp_ne (tgt := 98) C dL_isWhole_91 (by decide) (by omega) (by omega) (by omega) (by omega) (fun c91 => ?_) (fun c91 => ?_)
            · refine Z.iconst C dL_isWhole_98 ?_
              exact J99 _ (by omega)
            · refine Z.iconst C dL_isWhole_94 ?_
              refine Z.goto (tgt := 99) C dL_isWhole_95 (by decide) ?_
              exact J99 _ (by omega)
        exact L68 (mF S) 0 _ _ _ (by omega) K60 (by omega) (by omega)
      refine Z.icmp_ne (tgt := 40) C dL_isWhole_33 (by decide) (by omega) (by omega) (by omega) (by omega) (fun c33 => ?_) (fun c33 => ?_)
      · refine Z.iconst C dL_isWhole_40 ?_
        exact J41 _ (by omega)
      · refine Z.iconst C dL_isWhole_36 ?_
        refine Z.goto (tgt := 41) C dL_isWhole_37 (by decide) ?_
        exact J41 _ (by omega)
  exact L10 (mM S) 0 _ _ _ (by omega) K (by omega) (by omega)
