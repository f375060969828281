/-! leave -/
def cGo (T : Nat → Nat → Int) (m : Nat) : Nat → Nat → Int := rput (su (su T 3 m 0) 5 m 0) 13 20 m (fun _ => 0)
def cLe1 (T : Nat → Nat → Int) (m : Nat) : Nat → Nat → Int := cLog (cGo T m) 3 (T 1 0) (m : Int) 0 (-1) (fun _ => 0)
def cLe2 (T : Nat → Nat → Int) (m : Nat) : Nat → Nat → Int := cKL (cLe1 T m) (cN (cGo T m) 3) (cN (cGo T m) 0)
def cLv (m : Nat) (ic : Int) (T : Nat → Nat → Int) : Nat → (Nat → Nat → Int)
  | 0 => T
  | p + 1 => if cLv m ic T p 16 p = 0 then cDec (su (cLv m ic T p) 20 (10 * p + m) 0) p ic else cLv m ic T p
/-- the club after m has left -/
def cLeT (T : Nat → Nat → Int) (m : Nat) : Nat → Nat → Int := cLv m (mmany (cLe2 T m) (cN (cLe2 T m) 0)) (cLe2 T m) (cN (cLe2 T m) 2)
theorem cDec_ne (T : Nat → Nat → Int) (p : Nat) (ic : Int) {g : Nat} (h1 : g ≠ 16) (h2 : g ≠ 19) : cDec T p ic g = T g := by
  unfold cDec
  rw [su_ne _ _ _ h2, su_ne _ _ _ h1]
theorem cLv_ne (m : Nat) (ic : Int) (T : Nat → Nat → Int) {g : Nat} (h1 : g ≠ 16) (h2 : g ≠ 19) (h3 : g ≠ 20) : ∀ p, cLv m ic T p g = T g
  | 0 => rfl
  | p + 1 => by
    rw [cLv]
    split
    · rw [cDec_ne _ _ _ h1 h2, su_ne _ _ _ h3, cLv_ne m ic T h1 h2 h3 p]
    · exact cLv_ne m ic T h1 h2 h3 p
theorem cLv_cN (m : Nat) (ic : Int) (T : Nat → Nat → Int) (p k : Nat) : cN (cLv m ic T p) k = cN T k := by
  unfold cN
  split <;> first | rfl | rw [cLv_ne m ic T (by decide) (by decide) (by decide)]
theorem TB_lv (m : Nat) (ic : Int) {T : Nat → Nat → Int} (I : TB T) : ∀ p, TB (cLv m ic T p)
  | 0 => I
  | p + 1 => by
    rw [cLv]
    split
    · exact TB_dec (TB_su (TB_lv m ic I p) 20 _ (by decide) (show 0 ≤ (0 : Int) ∧ (0 : Int) ≤ 2 by decide)) p ic
    · exact TB_lv m ic I p
theorem TB_go {T : Nat → Nat → Int} (I : TB T) (m : Nat) : TB (cGo T m) := by
  have I1 := TB_su (TB_su I 3 m (v := 0) (by decide) (show 0 ≤ (0 : Int) ∧ (0 : Int) ≤ 1 by decide)) 5 m (v := 0) (by decide) (show 0 ≤ (0 : Int) ∧ (0 : Int) ≤ 20 by decide)
  refine ⟨fun k j k1 k2 k3 => ?_, fun j => by unfold cGo; rw [rput_ne _ _ _ _ (by decide)]; exact I1.2 j⟩
  unfold cGo rput
  split
  · rename_i e
    subst e
    dsimp only
    split
    · exact ⟨Int.le_refl _, by decide⟩
    · exact I1.1 _ j k1 k2 k3
  · exact I1.1 k j k1 k2 k3
theorem cGo_ne (T : Nat → Nat → Int) (m : Nat) {g : Nat} (h1 : g ≠ 3) (h2 : g ≠ 5) (h3 : g ≠ 13) : cGo T m g = T g := by
  unfold cGo
  rw [rput_ne _ _ _ _ h3, su_ne _ _ _ h2, su_ne _ _ _ h1]
theorem cGo_cN (T : Nat → Nat → Int) (m k : Nat) : cN (cGo T m) k = cN T k := by
  unfold cN
  split <;> first | rfl | rw [cGo_ne T m (by decide) (by decide) (by decide)]
theorem CR.go {G : zG} {ad : Nat → Nat → Nat} {el : Nat → Nat} {T : Nat → Nat → Int} {h : zH} (R : CR G ad el T h) {m : Nat} (hm : m < cN T 0) : CR G ad el (cGo T m) (zput (zput h (ad 1 m) (eO 5 [vI (m : Int), vI (T 4 m), vI (T 6 m), .ref (ad 3 m), .ref (ad 2 m), vI 0, vI 0, vI (T 8 m)])) (ad 2 m) (eI (G.2.1 1) 20 (fun j => if j < 20 then 0 else row T 13 20 m j))) := by
  have R1 := R.st3 hm 0
  have h1 : m < cN (su T 3 m 0) 0 := by rw [cN_su _ _ _ (by decide) (by decide) (by decide) (by decide)]; exact hm
  have R2 := R1.st5 h1 0
  have h2 : m < cN (su (su T 3 m 0) 5 m 0) 0 := by rw [cN_su _ _ _ (by decide) (by decide) (by decide) (by decide)]; exact h1
  have R3 := R2.rw13 h2 (fun _ => 0) (fun _ _ => rfl)
  have e : (fun j => if j < 20 then (0 : Int) else row T 13 20 m j) = fun _ => 0 := by
    funext j
    by_cases c : j < 20
    · rw [if_pos c]
    · rw [if_neg c, row_hi T 13 20 m (by omega)]
  have e3 : su T 3 m 0 3 m = 0 := by rw [su_at, if_pos ⟨rfl, rfl⟩]
  rw [zput_zput, e3] at R3
  rw [e]
  exact R3

set_option maxRecDepth 100000 in
theorem c_X6_leave_ok {ln : Launch} (htr : ln.stackTraces = false) {G : zG} {h : zH} {ad : Nat → Nat → Nat} {el : Nat → Nat} {T : Nat → Nat → Int} (R : CR G ad el T h) (I : TB T) {m : Nat} (hm : m < cN T 0) (h3 : ¬ T 3 m = 0) (h31 : T 31 0 < 310) : CT ln G yX6_leave cX6_leave 6 (some .int) 10 ([.ref (ad 0 0), vI (m : Int)]) h 3 502 (fun r9 h9 => r9 = some (vI (cLeT T m 7 m)) ∧ CK G (ad 0 0) (cLeT T m) h9) zNo := by
  refine CT.intro htr (by decide) rfl (Nat.le_of_ble_eq_true rfl) ?_
  intro X hln hG hR hN C E
  subst hln
  subst hG
  have hn9 := I.n
  refine Z.aload_n C dX6_leave_0 rfl ?_
  refine Z.iload_n C dX6_leave_1 rfl ?_
  refine v_X6_59 C rfl dX6_leave_2 (R.club) (c_X6_memberInClub_ok htr R I hm h3) (by decide) (Nat.le_of_ble_eq_true rfl) (by rw [hR]; exact Nat.le_of_ble_eq_true rfl) (by rw [hR]; exact Nat.le_of_ble_eq_true rfl) (fun w2 h2 q2 => ?_) (fun _ _ q => q.elim)
  obtain ⟨rfl, q2⟩ := q2
  replace q2 := q2.symm
  subst q2
  refine Z.astore_n (l' := [_, _, _]) C dX6_leave_5 (Nat.le_of_ble_eq_true rfl) (by rw [hN]; decide) rfl ?_
  refine Z.aload_n C dX6_leave_6 rfl ?_
  refine v_X6_63 C rfl dX6_leave_7 (R.mem hm) (c_X3_goAway htr (R.mem hm) (R.held hm)) (by decide) (Nat.le_of_ble_eq_true rfl) (by rw [hR]; exact Nat.le_of_ble_eq_true rfl) (by rw [hR]; exact Nat.le_of_ble_eq_true rfl) (fun w7 h7 q7 => ?_) (fun _ _ q => q.elim)
  obtain ⟨rfl, q7⟩ := q7
  have Rg := R.go hm
  rw [← q7] at Rg
  clear q7
  have Ig := TB_go I m
  have eng := cGo_cN T m
  have eng0 := eng 0
  have eng2 := eng 2
  have eng3 := eng 3
  refine Z.aload_n C dX6_leave_10 rfl ?_
  refine n_X6_66 C rfl dX6_leave_11 (by rw [hR]; exact Nat.le_of_ble_eq_true rfl) (by rw [hR]; exact Nat.le_of_ble_eq_true rfl) (fun a1 na => ?_)
  have hna := Rg.new na
  have Rn := Rg.out hna (eO 3 [.null, vI 0, vI 0, vI 0, .null, vI 0])
  refine Z.dup C dX6_leave_14 rfl ?_
  refine Z.way C (i := 3) (by decide) zx_w3 dX6_leave_15 ?_
  refine Z.aload_n C dX6_leave_18 rfl ?_
  refine g_X6_25  C rfl dX6_leave_19 (Rn.club) rfl ?_
  rw [cGo_ne T m (by decide) (by decide) (by decide)]
  refine Z.iload_n C dX6_leave_22 rfl ?_
  refine Z.iconst C dX6_leave_23 ?_
  refine i_X6_74 C rfl dX6_leave_24 (c_X1_init htr (zput_same _ _ _)) (by decide) (Nat.le_of_ble_eq_true rfl) (by rw [hR]; exact Nat.le_of_ble_eq_true rfl) (by rw [hR]; exact Nat.le_of_ble_eq_true rfl) (fun w24 h24 q24 => ?_)
  obtain ⟨rfl, b1, nb0, hba, p1, p2, p3⟩ := q24
  have nb : h7 b1 = none := by rw [zput_ne _ _ hba] at nb0; exact nb0
  have hnb := Rg.new nb
  have R1 := Rg.keep (h9 := h24) (fun q hq => (p3 q (fun z => Rg.own hq (by rw [z]; exact na)) (fun z => Rg.own hq (by rw [z]; exact nb))).trans (zput_ne _ _ (fun z => Rg.own hq (by rw [z]; exact na))))
  have h31b : 0 ≤ T 31 0 := (I.1 31 0 (by decide) (by decide) (by decide)).1
  have h1b : 0 ≤ T 1 0 ∧ T 1 0 ≤ 2000 := I.1 1 0 (by decide) (by decide) (by decide)
  have hI1 : TB (cLe1 T m) := TB_log Ig (by decide) h1b (by omega) (by decide) (by decide) (fun _ => by decide) (by rw [cGo_ne T m (by decide) (by decide) (by decide)]; exact h31)
  have hI2 : TB (cLe2 T m) := same73_TB (cKL_s _ _ _) hI1
  refine v_X6_77 C rfl dX6_leave_27 (R1.club) (c_X6_keepInLog_ok htr R1 Ig (w := 3) (hr := T 1 0) (wh := (m : Int)) (un := 0) (hd := -1) (g := fun _ => 0) hna hnb hba p1 p2 (fun _ _ => rfl) (by rw [cGo_ne T m (by decide) (by decide) (by decide)]; exact h31) hI1) (by decide) (Nat.le_of_ble_eq_true rfl) (by rw [hR]; exact Nat.le_of_ble_eq_true rfl) (by rw [hR]; exact Nat.le_of_ble_eq_true rfl) (fun w27 h27 q27 => ?_) (fun _ _ q => q.elim)
  obtain ⟨rfl, ad9, el9, R3, e0, e1, -, -⟩ := q27
  replace R3 : CR (zG_of X) ad9 el9 (cLe2 T m) h27 := R3
  rw [← e0, ← e1 1 m (show m < cN _ 0 by omega)]
  have hc1 := cLog_cN (cGo T m) 3 (T 1 0) (m : Int) 0 (-1) (fun _ => 0) (by rw [cGo_ne T m (by decide) (by decide) (by decide)]; exact h31b)
  have hcF : ∀ k, cN (cLe2 T m) k = cN (cLe1 T m) k := same73_cN (cKL_s _ _ _)
  have hc0 := hcF 0
  have hc2 := hcF 2
  have hcc : cN (cLe1 T m) 0 = cN T 0 ∧ cN (cLe1 T m) 2 = cN T 2 := ⟨hc1.1.trans eng0, hc1.2.2.1.trans eng2⟩
  have hic := mmany_b (cLe2 T m) (cN (cLe2 T m) 0)
  refine Z.aload_n C dX6_leave_30 rfl ?_
  refine v_X6_81 C rfl dX6_leave_31 (R3.club) (c_X6_countInClub htr R3 hI2) (by decide) (Nat.le_of_ble_eq_true rfl) (by rw [hR]; exact Nat.le_of_ble_eq_true rfl) (by rw [hR]; exact Nat.le_of_ble_eq_true rfl) (fun w31 h31 q31 => ?_) (fun _ _ q => q.elim)
  obtain ⟨rfl, q31⟩ := q31
  replace q31 := q31.symm
  subst q31
  refine Z.istore_n (l' := [_, _, _, _]) C dX6_leave_34 (Nat.le_of_ble_eq_true rfl) (by rw [hN]; decide) rfl ?_
  refine Z.iconst C dX6_leave_35 ?_
  refine Z.istore (l' := [_, _, _, _, _]) C dX6_leave_36 (Nat.le_of_ble_eq_true rfl) (by rw [hN]; decide) rfl ?_
  have L : ∀ (q i : Nat) (hh : zH), i + q = cN T 2 → CR (zG_of X) ad9 el9 (cLv m (mmany (cLe2 T m) (cN (cLe2 T m) 0)) (cLe2 T m) i) hh → Z X 38 [.ref (ad9 0 0), vI (m : Int), .ref (ad9 1 m), vI (mmany (cLe2 T m) (cN (cLe2 T m) 0)), vI (i : Int)] [] hh 3 496 := by
    intro q
    induction q with
    | zero =>
      intro i hh hi R
      have I := TB_lv m (mmany (cLe2 T m) (cN (cLe2 T m) 0)) hI2 i
      have en := cLv_cN m (mmany (cLe2 T m) (cN (cLe2 T m) 0)) (cLe2 T m) i
      have en0 := en 0
      have en2 := en 2
      have hn9 := I.n
      have hR := hR
      have h16 : 0 ≤ (cLv m (mmany (cLe2 T m) (cN (cLe2 T m) 0)) (cLe2 T m) i) 16 i ∧ (cLv m (mmany (cLe2 T m) (cN (cLe2 T m) 0)) (cLe2 T m) i) 16 i ≤ 2 := I.1 16 i (by decide) (by decide) (by decide)
      refine Z.iload C dX6_leave_38 rfl ?_
      refine Z.aload_n C dX6_leave_40 rfl ?_
      refine g_X6_19  C rfl dX6_leave_41 (R.club) rfl ?_
      refine v_X6_41 C rfl dX6_leave_44 (R.lPo.choose_spec) (c_size htr R.lP) (by decide) (Nat.le_of_ble_eq_true rfl) (by rw [hR]; exact Nat.le_of_ble_eq_true rfl) (by rw [hR]; exact Nat.le_of_ble_eq_true rfl) (fun w44 h44 q44 => ?_) (fun _ _ q => q.elim)
      obtain ⟨rfl, q44⟩ := q44
      replace q44 := q44.symm
      subst q44
      refine Z.icmp_ge (tgt := 95) C dX6_leave_47 (by decide) (by omega) (by omega) (by omega) (by omega) (fun c47 => ?_) (fun c47 => ?_)
      · refine Z.aload_n C dX6_leave_95 rfl ?_
        refine g_X6_100  C rfl dX6_leave_96 (R.mem (i := m) (by omega)) rfl ?_
        refine g_X6_104  C rfl dX6_leave_99 (R.book (i := m) (by omega)) rfl ?_
        exact Z.iret C E dX6_leave_102 (by decide) (by decide) ⟨by unfold cLeT; rw [show cN (cLe2 T m) 2 = i by omega], ad9, el9, e0, by unfold cLeT; rw [show cN (cLe2 T m) 2 = i by omega]; exact R⟩
      · exfalso; omega
    | succ q ih =>
      intro i hh hi R
      have I := TB_lv m (mmany (cLe2 T m) (cN (cLe2 T m) 0)) hI2 i
      have en := cLv_cN m (mmany (cLe2 T m) (cN (cLe2 T m) 0)) (cLe2 T m) i
      have en0 := en 0
      have en2 := en 2
      have hn9 := I.n
      have hR := hR
      have h16 : 0 ≤ (cLv m (mmany (cLe2 T m) (cN (cLe2 T m) 0)) (cLe2 T m) i) 16 i ∧ (cLv m (mmany (cLe2 T m) (cN (cLe2 T m) 0)) (cLe2 T m) i) 16 i ≤ 2 := I.1 16 i (by decide) (by decide) (by decide)
      refine Z.iload C dX6_leave_38 rfl ?_
      refine Z.aload_n C dX6_leave_40 rfl ?_
      refine g_X6_19  C rfl dX6_leave_41 (R.club) rfl ?_
      refine v_X6_41 C rfl dX6_leave_44 (R.lPo.choose_spec) (c_size htr R.lP) (by decide) (Nat.le_of_ble_eq_true rfl) (by rw [hR]; exact Nat.le_of_ble_eq_true rfl) (by rw [hR]; exact Nat.le_of_ble_eq_true rfl) (fun w44 h44 q44 => ?_) (fun _ _ q => q.elim)
      obtain ⟨rfl, q44⟩ := q44
      replace q44 := q44.symm
      subst q44
      refine Z.icmp_ge (tgt := 95) C dX6_leave_47 (by decide) (by omega) (by omega) (by omega) (by omega) (fun c47 => ?_) (fun c47 => ?_)
      · exfalso; omega
      · refine Z.aload_n C dX6_leave_50 rfl ?_
        refine g_X6_19  C rfl dX6_leave_51 (R.club) rfl ?_
        refine Z.iload C dX6_leave_54 rfl ?_
        refine v_X6_84 C rfl dX6_leave_56 (R.lPo.choose_spec) (c_getN htr R.lP (i := i) (by omega)) (by decide) (Nat.le_of_ble_eq_true rfl) (by rw [hR]; exact Nat.le_of_ble_eq_true rfl) (by rw [hR]; exact Nat.le_of_ble_eq_true rfl) (fun w56 h56 q56 => ?_) (fun _ _ q => q.elim)
        obtain ⟨rfl, q56⟩ := q56
        replace q56 := q56.symm
        subst q56
        refine k_X6_88 C rfl dX6_leave_59 (R.pro (i := i) (by omega)) ?_
        refine Z.astore (l' := [_, _, _, _, _, _]) C dX6_leave_62 (Nat.le_of_ble_eq_true rfl) (by rw [hN]; decide) rfl ?_
        refine Z.aload C dX6_leave_64 rfl ?_
        refine g_X6_90  C rfl dX6_leave_66 (R.pro (i := i) (by omega)) rfl ?_
        refine Z.if_ne (tgt := 89) C dX6_leave_69 (by decide) (by omega) (by omega) (fun c69 => ?_) (fun c69 => ?_)
        · refine Z.iinc (l' := [_, _, _, _, _, _]) C dX6_leave_89 rfl (Nat.le_of_ble_eq_true rfl) (by rw [hN]; decide) rfl ?_
          refine Z.goto (tgt := 38) C dX6_leave_92 (by decide) ?_
          refine Z.pre (l' := [_, _, _, _, _]) 5 rfl ?_
          refine ih (i + 1) _ (by omega) ?_
          rw [cLv]
          first | (rw [if_neg c69]; exact R) | (rw [if_pos c69]; exact R2)
        · refine Z.aload C dX6_leave_72 rfl ?_
          refine Z.iload_n C dX6_leave_74 rfl ?_
          refine Z.iconst C dX6_leave_75 ?_
          refine v_X6_93 C rfl dX6_leave_76 (R.pro (i := i) (by omega)) (c_X4_setVote htr (R.pro (i := i) (by omega)) (R.vot (i := i) (by omega)) (i := m) (by omega)) (by decide) (Nat.le_of_ble_eq_true rfl) (by rw [hR]; exact Nat.le_of_ble_eq_true rfl) (by rw [hR]; exact Nat.le_of_ble_eq_true rfl) (fun w76 h76 q76 => ?_) (fun _ _ q => q.elim)
          obtain ⟨rfl, rfl⟩ := q76
          have hpi : i < cN (cLv m (mmany (cLe2 T m) (cN (cLe2 T m) 0)) (cLe2 T m) i) 2 := by omega
          have R1 := R.sr20 hpi (show m < 10 by omega) 0
          have I1 := TB_su I 20 (10 * i + m) (v := 0) (by decide) (show 0 ≤ (0 : Int) ∧ (0 : Int) ≤ 2 by decide)
          have hp1 : i < cN (su (cLv m (mmany (cLe2 T m) (cN (cLe2 T m) 0)) (cLe2 T m) i) 20 (10 * i + m) 0) 2 := by rw [cN_su _ _ _ (by decide) (by decide) (by decide) (by decide)]; exact hpi
          refine Z.aload C dX6_leave_79 rfl ?_
          refine Z.iload_n C dX6_leave_81 rfl ?_
          refine Z.aload_n C dX6_leave_82 rfl ?_
          refine g_X6_25  C rfl dX6_leave_83 (R1.club) rfl ?_
          refine v_X6_97 C rfl dX6_leave_86 (R1.pro hp1) (c_X4_decide htr (R1.pro hp1) (R1.vot hp1) (row_b I1) (by omega)) (by decide) (Nat.le_of_ble_eq_true rfl) (by rw [hR]; exact Nat.le_of_ble_eq_true rfl) (by rw [hR]; exact Nat.le_of_ble_eq_true rfl) (fun w86 h86 q86 => ?_) (fun _ _ q => q.elim)
          obtain ⟨rfl, rfl⟩ := q86
          have R2 := R1.dec hp1 (mmany (cLe2 T m) (cN (cLe2 T m) 0))
          refine Z.iinc (l' := [_, _, _, _, _, _]) C dX6_leave_89 rfl (Nat.le_of_ble_eq_true rfl) (by rw [hN]; decide) rfl ?_
          refine Z.goto (tgt := 38) C dX6_leave_92 (by decide) ?_
          refine Z.pre (l' := [_, _, _, _, _]) 5 rfl ?_
          refine ih (i + 1) _ (by omega) ?_
          rw [cLv]
          first | (rw [if_neg c69]; exact R) | (rw [if_pos c69]; exact R2)
  exact L _ 0 _ (Nat.zero_add _) R3

set_option maxRecDepth 100000 in
theorem c_X6_leave_x1 {ln : Launch} (htr : ln.stackTraces = false) {G : zG} {h : zH} {ad : Nat → Nat → Nat} {el : Nat → Nat} {T : Nat → Nat → Int} (R : CR G ad el T h) (I : TB T) {m : Int} (hr : -2147483648 ≤ m ∧ m < 2147483648) (hm : ¬ (0 ≤ m ∧ m < cN T 0)) : CT ln G yX6_leave cX6_leave 6 (some .int) 10 ([.ref (ad 0 0), vI m]) h 3 502 (fun _ _ => False) (fun E9 h9 => E9 = "java/lang/IndexOutOfBoundsException" ∧ h9 = h) := by
  refine CT.intro htr (by decide) rfl (Nat.le_of_ble_eq_true rfl) ?_
  intro X hln hG hR hN C E
  subst hln
  subst hG
  have hn9 := I.n
  refine Z.aload_n C dX6_leave_0 rfl ?_
  refine Z.iload_n C dX6_leave_1 rfl ?_
  refine v_X6_59 C rfl dX6_leave_2 (R.club) (c_X6_memberInClub_no htr R I hr hm) (by decide) (Nat.le_of_ble_eq_true rfl) (by rw [hR]; exact Nat.le_of_ble_eq_true rfl) (by rw [hR]; exact Nat.le_of_ble_eq_true rfl) (fun w2 h2 q2 => ?_) (fun E9 h9 q9 => by obtain ⟨rfl, rfl⟩ := q9; exact ZT.out C E (by decide) (by decide) ⟨rfl, rfl⟩)
  exact q2.elim
  

set_option maxRecDepth 100000 in
theorem c_X6_leave_x2 {ln : Launch} (htr : ln.stackTraces = false) {G : zG} {h : zH} {ad : Nat → Nat → Nat} {el : Nat → Nat} {T : Nat → Nat → Int} (R : CR G ad el T h) (I : TB T) {m : Nat} (hm : m < cN T 0) (h3 : T 3 m = 0) : CT ln G yX6_leave cX6_leave 6 (some .int) 10 ([.ref (ad 0 0), vI (m : Int)]) h 3 502 (fun _ _ => False) (fun E9 h9 => E9 = "java/lang/IllegalStateException" ∧ h9 = h) := by
  refine CT.intro htr (by decide) rfl (Nat.le_of_ble_eq_true rfl) ?_
  intro X hln hG hR hN C E
  subst hln
  subst hG
  have hn9 := I.n
  refine Z.aload_n C dX6_leave_0 rfl ?_
  refine Z.iload_n C dX6_leave_1 rfl ?_
  refine v_X6_59 C rfl dX6_leave_2 (R.club) (c_X6_memberInClub_out htr R I hm h3) (by decide) (Nat.le_of_ble_eq_true rfl) (by rw [hR]; exact Nat.le_of_ble_eq_true rfl) (by rw [hR]; exact Nat.le_of_ble_eq_true rfl) (fun w2 h2 q2 => ?_) (fun E9 h9 q9 => by obtain ⟨rfl, rfl⟩ := q9; exact ZT.out C E (by decide) (by decide) ⟨rfl, rfl⟩)
  exact q2.elim
  

