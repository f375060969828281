/-! exceptions of the class -/
theorem zx_kIAE : Cond.classLink RX6 32 "java/lang/IllegalArgumentException" ∈ zW := zW_of 125 (by decide +kernel) (by decide +kernel)
theorem zx_iIAE : Cond.initialized "java/lang/IllegalArgumentException" ∈ zW := zW_of 34 (by decide +kernel) (by decide +kernel)
theorem zx_aIAE : ((vx_atS RX6 36 "java/lang/IllegalArgumentException" ["java/lang/RuntimeException", "java/lang/Exception"]).filter goodWord).all (fun w => decide (w ∈ lw_tbl)) = true := by decide +kernel
theorem zx_bIAE : ((vx_atS RX6 36 "java/lang/IllegalArgumentException" ["java/lang/RuntimeException", "java/lang/Exception"]).filter (fun w => !goodWord w)).all (fun w => decide (w ∈ Cond.castable "java/lang/IllegalArgumentException" "java/lang/IllegalArgumentException" :: zDecl.map Cond.declares)) = true := by decide +kernel

theorem Z.xIAE {X : zX} {cc : ByteArray} {y : MethodName} {d pc k n : Nat} {l st : List Value} {h : zH} (C : ZC X cc y d) {text : String} {is mc ms : Nat} {Qf : Option Value → zH → Prop} {Xf : String → zH → Prop} {ret : Option FieldType} (E : zEnd X ret mc ms Qf Xf) (hy : y.cls = RX6) (htx : (RX6, is, text) ∈ zTexts)
    (d0 : decode cc pc = .ok (.new 32, 3)) (d3 : decode cc (pc + 3) = .ok (.dup, 1)) (d4 : decode cc (pc + 4) = .ok (.ldc is, 2)) (d6 : decode cc (pc + 6) = .ok (.invokespecial 36, 3)) (d9 : decode cc (pc + 9) = .ok (.athrow, 1))
    (hd6 : 6 ≤ d) (hcat : (st.map fun v => v.category).sum ≤ 8) (hk1 : k + 1 ≤ mc) (hn1 : n + 6 ≤ ms) (hk : k + 1 ≤ (zR_of X).cells) (hn : n + 6 ≤ (zR_of X).slots) (hq : Xf "java/lang/IllegalArgumentException" h) : Z X pc l st h k n :=
  Z.throwS (names := ["java/lang/RuntimeException", "java/lang/Exception"]) C E (by decide +kernel) (by decide +kernel) rfl (by rw [hy]; exact zx_kIAE) zx_iIAE (by rw [hy]; exact htx) (by rw [hy]; exact zx_aIAE) (by rw [hy]; exact zx_bIAE) (by decide +kernel) d0 d3 d4 d6 d9 hd6 hcat hk1 hn1 hk hn hq

theorem Z.xIAEW {X : zX} {cc : ByteArray} {y : MethodName} {d pc k n : Nat} {l st : List Value} {h : zH} (C : ZC X cc y d) {text : String} {is mc ms : Nat} {Qf : Option Value → zH → Prop} {Xf : String → zH → Prop} {ret : Option FieldType} (E : zEnd X ret mc ms Qf Xf) (hy : y.cls = RX6) (htx : (RX6, is, text) ∈ zTexts)
    (d0 : decode cc pc = .ok (.new 32, 3)) (d3 : decode cc (pc + 3) = .ok (.dup, 1)) (d4 : decode cc (pc + 4) = .ok (.ldc_w is, 3)) (d6 : decode cc (pc + 7) = .ok (.invokespecial 36, 3)) (d9 : decode cc (pc + 10) = .ok (.athrow, 1))
    (hd6 : 6 ≤ d) (hcat : (st.map fun v => v.category).sum ≤ 8) (hk1 : k + 1 ≤ mc) (hn1 : n + 6 ≤ ms) (hk : k + 1 ≤ (zR_of X).cells) (hn : n + 6 ≤ (zR_of X).slots) (hq : Xf "java/lang/IllegalArgumentException" h) : Z X pc l st h k n :=
  Z.throwSW (names := ["java/lang/RuntimeException", "java/lang/Exception"]) C E (by decide +kernel) (by decide +kernel) rfl (by rw [hy]; exact zx_kIAE) zx_iIAE (by rw [hy]; exact htx) (by rw [hy]; exact zx_aIAE) (by rw [hy]; exact zx_bIAE) (by decide +kernel) d0 d3 d4 d6 d9 hd6 hcat hk1 hn1 hk hn hq

theorem zx_kISE : Cond.classLink RX6 45 "java/lang/IllegalStateException" ∈ zW := zW_of 198 (by decide +kernel) (by decide +kernel)
theorem zx_iISE : Cond.initialized "java/lang/IllegalStateException" ∈ zW := zW_of 35 (by decide +kernel) (by decide +kernel)
theorem zx_aISE : ((vx_atS RX6 49 "java/lang/IllegalStateException" ["java/lang/RuntimeException", "java/lang/Exception"]).filter goodWord).all (fun w => decide (w ∈ lw_tbl)) = true := by decide +kernel
theorem zx_bISE : ((vx_atS RX6 49 "java/lang/IllegalStateException" ["java/lang/RuntimeException", "java/lang/Exception"]).filter (fun w => !goodWord w)).all (fun w => decide (w ∈ Cond.castable "java/lang/IllegalStateException" "java/lang/IllegalStateException" :: zDecl.map Cond.declares)) = true := by decide +kernel

theorem Z.xISE {X : zX} {cc : ByteArray} {y : MethodName} {d pc k n : Nat} {l st : List Value} {h : zH} (C : ZC X cc y d) {text : String} {is mc ms : Nat} {Qf : Option Value → zH → Prop} {Xf : String → zH → Prop} {ret : Option FieldType} (E : zEnd X ret mc ms Qf Xf) (hy : y.cls = RX6) (htx : (RX6, is, text) ∈ zTexts)
    (d0 : decode cc pc = .ok (.new 45, 3)) (d3 : decode cc (pc + 3) = .ok (.dup, 1)) (d4 : decode cc (pc + 4) = .ok (.ldc is, 2)) (d6 : decode cc (pc + 6) = .ok (.invokespecial 49, 3)) (d9 : decode cc (pc + 9) = .ok (.athrow, 1))
    (hd6 : 6 ≤ d) (hcat : (st.map fun v => v.category).sum ≤ 8) (hk1 : k + 1 ≤ mc) (hn1 : n + 6 ≤ ms) (hk : k + 1 ≤ (zR_of X).cells) (hn : n + 6 ≤ (zR_of X).slots) (hq : Xf "java/lang/IllegalStateException" h) : Z X pc l st h k n :=
  Z.throwS (names := ["java/lang/RuntimeException", "java/lang/Exception"]) C E (by decide +kernel) (by decide +kernel) rfl (by rw [hy]; exact zx_kISE) zx_iISE (by rw [hy]; exact htx) (by rw [hy]; exact zx_aISE) (by rw [hy]; exact zx_bISE) (by decide +kernel) d0 d3 d4 d6 d9 hd6 hcat hk1 hn1 hk hn hq

theorem Z.xISEW {X : zX} {cc : ByteArray} {y : MethodName} {d pc k n : Nat} {l st : List Value} {h : zH} (C : ZC X cc y d) {text : String} {is mc ms : Nat} {Qf : Option Value → zH → Prop} {Xf : String → zH → Prop} {ret : Option FieldType} (E : zEnd X ret mc ms Qf Xf) (hy : y.cls = RX6) (htx : (RX6, is, text) ∈ zTexts)
    (d0 : decode cc pc = .ok (.new 45, 3)) (d3 : decode cc (pc + 3) = .ok (.dup, 1)) (d4 : decode cc (pc + 4) = .ok (.ldc_w is, 3)) (d6 : decode cc (pc + 7) = .ok (.invokespecial 49, 3)) (d9 : decode cc (pc + 10) = .ok (.athrow, 1))
    (hd6 : 6 ≤ d) (hcat : (st.map fun v => v.category).sum ≤ 8) (hk1 : k + 1 ≤ mc) (hn1 : n + 6 ≤ ms) (hk : k + 1 ≤ (zR_of X).cells) (hn : n + 6 ≤ (zR_of X).slots) (hq : Xf "java/lang/IllegalStateException" h) : Z X pc l st h k n :=
  Z.throwSW (names := ["java/lang/RuntimeException", "java/lang/Exception"]) C E (by decide +kernel) (by decide +kernel) rfl (by rw [hy]; exact zx_kISE) zx_iISE (by rw [hy]; exact htx) (by rw [hy]; exact zx_aISE) (by rw [hy]; exact zx_bISE) (by decide +kernel) d0 d3 d4 d6 d9 hd6 hcat hk1 hn1 hk hn hq

theorem zx_kIOO : Cond.classLink RX6 225 "java/lang/IndexOutOfBoundsException" ∈ zW := zW_of 348 (by decide +kernel) (by decide +kernel)
theorem zx_iIOO : Cond.initialized "java/lang/IndexOutOfBoundsException" ∈ zW := zW_of 43 (by decide +kernel) (by decide +kernel)
theorem zx_aIOO : ((vx_atS RX6 229 "java/lang/IndexOutOfBoundsException" ["java/lang/RuntimeException", "java/lang/Exception"]).filter goodWord).all (fun w => decide (w ∈ lw_tbl)) = true := by decide +kernel
theorem zx_bIOO : ((vx_atS RX6 229 "java/lang/IndexOutOfBoundsException" ["java/lang/RuntimeException", "java/lang/Exception"]).filter (fun w => !goodWord w)).all (fun w => decide (w ∈ Cond.castable "java/lang/IndexOutOfBoundsException" "java/lang/IndexOutOfBoundsException" :: zDecl.map Cond.declares)) = true := by decide +kernel

theorem Z.xIOO {X : zX} {cc : ByteArray} {y : MethodName} {d pc k n : Nat} {l st : List Value} {h : zH} (C : ZC X cc y d) {text : String} {is mc ms : Nat} {Qf : Option Value → zH → Prop} {Xf : String → zH → Prop} {ret : Option FieldType} (E : zEnd X ret mc ms Qf Xf) (hy : y.cls = RX6) (htx : (RX6, is, text) ∈ zTexts)
    (d0 : decode cc pc = .ok (.new 225, 3)) (d3 : decode cc (pc + 3) = .ok (.dup, 1)) (d4 : decode cc (pc + 4) = .ok (.ldc is, 2)) (d6 : decode cc (pc + 6) = .ok (.invokespecial 229, 3)) (d9 : decode cc (pc + 9) = .ok (.athrow, 1))
    (hd6 : 6 ≤ d) (hcat : (st.map fun v => v.category).sum ≤ 8) (hk1 : k + 1 ≤ mc) (hn1 : n + 6 ≤ ms) (hk : k + 1 ≤ (zR_of X).cells) (hn : n + 6 ≤ (zR_of X).slots) (hq : Xf "java/lang/IndexOutOfBoundsException" h) : Z X pc l st h k n :=
  Z.throwS (names := ["java/lang/RuntimeException", "java/lang/Exception"]) C E (by decide +kernel) (by decide +kernel) rfl (by rw [hy]; exact zx_kIOO) zx_iIOO (by rw [hy]; exact htx) (by rw [hy]; exact zx_aIOO) (by rw [hy]; exact zx_bIOO) (by decide +kernel) d0 d3 d4 d6 d9 hd6 hcat hk1 hn1 hk hn hq

theorem Z.xIOOW {X : zX} {cc : ByteArray} {y : MethodName} {d pc k n : Nat} {l st : List Value} {h : zH} (C : ZC X cc y d) {text : String} {is mc ms : Nat} {Qf : Option Value → zH → Prop} {Xf : String → zH → Prop} {ret : Option FieldType} (E : zEnd X ret mc ms Qf Xf) (hy : y.cls = RX6) (htx : (RX6, is, text) ∈ zTexts)
    (d0 : decode cc pc = .ok (.new 225, 3)) (d3 : decode cc (pc + 3) = .ok (.dup, 1)) (d4 : decode cc (pc + 4) = .ok (.ldc_w is, 3)) (d6 : decode cc (pc + 7) = .ok (.invokespecial 229, 3)) (d9 : decode cc (pc + 10) = .ok (.athrow, 1))
    (hd6 : 6 ≤ d) (hcat : (st.map fun v => v.category).sum ≤ 8) (hk1 : k + 1 ≤ mc) (hn1 : n + 6 ≤ ms) (hk : k + 1 ≤ (zR_of X).cells) (hn : n + 6 ≤ (zR_of X).slots) (hq : Xf "java/lang/IndexOutOfBoundsException" h) : Z X pc l st h k n :=
  Z.throwSW (names := ["java/lang/RuntimeException", "java/lang/Exception"]) C E (by decide +kernel) (by decide +kernel) rfl (by rw [hy]; exact zx_kIOO) zx_iIOO (by rw [hy]; exact htx) (by rw [hy]; exact zx_aIOO) (by rw [hy]; exact zx_bIOO) (by decide +kernel) d0 d3 d4 d6 d9 hd6 hcat hk1 hn1 hk hn hq

