/-- what the statement tells of one String constant -/
def sW (tm : Term) (bs : List Int32) : List Cond := [.exactly tm "java/lang/String", .eq (.field tm "java/lang/String" "coder" "B") (.int 0), .arrayOf (.field tm "java/lang/String" "value" "[B") .byte, .eq (.length (.field tm "java/lang/String" "value" "[B")) (.int (Int32.ofNat bs.length))] ++ (List.range bs.length).map (fun j => .eq (.elem (.field tm "java/lang/String" "value" "[B") (.int (Int32.ofNat j))) (.int (bs.getD j 0)))
theorem str_of {args : Array Value} {s : State} {tm : Term} {bs : List Int32} {A : Nat → Prop} (hn : bs.length < 2 ^ 31) (h : ∀ w ∈ sW tm bs, w.before args s = true) (hcs : va_Z "java/lang/String" "COMPACT_STRINGS" "Z" (.int 1) A s s.heap) (hsf : va_Zq "jdk/internal/util/Preconditions" "SIOOBE_FORMATTER" "Ljava/util/function/BiFunction;" A s s.heap) (hA : ∀ a : Nat, a < s.heap.size → ¬ A a) : ∃ q v : Nat, tm.eval args s none [] s = some (.ref q) ∧ zS q v bs.length (fun j => bs.getD j 0) A s s.heap := by
  have m0 := h (.exactly tm "java/lang/String") (List.mem_append_left _ (List.mem_of_getElem? (i := 0) rfl))
  have m1 := h (.eq (.field tm "java/lang/String" "coder" "B") (.int 0)) (List.mem_append_left _ (List.mem_of_getElem? (i := 1) rfl))
  have m2 := h (.arrayOf (.field tm "java/lang/String" "value" "[B") .byte) (List.mem_append_left _ (List.mem_of_getElem? (i := 2) rfl))
  have m3 := h (.eq (.length (.field tm "java/lang/String" "value" "[B")) (.int (Int32.ofNat bs.length))) (List.mem_append_left _ (List.mem_of_getElem? (i := 3) rfl))
  have m4 : ∀ j : Nat, j < bs.length → (Cond.eq (.elem (.field tm "java/lang/String" "value" "[B") (.int (Int32.ofNat j))) (.int (bs.getD j 0))).before args s = true := fun j hj => h _ (List.mem_append_right _ (List.mem_map.mpr ⟨j, List.mem_range.mpr hj, rfl⟩))
  obtain ⟨a, c, cA, kA, q1, q2, q3, q4, q5, q6, -⟩ := Cond.exactly_spec (args := args) (first := s) (o := none) (s := s) (idx := []) (t := tm) (cls := "java/lang/String") m0
  obtain ⟨t, ht, hT⟩ := va_Tof (f := fun j => .int (bs.getD j 0)) (A := A) hn m2 (va_eqt m3) (fun j hj => va_eqt (m4 j hj)) hA
  exact ⟨a, t, q1, ⟨cA, q3, q5, by rw [q6]; exact q2, hA a (Array.getElem?_eq_some_iff.mp q3).1⟩, vk_OFof q1 (va_eqt m1) hA, vk_OFof q1 ht hA, hT, hcs, hsf⟩
set_option maxRecDepth 20000 in
theorem sm_y0 : ∀ w ∈ sW (.string "QuietCutModel" 116) [108], w ∈ (flatC (Jvm.Cond.and given_1 narrow_1)) := by decide +kernel
set_option maxRecDepth 20000 in
theorem sm_y1 : ∀ w ∈ sW (.string "QuietCutModel" 122) [103], w ∈ (flatC (Jvm.Cond.and given_1 narrow_1)) := by decide +kernel
set_option maxRecDepth 20000 in
theorem sm_y2 : ∀ w ∈ sW (.string "QuietCutModel" 124) [104], w ∈ (flatC (Jvm.Cond.and given_1 narrow_1)) := by decide +kernel
set_option maxRecDepth 20000 in
theorem sm_y3 : ∀ w ∈ sW (.string "QuietCutModel" 126) [119], w ∈ (flatC (Jvm.Cond.and given_1 narrow_1)) := by decide +kernel
set_option maxRecDepth 20000 in
theorem sm_y4 : ∀ w ∈ sW (.string "QuietCutModel" 155) [115, 101, 99, 116, 111, 114, 115], w ∈ (flatC (Jvm.Cond.and given_1 narrow_1)) := by decide +kernel
set_option maxRecDepth 20000 in
theorem sm_y5 : ∀ w ∈ sW (.string "QuietCutModel" 157) [114, 105, 110, 103, 115], w ∈ (flatC (Jvm.Cond.and given_1 narrow_1)) := by decide +kernel
set_option maxRecDepth 20000 in
theorem sm_y6 : ∀ w ∈ sW (.string "QuietCutModel" 159) [109, 97, 115, 115], w ∈ (flatC (Jvm.Cond.and given_1 narrow_1)) := by decide +kernel
set_option maxRecDepth 20000 in
theorem sm_y7 : ∀ w ∈ sW (.string "QuietCutModel" 161) [115, 116, 105, 102, 102], w ∈ (flatC (Jvm.Cond.and given_1 narrow_1)) := by decide +kernel
set_option maxRecDepth 20000 in
theorem sm_y8 : ∀ w ∈ sW (.string "QuietCutModel" 163) [100, 97, 109, 112], w ∈ (flatC (Jvm.Cond.and given_1 narrow_1)) := by decide +kernel
set_option maxRecDepth 20000 in
theorem sm_y9 : ∀ w ∈ sW (.string "QuietCutModel" 165) [108, 105, 109, 105, 116], w ∈ (flatC (Jvm.Cond.and given_1 narrow_1)) := by decide +kernel
set_option maxRecDepth 20000 in
theorem sm_y10 : ∀ w ∈ sW (.string "QuietCutModel" 167) [109, 97, 114, 107], w ∈ (flatC (Jvm.Cond.and given_1 narrow_1)) := by decide +kernel
set_option maxRecDepth 20000 in
theorem sm_y11 : ∀ w ∈ sW (.string "QuietCutModel" 168) [116, 117, 114, 110, 115], w ∈ (flatC (Jvm.Cond.and given_1 narrow_1)) := by decide +kernel
set_option maxRecDepth 20000 in
theorem sm_y12 : ∀ w ∈ sW (.string "QuietCutModel" 170) [116, 101, 101, 116, 104], w ∈ (flatC (Jvm.Cond.and given_1 narrow_1)) := by decide +kernel
set_option maxRecDepth 20000 in
theorem sm_y13 : ∀ w ∈ sW (.string "QuietCutModel" 172) [115, 119, 97, 121], w ∈ (flatC (Jvm.Cond.and given_1 narrow_1)) := by decide +kernel
set_option maxRecDepth 20000 in
theorem sm_y14 : ∀ w ∈ sW (.string "QuietCutModel" 174) [102, 111, 114, 99, 101], w ∈ (flatC (Jvm.Cond.and given_1 narrow_1)) := by decide +kernel
set_option maxRecDepth 20000 in
theorem sm_y15 : ∀ w ∈ sW (.string "QuietCutModel" 176) [119, 97, 108, 108], w ∈ (flatC (Jvm.Cond.and given_1 narrow_1)) := by decide +kernel
set_option maxRecDepth 20000 in
theorem sm_y16 : ∀ w ∈ sW (.string "QuietCutModel" 178) [119, 101, 97, 114], w ∈ (flatC (Jvm.Cond.and given_1 narrow_1)) := by decide +kernel
set_option maxRecDepth 20000 in
theorem sm_sg : ∀ w ∈ sW (.string "QuietCut$Tape" 50) [59, 40, 41, 43, 45, 42, 47, 37], w ∈ (flatC (Jvm.Cond.and given_1 narrow_1)) := by decide +kernel
set_option maxRecDepth 20000 in
theorem sm_w0 : ∀ w ∈ sW (.string "QuietCut$Clause" 95) [115, 101, 99, 116, 111, 114, 115], w ∈ (flatC (Jvm.Cond.and given_1 narrow_1)) := by decide +kernel
set_option maxRecDepth 20000 in
theorem sm_w1 : ∀ w ∈ sW (.string "QuietCut$Clause" 101) [114, 105, 110, 103, 115], w ∈ (flatC (Jvm.Cond.and given_1 narrow_1)) := by decide +kernel
set_option maxRecDepth 20000 in
theorem sm_w2 : ∀ w ∈ sW (.string "QuietCut$Clause" 104) [109, 97, 115, 115], w ∈ (flatC (Jvm.Cond.and given_1 narrow_1)) := by decide +kernel
set_option maxRecDepth 20000 in
theorem sm_w3 : ∀ w ∈ sW (.string "QuietCut$Clause" 107) [115, 116, 105, 102, 102], w ∈ (flatC (Jvm.Cond.and given_1 narrow_1)) := by decide +kernel
set_option maxRecDepth 20000 in
theorem sm_w4 : ∀ w ∈ sW (.string "QuietCut$Clause" 110) [100, 97, 109, 112], w ∈ (flatC (Jvm.Cond.and given_1 narrow_1)) := by decide +kernel
set_option maxRecDepth 20000 in
theorem sm_w5 : ∀ w ∈ sW (.string "QuietCut$Clause" 113) [108, 105, 109, 105, 116], w ∈ (flatC (Jvm.Cond.and given_1 narrow_1)) := by decide +kernel
set_option maxRecDepth 20000 in
theorem sm_w6 : ∀ w ∈ sW (.string "QuietCut$Clause" 116) [109, 97, 114, 107], w ∈ (flatC (Jvm.Cond.and given_1 narrow_1)) := by decide +kernel
set_option maxRecDepth 20000 in
theorem sm_w7 : ∀ w ∈ sW (.string "QuietCut$Clause" 119) [116, 117, 114, 110, 115], w ∈ (flatC (Jvm.Cond.and given_1 narrow_1)) := by decide +kernel
set_option maxRecDepth 20000 in
theorem sm_w8 : ∀ w ∈ sW (.string "QuietCut$Clause" 122) [116, 101, 101, 116, 104], w ∈ (flatC (Jvm.Cond.and given_1 narrow_1)) := by decide +kernel
set_option maxRecDepth 20000 in
theorem sm_w9 : ∀ w ∈ sW (.string "QuietCut$Clause" 125) [115, 119, 97, 121], w ∈ (flatC (Jvm.Cond.and given_1 narrow_1)) := by decide +kernel
set_option maxRecDepth 20000 in
theorem sm_w10 : ∀ w ∈ sW (.string "QuietCut$Clause" 128) [102, 111, 114, 99, 101], w ∈ (flatC (Jvm.Cond.and given_1 narrow_1)) := by decide +kernel
set_option maxRecDepth 20000 in
theorem sm_w11 : ∀ w ∈ sW (.string "QuietCut$Clause" 136) [119, 97, 108, 108], w ∈ (flatC (Jvm.Cond.and given_1 narrow_1)) := by decide +kernel
set_option maxRecDepth 20000 in
theorem sm_w12 : ∀ w ∈ sW (.string "QuietCut$Clause" 141) [119, 101, 97, 114], w ∈ (flatC (Jvm.Cond.and given_1 narrow_1)) := by decide +kernel
set_option maxRecDepth 20000 in
theorem sm_l0 : ∀ w ∈ sW (.string "QuietCut$Clause" 81) ([] : List Int32), w ∈ (flatC (Jvm.Cond.and given_1 narrow_1)) := by decide +kernel
set_option maxRecDepth 20000 in
theorem sm_l1 : ∀ w ∈ sW (.string "QuietCut$Clause" 130) [104, 119], w ∈ (flatC (Jvm.Cond.and given_1 narrow_1)) := by decide +kernel
set_option maxRecDepth 20000 in
theorem sm_l2 : ∀ w ∈ sW (.string "QuietCut$Clause" 138) [108, 103], w ∈ (flatC (Jvm.Cond.and given_1 narrow_1)) := by decide +kernel
set_option maxRecDepth 20000 in
theorem sm_l3 : ∀ w ∈ sW (.string "QuietCut$Clause" 143) [104], w ∈ (flatC (Jvm.Cond.and given_1 narrow_1)) := by decide +kernel
