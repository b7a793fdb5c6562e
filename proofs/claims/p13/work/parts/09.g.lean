theorem dX3_mayEnd_0 : decode cX3_mayEnd 0 = .ok (.aload_n 0, 1) := by decide +kernel
theorem dX3_mayEnd_1 : decode cX3_mayEnd 1 = .ok (.getfield 47, 3) := by decide +kernel
theorem dX3_mayEnd_4 : decode cX3_mayEnd 4 = .ok (.ifCond .ne 14, 3) := by decide +kernel
theorem dX3_mayEnd_7 : decode cX3_mayEnd 7 = .ok (.aload_n 0, 1) := by decide +kernel
theorem dX3_mayEnd_8 : decode cX3_mayEnd 8 = .ok (.getfield 44, 3) := by decide +kernel
theorem dX3_mayEnd_11 : decode cX3_mayEnd 11 = .ok (.ifCond .ne 7, 3) := by decide +kernel
theorem dX3_mayEnd_14 : decode cX3_mayEnd 14 = .ok (.iconst 1, 1) := by decide +kernel
theorem dX3_mayEnd_15 : decode cX3_mayEnd 15 = .ok (.goto 4, 3) := by decide +kernel
theorem dX3_mayEnd_18 : decode cX3_mayEnd 18 = .ok (.iconst 0, 1) := by decide +kernel
theorem dX3_mayEnd_19 : decode cX3_mayEnd 19 = .ok (.ireturn, 1) := by decide +kernel
set_option maxHeartbeats 4000000 in
set_option maxRecDepth 100000 in
theorem S_X3_mayEnd_14 (l : Launch) (D : va_G) (K : Nat → ClassId) (a : Nat → Nat) (G : gS) (hI : xI G) (sz : Nat) : Ki l yX3_mayEnd wsX3_mayEnd 1 40 0 0 D [.ref (a 14)] (xW K a G) (tK K) sz (fun (r : Int32) (_ : Unit) => (0 ≤ r.toInt ∧ r.toInt ≤ 1) ∧ (((r.toInt = 1 ∧ (G 14 8).toInt = 0 ∧ (G 14 7).toInt = 0) ∨ (r.toInt = 0 ∧ ((G 14 8).toInt ≠ 0 ∨ (G 14 7).toInt ≠ 0))))) (fun (_ : Unit) => (xW K a G)) (fun _ => (tK K)) := by
  unfold Ki
  refine g_ofW (cc := cX3_mayEnd) (lv := [(0, .ref (a 14))]) (by decide) rfl (Nat.le_of_ble_eq_true rfl) rfl ?_
  intro p e s m args below meth c A Q hA hQ F hr hnm
  have hts := F.2.2.2.2.1
  have w_0 : (Cond.fieldLink RX3 47 "QuietCut$Formula" "wantsOperand" "Z").before args s = true := hts _ (List.mem_of_getElem? (i := 1) rfl)
  have i_X3 : ∀ w ∈ u_ws RX3 TX3 9, w ∈ wsX3_mayEnd := fun _ h => List.mem_cons_of_mem _ (List.mem_append_right _ h)
  have w_1 : (Cond.fieldLink RX3 44 "QuietCut$Formula" "parentheses" "I").before args s = true := hts _ (List.mem_of_getElem? (i := 2) rfl)
  refine g_aload_n F 0 dX3_mayEnd_0 rfl rfl ?_
  refine xg_14_8 F i_X3 w_0 dX3_mayEnd_1 (G 14 8) (rfl) ?_
  have b1 : (0 : Int) ≤ (G 14 8).toInt ∧ (G 14 8).toInt ≤ 1 := hI 14 8
  refine v_if_ne F 18 dX3_mayEnd_4 (by decide) (G 14 8).toInt rfl (fun c2 => ?_) (fun c2 => ?_)
  · refine g_iconst F 0 dX3_mayEnd_18 (by decide) ?_
    exact u_zret F hA hQ hr rfl () (⟨(by decide), (by show ((0 = 1 ∧ (G 14 8).toInt = 0 ∧ (G 14 7).toInt = 0) ∨ (0 = 0 ∧ ((G 14 8).toInt ≠ 0 ∨ (G 14 7).toInt ≠ 0))); (first | omega | (simp only [Int32.reduceToInt, true_and, and_true, ne_eq, not_true_eq_false, false_and, or_false, false_or, true_or, or_true, false_implies] <;> omega)))⟩) rfl rfl dX3_mayEnd_19
  · refine g_aload_n F 0 dX3_mayEnd_7 rfl rfl ?_
    refine xg_14_7 F i_X3 w_1 dX3_mayEnd_8 (G 14 7) (rfl) ?_
    refine v_if_ne F 18 dX3_mayEnd_11 (by decide) (G 14 7).toInt rfl (fun c3 => ?_) (fun c3 => ?_)
    · refine g_iconst F 0 dX3_mayEnd_18 (by decide) ?_
      exact u_zret F hA hQ hr rfl () (⟨(by decide), (by show ((0 = 1 ∧ (G 14 8).toInt = 0 ∧ (G 14 7).toInt = 0) ∨ (0 = 0 ∧ ((G 14 8).toInt ≠ 0 ∨ (G 14 7).toInt ≠ 0))); (first | omega | (simp only [Int32.reduceToInt, true_and, and_true, ne_eq, not_true_eq_false, false_and, or_false, false_or, true_or, or_true, false_implies] <;> omega)))⟩) rfl rfl dX3_mayEnd_19
    · refine g_iconst F 1 dX3_mayEnd_14 (by decide) ?_
      refine g_goto F 19 dX3_mayEnd_15 (by decide) ?_
      exact u_zret F hA hQ hr rfl () (⟨(by decide), (by show ((1 = 1 ∧ (G 14 8).toInt = 0 ∧ (G 14 7).toInt = 0) ∨ (1 = 0 ∧ ((G 14 8).toInt ≠ 0 ∨ (G 14 7).toInt ≠ 0))); (first | omega | (simp only [Int32.reduceToInt, true_and, and_true, ne_eq, not_true_eq_false, false_and, or_false, false_or, true_or, or_true, false_implies] <;> omega)))⟩) rfl rfl dX3_mayEnd_19

theorem dX3_finish_0 : decode cX3_finish 0 = .ok (.aload_n 0, 1) := by decide +kernel
theorem dX3_finish_1 : decode cX3_finish 1 = .ok (.iconst 1, 1) := by decide +kernel
theorem dX3_finish_2 : decode cX3_finish 2 = .ok (.invokevirtual 51, 3) := by decide +kernel
theorem dX3_finish_5 : decode cX3_finish 5 = .ok (.return_, 1) := by decide +kernel
set_option maxRecDepth 20000 in
theorem ggX3_finish_X3_joinDownTo : GoodIn wsX3_finish wsX3_joinDownTo := goodIn_r _ [5, 6, 7, 8, 9, 4, 10, 11, 12, 13, 14, 15, 16, 17, 18, 19, 20, 21, 22, 23, 24, 25, 26, 27, 28] rfl (by decide +kernel)
set_option maxRecDepth 20000 in
theorem gX3_finish_X3_joinDownTo : GoodIn wsX3_finish (wsV RX3 51 RX3 yX3_joinDownTo wsX3_joinDownTo) := goodIn_app (goodIn_of _ (by decide +kernel)) ggX3_finish_X3_joinDownTo
set_option maxHeartbeats 4000000 in
set_option maxRecDepth 100000 in
theorem S_X3_finish_14 (l : Launch) (D : va_G) (K : Nat → ClassId) (a : Nat → Nat) (G : gS) (jq : (∃ t, xQ (G 31) (G 14 4).toInt (G 14 6).toInt (G 14 7).toInt t ∧ 0 ≤ t)) (jl : ((G 14 1).toInt + (G 14 4).toInt ≤ 79)) (hI : xI G) (sz : Nat) : Kv l yX3_finish wsX3_finish 3 82 0 0 D [.ref (a 14)] (xW K a G) (tK K) sz (fun (G' : gS) => (xI G') ∧ (gu_un xcd [1402, 1405, 2900] G G') ∧ ((∃ t, xQ (G 31) (G' 14 4).toInt (G 14 6).toInt (G 14 7).toInt t ∧ 0 ≤ t ∧ t < 1)) ∧ ((sJ 1 (tkr (G 31) ((G 14 4).toInt).toNat) (tkr (G 29) ((G 14 1).toInt).toNat) = (tkr (G 31) ((G' 14 4).toInt).toNat, tkr (G' 29) ((G' 14 1).toInt).toNat))) ∧ (((G' 14 1).toInt + (G' 14 4).toInt = (G 14 1).toInt + (G 14 4).toInt))) (fun (G' : gS) => (xW K a G')) (fun _ => (tK K)) := by
  unfold Kv
  refine g_ofW (cc := cX3_finish) (lv := [(0, .ref (a 14))]) (by decide) rfl (Nat.le_of_ble_eq_true rfl) rfl ?_
  intro p e s m args below meth c A Q hA hQ F hr hnm
  have hts := F.2.2.2.2.1
  refine g_aload_n F 0 dX3_finish_0 rfl rfl ?_
  refine g_iconst F 1 dX3_finish_1 (by decide) ?_
  have b1 : (0 : Int) ≤ (G 14 1).toInt ∧ (G 14 1).toInt ≤ 80 := hI 14 1
  have b2 : (0 : Int) ≤ (G 14 4).toInt ∧ (G 14 4).toInt ≤ 16 := hI 14 4
  refine u_callVv (k := 0) (n := 0) (b := a 14) (As := [.int 1]) (st := []) F (fun sz => S_X3_joinDownTo_14 l D K a G 1 1 rfl (by decide) (jq) (by (first | omega | (simp only [Int32.reduceToInt, true_and, and_true, ne_eq, not_true_eq_false, false_and, or_false, false_or, true_or, or_true, false_implies] <;> omega))) hI sz) (cwV 1 hts gX3_finish_X3_joinDownTo rfl rfl rfl (by decide +kernel) ⟨Nat.le_of_ble_eq_true rfl, Nat.le_of_ble_eq_true rfl⟩) rfl 14 xc_14 rfl (Nat.le_of_ble_eq_true rfl) ⟨Nat.zero_le _, Nat.zero_le _⟩ dX3_finish_2 (fun G5 hw4 => ?_)
  have hI6 : xI G5 := hw4.1
  have hU7 : gu_un xcd [1402, 1405, 2900] G G5 := hw4.2.1
  have hp8 := hw4.2.2
  have b9 : (0 : Int) ≤ (G5 14 4).toInt ∧ (G5 14 4).toInt ≤ 16 := hI6 14 4
  have q10 : (∃ t, xQ (G 31) (G5 14 4).toInt (G 14 6).toInt (G 14 7).toInt t ∧ 0 ≤ t ∧ t < (1 : Int)) := hp8.1
  have b11 : (0 : Int) ≤ (G5 14 1).toInt ∧ (G5 14 1).toInt ≤ 80 := hI6 14 1
  have q12 : (sJ (1 : Int) (tkr (G 31) ((G 14 4).toInt).toNat) (tkr (G 29) ((G 14 1).toInt).toNat) = (tkr (G 31) ((G5 14 4).toInt).toNat, tkr (G5 29) ((G5 14 1).toInt).toNat)) := hp8.2.1
  have q13 : ((G5 14 1).toInt + (G5 14 4).toInt = (G 14 1).toInt + (G 14 4).toInt) := hp8.2.2
  clear hp8 hw4
  exact u_vret F hA hQ hr G5 (⟨hI6, (gu_un.tr gu_un.rf (gu_un.su hU7 rfl)), (q10), (q12), (by show ((G5 14 1).toInt + (G5 14 4).toInt = (G 14 1).toInt + (G 14 4).toInt); (first | omega | (simp only [Int32.reduceToInt, true_and, and_true, ne_eq, not_true_eq_false, false_and, or_false, false_or, true_or, or_true, false_implies] <;> omega)))⟩) rfl rfl dX3_finish_5

theorem dX3_takeToken_0 : decode cX3_takeToken 0 = .ok (.aload_n 0, 1) := by decide +kernel
theorem dX3_takeToken_1 : decode cX3_takeToken 1 = .ok (.getfield 47, 3) := by decide +kernel
theorem dX3_takeToken_4 : decode cX3_takeToken 4 = .ok (.ifCond .ne 9, 3) := by decide +kernel
theorem dX3_takeToken_7 : decode cX3_takeToken 7 = .ok (.aload_n 0, 1) := by decide +kernel
theorem dX3_takeToken_8 : decode cX3_takeToken 8 = .ok (.aload_n 1, 1) := by decide +kernel
theorem dX3_takeToken_9 : decode cX3_takeToken 9 = .ok (.invokevirtual 54, 3) := by decide +kernel
theorem dX3_takeToken_12 : decode cX3_takeToken 12 = .ok (.ireturn, 1) := by decide +kernel
theorem dX3_takeToken_13 : decode cX3_takeToken 13 = .ok (.aload_n 1, 1) := by decide +kernel
theorem dX3_takeToken_14 : decode cX3_takeToken 14 = .ok (.bipush 40, 2) := by decide +kernel
theorem dX3_takeToken_16 : decode cX3_takeToken 16 = .ok (.invokevirtual 58, 3) := by decide +kernel
theorem dX3_takeToken_19 : decode cX3_takeToken 19 = .ok (.ifCond .ne 12, 3) := by decide +kernel
theorem dX3_takeToken_22 : decode cX3_takeToken 22 = .ok (.aload_n 1, 1) := by decide +kernel
theorem dX3_takeToken_23 : decode cX3_takeToken 23 = .ok (.bipush 45, 2) := by decide +kernel
theorem dX3_takeToken_25 : decode cX3_takeToken 25 = .ok (.invokevirtual 58, 3) := by decide +kernel
theorem dX3_takeToken_28 : decode cX3_takeToken 28 = .ok (.ifCond .eq 24, 3) := by decide +kernel
theorem dX3_takeToken_31 : decode cX3_takeToken 31 = .ok (.aload_n 0, 1) := by decide +kernel
theorem dX3_takeToken_32 : decode cX3_takeToken 32 = .ok (.aload_n 1, 1) := by decide +kernel
theorem dX3_takeToken_33 : decode cX3_takeToken 33 = .ok (.bipush 40, 2) := by decide +kernel
theorem dX3_takeToken_35 : decode cX3_takeToken 35 = .ok (.invokevirtual 58, 3) := by decide +kernel
theorem dX3_takeToken_38 : decode cX3_takeToken 38 = .ok (.ifCond .eq 8, 3) := by decide +kernel
theorem dX3_takeToken_41 : decode cX3_takeToken 41 = .ok (.bipush 40, 2) := by decide +kernel
theorem dX3_takeToken_43 : decode cX3_takeToken 43 = .ok (.goto 5, 3) := by decide +kernel
theorem dX3_takeToken_46 : decode cX3_takeToken 46 = .ok (.bipush (-3), 2) := by decide +kernel
theorem dX3_takeToken_48 : decode cX3_takeToken 48 = .ok (.invokevirtual 64, 3) := by decide +kernel
theorem dX3_takeToken_51 : decode cX3_takeToken 51 = .ok (.ireturn, 1) := by decide +kernel
theorem dX3_takeToken_52 : decode cX3_takeToken 52 = .ok (.aload_n 1, 1) := by decide +kernel
theorem dX3_takeToken_53 : decode cX3_takeToken 53 = .ok (.getfield 68, 3) := by decide +kernel
theorem dX3_takeToken_56 : decode cX3_takeToken 56 = .ok (.iconst 2, 1) := by decide +kernel
theorem dX3_takeToken_57 : decode cX3_takeToken 57 = .ok (.if_icmp .ne 12, 3) := by decide +kernel
theorem dX3_takeToken_60 : decode cX3_takeToken 60 = .ok (.aload_n 0, 1) := by decide +kernel
theorem dX3_takeToken_61 : decode cX3_takeToken 61 = .ok (.aload_n 1, 1) := by decide +kernel
theorem dX3_takeToken_62 : decode cX3_takeToken 62 = .ok (.getfield 71, 3) := by decide +kernel
theorem dX3_takeToken_65 : decode cX3_takeToken 65 = .ok (.invokevirtual 74, 3) := by decide +kernel
theorem dX3_takeToken_68 : decode cX3_takeToken 68 = .ok (.ireturn, 1) := by decide +kernel
theorem dX3_takeToken_69 : decode cX3_takeToken 69 = .ok (.aload_n 1, 1) := by decide +kernel
theorem dX3_takeToken_70 : decode cX3_takeToken 70 = .ok (.getfield 68, 3) := by decide +kernel
theorem dX3_takeToken_73 : decode cX3_takeToken 73 = .ok (.iconst 1, 1) := by decide +kernel
theorem dX3_takeToken_74 : decode cX3_takeToken 74 = .ok (.if_icmp .ne 22, 3) := by decide +kernel
theorem dX3_takeToken_77 : decode cX3_takeToken 77 = .ok (.aload_n 1, 1) := by decide +kernel
theorem dX3_takeToken_78 : decode cX3_takeToken 78 = .ok (.getfield 71, 3) := by decide +kernel
theorem dX3_takeToken_81 : decode cX3_takeToken 81 = .ok (.ifCond .eq 15, 3) := by decide +kernel
theorem dX3_takeToken_84 : decode cX3_takeToken 84 = .ok (.aload_n 2, 1) := by decide +kernel
theorem dX3_takeToken_85 : decode cX3_takeToken 85 = .ok (.aload_n 1, 1) := by decide +kernel
theorem dX3_takeToken_86 : decode cX3_takeToken 86 = .ok (.getfield 71, 3) := by decide +kernel
theorem dX3_takeToken_89 : decode cX3_takeToken 89 = .ok (.i2c, 1) := by decide +kernel
theorem dX3_takeToken_90 : decode cX3_takeToken 90 = .ok (.invokevirtual 77, 3) := by decide +kernel
theorem dX3_takeToken_93 : decode cX3_takeToken 93 = .ok (.goto 4, 3) := by decide +kernel
theorem dX3_takeToken_96 : decode cX3_takeToken 96 = .ok (.iconst (-1), 1) := by decide +kernel
theorem dX3_takeToken_97 : decode cX3_takeToken 97 = .ok (.istore_n 3, 1) := by decide +kernel
theorem dX3_takeToken_98 : decode cX3_takeToken 98 = .ok (.iload_n 3, 1) := by decide +kernel
theorem dX3_takeToken_99 : decode cX3_takeToken 99 = .ok (.ifCond .ge 5, 3) := by decide +kernel
theorem dX3_takeToken_102 : decode cX3_takeToken 102 = .ok (.iconst 1, 1) := by decide +kernel
theorem dX3_takeToken_103 : decode cX3_takeToken 103 = .ok (.ireturn, 1) := by decide +kernel
theorem dX3_takeToken_104 : decode cX3_takeToken 104 = .ok (.aload_n 0, 1) := by decide +kernel
theorem dX3_takeToken_105 : decode cX3_takeToken 105 = .ok (.iload_n 3, 1) := by decide +kernel
theorem dX3_takeToken_106 : decode cX3_takeToken 106 = .ok (.ifCond .ne 7, 3) := by decide +kernel
theorem dX3_takeToken_109 : decode cX3_takeToken 109 = .ok (.iconst (-1), 1) := by decide +kernel
theorem dX3_takeToken_110 : decode cX3_takeToken 110 = .ok (.goto 5, 3) := by decide +kernel
theorem dX3_takeToken_113 : decode cX3_takeToken 113 = .ok (.bipush (-2), 2) := by decide +kernel
theorem dX3_takeToken_115 : decode cX3_takeToken 115 = .ok (.invokevirtual 74, 3) := by decide +kernel
theorem dX3_takeToken_118 : decode cX3_takeToken 118 = .ok (.ireturn, 1) := by decide +kernel
set_option maxRecDepth 20000 in
theorem ggX3_takeToken_J0_indexOf_0f7a4 : GoodIn wsX3_takeToken wsJ0_indexOf_0f7a4 := goodIn_r _ [57, 58, 59, 60, 56, 61, 62, 63, 64, 65, 66, 67, 68, 69, 70, 71, 72, 73, 74, 75, 76, 77, 78, 79, 80, 81, 82, 83, 84, 85, 86, 87, 88, 89, 90, 91, 92, 93, 94, 95, 96, 97, 98, 99, 100, 101, 102, 103, 104, 105, 106, 107, 108, 109, 110, 111, 112, 113, 114, 115, 116, 117, 118, 119, 120, 121, 122, 123, 124, 125, 126, 127, 128, 129, 130, 131, 132, 133, 134, 135, 136, 137, 138, 139, 140, 141] rfl (by decide +kernel)
set_option maxRecDepth 20000 in
theorem gX3_takeToken_J0_indexOf_0f7a4 : GoodIn wsX3_takeToken (wsV RX3 77 RJ0 yJ0_indexOf_0f7a4 wsJ0_indexOf_0f7a4) := goodIn_app (goodIn_of _ (by decide +kernel)) ggX3_takeToken_J0_indexOf_0f7a4
set_option maxRecDepth 20000 in
theorem ggX3_takeToken_X10_isSign : GoodIn wsX3_takeToken wsX10_isSign := goodIn_r _ [16, 17, 18, 151, 152, 153, 154, 155, 156] rfl (by decide +kernel)
set_option maxRecDepth 20000 in
theorem gX3_takeToken_X10_isSign : GoodIn wsX3_takeToken (wsV RX3 58 RX10 yX10_isSign wsX10_isSign) := goodIn_app (goodIn_of _ (by decide +kernel)) ggX3_takeToken_X10_isSign
set_option maxRecDepth 20000 in
theorem ggX3_takeToken_X3_takeBehindOperand : GoodIn wsX3_takeToken wsX3_takeBehindOperand := goodIn_r _ [8, 9, 10, 11, 2, 3, 1, 12, 13, 14, 15, 16, 17, 18, 19, 20, 21, 7, 22, 23, 24, 25, 26, 27, 28, 29, 30, 31, 32, 33, 34, 35, 36, 37, 38, 39, 40, 41, 42, 43, 142, 143, 144, 145, 146, 147, 148, 149, 150, 151, 152, 153, 154, 155, 156] rfl (by decide +kernel)
set_option maxRecDepth 20000 in
theorem gX3_takeToken_X3_takeBehindOperand : GoodIn wsX3_takeToken (wsV RX3 54 RX3 yX3_takeBehindOperand wsX3_takeBehindOperand) := goodIn_app (goodIn_of _ (by decide +kernel)) ggX3_takeToken_X3_takeBehindOperand
set_option maxRecDepth 20000 in
theorem ggX3_takeToken_X3_takeOpening : GoodIn wsX3_takeToken wsX3_takeOpening := goodIn_r _ [47, 11, 9, 40, 41, 42, 7, 43, 10, 23, 142, 143, 144, 145, 146, 147, 148, 149, 150] rfl (by decide +kernel)
set_option maxRecDepth 20000 in
theorem gX3_takeToken_X3_takeOpening : GoodIn wsX3_takeToken (wsV RX3 64 RX3 yX3_takeOpening wsX3_takeOpening) := goodIn_app (goodIn_of _ (by decide +kernel)) ggX3_takeToken_X3_takeOpening
set_option maxRecDepth 20000 in
theorem ggX3_takeToken_X3_takeOperand : GoodIn wsX3_takeToken wsX3_takeOperand := goodIn_r _ [51, 52, 1, 30, 31, 32, 7, 33, 34, 35, 36, 37, 38, 39, 10, 23, 11, 142, 143, 144, 145, 146, 147, 148, 149, 150] rfl (by decide +kernel)
set_option maxRecDepth 20000 in
theorem gX3_takeToken_X3_takeOperand : GoodIn wsX3_takeToken (wsV RX3 74 RX3 yX3_takeOperand wsX3_takeOperand) := goodIn_app (goodIn_of _ (by decide +kernel)) ggX3_takeToken_X3_takeOperand
set_option maxHeartbeats 4000000 in
set_option maxRecDepth 100000 in
theorem S_X3_takeToken_14_1_L10 (l : Launch) (D : va_G) (K : Nat → ClassId) (a : Nat → Nat) (G : gS) (zf : Nat → Nat) (fi : xFi 14 31 G) (nl : (((G 14 8).toInt = 0 ∧ (G 14 1).toInt + (G 14 4).toInt ≤ 6 * (G 14 5).toInt) ∨ ((G 14 8).toInt ≠ 0 ∧ (G 14 1).toInt + (G 14 4).toInt ≤ 6 * (G 14 5).toInt + 1 + (G 14 6).toInt))) (vl : ((G 1 3).toInt ≠ 1 ∨ (0 ≤ (G 1 5).toInt ∧ (G 1 5).toInt ≤ 255))) (hI : xI G) (sz : Nat) : KiZ (xZ zf) l yX3_takeToken wsX3_takeToken 5 131 D [.ref (a 14), .ref (a 1), .ref (zf 80)] (xW K a G) (tK K) sz (fun (r : Int32) (G' : gS) => (xI G') ∧ (gu_un xcd [1402, 1405, 1406, 1407, 1408, 1409, 2900, 3100] G G') ∧ (0 ≤ r.toInt ∧ r.toInt ≤ 4) ∧ (xFi 14 31 G') ∧ ((sR (sT 0 (G 1 3).toInt (G 1 5).toInt (G 14 8).toInt (tkr (G 31) ((G 14 4).toInt).toNat) (G 14 6).toInt (G 14 7).toInt (G 14 5).toInt (tkr (G 29) ((G 14 1).toInt).toNat)) r.toInt (xS 14 29 31 G'))) ∧ ((((G' 14 8).toInt = 0 ∧ (G' 14 1).toInt + (G' 14 4).toInt ≤ 6 * (G' 14 5).toInt) ∨ ((G' 14 8).toInt ≠ 0 ∧ (G' 14 1).toInt + (G' 14 4).toInt ≤ 6 * (G' 14 5).toInt + 1 + (G' 14 6).toInt))) ∧ ((r.toInt ≠ 0 ∨ (G 1 3).toInt ≠ 0))) (fun (G' : gS) => (xW K a G')) := by
  unfold KiZ
  refine gz_ofW (cc := cX3_takeToken) (lv := [(0, .ref (a 14)), (1, .ref (a 1)), (2, .ref (zf 80))]) (by decide) rfl (Nat.le_of_ble_eq_true rfl) rfl ?_
  intro p e s m args below meth c A Q hA hQ hZ F hr hnm
  have hts := F.2.2.2.2.1
  have w_0 : (Cond.fieldLink RX3 47 "QuietCut$Formula" "wantsOperand" "Z").before args s = true := hts _ (List.mem_of_getElem? (i := 1) rfl)
  have i_X3 : ∀ w ∈ u_ws RX3 TX3 9, w ∈ wsX3_takeToken := fun _ h => List.mem_cons_of_mem _ (List.mem_append_left _ (List.mem_append_right _ h))
  have w_1 : (Cond.fieldLink RX3 68 "QuietCut$Tape" "kind" "I").before args s = true := hts _ (List.mem_of_getElem? (i := 2) rfl)
  have i_X10 : ∀ w ∈ u_ws RX10 TX10 6, w ∈ wsX3_takeToken := fun _ h => List.mem_cons_of_mem _ (List.mem_append_right _ h)
  have w_2 : (Cond.fieldLink RX3 71 "QuietCut$Tape" "value" "I").before args s = true := hts _ (List.mem_of_getElem? (i := 3) rfl)
  have b1 : (0 : Int) ≤ (G 14 1).toInt ∧ (G 14 1).toInt ≤ 80 := hI 14 1
  have b2 : (0 : Int) ≤ (G 14 4).toInt ∧ (G 14 4).toInt ≤ 16 := hI 14 4
  have b3 : (0 : Int) ≤ (G 14 5).toInt ∧ (G 14 5).toInt ≤ 12 := hI 14 5
  have b4 : (0 : Int) ≤ (G 14 8).toInt ∧ (G 14 8).toInt ≤ 1 := hI 14 8
  have b5 : (0 : Int) ≤ (G 1 3).toInt ∧ (G 1 3).toInt ≤ 4 := hI 1 3
  refine g_aload_n F 0 dX3_takeToken_0 rfl rfl ?_
  refine xg_14_8 F i_X3 w_0 dX3_takeToken_1 (G 14 8) (rfl) ?_
  refine v_if_ne F 13 dX3_takeToken_4 (by decide) (G 14 8).toInt rfl (fun c6 => ?_) (fun c6 => ?_)
  · refine g_aload_n F 1 dX3_takeToken_13 rfl rfl ?_
    refine g_bipush F 40 dX3_takeToken_14 (by decide) ?_
    refine u_callVi (k := 0) (n := 0) (b := a 1) (As := [.int 40]) (st := []) F (fun sz => S_X10_isSign l D K a G 40 40 rfl hI sz) (cwV 1 hts gX3_takeToken_X10_isSign rfl rfl rfl (by decide +kernel) ⟨Nat.le_of_ble_eq_true rfl, Nat.le_of_ble_eq_true rfl⟩) rfl 1 xc_1 rfl (Nat.le_of_ble_eq_true rfl) ⟨Nat.zero_le _, Nat.zero_le _⟩ dX3_takeToken_16 (fun r7 _ hw8 => ?_)
    rcases hw8 with ⟨rfl, q10⟩ | ⟨rfl, q11⟩
    · have q10 : ((G 1 3).toInt = 3 ∧ (G 1 5).toInt = (40 : Int)) := q10
      refine v_if_ne F 31 dX3_takeToken_19 (by decide) 1 rfl (fun c12 => ?_) (fun c12 => absurd c12 (by decide))
      refine g_aload_n F 0 dX3_takeToken_31 rfl rfl ?_
      refine g_aload_n F 1 dX3_takeToken_32 rfl rfl ?_
      refine g_bipush F 40 dX3_takeToken_33 (by decide) ?_
      refine u_callVi (k := 0) (n := 0) (b := a 1) (As := [.int 40]) (st := [.ref (a 14)]) F (fun sz => S_X10_isSign l D K a G 40 40 rfl hI sz) (cwV 1 hts gX3_takeToken_X10_isSign rfl rfl rfl (by decide +kernel) ⟨Nat.le_of_ble_eq_true rfl, Nat.le_of_ble_eq_true rfl⟩) rfl 1 xc_1 rfl (Nat.le_of_ble_eq_true rfl) ⟨Nat.zero_le _, Nat.zero_le _⟩ dX3_takeToken_35 (fun r13 _ hw14 => ?_)
      rcases hw14 with ⟨rfl, q16⟩ | ⟨rfl, q17⟩
      · have q16 : ((G 1 3).toInt = 3 ∧ (G 1 5).toInt = (40 : Int)) := q16
        refine v_if_eq F 46 dX3_takeToken_38 (by decide) 1 rfl (fun c18 => absurd c18 (by decide)) (fun c18 => ?_)
        refine g_bipush F 40 dX3_takeToken_41 (by decide) ?_
        refine g_goto F 48 dX3_takeToken_43 (by decide) ?_
        refine u_callVi (k := 0) (n := 0) (b := a 14) (As := [.int 40]) (st := []) F (fun sz => S_X3_takeOpening_14_v40 l D K a G  (fi) (by (first | omega | (simp only [Int32.reduceToInt, true_and, and_true, ne_eq, not_true_eq_false, false_and, or_false, false_or, true_or, or_true, false_implies] <;> omega))) (by (first | omega | (simp only [Int32.reduceToInt, true_and, and_true, ne_eq, not_true_eq_false, false_and, or_false, false_or, true_or, or_true, false_implies] <;> omega))) hI sz) (cwV 1 hts gX3_takeToken_X3_takeOpening rfl rfl rfl (by decide +kernel) ⟨Nat.le_of_ble_eq_true rfl, Nat.le_of_ble_eq_true rfl⟩) rfl 14 xc_14 rfl (Nat.le_of_ble_eq_true rfl) ⟨Nat.zero_le _, Nat.zero_le _⟩ dX3_takeToken_48 (fun r19 G21 hw20 => ?_)
        have hI22 : xI G21 := hw20.1
        have hU23 : gu_un xcd [1405, 1407, 1408, 3100] G G21 := hw20.2.1
        have hp24 := hw20.2.2
        have q25 : xFi 14 31 G21 := hp24.2.1
        have q26 : (∀ ls : Int, sR (sT ls 3 40 (G 14 8).toInt (tkr (G 31) ((G 14 4).toInt).toNat) (G 14 6).toInt (G 14 7).toInt (G 14 5).toInt (tkr (G 29) ((G 14 1).toInt).toNat)) r19.toInt (xS 14 29 31 G21)) := hp24.2.2.1
        have b27 : (0 : Int) ≤ (G21 14 4).toInt ∧ (G21 14 4).toInt ≤ 16 := hI22 14 4
        have q28 : (((G 14 8).toInt = 0 ∧ (G 14 1).toInt + (G21 14 4).toInt ≤ 6 * (G 14 5).toInt) ∨ ((G 14 8).toInt ≠ 0 ∧ (G 14 1).toInt + (G21 14 4).toInt ≤ 6 * (G 14 5).toInt + 1 + (G21 14 6).toInt)) := by have h9 := hp24.2.2.2; (try simp only [(show G21 14 8 = (G 14 8) from hU23 14 8 (by decide)), (show G21 14 1 = (G 14 1) from hU23 14 1 (by decide)), (show G21 14 5 = (G 14 5) from hU23 14 5 (by decide)), (show G21 14 8 = (G 14 8) from hU23 14 8 (by decide)), (show G21 14 1 = (G 14 1) from hU23 14 1 (by decide)), (show G21 14 5 = (G 14 5) from hU23 14 5 (by decide))] at h9); first | exact h9 | omega
        have rg29 := hp24.1
        clear hp24 hw20
        exact u_iret F hA hQ hr G21 (⟨hI22, (gu_un.tr gu_un.rf (gu_un.su hU23 rfl)), (by have h9 := ti_rng r19; omega), (q25), (by first | (rw [show (G 1 3).toInt = 3 by omega, show (G 1 5).toInt = 40 by omega]; exact q26 0) | (rw [show (G 1 3).toInt = 3 by omega, show (G 1 5).toInt = 45 by omega]; exact q26 0)), (by show (((G21 14 8).toInt = 0 ∧ (G21 14 1).toInt + (G21 14 4).toInt ≤ 6 * (G21 14 5).toInt) ∨ ((G21 14 8).toInt ≠ 0 ∧ (G21 14 1).toInt + (G21 14 4).toInt ≤ 6 * (G21 14 5).toInt + 1 + (G21 14 6).toInt)); have e9_14_1 : G21 14 1 = (G 14 1) := hU23 14 1 (by decide); have e9_14_5 : G21 14 5 = (G 14 5) := hU23 14 5 (by decide); have e9_14_8 : G21 14 8 = (G 14 8) := hU23 14 8 (by decide); (try simp only [e9_14_1, e9_14_5, e9_14_8, true_and, and_true]) <;> (first | omega | (simp only [Int32.reduceToInt, true_and, and_true, ne_eq, not_true_eq_false, false_and, or_false, false_or, true_or, or_true, false_implies] <;> omega))), (by show (r19.toInt ≠ 0 ∨ (G 1 3).toInt ≠ 0); (first | omega | (simp only [Int32.reduceToInt, true_and, and_true, ne_eq, not_true_eq_false, false_and, or_false, false_or, true_or, or_true, false_implies] <;> omega)))⟩) rfl rfl dX3_takeToken_51
      · have q17 : ((G 1 3).toInt ≠ 3 ∨ (G 1 5).toInt ≠ (40 : Int)) := q17
        refine v_if_eq F 46 dX3_takeToken_38 (by decide) 0 rfl (fun c30 => ?_) (fun c30 => absurd c30 (by decide))
        refine g_bipush F (-3) dX3_takeToken_46 (by decide) ?_
        refine u_callVi (k := 0) (n := 0) (b := a 14) (As := [.int (-3)]) (st := []) F (fun sz => S_X3_takeOpening_14_m3 l D K a G  (fi) (by (first | omega | (simp only [Int32.reduceToInt, true_and, and_true, ne_eq, not_true_eq_false, false_and, or_false, false_or, true_or, or_true, false_implies] <;> omega))) (by (first | omega | (simp only [Int32.reduceToInt, true_and, and_true, ne_eq, not_true_eq_false, false_and, or_false, false_or, true_or, or_true, false_implies] <;> omega))) hI sz) (cwV 1 hts gX3_takeToken_X3_takeOpening rfl rfl rfl (by decide +kernel) ⟨Nat.le_of_ble_eq_true rfl, Nat.le_of_ble_eq_true rfl⟩) rfl 14 xc_14 rfl (Nat.le_of_ble_eq_true rfl) ⟨Nat.zero_le _, Nat.zero_le _⟩ dX3_takeToken_48 (fun r31 G33 hw32 => ?_)
        have hI34 : xI G33 := hw32.1
        have hU35 : gu_un xcd [1405, 1407, 3100] G G33 := hw32.2.1
        have hp36 := hw32.2.2
        have q37 : xFi 14 31 G33 := hp36.2.1
        have q38 : (∀ ls : Int, sR (sT ls 3 45 (G 14 8).toInt (tkr (G 31) ((G 14 4).toInt).toNat) (G 14 6).toInt (G 14 7).toInt (G 14 5).toInt (tkr (G 29) ((G 14 1).toInt).toNat)) r31.toInt (xS 14 29 31 G33)) := hp36.2.2.1
        have b39 : (0 : Int) ≤ (G33 14 4).toInt ∧ (G33 14 4).toInt ≤ 16 := hI34 14 4
        have q40 : (((G 14 8).toInt = 0 ∧ (G 14 1).toInt + (G33 14 4).toInt ≤ 6 * (G 14 5).toInt) ∨ ((G 14 8).toInt ≠ 0 ∧ (G 14 1).toInt + (G33 14 4).toInt ≤ 6 * (G 14 5).toInt + 1 + (G33 14 6).toInt)) := by have h9 := hp36.2.2.2; (try simp only [(show G33 14 8 = (G 14 8) from hU35 14 8 (by decide)), (show G33 14 1 = (G 14 1) from hU35 14 1 (by decide)), (show G33 14 5 = (G 14 5) from hU35 14 5 (by decide)), (show G33 14 8 = (G 14 8) from hU35 14 8 (by decide)), (show G33 14 1 = (G 14 1) from hU35 14 1 (by decide)), (show G33 14 5 = (G 14 5) from hU35 14 5 (by decide))] at h9); first | exact h9 | omega
        have rg41 := hp36.1
        clear hp36 hw32
        exact u_iret F hA hQ hr G33 (⟨hI34, (gu_un.tr gu_un.rf (gu_un.su hU35 rfl)), (by have h9 := ti_rng r31; omega), (q37), (by first | (rw [show (G 1 3).toInt = 3 by omega, show (G 1 5).toInt = 40 by omega]; exact q38 0) | (rw [show (G 1 3).toInt = 3 by omega, show (G 1 5).toInt = 45 by omega]; exact q38 0)), (by show (((G33 14 8).toInt = 0 ∧ (G33 14 1).toInt + (G33 14 4).toInt ≤ 6 * (G33 14 5).toInt) ∨ ((G33 14 8).toInt ≠ 0 ∧ (G33 14 1).toInt + (G33 14 4).toInt ≤ 6 * (G33 14 5).toInt + 1 + (G33 14 6).toInt)); have e9_14_1 : G33 14 1 = (G 14 1) := hU35 14 1 (by decide); have e9_14_5 : G33 14 5 = (G 14 5) := hU35 14 5 (by decide); have e9_14_8 : G33 14 8 = (G 14 8) := hU35 14 8 (by decide); (try simp only [e9_14_1, e9_14_5, e9_14_8, true_and, and_true]) <;> (first | omega | (simp only [Int32.reduceToInt, true_and, and_true, ne_eq, not_true_eq_false, false_and, or_false, false_or, true_or, or_true, false_implies] <;> omega))), (by show (r31.toInt ≠ 0 ∨ (G 1 3).toInt ≠ 0); (first | omega | (simp only [Int32.reduceToInt, true_and, and_true, ne_eq, not_true_eq_false, false_and, or_false, false_or, true_or, or_true, false_implies] <;> omega)))⟩) rfl rfl dX3_takeToken_51
    · have q11 : ((G 1 3).toInt ≠ 3 ∨ (G 1 5).toInt ≠ (40 : Int)) := q11
      refine v_if_ne F 31 dX3_takeToken_19 (by decide) 0 rfl (fun c42 => absurd c42 (by decide)) (fun c42 => ?_)
      refine g_aload_n F 1 dX3_takeToken_22 rfl rfl ?_
      refine g_bipush F 45 dX3_takeToken_23 (by decide) ?_
      refine u_callVi (k := 0) (n := 0) (b := a 1) (As := [.int 45]) (st := []) F (fun sz => S_X10_isSign l D K a G 45 45 rfl hI sz) (cwV 1 hts gX3_takeToken_X10_isSign rfl rfl rfl (by decide +kernel) ⟨Nat.le_of_ble_eq_true rfl, Nat.le_of_ble_eq_true rfl⟩) rfl 1 xc_1 rfl (Nat.le_of_ble_eq_true rfl) ⟨Nat.zero_le _, Nat.zero_le _⟩ dX3_takeToken_25 (fun r43 _ hw44 => ?_)
      rcases hw44 with ⟨rfl, q46⟩ | ⟨rfl, q47⟩
      · have q46 : ((G 1 3).toInt = 3 ∧ (G 1 5).toInt = (45 : Int)) := q46
        refine v_if_eq F 52 dX3_takeToken_28 (by decide) 1 rfl (fun c48 => absurd c48 (by decide)) (fun c48 => ?_)
        refine g_aload_n F 0 dX3_takeToken_31 rfl rfl ?_
        refine g_aload_n F 1 dX3_takeToken_32 rfl rfl ?_
        refine g_bipush F 40 dX3_takeToken_33 (by decide) ?_
        refine u_callVi (k := 0) (n := 0) (b := a 1) (As := [.int 40]) (st := [.ref (a 14)]) F (fun sz => S_X10_isSign l D K a G 40 40 rfl hI sz) (cwV 1 hts gX3_takeToken_X10_isSign rfl rfl rfl (by decide +kernel) ⟨Nat.le_of_ble_eq_true rfl, Nat.le_of_ble_eq_true rfl⟩) rfl 1 xc_1 rfl (Nat.le_of_ble_eq_true rfl) ⟨Nat.zero_le _, Nat.zero_le _⟩ dX3_takeToken_35 (fun r49 _ hw50 => ?_)
        rcases hw50 with ⟨rfl, q52⟩ | ⟨rfl, q53⟩
        · have q52 : ((G 1 3).toInt = 3 ∧ (G 1 5).toInt = (40 : Int)) := q52
          refine v_if_eq F 46 dX3_takeToken_38 (by decide) 1 rfl (fun c54 => absurd c54 (by decide)) (fun c54 => ?_)
          refine g_bipush F 40 dX3_takeToken_41 (by decide) ?_
          refine g_goto F 48 dX3_takeToken_43 (by decide) ?_
          refine u_callVi (k := 0) (n := 0) (b := a 14) (As := [.int 40]) (st := []) F (fun sz => S_X3_takeOpening_14_v40 l D K a G  (fi) (by (first | omega | (simp only [Int32.reduceToInt, true_and, and_true, ne_eq, not_true_eq_false, false_and, or_false, false_or, true_or, or_true, false_implies] <;> omega))) (by (first | omega | (simp only [Int32.reduceToInt, true_and, and_true, ne_eq, not_true_eq_false, false_and, or_false, false_or, true_or, or_true, false_implies] <;> omega))) hI sz) (cwV 1 hts gX3_takeToken_X3_takeOpening rfl rfl rfl (by decide +kernel) ⟨Nat.le_of_ble_eq_true rfl, Nat.le_of_ble_eq_true rfl⟩) rfl 14 xc_14 rfl (Nat.le_of_ble_eq_true rfl) ⟨Nat.zero_le _, Nat.zero_le _⟩ dX3_takeToken_48 (fun r55 G57 hw56 => ?_)
          have hI58 : xI G57 := hw56.1
          have hU59 : gu_un xcd [1405, 1407, 1408, 3100] G G57 := hw56.2.1
          have hp60 := hw56.2.2
          have q61 : xFi 14 31 G57 := hp60.2.1
          have q62 : (∀ ls : Int, sR (sT ls 3 40 (G 14 8).toInt (tkr (G 31) ((G 14 4).toInt).toNat) (G 14 6).toInt (G 14 7).toInt (G 14 5).toInt (tkr (G 29) ((G 14 1).toInt).toNat)) r55.toInt (xS 14 29 31 G57)) := hp60.2.2.1
          have b63 : (0 : Int) ≤ (G57 14 4).toInt ∧ (G57 14 4).toInt ≤ 16 := hI58 14 4
          have q64 : (((G 14 8).toInt = 0 ∧ (G 14 1).toInt + (G57 14 4).toInt ≤ 6 * (G 14 5).toInt) ∨ ((G 14 8).toInt ≠ 0 ∧ (G 14 1).toInt + (G57 14 4).toInt ≤ 6 * (G 14 5).toInt + 1 + (G57 14 6).toInt)) := by have h9 := hp60.2.2.2; (try simp only [(show G57 14 8 = (G 14 8) from hU59 14 8 (by decide)), (show G57 14 1 = (G 14 1) from hU59 14 1 (by decide)), (show G57 14 5 = (G 14 5) from hU59 14 5 (by decide)), (show G57 14 8 = (G 14 8) from hU59 14 8 (by decide)), (show G57 14 1 = (G 14 1) from hU59 14 1 (by decide)), (show G57 14 5 = (G 14 5) from hU59 14 5 (by decide))] at h9); first | exact h9 | omega
          have rg65 := hp60.1
          clear hp60 hw56
          exact u_iret F hA hQ hr G57 (⟨hI58, (gu_un.tr gu_un.rf (gu_un.su hU59 rfl)), (by have h9 := ti_rng r55; omega), (q61), (by first | (rw [show (G 1 3).toInt = 3 by omega, show (G 1 5).toInt = 40 by omega]; exact q62 0) | (rw [show (G 1 3).toInt = 3 by omega, show (G 1 5).toInt = 45 by omega]; exact q62 0)), (by show (((G57 14 8).toInt = 0 ∧ (G57 14 1).toInt + (G57 14 4).toInt ≤ 6 * (G57 14 5).toInt) ∨ ((G57 14 8).toInt ≠ 0 ∧ (G57 14 1).toInt + (G57 14 4).toInt ≤ 6 * (G57 14 5).toInt + 1 + (G57 14 6).toInt)); have e9_14_1 : G57 14 1 = (G 14 1) := hU59 14 1 (by decide); have e9_14_5 : G57 14 5 = (G 14 5) := hU59 14 5 (by decide); have e9_14_8 : G57 14 8 = (G 14 8) := hU59 14 8 (by decide); (try simp only [e9_14_1, e9_14_5, e9_14_8, true_and, and_true]) <;> (first | omega | (simp only [Int32.reduceToInt, true_and, and_true, ne_eq, not_true_eq_false, false_and, or_false, false_or, true_or, or_true, false_implies] <;> omega))), (by show (r55.toInt ≠ 0 ∨ (G 1 3).toInt ≠ 0); (first | omega | (simp only [Int32.reduceToInt, true_and, and_true, ne_eq, not_true_eq_false, false_and, or_false, false_or, true_or, or_true, false_implies] <;> omega)))⟩) rfl rfl dX3_takeToken_51
        · have q53 : ((G 1 3).toInt ≠ 3 ∨ (G 1 5).toInt ≠ (40 : Int)) := q53
          refine v_if_eq F 46 dX3_takeToken_38 (by decide) 0 rfl (fun c66 => ?_) (fun c66 => absurd c66 (by decide))
          refine g_bipush F (-3) dX3_takeToken_46 (by decide) ?_
          refine u_callVi (k := 0) (n := 0) (b := a 14) (As := [.int (-3)]) (st := []) F (fun sz => S_X3_takeOpening_14_m3 l D K a G  (fi) (by (first | omega | (simp only [Int32.reduceToInt, true_and, and_true, ne_eq, not_true_eq_false, false_and, or_false, false_or, true_or, or_true, false_implies] <;> omega))) (by (first | omega | (simp only [Int32.reduceToInt, true_and, and_true, ne_eq, not_true_eq_false, false_and, or_false, false_or, true_or, or_true, false_implies] <;> omega))) hI sz) (cwV 1 hts gX3_takeToken_X3_takeOpening rfl rfl rfl (by decide +kernel) ⟨Nat.le_of_ble_eq_true rfl, Nat.le_of_ble_eq_true rfl⟩) rfl 14 xc_14 rfl (Nat.le_of_ble_eq_true rfl) ⟨Nat.zero_le _, Nat.zero_le _⟩ dX3_takeToken_48 (fun r67 G69 hw68 => ?_)
          have hI70 : xI G69 := hw68.1
          have hU71 : gu_un xcd [1405, 1407, 3100] G G69 := hw68.2.1
          have hp72 := hw68.2.2
          have q73 : xFi 14 31 G69 := hp72.2.1
          have q74 : (∀ ls : Int, sR (sT ls 3 45 (G 14 8).toInt (tkr (G 31) ((G 14 4).toInt).toNat) (G 14 6).toInt (G 14 7).toInt (G 14 5).toInt (tkr (G 29) ((G 14 1).toInt).toNat)) r67.toInt (xS 14 29 31 G69)) := hp72.2.2.1
          have b75 : (0 : Int) ≤ (G69 14 4).toInt ∧ (G69 14 4).toInt ≤ 16 := hI70 14 4
          have q76 : (((G 14 8).toInt = 0 ∧ (G 14 1).toInt + (G69 14 4).toInt ≤ 6 * (G 14 5).toInt) ∨ ((G 14 8).toInt ≠ 0 ∧ (G 14 1).toInt + (G69 14 4).toInt ≤ 6 * (G 14 5).toInt + 1 + (G69 14 6).toInt)) := by have h9 := hp72.2.2.2; (try simp only [(show G69 14 8 = (G 14 8) from hU71 14 8 (by decide)), (show G69 14 1 = (G 14 1) from hU71 14 1 (by decide)), (show G69 14 5 = (G 14 5) from hU71 14 5 (by decide)), (show G69 14 8 = (G 14 8) from hU71 14 8 (by decide)), (show G69 14 1 = (G 14 1) from hU71 14 1 (by decide)), (show G69 14 5 = (G 14 5) from hU71 14 5 (by decide))] at h9); first | exact h9 | omega
          have rg77 := hp72.1
          clear hp72 hw68
          exact u_iret F hA hQ hr G69 (⟨hI70, (gu_un.tr gu_un.rf (gu_un.su hU71 rfl)), (by have h9 := ti_rng r67; omega), (q73), (by first | (rw [show (G 1 3).toInt = 3 by omega, show (G 1 5).toInt = 40 by omega]; exact q74 0) | (rw [show (G 1 3).toInt = 3 by omega, show (G 1 5).toInt = 45 by omega]; exact q74 0)), (by show (((G69 14 8).toInt = 0 ∧ (G69 14 1).toInt + (G69 14 4).toInt ≤ 6 * (G69 14 5).toInt) ∨ ((G69 14 8).toInt ≠ 0 ∧ (G69 14 1).toInt + (G69 14 4).toInt ≤ 6 * (G69 14 5).toInt + 1 + (G69 14 6).toInt)); have e9_14_1 : G69 14 1 = (G 14 1) := hU71 14 1 (by decide); have e9_14_5 : G69 14 5 = (G 14 5) := hU71 14 5 (by decide); have e9_14_8 : G69 14 8 = (G 14 8) := hU71 14 8 (by decide); (try simp only [e9_14_1, e9_14_5, e9_14_8, true_and, and_true]) <;> (first | omega | (simp only [Int32.reduceToInt, true_and, and_true, ne_eq, not_true_eq_false, false_and, or_false, false_or, true_or, or_true, false_implies] <;> omega))), (by show (r67.toInt ≠ 0 ∨ (G 1 3).toInt ≠ 0); (first | omega | (simp only [Int32.reduceToInt, true_and, and_true, ne_eq, not_true_eq_false, false_and, or_false, false_or, true_or, or_true, false_implies] <;> omega)))⟩) rfl rfl dX3_takeToken_51
      · have q47 : ((G 1 3).toInt ≠ 3 ∨ (G 1 5).toInt ≠ (45 : Int)) := q47
        refine v_if_eq F 52 dX3_takeToken_28 (by decide) 0 rfl (fun c78 => ?_) (fun c78 => absurd c78 (by decide))
        refine g_aload_n F 1 dX3_takeToken_52 rfl rfl ?_
        refine xg_1_3 F i_X10 w_1 dX3_takeToken_53 (G 1 3) (rfl) ?_
        refine g_iconst F 2 dX3_takeToken_56 (by decide) ?_
        refine v_icmp_ne F 69 dX3_takeToken_57 (by decide) (G 1 3).toInt 2 rfl rfl (fun c79 => ?_) (fun c79 => ?_)
        · refine g_aload_n F 1 dX3_takeToken_69 rfl rfl ?_
          refine xg_1_3 F i_X10 w_1 dX3_takeToken_70 (G 1 3) (rfl) ?_
          refine g_iconst F 1 dX3_takeToken_73 (by decide) ?_
          refine v_icmp_ne F 96 dX3_takeToken_74 (by decide) (G 1 3).toInt 1 rfl rfl (fun c80 => ?_) (fun c80 => ?_)
          · refine g_iconst F (-1) dX3_takeToken_96 (by decide) ?_
            refine g_istore_n F [(3, .int (-1)), (0, .ref (a 14)), (1, .ref (a 1)), (2, .ref (zf 80))] dX3_takeToken_97 rfl (by decide) rfl ?_
            refine g_iload_n F 0 dX3_takeToken_98 rfl rfl ?_
            refine v_if_ge F 104 dX3_takeToken_99 (by decide) (-1) rfl (fun c81 => absurd c81 (by decide)) (fun c81 => ?_)
            refine g_iconst F 1 dX3_takeToken_102 (by decide) ?_
            exact u_iret F hA hQ hr G (⟨hI, gu_un.rf, (by decide), (fi), ((sT_none (by omega) (by omega) (by omega) (by omega) (fun h9 => by first | (exfalso; omega) | (rw [show (G 1 5).toInt = 0 by omega]; decide) | (omega))).cast (by decide)), (by show (((G 14 8).toInt = 0 ∧ (G 14 1).toInt + (G 14 4).toInt ≤ 6 * (G 14 5).toInt) ∨ ((G 14 8).toInt ≠ 0 ∧ (G 14 1).toInt + (G 14 4).toInt ≤ 6 * (G 14 5).toInt + 1 + (G 14 6).toInt)); (first | omega | (simp only [Int32.reduceToInt, true_and, and_true, ne_eq, not_true_eq_false, false_and, or_false, false_or, true_or, or_true, false_implies] <;> omega))), (by show (1 ≠ 0 ∨ (G 1 3).toInt ≠ 0); (first | omega | (simp only [Int32.reduceToInt, true_and, and_true, ne_eq, not_true_eq_false, false_and, or_false, false_or, true_or, or_true, false_implies] <;> omega)))⟩) rfl rfl dX3_takeToken_103
          · refine g_aload_n F 1 dX3_takeToken_77 rfl rfl ?_
            refine xg_1_5 F i_X10 w_2 dX3_takeToken_78 (G 1 5) (rfl) ?_
            refine v_if_eq F 96 dX3_takeToken_81 (by decide) (G 1 5).toInt rfl (fun c82 => ?_) (fun c82 => ?_)
            · refine g_iconst F (-1) dX3_takeToken_96 (by decide) ?_
              refine g_istore_n F [(3, .int (-1)), (0, .ref (a 14)), (1, .ref (a 1)), (2, .ref (zf 80))] dX3_takeToken_97 rfl (by decide) rfl ?_
              refine g_iload_n F 0 dX3_takeToken_98 rfl rfl ?_
              refine v_if_ge F 104 dX3_takeToken_99 (by decide) (-1) rfl (fun c83 => absurd c83 (by decide)) (fun c83 => ?_)
              refine g_iconst F 1 dX3_takeToken_102 (by decide) ?_
              exact u_iret F hA hQ hr G (⟨hI, gu_un.rf, (by decide), (fi), ((sT_none (by omega) (by omega) (by omega) (by omega) (fun h9 => by first | (exfalso; omega) | (rw [show (G 1 5).toInt = 0 by omega]; decide) | (omega))).cast (by decide)), (by show (((G 14 8).toInt = 0 ∧ (G 14 1).toInt + (G 14 4).toInt ≤ 6 * (G 14 5).toInt) ∨ ((G 14 8).toInt ≠ 0 ∧ (G 14 1).toInt + (G 14 4).toInt ≤ 6 * (G 14 5).toInt + 1 + (G 14 6).toInt)); (first | omega | (simp only [Int32.reduceToInt, true_and, and_true, ne_eq, not_true_eq_false, false_and, or_false, false_or, true_or, or_true, false_implies] <;> omega))), (by show (1 ≠ 0 ∨ (G 1 3).toInt ≠ 0); (first | omega | (simp only [Int32.reduceToInt, true_and, and_true, ne_eq, not_true_eq_false, false_and, or_false, false_or, true_or, or_true, false_implies] <;> omega)))⟩) rfl rfl dX3_takeToken_103
            · refine g_aload_n F 2 dX3_takeToken_84 rfl rfl ?_
              refine g_aload_n F 1 dX3_takeToken_85 rfl rfl ?_
              refine xg_1_5 F i_X10 w_2 dX3_takeToken_86 (G 1 5) (rfl) ?_
              refine uz_i2c F dX3_takeToken_89 (G 1 5).toInt rfl (by omega) (by omega) ?_
              refine uz_call0Vi (k := 0) (n := 0) (b := (zf 80)) (As := [.int (G 1 5)]) (st := []) F zS_st (hZ.2.2.2.2.2 10 (by decide)).2.2.2.2.2.2.2.2 (fun sz => S_J0_indexOf_0f7a4 l D (zf 80) (zf 100) _ _ (by decide) (G 1 5) (G 1 5).toInt rfl sz) (cwV 1 hts gX3_takeToken_J0_indexOf_0f7a4 rfl rfl rfl (by decide +kernel) ⟨Nat.le_of_ble_eq_true rfl, Nat.le_of_ble_eq_true rfl⟩) (hZ.2.2.2.2.2 10 (by decide)).2.2.2.2.2.2.2.2.1 rfl (Nat.le_of_ble_eq_true rfl) ⟨Nat.zero_le _, Nat.zero_le _⟩ dX3_takeToken_90 (fun r84 _ hw85 => ?_)
              have hz86 := hw85.2
              have hw85 := hw85.1
              refine g_goto F 97 dX3_takeToken_93 (by decide) ?_
              refine g_istore_n F [(3, .int r84), (0, .ref (a 14)), (1, .ref (a 1)), (2, .ref (zf 80))] dX3_takeToken_97 rfl (by decide) rfl ?_
              refine g_iload_n F 0 dX3_takeToken_98 rfl rfl ?_
              refine v_if_ge F 104 dX3_takeToken_99 (by decide) r84.toInt rfl (fun c87 => ?_) (fun c87 => ?_)
              · refine g_aload_n F 1 dX3_takeToken_104 rfl rfl ?_
                refine g_iload_n F 0 dX3_takeToken_105 rfl rfl ?_
                refine v_if_ne F 113 dX3_takeToken_106 (by decide) r84.toInt rfl (fun c88 => ?_) (fun c88 => ?_)
                · refine g_bipush F (-2) dX3_takeToken_113 (by decide) ?_
                  refine u_callVi (k := 0) (n := 0) (b := a 14) (As := [.int (-2)]) (st := []) F (fun sz => S_X3_takeOperand_14 l D K a G (-2) (-2) rfl (fi) (by (first | omega | (simp only [Int32.reduceToInt, true_and, and_true, ne_eq, not_true_eq_false, false_and, or_false, false_or, true_or, or_true, false_implies] <;> omega))) (by (first | omega | (simp only [Int32.reduceToInt, true_and, and_true, ne_eq, not_true_eq_false, false_and, or_false, false_or, true_or, or_true, false_implies] <;> omega))) hI sz) (cwV 1 hts gX3_takeToken_X3_takeOperand rfl rfl rfl (by decide +kernel) ⟨Nat.le_of_ble_eq_true rfl, Nat.le_of_ble_eq_true rfl⟩) rfl 14 xc_14 rfl (Nat.le_of_ble_eq_true rfl) ⟨Nat.zero_le _, Nat.zero_le _⟩ dX3_takeToken_115 (fun r89 G91 hw90 => ?_)
                  have hI92 : xI G91 := hw90.1
                  have hU93 : gu_un xcd [1402, 1405, 1406, 1407, 1409, 2900] G G91 := hw90.2.1
                  have hp94 := hw90.2.2
                  have q95 : xFi 14 31 G91 := hp94.2.1
                  have q96 : (sR (sOp (-2 : Int) (tkr (G 31) ((G 14 4).toInt).toNat) (G 14 6).toInt (G 14 7).toInt (G 14 5).toInt (tkr (G 29) ((G 14 1).toInt).toNat)) r89.toInt (xS 14 29 31 G91)) := hp94.2.2.1
                  have b97 : (0 : Int) ≤ (G91 14 8).toInt ∧ (G91 14 8).toInt ≤ 1 := hI92 14 8
                  have b98 : (0 : Int) ≤ (G91 14 1).toInt ∧ (G91 14 1).toInt ≤ 80 := hI92 14 1
                  have b99 : (0 : Int) ≤ (G91 14 4).toInt ∧ (G91 14 4).toInt ≤ 16 := hI92 14 4
                  have b100 : (0 : Int) ≤ (G91 14 5).toInt ∧ (G91 14 5).toInt ≤ 12 := hI92 14 5
                  have q101 : (((G91 14 8).toInt = 0 ∧ (G91 14 1).toInt + (G91 14 4).toInt ≤ 6 * (G91 14 5).toInt) ∨ ((G91 14 8).toInt ≠ 0 ∧ (G91 14 1).toInt + (G91 14 4).toInt ≤ 6 * (G91 14 5).toInt + 1 + (G91 14 6).toInt)) := hp94.2.2.2
                  have rg102 := hp94.1
                  clear hp94 hw90
                  exact u_iret F hA hQ hr G91 (⟨hI92, (gu_un.tr gu_un.rf (gu_un.su hU93 rfl)), (by have h9 := ti_rng r89; omega), (q95), (by have h8 := zIx_li (ls := 0) (hz86 (by omega)) rfl (by omega) (by omega) (Or.inl ⟨rfl, rfl, rfl, rfl⟩); have h7 := sLi_rng (ls := 0) (v := (G 1 5).toInt); first | (exfalso; omega) | (rw [sT_let (li := r84.toInt) (by omega) (by omega) (by omega) (by omega), show -1 - r84.toInt = -1 by omega]; exact q96) | (rw [sT_let (li := r84.toInt) (by omega) (by omega) (by omega) (by omega), show -1 - r84.toInt = -2 by omega]; exact q96)), (by show (((G91 14 8).toInt = 0 ∧ (G91 14 1).toInt + (G91 14 4).toInt ≤ 6 * (G91 14 5).toInt) ∨ ((G91 14 8).toInt ≠ 0 ∧ (G91 14 1).toInt + (G91 14 4).toInt ≤ 6 * (G91 14 5).toInt + 1 + (G91 14 6).toInt)); (first | omega | (simp only [Int32.reduceToInt, true_and, and_true, ne_eq, not_true_eq_false, false_and, or_false, false_or, true_or, or_true, false_implies] <;> omega))), (by show (r89.toInt ≠ 0 ∨ (G 1 3).toInt ≠ 0); (first | omega | (simp only [Int32.reduceToInt, true_and, and_true, ne_eq, not_true_eq_false, false_and, or_false, false_or, true_or, or_true, false_implies] <;> omega)))⟩) rfl rfl dX3_takeToken_118
                · refine g_iconst F (-1) dX3_takeToken_109 (by decide) ?_
                  refine g_goto F 115 dX3_takeToken_110 (by decide) ?_
                  refine u_callVi (k := 0) (n := 0) (b := a 14) (As := [.int (-1)]) (st := []) F (fun sz => S_X3_takeOperand_14 l D K a G (-1) (-1) rfl (fi) (by (first | omega | (simp only [Int32.reduceToInt, true_and, and_true, ne_eq, not_true_eq_false, false_and, or_false, false_or, true_or, or_true, false_implies] <;> omega))) (by (first | omega | (simp only [Int32.reduceToInt, true_and, and_true, ne_eq, not_true_eq_false, false_and, or_false, false_or, true_or, or_true, false_implies] <;> omega))) hI sz) (cwV 1 hts gX3_takeToken_X3_takeOperand rfl rfl rfl (by decide +kernel) ⟨Nat.le_of_ble_eq_true rfl, Nat.le_of_ble_eq_true rfl⟩) rfl 14 xc_14 rfl (Nat.le_of_ble_eq_true rfl) ⟨Nat.zero_le _, Nat.zero_le _⟩ dX3_takeToken_115 (fun r103 G105 hw104 => ?_)
                  have hI106 : xI G105 := hw104.1
                  have hU107 : gu_un xcd [1402, 1405, 1406, 1407, 1409, 2900] G G105 := hw104.2.1
                  have hp108 := hw104.2.2
                  have q109 : xFi 14 31 G105 := hp108.2.1
                  have q110 : (sR (sOp (-1 : Int) (tkr (G 31) ((G 14 4).toInt).toNat) (G 14 6).toInt (G 14 7).toInt (G 14 5).toInt (tkr (G 29) ((G 14 1).toInt).toNat)) r103.toInt (xS 14 29 31 G105)) := hp108.2.2.1
                  have b111 : (0 : Int) ≤ (G105 14 8).toInt ∧ (G105 14 8).toInt ≤ 1 := hI106 14 8
                  have b112 : (0 : Int) ≤ (G105 14 1).toInt ∧ (G105 14 1).toInt ≤ 80 := hI106 14 1
                  have b113 : (0 : Int) ≤ (G105 14 4).toInt ∧ (G105 14 4).toInt ≤ 16 := hI106 14 4
                  have b114 : (0 : Int) ≤ (G105 14 5).toInt ∧ (G105 14 5).toInt ≤ 12 := hI106 14 5
                  have q115 : (((G105 14 8).toInt = 0 ∧ (G105 14 1).toInt + (G105 14 4).toInt ≤ 6 * (G105 14 5).toInt) ∨ ((G105 14 8).toInt ≠ 0 ∧ (G105 14 1).toInt + (G105 14 4).toInt ≤ 6 * (G105 14 5).toInt + 1 + (G105 14 6).toInt)) := hp108.2.2.2
                  have rg116 := hp108.1
                  clear hp108 hw104
                  exact u_iret F hA hQ hr G105 (⟨hI106, (gu_un.tr gu_un.rf (gu_un.su hU107 rfl)), (by have h9 := ti_rng r103; omega), (q109), (by have h8 := zIx_li (ls := 0) (hz86 (by omega)) rfl (by omega) (by omega) (Or.inl ⟨rfl, rfl, rfl, rfl⟩); have h7 := sLi_rng (ls := 0) (v := (G 1 5).toInt); first | (exfalso; omega) | (rw [sT_let (li := r84.toInt) (by omega) (by omega) (by omega) (by omega), show -1 - r84.toInt = -1 by omega]; exact q110) | (rw [sT_let (li := r84.toInt) (by omega) (by omega) (by omega) (by omega), show -1 - r84.toInt = -2 by omega]; exact q110)), (by show (((G105 14 8).toInt = 0 ∧ (G105 14 1).toInt + (G105 14 4).toInt ≤ 6 * (G105 14 5).toInt) ∨ ((G105 14 8).toInt ≠ 0 ∧ (G105 14 1).toInt + (G105 14 4).toInt ≤ 6 * (G105 14 5).toInt + 1 + (G105 14 6).toInt)); (first | omega | (simp only [Int32.reduceToInt, true_and, and_true, ne_eq, not_true_eq_false, false_and, or_false, false_or, true_or, or_true, false_implies] <;> omega))), (by show (r103.toInt ≠ 0 ∨ (G 1 3).toInt ≠ 0); (first | omega | (simp only [Int32.reduceToInt, true_and, and_true, ne_eq, not_true_eq_false, false_and, or_false, false_or, true_or, or_true, false_implies] <;> omega)))⟩) rfl rfl dX3_takeToken_118
              · refine g_iconst F 1 dX3_takeToken_102 (by decide) ?_
                exact u_iret F hA hQ hr G (⟨hI, gu_un.rf, (by decide), (fi), ((sT_none (by omega) (by omega) (by omega) (by omega) (fun h9 => by first | (exfalso; omega) | (rw [show (G 1 5).toInt = 0 by omega]; decide) | (have h8 := zIx_li (ls := 0) (hz86 (by omega)) rfl (by omega) (by omega) (Or.inl ⟨rfl, rfl, rfl, rfl⟩); have h7 := sLi_rng (ls := 0) (v := (G 1 5).toInt); omega))).cast (by decide)), (by show (((G 14 8).toInt = 0 ∧ (G 14 1).toInt + (G 14 4).toInt ≤ 6 * (G 14 5).toInt) ∨ ((G 14 8).toInt ≠ 0 ∧ (G 14 1).toInt + (G 14 4).toInt ≤ 6 * (G 14 5).toInt + 1 + (G 14 6).toInt)); (first | omega | (simp only [Int32.reduceToInt, true_and, and_true, ne_eq, not_true_eq_false, false_and, or_false, false_or, true_or, or_true, false_implies] <;> omega))), (by show (1 ≠ 0 ∨ (G 1 3).toInt ≠ 0); (first | omega | (simp only [Int32.reduceToInt, true_and, and_true, ne_eq, not_true_eq_false, false_and, or_false, false_or, true_or, or_true, false_implies] <;> omega)))⟩) rfl rfl dX3_takeToken_103
        · refine g_aload_n F 0 dX3_takeToken_60 rfl rfl ?_
          refine g_aload_n F 1 dX3_takeToken_61 rfl rfl ?_
          refine xg_1_5 F i_X10 w_2 dX3_takeToken_62 (G 1 5) (rfl) ?_
          refine u_callVi (k := 0) (n := 0) (b := a 14) (As := [.int (G 1 5)]) (st := []) F (fun sz => S_X3_takeOperand_14 l D K a G (G 1 5) (G 1 5).toInt rfl (fi) (by (first | omega | (simp only [Int32.reduceToInt, true_and, and_true, ne_eq, not_true_eq_false, false_and, or_false, false_or, true_or, or_true, false_implies] <;> omega))) (by (first | omega | (simp only [Int32.reduceToInt, true_and, and_true, ne_eq, not_true_eq_false, false_and, or_false, false_or, true_or, or_true, false_implies] <;> omega))) hI sz) (cwV 1 hts gX3_takeToken_X3_takeOperand rfl rfl rfl (by decide +kernel) ⟨Nat.le_of_ble_eq_true rfl, Nat.le_of_ble_eq_true rfl⟩) rfl 14 xc_14 rfl (Nat.le_of_ble_eq_true rfl) ⟨Nat.zero_le _, Nat.zero_le _⟩ dX3_takeToken_65 (fun r117 G119 hw118 => ?_)
          have hI120 : xI G119 := hw118.1
          have hU121 : gu_un xcd [1402, 1405, 1406, 1407, 1409, 2900] G G119 := hw118.2.1
          have hp122 := hw118.2.2
          have q123 : xFi 14 31 G119 := hp122.2.1
          have q124 : (sR (sOp (G 1 5).toInt (tkr (G 31) ((G 14 4).toInt).toNat) (G 14 6).toInt (G 14 7).toInt (G 14 5).toInt (tkr (G 29) ((G 14 1).toInt).toNat)) r117.toInt (xS 14 29 31 G119)) := hp122.2.2.1
          have b125 : (0 : Int) ≤ (G119 14 8).toInt ∧ (G119 14 8).toInt ≤ 1 := hI120 14 8
          have b126 : (0 : Int) ≤ (G119 14 1).toInt ∧ (G119 14 1).toInt ≤ 80 := hI120 14 1
          have b127 : (0 : Int) ≤ (G119 14 4).toInt ∧ (G119 14 4).toInt ≤ 16 := hI120 14 4
          have b128 : (0 : Int) ≤ (G119 14 5).toInt ∧ (G119 14 5).toInt ≤ 12 := hI120 14 5
          have q129 : (((G119 14 8).toInt = 0 ∧ (G119 14 1).toInt + (G119 14 4).toInt ≤ 6 * (G119 14 5).toInt) ∨ ((G119 14 8).toInt ≠ 0 ∧ (G119 14 1).toInt + (G119 14 4).toInt ≤ 6 * (G119 14 5).toInt + 1 + (G119 14 6).toInt)) := hp122.2.2.2
          have rg130 := hp122.1
          clear hp122 hw118
          exact u_iret F hA hQ hr G119 (⟨hI120, (gu_un.tr gu_un.rf (gu_un.su hU121 rfl)), (by have h9 := ti_rng r117; omega), (q123), (by rw [sT_num (by omega) (by omega)]; exact q124), (by show (((G119 14 8).toInt = 0 ∧ (G119 14 1).toInt + (G119 14 4).toInt ≤ 6 * (G119 14 5).toInt) ∨ ((G119 14 8).toInt ≠ 0 ∧ (G119 14 1).toInt + (G119 14 4).toInt ≤ 6 * (G119 14 5).toInt + 1 + (G119 14 6).toInt)); (first | omega | (simp only [Int32.reduceToInt, true_and, and_true, ne_eq, not_true_eq_false, false_and, or_false, false_or, true_or, or_true, false_implies] <;> omega))), (by show (r117.toInt ≠ 0 ∨ (G 1 3).toInt ≠ 0); (first | omega | (simp only [Int32.reduceToInt, true_and, and_true, ne_eq, not_true_eq_false, false_and, or_false, false_or, true_or, or_true, false_implies] <;> omega)))⟩) rfl rfl dX3_takeToken_68
  · refine g_aload_n F 0 dX3_takeToken_7 rfl rfl ?_
    refine g_aload_n F 1 dX3_takeToken_8 rfl rfl ?_
    refine u_callVi (k := 0) (n := 0) (b := a 14) (As := [.ref (a 1)]) (st := []) F (fun sz => S_X3_takeBehindOperand_14_1 l D K a G  (fi) (by (first | omega | (simp only [Int32.reduceToInt, true_and, and_true, ne_eq, not_true_eq_false, false_and, or_false, false_or, true_or, or_true, false_implies] <;> omega))) (by (first | omega | (simp only [Int32.reduceToInt, true_and, and_true, ne_eq, not_true_eq_false, false_and, or_false, false_or, true_or, or_true, false_implies] <;> omega))) hI sz) (cwV 1 hts gX3_takeToken_X3_takeBehindOperand rfl rfl rfl (by decide +kernel) ⟨Nat.le_of_ble_eq_true rfl, Nat.le_of_ble_eq_true rfl⟩) rfl 14 xc_14 rfl (Nat.le_of_ble_eq_true rfl) ⟨Nat.zero_le _, Nat.zero_le _⟩ dX3_takeToken_9 (fun r131 G133 hw132 => ?_)
    have hI134 : xI G133 := hw132.1
    have hU135 : gu_un xcd [1402, 1405, 1407, 1408, 1409, 2900, 3100] G G133 := hw132.2.1
    have hp136 := hw132.2.2
    have q137 : xFi 14 31 G133 := hp136.2.1
    have q138 : (∀ ls : Int, sR (sT ls (G 1 3).toInt (G 1 5).toInt (G 14 8).toInt (tkr (G 31) ((G 14 4).toInt).toNat) (G 14 6).toInt (G 14 7).toInt (G 14 5).toInt (tkr (G 29) ((G 14 1).toInt).toNat)) r131.toInt (xS 14 29 31 G133)) := hp136.2.2.1
    have b139 : (0 : Int) ≤ (G133 14 8).toInt ∧ (G133 14 8).toInt ≤ 1 := hI134 14 8
    have b140 : (0 : Int) ≤ (G133 14 1).toInt ∧ (G133 14 1).toInt ≤ 80 := hI134 14 1
    have b141 : (0 : Int) ≤ (G133 14 4).toInt ∧ (G133 14 4).toInt ≤ 16 := hI134 14 4
    have q142 : (((G133 14 8).toInt = 0 ∧ (G133 14 1).toInt + (G133 14 4).toInt ≤ 6 * (G 14 5).toInt) ∨ ((G133 14 8).toInt ≠ 0 ∧ (G133 14 1).toInt + (G133 14 4).toInt ≤ 6 * (G 14 5).toInt + 1 + (G133 14 6).toInt)) := by have h9 := hp136.2.2.2.1; (try simp only [(show G133 14 5 = (G 14 5) from hU135 14 5 (by decide)), (show G133 14 5 = (G 14 5) from hU135 14 5 (by decide))] at h9); first | exact h9 | omega
    have q143 : (r131.toInt ≠ 0 ∨ (G 1 3).toInt ≠ 0) := hp136.2.2.2.2
    have rg144 := hp136.1
    clear hp136 hw132
    exact u_iret F hA hQ hr G133 (⟨hI134, (gu_un.tr gu_un.rf (gu_un.su hU135 rfl)), (by have h9 := ti_rng r131; omega), (q137), (q138 0), (by show (((G133 14 8).toInt = 0 ∧ (G133 14 1).toInt + (G133 14 4).toInt ≤ 6 * (G133 14 5).toInt) ∨ ((G133 14 8).toInt ≠ 0 ∧ (G133 14 1).toInt + (G133 14 4).toInt ≤ 6 * (G133 14 5).toInt + 1 + (G133 14 6).toInt)); have e9_14_5 : G133 14 5 = (G 14 5) := hU135 14 5 (by decide); (try simp only [e9_14_5, true_and, and_true]) <;> (first | omega | (simp only [Int32.reduceToInt, true_and, and_true, ne_eq, not_true_eq_false, false_and, or_false, false_or, true_or, or_true, false_implies] <;> omega))), (by show (r131.toInt ≠ 0 ∨ (G 1 3).toInt ≠ 0); (first | omega | (simp only [Int32.reduceToInt, true_and, and_true, ne_eq, not_true_eq_false, false_and, or_false, false_or, true_or, or_true, false_implies] <;> omega)))⟩) rfl rfl dX3_takeToken_12


set_option maxHeartbeats 4000000 in
set_option maxRecDepth 100000 in
theorem S_X3_mayEnd_15 (l : Launch) (D : va_G) (K : Nat → ClassId) (a : Nat → Nat) (G : gS) (hI : xI G) (sz : Nat) : Ki l yX3_mayEnd wsX3_mayEnd 1 40 0 0 D [.ref (a 15)] (xW K a G) (tK K) sz (fun (r : Int32) (_ : Unit) => (0 ≤ r.toInt ∧ r.toInt ≤ 1) ∧ (((r.toInt = 1 ∧ (G 15 8).toInt = 0 ∧ (G 15 7).toInt = 0) ∨ (r.toInt = 0 ∧ ((G 15 8).toInt ≠ 0 ∨ (G 15 7).toInt ≠ 0))))) (fun (_ : Unit) => (xW K a G)) (fun _ => (tK K)) := by
  unfold Ki
  refine g_ofW (cc := cX3_mayEnd) (lv := [(0, .ref (a 15))]) (by decide) rfl (Nat.le_of_ble_eq_true rfl) rfl ?_
  intro p e s m args below meth c A Q hA hQ F hr hnm
  have hts := F.2.2.2.2.1
  have w_0 : (Cond.fieldLink RX3 47 "QuietCut$Formula" "wantsOperand" "Z").before args s = true := hts _ (List.mem_of_getElem? (i := 1) rfl)
  have i_X3 : ∀ w ∈ u_ws RX3 TX3 9, w ∈ wsX3_mayEnd := fun _ h => List.mem_cons_of_mem _ (List.mem_append_right _ h)
  have w_1 : (Cond.fieldLink RX3 44 "QuietCut$Formula" "parentheses" "I").before args s = true := hts _ (List.mem_of_getElem? (i := 2) rfl)
  refine g_aload_n F 0 dX3_mayEnd_0 rfl rfl ?_
  refine xg_15_8 F i_X3 w_0 dX3_mayEnd_1 (G 15 8) (rfl) ?_
  have b1 : (0 : Int) ≤ (G 15 8).toInt ∧ (G 15 8).toInt ≤ 1 := hI 15 8
  refine v_if_ne F 18 dX3_mayEnd_4 (by decide) (G 15 8).toInt rfl (fun c2 => ?_) (fun c2 => ?_)
  · refine g_iconst F 0 dX3_mayEnd_18 (by decide) ?_
    exact u_zret F hA hQ hr rfl () (⟨(by decide), (by show ((0 = 1 ∧ (G 15 8).toInt = 0 ∧ (G 15 7).toInt = 0) ∨ (0 = 0 ∧ ((G 15 8).toInt ≠ 0 ∨ (G 15 7).toInt ≠ 0))); (first | omega | (simp only [Int32.reduceToInt, true_and, and_true, ne_eq, not_true_eq_false, false_and, or_false, false_or, true_or, or_true, false_implies] <;> omega)))⟩) rfl rfl dX3_mayEnd_19
  · refine g_aload_n F 0 dX3_mayEnd_7 rfl rfl ?_
    refine xg_15_7 F i_X3 w_1 dX3_mayEnd_8 (G 15 7) (rfl) ?_
    refine v_if_ne F 18 dX3_mayEnd_11 (by decide) (G 15 7).toInt rfl (fun c3 => ?_) (fun c3 => ?_)
    · refine g_iconst F 0 dX3_mayEnd_18 (by decide) ?_
      exact u_zret F hA hQ hr rfl () (⟨(by decide), (by show ((0 = 1 ∧ (G 15 8).toInt = 0 ∧ (G 15 7).toInt = 0) ∨ (0 = 0 ∧ ((G 15 8).toInt ≠ 0 ∨ (G 15 7).toInt ≠ 0))); (first | omega | (simp only [Int32.reduceToInt, true_and, and_true, ne_eq, not_true_eq_false, false_and, or_false, false_or, true_or, or_true, false_implies] <;> omega)))⟩) rfl rfl dX3_mayEnd_19
    · refine g_iconst F 1 dX3_mayEnd_14 (by decide) ?_
      refine g_goto F 19 dX3_mayEnd_15 (by decide) ?_
      exact u_zret F hA hQ hr rfl () (⟨(by decide), (by show ((1 = 1 ∧ (G 15 8).toInt = 0 ∧ (G 15 7).toInt = 0) ∨ (1 = 0 ∧ ((G 15 8).toInt ≠ 0 ∨ (G 15 7).toInt ≠ 0))); (first | omega | (simp only [Int32.reduceToInt, true_and, and_true, ne_eq, not_true_eq_false, false_and, or_false, false_or, true_or, or_true, false_implies] <;> omega)))⟩) rfl rfl dX3_mayEnd_19


set_option maxHeartbeats 4000000 in
set_option maxRecDepth 100000 in
theorem S_X3_finish_15 (l : Launch) (D : va_G) (K : Nat → ClassId) (a : Nat → Nat) (G : gS) (jq : (∃ t, xQ (G 34) (G 15 4).toInt (G 15 6).toInt (G 15 7).toInt t ∧ 0 ≤ t)) (jl : ((G 15 1).toInt + (G 15 4).toInt ≤ 79)) (hI : xI G) (sz : Nat) : Kv l yX3_finish wsX3_finish 3 82 0 0 D [.ref (a 15)] (xW K a G) (tK K) sz (fun (G' : gS) => (xI G') ∧ (gu_un xcd [1502, 1505, 3200] G G') ∧ ((∃ t, xQ (G 34) (G' 15 4).toInt (G 15 6).toInt (G 15 7).toInt t ∧ 0 ≤ t ∧ t < 1)) ∧ ((sJ 1 (tkr (G 34) ((G 15 4).toInt).toNat) (tkr (G 32) ((G 15 1).toInt).toNat) = (tkr (G 34) ((G' 15 4).toInt).toNat, tkr (G' 32) ((G' 15 1).toInt).toNat))) ∧ (((G' 15 1).toInt + (G' 15 4).toInt = (G 15 1).toInt + (G 15 4).toInt))) (fun (G' : gS) => (xW K a G')) (fun _ => (tK K)) := by
  unfold Kv
  refine g_ofW (cc := cX3_finish) (lv := [(0, .ref (a 15))]) (by decide) rfl (Nat.le_of_ble_eq_true rfl) rfl ?_
  intro p e s m args below meth c A Q hA hQ F hr hnm
  have hts := F.2.2.2.2.1
  refine g_aload_n F 0 dX3_finish_0 rfl rfl ?_
  refine g_iconst F 1 dX3_finish_1 (by decide) ?_
  have b1 : (0 : Int) ≤ (G 15 1).toInt ∧ (G 15 1).toInt ≤ 80 := hI 15 1
  have b2 : (0 : Int) ≤ (G 15 4).toInt ∧ (G 15 4).toInt ≤ 16 := hI 15 4
  refine u_callVv (k := 0) (n := 0) (b := a 15) (As := [.int 1]) (st := []) F (fun sz => S_X3_joinDownTo_15 l D K a G 1 1 rfl (by decide) (jq) (by (first | omega | (simp only [Int32.reduceToInt, true_and, and_true, ne_eq, not_true_eq_false, false_and, or_false, false_or, true_or, or_true, false_implies] <;> omega))) hI sz) (cwV 1 hts gX3_finish_X3_joinDownTo rfl rfl rfl (by decide +kernel) ⟨Nat.le_of_ble_eq_true rfl, Nat.le_of_ble_eq_true rfl⟩) rfl 15 xc_15 rfl (Nat.le_of_ble_eq_true rfl) ⟨Nat.zero_le _, Nat.zero_le _⟩ dX3_finish_2 (fun G5 hw4 => ?_)
  have hI6 : xI G5 := hw4.1
  have hU7 : gu_un xcd [1502, 1505, 3200] G G5 := hw4.2.1
  have hp8 := hw4.2.2
  have b9 : (0 : Int) ≤ (G5 15 4).toInt ∧ (G5 15 4).toInt ≤ 16 := hI6 15 4
  have q10 : (∃ t, xQ (G 34) (G5 15 4).toInt (G 15 6).toInt (G 15 7).toInt t ∧ 0 ≤ t ∧ t < (1 : Int)) := hp8.1
  have b11 : (0 : Int) ≤ (G5 15 1).toInt ∧ (G5 15 1).toInt ≤ 80 := hI6 15 1
  have q12 : (sJ (1 : Int) (tkr (G 34) ((G 15 4).toInt).toNat) (tkr (G 32) ((G 15 1).toInt).toNat) = (tkr (G 34) ((G5 15 4).toInt).toNat, tkr (G5 32) ((G5 15 1).toInt).toNat)) := hp8.2.1
  have q13 : ((G5 15 1).toInt + (G5 15 4).toInt = (G 15 1).toInt + (G 15 4).toInt) := hp8.2.2
  clear hp8 hw4
  exact u_vret F hA hQ hr G5 (⟨hI6, (gu_un.tr gu_un.rf (gu_un.su hU7 rfl)), (q10), (q12), (by show ((G5 15 1).toInt + (G5 15 4).toInt = (G 15 1).toInt + (G 15 4).toInt); (first | omega | (simp only [Int32.reduceToInt, true_and, and_true, ne_eq, not_true_eq_false, false_and, or_false, false_or, true_or, or_true, false_implies] <;> omega)))⟩) rfl rfl dX3_finish_5


set_option maxHeartbeats 4000000 in
set_option maxRecDepth 100000 in
theorem S_X3_takeToken_15_1_L11 (l : Launch) (D : va_G) (K : Nat → ClassId) (a : Nat → Nat) (G : gS) (zf : Nat → Nat) (fi : xFi 15 34 G) (nl : (((G 15 8).toInt = 0 ∧ (G 15 1).toInt + (G 15 4).toInt ≤ 6 * (G 15 5).toInt) ∨ ((G 15 8).toInt ≠ 0 ∧ (G 15 1).toInt + (G 15 4).toInt ≤ 6 * (G 15 5).toInt + 1 + (G 15 6).toInt))) (vl : ((G 1 3).toInt ≠ 1 ∨ (0 ≤ (G 1 5).toInt ∧ (G 1 5).toInt ≤ 255))) (hI : xI G) (sz : Nat) : KiZ (xZ zf) l yX3_takeToken wsX3_takeToken 5 131 D [.ref (a 15), .ref (a 1), .ref (zf 81)] (xW K a G) (tK K) sz (fun (r : Int32) (G' : gS) => (xI G') ∧ (gu_un xcd [1502, 1505, 1506, 1507, 1508, 1509, 3200, 3400] G G') ∧ (0 ≤ r.toInt ∧ r.toInt ≤ 4) ∧ (xFi 15 34 G') ∧ ((sR (sT 1 (G 1 3).toInt (G 1 5).toInt (G 15 8).toInt (tkr (G 34) ((G 15 4).toInt).toNat) (G 15 6).toInt (G 15 7).toInt (G 15 5).toInt (tkr (G 32) ((G 15 1).toInt).toNat)) r.toInt (xS 15 32 34 G'))) ∧ ((((G' 15 8).toInt = 0 ∧ (G' 15 1).toInt + (G' 15 4).toInt ≤ 6 * (G' 15 5).toInt) ∨ ((G' 15 8).toInt ≠ 0 ∧ (G' 15 1).toInt + (G' 15 4).toInt ≤ 6 * (G' 15 5).toInt + 1 + (G' 15 6).toInt))) ∧ ((r.toInt ≠ 0 ∨ (G 1 3).toInt ≠ 0))) (fun (G' : gS) => (xW K a G')) := by
  unfold KiZ
  refine gz_ofW (cc := cX3_takeToken) (lv := [(0, .ref (a 15)), (1, .ref (a 1)), (2, .ref (zf 81))]) (by decide) rfl (Nat.le_of_ble_eq_true rfl) rfl ?_
  intro p e s m args below meth c A Q hA hQ hZ F hr hnm
  have hts := F.2.2.2.2.1
  have w_0 : (Cond.fieldLink RX3 47 "QuietCut$Formula" "wantsOperand" "Z").before args s = true := hts _ (List.mem_of_getElem? (i := 1) rfl)
  have i_X3 : ∀ w ∈ u_ws RX3 TX3 9, w ∈ wsX3_takeToken := fun _ h => List.mem_cons_of_mem _ (List.mem_append_left _ (List.mem_append_right _ h))
  have w_1 : (Cond.fieldLink RX3 68 "QuietCut$Tape" "kind" "I").before args s = true := hts _ (List.mem_of_getElem? (i := 2) rfl)
  have i_X10 : ∀ w ∈ u_ws RX10 TX10 6, w ∈ wsX3_takeToken := fun _ h => List.mem_cons_of_mem _ (List.mem_append_right _ h)
  have w_2 : (Cond.fieldLink RX3 71 "QuietCut$Tape" "value" "I").before args s = true := hts _ (List.mem_of_getElem? (i := 3) rfl)
  have b1 : (0 : Int) ≤ (G 15 1).toInt ∧ (G 15 1).toInt ≤ 80 := hI 15 1
  have b2 : (0 : Int) ≤ (G 15 4).toInt ∧ (G 15 4).toInt ≤ 16 := hI 15 4
  have b3 : (0 : Int) ≤ (G 15 5).toInt ∧ (G 15 5).toInt ≤ 12 := hI 15 5
  have b4 : (0 : Int) ≤ (G 15 8).toInt ∧ (G 15 8).toInt ≤ 1 := hI 15 8
  have b5 : (0 : Int) ≤ (G 1 3).toInt ∧ (G 1 3).toInt ≤ 4 := hI 1 3
  refine g_aload_n F 0 dX3_takeToken_0 rfl rfl ?_
  refine xg_15_8 F i_X3 w_0 dX3_takeToken_1 (G 15 8) (rfl) ?_
  refine v_if_ne F 13 dX3_takeToken_4 (by decide) (G 15 8).toInt rfl (fun c6 => ?_) (fun c6 => ?_)
  · refine g_aload_n F 1 dX3_takeToken_13 rfl rfl ?_
    refine g_bipush F 40 dX3_takeToken_14 (by decide) ?_
    refine u_callVi (k := 0) (n := 0) (b := a 1) (As := [.int 40]) (st := []) F (fun sz => S_X10_isSign l D K a G 40 40 rfl hI sz) (cwV 1 hts gX3_takeToken_X10_isSign rfl rfl rfl (by decide +kernel) ⟨Nat.le_of_ble_eq_true rfl, Nat.le_of_ble_eq_true rfl⟩) rfl 1 xc_1 rfl (Nat.le_of_ble_eq_true rfl) ⟨Nat.zero_le _, Nat.zero_le _⟩ dX3_takeToken_16 (fun r7 _ hw8 => ?_)
    rcases hw8 with ⟨rfl, q10⟩ | ⟨rfl, q11⟩
    · have q10 : ((G 1 3).toInt = 3 ∧ (G 1 5).toInt = (40 : Int)) := q10
      refine v_if_ne F 31 dX3_takeToken_19 (by decide) 1 rfl (fun c12 => ?_) (fun c12 => absurd c12 (by decide))
      refine g_aload_n F 0 dX3_takeToken_31 rfl rfl ?_
      refine g_aload_n F 1 dX3_takeToken_32 rfl rfl ?_
      refine g_bipush F 40 dX3_takeToken_33 (by decide) ?_
      refine u_callVi (k := 0) (n := 0) (b := a 1) (As := [.int 40]) (st := [.ref (a 15)]) F (fun sz => S_X10_isSign l D K a G 40 40 rfl hI sz) (cwV 1 hts gX3_takeToken_X10_isSign rfl rfl rfl (by decide +kernel) ⟨Nat.le_of_ble_eq_true rfl, Nat.le_of_ble_eq_true rfl⟩) rfl 1 xc_1 rfl (Nat.le_of_ble_eq_true rfl) ⟨Nat.zero_le _, Nat.zero_le _⟩ dX3_takeToken_35 (fun r13 _ hw14 => ?_)
      rcases hw14 with ⟨rfl, q16⟩ | ⟨rfl, q17⟩
      · have q16 : ((G 1 3).toInt = 3 ∧ (G 1 5).toInt = (40 : Int)) := q16
        refine v_if_eq F 46 dX3_takeToken_38 (by decide) 1 rfl (fun c18 => absurd c18 (by decide)) (fun c18 => ?_)
        refine g_bipush F 40 dX3_takeToken_41 (by decide) ?_
        refine g_goto F 48 dX3_takeToken_43 (by decide) ?_
        refine u_callVi (k := 0) (n := 0) (b := a 15) (As := [.int 40]) (st := []) F (fun sz => S_X3_takeOpening_15_v40 l D K a G  (fi) (by (first | omega | (simp only [Int32.reduceToInt, true_and, and_true, ne_eq, not_true_eq_false, false_and, or_false, false_or, true_or, or_true, false_implies] <;> omega))) (by (first | omega | (simp only [Int32.reduceToInt, true_and, and_true, ne_eq, not_true_eq_false, false_and, or_false, false_or, true_or, or_true, false_implies] <;> omega))) hI sz) (cwV 1 hts gX3_takeToken_X3_takeOpening rfl rfl rfl (by decide +kernel) ⟨Nat.le_of_ble_eq_true rfl, Nat.le_of_ble_eq_true rfl⟩) rfl 15 xc_15 rfl (Nat.le_of_ble_eq_true rfl) ⟨Nat.zero_le _, Nat.zero_le _⟩ dX3_takeToken_48 (fun r19 G21 hw20 => ?_)
        have hI22 : xI G21 := hw20.1
        have hU23 : gu_un xcd [1505, 1507, 1508, 3400] G G21 := hw20.2.1
        have hp24 := hw20.2.2
        have q25 : xFi 15 34 G21 := hp24.2.1
        have q26 : (∀ ls : Int, sR (sT ls 3 40 (G 15 8).toInt (tkr (G 34) ((G 15 4).toInt).toNat) (G 15 6).toInt (G 15 7).toInt (G 15 5).toInt (tkr (G 32) ((G 15 1).toInt).toNat)) r19.toInt (xS 15 32 34 G21)) := hp24.2.2.1
        have b27 : (0 : Int) ≤ (G21 15 4).toInt ∧ (G21 15 4).toInt ≤ 16 := hI22 15 4
        have q28 : (((G 15 8).toInt = 0 ∧ (G 15 1).toInt + (G21 15 4).toInt ≤ 6 * (G 15 5).toInt) ∨ ((G 15 8).toInt ≠ 0 ∧ (G 15 1).toInt + (G21 15 4).toInt ≤ 6 * (G 15 5).toInt + 1 + (G21 15 6).toInt)) := by have h9 := hp24.2.2.2; (try simp only [(show G21 15 8 = (G 15 8) from hU23 15 8 (by decide)), (show G21 15 1 = (G 15 1) from hU23 15 1 (by decide)), (show G21 15 5 = (G 15 5) from hU23 15 5 (by decide)), (show G21 15 8 = (G 15 8) from hU23 15 8 (by decide)), (show G21 15 1 = (G 15 1) from hU23 15 1 (by decide)), (show G21 15 5 = (G 15 5) from hU23 15 5 (by decide))] at h9); first | exact h9 | omega
        have rg29 := hp24.1
        clear hp24 hw20
        exact u_iret F hA hQ hr G21 (⟨hI22, (gu_un.tr gu_un.rf (gu_un.su hU23 rfl)), (by have h9 := ti_rng r19; omega), (q25), (by first | (rw [show (G 1 3).toInt = 3 by omega, show (G 1 5).toInt = 40 by omega]; exact q26 1) | (rw [show (G 1 3).toInt = 3 by omega, show (G 1 5).toInt = 45 by omega]; exact q26 1)), (by show (((G21 15 8).toInt = 0 ∧ (G21 15 1).toInt + (G21 15 4).toInt ≤ 6 * (G21 15 5).toInt) ∨ ((G21 15 8).toInt ≠ 0 ∧ (G21 15 1).toInt + (G21 15 4).toInt ≤ 6 * (G21 15 5).toInt + 1 + (G21 15 6).toInt)); have e9_15_1 : G21 15 1 = (G 15 1) := hU23 15 1 (by decide); have e9_15_5 : G21 15 5 = (G 15 5) := hU23 15 5 (by decide); have e9_15_8 : G21 15 8 = (G 15 8) := hU23 15 8 (by decide); (try simp only [e9_15_1, e9_15_5, e9_15_8, true_and, and_true]) <;> (first | omega | (simp only [Int32.reduceToInt, true_and, and_true, ne_eq, not_true_eq_false, false_and, or_false, false_or, true_or, or_true, false_implies] <;> omega))), (by show (r19.toInt ≠ 0 ∨ (G 1 3).toInt ≠ 0); (first | omega | (simp only [Int32.reduceToInt, true_and, and_true, ne_eq, not_true_eq_false, false_and, or_false, false_or, true_or, or_true, false_implies] <;> omega)))⟩) rfl rfl dX3_takeToken_51
      · have q17 : ((G 1 3).toInt ≠ 3 ∨ (G 1 5).toInt ≠ (40 : Int)) := q17
        refine v_if_eq F 46 dX3_takeToken_38 (by decide) 0 rfl (fun c30 => ?_) (fun c30 => absurd c30 (by decide))
        refine g_bipush F (-3) dX3_takeToken_46 (by decide) ?_
        refine u_callVi (k := 0) (n := 0) (b := a 15) (As := [.int (-3)]) (st := []) F (fun sz => S_X3_takeOpening_15_m3 l D K a G  (fi) (by (first | omega | (simp only [Int32.reduceToInt, true_and, and_true, ne_eq, not_true_eq_false, false_and, or_false, false_or, true_or, or_true, false_implies] <;> omega))) (by (first | omega | (simp only [Int32.reduceToInt, true_and, and_true, ne_eq, not_true_eq_false, false_and, or_false, false_or, true_or, or_true, false_implies] <;> omega))) hI sz) (cwV 1 hts gX3_takeToken_X3_takeOpening rfl rfl rfl (by decide +kernel) ⟨Nat.le_of_ble_eq_true rfl, Nat.le_of_ble_eq_true rfl⟩) rfl 15 xc_15 rfl (Nat.le_of_ble_eq_true rfl) ⟨Nat.zero_le _, Nat.zero_le _⟩ dX3_takeToken_48 (fun r31 G33 hw32 => ?_)
        have hI34 : xI G33 := hw32.1
        have hU35 : gu_un xcd [1505, 1507, 3400] G G33 := hw32.2.1
        have hp36 := hw32.2.2
        have q37 : xFi 15 34 G33 := hp36.2.1
        have q38 : (∀ ls : Int, sR (sT ls 3 45 (G 15 8).toInt (tkr (G 34) ((G 15 4).toInt).toNat) (G 15 6).toInt (G 15 7).toInt (G 15 5).toInt (tkr (G 32) ((G 15 1).toInt).toNat)) r31.toInt (xS 15 32 34 G33)) := hp36.2.2.1
        have b39 : (0 : Int) ≤ (G33 15 4).toInt ∧ (G33 15 4).toInt ≤ 16 := hI34 15 4
        have q40 : (((G 15 8).toInt = 0 ∧ (G 15 1).toInt + (G33 15 4).toInt ≤ 6 * (G 15 5).toInt) ∨ ((G 15 8).toInt ≠ 0 ∧ (G 15 1).toInt + (G33 15 4).toInt ≤ 6 * (G 15 5).toInt + 1 + (G33 15 6).toInt)) := by have h9 := hp36.2.2.2; (try simp only [(show G33 15 8 = (G 15 8) from hU35 15 8 (by decide)), (show G33 15 1 = (G 15 1) from hU35 15 1 (by decide)), (show G33 15 5 = (G 15 5) from hU35 15 5 (by decide)), (show G33 15 8 = (G 15 8) from hU35 15 8 (by decide)), (show G33 15 1 = (G 15 1) from hU35 15 1 (by decide)), (show G33 15 5 = (G 15 5) from hU35 15 5 (by decide))] at h9); first | exact h9 | omega
        have rg41 := hp36.1
        clear hp36 hw32
        exact u_iret F hA hQ hr G33 (⟨hI34, (gu_un.tr gu_un.rf (gu_un.su hU35 rfl)), (by have h9 := ti_rng r31; omega), (q37), (by first | (rw [show (G 1 3).toInt = 3 by omega, show (G 1 5).toInt = 40 by omega]; exact q38 1) | (rw [show (G 1 3).toInt = 3 by omega, show (G 1 5).toInt = 45 by omega]; exact q38 1)), (by show (((G33 15 8).toInt = 0 ∧ (G33 15 1).toInt + (G33 15 4).toInt ≤ 6 * (G33 15 5).toInt) ∨ ((G33 15 8).toInt ≠ 0 ∧ (G33 15 1).toInt + (G33 15 4).toInt ≤ 6 * (G33 15 5).toInt + 1 + (G33 15 6).toInt)); have e9_15_1 : G33 15 1 = (G 15 1) := hU35 15 1 (by decide); have e9_15_5 : G33 15 5 = (G 15 5) := hU35 15 5 (by decide); have e9_15_8 : G33 15 8 = (G 15 8) := hU35 15 8 (by decide); (try simp only [e9_15_1, e9_15_5, e9_15_8, true_and, and_true]) <;> (first | omega | (simp only [Int32.reduceToInt, true_and, and_true, ne_eq, not_true_eq_false, false_and, or_false, false_or, true_or, or_true, false_implies] <;> omega))), (by show (r31.toInt ≠ 0 ∨ (G 1 3).toInt ≠ 0); (first | omega | (simp only [Int32.reduceToInt, true_and, and_true, ne_eq, not_true_eq_false, false_and, or_false, false_or, true_or, or_true, false_implies] <;> omega)))⟩) rfl rfl dX3_takeToken_51
    · have q11 : ((G 1 3).toInt ≠ 3 ∨ (G 1 5).toInt ≠ (40 : Int)) := q11
      refine v_if_ne F 31 dX3_takeToken_19 (by decide) 0 rfl (fun c42 => absurd c42 (by decide)) (fun c42 => ?_)
      refine g_aload_n F 1 dX3_takeToken_22 rfl rfl ?_
      refine g_bipush F 45 dX3_takeToken_23 (by decide) ?_
      refine u_callVi (k := 0) (n := 0) (b := a 1) (As := [.int 45]) (st := []) F (fun sz => S_X10_isSign l D K a G 45 45 rfl hI sz) (cwV 1 hts gX3_takeToken_X10_isSign rfl rfl rfl (by decide +kernel) ⟨Nat.le_of_ble_eq_true rfl, Nat.le_of_ble_eq_true rfl⟩) rfl 1 xc_1 rfl (Nat.le_of_ble_eq_true rfl) ⟨Nat.zero_le _, Nat.zero_le _⟩ dX3_takeToken_25 (fun r43 _ hw44 => ?_)
      rcases hw44 with ⟨rfl, q46⟩ | ⟨rfl, q47⟩
      · have q46 : ((G 1 3).toInt = 3 ∧ (G 1 5).toInt = (45 : Int)) := q46
        refine v_if_eq F 52 dX3_takeToken_28 (by decide) 1 rfl (fun c48 => absurd c48 (by decide)) (fun c48 => ?_)
        refine g_aload_n F 0 dX3_takeToken_31 rfl rfl ?_
        refine g_aload_n F 1 dX3_takeToken_32 rfl rfl ?_
        refine g_bipush F 40 dX3_takeToken_33 (by decide) ?_
        refine u_callVi (k := 0) (n := 0) (b := a 1) (As := [.int 40]) (st := [.ref (a 15)]) F (fun sz => S_X10_isSign l D K a G 40 40 rfl hI sz) (cwV 1 hts gX3_takeToken_X10_isSign rfl rfl rfl (by decide +kernel) ⟨Nat.le_of_ble_eq_true rfl, Nat.le_of_ble_eq_true rfl⟩) rfl 1 xc_1 rfl (Nat.le_of_ble_eq_true rfl) ⟨Nat.zero_le _, Nat.zero_le _⟩ dX3_takeToken_35 (fun r49 _ hw50 => ?_)
        rcases hw50 with ⟨rfl, q52⟩ | ⟨rfl, q53⟩
        · have q52 : ((G 1 3).toInt = 3 ∧ (G 1 5).toInt = (40 : Int)) := q52
          refine v_if_eq F 46 dX3_takeToken_38 (by decide) 1 rfl (fun c54 => absurd c54 (by decide)) (fun c54 => ?_)
          refine g_bipush F 40 dX3_takeToken_41 (by decide) ?_
          refine g_goto F 48 dX3_takeToken_43 (by decide) ?_
          refine u_callVi (k := 0) (n := 0) (b := a 15) (As := [.int 40]) (st := []) F (fun sz => S_X3_takeOpening_15_v40 l D K a G  (fi) (by (first | omega | (simp only [Int32.reduceToInt, true_and, and_true, ne_eq, not_true_eq_false, false_and, or_false, false_or, true_or, or_true, false_implies] <;> omega))) (by (first | omega | (simp only [Int32.reduceToInt, true_and, and_true, ne_eq, not_true_eq_false, false_and, or_false, false_or, true_or, or_true, false_implies] <;> omega))) hI sz) (cwV 1 hts gX3_takeToken_X3_takeOpening rfl rfl rfl (by decide +kernel) ⟨Nat.le_of_ble_eq_true rfl, Nat.le_of_ble_eq_true rfl⟩) rfl 15 xc_15 rfl (Nat.le_of_ble_eq_true rfl) ⟨Nat.zero_le _, Nat.zero_le _⟩ dX3_takeToken_48 (fun r55 G57 hw56 => ?_)
          have hI58 : xI G57 := hw56.1
          have hU59 : gu_un xcd [1505, 1507, 1508, 3400] G G57 := hw56.2.1
          have hp60 := hw56.2.2
          have q61 : xFi 15 34 G57 := hp60.2.1
          have q62 : (∀ ls : Int, sR (sT ls 3 40 (G 15 8).toInt (tkr (G 34) ((G 15 4).toInt).toNat) (G 15 6).toInt (G 15 7).toInt (G 15 5).toInt (tkr (G 32) ((G 15 1).toInt).toNat)) r55.toInt (xS 15 32 34 G57)) := hp60.2.2.1
          have b63 : (0 : Int) ≤ (G57 15 4).toInt ∧ (G57 15 4).toInt ≤ 16 := hI58 15 4
          have q64 : (((G 15 8).toInt = 0 ∧ (G 15 1).toInt + (G57 15 4).toInt ≤ 6 * (G 15 5).toInt) ∨ ((G 15 8).toInt ≠ 0 ∧ (G 15 1).toInt + (G57 15 4).toInt ≤ 6 * (G 15 5).toInt + 1 + (G57 15 6).toInt)) := by have h9 := hp60.2.2.2; (try simp only [(show G57 15 8 = (G 15 8) from hU59 15 8 (by decide)), (show G57 15 1 = (G 15 1) from hU59 15 1 (by decide)), (show G57 15 5 = (G 15 5) from hU59 15 5 (by decide)), (show G57 15 8 = (G 15 8) from hU59 15 8 (by decide)), (show G57 15 1 = (G 15 1) from hU59 15 1 (by decide)), (show G57 15 5 = (G 15 5) from hU59 15 5 (by decide))] at h9); first | exact h9 | omega
          have rg65 := hp60.1
          clear hp60 hw56
          exact u_iret F hA hQ hr G57 (⟨hI58, (gu_un.tr gu_un.rf (gu_un.su hU59 rfl)), (by have h9 := ti_rng r55; omega), (q61), (by first | (rw [show (G 1 3).toInt = 3 by omega, show (G 1 5).toInt = 40 by omega]; exact q62 1) | (rw [show (G 1 3).toInt = 3 by omega, show (G 1 5).toInt = 45 by omega]; exact q62 1)), (by show (((G57 15 8).toInt = 0 ∧ (G57 15 1).toInt + (G57 15 4).toInt ≤ 6 * (G57 15 5).toInt) ∨ ((G57 15 8).toInt ≠ 0 ∧ (G57 15 1).toInt + (G57 15 4).toInt ≤ 6 * (G57 15 5).toInt + 1 + (G57 15 6).toInt)); have e9_15_1 : G57 15 1 = (G 15 1) := hU59 15 1 (by decide); have e9_15_5 : G57 15 5 = (G 15 5) := hU59 15 5 (by decide); have e9_15_8 : G57 15 8 = (G 15 8) := hU59 15 8 (by decide); (try simp only [e9_15_1, e9_15_5, e9_15_8, true_and, and_true]) <;> (first | omega | (simp only [Int32.reduceToInt, true_and, and_true, ne_eq, not_true_eq_false, false_and, or_false, false_or, true_or, or_true, false_implies] <;> omega))), (by show (r55.toInt ≠ 0 ∨ (G 1 3).toInt ≠ 0); (first | omega | (simp only [Int32.reduceToInt, true_and, and_true, ne_eq, not_true_eq_false, false_and, or_false, false_or, true_or, or_true, false_implies] <;> omega)))⟩) rfl rfl dX3_takeToken_51
        · have q53 : ((G 1 3).toInt ≠ 3 ∨ (G 1 5).toInt ≠ (40 : Int)) := q53
          refine v_if_eq F 46 dX3_takeToken_38 (by decide) 0 rfl (fun c66 => ?_) (fun c66 => absurd c66 (by decide))
          refine g_bipush F (-3) dX3_takeToken_46 (by decide) ?_
          refine u_callVi (k := 0) (n := 0) (b := a 15) (As := [.int (-3)]) (st := []) F (fun sz => S_X3_takeOpening_15_m3 l D K a G  (fi) (by (first | omega | (simp only [Int32.reduceToInt, true_and, and_true, ne_eq, not_true_eq_false, false_and, or_false, false_or, true_or, or_true, false_implies] <;> omega))) (by (first | omega | (simp only [Int32.reduceToInt, true_and, and_true, ne_eq, not_true_eq_false, false_and, or_false, false_or, true_or, or_true, false_implies] <;> omega))) hI sz) (cwV 1 hts gX3_takeToken_X3_takeOpening rfl rfl rfl (by decide +kernel) ⟨Nat.le_of_ble_eq_true rfl, Nat.le_of_ble_eq_true rfl⟩) rfl 15 xc_15 rfl (Nat.le_of_ble_eq_true rfl) ⟨Nat.zero_le _, Nat.zero_le _⟩ dX3_takeToken_48 (fun r67 G69 hw68 => ?_)
          have hI70 : xI G69 := hw68.1
          have hU71 : gu_un xcd [1505, 1507, 3400] G G69 := hw68.2.1
          have hp72 := hw68.2.2
          have q73 : xFi 15 34 G69 := hp72.2.1
          have q74 : (∀ ls : Int, sR (sT ls 3 45 (G 15 8).toInt (tkr (G 34) ((G 15 4).toInt).toNat) (G 15 6).toInt (G 15 7).toInt (G 15 5).toInt (tkr (G 32) ((G 15 1).toInt).toNat)) r67.toInt (xS 15 32 34 G69)) := hp72.2.2.1
          have b75 : (0 : Int) ≤ (G69 15 4).toInt ∧ (G69 15 4).toInt ≤ 16 := hI70 15 4
          have q76 : (((G 15 8).toInt = 0 ∧ (G 15 1).toInt + (G69 15 4).toInt ≤ 6 * (G 15 5).toInt) ∨ ((G 15 8).toInt ≠ 0 ∧ (G 15 1).toInt + (G69 15 4).toInt ≤ 6 * (G 15 5).toInt + 1 + (G69 15 6).toInt)) := by have h9 := hp72.2.2.2; (try simp only [(show G69 15 8 = (G 15 8) from hU71 15 8 (by decide)), (show G69 15 1 = (G 15 1) from hU71 15 1 (by decide)), (show G69 15 5 = (G 15 5) from hU71 15 5 (by decide)), (show G69 15 8 = (G 15 8) from hU71 15 8 (by decide)), (show G69 15 1 = (G 15 1) from hU71 15 1 (by decide)), (show G69 15 5 = (G 15 5) from hU71 15 5 (by decide))] at h9); first | exact h9 | omega
          have rg77 := hp72.1
          clear hp72 hw68
          exact u_iret F hA hQ hr G69 (⟨hI70, (gu_un.tr gu_un.rf (gu_un.su hU71 rfl)), (by have h9 := ti_rng r67; omega), (q73), (by first | (rw [show (G 1 3).toInt = 3 by omega, show (G 1 5).toInt = 40 by omega]; exact q74 1) | (rw [show (G 1 3).toInt = 3 by omega, show (G 1 5).toInt = 45 by omega]; exact q74 1)), (by show (((G69 15 8).toInt = 0 ∧ (G69 15 1).toInt + (G69 15 4).toInt ≤ 6 * (G69 15 5).toInt) ∨ ((G69 15 8).toInt ≠ 0 ∧ (G69 15 1).toInt + (G69 15 4).toInt ≤ 6 * (G69 15 5).toInt + 1 + (G69 15 6).toInt)); have e9_15_1 : G69 15 1 = (G 15 1) := hU71 15 1 (by decide); have e9_15_5 : G69 15 5 = (G 15 5) := hU71 15 5 (by decide); have e9_15_8 : G69 15 8 = (G 15 8) := hU71 15 8 (by decide); (try simp only [e9_15_1, e9_15_5, e9_15_8, true_and, and_true]) <;> (first | omega | (simp only [Int32.reduceToInt, true_and, and_true, ne_eq, not_true_eq_false, false_and, or_false, false_or, true_or, or_true, false_implies] <;> omega))), (by show (r67.toInt ≠ 0 ∨ (G 1 3).toInt ≠ 0); (first | omega | (simp only [Int32.reduceToInt, true_and, and_true, ne_eq, not_true_eq_false, false_and, or_false, false_or, true_or, or_true, false_implies] <;> omega)))⟩) rfl rfl dX3_takeToken_51
      · have q47 : ((G 1 3).toInt ≠ 3 ∨ (G 1 5).toInt ≠ (45 : Int)) := q47
        refine v_if_eq F 52 dX3_takeToken_28 (by decide) 0 rfl (fun c78 => ?_) (fun c78 => absurd c78 (by decide))
        refine g_aload_n F 1 dX3_takeToken_52 rfl rfl ?_
        refine xg_1_3 F i_X10 w_1 dX3_takeToken_53 (G 1 3) (rfl) ?_
        refine g_iconst F 2 dX3_takeToken_56 (by decide) ?_
        refine v_icmp_ne F 69 dX3_takeToken_57 (by decide) (G 1 3).toInt 2 rfl rfl (fun c79 => ?_) (fun c79 => ?_)
        · refine g_aload_n F 1 dX3_takeToken_69 rfl rfl ?_
          refine xg_1_3 F i_X10 w_1 dX3_takeToken_70 (G 1 3) (rfl) ?_
          refine g_iconst F 1 dX3_takeToken_73 (by decide) ?_
          refine v_icmp_ne F 96 dX3_takeToken_74 (by decide) (G 1 3).toInt 1 rfl rfl (fun c80 => ?_) (fun c80 => ?_)
          · refine g_iconst F (-1) dX3_takeToken_96 (by decide) ?_
            refine g_istore_n F [(3, .int (-1)), (0, .ref (a 15)), (1, .ref (a 1)), (2, .ref (zf 81))] dX3_takeToken_97 rfl (by decide) rfl ?_
            refine g_iload_n F 0 dX3_takeToken_98 rfl rfl ?_
            refine v_if_ge F 104 dX3_takeToken_99 (by decide) (-1) rfl (fun c81 => absurd c81 (by decide)) (fun c81 => ?_)
            refine g_iconst F 1 dX3_takeToken_102 (by decide) ?_
            exact u_iret F hA hQ hr G (⟨hI, gu_un.rf, (by decide), (fi), ((sT_none (by omega) (by omega) (by omega) (by omega) (fun h9 => by first | (exfalso; omega) | (rw [show (G 1 5).toInt = 0 by omega]; decide) | (omega))).cast (by decide)), (by show (((G 15 8).toInt = 0 ∧ (G 15 1).toInt + (G 15 4).toInt ≤ 6 * (G 15 5).toInt) ∨ ((G 15 8).toInt ≠ 0 ∧ (G 15 1).toInt + (G 15 4).toInt ≤ 6 * (G 15 5).toInt + 1 + (G 15 6).toInt)); (first | omega | (simp only [Int32.reduceToInt, true_and, and_true, ne_eq, not_true_eq_false, false_and, or_false, false_or, true_or, or_true, false_implies] <;> omega))), (by show (1 ≠ 0 ∨ (G 1 3).toInt ≠ 0); (first | omega | (simp only [Int32.reduceToInt, true_and, and_true, ne_eq, not_true_eq_false, false_and, or_false, false_or, true_or, or_true, false_implies] <;> omega)))⟩) rfl rfl dX3_takeToken_103
          · refine g_aload_n F 1 dX3_takeToken_77 rfl rfl ?_
            refine xg_1_5 F i_X10 w_2 dX3_takeToken_78 (G 1 5) (rfl) ?_
            refine v_if_eq F 96 dX3_takeToken_81 (by decide) (G 1 5).toInt rfl (fun c82 => ?_) (fun c82 => ?_)
            · refine g_iconst F (-1) dX3_takeToken_96 (by decide) ?_
              refine g_istore_n F [(3, .int (-1)), (0, .ref (a 15)), (1, .ref (a 1)), (2, .ref (zf 81))] dX3_takeToken_97 rfl (by decide) rfl ?_
              refine g_iload_n F 0 dX3_takeToken_98 rfl rfl ?_
              refine v_if_ge F 104 dX3_takeToken_99 (by decide) (-1) rfl (fun c83 => absurd c83 (by decide)) (fun c83 => ?_)
              refine g_iconst F 1 dX3_takeToken_102 (by decide) ?_
              exact u_iret F hA hQ hr G (⟨hI, gu_un.rf, (by decide), (fi), ((sT_none (by omega) (by omega) (by omega) (by omega) (fun h9 => by first | (exfalso; omega) | (rw [show (G 1 5).toInt = 0 by omega]; decide) | (omega))).cast (by decide)), (by show (((G 15 8).toInt = 0 ∧ (G 15 1).toInt + (G 15 4).toInt ≤ 6 * (G 15 5).toInt) ∨ ((G 15 8).toInt ≠ 0 ∧ (G 15 1).toInt + (G 15 4).toInt ≤ 6 * (G 15 5).toInt + 1 + (G 15 6).toInt)); (first | omega | (simp only [Int32.reduceToInt, true_and, and_true, ne_eq, not_true_eq_false, false_and, or_false, false_or, true_or, or_true, false_implies] <;> omega))), (by show (1 ≠ 0 ∨ (G 1 3).toInt ≠ 0); (first | omega | (simp only [Int32.reduceToInt, true_and, and_true, ne_eq, not_true_eq_false, false_and, or_false, false_or, true_or, or_true, false_implies] <;> omega)))⟩) rfl rfl dX3_takeToken_103
            · refine g_aload_n F 2 dX3_takeToken_84 rfl rfl ?_
              refine g_aload_n F 1 dX3_takeToken_85 rfl rfl ?_
              refine xg_1_5 F i_X10 w_2 dX3_takeToken_86 (G 1 5) (rfl) ?_
              refine uz_i2c F dX3_takeToken_89 (G 1 5).toInt rfl (by omega) (by omega) ?_
              refine uz_call0Vi (k := 0) (n := 0) (b := (zf 81)) (As := [.int (G 1 5)]) (st := []) F zS_st (hZ.2.2.2.2.2 11 (by decide)).2.2.2.2.2.2.2.2 (fun sz => S_J0_indexOf_0f7a4 l D (zf 81) (zf 101) _ _ (by decide) (G 1 5) (G 1 5).toInt rfl sz) (cwV 1 hts gX3_takeToken_J0_indexOf_0f7a4 rfl rfl rfl (by decide +kernel) ⟨Nat.le_of_ble_eq_true rfl, Nat.le_of_ble_eq_true rfl⟩) (hZ.2.2.2.2.2 11 (by decide)).2.2.2.2.2.2.2.2.1 rfl (Nat.le_of_ble_eq_true rfl) ⟨Nat.zero_le _, Nat.zero_le _⟩ dX3_takeToken_90 (fun r84 _ hw85 => ?_)
              have hz86 := hw85.2
              have hw85 := hw85.1
              refine g_goto F 97 dX3_takeToken_93 (by decide) ?_
              refine g_istore_n F [(3, .int r84), (0, .ref (a 15)), (1, .ref (a 1)), (2, .ref (zf 81))] dX3_takeToken_97 rfl (by decide) rfl ?_
              refine g_iload_n F 0 dX3_takeToken_98 rfl rfl ?_
              refine v_if_ge F 104 dX3_takeToken_99 (by decide) r84.toInt rfl (fun c87 => ?_) (fun c87 => ?_)
              · refine g_aload_n F 1 dX3_takeToken_104 rfl rfl ?_
                refine g_iload_n F 0 dX3_takeToken_105 rfl rfl ?_
                refine v_if_ne F 113 dX3_takeToken_106 (by decide) r84.toInt rfl (fun c88 => ?_) (fun c88 => ?_)
                · refine g_bipush F (-2) dX3_takeToken_113 (by decide) ?_
                  refine u_callVi (k := 0) (n := 0) (b := a 15) (As := [.int (-2)]) (st := []) F (fun sz => S_X3_takeOperand_15 l D K a G (-2) (-2) rfl (fi) (by (first | omega | (simp only [Int32.reduceToInt, true_and, and_true, ne_eq, not_true_eq_false, false_and, or_false, false_or, true_or, or_true, false_implies] <;> omega))) (by (first | omega | (simp only [Int32.reduceToInt, true_and, and_true, ne_eq, not_true_eq_false, false_and, or_false, false_or, true_or, or_true, false_implies] <;> omega))) hI sz) (cwV 1 hts gX3_takeToken_X3_takeOperand rfl rfl rfl (by decide +kernel) ⟨Nat.le_of_ble_eq_true rfl, Nat.le_of_ble_eq_true rfl⟩) rfl 15 xc_15 rfl (Nat.le_of_ble_eq_true rfl) ⟨Nat.zero_le _, Nat.zero_le _⟩ dX3_takeToken_115 (fun r89 G91 hw90 => ?_)
                  have hI92 : xI G91 := hw90.1
                  have hU93 : gu_un xcd [1502, 1505, 1506, 1507, 1509, 3200] G G91 := hw90.2.1
                  have hp94 := hw90.2.2
                  have q95 : xFi 15 34 G91 := hp94.2.1
                  have q96 : (sR (sOp (-2 : Int) (tkr (G 34) ((G 15 4).toInt).toNat) (G 15 6).toInt (G 15 7).toInt (G 15 5).toInt (tkr (G 32) ((G 15 1).toInt).toNat)) r89.toInt (xS 15 32 34 G91)) := hp94.2.2.1
                  have b97 : (0 : Int) ≤ (G91 15 8).toInt ∧ (G91 15 8).toInt ≤ 1 := hI92 15 8
                  have b98 : (0 : Int) ≤ (G91 15 1).toInt ∧ (G91 15 1).toInt ≤ 80 := hI92 15 1
                  have b99 : (0 : Int) ≤ (G91 15 4).toInt ∧ (G91 15 4).toInt ≤ 16 := hI92 15 4
                  have b100 : (0 : Int) ≤ (G91 15 5).toInt ∧ (G91 15 5).toInt ≤ 12 := hI92 15 5
                  have q101 : (((G91 15 8).toInt = 0 ∧ (G91 15 1).toInt + (G91 15 4).toInt ≤ 6 * (G91 15 5).toInt) ∨ ((G91 15 8).toInt ≠ 0 ∧ (G91 15 1).toInt + (G91 15 4).toInt ≤ 6 * (G91 15 5).toInt + 1 + (G91 15 6).toInt)) := hp94.2.2.2
                  have rg102 := hp94.1
                  clear hp94 hw90
                  exact u_iret F hA hQ hr G91 (⟨hI92, (gu_un.tr gu_un.rf (gu_un.su hU93 rfl)), (by have h9 := ti_rng r89; omega), (q95), (by have h8 := zIx_li (ls := 1) (hz86 (by omega)) rfl (by omega) (by omega) (Or.inr (Or.inl ⟨rfl, rfl, rfl, rfl⟩)); have h7 := sLi_rng (ls := 1) (v := (G 1 5).toInt); first | (exfalso; omega) | (rw [sT_let (li := r84.toInt) (by omega) (by omega) (by omega) (by omega), show -1 - r84.toInt = -1 by omega]; exact q96) | (rw [sT_let (li := r84.toInt) (by omega) (by omega) (by omega) (by omega), show -1 - r84.toInt = -2 by omega]; exact q96)), (by show (((G91 15 8).toInt = 0 ∧ (G91 15 1).toInt + (G91 15 4).toInt ≤ 6 * (G91 15 5).toInt) ∨ ((G91 15 8).toInt ≠ 0 ∧ (G91 15 1).toInt + (G91 15 4).toInt ≤ 6 * (G91 15 5).toInt + 1 + (G91 15 6).toInt)); (first | omega | (simp only [Int32.reduceToInt, true_and, and_true, ne_eq, not_true_eq_false, false_and, or_false, false_or, true_or, or_true, false_implies] <;> omega))), (by show (r89.toInt ≠ 0 ∨ (G 1 3).toInt ≠ 0); (first | omega | (simp only [Int32.reduceToInt, true_and, and_true, ne_eq, not_true_eq_false, false_and, or_false, false_or, true_or, or_true, false_implies] <;> omega)))⟩) rfl rfl dX3_takeToken_118
                · refine g_iconst F (-1) dX3_takeToken_109 (by decide) ?_
                  refine g_goto F 115 dX3_takeToken_110 (by decide) ?_
                  refine u_callVi (k := 0) (n := 0) (b := a 15) (As := [.int (-1)]) (st := []) F (fun sz => S_X3_takeOperand_15 l D K a G (-1) (-1) rfl (fi) (by (first | omega | (simp only [Int32.reduceToInt, true_and, and_true, ne_eq, not_true_eq_false, false_and, or_false, false_or, true_or, or_true, false_implies] <;> omega))) (by (first | omega | (simp only [Int32.reduceToInt, true_and, and_true, ne_eq, not_true_eq_false, false_and, or_false, false_or, true_or, or_true, false_implies] <;> omega))) hI sz) (cwV 1 hts gX3_takeToken_X3_takeOperand rfl rfl rfl (by decide +kernel) ⟨Nat.le_of_ble_eq_true rfl, Nat.le_of_ble_eq_true rfl⟩) rfl 15 xc_15 rfl (Nat.le_of_ble_eq_true rfl) ⟨Nat.zero_le _, Nat.zero_le _⟩ dX3_takeToken_115 (fun r103 G105 hw104 => ?_)
                  have hI106 : xI G105 := hw104.1
                  have hU107 : gu_un xcd [1502, 1505, 1506, 1507, 1509, 3200] G G105 := hw104.2.1
                  have hp108 := hw104.2.2
                  have q109 : xFi 15 34 G105 := hp108.2.1
                  have q110 : (sR (sOp (-1 : Int) (tkr (G 34) ((G 15 4).toInt).toNat) (G 15 6).toInt (G 15 7).toInt (G 15 5).toInt (tkr (G 32) ((G 15 1).toInt).toNat)) r103.toInt (xS 15 32 34 G105)) := hp108.2.2.1
                  have b111 : (0 : Int) ≤ (G105 15 8).toInt ∧ (G105 15 8).toInt ≤ 1 := hI106 15 8
                  have b112 : (0 : Int) ≤ (G105 15 1).toInt ∧ (G105 15 1).toInt ≤ 80 := hI106 15 1
                  have b113 : (0 : Int) ≤ (G105 15 4).toInt ∧ (G105 15 4).toInt ≤ 16 := hI106 15 4
                  have b114 : (0 : Int) ≤ (G105 15 5).toInt ∧ (G105 15 5).toInt ≤ 12 := hI106 15 5
                  have q115 : (((G105 15 8).toInt = 0 ∧ (G105 15 1).toInt + (G105 15 4).toInt ≤ 6 * (G105 15 5).toInt) ∨ ((G105 15 8).toInt ≠ 0 ∧ (G105 15 1).toInt + (G105 15 4).toInt ≤ 6 * (G105 15 5).toInt + 1 + (G105 15 6).toInt)) := hp108.2.2.2
                  have rg116 := hp108.1
                  clear hp108 hw104
                  exact u_iret F hA hQ hr G105 (⟨hI106, (gu_un.tr gu_un.rf (gu_un.su hU107 rfl)), (by have h9 := ti_rng r103; omega), (q109), (by have h8 := zIx_li (ls := 1) (hz86 (by omega)) rfl (by omega) (by omega) (Or.inr (Or.inl ⟨rfl, rfl, rfl, rfl⟩)); have h7 := sLi_rng (ls := 1) (v := (G 1 5).toInt); first | (exfalso; omega) | (rw [sT_let (li := r84.toInt) (by omega) (by omega) (by omega) (by omega), show -1 - r84.toInt = -1 by omega]; exact q110) | (rw [sT_let (li := r84.toInt) (by omega) (by omega) (by omega) (by omega), show -1 - r84.toInt = -2 by omega]; exact q110)), (by show (((G105 15 8).toInt = 0 ∧ (G105 15 1).toInt + (G105 15 4).toInt ≤ 6 * (G105 15 5).toInt) ∨ ((G105 15 8).toInt ≠ 0 ∧ (G105 15 1).toInt + (G105 15 4).toInt ≤ 6 * (G105 15 5).toInt + 1 + (G105 15 6).toInt)); (first | omega | (simp only [Int32.reduceToInt, true_and, and_true, ne_eq, not_true_eq_false, false_and, or_false, false_or, true_or, or_true, false_implies] <;> omega))), (by show (r103.toInt ≠ 0 ∨ (G 1 3).toInt ≠ 0); (first | omega | (simp only [Int32.reduceToInt, true_and, and_true, ne_eq, not_true_eq_false, false_and, or_false, false_or, true_or, or_true, false_implies] <;> omega)))⟩) rfl rfl dX3_takeToken_118
              · refine g_iconst F 1 dX3_takeToken_102 (by decide) ?_
                exact u_iret F hA hQ hr G (⟨hI, gu_un.rf, (by decide), (fi), ((sT_none (by omega) (by omega) (by omega) (by omega) (fun h9 => by first | (exfalso; omega) | (rw [show (G 1 5).toInt = 0 by omega]; decide) | (have h8 := zIx_li (ls := 1) (hz86 (by omega)) rfl (by omega) (by omega) (Or.inr (Or.inl ⟨rfl, rfl, rfl, rfl⟩)); have h7 := sLi_rng (ls := 1) (v := (G 1 5).toInt); omega))).cast (by decide)), (by show (((G 15 8).toInt = 0 ∧ (G 15 1).toInt + (G 15 4).toInt ≤ 6 * (G 15 5).toInt) ∨ ((G 15 8).toInt ≠ 0 ∧ (G 15 1).toInt + (G 15 4).toInt ≤ 6 * (G 15 5).toInt + 1 + (G 15 6).toInt)); (first | omega | (simp only [Int32.reduceToInt, true_and, and_true, ne_eq, not_true_eq_false, false_and, or_false, false_or, true_or, or_true, false_implies] <;> omega))), (by show (1 ≠ 0 ∨ (G 1 3).toInt ≠ 0); (first | omega | (simp only [Int32.reduceToInt, true_and, and_true, ne_eq, not_true_eq_false, false_and, or_false, false_or, true_or, or_true, false_implies] <;> omega)))⟩) rfl rfl dX3_takeToken_103
        · refine g_aload_n F 0 dX3_takeToken_60 rfl rfl ?_
          refine g_aload_n F 1 dX3_takeToken_61 rfl rfl ?_
          refine xg_1_5 F i_X10 w_2 dX3_takeToken_62 (G 1 5) (rfl) ?_
          refine u_callVi (k := 0) (n := 0) (b := a 15) (As := [.int (G 1 5)]) (st := []) F (fun sz => S_X3_takeOperand_15 l D K a G (G 1 5) (G 1 5).toInt rfl (fi) (by (first | omega | (simp only [Int32.reduceToInt, true_and, and_true, ne_eq, not_true_eq_false, false_and, or_false, false_or, true_or, or_true, false_implies] <;> omega))) (by (first | omega | (simp only [Int32.reduceToInt, true_and, and_true, ne_eq, not_true_eq_false, false_and, or_false, false_or, true_or, or_true, false_implies] <;> omega))) hI sz) (cwV 1 hts gX3_takeToken_X3_takeOperand rfl rfl rfl (by decide +kernel) ⟨Nat.le_of_ble_eq_true rfl, Nat.le_of_ble_eq_true rfl⟩) rfl 15 xc_15 rfl (Nat.le_of_ble_eq_true rfl) ⟨Nat.zero_le _, Nat.zero_le _⟩ dX3_takeToken_65 (fun r117 G119 hw118 => ?_)
          have hI120 : xI G119 := hw118.1
          have hU121 : gu_un xcd [1502, 1505, 1506, 1507, 1509, 3200] G G119 := hw118.2.1
          have hp122 := hw118.2.2
          have q123 : xFi 15 34 G119 := hp122.2.1
          have q124 : (sR (sOp (G 1 5).toInt (tkr (G 34) ((G 15 4).toInt).toNat) (G 15 6).toInt (G 15 7).toInt (G 15 5).toInt (tkr (G 32) ((G 15 1).toInt).toNat)) r117.toInt (xS 15 32 34 G119)) := hp122.2.2.1
          have b125 : (0 : Int) ≤ (G119 15 8).toInt ∧ (G119 15 8).toInt ≤ 1 := hI120 15 8
          have b126 : (0 : Int) ≤ (G119 15 1).toInt ∧ (G119 15 1).toInt ≤ 80 := hI120 15 1
          have b127 : (0 : Int) ≤ (G119 15 4).toInt ∧ (G119 15 4).toInt ≤ 16 := hI120 15 4
          have b128 : (0 : Int) ≤ (G119 15 5).toInt ∧ (G119 15 5).toInt ≤ 12 := hI120 15 5
          have q129 : (((G119 15 8).toInt = 0 ∧ (G119 15 1).toInt + (G119 15 4).toInt ≤ 6 * (G119 15 5).toInt) ∨ ((G119 15 8).toInt ≠ 0 ∧ (G119 15 1).toInt + (G119 15 4).toInt ≤ 6 * (G119 15 5).toInt + 1 + (G119 15 6).toInt)) := hp122.2.2.2
          have rg130 := hp122.1
          clear hp122 hw118
          exact u_iret F hA hQ hr G119 (⟨hI120, (gu_un.tr gu_un.rf (gu_un.su hU121 rfl)), (by have h9 := ti_rng r117; omega), (q123), (by rw [sT_num (by omega) (by omega)]; exact q124), (by show (((G119 15 8).toInt = 0 ∧ (G119 15 1).toInt + (G119 15 4).toInt ≤ 6 * (G119 15 5).toInt) ∨ ((G119 15 8).toInt ≠ 0 ∧ (G119 15 1).toInt + (G119 15 4).toInt ≤ 6 * (G119 15 5).toInt + 1 + (G119 15 6).toInt)); (first | omega | (simp only [Int32.reduceToInt, true_and, and_true, ne_eq, not_true_eq_false, false_and, or_false, false_or, true_or, or_true, false_implies] <;> omega))), (by show (r117.toInt ≠ 0 ∨ (G 1 3).toInt ≠ 0); (first | omega | (simp only [Int32.reduceToInt, true_and, and_true, ne_eq, not_true_eq_false, false_and, or_false, false_or, true_or, or_true, false_implies] <;> omega)))⟩) rfl rfl dX3_takeToken_68
  · refine g_aload_n F 0 dX3_takeToken_7 rfl rfl ?_
    refine g_aload_n F 1 dX3_takeToken_8 rfl rfl ?_
    refine u_callVi (k := 0) (n := 0) (b := a 15) (As := [.ref (a 1)]) (st := []) F (fun sz => S_X3_takeBehindOperand_15_1 l D K a G  (fi) (by (first | omega | (simp only [Int32.reduceToInt, true_and, and_true, ne_eq, not_true_eq_false, false_and, or_false, false_or, true_or, or_true, false_implies] <;> omega))) (by (first | omega | (simp only [Int32.reduceToInt, true_and, and_true, ne_eq, not_true_eq_false, false_and, or_false, false_or, true_or, or_true, false_implies] <;> omega))) hI sz) (cwV 1 hts gX3_takeToken_X3_takeBehindOperand rfl rfl rfl (by decide +kernel) ⟨Nat.le_of_ble_eq_true rfl, Nat.le_of_ble_eq_true rfl⟩) rfl 15 xc_15 rfl (Nat.le_of_ble_eq_true rfl) ⟨Nat.zero_le _, Nat.zero_le _⟩ dX3_takeToken_9 (fun r131 G133 hw132 => ?_)
    have hI134 : xI G133 := hw132.1
    have hU135 : gu_un xcd [1502, 1505, 1507, 1508, 1509, 3200, 3400] G G133 := hw132.2.1
    have hp136 := hw132.2.2
    have q137 : xFi 15 34 G133 := hp136.2.1
    have q138 : (∀ ls : Int, sR (sT ls (G 1 3).toInt (G 1 5).toInt (G 15 8).toInt (tkr (G 34) ((G 15 4).toInt).toNat) (G 15 6).toInt (G 15 7).toInt (G 15 5).toInt (tkr (G 32) ((G 15 1).toInt).toNat)) r131.toInt (xS 15 32 34 G133)) := hp136.2.2.1
    have b139 : (0 : Int) ≤ (G133 15 8).toInt ∧ (G133 15 8).toInt ≤ 1 := hI134 15 8
    have b140 : (0 : Int) ≤ (G133 15 1).toInt ∧ (G133 15 1).toInt ≤ 80 := hI134 15 1
    have b141 : (0 : Int) ≤ (G133 15 4).toInt ∧ (G133 15 4).toInt ≤ 16 := hI134 15 4
    have q142 : (((G133 15 8).toInt = 0 ∧ (G133 15 1).toInt + (G133 15 4).toInt ≤ 6 * (G 15 5).toInt) ∨ ((G133 15 8).toInt ≠ 0 ∧ (G133 15 1).toInt + (G133 15 4).toInt ≤ 6 * (G 15 5).toInt + 1 + (G133 15 6).toInt)) := by have h9 := hp136.2.2.2.1; (try simp only [(show G133 15 5 = (G 15 5) from hU135 15 5 (by decide)), (show G133 15 5 = (G 15 5) from hU135 15 5 (by decide))] at h9); first | exact h9 | omega
    have q143 : (r131.toInt ≠ 0 ∨ (G 1 3).toInt ≠ 0) := hp136.2.2.2.2
    have rg144 := hp136.1
    clear hp136 hw132
    exact u_iret F hA hQ hr G133 (⟨hI134, (gu_un.tr gu_un.rf (gu_un.su hU135 rfl)), (by have h9 := ti_rng r131; omega), (q137), (q138 1), (by show (((G133 15 8).toInt = 0 ∧ (G133 15 1).toInt + (G133 15 4).toInt ≤ 6 * (G133 15 5).toInt) ∨ ((G133 15 8).toInt ≠ 0 ∧ (G133 15 1).toInt + (G133 15 4).toInt ≤ 6 * (G133 15 5).toInt + 1 + (G133 15 6).toInt)); have e9_15_5 : G133 15 5 = (G 15 5) := hU135 15 5 (by decide); (try simp only [e9_15_5, true_and, and_true]) <;> (first | omega | (simp only [Int32.reduceToInt, true_and, and_true, ne_eq, not_true_eq_false, false_and, or_false, false_or, true_or, or_true, false_implies] <;> omega))), (by show (r131.toInt ≠ 0 ∨ (G 1 3).toInt ≠ 0); (first | omega | (simp only [Int32.reduceToInt, true_and, and_true, ne_eq, not_true_eq_false, false_and, or_false, false_or, true_or, or_true, false_implies] <;> omega)))⟩) rfl rfl dX3_takeToken_12


set_option maxHeartbeats 4000000 in
set_option maxRecDepth 100000 in
theorem S_X3_mayEnd_16 (l : Launch) (D : va_G) (K : Nat → ClassId) (a : Nat → Nat) (G : gS) (hI : xI G) (sz : Nat) : Ki l yX3_mayEnd wsX3_mayEnd 1 40 0 0 D [.ref (a 16)] (xW K a G) (tK K) sz (fun (r : Int32) (_ : Unit) => (0 ≤ r.toInt ∧ r.toInt ≤ 1) ∧ (((r.toInt = 1 ∧ (G 16 8).toInt = 0 ∧ (G 16 7).toInt = 0) ∨ (r.toInt = 0 ∧ ((G 16 8).toInt ≠ 0 ∨ (G 16 7).toInt ≠ 0))))) (fun (_ : Unit) => (xW K a G)) (fun _ => (tK K)) := by
  unfold Ki
  refine g_ofW (cc := cX3_mayEnd) (lv := [(0, .ref (a 16))]) (by decide) rfl (Nat.le_of_ble_eq_true rfl) rfl ?_
  intro p e s m args below meth c A Q hA hQ F hr hnm
  have hts := F.2.2.2.2.1
  have w_0 : (Cond.fieldLink RX3 47 "QuietCut$Formula" "wantsOperand" "Z").before args s = true := hts _ (List.mem_of_getElem? (i := 1) rfl)
  have i_X3 : ∀ w ∈ u_ws RX3 TX3 9, w ∈ wsX3_mayEnd := fun _ h => List.mem_cons_of_mem _ (List.mem_append_right _ h)
  have w_1 : (Cond.fieldLink RX3 44 "QuietCut$Formula" "parentheses" "I").before args s = true := hts _ (List.mem_of_getElem? (i := 2) rfl)
  refine g_aload_n F 0 dX3_mayEnd_0 rfl rfl ?_
  refine xg_16_8 F i_X3 w_0 dX3_mayEnd_1 (G 16 8) (rfl) ?_
  have b1 : (0 : Int) ≤ (G 16 8).toInt ∧ (G 16 8).toInt ≤ 1 := hI 16 8
  refine v_if_ne F 18 dX3_mayEnd_4 (by decide) (G 16 8).toInt rfl (fun c2 => ?_) (fun c2 => ?_)
  · refine g_iconst F 0 dX3_mayEnd_18 (by decide) ?_
    exact u_zret F hA hQ hr rfl () (⟨(by decide), (by show ((0 = 1 ∧ (G 16 8).toInt = 0 ∧ (G 16 7).toInt = 0) ∨ (0 = 0 ∧ ((G 16 8).toInt ≠ 0 ∨ (G 16 7).toInt ≠ 0))); (first | omega | (simp only [Int32.reduceToInt, true_and, and_true, ne_eq, not_true_eq_false, false_and, or_false, false_or, true_or, or_true, false_implies] <;> omega)))⟩) rfl rfl dX3_mayEnd_19
  · refine g_aload_n F 0 dX3_mayEnd_7 rfl rfl ?_
    refine xg_16_7 F i_X3 w_1 dX3_mayEnd_8 (G 16 7) (rfl) ?_
    refine v_if_ne F 18 dX3_mayEnd_11 (by decide) (G 16 7).toInt rfl (fun c3 => ?_) (fun c3 => ?_)
    · refine g_iconst F 0 dX3_mayEnd_18 (by decide) ?_
      exact u_zret F hA hQ hr rfl () (⟨(by decide), (by show ((0 = 1 ∧ (G 16 8).toInt = 0 ∧ (G 16 7).toInt = 0) ∨ (0 = 0 ∧ ((G 16 8).toInt ≠ 0 ∨ (G 16 7).toInt ≠ 0))); (first | omega | (simp only [Int32.reduceToInt, true_and, and_true, ne_eq, not_true_eq_false, false_and, or_false, false_or, true_or, or_true, false_implies] <;> omega)))⟩) rfl rfl dX3_mayEnd_19
    · refine g_iconst F 1 dX3_mayEnd_14 (by decide) ?_
      refine g_goto F 19 dX3_mayEnd_15 (by decide) ?_
      exact u_zret F hA hQ hr rfl () (⟨(by decide), (by show ((1 = 1 ∧ (G 16 8).toInt = 0 ∧ (G 16 7).toInt = 0) ∨ (1 = 0 ∧ ((G 16 8).toInt ≠ 0 ∨ (G 16 7).toInt ≠ 0))); (first | omega | (simp only [Int32.reduceToInt, true_and, and_true, ne_eq, not_true_eq_false, false_and, or_false, false_or, true_or, or_true, false_implies] <;> omega)))⟩) rfl rfl dX3_mayEnd_19


set_option maxHeartbeats 4000000 in
set_option maxRecDepth 100000 in
theorem S_X3_finish_16 (l : Launch) (D : va_G) (K : Nat → ClassId) (a : Nat → Nat) (G : gS) (jq : (∃ t, xQ (G 37) (G 16 4).toInt (G 16 6).toInt (G 16 7).toInt t ∧ 0 ≤ t)) (jl : ((G 16 1).toInt + (G 16 4).toInt ≤ 79)) (hI : xI G) (sz : Nat) : Kv l yX3_finish wsX3_finish 3 82 0 0 D [.ref (a 16)] (xW K a G) (tK K) sz (fun (G' : gS) => (xI G') ∧ (gu_un xcd [1602, 1605, 3500] G G') ∧ ((∃ t, xQ (G 37) (G' 16 4).toInt (G 16 6).toInt (G 16 7).toInt t ∧ 0 ≤ t ∧ t < 1)) ∧ ((sJ 1 (tkr (G 37) ((G 16 4).toInt).toNat) (tkr (G 35) ((G 16 1).toInt).toNat) = (tkr (G 37) ((G' 16 4).toInt).toNat, tkr (G' 35) ((G' 16 1).toInt).toNat))) ∧ (((G' 16 1).toInt + (G' 16 4).toInt = (G 16 1).toInt + (G 16 4).toInt))) (fun (G' : gS) => (xW K a G')) (fun _ => (tK K)) := by
  unfold Kv
  refine g_ofW (cc := cX3_finish) (lv := [(0, .ref (a 16))]) (by decide) rfl (Nat.le_of_ble_eq_true rfl) rfl ?_
  intro p e s m args below meth c A Q hA hQ F hr hnm
  have hts := F.2.2.2.2.1
  refine g_aload_n F 0 dX3_finish_0 rfl rfl ?_
  refine g_iconst F 1 dX3_finish_1 (by decide) ?_
  have b1 : (0 : Int) ≤ (G 16 1).toInt ∧ (G 16 1).toInt ≤ 80 := hI 16 1
  have b2 : (0 : Int) ≤ (G 16 4).toInt ∧ (G 16 4).toInt ≤ 16 := hI 16 4
  refine u_callVv (k := 0) (n := 0) (b := a 16) (As := [.int 1]) (st := []) F (fun sz => S_X3_joinDownTo_16 l D K a G 1 1 rfl (by decide) (jq) (by (first | omega | (simp only [Int32.reduceToInt, true_and, and_true, ne_eq, not_true_eq_false, false_and, or_false, false_or, true_or, or_true, false_implies] <;> omega))) hI sz) (cwV 1 hts gX3_finish_X3_joinDownTo rfl rfl rfl (by decide +kernel) ⟨Nat.le_of_ble_eq_true rfl, Nat.le_of_ble_eq_true rfl⟩) rfl 16 xc_16 rfl (Nat.le_of_ble_eq_true rfl) ⟨Nat.zero_le _, Nat.zero_le _⟩ dX3_finish_2 (fun G5 hw4 => ?_)
  have hI6 : xI G5 := hw4.1
  have hU7 : gu_un xcd [1602, 1605, 3500] G G5 := hw4.2.1
  have hp8 := hw4.2.2
  have b9 : (0 : Int) ≤ (G5 16 4).toInt ∧ (G5 16 4).toInt ≤ 16 := hI6 16 4
  have q10 : (∃ t, xQ (G 37) (G5 16 4).toInt (G 16 6).toInt (G 16 7).toInt t ∧ 0 ≤ t ∧ t < (1 : Int)) := hp8.1
  have b11 : (0 : Int) ≤ (G5 16 1).toInt ∧ (G5 16 1).toInt ≤ 80 := hI6 16 1
  have q12 : (sJ (1 : Int) (tkr (G 37) ((G 16 4).toInt).toNat) (tkr (G 35) ((G 16 1).toInt).toNat) = (tkr (G 37) ((G5 16 4).toInt).toNat, tkr (G5 35) ((G5 16 1).toInt).toNat)) := hp8.2.1
  have q13 : ((G5 16 1).toInt + (G5 16 4).toInt = (G 16 1).toInt + (G 16 4).toInt) := hp8.2.2
  clear hp8 hw4
  exact u_vret F hA hQ hr G5 (⟨hI6, (gu_un.tr gu_un.rf (gu_un.su hU7 rfl)), (q10), (q12), (by show ((G5 16 1).toInt + (G5 16 4).toInt = (G 16 1).toInt + (G 16 4).toInt); (first | omega | (simp only [Int32.reduceToInt, true_and, and_true, ne_eq, not_true_eq_false, false_and, or_false, false_or, true_or, or_true, false_implies] <;> omega)))⟩) rfl rfl dX3_finish_5


set_option maxHeartbeats 4000000 in
set_option maxRecDepth 100000 in
theorem S_X3_takeToken_16_1_L12 (l : Launch) (D : va_G) (K : Nat → ClassId) (a : Nat → Nat) (G : gS) (zf : Nat → Nat) (fi : xFi 16 37 G) (nl : (((G 16 8).toInt = 0 ∧ (G 16 1).toInt + (G 16 4).toInt ≤ 6 * (G 16 5).toInt) ∨ ((G 16 8).toInt ≠ 0 ∧ (G 16 1).toInt + (G 16 4).toInt ≤ 6 * (G 16 5).toInt + 1 + (G 16 6).toInt))) (vl : ((G 1 3).toInt ≠ 1 ∨ (0 ≤ (G 1 5).toInt ∧ (G 1 5).toInt ≤ 255))) (hI : xI G) (sz : Nat) : KiZ (xZ zf) l yX3_takeToken wsX3_takeToken 5 131 D [.ref (a 16), .ref (a 1), .ref (zf 82)] (xW K a G) (tK K) sz (fun (r : Int32) (G' : gS) => (xI G') ∧ (gu_un xcd [1602, 1605, 1606, 1607, 1608, 1609, 3500, 3700] G G') ∧ (0 ≤ r.toInt ∧ r.toInt ≤ 4) ∧ (xFi 16 37 G') ∧ ((sR (sT 2 (G 1 3).toInt (G 1 5).toInt (G 16 8).toInt (tkr (G 37) ((G 16 4).toInt).toNat) (G 16 6).toInt (G 16 7).toInt (G 16 5).toInt (tkr (G 35) ((G 16 1).toInt).toNat)) r.toInt (xS 16 35 37 G'))) ∧ ((((G' 16 8).toInt = 0 ∧ (G' 16 1).toInt + (G' 16 4).toInt ≤ 6 * (G' 16 5).toInt) ∨ ((G' 16 8).toInt ≠ 0 ∧ (G' 16 1).toInt + (G' 16 4).toInt ≤ 6 * (G' 16 5).toInt + 1 + (G' 16 6).toInt))) ∧ ((r.toInt ≠ 0 ∨ (G 1 3).toInt ≠ 0))) (fun (G' : gS) => (xW K a G')) := by
  unfold KiZ
  refine gz_ofW (cc := cX3_takeToken) (lv := [(0, .ref (a 16)), (1, .ref (a 1)), (2, .ref (zf 82))]) (by decide) rfl (Nat.le_of_ble_eq_true rfl) rfl ?_
  intro p e s m args below meth c A Q hA hQ hZ F hr hnm
  have hts := F.2.2.2.2.1
  have w_0 : (Cond.fieldLink RX3 47 "QuietCut$Formula" "wantsOperand" "Z").before args s = true := hts _ (List.mem_of_getElem? (i := 1) rfl)
  have i_X3 : ∀ w ∈ u_ws RX3 TX3 9, w ∈ wsX3_takeToken := fun _ h => List.mem_cons_of_mem _ (List.mem_append_left _ (List.mem_append_right _ h))
  have w_1 : (Cond.fieldLink RX3 68 "QuietCut$Tape" "kind" "I").before args s = true := hts _ (List.mem_of_getElem? (i := 2) rfl)
  have i_X10 : ∀ w ∈ u_ws RX10 TX10 6, w ∈ wsX3_takeToken := fun _ h => List.mem_cons_of_mem _ (List.mem_append_right _ h)
  have w_2 : (Cond.fieldLink RX3 71 "QuietCut$Tape" "value" "I").before args s = true := hts _ (List.mem_of_getElem? (i := 3) rfl)
  have b1 : (0 : Int) ≤ (G 16 1).toInt ∧ (G 16 1).toInt ≤ 80 := hI 16 1
  have b2 : (0 : Int) ≤ (G 16 4).toInt ∧ (G 16 4).toInt ≤ 16 := hI 16 4
  have b3 : (0 : Int) ≤ (G 16 5).toInt ∧ (G 16 5).toInt ≤ 12 := hI 16 5
  have b4 : (0 : Int) ≤ (G 16 8).toInt ∧ (G 16 8).toInt ≤ 1 := hI 16 8
  have b5 : (0 : Int) ≤ (G 1 3).toInt ∧ (G 1 3).toInt ≤ 4 := hI 1 3
  refine g_aload_n F 0 dX3_takeToken_0 rfl rfl ?_
  refine xg_16_8 F i_X3 w_0 dX3_takeToken_1 (G 16 8) (rfl) ?_
  refine v_if_ne F 13 dX3_takeToken_4 (by decide) (G 16 8).toInt rfl (fun c6 => ?_) (fun c6 => ?_)
  · refine g_aload_n F 1 dX3_takeToken_13 rfl rfl ?_
    refine g_bipush F 40 dX3_takeToken_14 (by decide) ?_
    refine u_callVi (k := 0) (n := 0) (b := a 1) (As := [.int 40]) (st := []) F (fun sz => S_X10_isSign l D K a G 40 40 rfl hI sz) (cwV 1 hts gX3_takeToken_X10_isSign rfl rfl rfl (by decide +kernel) ⟨Nat.le_of_ble_eq_true rfl, Nat.le_of_ble_eq_true rfl⟩) rfl 1 xc_1 rfl (Nat.le_of_ble_eq_true rfl) ⟨Nat.zero_le _, Nat.zero_le _⟩ dX3_takeToken_16 (fun r7 _ hw8 => ?_)
    rcases hw8 with ⟨rfl, q10⟩ | ⟨rfl, q11⟩
    · have q10 : ((G 1 3).toInt = 3 ∧ (G 1 5).toInt = (40 : Int)) := q10
      refine v_if_ne F 31 dX3_takeToken_19 (by decide) 1 rfl (fun c12 => ?_) (fun c12 => absurd c12 (by decide))
      refine g_aload_n F 0 dX3_takeToken_31 rfl rfl ?_
      refine g_aload_n F 1 dX3_takeToken_32 rfl rfl ?_
      refine g_bipush F 40 dX3_takeToken_33 (by decide) ?_
      refine u_callVi (k := 0) (n := 0) (b := a 1) (As := [.int 40]) (st := [.ref (a 16)]) F (fun sz => S_X10_isSign l D K a G 40 40 rfl hI sz) (cwV 1 hts gX3_takeToken_X10_isSign rfl rfl rfl (by decide +kernel) ⟨Nat.le_of_ble_eq_true rfl, Nat.le_of_ble_eq_true rfl⟩) rfl 1 xc_1 rfl (Nat.le_of_ble_eq_true rfl) ⟨Nat.zero_le _, Nat.zero_le _⟩ dX3_takeToken_35 (fun r13 _ hw14 => ?_)
      rcases hw14 with ⟨rfl, q16⟩ | ⟨rfl, q17⟩
      · have q16 : ((G 1 3).toInt = 3 ∧ (G 1 5).toInt = (40 : Int)) := q16
        refine v_if_eq F 46 dX3_takeToken_38 (by decide) 1 rfl (fun c18 => absurd c18 (by decide)) (fun c18 => ?_)
        refine g_bipush F 40 dX3_takeToken_41 (by decide) ?_
        refine g_goto F 48 dX3_takeToken_43 (by decide) ?_
        refine u_callVi (k := 0) (n := 0) (b := a 16) (As := [.int 40]) (st := []) F (fun sz => S_X3_takeOpening_16_v40 l D K a G  (fi) (by (first | omega | (simp only [Int32.reduceToInt, true_and, and_true, ne_eq, not_true_eq_false, false_and, or_false, false_or, true_or, or_true, false_implies] <;> omega))) (by (first | omega | (simp only [Int32.reduceToInt, true_and, and_true, ne_eq, not_true_eq_false, false_and, or_false, false_or, true_or, or_true, false_implies] <;> omega))) hI sz) (cwV 1 hts gX3_takeToken_X3_takeOpening rfl rfl rfl (by decide +kernel) ⟨Nat.le_of_ble_eq_true rfl, Nat.le_of_ble_eq_true rfl⟩) rfl 16 xc_16 rfl (Nat.le_of_ble_eq_true rfl) ⟨Nat.zero_le _, Nat.zero_le _⟩ dX3_takeToken_48 (fun r19 G21 hw20 => ?_)
        have hI22 : xI G21 := hw20.1
        have hU23 : gu_un xcd [1605, 1607, 1608, 3700] G G21 := hw20.2.1
        have hp24 := hw20.2.2
        have q25 : xFi 16 37 G21 := hp24.2.1
        have q26 : (∀ ls : Int, sR (sT ls 3 40 (G 16 8).toInt (tkr (G 37) ((G 16 4).toInt).toNat) (G 16 6).toInt (G 16 7).toInt (G 16 5).toInt (tkr (G 35) ((G 16 1).toInt).toNat)) r19.toInt (xS 16 35 37 G21)) := hp24.2.2.1
        have b27 : (0 : Int) ≤ (G21 16 4).toInt ∧ (G21 16 4).toInt ≤ 16 := hI22 16 4
        have q28 : (((G 16 8).toInt = 0 ∧ (G 16 1).toInt + (G21 16 4).toInt ≤ 6 * (G 16 5).toInt) ∨ ((G 16 8).toInt ≠ 0 ∧ (G 16 1).toInt + (G21 16 4).toInt ≤ 6 * (G 16 5).toInt + 1 + (G21 16 6).toInt)) := by have h9 := hp24.2.2.2; (try simp only [(show G21 16 8 = (G 16 8) from hU23 16 8 (by decide)), (show G21 16 1 = (G 16 1) from hU23 16 1 (by decide)), (show G21 16 5 = (G 16 5) from hU23 16 5 (by decide)), (show G21 16 8 = (G 16 8) from hU23 16 8 (by decide)), (show G21 16 1 = (G 16 1) from hU23 16 1 (by decide)), (show G21 16 5 = (G 16 5) from hU23 16 5 (by decide))] at h9); first | exact h9 | omega
        have rg29 := hp24.1
        clear hp24 hw20
        exact u_iret F hA hQ hr G21 (⟨hI22, (gu_un.tr gu_un.rf (gu_un.su hU23 rfl)), (by have h9 := ti_rng r19; omega), (q25), (by first | (rw [show (G 1 3).toInt = 3 by omega, show (G 1 5).toInt = 40 by omega]; exact q26 2) | (rw [show (G 1 3).toInt = 3 by omega, show (G 1 5).toInt = 45 by omega]; exact q26 2)), (by show (((G21 16 8).toInt = 0 ∧ (G21 16 1).toInt + (G21 16 4).toInt ≤ 6 * (G21 16 5).toInt) ∨ ((G21 16 8).toInt ≠ 0 ∧ (G21 16 1).toInt + (G21 16 4).toInt ≤ 6 * (G21 16 5).toInt + 1 + (G21 16 6).toInt)); have e9_16_1 : G21 16 1 = (G 16 1) := hU23 16 1 (by decide); have e9_16_5 : G21 16 5 = (G 16 5) := hU23 16 5 (by decide); have e9_16_8 : G21 16 8 = (G 16 8) := hU23 16 8 (by decide); (try simp only [e9_16_1, e9_16_5, e9_16_8, true_and, and_true]) <;> (first | omega | (simp only [Int32.reduceToInt, true_and, and_true, ne_eq, not_true_eq_false, false_and, or_false, false_or, true_or, or_true, false_implies] <;> omega))), (by show (r19.toInt ≠ 0 ∨ (G 1 3).toInt ≠ 0); (first | omega | (simp only [Int32.reduceToInt, true_and, and_true, ne_eq, not_true_eq_false, false_and, or_false, false_or, true_or, or_true, false_implies] <;> omega)))⟩) rfl rfl dX3_takeToken_51
      · have q17 : ((G 1 3).toInt ≠ 3 ∨ (G 1 5).toInt ≠ (40 : Int)) := q17
        refine v_if_eq F 46 dX3_takeToken_38 (by decide) 0 rfl (fun c30 => ?_) (fun c30 => absurd c30 (by decide))
        refine g_bipush F (-3) dX3_takeToken_46 (by decide) ?_
        refine u_callVi (k := 0) (n := 0) (b := a 16) (As := [.int (-3)]) (st := []) F (fun sz => S_X3_takeOpening_16_m3 l D K a G  (fi) (by (first | omega | (simp only [Int32.reduceToInt, true_and, and_true, ne_eq, not_true_eq_false, false_and, or_false, false_or, true_or, or_true, false_implies] <;> omega))) (by (first | omega | (simp only [Int32.reduceToInt, true_and, and_true, ne_eq, not_true_eq_false, false_and, or_false, false_or, true_or, or_true, false_implies] <;> omega))) hI sz) (cwV 1 hts gX3_takeToken_X3_takeOpening rfl rfl rfl (by decide +kernel) ⟨Nat.le_of_ble_eq_true rfl, Nat.le_of_ble_eq_true rfl⟩) rfl 16 xc_16 rfl (Nat.le_of_ble_eq_true rfl) ⟨Nat.zero_le _, Nat.zero_le _⟩ dX3_takeToken_48 (fun r31 G33 hw32 => ?_)
        have hI34 : xI G33 := hw32.1
        have hU35 : gu_un xcd [1605, 1607, 3700] G G33 := hw32.2.1
        have hp36 := hw32.2.2
        have q37 : xFi 16 37 G33 := hp36.2.1
        have q38 : (∀ ls : Int, sR (sT ls 3 45 (G 16 8).toInt (tkr (G 37) ((G 16 4).toInt).toNat) (G 16 6).toInt (G 16 7).toInt (G 16 5).toInt (tkr (G 35) ((G 16 1).toInt).toNat)) r31.toInt (xS 16 35 37 G33)) := hp36.2.2.1
        have b39 : (0 : Int) ≤ (G33 16 4).toInt ∧ (G33 16 4).toInt ≤ 16 := hI34 16 4
        have q40 : (((G 16 8).toInt = 0 ∧ (G 16 1).toInt + (G33 16 4).toInt ≤ 6 * (G 16 5).toInt) ∨ ((G 16 8).toInt ≠ 0 ∧ (G 16 1).toInt + (G33 16 4).toInt ≤ 6 * (G 16 5).toInt + 1 + (G33 16 6).toInt)) := by have h9 := hp36.2.2.2; (try simp only [(show G33 16 8 = (G 16 8) from hU35 16 8 (by decide)), (show G33 16 1 = (G 16 1) from hU35 16 1 (by decide)), (show G33 16 5 = (G 16 5) from hU35 16 5 (by decide)), (show G33 16 8 = (G 16 8) from hU35 16 8 (by decide)), (show G33 16 1 = (G 16 1) from hU35 16 1 (by decide)), (show G33 16 5 = (G 16 5) from hU35 16 5 (by decide))] at h9); first | exact h9 | omega
        have rg41 := hp36.1
        clear hp36 hw32
        exact u_iret F hA hQ hr G33 (⟨hI34, (gu_un.tr gu_un.rf (gu_un.su hU35 rfl)), (by have h9 := ti_rng r31; omega), (q37), (by first | (rw [show (G 1 3).toInt = 3 by omega, show (G 1 5).toInt = 40 by omega]; exact q38 2) | (rw [show (G 1 3).toInt = 3 by omega, show (G 1 5).toInt = 45 by omega]; exact q38 2)), (by show (((G33 16 8).toInt = 0 ∧ (G33 16 1).toInt + (G33 16 4).toInt ≤ 6 * (G33 16 5).toInt) ∨ ((G33 16 8).toInt ≠ 0 ∧ (G33 16 1).toInt + (G33 16 4).toInt ≤ 6 * (G33 16 5).toInt + 1 + (G33 16 6).toInt)); have e9_16_1 : G33 16 1 = (G 16 1) := hU35 16 1 (by decide); have e9_16_5 : G33 16 5 = (G 16 5) := hU35 16 5 (by decide); have e9_16_8 : G33 16 8 = (G 16 8) := hU35 16 8 (by decide); (try simp only [e9_16_1, e9_16_5, e9_16_8, true_and, and_true]) <;> (first | omega | (simp only [Int32.reduceToInt, true_and, and_true, ne_eq, not_true_eq_false, false_and, or_false, false_or, true_or, or_true, false_implies] <;> omega))), (by show (r31.toInt ≠ 0 ∨ (G 1 3).toInt ≠ 0); (first | omega | (simp only [Int32.reduceToInt, true_and, and_true, ne_eq, not_true_eq_false, false_and, or_false, false_or, true_or, or_true, false_implies] <;> omega)))⟩) rfl rfl dX3_takeToken_51
    · have q11 : ((G 1 3).toInt ≠ 3 ∨ (G 1 5).toInt ≠ (40 : Int)) := q11
      refine v_if_ne F 31 dX3_takeToken_19 (by decide) 0 rfl (fun c42 => absurd c42 (by decide)) (fun c42 => ?_)
      refine g_aload_n F 1 dX3_takeToken_22 rfl rfl ?_
      refine g_bipush F 45 dX3_takeToken_23 (by decide) ?_
      refine u_callVi (k := 0) (n := 0) (b := a 1) (As := [.int 45]) (st := []) F (fun sz => S_X10_isSign l D K a G 45 45 rfl hI sz) (cwV 1 hts gX3_takeToken_X10_isSign rfl rfl rfl (by decide +kernel) ⟨Nat.le_of_ble_eq_true rfl, Nat.le_of_ble_eq_true rfl⟩) rfl 1 xc_1 rfl (Nat.le_of_ble_eq_true rfl) ⟨Nat.zero_le _, Nat.zero_le _⟩ dX3_takeToken_25 (fun r43 _ hw44 => ?_)
      rcases hw44 with ⟨rfl, q46⟩ | ⟨rfl, q47⟩
      · have q46 : ((G 1 3).toInt = 3 ∧ (G 1 5).toInt = (45 : Int)) := q46
        refine v_if_eq F 52 dX3_takeToken_28 (by decide) 1 rfl (fun c48 => absurd c48 (by decide)) (fun c48 => ?_)
        refine g_aload_n F 0 dX3_takeToken_31 rfl rfl ?_
        refine g_aload_n F 1 dX3_takeToken_32 rfl rfl ?_
        refine g_bipush F 40 dX3_takeToken_33 (by decide) ?_
        refine u_callVi (k := 0) (n := 0) (b := a 1) (As := [.int 40]) (st := [.ref (a 16)]) F (fun sz => S_X10_isSign l D K a G 40 40 rfl hI sz) (cwV 1 hts gX3_takeToken_X10_isSign rfl rfl rfl (by decide +kernel) ⟨Nat.le_of_ble_eq_true rfl, Nat.le_of_ble_eq_true rfl⟩) rfl 1 xc_1 rfl (Nat.le_of_ble_eq_true rfl) ⟨Nat.zero_le _, Nat.zero_le _⟩ dX3_takeToken_35 (fun r49 _ hw50 => ?_)
        rcases hw50 with ⟨rfl, q52⟩ | ⟨rfl, q53⟩
        · have q52 : ((G 1 3).toInt = 3 ∧ (G 1 5).toInt = (40 : Int)) := q52
          refine v_if_eq F 46 dX3_takeToken_38 (by decide) 1 rfl (fun c54 => absurd c54 (by decide)) (fun c54 => ?_)
          refine g_bipush F 40 dX3_takeToken_41 (by decide) ?_
          refine g_goto F 48 dX3_takeToken_43 (by decide) ?_
          refine u_callVi (k := 0) (n := 0) (b := a 16) (As := [.int 40]) (st := []) F (fun sz => S_X3_takeOpening_16_v40 l D K a G  (fi) (by (first | omega | (simp only [Int32.reduceToInt, true_and, and_true, ne_eq, not_true_eq_false, false_and, or_false, false_or, true_or, or_true, false_implies] <;> omega))) (by (first | omega | (simp only [Int32.reduceToInt, true_and, and_true, ne_eq, not_true_eq_false, false_and, or_false, false_or, true_or, or_true, false_implies] <;> omega))) hI sz) (cwV 1 hts gX3_takeToken_X3_takeOpening rfl rfl rfl (by decide +kernel) ⟨Nat.le_of_ble_eq_true rfl, Nat.le_of_ble_eq_true rfl⟩) rfl 16 xc_16 rfl (Nat.le_of_ble_eq_true rfl) ⟨Nat.zero_le _, Nat.zero_le _⟩ dX3_takeToken_48 (fun r55 G57 hw56 => ?_)
          have hI58 : xI G57 := hw56.1
          have hU59 : gu_un xcd [1605, 1607, 1608, 3700] G G57 := hw56.2.1
          have hp60 := hw56.2.2
          have q61 : xFi 16 37 G57 := hp60.2.1
          have q62 : (∀ ls : Int, sR (sT ls 3 40 (G 16 8).toInt (tkr (G 37) ((G 16 4).toInt).toNat) (G 16 6).toInt (G 16 7).toInt (G 16 5).toInt (tkr (G 35) ((G 16 1).toInt).toNat)) r55.toInt (xS 16 35 37 G57)) := hp60.2.2.1
          have b63 : (0 : Int) ≤ (G57 16 4).toInt ∧ (G57 16 4).toInt ≤ 16 := hI58 16 4
          have q64 : (((G 16 8).toInt = 0 ∧ (G 16 1).toInt + (G57 16 4).toInt ≤ 6 * (G 16 5).toInt) ∨ ((G 16 8).toInt ≠ 0 ∧ (G 16 1).toInt + (G57 16 4).toInt ≤ 6 * (G 16 5).toInt + 1 + (G57 16 6).toInt)) := by have h9 := hp60.2.2.2; (try simp only [(show G57 16 8 = (G 16 8) from hU59 16 8 (by decide)), (show G57 16 1 = (G 16 1) from hU59 16 1 (by decide)), (show G57 16 5 = (G 16 5) from hU59 16 5 (by decide)), (show G57 16 8 = (G 16 8) from hU59 16 8 (by decide)), (show G57 16 1 = (G 16 1) from hU59 16 1 (by decide)), (show G57 16 5 = (G 16 5) from hU59 16 5 (by decide))] at h9); first | exact h9 | omega
          have rg65 := hp60.1
          clear hp60 hw56
          exact u_iret F hA hQ hr G57 (⟨hI58, (gu_un.tr gu_un.rf (gu_un.su hU59 rfl)), (by have h9 := ti_rng r55; omega), (q61), (by first | (rw [show (G 1 3).toInt = 3 by omega, show (G 1 5).toInt = 40 by omega]; exact q62 2) | (rw [show (G 1 3).toInt = 3 by omega, show (G 1 5).toInt = 45 by omega]; exact q62 2)), (by show (((G57 16 8).toInt = 0 ∧ (G57 16 1).toInt + (G57 16 4).toInt ≤ 6 * (G57 16 5).toInt) ∨ ((G57 16 8).toInt ≠ 0 ∧ (G57 16 1).toInt + (G57 16 4).toInt ≤ 6 * (G57 16 5).toInt + 1 + (G57 16 6).toInt)); have e9_16_1 : G57 16 1 = (G 16 1) := hU59 16 1 (by decide); have e9_16_5 : G57 16 5 = (G 16 5) := hU59 16 5 (by decide); have e9_16_8 : G57 16 8 = (G 16 8) := hU59 16 8 (by decide); (try simp only [e9_16_1, e9_16_5, e9_16_8, true_and, and_true]) <;> (first | omega | (simp only [Int32.reduceToInt, true_and, and_true, ne_eq, not_true_eq_false, false_and, or_false, false_or, true_or, or_true, false_implies] <;> omega))), (by show (r55.toInt ≠ 0 ∨ (G 1 3).toInt ≠ 0); (first | omega | (simp only [Int32.reduceToInt, true_and, and_true, ne_eq, not_true_eq_false, false_and, or_false, false_or, true_or, or_true, false_implies] <;> omega)))⟩) rfl rfl dX3_takeToken_51
        · have q53 : ((G 1 3).toInt ≠ 3 ∨ (G 1 5).toInt ≠ (40 : Int)) := q53
          refine v_if_eq F 46 dX3_takeToken_38 (by decide) 0 rfl (fun c66 => ?_) (fun c66 => absurd c66 (by decide))
          refine g_bipush F (-3) dX3_takeToken_46 (by decide) ?_
          refine u_callVi (k := 0) (n := 0) (b := a 16) (As := [.int (-3)]) (st := []) F (fun sz => S_X3_takeOpening_16_m3 l D K a G  (fi) (by (first | omega | (simp only [Int32.reduceToInt, true_and, and_true, ne_eq, not_true_eq_false, false_and, or_false, false_or, true_or, or_true, false_implies] <;> omega))) (by (first | omega | (simp only [Int32.reduceToInt, true_and, and_true, ne_eq, not_true_eq_false, false_and, or_false, false_or, true_or, or_true, false_implies] <;> omega))) hI sz) (cwV 1 hts gX3_takeToken_X3_takeOpening rfl rfl rfl (by decide +kernel) ⟨Nat.le_of_ble_eq_true rfl, Nat.le_of_ble_eq_true rfl⟩) rfl 16 xc_16 rfl (Nat.le_of_ble_eq_true rfl) ⟨Nat.zero_le _, Nat.zero_le _⟩ dX3_takeToken_48 (fun r67 G69 hw68 => ?_)
          have hI70 : xI G69 := hw68.1
          have hU71 : gu_un xcd [1605, 1607, 3700] G G69 := hw68.2.1
          have hp72 := hw68.2.2
          have q73 : xFi 16 37 G69 := hp72.2.1
          have q74 : (∀ ls : Int, sR (sT ls 3 45 (G 16 8).toInt (tkr (G 37) ((G 16 4).toInt).toNat) (G 16 6).toInt (G 16 7).toInt (G 16 5).toInt (tkr (G 35) ((G 16 1).toInt).toNat)) r67.toInt (xS 16 35 37 G69)) := hp72.2.2.1
          have b75 : (0 : Int) ≤ (G69 16 4).toInt ∧ (G69 16 4).toInt ≤ 16 := hI70 16 4
          have q76 : (((G 16 8).toInt = 0 ∧ (G 16 1).toInt + (G69 16 4).toInt ≤ 6 * (G 16 5).toInt) ∨ ((G 16 8).toInt ≠ 0 ∧ (G 16 1).toInt + (G69 16 4).toInt ≤ 6 * (G 16 5).toInt + 1 + (G69 16 6).toInt)) := by have h9 := hp72.2.2.2; (try simp only [(show G69 16 8 = (G 16 8) from hU71 16 8 (by decide)), (show G69 16 1 = (G 16 1) from hU71 16 1 (by decide)), (show G69 16 5 = (G 16 5) from hU71 16 5 (by decide)), (show G69 16 8 = (G 16 8) from hU71 16 8 (by decide)), (show G69 16 1 = (G 16 1) from hU71 16 1 (by decide)), (show G69 16 5 = (G 16 5) from hU71 16 5 (by decide))] at h9); first | exact h9 | omega
          have rg77 := hp72.1
          clear hp72 hw68
          exact u_iret F hA hQ hr G69 (⟨hI70, (gu_un.tr gu_un.rf (gu_un.su hU71 rfl)), (by have h9 := ti_rng r67; omega), (q73), (by first | (rw [show (G 1 3).toInt = 3 by omega, show (G 1 5).toInt = 40 by omega]; exact q74 2) | (rw [show (G 1 3).toInt = 3 by omega, show (G 1 5).toInt = 45 by omega]; exact q74 2)), (by show (((G69 16 8).toInt = 0 ∧ (G69 16 1).toInt + (G69 16 4).toInt ≤ 6 * (G69 16 5).toInt) ∨ ((G69 16 8).toInt ≠ 0 ∧ (G69 16 1).toInt + (G69 16 4).toInt ≤ 6 * (G69 16 5).toInt + 1 + (G69 16 6).toInt)); have e9_16_1 : G69 16 1 = (G 16 1) := hU71 16 1 (by decide); have e9_16_5 : G69 16 5 = (G 16 5) := hU71 16 5 (by decide); have e9_16_8 : G69 16 8 = (G 16 8) := hU71 16 8 (by decide); (try simp only [e9_16_1, e9_16_5, e9_16_8, true_and, and_true]) <;> (first | omega | (simp only [Int32.reduceToInt, true_and, and_true, ne_eq, not_true_eq_false, false_and, or_false, false_or, true_or, or_true, false_implies] <;> omega))), (by show (r67.toInt ≠ 0 ∨ (G 1 3).toInt ≠ 0); (first | omega | (simp only [Int32.reduceToInt, true_and, and_true, ne_eq, not_true_eq_false, false_and, or_false, false_or, true_or, or_true, false_implies] <;> omega)))⟩) rfl rfl dX3_takeToken_51
      · have q47 : ((G 1 3).toInt ≠ 3 ∨ (G 1 5).toInt ≠ (45 : Int)) := q47
        refine v_if_eq F 52 dX3_takeToken_28 (by decide) 0 rfl (fun c78 => ?_) (fun c78 => absurd c78 (by decide))
        refine g_aload_n F 1 dX3_takeToken_52 rfl rfl ?_
        refine xg_1_3 F i_X10 w_1 dX3_takeToken_53 (G 1 3) (rfl) ?_
        refine g_iconst F 2 dX3_takeToken_56 (by decide) ?_
        refine v_icmp_ne F 69 dX3_takeToken_57 (by decide) (G 1 3).toInt 2 rfl rfl (fun c79 => ?_) (fun c79 => ?_)
        · refine g_aload_n F 1 dX3_takeToken_69 rfl rfl ?_
          refine xg_1_3 F i_X10 w_1 dX3_takeToken_70 (G 1 3) (rfl) ?_
          refine g_iconst F 1 dX3_takeToken_73 (by decide) ?_
          refine v_icmp_ne F 96 dX3_takeToken_74 (by decide) (G 1 3).toInt 1 rfl rfl (fun c80 => ?_) (fun c80 => ?_)
          · refine g_iconst F (-1) dX3_takeToken_96 (by decide) ?_
            refine g_istore_n F [(3, .int (-1)), (0, .ref (a 16)), (1, .ref (a 1)), (2, .ref (zf 82))] dX3_takeToken_97 rfl (by decide) rfl ?_
            refine g_iload_n F 0 dX3_takeToken_98 rfl rfl ?_
            refine v_if_ge F 104 dX3_takeToken_99 (by decide) (-1) rfl (fun c81 => absurd c81 (by decide)) (fun c81 => ?_)
            refine g_iconst F 1 dX3_takeToken_102 (by decide) ?_
            exact u_iret F hA hQ hr G (⟨hI, gu_un.rf, (by decide), (fi), ((sT_none (by omega) (by omega) (by omega) (by omega) (fun h9 => by first | (exfalso; omega) | (rw [show (G 1 5).toInt = 0 by omega]; decide) | (omega))).cast (by decide)), (by show (((G 16 8).toInt = 0 ∧ (G 16 1).toInt + (G 16 4).toInt ≤ 6 * (G 16 5).toInt) ∨ ((G 16 8).toInt ≠ 0 ∧ (G 16 1).toInt + (G 16 4).toInt ≤ 6 * (G 16 5).toInt + 1 + (G 16 6).toInt)); (first | omega | (simp only [Int32.reduceToInt, true_and, and_true, ne_eq, not_true_eq_false, false_and, or_false, false_or, true_or, or_true, false_implies] <;> omega))), (by show (1 ≠ 0 ∨ (G 1 3).toInt ≠ 0); (first | omega | (simp only [Int32.reduceToInt, true_and, and_true, ne_eq, not_true_eq_false, false_and, or_false, false_or, true_or, or_true, false_implies] <;> omega)))⟩) rfl rfl dX3_takeToken_103
          · refine g_aload_n F 1 dX3_takeToken_77 rfl rfl ?_
            refine xg_1_5 F i_X10 w_2 dX3_takeToken_78 (G 1 5) (rfl) ?_
            refine v_if_eq F 96 dX3_takeToken_81 (by decide) (G 1 5).toInt rfl (fun c82 => ?_) (fun c82 => ?_)
            · refine g_iconst F (-1) dX3_takeToken_96 (by decide) ?_
              refine g_istore_n F [(3, .int (-1)), (0, .ref (a 16)), (1, .ref (a 1)), (2, .ref (zf 82))] dX3_takeToken_97 rfl (by decide) rfl ?_
              refine g_iload_n F 0 dX3_takeToken_98 rfl rfl ?_
              refine v_if_ge F 104 dX3_takeToken_99 (by decide) (-1) rfl (fun c83 => absurd c83 (by decide)) (fun c83 => ?_)
              refine g_iconst F 1 dX3_takeToken_102 (by decide) ?_
              exact u_iret F hA hQ hr G (⟨hI, gu_un.rf, (by decide), (fi), ((sT_none (by omega) (by omega) (by omega) (by omega) (fun h9 => by first | (exfalso; omega) | (rw [show (G 1 5).toInt = 0 by omega]; decide) | (omega))).cast (by decide)), (by show (((G 16 8).toInt = 0 ∧ (G 16 1).toInt + (G 16 4).toInt ≤ 6 * (G 16 5).toInt) ∨ ((G 16 8).toInt ≠ 0 ∧ (G 16 1).toInt + (G 16 4).toInt ≤ 6 * (G 16 5).toInt + 1 + (G 16 6).toInt)); (first | omega | (simp only [Int32.reduceToInt, true_and, and_true, ne_eq, not_true_eq_false, false_and, or_false, false_or, true_or, or_true, false_implies] <;> omega))), (by show (1 ≠ 0 ∨ (G 1 3).toInt ≠ 0); (first | omega | (simp only [Int32.reduceToInt, true_and, and_true, ne_eq, not_true_eq_false, false_and, or_false, false_or, true_or, or_true, false_implies] <;> omega)))⟩) rfl rfl dX3_takeToken_103
            · refine g_aload_n F 2 dX3_takeToken_84 rfl rfl ?_
              refine g_aload_n F 1 dX3_takeToken_85 rfl rfl ?_
              refine xg_1_5 F i_X10 w_2 dX3_takeToken_86 (G 1 5) (rfl) ?_
              refine uz_i2c F dX3_takeToken_89 (G 1 5).toInt rfl (by omega) (by omega) ?_
              refine uz_call0Vi (k := 0) (n := 0) (b := (zf 82)) (As := [.int (G 1 5)]) (st := []) F zS_st (hZ.2.2.2.2.2 12 (by decide)).2.2.2.2.2.2.2.2 (fun sz => S_J0_indexOf_0f7a4 l D (zf 82) (zf 102) _ _ (by decide) (G 1 5) (G 1 5).toInt rfl sz) (cwV 1 hts gX3_takeToken_J0_indexOf_0f7a4 rfl rfl rfl (by decide +kernel) ⟨Nat.le_of_ble_eq_true rfl, Nat.le_of_ble_eq_true rfl⟩) (hZ.2.2.2.2.2 12 (by decide)).2.2.2.2.2.2.2.2.1 rfl (Nat.le_of_ble_eq_true rfl) ⟨Nat.zero_le _, Nat.zero_le _⟩ dX3_takeToken_90 (fun r84 _ hw85 => ?_)
              have hz86 := hw85.2
              have hw85 := hw85.1
              refine g_goto F 97 dX3_takeToken_93 (by decide) ?_
              refine g_istore_n F [(3, .int r84), (0, .ref (a 16)), (1, .ref (a 1)), (2, .ref (zf 82))] dX3_takeToken_97 rfl (by decide) rfl ?_
              refine g_iload_n F 0 dX3_takeToken_98 rfl rfl ?_
              refine v_if_ge F 104 dX3_takeToken_99 (by decide) r84.toInt rfl (fun c87 => ?_) (fun c87 => ?_)
              · refine g_aload_n F 1 dX3_takeToken_104 rfl rfl ?_
                refine g_iload_n F 0 dX3_takeToken_105 rfl rfl ?_
                refine v_if_ne F 113 dX3_takeToken_106 (by decide) r84.toInt rfl (fun c88 => ?_) (fun c88 => ?_)
                · refine g_bipush F (-2) dX3_takeToken_113 (by decide) ?_
                  refine u_callVi (k := 0) (n := 0) (b := a 16) (As := [.int (-2)]) (st := []) F (fun sz => S_X3_takeOperand_16 l D K a G (-2) (-2) rfl (fi) (by (first | omega | (simp only [Int32.reduceToInt, true_and, and_true, ne_eq, not_true_eq_false, false_and, or_false, false_or, true_or, or_true, false_implies] <;> omega))) (by (first | omega | (simp only [Int32.reduceToInt, true_and, and_true, ne_eq, not_true_eq_false, false_and, or_false, false_or, true_or, or_true, false_implies] <;> omega))) hI sz) (cwV 1 hts gX3_takeToken_X3_takeOperand rfl rfl rfl (by decide +kernel) ⟨Nat.le_of_ble_eq_true rfl, Nat.le_of_ble_eq_true rfl⟩) rfl 16 xc_16 rfl (Nat.le_of_ble_eq_true rfl) ⟨Nat.zero_le _, Nat.zero_le _⟩ dX3_takeToken_115 (fun r89 G91 hw90 => ?_)
                  have hI92 : xI G91 := hw90.1
                  have hU93 : gu_un xcd [1602, 1605, 1606, 1607, 1609, 3500] G G91 := hw90.2.1
                  have hp94 := hw90.2.2
                  have q95 : xFi 16 37 G91 := hp94.2.1
                  have q96 : (sR (sOp (-2 : Int) (tkr (G 37) ((G 16 4).toInt).toNat) (G 16 6).toInt (G 16 7).toInt (G 16 5).toInt (tkr (G 35) ((G 16 1).toInt).toNat)) r89.toInt (xS 16 35 37 G91)) := hp94.2.2.1
                  have b97 : (0 : Int) ≤ (G91 16 8).toInt ∧ (G91 16 8).toInt ≤ 1 := hI92 16 8
                  have b98 : (0 : Int) ≤ (G91 16 1).toInt ∧ (G91 16 1).toInt ≤ 80 := hI92 16 1
                  have b99 : (0 : Int) ≤ (G91 16 4).toInt ∧ (G91 16 4).toInt ≤ 16 := hI92 16 4
                  have b100 : (0 : Int) ≤ (G91 16 5).toInt ∧ (G91 16 5).toInt ≤ 12 := hI92 16 5
                  have q101 : (((G91 16 8).toInt = 0 ∧ (G91 16 1).toInt + (G91 16 4).toInt ≤ 6 * (G91 16 5).toInt) ∨ ((G91 16 8).toInt ≠ 0 ∧ (G91 16 1).toInt + (G91 16 4).toInt ≤ 6 * (G91 16 5).toInt + 1 + (G91 16 6).toInt)) := hp94.2.2.2
                  have rg102 := hp94.1
                  clear hp94 hw90
                  exact u_iret F hA hQ hr G91 (⟨hI92, (gu_un.tr gu_un.rf (gu_un.su hU93 rfl)), (by have h9 := ti_rng r89; omega), (q95), (by have h8 := zIx_li (ls := 2) (hz86 (by omega)) rfl (by omega) (by omega) (Or.inr (Or.inr ⟨rfl, rfl, rfl⟩)); have h7 := sLi_rng (ls := 2) (v := (G 1 5).toInt); first | (exfalso; omega) | (rw [sT_let (li := r84.toInt) (by omega) (by omega) (by omega) (by omega), show -1 - r84.toInt = -1 by omega]; exact q96) | (rw [sT_let (li := r84.toInt) (by omega) (by omega) (by omega) (by omega), show -1 - r84.toInt = -2 by omega]; exact q96)), (by show (((G91 16 8).toInt = 0 ∧ (G91 16 1).toInt + (G91 16 4).toInt ≤ 6 * (G91 16 5).toInt) ∨ ((G91 16 8).toInt ≠ 0 ∧ (G91 16 1).toInt + (G91 16 4).toInt ≤ 6 * (G91 16 5).toInt + 1 + (G91 16 6).toInt)); (first | omega | (simp only [Int32.reduceToInt, true_and, and_true, ne_eq, not_true_eq_false, false_and, or_false, false_or, true_or, or_true, false_implies] <;> omega))), (by show (r89.toInt ≠ 0 ∨ (G 1 3).toInt ≠ 0); (first | omega | (simp only [Int32.reduceToInt, true_and, and_true, ne_eq, not_true_eq_false, false_and, or_false, false_or, true_or, or_true, false_implies] <;> omega)))⟩) rfl rfl dX3_takeToken_118
                · refine g_iconst F (-1) dX3_takeToken_109 (by decide) ?_
                  refine g_goto F 115 dX3_takeToken_110 (by decide) ?_
                  refine u_callVi (k := 0) (n := 0) (b := a 16) (As := [.int (-1)]) (st := []) F (fun sz => S_X3_takeOperand_16 l D K a G (-1) (-1) rfl (fi) (by (first | omega | (simp only [Int32.reduceToInt, true_and, and_true, ne_eq, not_true_eq_false, false_and, or_false, false_or, true_or, or_true, false_implies] <;> omega))) (by (first | omega | (simp only [Int32.reduceToInt, true_and, and_true, ne_eq, not_true_eq_false, false_and, or_false, false_or, true_or, or_true, false_implies] <;> omega))) hI sz) (cwV 1 hts gX3_takeToken_X3_takeOperand rfl rfl rfl (by decide +kernel) ⟨Nat.le_of_ble_eq_true rfl, Nat.le_of_ble_eq_true rfl⟩) rfl 16 xc_16 rfl (Nat.le_of_ble_eq_true rfl) ⟨Nat.zero_le _, Nat.zero_le _⟩ dX3_takeToken_115 (fun r103 G105 hw104 => ?_)
                  have hI106 : xI G105 := hw104.1
                  have hU107 : gu_un xcd [1602, 1605, 1606, 1607, 1609, 3500] G G105 := hw104.2.1
                  have hp108 := hw104.2.2
                  have q109 : xFi 16 37 G105 := hp108.2.1
                  have q110 : (sR (sOp (-1 : Int) (tkr (G 37) ((G 16 4).toInt).toNat) (G 16 6).toInt (G 16 7).toInt (G 16 5).toInt (tkr (G 35) ((G 16 1).toInt).toNat)) r103.toInt (xS 16 35 37 G105)) := hp108.2.2.1
                  have b111 : (0 : Int) ≤ (G105 16 8).toInt ∧ (G105 16 8).toInt ≤ 1 := hI106 16 8
                  have b112 : (0 : Int) ≤ (G105 16 1).toInt ∧ (G105 16 1).toInt ≤ 80 := hI106 16 1
                  have b113 : (0 : Int) ≤ (G105 16 4).toInt ∧ (G105 16 4).toInt ≤ 16 := hI106 16 4
                  have b114 : (0 : Int) ≤ (G105 16 5).toInt ∧ (G105 16 5).toInt ≤ 12 := hI106 16 5
                  have q115 : (((G105 16 8).toInt = 0 ∧ (G105 16 1).toInt + (G105 16 4).toInt ≤ 6 * (G105 16 5).toInt) ∨ ((G105 16 8).toInt ≠ 0 ∧ (G105 16 1).toInt + (G105 16 4).toInt ≤ 6 * (G105 16 5).toInt + 1 + (G105 16 6).toInt)) := hp108.2.2.2
                  have rg116 := hp108.1
                  clear hp108 hw104
                  exact u_iret F hA hQ hr G105 (⟨hI106, (gu_un.tr gu_un.rf (gu_un.su hU107 rfl)), (by have h9 := ti_rng r103; omega), (q109), (by have h8 := zIx_li (ls := 2) (hz86 (by omega)) rfl (by omega) (by omega) (Or.inr (Or.inr ⟨rfl, rfl, rfl⟩)); have h7 := sLi_rng (ls := 2) (v := (G 1 5).toInt); first | (exfalso; omega) | (rw [sT_let (li := r84.toInt) (by omega) (by omega) (by omega) (by omega), show -1 - r84.toInt = -1 by omega]; exact q110) | (rw [sT_let (li := r84.toInt) (by omega) (by omega) (by omega) (by omega), show -1 - r84.toInt = -2 by omega]; exact q110)), (by show (((G105 16 8).toInt = 0 ∧ (G105 16 1).toInt + (G105 16 4).toInt ≤ 6 * (G105 16 5).toInt) ∨ ((G105 16 8).toInt ≠ 0 ∧ (G105 16 1).toInt + (G105 16 4).toInt ≤ 6 * (G105 16 5).toInt + 1 + (G105 16 6).toInt)); (first | omega | (simp only [Int32.reduceToInt, true_and, and_true, ne_eq, not_true_eq_false, false_and, or_false, false_or, true_or, or_true, false_implies] <;> omega))), (by show (r103.toInt ≠ 0 ∨ (G 1 3).toInt ≠ 0); (first | omega | (simp only [Int32.reduceToInt, true_and, and_true, ne_eq, not_true_eq_false, false_and, or_false, false_or, true_or, or_true, false_implies] <;> omega)))⟩) rfl rfl dX3_takeToken_118
              · refine g_iconst F 1 dX3_takeToken_102 (by decide) ?_
                exact u_iret F hA hQ hr G (⟨hI, gu_un.rf, (by decide), (fi), ((sT_none (by omega) (by omega) (by omega) (by omega) (fun h9 => by first | (exfalso; omega) | (rw [show (G 1 5).toInt = 0 by omega]; decide) | (have h8 := zIx_li (ls := 2) (hz86 (by omega)) rfl (by omega) (by omega) (Or.inr (Or.inr ⟨rfl, rfl, rfl⟩)); have h7 := sLi_rng (ls := 2) (v := (G 1 5).toInt); omega))).cast (by decide)), (by show (((G 16 8).toInt = 0 ∧ (G 16 1).toInt + (G 16 4).toInt ≤ 6 * (G 16 5).toInt) ∨ ((G 16 8).toInt ≠ 0 ∧ (G 16 1).toInt + (G 16 4).toInt ≤ 6 * (G 16 5).toInt + 1 + (G 16 6).toInt)); (first | omega | (simp only [Int32.reduceToInt, true_and, and_true, ne_eq, not_true_eq_false, false_and, or_false, false_or, true_or, or_true, false_implies] <;> omega))), (by show (1 ≠ 0 ∨ (G 1 3).toInt ≠ 0); (first | omega | (simp only [Int32.reduceToInt, true_and, and_true, ne_eq, not_true_eq_false, false_and, or_false, false_or, true_or, or_true, false_implies] <;> omega)))⟩) rfl rfl dX3_takeToken_103
        · refine g_aload_n F 0 dX3_takeToken_60 rfl rfl ?_
          refine g_aload_n F 1 dX3_takeToken_61 rfl rfl ?_
          refine xg_1_5 F i_X10 w_2 dX3_takeToken_62 (G 1 5) (rfl) ?_
          refine u_callVi (k := 0) (n := 0) (b := a 16) (As := [.int (G 1 5)]) (st := []) F (fun sz => S_X3_takeOperand_16 l D K a G (G 1 5) (G 1 5).toInt rfl (fi) (by (first | omega | (simp only [Int32.reduceToInt, true_and, and_true, ne_eq, not_true_eq_false, false_and, or_false, false_or, true_or, or_true, false_implies] <;> omega))) (by (first | omega | (simp only [Int32.reduceToInt, true_and, and_true, ne_eq, not_true_eq_false, false_and, or_false, false_or, true_or, or_true, false_implies] <;> omega))) hI sz) (cwV 1 hts gX3_takeToken_X3_takeOperand rfl rfl rfl (by decide +kernel) ⟨Nat.le_of_ble_eq_true rfl, Nat.le_of_ble_eq_true rfl⟩) rfl 16 xc_16 rfl (Nat.le_of_ble_eq_true rfl) ⟨Nat.zero_le _, Nat.zero_le _⟩ dX3_takeToken_65 (fun r117 G119 hw118 => ?_)
          have hI120 : xI G119 := hw118.1
          have hU121 : gu_un xcd [1602, 1605, 1606, 1607, 1609, 3500] G G119 := hw118.2.1
          have hp122 := hw118.2.2
          have q123 : xFi 16 37 G119 := hp122.2.1
          have q124 : (sR (sOp (G 1 5).toInt (tkr (G 37) ((G 16 4).toInt).toNat) (G 16 6).toInt (G 16 7).toInt (G 16 5).toInt (tkr (G 35) ((G 16 1).toInt).toNat)) r117.toInt (xS 16 35 37 G119)) := hp122.2.2.1
          have b125 : (0 : Int) ≤ (G119 16 8).toInt ∧ (G119 16 8).toInt ≤ 1 := hI120 16 8
          have b126 : (0 : Int) ≤ (G119 16 1).toInt ∧ (G119 16 1).toInt ≤ 80 := hI120 16 1
          have b127 : (0 : Int) ≤ (G119 16 4).toInt ∧ (G119 16 4).toInt ≤ 16 := hI120 16 4
          have b128 : (0 : Int) ≤ (G119 16 5).toInt ∧ (G119 16 5).toInt ≤ 12 := hI120 16 5
          have q129 : (((G119 16 8).toInt = 0 ∧ (G119 16 1).toInt + (G119 16 4).toInt ≤ 6 * (G119 16 5).toInt) ∨ ((G119 16 8).toInt ≠ 0 ∧ (G119 16 1).toInt + (G119 16 4).toInt ≤ 6 * (G119 16 5).toInt + 1 + (G119 16 6).toInt)) := hp122.2.2.2
          have rg130 := hp122.1
          clear hp122 hw118
          exact u_iret F hA hQ hr G119 (⟨hI120, (gu_un.tr gu_un.rf (gu_un.su hU121 rfl)), (by have h9 := ti_rng r117; omega), (q123), (by rw [sT_num (by omega) (by omega)]; exact q124), (by show (((G119 16 8).toInt = 0 ∧ (G119 16 1).toInt + (G119 16 4).toInt ≤ 6 * (G119 16 5).toInt) ∨ ((G119 16 8).toInt ≠ 0 ∧ (G119 16 1).toInt + (G119 16 4).toInt ≤ 6 * (G119 16 5).toInt + 1 + (G119 16 6).toInt)); (first | omega | (simp only [Int32.reduceToInt, true_and, and_true, ne_eq, not_true_eq_false, false_and, or_false, false_or, true_or, or_true, false_implies] <;> omega))), (by show (r117.toInt ≠ 0 ∨ (G 1 3).toInt ≠ 0); (first | omega | (simp only [Int32.reduceToInt, true_and, and_true, ne_eq, not_true_eq_false, false_and, or_false, false_or, true_or, or_true, false_implies] <;> omega)))⟩) rfl rfl dX3_takeToken_68
  · refine g_aload_n F 0 dX3_takeToken_7 rfl rfl ?_
    refine g_aload_n F 1 dX3_takeToken_8 rfl rfl ?_
    refine u_callVi (k := 0) (n := 0) (b := a 16) (As := [.ref (a 1)]) (st := []) F (fun sz => S_X3_takeBehindOperand_16_1 l D K a G  (fi) (by (first | omega | (simp only [Int32.reduceToInt, true_and, and_true, ne_eq, not_true_eq_false, false_and, or_false, false_or, true_or, or_true, false_implies] <;> omega))) (by (first | omega | (simp only [Int32.reduceToInt, true_and, and_true, ne_eq, not_true_eq_false, false_and, or_false, false_or, true_or, or_true, false_implies] <;> omega))) hI sz) (cwV 1 hts gX3_takeToken_X3_takeBehindOperand rfl rfl rfl (by decide +kernel) ⟨Nat.le_of_ble_eq_true rfl, Nat.le_of_ble_eq_true rfl⟩) rfl 16 xc_16 rfl (Nat.le_of_ble_eq_true rfl) ⟨Nat.zero_le _, Nat.zero_le _⟩ dX3_takeToken_9 (fun r131 G133 hw132 => ?_)
    have hI134 : xI G133 := hw132.1
    have hU135 : gu_un xcd [1602, 1605, 1607, 1608, 1609, 3500, 3700] G G133 := hw132.2.1
    have hp136 := hw132.2.2
    have q137 : xFi 16 37 G133 := hp136.2.1
    have q138 : (∀ ls : Int, sR (sT ls (G 1 3).toInt (G 1 5).toInt (G 16 8).toInt (tkr (G 37) ((G 16 4).toInt).toNat) (G 16 6).toInt (G 16 7).toInt (G 16 5).toInt (tkr (G 35) ((G 16 1).toInt).toNat)) r131.toInt (xS 16 35 37 G133)) := hp136.2.2.1
    have b139 : (0 : Int) ≤ (G133 16 8).toInt ∧ (G133 16 8).toInt ≤ 1 := hI134 16 8
    have b140 : (0 : Int) ≤ (G133 16 1).toInt ∧ (G133 16 1).toInt ≤ 80 := hI134 16 1
    have b141 : (0 : Int) ≤ (G133 16 4).toInt ∧ (G133 16 4).toInt ≤ 16 := hI134 16 4
    have q142 : (((G133 16 8).toInt = 0 ∧ (G133 16 1).toInt + (G133 16 4).toInt ≤ 6 * (G 16 5).toInt) ∨ ((G133 16 8).toInt ≠ 0 ∧ (G133 16 1).toInt + (G133 16 4).toInt ≤ 6 * (G 16 5).toInt + 1 + (G133 16 6).toInt)) := by have h9 := hp136.2.2.2.1; (try simp only [(show G133 16 5 = (G 16 5) from hU135 16 5 (by decide)), (show G133 16 5 = (G 16 5) from hU135 16 5 (by decide))] at h9); first | exact h9 | omega
    have q143 : (r131.toInt ≠ 0 ∨ (G 1 3).toInt ≠ 0) := hp136.2.2.2.2
    have rg144 := hp136.1
    clear hp136 hw132
    exact u_iret F hA hQ hr G133 (⟨hI134, (gu_un.tr gu_un.rf (gu_un.su hU135 rfl)), (by have h9 := ti_rng r131; omega), (q137), (q138 2), (by show (((G133 16 8).toInt = 0 ∧ (G133 16 1).toInt + (G133 16 4).toInt ≤ 6 * (G133 16 5).toInt) ∨ ((G133 16 8).toInt ≠ 0 ∧ (G133 16 1).toInt + (G133 16 4).toInt ≤ 6 * (G133 16 5).toInt + 1 + (G133 16 6).toInt)); have e9_16_5 : G133 16 5 = (G 16 5) := hU135 16 5 (by decide); (try simp only [e9_16_5, true_and, and_true]) <;> (first | omega | (simp only [Int32.reduceToInt, true_and, and_true, ne_eq, not_true_eq_false, false_and, or_false, false_or, true_or, or_true, false_implies] <;> omega))), (by show (r131.toInt ≠ 0 ∨ (G 1 3).toInt ≠ 0); (first | omega | (simp only [Int32.reduceToInt, true_and, and_true, ne_eq, not_true_eq_false, false_and, or_false, false_or, true_or, or_true, false_implies] <;> omega)))⟩) rfl rfl dX3_takeToken_12
