theorem dX3_mayEnd_0 : decode cX3_mayEnd 0 = .ok (.aload_n 0, 1) := by decide +kernel
theorem dX3_mayEnd_1 : decode cX3_mayEnd 1 = .ok (.getfield 47, 3) := by decide +kernel
theorem dX3_mayEnd_4 : decode cX3_mayEnd 4 = .ok (.ifCond .ne 14, 3) := by decide +kernel
theorem dX3_mayEnd_7 : decode cX3_mayEnd 7 = .ok (.aload_n 0, 1) := by decide +kernel
theorem dX3_mayEnd_8 : decode cX3_mayEnd 8 = .ok (.getfield 44, 3) := by decide +kernel
theorem dX3_mayEnd_11 : decode cX3_mayEnd 11 = .ok (.ifCond .ne 7, 3) := by decide +kernel
theorem dX3_mayEnd_14 : decode cX3_mayEnd 14 = .ok (.iconst 1, 1) := by decide +kernel
theorem dX3_mayEnd_15 : decode cX3_mayEnd 15 = .ok (.goto 4, 3) := by decide +kernel
theorem dX3_mayEnd_18 : decode cX3_mayEnd 18 = .ok (.iconst 0, 1) := by decide +kernel
theorem dX3_mayEnd_19 : decode cX3_mayEnd 19 = .ok (.ireturn, 1) := by decide +kernel
set_option maxHeartbeats 4000000 in
set_option maxRecDepth 100000 in
theorem S_X3_mayEnd_14 (l : Launch) (D : va_G) (K : Nat → ClassId) (a : Nat → Nat) (G : gS) (hI : xI G) (sz : Nat) : Ki l yX3_mayEnd wsX3_mayEnd 1 40 0 0 D [.ref (a 14)] (xW K a G) (tK K) sz (fun (r : Int32) (_ : Unit) => (0 ≤ r.toInt ∧ r.toInt ≤ 1) ∧ ((r.toInt = 0 ∨ (G 14 8).toInt = 0))) (fun (_ : Unit) => (xW K a G)) (fun _ => (tK K)) := by
  unfold Ki
  refine g_ofW (cc := cX3_mayEnd) (lv := [(0, .ref (a 14))]) (by decide) rfl (Nat.le_of_ble_eq_true rfl) rfl ?_
  intro p e s m args below meth c A Q hA hQ F hr hnm
  have hts := F.2.2.2.2.1
  have w_0 : (Cond.fieldLink RX3 47 "QuietCut$Formula" "wantsOperand" "Z").before args s = true := hts _ (List.mem_of_getElem? (i := 1) rfl)
  have i_X3 : ∀ w ∈ u_ws RX3 TX3 9, w ∈ wsX3_mayEnd := fun _ h => List.mem_cons_of_mem _ (List.mem_append_right _ h)
  have w_1 : (Cond.fieldLink RX3 44 "QuietCut$Formula" "parentheses" "I").before args s = true := hts _ (List.mem_of_getElem? (i := 2) rfl)
  refine g_aload_n F 0 dX3_mayEnd_0 rfl rfl ?_
  refine xg_14_8 F i_X3 w_0 dX3_mayEnd_1 (G 14 8) (rfl) ?_
  have b1 : (0 : Int) ≤ (G 14 8).toInt ∧ (G 14 8).toInt ≤ 1 := hI 14 8
  refine v_if_ne F 18 dX3_mayEnd_4 (by decide) (G 14 8).toInt rfl (fun c2 => ?_) (fun c2 => ?_)
  · refine g_iconst F 0 dX3_mayEnd_18 (by decide) ?_
    exact u_zret F hA hQ hr rfl () (⟨(by decide), (by show (0 = 0 ∨ (G 14 8).toInt = 0); (first | omega | (simp only [Int32.reduceToInt, true_and, and_true, ne_eq, not_true_eq_false, false_and, or_false, false_or, true_or, or_true, false_implies] <;> omega)))⟩) rfl rfl dX3_mayEnd_19
  · refine g_aload_n F 0 dX3_mayEnd_7 rfl rfl ?_
    refine xg_14_7 F i_X3 w_1 dX3_mayEnd_8 (G 14 7) (rfl) ?_
    refine v_if_ne F 18 dX3_mayEnd_11 (by decide) (G 14 7).toInt rfl (fun c3 => ?_) (fun c3 => ?_)
    · refine g_iconst F 0 dX3_mayEnd_18 (by decide) ?_
      exact u_zret F hA hQ hr rfl () (⟨(by decide), (by show (0 = 0 ∨ (G 14 8).toInt = 0); (first | omega | (simp only [Int32.reduceToInt, true_and, and_true, ne_eq, not_true_eq_false, false_and, or_false, false_or, true_or, or_true, false_implies] <;> omega)))⟩) rfl rfl dX3_mayEnd_19
    · refine g_iconst F 1 dX3_mayEnd_14 (by decide) ?_
      refine g_goto F 19 dX3_mayEnd_15 (by decide) ?_
      exact u_zret F hA hQ hr rfl () (⟨(by decide), (by show (1 = 0 ∨ (G 14 8).toInt = 0); (first | omega | (simp only [Int32.reduceToInt, true_and, and_true, ne_eq, not_true_eq_false, false_and, or_false, false_or, true_or, or_true, false_implies] <;> omega)))⟩) rfl rfl dX3_mayEnd_19

theorem dX3_finish_0 : decode cX3_finish 0 = .ok (.aload_n 0, 1) := by decide +kernel
theorem dX3_finish_1 : decode cX3_finish 1 = .ok (.iconst 1, 1) := by decide +kernel
theorem dX3_finish_2 : decode cX3_finish 2 = .ok (.invokevirtual 51, 3) := by decide +kernel
theorem dX3_finish_5 : decode cX3_finish 5 = .ok (.return_, 1) := by decide +kernel
set_option maxRecDepth 20000 in
theorem ggX3_finish_X3_joinDownTo : GoodIn wsX3_finish wsX3_joinDownTo := goodIn_r _ [5, 6, 7, 8, 9, 4, 10, 11, 12, 13, 14, 15, 16, 17, 18, 19, 20, 21, 22, 23, 24, 25, 26, 27, 28] rfl (by decide +kernel)
set_option maxRecDepth 20000 in
theorem gX3_finish_X3_joinDownTo : GoodIn wsX3_finish (wsV RX3 51 RX3 yX3_joinDownTo wsX3_joinDownTo) := goodIn_app (goodIn_of _ (by decide +kernel)) ggX3_finish_X3_joinDownTo
set_option maxHeartbeats 4000000 in
set_option maxRecDepth 100000 in
theorem S_X3_finish_14 (l : Launch) (D : va_G) (K : Nat → ClassId) (a : Nat → Nat) (G : gS) (jq : (∃ t, xQ (G 31) (G 14 4).toInt (G 14 6).toInt (G 14 7).toInt t ∧ 0 ≤ t)) (hI : xI G) (sz : Nat) : Kv l yX3_finish wsX3_finish 3 82 0 0 D [.ref (a 14)] (xW K a G) (tK K) sz (fun (G' : gS) => (xI G') ∧ (gu_un xcd [1402, 1405, 2900] G G') ∧ ((∃ t, xQ (G 31) (G' 14 4).toInt (G 14 6).toInt (G 14 7).toInt t ∧ 0 ≤ t ∧ t < 1))) (fun (G' : gS) => (xW K a G')) (fun _ => (tK K)) := by
  unfold Kv
  refine g_ofW (cc := cX3_finish) (lv := [(0, .ref (a 14))]) (by decide) rfl (Nat.le_of_ble_eq_true rfl) rfl ?_
  intro p e s m args below meth c A Q hA hQ F hr hnm
  have hts := F.2.2.2.2.1
  refine g_aload_n F 0 dX3_finish_0 rfl rfl ?_
  refine g_iconst F 1 dX3_finish_1 (by decide) ?_
  refine u_callVv (k := 0) (n := 0) (b := a 14) (As := [.int 1]) (st := []) F (fun sz => S_X3_joinDownTo_14 l D K a G 1 1 rfl (by decide) (jq) hI sz) (cwV 1 hts gX3_finish_X3_joinDownTo rfl rfl rfl (by decide +kernel) ⟨Nat.le_of_ble_eq_true rfl, Nat.le_of_ble_eq_true rfl⟩) rfl 14 xc_14 rfl (Nat.le_of_ble_eq_true rfl) ⟨Nat.zero_le _, Nat.zero_le _⟩ dX3_finish_2 (fun G3 hw2 => ?_)
  have hI4 : xI G3 := hw2.1
  have hU5 : gu_un xcd [1402, 1405, 2900] G G3 := hw2.2.1
  have hp6 := hw2.2.2
  have b7 : (0 : Int) ≤ (G3 14 4).toInt ∧ (G3 14 4).toInt ≤ 16 := hI4 14 4
  have q8 : (∃ t, xQ (G 31) (G3 14 4).toInt (G 14 6).toInt (G 14 7).toInt t ∧ 0 ≤ t ∧ t < (1 : Int)) := hp6
  exact u_vret F hA hQ hr G3 (⟨hI4, (gu_un.tr gu_un.rf (gu_un.su hU5 rfl)), (q8)⟩) rfl rfl dX3_finish_5

theorem dX3_takeToken_0 : decode cX3_takeToken 0 = .ok (.aload_n 0, 1) := by decide +kernel
theorem dX3_takeToken_1 : decode cX3_takeToken 1 = .ok (.getfield 47, 3) := by decide +kernel
theorem dX3_takeToken_4 : decode cX3_takeToken 4 = .ok (.ifCond .ne 9, 3) := by decide +kernel
theorem dX3_takeToken_7 : decode cX3_takeToken 7 = .ok (.aload_n 0, 1) := by decide +kernel
theorem dX3_takeToken_8 : decode cX3_takeToken 8 = .ok (.aload_n 1, 1) := by decide +kernel
theorem dX3_takeToken_9 : decode cX3_takeToken 9 = .ok (.invokevirtual 54, 3) := by decide +kernel
theorem dX3_takeToken_12 : decode cX3_takeToken 12 = .ok (.ireturn, 1) := by decide +kernel
theorem dX3_takeToken_13 : decode cX3_takeToken 13 = .ok (.aload_n 1, 1) := by decide +kernel
theorem dX3_takeToken_14 : decode cX3_takeToken 14 = .ok (.bipush 40, 2) := by decide +kernel
theorem dX3_takeToken_16 : decode cX3_takeToken 16 = .ok (.invokevirtual 58, 3) := by decide +kernel
theorem dX3_takeToken_19 : decode cX3_takeToken 19 = .ok (.ifCond .ne 12, 3) := by decide +kernel
theorem dX3_takeToken_22 : decode cX3_takeToken 22 = .ok (.aload_n 1, 1) := by decide +kernel
theorem dX3_takeToken_23 : decode cX3_takeToken 23 = .ok (.bipush 45, 2) := by decide +kernel
theorem dX3_takeToken_25 : decode cX3_takeToken 25 = .ok (.invokevirtual 58, 3) := by decide +kernel
theorem dX3_takeToken_28 : decode cX3_takeToken 28 = .ok (.ifCond .eq 24, 3) := by decide +kernel
theorem dX3_takeToken_31 : decode cX3_takeToken 31 = .ok (.aload_n 0, 1) := by decide +kernel
theorem dX3_takeToken_32 : decode cX3_takeToken 32 = .ok (.aload_n 1, 1) := by decide +kernel
theorem dX3_takeToken_33 : decode cX3_takeToken 33 = .ok (.bipush 40, 2) := by decide +kernel
theorem dX3_takeToken_35 : decode cX3_takeToken 35 = .ok (.invokevirtual 58, 3) := by decide +kernel
theorem dX3_takeToken_38 : decode cX3_takeToken 38 = .ok (.ifCond .eq 8, 3) := by decide +kernel
theorem dX3_takeToken_41 : decode cX3_takeToken 41 = .ok (.bipush 40, 2) := by decide +kernel
theorem dX3_takeToken_43 : decode cX3_takeToken 43 = .ok (.goto 5, 3) := by decide +kernel
theorem dX3_takeToken_46 : decode cX3_takeToken 46 = .ok (.bipush (-3), 2) := by decide +kernel
theorem dX3_takeToken_48 : decode cX3_takeToken 48 = .ok (.invokevirtual 64, 3) := by decide +kernel
theorem dX3_takeToken_51 : decode cX3_takeToken 51 = .ok (.ireturn, 1) := by decide +kernel
theorem dX3_takeToken_52 : decode cX3_takeToken 52 = .ok (.aload_n 1, 1) := by decide +kernel
theorem dX3_takeToken_53 : decode cX3_takeToken 53 = .ok (.getfield 68, 3) := by decide +kernel
theorem dX3_takeToken_56 : decode cX3_takeToken 56 = .ok (.iconst 2, 1) := by decide +kernel
theorem dX3_takeToken_57 : decode cX3_takeToken 57 = .ok (.if_icmp .ne 12, 3) := by decide +kernel
theorem dX3_takeToken_60 : decode cX3_takeToken 60 = .ok (.aload_n 0, 1) := by decide +kernel
theorem dX3_takeToken_61 : decode cX3_takeToken 61 = .ok (.aload_n 1, 1) := by decide +kernel
theorem dX3_takeToken_62 : decode cX3_takeToken 62 = .ok (.getfield 71, 3) := by decide +kernel
theorem dX3_takeToken_65 : decode cX3_takeToken 65 = .ok (.invokevirtual 74, 3) := by decide +kernel
theorem dX3_takeToken_68 : decode cX3_takeToken 68 = .ok (.ireturn, 1) := by decide +kernel
theorem dX3_takeToken_69 : decode cX3_takeToken 69 = .ok (.aload_n 1, 1) := by decide +kernel
theorem dX3_takeToken_70 : decode cX3_takeToken 70 = .ok (.getfield 68, 3) := by decide +kernel
theorem dX3_takeToken_73 : decode cX3_takeToken 73 = .ok (.iconst 1, 1) := by decide +kernel
theorem dX3_takeToken_74 : decode cX3_takeToken 74 = .ok (.if_icmp .ne 22, 3) := by decide +kernel
theorem dX3_takeToken_77 : decode cX3_takeToken 77 = .ok (.aload_n 1, 1) := by decide +kernel
theorem dX3_takeToken_78 : decode cX3_takeToken 78 = .ok (.getfield 71, 3) := by decide +kernel
theorem dX3_takeToken_81 : decode cX3_takeToken 81 = .ok (.ifCond .eq 15, 3) := by decide +kernel
theorem dX3_takeToken_84 : decode cX3_takeToken 84 = .ok (.aload_n 2, 1) := by decide +kernel
theorem dX3_takeToken_85 : decode cX3_takeToken 85 = .ok (.aload_n 1, 1) := by decide +kernel
theorem dX3_takeToken_86 : decode cX3_takeToken 86 = .ok (.getfield 71, 3) := by decide +kernel
theorem dX3_takeToken_89 : decode cX3_takeToken 89 = .ok (.i2c, 1) := by decide +kernel
theorem dX3_takeToken_90 : decode cX3_takeToken 90 = .ok (.invokevirtual 77, 3) := by decide +kernel
theorem dX3_takeToken_93 : decode cX3_takeToken 93 = .ok (.goto 4, 3) := by decide +kernel
theorem dX3_takeToken_96 : decode cX3_takeToken 96 = .ok (.iconst (-1), 1) := by decide +kernel
theorem dX3_takeToken_97 : decode cX3_takeToken 97 = .ok (.istore_n 3, 1) := by decide +kernel
theorem dX3_takeToken_98 : decode cX3_takeToken 98 = .ok (.iload_n 3, 1) := by decide +kernel
theorem dX3_takeToken_99 : decode cX3_takeToken 99 = .ok (.ifCond .ge 5, 3) := by decide +kernel
theorem dX3_takeToken_102 : decode cX3_takeToken 102 = .ok (.iconst 1, 1) := by decide +kernel
theorem dX3_takeToken_103 : decode cX3_takeToken 103 = .ok (.ireturn, 1) := by decide +kernel
theorem dX3_takeToken_104 : decode cX3_takeToken 104 = .ok (.aload_n 0, 1) := by decide +kernel
theorem dX3_takeToken_105 : decode cX3_takeToken 105 = .ok (.iload_n 3, 1) := by decide +kernel
theorem dX3_takeToken_106 : decode cX3_takeToken 106 = .ok (.ifCond .ne 7, 3) := by decide +kernel
theorem dX3_takeToken_109 : decode cX3_takeToken 109 = .ok (.iconst (-1), 1) := by decide +kernel
theorem dX3_takeToken_110 : decode cX3_takeToken 110 = .ok (.goto 5, 3) := by decide +kernel
theorem dX3_takeToken_113 : decode cX3_takeToken 113 = .ok (.bipush (-2), 2) := by decide +kernel
theorem dX3_takeToken_115 : decode cX3_takeToken 115 = .ok (.invokevirtual 74, 3) := by decide +kernel
theorem dX3_takeToken_118 : decode cX3_takeToken 118 = .ok (.ireturn, 1) := by decide +kernel
set_option maxRecDepth 20000 in
theorem ggX3_takeToken_J0_indexOf_0f7a4 : GoodIn wsX3_takeToken wsJ0_indexOf_0f7a4 := goodIn_r _ [57, 58, 59, 60, 56, 61, 62, 63, 64, 65, 66, 67, 68, 69, 70, 71, 72, 73, 74, 75, 76, 77, 78, 79, 80, 81, 82, 83, 84, 85, 86, 87, 88, 89, 90, 91, 92, 93, 94, 95, 96, 97, 98, 99, 100, 101, 102, 103, 104, 105, 106, 107, 108, 109, 110, 111, 112, 113, 114, 115, 116, 117, 118, 119, 120, 121, 122, 123, 124, 125, 126, 127, 128, 129, 130, 131, 132, 133, 134, 135, 136, 137, 138, 139, 140, 141] rfl (by decide +kernel)
set_option maxRecDepth 20000 in
theorem gX3_takeToken_J0_indexOf_0f7a4 : GoodIn wsX3_takeToken (wsV RX3 77 RJ0 yJ0_indexOf_0f7a4 wsJ0_indexOf_0f7a4) := goodIn_app (goodIn_of _ (by decide +kernel)) ggX3_takeToken_J0_indexOf_0f7a4
set_option maxRecDepth 20000 in
theorem ggX3_takeToken_X10_isSign : GoodIn wsX3_takeToken wsX10_isSign := goodIn_r _ [16, 17, 18, 151, 152, 153, 154, 155, 156] rfl (by decide +kernel)
set_option maxRecDepth 20000 in
theorem gX3_takeToken_X10_isSign : GoodIn wsX3_takeToken (wsV RX3 58 RX10 yX10_isSign wsX10_isSign) := goodIn_app (goodIn_of _ (by decide +kernel)) ggX3_takeToken_X10_isSign
set_option maxRecDepth 20000 in
theorem ggX3_takeToken_X3_takeBehindOperand : GoodIn wsX3_takeToken wsX3_takeBehindOperand := goodIn_r _ [8, 9, 10, 11, 2, 3, 1, 12, 13, 14, 15, 16, 17, 18, 19, 20, 21, 7, 22, 23, 24, 25, 26, 27, 28, 29, 30, 31, 32, 33, 34, 35, 36, 37, 38, 39, 40, 41, 42, 43, 142, 143, 144, 145, 146, 147, 148, 149, 150, 151, 152, 153, 154, 155, 156] rfl (by decide +kernel)
set_option maxRecDepth 20000 in
theorem gX3_takeToken_X3_takeBehindOperand : GoodIn wsX3_takeToken (wsV RX3 54 RX3 yX3_takeBehindOperand wsX3_takeBehindOperand) := goodIn_app (goodIn_of _ (by decide +kernel)) ggX3_takeToken_X3_takeBehindOperand
set_option maxRecDepth 20000 in
theorem ggX3_takeToken_X3_takeOpening : GoodIn wsX3_takeToken wsX3_takeOpening := goodIn_r _ [47, 11, 9, 40, 41, 42, 7, 43, 10, 23, 142, 143, 144, 145, 146, 147, 148, 149, 150] rfl (by decide +kernel)
set_option maxRecDepth 20000 in
theorem gX3_takeToken_X3_takeOpening : GoodIn wsX3_takeToken (wsV RX3 64 RX3 yX3_takeOpening wsX3_takeOpening) := goodIn_app (goodIn_of _ (by decide +kernel)) ggX3_takeToken_X3_takeOpening
set_option maxRecDepth 20000 in
theorem ggX3_takeToken_X3_takeOperand : GoodIn wsX3_takeToken wsX3_takeOperand := goodIn_r _ [51, 52, 1, 30, 31, 32, 7, 33, 34, 35, 36, 37, 38, 39, 10, 23, 11, 142, 143, 144, 145, 146, 147, 148, 149, 150] rfl (by decide +kernel)
set_option maxRecDepth 20000 in
theorem gX3_takeToken_X3_takeOperand : GoodIn wsX3_takeToken (wsV RX3 74 RX3 yX3_takeOperand wsX3_takeOperand) := goodIn_app (goodIn_of _ (by decide +kernel)) ggX3_takeToken_X3_takeOperand
set_option maxHeartbeats 4000000 in
set_option maxRecDepth 100000 in
theorem S_X3_takeToken_14_1_L10 (l : Launch) (D : va_G) (K : Nat → ClassId) (a : Nat → Nat) (G : gS) (zf : Nat → Nat) (fi : xFi 14 31 G) (hI : xI G) (sz : Nat) : KiZ (xZ zf) l yX3_takeToken wsX3_takeToken 5 131 D [.ref (a 14), .ref (a 1), .ref (zf 80)] (xW K a G) (tK K) sz (fun (r : Int32) (G' : gS) => (xI G') ∧ (gu_un xcd [1402, 1405, 1406, 1407, 1408, 1409, 2900, 3100] G G') ∧ (0 ≤ r.toInt ∧ r.toInt ≤ 4) ∧ (xFi 14 31 G')) (fun (G' : gS) => (xW K a G')) := by
  unfold KiZ
  refine gz_ofW (cc := cX3_takeToken) (lv := [(0, .ref (a 14)), (1, .ref (a 1)), (2, .ref (zf 80))]) (by decide) rfl (Nat.le_of_ble_eq_true rfl) rfl ?_
  intro p e s m args below meth c A Q hA hQ hZ F hr hnm
  have hts := F.2.2.2.2.1
  have w_0 : (Cond.fieldLink RX3 47 "QuietCut$Formula" "wantsOperand" "Z").before args s = true := hts _ (List.mem_of_getElem? (i := 1) rfl)
  have i_X3 : ∀ w ∈ u_ws RX3 TX3 9, w ∈ wsX3_takeToken := fun _ h => List.mem_cons_of_mem _ (List.mem_append_left _ (List.mem_append_right _ h))
  have w_1 : (Cond.fieldLink RX3 68 "QuietCut$Tape" "kind" "I").before args s = true := hts _ (List.mem_of_getElem? (i := 2) rfl)
  have i_X10 : ∀ w ∈ u_ws RX10 TX10 6, w ∈ wsX3_takeToken := fun _ h => List.mem_cons_of_mem _ (List.mem_append_right _ h)
  have w_2 : (Cond.fieldLink RX3 71 "QuietCut$Tape" "value" "I").before args s = true := hts _ (List.mem_of_getElem? (i := 3) rfl)
  refine g_aload_n F 0 dX3_takeToken_0 rfl rfl ?_
  refine xg_14_8 F i_X3 w_0 dX3_takeToken_1 (G 14 8) (rfl) ?_
  have b1 : (0 : Int) ≤ (G 14 8).toInt ∧ (G 14 8).toInt ≤ 1 := hI 14 8
  refine v_if_ne F 13 dX3_takeToken_4 (by decide) (G 14 8).toInt rfl (fun c2 => ?_) (fun c2 => ?_)
  · refine g_aload_n F 1 dX3_takeToken_13 rfl rfl ?_
    refine g_bipush F 40 dX3_takeToken_14 (by decide) ?_
    refine u_callVi (k := 0) (n := 0) (b := a 1) (As := [.int 40]) (st := []) F (fun sz => S_X10_isSign l D K a G 40 40 rfl hI sz) (cwV 1 hts gX3_takeToken_X10_isSign rfl rfl rfl (by decide +kernel) ⟨Nat.le_of_ble_eq_true rfl, Nat.le_of_ble_eq_true rfl⟩) rfl 1 xc_1 rfl (Nat.le_of_ble_eq_true rfl) ⟨Nat.zero_le _, Nat.zero_le _⟩ dX3_takeToken_16 (fun r3 _ hw4 => ?_)
    refine v_if_ne F 31 dX3_takeToken_19 (by decide) r3.toInt rfl (fun c6 => ?_) (fun c6 => ?_)
    · refine g_aload_n F 0 dX3_takeToken_31 rfl rfl ?_
      refine g_aload_n F 1 dX3_takeToken_32 rfl rfl ?_
      refine g_bipush F 40 dX3_takeToken_33 (by decide) ?_
      refine u_callVi (k := 0) (n := 0) (b := a 1) (As := [.int 40]) (st := [.ref (a 14)]) F (fun sz => S_X10_isSign l D K a G 40 40 rfl hI sz) (cwV 1 hts gX3_takeToken_X10_isSign rfl rfl rfl (by decide +kernel) ⟨Nat.le_of_ble_eq_true rfl, Nat.le_of_ble_eq_true rfl⟩) rfl 1 xc_1 rfl (Nat.le_of_ble_eq_true rfl) ⟨Nat.zero_le _, Nat.zero_le _⟩ dX3_takeToken_35 (fun r7 _ hw8 => ?_)
      refine v_if_eq F 46 dX3_takeToken_38 (by decide) r7.toInt rfl (fun c10 => ?_) (fun c10 => ?_)
      · refine g_bipush F (-3) dX3_takeToken_46 (by decide) ?_
        refine u_callVi (k := 0) (n := 0) (b := a 14) (As := [.int (-3)]) (st := []) F (fun sz => S_X3_takeOpening_14_m3 l D K a G  (fi) (by (first | omega | (simp only [Int32.reduceToInt, true_and, and_true, ne_eq, not_true_eq_false, false_and, or_false, false_or, true_or, or_true, false_implies] <;> omega))) hI sz) (cwV 1 hts gX3_takeToken_X3_takeOpening rfl rfl rfl (by decide +kernel) ⟨Nat.le_of_ble_eq_true rfl, Nat.le_of_ble_eq_true rfl⟩) rfl 14 xc_14 rfl (Nat.le_of_ble_eq_true rfl) ⟨Nat.zero_le _, Nat.zero_le _⟩ dX3_takeToken_48 (fun r11 G13 hw12 => ?_)
        have hI14 : xI G13 := hw12.1
        have hU15 : gu_un xcd [1405, 1407, 3100] G G13 := hw12.2.1
        have hp16 := hw12.2.2
        have q17 : xFi 14 31 G13 := hp16.2
        exact u_iret F hA hQ hr G13 (⟨hI14, (gu_un.tr gu_un.rf (gu_un.su hU15 rfl)), (by have h9 := ti_rng r11; omega), (q17)⟩) rfl rfl dX3_takeToken_51
      · refine g_bipush F 40 dX3_takeToken_41 (by decide) ?_
        refine g_goto F 48 dX3_takeToken_43 (by decide) ?_
        refine u_callVi (k := 0) (n := 0) (b := a 14) (As := [.int 40]) (st := []) F (fun sz => S_X3_takeOpening_14_v40 l D K a G  (fi) (by (first | omega | (simp only [Int32.reduceToInt, true_and, and_true, ne_eq, not_true_eq_false, false_and, or_false, false_or, true_or, or_true, false_implies] <;> omega))) hI sz) (cwV 1 hts gX3_takeToken_X3_takeOpening rfl rfl rfl (by decide +kernel) ⟨Nat.le_of_ble_eq_true rfl, Nat.le_of_ble_eq_true rfl⟩) rfl 14 xc_14 rfl (Nat.le_of_ble_eq_true rfl) ⟨Nat.zero_le _, Nat.zero_le _⟩ dX3_takeToken_48 (fun r18 G20 hw19 => ?_)
        have hI21 : xI G20 := hw19.1
        have hU22 : gu_un xcd [1405, 1407, 1408, 3100] G G20 := hw19.2.1
        have hp23 := hw19.2.2
        have q24 : xFi 14 31 G20 := hp23.2
        exact u_iret F hA hQ hr G20 (⟨hI21, (gu_un.tr gu_un.rf (gu_un.su hU22 rfl)), (by have h9 := ti_rng r18; omega), (q24)⟩) rfl rfl dX3_takeToken_51
    · refine g_aload_n F 1 dX3_takeToken_22 rfl rfl ?_
      refine g_bipush F 45 dX3_takeToken_23 (by decide) ?_
      refine u_callVi (k := 0) (n := 0) (b := a 1) (As := [.int 45]) (st := []) F (fun sz => S_X10_isSign l D K a G 45 45 rfl hI sz) (cwV 1 hts gX3_takeToken_X10_isSign rfl rfl rfl (by decide +kernel) ⟨Nat.le_of_ble_eq_true rfl, Nat.le_of_ble_eq_true rfl⟩) rfl 1 xc_1 rfl (Nat.le_of_ble_eq_true rfl) ⟨Nat.zero_le _, Nat.zero_le _⟩ dX3_takeToken_25 (fun r25 _ hw26 => ?_)
      refine v_if_eq F 52 dX3_takeToken_28 (by decide) r25.toInt rfl (fun c28 => ?_) (fun c28 => ?_)
      · refine g_aload_n F 1 dX3_takeToken_52 rfl rfl ?_
        refine xg_1_3 F i_X10 w_1 dX3_takeToken_53 (G 1 3) (rfl) ?_
        refine g_iconst F 2 dX3_takeToken_56 (by decide) ?_
        have b29 : (0 : Int) ≤ (G 1 3).toInt ∧ (G 1 3).toInt ≤ 4 := hI 1 3
        refine v_icmp_ne F 69 dX3_takeToken_57 (by decide) (G 1 3).toInt 2 rfl rfl (fun c30 => ?_) (fun c30 => ?_)
        · refine g_aload_n F 1 dX3_takeToken_69 rfl rfl ?_
          refine xg_1_3 F i_X10 w_1 dX3_takeToken_70 (G 1 3) (rfl) ?_
          refine g_iconst F 1 dX3_takeToken_73 (by decide) ?_
          refine v_icmp_ne F 96 dX3_takeToken_74 (by decide) (G 1 3).toInt 1 rfl rfl (fun c31 => ?_) (fun c31 => ?_)
          · refine g_iconst F (-1) dX3_takeToken_96 (by decide) ?_
            refine g_istore_n F [(3, .int (-1)), (0, .ref (a 14)), (1, .ref (a 1)), (2, .ref (zf 80))] dX3_takeToken_97 rfl (by decide) rfl ?_
            refine g_iload_n F 0 dX3_takeToken_98 rfl rfl ?_
            refine v_if_ge F 104 dX3_takeToken_99 (by decide) (-1) rfl (fun c32 => absurd c32 (by decide)) (fun c32 => ?_)
            refine g_iconst F 1 dX3_takeToken_102 (by decide) ?_
            exact u_iret F hA hQ hr G (⟨hI, gu_un.rf, (by decide), (fi)⟩) rfl rfl dX3_takeToken_103
          · refine g_aload_n F 1 dX3_takeToken_77 rfl rfl ?_
            refine xg_1_5 F i_X10 w_2 dX3_takeToken_78 (G 1 5) (rfl) ?_
            refine v_if_eq F 96 dX3_takeToken_81 (by decide) (G 1 5).toInt rfl (fun c33 => ?_) (fun c33 => ?_)
            · refine g_iconst F (-1) dX3_takeToken_96 (by decide) ?_
              refine g_istore_n F [(3, .int (-1)), (0, .ref (a 14)), (1, .ref (a 1)), (2, .ref (zf 80))] dX3_takeToken_97 rfl (by decide) rfl ?_
              refine g_iload_n F 0 dX3_takeToken_98 rfl rfl ?_
              refine v_if_ge F 104 dX3_takeToken_99 (by decide) (-1) rfl (fun c34 => absurd c34 (by decide)) (fun c34 => ?_)
              refine g_iconst F 1 dX3_takeToken_102 (by decide) ?_
              exact u_iret F hA hQ hr G (⟨hI, gu_un.rf, (by decide), (fi)⟩) rfl rfl dX3_takeToken_103
            · refine g_aload_n F 2 dX3_takeToken_84 rfl rfl ?_
              refine g_aload_n F 1 dX3_takeToken_85 rfl rfl ?_
              refine xg_1_5 F i_X10 w_2 dX3_takeToken_86 (G 1 5) (rfl) ?_
              refine u0_i2c F dX3_takeToken_89 (fun y35 => ?_)
              refine uz_call0Vi (k := 0) (n := 0) (b := (zf 80)) (As := [.int y35]) (st := []) F zS_st (hZ.2.2.2.2.2 10 (by decide)).2.2.2.2.2.2.2.2 (fun sz => S_J0_indexOf_0f7a4 l D (zf 80) (zf 100) _ _ (by decide) y35 y35.toInt rfl sz) (cwV 1 hts gX3_takeToken_J0_indexOf_0f7a4 rfl rfl rfl (by decide +kernel) ⟨Nat.le_of_ble_eq_true rfl, Nat.le_of_ble_eq_true rfl⟩) (hZ.2.2.2.2.2 10 (by decide)).2.2.2.2.2.2.2.2.1 rfl (Nat.le_of_ble_eq_true rfl) ⟨Nat.zero_le _, Nat.zero_le _⟩ dX3_takeToken_90 (fun r36 _ hw37 => ?_)
              refine g_goto F 97 dX3_takeToken_93 (by decide) ?_
              refine g_istore_n F [(3, .int r36), (0, .ref (a 14)), (1, .ref (a 1)), (2, .ref (zf 80))] dX3_takeToken_97 rfl (by decide) rfl ?_
              refine g_iload_n F 0 dX3_takeToken_98 rfl rfl ?_
              refine v_if_ge F 104 dX3_takeToken_99 (by decide) r36.toInt rfl (fun c38 => ?_) (fun c38 => ?_)
              · refine g_aload_n F 1 dX3_takeToken_104 rfl rfl ?_
                refine g_iload_n F 0 dX3_takeToken_105 rfl rfl ?_
                refine v_if_ne F 113 dX3_takeToken_106 (by decide) r36.toInt rfl (fun c39 => ?_) (fun c39 => ?_)
                · refine g_bipush F (-2) dX3_takeToken_113 (by decide) ?_
                  refine u_callVi (k := 0) (n := 0) (b := a 14) (As := [.int (-2)]) (st := []) F (fun sz => S_X3_takeOperand_14 l D K a G (-2) (-2) rfl (fi) hI sz) (cwV 1 hts gX3_takeToken_X3_takeOperand rfl rfl rfl (by decide +kernel) ⟨Nat.le_of_ble_eq_true rfl, Nat.le_of_ble_eq_true rfl⟩) rfl 14 xc_14 rfl (Nat.le_of_ble_eq_true rfl) ⟨Nat.zero_le _, Nat.zero_le _⟩ dX3_takeToken_115 (fun r40 G42 hw41 => ?_)
                  have hI43 : xI G42 := hw41.1
                  have hU44 : gu_un xcd [1402, 1405, 1406, 1407, 1409, 2900] G G42 := hw41.2.1
                  have hp45 := hw41.2.2
                  have q46 : xFi 14 31 G42 := hp45.2
                  exact u_iret F hA hQ hr G42 (⟨hI43, (gu_un.tr gu_un.rf (gu_un.su hU44 rfl)), (by have h9 := ti_rng r40; omega), (q46)⟩) rfl rfl dX3_takeToken_118
                · refine g_iconst F (-1) dX3_takeToken_109 (by decide) ?_
                  refine g_goto F 115 dX3_takeToken_110 (by decide) ?_
                  refine u_callVi (k := 0) (n := 0) (b := a 14) (As := [.int (-1)]) (st := []) F (fun sz => S_X3_takeOperand_14 l D K a G (-1) (-1) rfl (fi) hI sz) (cwV 1 hts gX3_takeToken_X3_takeOperand rfl rfl rfl (by decide +kernel) ⟨Nat.le_of_ble_eq_true rfl, Nat.le_of_ble_eq_true rfl⟩) rfl 14 xc_14 rfl (Nat.le_of_ble_eq_true rfl) ⟨Nat.zero_le _, Nat.zero_le _⟩ dX3_takeToken_115 (fun r47 G49 hw48 => ?_)
                  have hI50 : xI G49 := hw48.1
                  have hU51 : gu_un xcd [1402, 1405, 1406, 1407, 1409, 2900] G G49 := hw48.2.1
                  have hp52 := hw48.2.2
                  have q53 : xFi 14 31 G49 := hp52.2
                  exact u_iret F hA hQ hr G49 (⟨hI50, (gu_un.tr gu_un.rf (gu_un.su hU51 rfl)), (by have h9 := ti_rng r47; omega), (q53)⟩) rfl rfl dX3_takeToken_118
              · refine g_iconst F 1 dX3_takeToken_102 (by decide) ?_
                exact u_iret F hA hQ hr G (⟨hI, gu_un.rf, (by decide), (fi)⟩) rfl rfl dX3_takeToken_103
        · refine g_aload_n F 0 dX3_takeToken_60 rfl rfl ?_
          refine g_aload_n F 1 dX3_takeToken_61 rfl rfl ?_
          refine xg_1_5 F i_X10 w_2 dX3_takeToken_62 (G 1 5) (rfl) ?_
          refine u_callVi (k := 0) (n := 0) (b := a 14) (As := [.int (G 1 5)]) (st := []) F (fun sz => S_X3_takeOperand_14 l D K a G (G 1 5) (G 1 5).toInt rfl (fi) hI sz) (cwV 1 hts gX3_takeToken_X3_takeOperand rfl rfl rfl (by decide +kernel) ⟨Nat.le_of_ble_eq_true rfl, Nat.le_of_ble_eq_true rfl⟩) rfl 14 xc_14 rfl (Nat.le_of_ble_eq_true rfl) ⟨Nat.zero_le _, Nat.zero_le _⟩ dX3_takeToken_65 (fun r54 G56 hw55 => ?_)
          have hI57 : xI G56 := hw55.1
          have hU58 : gu_un xcd [1402, 1405, 1406, 1407, 1409, 2900] G G56 := hw55.2.1
          have hp59 := hw55.2.2
          have q60 : xFi 14 31 G56 := hp59.2
          exact u_iret F hA hQ hr G56 (⟨hI57, (gu_un.tr gu_un.rf (gu_un.su hU58 rfl)), (by have h9 := ti_rng r54; omega), (q60)⟩) rfl rfl dX3_takeToken_68
      · refine g_aload_n F 0 dX3_takeToken_31 rfl rfl ?_
        refine g_aload_n F 1 dX3_takeToken_32 rfl rfl ?_
        refine g_bipush F 40 dX3_takeToken_33 (by decide) ?_
        refine u_callVi (k := 0) (n := 0) (b := a 1) (As := [.int 40]) (st := [.ref (a 14)]) F (fun sz => S_X10_isSign l D K a G 40 40 rfl hI sz) (cwV 1 hts gX3_takeToken_X10_isSign rfl rfl rfl (by decide +kernel) ⟨Nat.le_of_ble_eq_true rfl, Nat.le_of_ble_eq_true rfl⟩) rfl 1 xc_1 rfl (Nat.le_of_ble_eq_true rfl) ⟨Nat.zero_le _, Nat.zero_le _⟩ dX3_takeToken_35 (fun r61 _ hw62 => ?_)
        refine v_if_eq F 46 dX3_takeToken_38 (by decide) r61.toInt rfl (fun c64 => ?_) (fun c64 => ?_)
        · refine g_bipush F (-3) dX3_takeToken_46 (by decide) ?_
          refine u_callVi (k := 0) (n := 0) (b := a 14) (As := [.int (-3)]) (st := []) F (fun sz => S_X3_takeOpening_14_m3 l D K a G  (fi) (by (first | omega | (simp only [Int32.reduceToInt, true_and, and_true, ne_eq, not_true_eq_false, false_and, or_false, false_or, true_or, or_true, false_implies] <;> omega))) hI sz) (cwV 1 hts gX3_takeToken_X3_takeOpening rfl rfl rfl (by decide +kernel) ⟨Nat.le_of_ble_eq_true rfl, Nat.le_of_ble_eq_true rfl⟩) rfl 14 xc_14 rfl (Nat.le_of_ble_eq_true rfl) ⟨Nat.zero_le _, Nat.zero_le _⟩ dX3_takeToken_48 (fun r65 G67 hw66 => ?_)
          have hI68 : xI G67 := hw66.1
          have hU69 : gu_un xcd [1405, 1407, 3100] G G67 := hw66.2.1
          have hp70 := hw66.2.2
          have q71 : xFi 14 31 G67 := hp70.2
          exact u_iret F hA hQ hr G67 (⟨hI68, (gu_un.tr gu_un.rf (gu_un.su hU69 rfl)), (by have h9 := ti_rng r65; omega), (q71)⟩) rfl rfl dX3_takeToken_51
        · refine g_bipush F 40 dX3_takeToken_41 (by decide) ?_
          refine g_goto F 48 dX3_takeToken_43 (by decide) ?_
          refine u_callVi (k := 0) (n := 0) (b := a 14) (As := [.int 40]) (st := []) F (fun sz => S_X3_takeOpening_14_v40 l D K a G  (fi) (by (first | omega | (simp only [Int32.reduceToInt, true_and, and_true, ne_eq, not_true_eq_false, false_and, or_false, false_or, true_or, or_true, false_implies] <;> omega))) hI sz) (cwV 1 hts gX3_takeToken_X3_takeOpening rfl rfl rfl (by decide +kernel) ⟨Nat.le_of_ble_eq_true rfl, Nat.le_of_ble_eq_true rfl⟩) rfl 14 xc_14 rfl (Nat.le_of_ble_eq_true rfl) ⟨Nat.zero_le _, Nat.zero_le _⟩ dX3_takeToken_48 (fun r72 G74 hw73 => ?_)
          have hI75 : xI G74 := hw73.1
          have hU76 : gu_un xcd [1405, 1407, 1408, 3100] G G74 := hw73.2.1
          have hp77 := hw73.2.2
          have q78 : xFi 14 31 G74 := hp77.2
          exact u_iret F hA hQ hr G74 (⟨hI75, (gu_un.tr gu_un.rf (gu_un.su hU76 rfl)), (by have h9 := ti_rng r72; omega), (q78)⟩) rfl rfl dX3_takeToken_51
  · refine g_aload_n F 0 dX3_takeToken_7 rfl rfl ?_
    refine g_aload_n F 1 dX3_takeToken_8 rfl rfl ?_
    refine u_callVi (k := 0) (n := 0) (b := a 14) (As := [.ref (a 1)]) (st := []) F (fun sz => S_X3_takeBehindOperand_14_1 l D K a G  (fi) (by (first | omega | (simp only [Int32.reduceToInt, true_and, and_true, ne_eq, not_true_eq_false, false_and, or_false, false_or, true_or, or_true, false_implies] <;> omega))) hI sz) (cwV 1 hts gX3_takeToken_X3_takeBehindOperand rfl rfl rfl (by decide +kernel) ⟨Nat.le_of_ble_eq_true rfl, Nat.le_of_ble_eq_true rfl⟩) rfl 14 xc_14 rfl (Nat.le_of_ble_eq_true rfl) ⟨Nat.zero_le _, Nat.zero_le _⟩ dX3_takeToken_9 (fun r79 G81 hw80 => ?_)
    have hI82 : xI G81 := hw80.1
    have hU83 : gu_un xcd [1402, 1405, 1407, 1408, 1409, 2900, 3100] G G81 := hw80.2.1
    have hp84 := hw80.2.2
    have q85 : xFi 14 31 G81 := hp84.2
    exact u_iret F hA hQ hr G81 (⟨hI82, (gu_un.tr gu_un.rf (gu_un.su hU83 rfl)), (by have h9 := ti_rng r79; omega), (q85)⟩) rfl rfl dX3_takeToken_12


set_option maxHeartbeats 4000000 in
set_option maxRecDepth 100000 in
theorem S_X3_mayEnd_15 (l : Launch) (D : va_G) (K : Nat → ClassId) (a : Nat → Nat) (G : gS) (hI : xI G) (sz : Nat) : Ki l yX3_mayEnd wsX3_mayEnd 1 40 0 0 D [.ref (a 15)] (xW K a G) (tK K) sz (fun (r : Int32) (_ : Unit) => (0 ≤ r.toInt ∧ r.toInt ≤ 1) ∧ ((r.toInt = 0 ∨ (G 15 8).toInt = 0))) (fun (_ : Unit) => (xW K a G)) (fun _ => (tK K)) := by
  unfold Ki
  refine g_ofW (cc := cX3_mayEnd) (lv := [(0, .ref (a 15))]) (by decide) rfl (Nat.le_of_ble_eq_true rfl) rfl ?_
  intro p e s m args below meth c A Q hA hQ F hr hnm
  have hts := F.2.2.2.2.1
  have w_0 : (Cond.fieldLink RX3 47 "QuietCut$Formula" "wantsOperand" "Z").before args s = true := hts _ (List.mem_of_getElem? (i := 1) rfl)
  have i_X3 : ∀ w ∈ u_ws RX3 TX3 9, w ∈ wsX3_mayEnd := fun _ h => List.mem_cons_of_mem _ (List.mem_append_right _ h)
  have w_1 : (Cond.fieldLink RX3 44 "QuietCut$Formula" "parentheses" "I").before args s = true := hts _ (List.mem_of_getElem? (i := 2) rfl)
  refine g_aload_n F 0 dX3_mayEnd_0 rfl rfl ?_
  refine xg_15_8 F i_X3 w_0 dX3_mayEnd_1 (G 15 8) (rfl) ?_
  have b1 : (0 : Int) ≤ (G 15 8).toInt ∧ (G 15 8).toInt ≤ 1 := hI 15 8
  refine v_if_ne F 18 dX3_mayEnd_4 (by decide) (G 15 8).toInt rfl (fun c2 => ?_) (fun c2 => ?_)
  · refine g_iconst F 0 dX3_mayEnd_18 (by decide) ?_
    exact u_zret F hA hQ hr rfl () (⟨(by decide), (by show (0 = 0 ∨ (G 15 8).toInt = 0); (first | omega | (simp only [Int32.reduceToInt, true_and, and_true, ne_eq, not_true_eq_false, false_and, or_false, false_or, true_or, or_true, false_implies] <;> omega)))⟩) rfl rfl dX3_mayEnd_19
  · refine g_aload_n F 0 dX3_mayEnd_7 rfl rfl ?_
    refine xg_15_7 F i_X3 w_1 dX3_mayEnd_8 (G 15 7) (rfl) ?_
    refine v_if_ne F 18 dX3_mayEnd_11 (by decide) (G 15 7).toInt rfl (fun c3 => ?_) (fun c3 => ?_)
    · refine g_iconst F 0 dX3_mayEnd_18 (by decide) ?_
      exact u_zret F hA hQ hr rfl () (⟨(by decide), (by show (0 = 0 ∨ (G 15 8).toInt = 0); (first | omega | (simp only [Int32.reduceToInt, true_and, and_true, ne_eq, not_true_eq_false, false_and, or_false, false_or, true_or, or_true, false_implies] <;> omega)))⟩) rfl rfl dX3_mayEnd_19
    · refine g_iconst F 1 dX3_mayEnd_14 (by decide) ?_
      refine g_goto F 19 dX3_mayEnd_15 (by decide) ?_
      exact u_zret F hA hQ hr rfl () (⟨(by decide), (by show (1 = 0 ∨ (G 15 8).toInt = 0); (first | omega | (simp only [Int32.reduceToInt, true_and, and_true, ne_eq, not_true_eq_false, false_and, or_false, false_or, true_or, or_true, false_implies] <;> omega)))⟩) rfl rfl dX3_mayEnd_19


set_option maxHeartbeats 4000000 in
set_option maxRecDepth 100000 in
theorem S_X3_finish_15 (l : Launch) (D : va_G) (K : Nat → ClassId) (a : Nat → Nat) (G : gS) (jq : (∃ t, xQ (G 34) (G 15 4).toInt (G 15 6).toInt (G 15 7).toInt t ∧ 0 ≤ t)) (hI : xI G) (sz : Nat) : Kv l yX3_finish wsX3_finish 3 82 0 0 D [.ref (a 15)] (xW K a G) (tK K) sz (fun (G' : gS) => (xI G') ∧ (gu_un xcd [1502, 1505, 3200] G G') ∧ ((∃ t, xQ (G 34) (G' 15 4).toInt (G 15 6).toInt (G 15 7).toInt t ∧ 0 ≤ t ∧ t < 1))) (fun (G' : gS) => (xW K a G')) (fun _ => (tK K)) := by
  unfold Kv
  refine g_ofW (cc := cX3_finish) (lv := [(0, .ref (a 15))]) (by decide) rfl (Nat.le_of_ble_eq_true rfl) rfl ?_
  intro p e s m args below meth c A Q hA hQ F hr hnm
  have hts := F.2.2.2.2.1
  refine g_aload_n F 0 dX3_finish_0 rfl rfl ?_
  refine g_iconst F 1 dX3_finish_1 (by decide) ?_
  refine u_callVv (k := 0) (n := 0) (b := a 15) (As := [.int 1]) (st := []) F (fun sz => S_X3_joinDownTo_15 l D K a G 1 1 rfl (by decide) (jq) hI sz) (cwV 1 hts gX3_finish_X3_joinDownTo rfl rfl rfl (by decide +kernel) ⟨Nat.le_of_ble_eq_true rfl, Nat.le_of_ble_eq_true rfl⟩) rfl 15 xc_15 rfl (Nat.le_of_ble_eq_true rfl) ⟨Nat.zero_le _, Nat.zero_le _⟩ dX3_finish_2 (fun G3 hw2 => ?_)
  have hI4 : xI G3 := hw2.1
  have hU5 : gu_un xcd [1502, 1505, 3200] G G3 := hw2.2.1
  have hp6 := hw2.2.2
  have b7 : (0 : Int) ≤ (G3 15 4).toInt ∧ (G3 15 4).toInt ≤ 16 := hI4 15 4
  have q8 : (∃ t, xQ (G 34) (G3 15 4).toInt (G 15 6).toInt (G 15 7).toInt t ∧ 0 ≤ t ∧ t < (1 : Int)) := hp6
  exact u_vret F hA hQ hr G3 (⟨hI4, (gu_un.tr gu_un.rf (gu_un.su hU5 rfl)), (q8)⟩) rfl rfl dX3_finish_5


set_option maxHeartbeats 4000000 in
set_option maxRecDepth 100000 in
theorem S_X3_takeToken_15_1_L11 (l : Launch) (D : va_G) (K : Nat → ClassId) (a : Nat → Nat) (G : gS) (zf : Nat → Nat) (fi : xFi 15 34 G) (hI : xI G) (sz : Nat) : KiZ (xZ zf) l yX3_takeToken wsX3_takeToken 5 131 D [.ref (a 15), .ref (a 1), .ref (zf 81)] (xW K a G) (tK K) sz (fun (r : Int32) (G' : gS) => (xI G') ∧ (gu_un xcd [1502, 1505, 1506, 1507, 1508, 1509, 3200, 3400] G G') ∧ (0 ≤ r.toInt ∧ r.toInt ≤ 4) ∧ (xFi 15 34 G')) (fun (G' : gS) => (xW K a G')) := by
  unfold KiZ
  refine gz_ofW (cc := cX3_takeToken) (lv := [(0, .ref (a 15)), (1, .ref (a 1)), (2, .ref (zf 81))]) (by decide) rfl (Nat.le_of_ble_eq_true rfl) rfl ?_
  intro p e s m args below meth c A Q hA hQ hZ F hr hnm
  have hts := F.2.2.2.2.1
  have w_0 : (Cond.fieldLink RX3 47 "QuietCut$Formula" "wantsOperand" "Z").before args s = true := hts _ (List.mem_of_getElem? (i := 1) rfl)
  have i_X3 : ∀ w ∈ u_ws RX3 TX3 9, w ∈ wsX3_takeToken := fun _ h => List.mem_cons_of_mem _ (List.mem_append_left _ (List.mem_append_right _ h))
  have w_1 : (Cond.fieldLink RX3 68 "QuietCut$Tape" "kind" "I").before args s = true := hts _ (List.mem_of_getElem? (i := 2) rfl)
  have i_X10 : ∀ w ∈ u_ws RX10 TX10 6, w ∈ wsX3_takeToken := fun _ h => List.mem_cons_of_mem _ (List.mem_append_right _ h)
  have w_2 : (Cond.fieldLink RX3 71 "QuietCut$Tape" "value" "I").before args s = true := hts _ (List.mem_of_getElem? (i := 3) rfl)
  refine g_aload_n F 0 dX3_takeToken_0 rfl rfl ?_
  refine xg_15_8 F i_X3 w_0 dX3_takeToken_1 (G 15 8) (rfl) ?_
  have b1 : (0 : Int) ≤ (G 15 8).toInt ∧ (G 15 8).toInt ≤ 1 := hI 15 8
  refine v_if_ne F 13 dX3_takeToken_4 (by decide) (G 15 8).toInt rfl (fun c2 => ?_) (fun c2 => ?_)
  · refine g_aload_n F 1 dX3_takeToken_13 rfl rfl ?_
    refine g_bipush F 40 dX3_takeToken_14 (by decide) ?_
    refine u_callVi (k := 0) (n := 0) (b := a 1) (As := [.int 40]) (st := []) F (fun sz => S_X10_isSign l D K a G 40 40 rfl hI sz) (cwV 1 hts gX3_takeToken_X10_isSign rfl rfl rfl (by decide +kernel) ⟨Nat.le_of_ble_eq_true rfl, Nat.le_of_ble_eq_true rfl⟩) rfl 1 xc_1 rfl (Nat.le_of_ble_eq_true rfl) ⟨Nat.zero_le _, Nat.zero_le _⟩ dX3_takeToken_16 (fun r3 _ hw4 => ?_)
    refine v_if_ne F 31 dX3_takeToken_19 (by decide) r3.toInt rfl (fun c6 => ?_) (fun c6 => ?_)
    · refine g_aload_n F 0 dX3_takeToken_31 rfl rfl ?_
      refine g_aload_n F 1 dX3_takeToken_32 rfl rfl ?_
      refine g_bipush F 40 dX3_takeToken_33 (by decide) ?_
      refine u_callVi (k := 0) (n := 0) (b := a 1) (As := [.int 40]) (st := [.ref (a 15)]) F (fun sz => S_X10_isSign l D K a G 40 40 rfl hI sz) (cwV 1 hts gX3_takeToken_X10_isSign rfl rfl rfl (by decide +kernel) ⟨Nat.le_of_ble_eq_true rfl, Nat.le_of_ble_eq_true rfl⟩) rfl 1 xc_1 rfl (Nat.le_of_ble_eq_true rfl) ⟨Nat.zero_le _, Nat.zero_le _⟩ dX3_takeToken_35 (fun r7 _ hw8 => ?_)
      refine v_if_eq F 46 dX3_takeToken_38 (by decide) r7.toInt rfl (fun c10 => ?_) (fun c10 => ?_)
      · refine g_bipush F (-3) dX3_takeToken_46 (by decide) ?_
        refine u_callVi (k := 0) (n := 0) (b := a 15) (As := [.int (-3)]) (st := []) F (fun sz => S_X3_takeOpening_15_m3 l D K a G  (fi) (by (first | omega | (simp only [Int32.reduceToInt, true_and, and_true, ne_eq, not_true_eq_false, false_and, or_false, false_or, true_or, or_true, false_implies] <;> omega))) hI sz) (cwV 1 hts gX3_takeToken_X3_takeOpening rfl rfl rfl (by decide +kernel) ⟨Nat.le_of_ble_eq_true rfl, Nat.le_of_ble_eq_true rfl⟩) rfl 15 xc_15 rfl (Nat.le_of_ble_eq_true rfl) ⟨Nat.zero_le _, Nat.zero_le _⟩ dX3_takeToken_48 (fun r11 G13 hw12 => ?_)
        have hI14 : xI G13 := hw12.1
        have hU15 : gu_un xcd [1505, 1507, 3400] G G13 := hw12.2.1
        have hp16 := hw12.2.2
        have q17 : xFi 15 34 G13 := hp16.2
        exact u_iret F hA hQ hr G13 (⟨hI14, (gu_un.tr gu_un.rf (gu_un.su hU15 rfl)), (by have h9 := ti_rng r11; omega), (q17)⟩) rfl rfl dX3_takeToken_51
      · refine g_bipush F 40 dX3_takeToken_41 (by decide) ?_
        refine g_goto F 48 dX3_takeToken_43 (by decide) ?_
        refine u_callVi (k := 0) (n := 0) (b := a 15) (As := [.int 40]) (st := []) F (fun sz => S_X3_takeOpening_15_v40 l D K a G  (fi) (by (first | omega | (simp only [Int32.reduceToInt, true_and, and_true, ne_eq, not_true_eq_false, false_and, or_false, false_or, true_or, or_true, false_implies] <;> omega))) hI sz) (cwV 1 hts gX3_takeToken_X3_takeOpening rfl rfl rfl (by decide +kernel) ⟨Nat.le_of_ble_eq_true rfl, Nat.le_of_ble_eq_true rfl⟩) rfl 15 xc_15 rfl (Nat.le_of_ble_eq_true rfl) ⟨Nat.zero_le _, Nat.zero_le _⟩ dX3_takeToken_48 (fun r18 G20 hw19 => ?_)
        have hI21 : xI G20 := hw19.1
        have hU22 : gu_un xcd [1505, 1507, 1508, 3400] G G20 := hw19.2.1
        have hp23 := hw19.2.2
        have q24 : xFi 15 34 G20 := hp23.2
        exact u_iret F hA hQ hr G20 (⟨hI21, (gu_un.tr gu_un.rf (gu_un.su hU22 rfl)), (by have h9 := ti_rng r18; omega), (q24)⟩) rfl rfl dX3_takeToken_51
    · refine g_aload_n F 1 dX3_takeToken_22 rfl rfl ?_
      refine g_bipush F 45 dX3_takeToken_23 (by decide) ?_
      refine u_callVi (k := 0) (n := 0) (b := a 1) (As := [.int 45]) (st := []) F (fun sz => S_X10_isSign l D K a G 45 45 rfl hI sz) (cwV 1 hts gX3_takeToken_X10_isSign rfl rfl rfl (by decide +kernel) ⟨Nat.le_of_ble_eq_true rfl, Nat.le_of_ble_eq_true rfl⟩) rfl 1 xc_1 rfl (Nat.le_of_ble_eq_true rfl) ⟨Nat.zero_le _, Nat.zero_le _⟩ dX3_takeToken_25 (fun r25 _ hw26 => ?_)
      refine v_if_eq F 52 dX3_takeToken_28 (by decide) r25.toInt rfl (fun c28 => ?_) (fun c28 => ?_)
      · refine g_aload_n F 1 dX3_takeToken_52 rfl rfl ?_
        refine xg_1_3 F i_X10 w_1 dX3_takeToken_53 (G 1 3) (rfl) ?_
        refine g_iconst F 2 dX3_takeToken_56 (by decide) ?_
        have b29 : (0 : Int) ≤ (G 1 3).toInt ∧ (G 1 3).toInt ≤ 4 := hI 1 3
        refine v_icmp_ne F 69 dX3_takeToken_57 (by decide) (G 1 3).toInt 2 rfl rfl (fun c30 => ?_) (fun c30 => ?_)
        · refine g_aload_n F 1 dX3_takeToken_69 rfl rfl ?_
          refine xg_1_3 F i_X10 w_1 dX3_takeToken_70 (G 1 3) (rfl) ?_
          refine g_iconst F 1 dX3_takeToken_73 (by decide) ?_
          refine v_icmp_ne F 96 dX3_takeToken_74 (by decide) (G 1 3).toInt 1 rfl rfl (fun c31 => ?_) (fun c31 => ?_)
          · refine g_iconst F (-1) dX3_takeToken_96 (by decide) ?_
            refine g_istore_n F [(3, .int (-1)), (0, .ref (a 15)), (1, .ref (a 1)), (2, .ref (zf 81))] dX3_takeToken_97 rfl (by decide) rfl ?_
            refine g_iload_n F 0 dX3_takeToken_98 rfl rfl ?_
            refine v_if_ge F 104 dX3_takeToken_99 (by decide) (-1) rfl (fun c32 => absurd c32 (by decide)) (fun c32 => ?_)
            refine g_iconst F 1 dX3_takeToken_102 (by decide) ?_
            exact u_iret F hA hQ hr G (⟨hI, gu_un.rf, (by decide), (fi)⟩) rfl rfl dX3_takeToken_103
          · refine g_aload_n F 1 dX3_takeToken_77 rfl rfl ?_
            refine xg_1_5 F i_X10 w_2 dX3_takeToken_78 (G 1 5) (rfl) ?_
            refine v_if_eq F 96 dX3_takeToken_81 (by decide) (G 1 5).toInt rfl (fun c33 => ?_) (fun c33 => ?_)
            · refine g_iconst F (-1) dX3_takeToken_96 (by decide) ?_
              refine g_istore_n F [(3, .int (-1)), (0, .ref (a 15)), (1, .ref (a 1)), (2, .ref (zf 81))] dX3_takeToken_97 rfl (by decide) rfl ?_
              refine g_iload_n F 0 dX3_takeToken_98 rfl rfl ?_
              refine v_if_ge F 104 dX3_takeToken_99 (by decide) (-1) rfl (fun c34 => absurd c34 (by decide)) (fun c34 => ?_)
              refine g_iconst F 1 dX3_takeToken_102 (by decide) ?_
              exact u_iret F hA hQ hr G (⟨hI, gu_un.rf, (by decide), (fi)⟩) rfl rfl dX3_takeToken_103
            · refine g_aload_n F 2 dX3_takeToken_84 rfl rfl ?_
              refine g_aload_n F 1 dX3_takeToken_85 rfl rfl ?_
              refine xg_1_5 F i_X10 w_2 dX3_takeToken_86 (G 1 5) (rfl) ?_
              refine u0_i2c F dX3_takeToken_89 (fun y35 => ?_)
              refine uz_call0Vi (k := 0) (n := 0) (b := (zf 81)) (As := [.int y35]) (st := []) F zS_st (hZ.2.2.2.2.2 11 (by decide)).2.2.2.2.2.2.2.2 (fun sz => S_J0_indexOf_0f7a4 l D (zf 81) (zf 101) _ _ (by decide) y35 y35.toInt rfl sz) (cwV 1 hts gX3_takeToken_J0_indexOf_0f7a4 rfl rfl rfl (by decide +kernel) ⟨Nat.le_of_ble_eq_true rfl, Nat.le_of_ble_eq_true rfl⟩) (hZ.2.2.2.2.2 11 (by decide)).2.2.2.2.2.2.2.2.1 rfl (Nat.le_of_ble_eq_true rfl) ⟨Nat.zero_le _, Nat.zero_le _⟩ dX3_takeToken_90 (fun r36 _ hw37 => ?_)
              refine g_goto F 97 dX3_takeToken_93 (by decide) ?_
              refine g_istore_n F [(3, .int r36), (0, .ref (a 15)), (1, .ref (a 1)), (2, .ref (zf 81))] dX3_takeToken_97 rfl (by decide) rfl ?_
              refine g_iload_n F 0 dX3_takeToken_98 rfl rfl ?_
              refine v_if_ge F 104 dX3_takeToken_99 (by decide) r36.toInt rfl (fun c38 => ?_) (fun c38 => ?_)
              · refine g_aload_n F 1 dX3_takeToken_104 rfl rfl ?_
                refine g_iload_n F 0 dX3_takeToken_105 rfl rfl ?_
                refine v_if_ne F 113 dX3_takeToken_106 (by decide) r36.toInt rfl (fun c39 => ?_) (fun c39 => ?_)
                · refine g_bipush F (-2) dX3_takeToken_113 (by decide) ?_
                  refine u_callVi (k := 0) (n := 0) (b := a 15) (As := [.int (-2)]) (st := []) F (fun sz => S_X3_takeOperand_15 l D K a G (-2) (-2) rfl (fi) hI sz) (cwV 1 hts gX3_takeToken_X3_takeOperand rfl rfl rfl (by decide +kernel) ⟨Nat.le_of_ble_eq_true rfl, Nat.le_of_ble_eq_true rfl⟩) rfl 15 xc_15 rfl (Nat.le_of_ble_eq_true rfl) ⟨Nat.zero_le _, Nat.zero_le _⟩ dX3_takeToken_115 (fun r40 G42 hw41 => ?_)
                  have hI43 : xI G42 := hw41.1
                  have hU44 : gu_un xcd [1502, 1505, 1506, 1507, 1509, 3200] G G42 := hw41.2.1
                  have hp45 := hw41.2.2
                  have q46 : xFi 15 34 G42 := hp45.2
                  exact u_iret F hA hQ hr G42 (⟨hI43, (gu_un.tr gu_un.rf (gu_un.su hU44 rfl)), (by have h9 := ti_rng r40; omega), (q46)⟩) rfl rfl dX3_takeToken_118
                · refine g_iconst F (-1) dX3_takeToken_109 (by decide) ?_
                  refine g_goto F 115 dX3_takeToken_110 (by decide) ?_
                  refine u_callVi (k := 0) (n := 0) (b := a 15) (As := [.int (-1)]) (st := []) F (fun sz => S_X3_takeOperand_15 l D K a G (-1) (-1) rfl (fi) hI sz) (cwV 1 hts gX3_takeToken_X3_takeOperand rfl rfl rfl (by decide +kernel) ⟨Nat.le_of_ble_eq_true rfl, Nat.le_of_ble_eq_true rfl⟩) rfl 15 xc_15 rfl (Nat.le_of_ble_eq_true rfl) ⟨Nat.zero_le _, Nat.zero_le _⟩ dX3_takeToken_115 (fun r47 G49 hw48 => ?_)
                  have hI50 : xI G49 := hw48.1
                  have hU51 : gu_un xcd [1502, 1505, 1506, 1507, 1509, 3200] G G49 := hw48.2.1
                  have hp52 := hw48.2.2
                  have q53 : xFi 15 34 G49 := hp52.2
                  exact u_iret F hA hQ hr G49 (⟨hI50, (gu_un.tr gu_un.rf (gu_un.su hU51 rfl)), (by have h9 := ti_rng r47; omega), (q53)⟩) rfl rfl dX3_takeToken_118
              · refine g_iconst F 1 dX3_takeToken_102 (by decide) ?_
                exact u_iret F hA hQ hr G (⟨hI, gu_un.rf, (by decide), (fi)⟩) rfl rfl dX3_takeToken_103
        · refine g_aload_n F 0 dX3_takeToken_60 rfl rfl ?_
          refine g_aload_n F 1 dX3_takeToken_61 rfl rfl ?_
          refine xg_1_5 F i_X10 w_2 dX3_takeToken_62 (G 1 5) (rfl) ?_
          refine u_callVi (k := 0) (n := 0) (b := a 15) (As := [.int (G 1 5)]) (st := []) F (fun sz => S_X3_takeOperand_15 l D K a G (G 1 5) (G 1 5).toInt rfl (fi) hI sz) (cwV 1 hts gX3_takeToken_X3_takeOperand rfl rfl rfl (by decide +kernel) ⟨Nat.le_of_ble_eq_true rfl, Nat.le_of_ble_eq_true rfl⟩) rfl 15 xc_15 rfl (Nat.le_of_ble_eq_true rfl) ⟨Nat.zero_le _, Nat.zero_le _⟩ dX3_takeToken_65 (fun r54 G56 hw55 => ?_)
          have hI57 : xI G56 := hw55.1
          have hU58 : gu_un xcd [1502, 1505, 1506, 1507, 1509, 3200] G G56 := hw55.2.1
          have hp59 := hw55.2.2
          have q60 : xFi 15 34 G56 := hp59.2
          exact u_iret F hA hQ hr G56 (⟨hI57, (gu_un.tr gu_un.rf (gu_un.su hU58 rfl)), (by have h9 := ti_rng r54; omega), (q60)⟩) rfl rfl dX3_takeToken_68
      · refine g_aload_n F 0 dX3_takeToken_31 rfl rfl ?_
        refine g_aload_n F 1 dX3_takeToken_32 rfl rfl ?_
        refine g_bipush F 40 dX3_takeToken_33 (by decide) ?_
        refine u_callVi (k := 0) (n := 0) (b := a 1) (As := [.int 40]) (st := [.ref (a 15)]) F (fun sz => S_X10_isSign l D K a G 40 40 rfl hI sz) (cwV 1 hts gX3_takeToken_X10_isSign rfl rfl rfl (by decide +kernel) ⟨Nat.le_of_ble_eq_true rfl, Nat.le_of_ble_eq_true rfl⟩) rfl 1 xc_1 rfl (Nat.le_of_ble_eq_true rfl) ⟨Nat.zero_le _, Nat.zero_le _⟩ dX3_takeToken_35 (fun r61 _ hw62 => ?_)
        refine v_if_eq F 46 dX3_takeToken_38 (by decide) r61.toInt rfl (fun c64 => ?_) (fun c64 => ?_)
        · refine g_bipush F (-3) dX3_takeToken_46 (by decide) ?_
          refine u_callVi (k := 0) (n := 0) (b := a 15) (As := [.int (-3)]) (st := []) F (fun sz => S_X3_takeOpening_15_m3 l D K a G  (fi) (by (first | omega | (simp only [Int32.reduceToInt, true_and, and_true, ne_eq, not_true_eq_false, false_and, or_false, false_or, true_or, or_true, false_implies] <;> omega))) hI sz) (cwV 1 hts gX3_takeToken_X3_takeOpening rfl rfl rfl (by decide +kernel) ⟨Nat.le_of_ble_eq_true rfl, Nat.le_of_ble_eq_true rfl⟩) rfl 15 xc_15 rfl (Nat.le_of_ble_eq_true rfl) ⟨Nat.zero_le _, Nat.zero_le _⟩ dX3_takeToken_48 (fun r65 G67 hw66 => ?_)
          have hI68 : xI G67 := hw66.1
          have hU69 : gu_un xcd [1505, 1507, 3400] G G67 := hw66.2.1
          have hp70 := hw66.2.2
          have q71 : xFi 15 34 G67 := hp70.2
          exact u_iret F hA hQ hr G67 (⟨hI68, (gu_un.tr gu_un.rf (gu_un.su hU69 rfl)), (by have h9 := ti_rng r65; omega), (q71)⟩) rfl rfl dX3_takeToken_51
        · refine g_bipush F 40 dX3_takeToken_41 (by decide) ?_
          refine g_goto F 48 dX3_takeToken_43 (by decide) ?_
          refine u_callVi (k := 0) (n := 0) (b := a 15) (As := [.int 40]) (st := []) F (fun sz => S_X3_takeOpening_15_v40 l D K a G  (fi) (by (first | omega | (simp only [Int32.reduceToInt, true_and, and_true, ne_eq, not_true_eq_false, false_and, or_false, false_or, true_or, or_true, false_implies] <;> omega))) hI sz) (cwV 1 hts gX3_takeToken_X3_takeOpening rfl rfl rfl (by decide +kernel) ⟨Nat.le_of_ble_eq_true rfl, Nat.le_of_ble_eq_true rfl⟩) rfl 15 xc_15 rfl (Nat.le_of_ble_eq_true rfl) ⟨Nat.zero_le _, Nat.zero_le _⟩ dX3_takeToken_48 (fun r72 G74 hw73 => ?_)
          have hI75 : xI G74 := hw73.1
          have hU76 : gu_un xcd [1505, 1507, 1508, 3400] G G74 := hw73.2.1
          have hp77 := hw73.2.2
          have q78 : xFi 15 34 G74 := hp77.2
          exact u_iret F hA hQ hr G74 (⟨hI75, (gu_un.tr gu_un.rf (gu_un.su hU76 rfl)), (by have h9 := ti_rng r72; omega), (q78)⟩) rfl rfl dX3_takeToken_51
  · refine g_aload_n F 0 dX3_takeToken_7 rfl rfl ?_
    refine g_aload_n F 1 dX3_takeToken_8 rfl rfl ?_
    refine u_callVi (k := 0) (n := 0) (b := a 15) (As := [.ref (a 1)]) (st := []) F (fun sz => S_X3_takeBehindOperand_15_1 l D K a G  (fi) (by (first | omega | (simp only [Int32.reduceToInt, true_and, and_true, ne_eq, not_true_eq_false, false_and, or_false, false_or, true_or, or_true, false_implies] <;> omega))) hI sz) (cwV 1 hts gX3_takeToken_X3_takeBehindOperand rfl rfl rfl (by decide +kernel) ⟨Nat.le_of_ble_eq_true rfl, Nat.le_of_ble_eq_true rfl⟩) rfl 15 xc_15 rfl (Nat.le_of_ble_eq_true rfl) ⟨Nat.zero_le _, Nat.zero_le _⟩ dX3_takeToken_9 (fun r79 G81 hw80 => ?_)
    have hI82 : xI G81 := hw80.1
    have hU83 : gu_un xcd [1502, 1505, 1507, 1508, 1509, 3200, 3400] G G81 := hw80.2.1
    have hp84 := hw80.2.2
    have q85 : xFi 15 34 G81 := hp84.2
    exact u_iret F hA hQ hr G81 (⟨hI82, (gu_un.tr gu_un.rf (gu_un.su hU83 rfl)), (by have h9 := ti_rng r79; omega), (q85)⟩) rfl rfl dX3_takeToken_12


set_option maxHeartbeats 4000000 in
set_option maxRecDepth 100000 in
theorem S_X3_mayEnd_16 (l : Launch) (D : va_G) (K : Nat → ClassId) (a : Nat → Nat) (G : gS) (hI : xI G) (sz : Nat) : Ki l yX3_mayEnd wsX3_mayEnd 1 40 0 0 D [.ref (a 16)] (xW K a G) (tK K) sz (fun (r : Int32) (_ : Unit) => (0 ≤ r.toInt ∧ r.toInt ≤ 1) ∧ ((r.toInt = 0 ∨ (G 16 8).toInt = 0))) (fun (_ : Unit) => (xW K a G)) (fun _ => (tK K)) := by
  unfold Ki
  refine g_ofW (cc := cX3_mayEnd) (lv := [(0, .ref (a 16))]) (by decide) rfl (Nat.le_of_ble_eq_true rfl) rfl ?_
  intro p e s m args below meth c A Q hA hQ F hr hnm
  have hts := F.2.2.2.2.1
  have w_0 : (Cond.fieldLink RX3 47 "QuietCut$Formula" "wantsOperand" "Z").before args s = true := hts _ (List.mem_of_getElem? (i := 1) rfl)
  have i_X3 : ∀ w ∈ u_ws RX3 TX3 9, w ∈ wsX3_mayEnd := fun _ h => List.mem_cons_of_mem _ (List.mem_append_right _ h)
  have w_1 : (Cond.fieldLink RX3 44 "QuietCut$Formula" "parentheses" "I").before args s = true := hts _ (List.mem_of_getElem? (i := 2) rfl)
  refine g_aload_n F 0 dX3_mayEnd_0 rfl rfl ?_
  refine xg_16_8 F i_X3 w_0 dX3_mayEnd_1 (G 16 8) (rfl) ?_
  have b1 : (0 : Int) ≤ (G 16 8).toInt ∧ (G 16 8).toInt ≤ 1 := hI 16 8
  refine v_if_ne F 18 dX3_mayEnd_4 (by decide) (G 16 8).toInt rfl (fun c2 => ?_) (fun c2 => ?_)
  · refine g_iconst F 0 dX3_mayEnd_18 (by decide) ?_
    exact u_zret F hA hQ hr rfl () (⟨(by decide), (by show (0 = 0 ∨ (G 16 8).toInt = 0); (first | omega | (simp only [Int32.reduceToInt, true_and, and_true, ne_eq, not_true_eq_false, false_and, or_false, false_or, true_or, or_true, false_implies] <;> omega)))⟩) rfl rfl dX3_mayEnd_19
  · refine g_aload_n F 0 dX3_mayEnd_7 rfl rfl ?_
    refine xg_16_7 F i_X3 w_1 dX3_mayEnd_8 (G 16 7) (rfl) ?_
    refine v_if_ne F 18 dX3_mayEnd_11 (by decide) (G 16 7).toInt rfl (fun c3 => ?_) (fun c3 => ?_)
    · refine g_iconst F 0 dX3_mayEnd_18 (by decide) ?_
      exact u_zret F hA hQ hr rfl () (⟨(by decide), (by show (0 = 0 ∨ (G 16 8).toInt = 0); (first | omega | (simp only [Int32.reduceToInt, true_and, and_true, ne_eq, not_true_eq_false, false_and, or_false, false_or, true_or, or_true, false_implies] <;> omega)))⟩) rfl rfl dX3_mayEnd_19
    · refine g_iconst F 1 dX3_mayEnd_14 (by decide) ?_
      refine g_goto F 19 dX3_mayEnd_15 (by decide) ?_
      exact u_zret F hA hQ hr rfl () (⟨(by decide), (by show (1 = 0 ∨ (G 16 8).toInt = 0); (first | omega | (simp only [Int32.reduceToInt, true_and, and_true, ne_eq, not_true_eq_false, false_and, or_false, false_or, true_or, or_true, false_implies] <;> omega)))⟩) rfl rfl dX3_mayEnd_19


set_option maxHeartbeats 4000000 in
set_option maxRecDepth 100000 in
theorem S_X3_finish_16 (l : Launch) (D : va_G) (K : Nat → ClassId) (a : Nat → Nat) (G : gS) (jq : (∃ t, xQ (G 37) (G 16 4).toInt (G 16 6).toInt (G 16 7).toInt t ∧ 0 ≤ t)) (hI : xI G) (sz : Nat) : Kv l yX3_finish wsX3_finish 3 82 0 0 D [.ref (a 16)] (xW K a G) (tK K) sz (fun (G' : gS) => (xI G') ∧ (gu_un xcd [1602, 1605, 3500] G G') ∧ ((∃ t, xQ (G 37) (G' 16 4).toInt (G 16 6).toInt (G 16 7).toInt t ∧ 0 ≤ t ∧ t < 1))) (fun (G' : gS) => (xW K a G')) (fun _ => (tK K)) := by
  unfold Kv
  refine g_ofW (cc := cX3_finish) (lv := [(0, .ref (a 16))]) (by decide) rfl (Nat.le_of_ble_eq_true rfl) rfl ?_
  intro p e s m args below meth c A Q hA hQ F hr hnm
  have hts := F.2.2.2.2.1
  refine g_aload_n F 0 dX3_finish_0 rfl rfl ?_
  refine g_iconst F 1 dX3_finish_1 (by decide) ?_
  refine u_callVv (k := 0) (n := 0) (b := a 16) (As := [.int 1]) (st := []) F (fun sz => S_X3_joinDownTo_16 l D K a G 1 1 rfl (by decide) (jq) hI sz) (cwV 1 hts gX3_finish_X3_joinDownTo rfl rfl rfl (by decide +kernel) ⟨Nat.le_of_ble_eq_true rfl, Nat.le_of_ble_eq_true rfl⟩) rfl 16 xc_16 rfl (Nat.le_of_ble_eq_true rfl) ⟨Nat.zero_le _, Nat.zero_le _⟩ dX3_finish_2 (fun G3 hw2 => ?_)
  have hI4 : xI G3 := hw2.1
  have hU5 : gu_un xcd [1602, 1605, 3500] G G3 := hw2.2.1
  have hp6 := hw2.2.2
  have b7 : (0 : Int) ≤ (G3 16 4).toInt ∧ (G3 16 4).toInt ≤ 16 := hI4 16 4
  have q8 : (∃ t, xQ (G 37) (G3 16 4).toInt (G 16 6).toInt (G 16 7).toInt t ∧ 0 ≤ t ∧ t < (1 : Int)) := hp6
  exact u_vret F hA hQ hr G3 (⟨hI4, (gu_un.tr gu_un.rf (gu_un.su hU5 rfl)), (q8)⟩) rfl rfl dX3_finish_5


set_option maxHeartbeats 4000000 in
set_option maxRecDepth 100000 in
theorem S_X3_takeToken_16_1_L12 (l : Launch) (D : va_G) (K : Nat → ClassId) (a : Nat → Nat) (G : gS) (zf : Nat → Nat) (fi : xFi 16 37 G) (hI : xI G) (sz : Nat) : KiZ (xZ zf) l yX3_takeToken wsX3_takeToken 5 131 D [.ref (a 16), .ref (a 1), .ref (zf 82)] (xW K a G) (tK K) sz (fun (r : Int32) (G' : gS) => (xI G') ∧ (gu_un xcd [1602, 1605, 1606, 1607, 1608, 1609, 3500, 3700] G G') ∧ (0 ≤ r.toInt ∧ r.toInt ≤ 4) ∧ (xFi 16 37 G')) (fun (G' : gS) => (xW K a G')) := by
  unfold KiZ
  refine gz_ofW (cc := cX3_takeToken) (lv := [(0, .ref (a 16)), (1, .ref (a 1)), (2, .ref (zf 82))]) (by decide) rfl (Nat.le_of_ble_eq_true rfl) rfl ?_
  intro p e s m args below meth c A Q hA hQ hZ F hr hnm
  have hts := F.2.2.2.2.1
  have w_0 : (Cond.fieldLink RX3 47 "QuietCut$Formula" "wantsOperand" "Z").before args s = true := hts _ (List.mem_of_getElem? (i := 1) rfl)
  have i_X3 : ∀ w ∈ u_ws RX3 TX3 9, w ∈ wsX3_takeToken := fun _ h => List.mem_cons_of_mem _ (List.mem_append_left _ (List.mem_append_right _ h))
  have w_1 : (Cond.fieldLink RX3 68 "QuietCut$Tape" "kind" "I").before args s = true := hts _ (List.mem_of_getElem? (i := 2) rfl)
  have i_X10 : ∀ w ∈ u_ws RX10 TX10 6, w ∈ wsX3_takeToken := fun _ h => List.mem_cons_of_mem _ (List.mem_append_right _ h)
  have w_2 : (Cond.fieldLink RX3 71 "QuietCut$Tape" "value" "I").before args s = true := hts _ (List.mem_of_getElem? (i := 3) rfl)
  refine g_aload_n F 0 dX3_takeToken_0 rfl rfl ?_
  refine xg_16_8 F i_X3 w_0 dX3_takeToken_1 (G 16 8) (rfl) ?_
  have b1 : (0 : Int) ≤ (G 16 8).toInt ∧ (G 16 8).toInt ≤ 1 := hI 16 8
  refine v_if_ne F 13 dX3_takeToken_4 (by decide) (G 16 8).toInt rfl (fun c2 => ?_) (fun c2 => ?_)
  · refine g_aload_n F 1 dX3_takeToken_13 rfl rfl ?_
    refine g_bipush F 40 dX3_takeToken_14 (by decide) ?_
    refine u_callVi (k := 0) (n := 0) (b := a 1) (As := [.int 40]) (st := []) F (fun sz => S_X10_isSign l D K a G 40 40 rfl hI sz) (cwV 1 hts gX3_takeToken_X10_isSign rfl rfl rfl (by decide +kernel) ⟨Nat.le_of_ble_eq_true rfl, Nat.le_of_ble_eq_true rfl⟩) rfl 1 xc_1 rfl (Nat.le_of_ble_eq_true rfl) ⟨Nat.zero_le _, Nat.zero_le _⟩ dX3_takeToken_16 (fun r3 _ hw4 => ?_)
    refine v_if_ne F 31 dX3_takeToken_19 (by decide) r3.toInt rfl (fun c6 => ?_) (fun c6 => ?_)
    · refine g_aload_n F 0 dX3_takeToken_31 rfl rfl ?_
      refine g_aload_n F 1 dX3_takeToken_32 rfl rfl ?_
      refine g_bipush F 40 dX3_takeToken_33 (by decide) ?_
      refine u_callVi (k := 0) (n := 0) (b := a 1) (As := [.int 40]) (st := [.ref (a 16)]) F (fun sz => S_X10_isSign l D K a G 40 40 rfl hI sz) (cwV 1 hts gX3_takeToken_X10_isSign rfl rfl rfl (by decide +kernel) ⟨Nat.le_of_ble_eq_true rfl, Nat.le_of_ble_eq_true rfl⟩) rfl 1 xc_1 rfl (Nat.le_of_ble_eq_true rfl) ⟨Nat.zero_le _, Nat.zero_le _⟩ dX3_takeToken_35 (fun r7 _ hw8 => ?_)
      refine v_if_eq F 46 dX3_takeToken_38 (by decide) r7.toInt rfl (fun c10 => ?_) (fun c10 => ?_)
      · refine g_bipush F (-3) dX3_takeToken_46 (by decide) ?_
        refine u_callVi (k := 0) (n := 0) (b := a 16) (As := [.int (-3)]) (st := []) F (fun sz => S_X3_takeOpening_16_m3 l D K a G  (fi) (by (first | omega | (simp only [Int32.reduceToInt, true_and, and_true, ne_eq, not_true_eq_false, false_and, or_false, false_or, true_or, or_true, false_implies] <;> omega))) hI sz) (cwV 1 hts gX3_takeToken_X3_takeOpening rfl rfl rfl (by decide +kernel) ⟨Nat.le_of_ble_eq_true rfl, Nat.le_of_ble_eq_true rfl⟩) rfl 16 xc_16 rfl (Nat.le_of_ble_eq_true rfl) ⟨Nat.zero_le _, Nat.zero_le _⟩ dX3_takeToken_48 (fun r11 G13 hw12 => ?_)
        have hI14 : xI G13 := hw12.1
        have hU15 : gu_un xcd [1605, 1607, 3700] G G13 := hw12.2.1
        have hp16 := hw12.2.2
        have q17 : xFi 16 37 G13 := hp16.2
        exact u_iret F hA hQ hr G13 (⟨hI14, (gu_un.tr gu_un.rf (gu_un.su hU15 rfl)), (by have h9 := ti_rng r11; omega), (q17)⟩) rfl rfl dX3_takeToken_51
      · refine g_bipush F 40 dX3_takeToken_41 (by decide) ?_
        refine g_goto F 48 dX3_takeToken_43 (by decide) ?_
        refine u_callVi (k := 0) (n := 0) (b := a 16) (As := [.int 40]) (st := []) F (fun sz => S_X3_takeOpening_16_v40 l D K a G  (fi) (by (first | omega | (simp only [Int32.reduceToInt, true_and, and_true, ne_eq, not_true_eq_false, false_and, or_false, false_or, true_or, or_true, false_implies] <;> omega))) hI sz) (cwV 1 hts gX3_takeToken_X3_takeOpening rfl rfl rfl (by decide +kernel) ⟨Nat.le_of_ble_eq_true rfl, Nat.le_of_ble_eq_true rfl⟩) rfl 16 xc_16 rfl (Nat.le_of_ble_eq_true rfl) ⟨Nat.zero_le _, Nat.zero_le _⟩ dX3_takeToken_48 (fun r18 G20 hw19 => ?_)
        have hI21 : xI G20 := hw19.1
        have hU22 : gu_un xcd [1605, 1607, 1608, 3700] G G20 := hw19.2.1
        have hp23 := hw19.2.2
        have q24 : xFi 16 37 G20 := hp23.2
        exact u_iret F hA hQ hr G20 (⟨hI21, (gu_un.tr gu_un.rf (gu_un.su hU22 rfl)), (by have h9 := ti_rng r18; omega), (q24)⟩) rfl rfl dX3_takeToken_51
    · refine g_aload_n F 1 dX3_takeToken_22 rfl rfl ?_
      refine g_bipush F 45 dX3_takeToken_23 (by decide) ?_
      refine u_callVi (k := 0) (n := 0) (b := a 1) (As := [.int 45]) (st := []) F (fun sz => S_X10_isSign l D K a G 45 45 rfl hI sz) (cwV 1 hts gX3_takeToken_X10_isSign rfl rfl rfl (by decide +kernel) ⟨Nat.le_of_ble_eq_true rfl, Nat.le_of_ble_eq_true rfl⟩) rfl 1 xc_1 rfl (Nat.le_of_ble_eq_true rfl) ⟨Nat.zero_le _, Nat.zero_le _⟩ dX3_takeToken_25 (fun r25 _ hw26 => ?_)
      refine v_if_eq F 52 dX3_takeToken_28 (by decide) r25.toInt rfl (fun c28 => ?_) (fun c28 => ?_)
      · refine g_aload_n F 1 dX3_takeToken_52 rfl rfl ?_
        refine xg_1_3 F i_X10 w_1 dX3_takeToken_53 (G 1 3) (rfl) ?_
        refine g_iconst F 2 dX3_takeToken_56 (by decide) ?_
        have b29 : (0 : Int) ≤ (G 1 3).toInt ∧ (G 1 3).toInt ≤ 4 := hI 1 3
        refine v_icmp_ne F 69 dX3_takeToken_57 (by decide) (G 1 3).toInt 2 rfl rfl (fun c30 => ?_) (fun c30 => ?_)
        · refine g_aload_n F 1 dX3_takeToken_69 rfl rfl ?_
          refine xg_1_3 F i_X10 w_1 dX3_takeToken_70 (G 1 3) (rfl) ?_
          refine g_iconst F 1 dX3_takeToken_73 (by decide) ?_
          refine v_icmp_ne F 96 dX3_takeToken_74 (by decide) (G 1 3).toInt 1 rfl rfl (fun c31 => ?_) (fun c31 => ?_)
          · refine g_iconst F (-1) dX3_takeToken_96 (by decide) ?_
            refine g_istore_n F [(3, .int (-1)), (0, .ref (a 16)), (1, .ref (a 1)), (2, .ref (zf 82))] dX3_takeToken_97 rfl (by decide) rfl ?_
            refine g_iload_n F 0 dX3_takeToken_98 rfl rfl ?_
            refine v_if_ge F 104 dX3_takeToken_99 (by decide) (-1) rfl (fun c32 => absurd c32 (by decide)) (fun c32 => ?_)
            refine g_iconst F 1 dX3_takeToken_102 (by decide) ?_
            exact u_iret F hA hQ hr G (⟨hI, gu_un.rf, (by decide), (fi)⟩) rfl rfl dX3_takeToken_103
          · refine g_aload_n F 1 dX3_takeToken_77 rfl rfl ?_
            refine xg_1_5 F i_X10 w_2 dX3_takeToken_78 (G 1 5) (rfl) ?_
            refine v_if_eq F 96 dX3_takeToken_81 (by decide) (G 1 5).toInt rfl (fun c33 => ?_) (fun c33 => ?_)
            · refine g_iconst F (-1) dX3_takeToken_96 (by decide) ?_
              refine g_istore_n F [(3, .int (-1)), (0, .ref (a 16)), (1, .ref (a 1)), (2, .ref (zf 82))] dX3_takeToken_97 rfl (by decide) rfl ?_
              refine g_iload_n F 0 dX3_takeToken_98 rfl rfl ?_
              refine v_if_ge F 104 dX3_takeToken_99 (by decide) (-1) rfl (fun c34 => absurd c34 (by decide)) (fun c34 => ?_)
              refine g_iconst F 1 dX3_takeToken_102 (by decide) ?_
              exact u_iret F hA hQ hr G (⟨hI, gu_un.rf, (by decide), (fi)⟩) rfl rfl dX3_takeToken_103
            · refine g_aload_n F 2 dX3_takeToken_84 rfl rfl ?_
              refine g_aload_n F 1 dX3_takeToken_85 rfl rfl ?_
              refine xg_1_5 F i_X10 w_2 dX3_takeToken_86 (G 1 5) (rfl) ?_
              refine u0_i2c F dX3_takeToken_89 (fun y35 => ?_)
              refine uz_call0Vi (k := 0) (n := 0) (b := (zf 82)) (As := [.int y35]) (st := []) F zS_st (hZ.2.2.2.2.2 12 (by decide)).2.2.2.2.2.2.2.2 (fun sz => S_J0_indexOf_0f7a4 l D (zf 82) (zf 102) _ _ (by decide) y35 y35.toInt rfl sz) (cwV 1 hts gX3_takeToken_J0_indexOf_0f7a4 rfl rfl rfl (by decide +kernel) ⟨Nat.le_of_ble_eq_true rfl, Nat.le_of_ble_eq_true rfl⟩) (hZ.2.2.2.2.2 12 (by decide)).2.2.2.2.2.2.2.2.1 rfl (Nat.le_of_ble_eq_true rfl) ⟨Nat.zero_le _, Nat.zero_le _⟩ dX3_takeToken_90 (fun r36 _ hw37 => ?_)
              refine g_goto F 97 dX3_takeToken_93 (by decide) ?_
              refine g_istore_n F [(3, .int r36), (0, .ref (a 16)), (1, .ref (a 1)), (2, .ref (zf 82))] dX3_takeToken_97 rfl (by decide) rfl ?_
              refine g_iload_n F 0 dX3_takeToken_98 rfl rfl ?_
              refine v_if_ge F 104 dX3_takeToken_99 (by decide) r36.toInt rfl (fun c38 => ?_) (fun c38 => ?_)
              · refine g_aload_n F 1 dX3_takeToken_104 rfl rfl ?_
                refine g_iload_n F 0 dX3_takeToken_105 rfl rfl ?_
                refine v_if_ne F 113 dX3_takeToken_106 (by decide) r36.toInt rfl (fun c39 => ?_) (fun c39 => ?_)
                · refine g_bipush F (-2) dX3_takeToken_113 (by decide) ?_
                  refine u_callVi (k := 0) (n := 0) (b := a 16) (As := [.int (-2)]) (st := []) F (fun sz => S_X3_takeOperand_16 l D K a G (-2) (-2) rfl (fi) hI sz) (cwV 1 hts gX3_takeToken_X3_takeOperand rfl rfl rfl (by decide +kernel) ⟨Nat.le_of_ble_eq_true rfl, Nat.le_of_ble_eq_true rfl⟩) rfl 16 xc_16 rfl (Nat.le_of_ble_eq_true rfl) ⟨Nat.zero_le _, Nat.zero_le _⟩ dX3_takeToken_115 (fun r40 G42 hw41 => ?_)
                  have hI43 : xI G42 := hw41.1
                  have hU44 : gu_un xcd [1602, 1605, 1606, 1607, 1609, 3500] G G42 := hw41.2.1
                  have hp45 := hw41.2.2
                  have q46 : xFi 16 37 G42 := hp45.2
                  exact u_iret F hA hQ hr G42 (⟨hI43, (gu_un.tr gu_un.rf (gu_un.su hU44 rfl)), (by have h9 := ti_rng r40; omega), (q46)⟩) rfl rfl dX3_takeToken_118
                · refine g_iconst F (-1) dX3_takeToken_109 (by decide) ?_
                  refine g_goto F 115 dX3_takeToken_110 (by decide) ?_
                  refine u_callVi (k := 0) (n := 0) (b := a 16) (As := [.int (-1)]) (st := []) F (fun sz => S_X3_takeOperand_16 l D K a G (-1) (-1) rfl (fi) hI sz) (cwV 1 hts gX3_takeToken_X3_takeOperand rfl rfl rfl (by decide +kernel) ⟨Nat.le_of_ble_eq_true rfl, Nat.le_of_ble_eq_true rfl⟩) rfl 16 xc_16 rfl (Nat.le_of_ble_eq_true rfl) ⟨Nat.zero_le _, Nat.zero_le _⟩ dX3_takeToken_115 (fun r47 G49 hw48 => ?_)
                  have hI50 : xI G49 := hw48.1
                  have hU51 : gu_un xcd [1602, 1605, 1606, 1607, 1609, 3500] G G49 := hw48.2.1
                  have hp52 := hw48.2.2
                  have q53 : xFi 16 37 G49 := hp52.2
                  exact u_iret F hA hQ hr G49 (⟨hI50, (gu_un.tr gu_un.rf (gu_un.su hU51 rfl)), (by have h9 := ti_rng r47; omega), (q53)⟩) rfl rfl dX3_takeToken_118
              · refine g_iconst F 1 dX3_takeToken_102 (by decide) ?_
                exact u_iret F hA hQ hr G (⟨hI, gu_un.rf, (by decide), (fi)⟩) rfl rfl dX3_takeToken_103
        · refine g_aload_n F 0 dX3_takeToken_60 rfl rfl ?_
          refine g_aload_n F 1 dX3_takeToken_61 rfl rfl ?_
          refine xg_1_5 F i_X10 w_2 dX3_takeToken_62 (G 1 5) (rfl) ?_
          refine u_callVi (k := 0) (n := 0) (b := a 16) (As := [.int (G 1 5)]) (st := []) F (fun sz => S_X3_takeOperand_16 l D K a G (G 1 5) (G 1 5).toInt rfl (fi) hI sz) (cwV 1 hts gX3_takeToken_X3_takeOperand rfl rfl rfl (by decide +kernel) ⟨Nat.le_of_ble_eq_true rfl, Nat.le_of_ble_eq_true rfl⟩) rfl 16 xc_16 rfl (Nat.le_of_ble_eq_true rfl) ⟨Nat.zero_le _, Nat.zero_le _⟩ dX3_takeToken_65 (fun r54 G56 hw55 => ?_)
          have hI57 : xI G56 := hw55.1
          have hU58 : gu_un xcd [1602, 1605, 1606, 1607, 1609, 3500] G G56 := hw55.2.1
          have hp59 := hw55.2.2
          have q60 : xFi 16 37 G56 := hp59.2
          exact u_iret F hA hQ hr G56 (⟨hI57, (gu_un.tr gu_un.rf (gu_un.su hU58 rfl)), (by have h9 := ti_rng r54; omega), (q60)⟩) rfl rfl dX3_takeToken_68
      · refine g_aload_n F 0 dX3_takeToken_31 rfl rfl ?_
        refine g_aload_n F 1 dX3_takeToken_32 rfl rfl ?_
        refine g_bipush F 40 dX3_takeToken_33 (by decide) ?_
        refine u_callVi (k := 0) (n := 0) (b := a 1) (As := [.int 40]) (st := [.ref (a 16)]) F (fun sz => S_X10_isSign l D K a G 40 40 rfl hI sz) (cwV 1 hts gX3_takeToken_X10_isSign rfl rfl rfl (by decide +kernel) ⟨Nat.le_of_ble_eq_true rfl, Nat.le_of_ble_eq_true rfl⟩) rfl 1 xc_1 rfl (Nat.le_of_ble_eq_true rfl) ⟨Nat.zero_le _, Nat.zero_le _⟩ dX3_takeToken_35 (fun r61 _ hw62 => ?_)
        refine v_if_eq F 46 dX3_takeToken_38 (by decide) r61.toInt rfl (fun c64 => ?_) (fun c64 => ?_)
        · refine g_bipush F (-3) dX3_takeToken_46 (by decide) ?_
          refine u_callVi (k := 0) (n := 0) (b := a 16) (As := [.int (-3)]) (st := []) F (fun sz => S_X3_takeOpening_16_m3 l D K a G  (fi) (by (first | omega | (simp only [Int32.reduceToInt, true_and, and_true, ne_eq, not_true_eq_false, false_and, or_false, false_or, true_or, or_true, false_implies] <;> omega))) hI sz) (cwV 1 hts gX3_takeToken_X3_takeOpening rfl rfl rfl (by decide +kernel) ⟨Nat.le_of_ble_eq_true rfl, Nat.le_of_ble_eq_true rfl⟩) rfl 16 xc_16 rfl (Nat.le_of_ble_eq_true rfl) ⟨Nat.zero_le _, Nat.zero_le _⟩ dX3_takeToken_48 (fun r65 G67 hw66 => ?_)
          have hI68 : xI G67 := hw66.1
          have hU69 : gu_un xcd [1605, 1607, 3700] G G67 := hw66.2.1
          have hp70 := hw66.2.2
          have q71 : xFi 16 37 G67 := hp70.2
          exact u_iret F hA hQ hr G67 (⟨hI68, (gu_un.tr gu_un.rf (gu_un.su hU69 rfl)), (by have h9 := ti_rng r65; omega), (q71)⟩) rfl rfl dX3_takeToken_51
        · refine g_bipush F 40 dX3_takeToken_41 (by decide) ?_
          refine g_goto F 48 dX3_takeToken_43 (by decide) ?_
          refine u_callVi (k := 0) (n := 0) (b := a 16) (As := [.int 40]) (st := []) F (fun sz => S_X3_takeOpening_16_v40 l D K a G  (fi) (by (first | omega | (simp only [Int32.reduceToInt, true_and, and_true, ne_eq, not_true_eq_false, false_and, or_false, false_or, true_or, or_true, false_implies] <;> omega))) hI sz) (cwV 1 hts gX3_takeToken_X3_takeOpening rfl rfl rfl (by decide +kernel) ⟨Nat.le_of_ble_eq_true rfl, Nat.le_of_ble_eq_true rfl⟩) rfl 16 xc_16 rfl (Nat.le_of_ble_eq_true rfl) ⟨Nat.zero_le _, Nat.zero_le _⟩ dX3_takeToken_48 (fun r72 G74 hw73 => ?_)
          have hI75 : xI G74 := hw73.1
          have hU76 : gu_un xcd [1605, 1607, 1608, 3700] G G74 := hw73.2.1
          have hp77 := hw73.2.2
          have q78 : xFi 16 37 G74 := hp77.2
          exact u_iret F hA hQ hr G74 (⟨hI75, (gu_un.tr gu_un.rf (gu_un.su hU76 rfl)), (by have h9 := ti_rng r72; omega), (q78)⟩) rfl rfl dX3_takeToken_51
  · refine g_aload_n F 0 dX3_takeToken_7 rfl rfl ?_
    refine g_aload_n F 1 dX3_takeToken_8 rfl rfl ?_
    refine u_callVi (k := 0) (n := 0) (b := a 16) (As := [.ref (a 1)]) (st := []) F (fun sz => S_X3_takeBehindOperand_16_1 l D K a G  (fi) (by (first | omega | (simp only [Int32.reduceToInt, true_and, and_true, ne_eq, not_true_eq_false, false_and, or_false, false_or, true_or, or_true, false_implies] <;> omega))) hI sz) (cwV 1 hts gX3_takeToken_X3_takeBehindOperand rfl rfl rfl (by decide +kernel) ⟨Nat.le_of_ble_eq_true rfl, Nat.le_of_ble_eq_true rfl⟩) rfl 16 xc_16 rfl (Nat.le_of_ble_eq_true rfl) ⟨Nat.zero_le _, Nat.zero_le _⟩ dX3_takeToken_9 (fun r79 G81 hw80 => ?_)
    have hI82 : xI G81 := hw80.1
    have hU83 : gu_un xcd [1602, 1605, 1607, 1608, 1609, 3500, 3700] G G81 := hw80.2.1
    have hp84 := hw80.2.2
    have q85 : xFi 16 37 G81 := hp84.2
    exact u_iret F hA hQ hr G81 (⟨hI82, (gu_un.tr gu_un.rf (gu_un.su hU83 rfl)), (by have h9 := ti_rng r79; omega), (q85)⟩) rfl rfl dX3_takeToken_12
