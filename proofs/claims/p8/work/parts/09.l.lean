theorem dX8_takeToken_0 : decode cX8_takeToken 0 = .ok (.aload_n 0, 1) := by decide +kernel
theorem dX8_takeToken_1 : decode cX8_takeToken 1 = .ok (.getfield 31, 3) := by decide +kernel
theorem dX8_takeToken_4 : decode cX8_takeToken 4 = .ok (.ifCond .lt 14, 3) := by decide +kernel
theorem dX8_takeToken_7 : decode cX8_takeToken 7 = .ok (.aload_n 0, 1) := by decide +kernel
theorem dX8_takeToken_8 : decode cX8_takeToken 8 = .ok (.getfield 31, 3) := by decide +kernel
theorem dX8_takeToken_11 : decode cX8_takeToken 11 = .ok (.getstatic 49, 3) := by decide +kernel
theorem dX8_takeToken_14 : decode cX8_takeToken 14 = .ok (.arraylength, 1) := by decide +kernel
theorem dX8_takeToken_15 : decode cX8_takeToken 15 = .ok (.if_icmp .lt 8, 3) := by decide +kernel
theorem dX8_takeToken_18 : decode cX8_takeToken 18 = .ok (.aload_n 0, 1) := by decide +kernel
theorem dX8_takeToken_19 : decode cX8_takeToken 19 = .ok (.invokevirtual 53, 3) := by decide +kernel
theorem dX8_takeToken_22 : decode cX8_takeToken 22 = .ok (.ireturn, 1) := by decide +kernel
theorem dX8_takeToken_23 : decode cX8_takeToken 23 = .ok (.getstatic 49, 3) := by decide +kernel
theorem dX8_takeToken_26 : decode cX8_takeToken 26 = .ok (.aload_n 0, 1) := by decide +kernel
theorem dX8_takeToken_27 : decode cX8_takeToken 27 = .ok (.getfield 31, 3) := by decide +kernel
theorem dX8_takeToken_30 : decode cX8_takeToken 30 = .ok (.aaload, 1) := by decide +kernel
theorem dX8_takeToken_31 : decode cX8_takeToken 31 = .ok (.astore_n 1, 1) := by decide +kernel
theorem dX8_takeToken_32 : decode cX8_takeToken 32 = .ok (.aload_n 1, 1) := by decide +kernel
theorem dX8_takeToken_33 : decode cX8_takeToken 33 = .ok (.invokevirtual 56, 3) := by decide +kernel
theorem dX8_takeToken_36 : decode cX8_takeToken 36 = .ok (.ifCond .eq 11, 3) := by decide +kernel
theorem dX8_takeToken_39 : decode cX8_takeToken 39 = .ok (.aload_n 0, 1) := by decide +kernel
theorem dX8_takeToken_40 : decode cX8_takeToken 40 = .ok (.aload_n 1, 1) := by decide +kernel
theorem dX8_takeToken_41 : decode cX8_takeToken 41 = .ok (.invokevirtual 62, 3) := by decide +kernel
theorem dX8_takeToken_44 : decode cX8_takeToken 44 = .ok (.goto 8, 3) := by decide +kernel
theorem dX8_takeToken_47 : decode cX8_takeToken 47 = .ok (.aload_n 0, 1) := by decide +kernel
theorem dX8_takeToken_48 : decode cX8_takeToken 48 = .ok (.aload_n 1, 1) := by decide +kernel
theorem dX8_takeToken_49 : decode cX8_takeToken 49 = .ok (.invokevirtual 66, 3) := by decide +kernel
theorem dX8_takeToken_52 : decode cX8_takeToken 52 = .ok (.ireturn, 1) := by decide +kernel
set_option maxRecDepth 20000 in
theorem ggX8_takeToken_X1_isSum : GoodIn wsX8_takeToken wsX1_isSum := goodIn_r _ [81, 82, 83, 84, 85, 25, 86, 27] rfl (by decide +kernel)
set_option maxRecDepth 20000 in
theorem gX8_takeToken_X1_isSum : GoodIn wsX8_takeToken (wsV RX8 56 RX1 yX1_isSum wsX1_isSum) := goodIn_app (goodIn_of _ (by decide +kernel)) ggX8_takeToken_X1_isSum
set_option maxRecDepth 20000 in
theorem ggX8_takeToken_X8_takeClauseWord : GoodIn wsX8_takeToken wsX8_takeClauseWord := goodIn_r _ [7, 2, 8, 9, 10, 1, 11, 12, 13, 14, 15, 16, 17, 18, 19, 20, 21, 22, 23, 24, 25, 26, 27, 28, 29, 30, 31, 32, 33, 34, 35, 36, 37, 38, 39, 40, 41, 42, 43, 44, 45, 46, 47, 48, 49, 50, 51, 52, 53, 54, 55, 56, 57, 58, 59, 60, 61, 62, 63, 64, 65, 66, 67, 68, 69, 70, 71, 72, 73, 74, 75, 76, 77, 78, 79, 80, 81, 82, 83, 84, 85, 86, 87, 88, 89, 90, 91, 92, 93, 94, 95, 96, 97, 98, 99, 100, 101, 102, 103, 104, 105, 257, 258, 259, 260, 261, 262, 263, 264, 265, 266, 267, 268, 269, 270, 271, 272, 273, 274, 275, 276, 277, 278, 279, 280, 281, 282] rfl (by decide +kernel)
set_option maxRecDepth 20000 in
theorem gX8_takeToken_X8_takeClauseWord : GoodIn wsX8_takeToken (wsV RX8 53 RX8 yX8_takeClauseWord wsX8_takeClauseWord) := goodIn_app (goodIn_of _ (by decide +kernel)) ggX8_takeToken_X8_takeClauseWord
set_option maxRecDepth 20000 in
theorem ggX8_takeToken_X8_takeOfNumbers : GoodIn wsX8_takeToken wsX8_takeOfNumbers := goodIn_r _ [236, 8, 11, 237, 12, 238, 13, 239, 240, 241, 242, 243, 80, 244, 245, 111, 112, 113, 17, 114, 19, 115, 246, 247, 248, 90, 249, 250, 140, 141, 142, 6, 143, 1, 144, 251, 252, 253, 254, 255, 256, 257, 258, 259, 260, 261, 262, 263, 264, 265, 266, 267, 268, 269, 270, 271, 272, 273] rfl (by decide +kernel)
set_option maxRecDepth 20000 in
theorem gX8_takeToken_X8_takeOfNumbers : GoodIn wsX8_takeToken (wsV RX8 66 RX8 yX8_takeOfNumbers wsX8_takeOfNumbers) := goodIn_app (goodIn_of _ (by decide +kernel)) ggX8_takeToken_X8_takeOfNumbers
set_option maxRecDepth 20000 in
theorem ggX8_takeToken_X8_takeOfSum : GoodIn wsX8_takeToken wsX8_takeOfSum := goodIn_r _ [109, 12, 13, 8, 110, 87, 88, 89, 90, 91, 92, 93, 94, 111, 112, 113, 17, 114, 19, 115, 116, 117, 118, 98, 119, 105, 104, 120, 121, 122, 123, 124, 125, 126, 127, 101, 128, 129, 130, 131, 132, 133, 134, 135, 136, 137, 138, 100, 139, 140, 141, 142, 6, 143, 1, 144, 145, 146, 147, 148, 149, 150, 151, 152, 153, 154, 103, 155, 156, 157, 158, 159, 160, 161, 162, 163, 164, 165, 166, 167, 168, 169, 170, 171, 102, 172, 173, 174, 25, 175, 176, 177, 178, 179, 27, 44, 45, 46, 47, 32, 33, 180, 23, 24, 26, 28, 29, 30, 31, 181, 182, 50, 183, 184, 185, 186, 187, 188, 189, 190, 191, 192, 193, 194, 195, 196, 197, 198, 62, 199, 200, 201, 202, 203, 204, 205, 206, 207, 208, 67, 68, 69, 209, 210, 211, 55, 212, 213, 58, 214, 215, 216, 217, 71, 72, 73, 74, 75, 76, 218, 219, 220, 221, 222, 223, 224, 225, 226, 227, 228, 229, 230, 231, 232, 257, 258, 259, 260, 261, 262, 263, 270, 271, 272, 273, 264, 265, 266, 267, 268, 269, 274, 275, 276, 277, 278, 279, 280, 281, 282] rfl (by decide +kernel)
set_option maxRecDepth 20000 in
theorem gX8_takeToken_X8_takeOfSum : GoodIn wsX8_takeToken (wsV RX8 62 RX8 yX8_takeOfSum wsX8_takeOfSum) := goodIn_app (goodIn_of _ (by decide +kernel)) ggX8_takeToken_X8_takeOfSum
set_option maxHeartbeats 4000000 in
set_option maxRecDepth 100000 in
theorem S_X8_takeToken (l : Launch) (D : va_G) (K : Nat → ClassId) (a : Nat → Nat) (G : gS) (zf : Nat → Nat) (f3 : xF3 G) (nb : xNb (G 19)) (ri : ((G 4 4).toInt = -1 ∨ (G 4 5).toInt ≤ 1 ∨ ((G 4 5).toInt ≤ 2 ∧ ((G 4 4).toInt = 3 ∨ (G 4 4).toInt = 4)) ∨ ((G 4 5).toInt ≤ 4 ∧ (G 4 4).toInt = 8) ∨ (G 4 4).toInt = 9)) (hI : xI G) (sz : Nat) : KiZ (xZ zf) l yX8_takeToken wsX8_takeToken 7 176 D [.ref (a 4)] (xW K a G) (tK K) sz (fun (r : Int32) (G' : gS) => (xI G') ∧ (gu_un xcd [403, 404, 405, 406, 407, 1402, 1405, 1406, 1407, 1408, 1409, 1502, 1505, 1506, 1507, 1508, 1509, 1602, 1605, 1606, 1607, 1608, 1609, 1900, 2900, 3100, 3200, 3400, 3500, 3700] G G') ∧ (0 ≤ r.toInt ∧ r.toInt ≤ 4) ∧ (xF3 G') ∧ (xNb (G' 19)) ∧ (((G' 4 4).toInt = -1 ∨ (G' 4 5).toInt ≤ 1 ∨ ((G' 4 5).toInt ≤ 2 ∧ ((G' 4 4).toInt = 3 ∨ (G' 4 4).toInt = 4)) ∨ ((G' 4 5).toInt ≤ 4 ∧ (G' 4 4).toInt = 8) ∨ (G' 4 4).toInt = 9))) (fun (G' : gS) => (xW K a G')) := by
  unfold KiZ
  refine gz_ofW (cc := cX8_takeToken) (lv := [(0, .ref (a 4))]) (by decide) rfl (Nat.le_of_ble_eq_true rfl) rfl ?_
  intro p e s m args below meth c A Q hA hQ hZ F hr hnm
  have hts := F.2.2.2.2.1
  have w_0 : (Cond.fieldLink RX8 31 "QuietCut$ShopReader" "open" "I").before args s = true := hts _ (List.mem_of_getElem? (i := 1) rfl)
  have i_X8 : ∀ w ∈ u_ws RX8 TX8 7, w ∈ wsX8_takeToken := fun _ h => List.mem_cons_of_mem _ (List.mem_append_left _ (List.mem_append_left _ (List.mem_append_left _ (List.mem_append_right _ h))))
  have w_1 : (Cond.fieldLink RX8 49 "QuietCut$ShopReader" "CLAUSES" "[LQuietCut$Clause;").before args s = true := hts _ (List.mem_of_getElem? (i := 2) rfl)
  have b1 : ((-1) : Int) ≤ (G 4 4).toInt ∧ (G 4 4).toInt ≤ 12 := hI 4 4
  have b2 : (0 : Int) ≤ (G 4 5).toInt ∧ (G 4 5).toInt ≤ 6 := hI 4 5
  refine g_aload_n F 0 dX8_takeToken_0 rfl rfl ?_
  refine xg_4_4 F i_X8 w_0 dX8_takeToken_1 (G 4 4) (rfl) ?_
  refine v_if_lt F 18 dX8_takeToken_4 (by decide) (G 4 4).toInt rfl (fun c3 => ?_) (fun c3 => ?_)
  · refine g_aload_n F 0 dX8_takeToken_18 rfl rfl ?_
    refine uz_callVi (k := 0) (n := 0) (b := a 4) (As := []) (st := []) F xZ_st hZ (fun sz => S_X8_takeClauseWord l D K a G zf  (f3) (by (first | omega | (simp only [Int32.reduceToInt, true_and, and_true, ne_eq, not_true_eq_false, false_and, or_false, false_or, true_or, or_true, false_implies] <;> omega))) hI sz) (cwV 0 hts gX8_takeToken_X8_takeClauseWord rfl rfl rfl (by decide +kernel) ⟨Nat.le_of_ble_eq_true rfl, Nat.le_of_ble_eq_true rfl⟩) rfl 4 xc_4 rfl (Nat.le_of_ble_eq_true rfl) ⟨Nat.zero_le _, Nat.zero_le _⟩ dX8_takeToken_19 (fun r4 G6 hw5 => ?_)
    have hI7 : xI G6 := hw5.1
    have hU8 : gu_un xcd [404, 405, 406, 1402, 1405, 1406, 1407, 1408, 1409, 1502, 1505, 1506, 1507, 1508, 1509, 1602, 1605, 1606, 1607, 1608, 1609] G G6 := hw5.2.1
    have hp9 := hw5.2.2
    have q10 : xF3 G6 := hp9.2.1
    have b11 : ((-1) : Int) ≤ (G6 4 4).toInt ∧ (G6 4 4).toInt ≤ 12 := hI7 4 4
    have b12 : (0 : Int) ≤ (G6 4 5).toInt ∧ (G6 4 5).toInt ≤ 6 := hI7 4 5
    have q13 : ((G6 4 4).toInt = -1 ∨ (G6 4 5).toInt ≤ 1 ∨ ((G6 4 5).toInt ≤ 2 ∧ ((G6 4 4).toInt = 3 ∨ (G6 4 4).toInt = 4)) ∨ ((G6 4 5).toInt ≤ 4 ∧ (G6 4 4).toInt = 8) ∨ (G6 4 4).toInt = 9) := hp9.2.2
    exact u_iret F hA hQ hr G6 (⟨hI7, (gu_un.tr gu_un.rf (gu_un.su hU8 rfl)), (by have h9 := ti_rng r4; omega), (q10), ((xNb.un nb (show gu_un xcd [404, 405, 406, 1402, 1405, 1406, 1407, 1408, 1409, 1502, 1505, 1506, 1507, 1508, 1509, 1602, 1605, 1606, 1607, 1608, 1609] G G6 from (gu_un.tr gu_un.rf (gu_un.su hU8 rfl))) rfl)), (by show ((G6 4 4).toInt = -1 ∨ (G6 4 5).toInt ≤ 1 ∨ ((G6 4 5).toInt ≤ 2 ∧ ((G6 4 4).toInt = 3 ∨ (G6 4 4).toInt = 4)) ∨ ((G6 4 5).toInt ≤ 4 ∧ (G6 4 4).toInt = 8) ∨ (G6 4 4).toInt = 9); (first | omega | (simp only [Int32.reduceToInt, true_and, and_true, ne_eq, not_true_eq_false, false_and, or_false, false_or, true_or, or_true, false_implies] <;> omega)))⟩) rfl rfl dX8_takeToken_22
  · refine g_aload_n F 0 dX8_takeToken_7 rfl rfl ?_
    refine xg_4_4 F i_X8 w_0 dX8_takeToken_8 (G 4 4) (rfl) ?_
    refine uz_gets F hZ.2.2.2.1 w_1 dX8_takeToken_11 ?_
    refine uz_tlen F hZ.2.2.2.2.1 13 rfl dX8_takeToken_14 ?_
    refine v_icmp_lt F 23 dX8_takeToken_15 (by decide) (G 4 4).toInt 13 rfl rfl (fun c14 => ?_) (fun c14 => absurd c14 (by omega))
    refine uz_gets F hZ.2.2.2.1 w_1 dX8_takeToken_23 ?_
    refine g_aload_n F 0 dX8_takeToken_26 rfl rfl ?_
    refine xg_4_4 F i_X8 w_0 dX8_takeToken_27 (G 4 4) (rfl) ?_
    rcases (show (G 4 4).toInt = 0 ∨ (G 4 4).toInt = 1 ∨ (G 4 4).toInt = 2 ∨ (G 4 4).toInt = 3 ∨ (G 4 4).toInt = 4 ∨ (G 4 4).toInt = 5 ∨ (G 4 4).toInt = 6 ∨ (G 4 4).toInt = 7 ∨ (G 4 4).toInt = 8 ∨ (G 4 4).toInt = 9 ∨ (G 4 4).toInt = 10 ∨ (G 4 4).toInt = 11 ∨ (G 4 4).toInt = 12 by omega) with c15 | c15 | c15 | c15 | c15 | c15 | c15 | c15 | c15 | c15 | c15 | c15 | c15
    · refine uz_tq (v := .ref (zf 10)) F hZ.2.2.2.2.1 0 c15 (by decide) (by decide) rfl dX8_takeToken_30 ?_
      refine g_astore_n F [(1, .ref (zf 10)), (0, .ref (a 4))] dX8_takeToken_31 rfl (by decide) rfl ?_
      refine g_aload_n F 0 dX8_takeToken_32 rfl rfl ?_
      refine uz_call0Vi (k := 0) (n := 0) (b := (zf 10)) (As := []) (st := []) F xZ_st hZ (fun sz => S_X1_isSum_c0 l D zf sz) (cwV 0 hts gX8_takeToken_X1_isSum rfl rfl rfl (by decide +kernel) ⟨Nat.le_of_ble_eq_true rfl, Nat.le_of_ble_eq_true rfl⟩) (hZ.2.2.2.2.2 0 (by decide)).1 rfl (Nat.le_of_ble_eq_true rfl) ⟨Nat.zero_le _, Nat.zero_le _⟩ dX8_takeToken_33 (fun r16 _ hw17 => ?_)
      have hw17 : r16.toInt = 0 := hw17
      refine g_fold 0 ((ti_eq rfl (show (0 : Int32).toInt = 0 from rfl)).mpr hw17) ?_
      refine v_if_eq F 47 dX8_takeToken_36 (by decide) 0 rfl (fun c18 => ?_) (fun c18 => absurd c18 (by decide))
      refine g_aload_n F 1 dX8_takeToken_47 rfl rfl ?_
      refine g_aload_n F 0 dX8_takeToken_48 rfl rfl ?_
      refine uz_callVi (k := 0) (n := 0) (b := a 4) (As := [.ref (zf 10)]) (st := []) F xZ_st hZ (fun sz => S_X8_takeOfNumbers_c0 l D K a G zf  (nb) (by (first | omega | (simp only [Int32.reduceToInt, true_and, and_true, ne_eq, not_true_eq_false, false_and, or_false, false_or, true_or, or_true, false_implies] <;> omega))) hI sz) (cwV 1 hts gX8_takeToken_X8_takeOfNumbers rfl rfl rfl (by decide +kernel) ⟨Nat.le_of_ble_eq_true rfl, Nat.le_of_ble_eq_true rfl⟩) rfl 4 xc_4 rfl (Nat.le_of_ble_eq_true rfl) ⟨Nat.zero_le _, Nat.zero_le _⟩ dX8_takeToken_49 (fun r19 G21 hw20 => ?_)
      have hI22 : xI G21 := hw20.1
      have hU23 : gu_un xcd [403, 405, 406, 407, 1900] G G21 := hw20.2.1
      have hp24 := hw20.2.2
      have q25 : xNb (G21 19) := hp24.2.1
      have b26 : ((-1) : Int) ≤ (G21 4 4).toInt ∧ (G21 4 4).toInt ≤ 12 := hI22 4 4
      have b27 : (0 : Int) ≤ (G21 4 5).toInt ∧ (G21 4 5).toInt ≤ 6 := hI22 4 5
      have q28 : ((G21 4 4).toInt = -1 ∨ (G21 4 5).toInt ≤ 1 ∨ ((G21 4 5).toInt ≤ 2 ∧ ((G21 4 4).toInt = 3 ∨ (G21 4 4).toInt = 4)) ∨ ((G21 4 5).toInt ≤ 4 ∧ (G21 4 4).toInt = 8) ∨ (G21 4 4).toInt = 9) := hp24.2.2
      exact u_iret F hA hQ hr G21 (⟨hI22, (gu_un.tr gu_un.rf (gu_un.su hU23 rfl)), (by have h9 := ti_rng r19; omega), ((xF3.un f3 (show gu_un xcd [403, 405, 406, 407, 1900] G G21 from (gu_un.tr gu_un.rf (gu_un.su hU23 rfl))) rfl rfl rfl)), (q25), (by show ((G21 4 4).toInt = -1 ∨ (G21 4 5).toInt ≤ 1 ∨ ((G21 4 5).toInt ≤ 2 ∧ ((G21 4 4).toInt = 3 ∨ (G21 4 4).toInt = 4)) ∨ ((G21 4 5).toInt ≤ 4 ∧ (G21 4 4).toInt = 8) ∨ (G21 4 4).toInt = 9); (first | omega | (simp only [Int32.reduceToInt, true_and, and_true, ne_eq, not_true_eq_false, false_and, or_false, false_or, true_or, or_true, false_implies] <;> omega)))⟩) rfl rfl dX8_takeToken_52
    · refine uz_tq (v := .ref (zf 11)) F hZ.2.2.2.2.1 1 c15 (by decide) (by decide) rfl dX8_takeToken_30 ?_
      refine g_astore_n F [(1, .ref (zf 11)), (0, .ref (a 4))] dX8_takeToken_31 rfl (by decide) rfl ?_
      refine g_aload_n F 0 dX8_takeToken_32 rfl rfl ?_
      refine uz_call0Vi (k := 0) (n := 0) (b := (zf 11)) (As := []) (st := []) F xZ_st hZ (fun sz => S_X1_isSum_c1 l D zf sz) (cwV 0 hts gX8_takeToken_X1_isSum rfl rfl rfl (by decide +kernel) ⟨Nat.le_of_ble_eq_true rfl, Nat.le_of_ble_eq_true rfl⟩) (hZ.2.2.2.2.2 1 (by decide)).1 rfl (Nat.le_of_ble_eq_true rfl) ⟨Nat.zero_le _, Nat.zero_le _⟩ dX8_takeToken_33 (fun r29 _ hw30 => ?_)
      have hw30 : r29.toInt = 0 := hw30
      refine g_fold 0 ((ti_eq rfl (show (0 : Int32).toInt = 0 from rfl)).mpr hw30) ?_
      refine v_if_eq F 47 dX8_takeToken_36 (by decide) 0 rfl (fun c31 => ?_) (fun c31 => absurd c31 (by decide))
      refine g_aload_n F 1 dX8_takeToken_47 rfl rfl ?_
      refine g_aload_n F 0 dX8_takeToken_48 rfl rfl ?_
      refine uz_callVi (k := 0) (n := 0) (b := a 4) (As := [.ref (zf 11)]) (st := []) F xZ_st hZ (fun sz => S_X8_takeOfNumbers_c1 l D K a G zf  (nb) (by (first | omega | (simp only [Int32.reduceToInt, true_and, and_true, ne_eq, not_true_eq_false, false_and, or_false, false_or, true_or, or_true, false_implies] <;> omega))) hI sz) (cwV 1 hts gX8_takeToken_X8_takeOfNumbers rfl rfl rfl (by decide +kernel) ⟨Nat.le_of_ble_eq_true rfl, Nat.le_of_ble_eq_true rfl⟩) rfl 4 xc_4 rfl (Nat.le_of_ble_eq_true rfl) ⟨Nat.zero_le _, Nat.zero_le _⟩ dX8_takeToken_49 (fun r32 G34 hw33 => ?_)
      have hI35 : xI G34 := hw33.1
      have hU36 : gu_un xcd [403, 405, 406, 407, 1900] G G34 := hw33.2.1
      have hp37 := hw33.2.2
      have q38 : xNb (G34 19) := hp37.2.1
      have b39 : ((-1) : Int) ≤ (G34 4 4).toInt ∧ (G34 4 4).toInt ≤ 12 := hI35 4 4
      have b40 : (0 : Int) ≤ (G34 4 5).toInt ∧ (G34 4 5).toInt ≤ 6 := hI35 4 5
      have q41 : ((G34 4 4).toInt = -1 ∨ (G34 4 5).toInt ≤ 1 ∨ ((G34 4 5).toInt ≤ 2 ∧ ((G34 4 4).toInt = 3 ∨ (G34 4 4).toInt = 4)) ∨ ((G34 4 5).toInt ≤ 4 ∧ (G34 4 4).toInt = 8) ∨ (G34 4 4).toInt = 9) := hp37.2.2
      exact u_iret F hA hQ hr G34 (⟨hI35, (gu_un.tr gu_un.rf (gu_un.su hU36 rfl)), (by have h9 := ti_rng r32; omega), ((xF3.un f3 (show gu_un xcd [403, 405, 406, 407, 1900] G G34 from (gu_un.tr gu_un.rf (gu_un.su hU36 rfl))) rfl rfl rfl)), (q38), (by show ((G34 4 4).toInt = -1 ∨ (G34 4 5).toInt ≤ 1 ∨ ((G34 4 5).toInt ≤ 2 ∧ ((G34 4 4).toInt = 3 ∨ (G34 4 4).toInt = 4)) ∨ ((G34 4 5).toInt ≤ 4 ∧ (G34 4 4).toInt = 8) ∨ (G34 4 4).toInt = 9); (first | omega | (simp only [Int32.reduceToInt, true_and, and_true, ne_eq, not_true_eq_false, false_and, or_false, false_or, true_or, or_true, false_implies] <;> omega)))⟩) rfl rfl dX8_takeToken_52
    · refine uz_tq (v := .ref (zf 12)) F hZ.2.2.2.2.1 2 c15 (by decide) (by decide) rfl dX8_takeToken_30 ?_
      refine g_astore_n F [(1, .ref (zf 12)), (0, .ref (a 4))] dX8_takeToken_31 rfl (by decide) rfl ?_
      refine g_aload_n F 0 dX8_takeToken_32 rfl rfl ?_
      refine uz_call0Vi (k := 0) (n := 0) (b := (zf 12)) (As := []) (st := []) F xZ_st hZ (fun sz => S_X1_isSum_c2 l D zf sz) (cwV 0 hts gX8_takeToken_X1_isSum rfl rfl rfl (by decide +kernel) ⟨Nat.le_of_ble_eq_true rfl, Nat.le_of_ble_eq_true rfl⟩) (hZ.2.2.2.2.2 2 (by decide)).1 rfl (Nat.le_of_ble_eq_true rfl) ⟨Nat.zero_le _, Nat.zero_le _⟩ dX8_takeToken_33 (fun r42 _ hw43 => ?_)
      have hw43 : r42.toInt = 0 := hw43
      refine g_fold 0 ((ti_eq rfl (show (0 : Int32).toInt = 0 from rfl)).mpr hw43) ?_
      refine v_if_eq F 47 dX8_takeToken_36 (by decide) 0 rfl (fun c44 => ?_) (fun c44 => absurd c44 (by decide))
      refine g_aload_n F 1 dX8_takeToken_47 rfl rfl ?_
      refine g_aload_n F 0 dX8_takeToken_48 rfl rfl ?_
      refine uz_callVi (k := 0) (n := 0) (b := a 4) (As := [.ref (zf 12)]) (st := []) F xZ_st hZ (fun sz => S_X8_takeOfNumbers_c2 l D K a G zf  (nb) (by (first | omega | (simp only [Int32.reduceToInt, true_and, and_true, ne_eq, not_true_eq_false, false_and, or_false, false_or, true_or, or_true, false_implies] <;> omega))) hI sz) (cwV 1 hts gX8_takeToken_X8_takeOfNumbers rfl rfl rfl (by decide +kernel) ⟨Nat.le_of_ble_eq_true rfl, Nat.le_of_ble_eq_true rfl⟩) rfl 4 xc_4 rfl (Nat.le_of_ble_eq_true rfl) ⟨Nat.zero_le _, Nat.zero_le _⟩ dX8_takeToken_49 (fun r45 G47 hw46 => ?_)
      have hI48 : xI G47 := hw46.1
      have hU49 : gu_un xcd [403, 405, 406, 407, 1900] G G47 := hw46.2.1
      have hp50 := hw46.2.2
      have q51 : xNb (G47 19) := hp50.2.1
      have b52 : ((-1) : Int) ≤ (G47 4 4).toInt ∧ (G47 4 4).toInt ≤ 12 := hI48 4 4
      have b53 : (0 : Int) ≤ (G47 4 5).toInt ∧ (G47 4 5).toInt ≤ 6 := hI48 4 5
      have q54 : ((G47 4 4).toInt = -1 ∨ (G47 4 5).toInt ≤ 1 ∨ ((G47 4 5).toInt ≤ 2 ∧ ((G47 4 4).toInt = 3 ∨ (G47 4 4).toInt = 4)) ∨ ((G47 4 5).toInt ≤ 4 ∧ (G47 4 4).toInt = 8) ∨ (G47 4 4).toInt = 9) := hp50.2.2
      exact u_iret F hA hQ hr G47 (⟨hI48, (gu_un.tr gu_un.rf (gu_un.su hU49 rfl)), (by have h9 := ti_rng r45; omega), ((xF3.un f3 (show gu_un xcd [403, 405, 406, 407, 1900] G G47 from (gu_un.tr gu_un.rf (gu_un.su hU49 rfl))) rfl rfl rfl)), (q51), (by show ((G47 4 4).toInt = -1 ∨ (G47 4 5).toInt ≤ 1 ∨ ((G47 4 5).toInt ≤ 2 ∧ ((G47 4 4).toInt = 3 ∨ (G47 4 4).toInt = 4)) ∨ ((G47 4 5).toInt ≤ 4 ∧ (G47 4 4).toInt = 8) ∨ (G47 4 4).toInt = 9); (first | omega | (simp only [Int32.reduceToInt, true_and, and_true, ne_eq, not_true_eq_false, false_and, or_false, false_or, true_or, or_true, false_implies] <;> omega)))⟩) rfl rfl dX8_takeToken_52
    · refine uz_tq (v := .ref (zf 13)) F hZ.2.2.2.2.1 3 c15 (by decide) (by decide) rfl dX8_takeToken_30 ?_
      refine g_astore_n F [(1, .ref (zf 13)), (0, .ref (a 4))] dX8_takeToken_31 rfl (by decide) rfl ?_
      refine g_aload_n F 0 dX8_takeToken_32 rfl rfl ?_
      refine uz_call0Vi (k := 0) (n := 0) (b := (zf 13)) (As := []) (st := []) F xZ_st hZ (fun sz => S_X1_isSum_c3 l D zf sz) (cwV 0 hts gX8_takeToken_X1_isSum rfl rfl rfl (by decide +kernel) ⟨Nat.le_of_ble_eq_true rfl, Nat.le_of_ble_eq_true rfl⟩) (hZ.2.2.2.2.2 3 (by decide)).1 rfl (Nat.le_of_ble_eq_true rfl) ⟨Nat.zero_le _, Nat.zero_le _⟩ dX8_takeToken_33 (fun r55 _ hw56 => ?_)
      have hw56 : r55.toInt = 0 := hw56
      refine g_fold 0 ((ti_eq rfl (show (0 : Int32).toInt = 0 from rfl)).mpr hw56) ?_
      refine v_if_eq F 47 dX8_takeToken_36 (by decide) 0 rfl (fun c57 => ?_) (fun c57 => absurd c57 (by decide))
      refine g_aload_n F 1 dX8_takeToken_47 rfl rfl ?_
      refine g_aload_n F 0 dX8_takeToken_48 rfl rfl ?_
      refine uz_callVi (k := 0) (n := 0) (b := a 4) (As := [.ref (zf 13)]) (st := []) F xZ_st hZ (fun sz => S_X8_takeOfNumbers_c3 l D K a G zf  (nb) (by (first | omega | (simp only [Int32.reduceToInt, true_and, and_true, ne_eq, not_true_eq_false, false_and, or_false, false_or, true_or, or_true, false_implies] <;> omega))) hI sz) (cwV 1 hts gX8_takeToken_X8_takeOfNumbers rfl rfl rfl (by decide +kernel) ⟨Nat.le_of_ble_eq_true rfl, Nat.le_of_ble_eq_true rfl⟩) rfl 4 xc_4 rfl (Nat.le_of_ble_eq_true rfl) ⟨Nat.zero_le _, Nat.zero_le _⟩ dX8_takeToken_49 (fun r58 G60 hw59 => ?_)
      have hI61 : xI G60 := hw59.1
      have hU62 : gu_un xcd [403, 405, 406, 407, 1900] G G60 := hw59.2.1
      have hp63 := hw59.2.2
      have q64 : xNb (G60 19) := hp63.2.1
      have b65 : ((-1) : Int) ≤ (G60 4 4).toInt ∧ (G60 4 4).toInt ≤ 12 := hI61 4 4
      have b66 : (0 : Int) ≤ (G60 4 5).toInt ∧ (G60 4 5).toInt ≤ 6 := hI61 4 5
      have q67 : ((G60 4 4).toInt = -1 ∨ (G60 4 5).toInt ≤ 1 ∨ ((G60 4 5).toInt ≤ 2 ∧ ((G60 4 4).toInt = 3 ∨ (G60 4 4).toInt = 4)) ∨ ((G60 4 5).toInt ≤ 4 ∧ (G60 4 4).toInt = 8) ∨ (G60 4 4).toInt = 9) := hp63.2.2
      exact u_iret F hA hQ hr G60 (⟨hI61, (gu_un.tr gu_un.rf (gu_un.su hU62 rfl)), (by have h9 := ti_rng r58; omega), ((xF3.un f3 (show gu_un xcd [403, 405, 406, 407, 1900] G G60 from (gu_un.tr gu_un.rf (gu_un.su hU62 rfl))) rfl rfl rfl)), (q64), (by show ((G60 4 4).toInt = -1 ∨ (G60 4 5).toInt ≤ 1 ∨ ((G60 4 5).toInt ≤ 2 ∧ ((G60 4 4).toInt = 3 ∨ (G60 4 4).toInt = 4)) ∨ ((G60 4 5).toInt ≤ 4 ∧ (G60 4 4).toInt = 8) ∨ (G60 4 4).toInt = 9); (first | omega | (simp only [Int32.reduceToInt, true_and, and_true, ne_eq, not_true_eq_false, false_and, or_false, false_or, true_or, or_true, false_implies] <;> omega)))⟩) rfl rfl dX8_takeToken_52
    · refine uz_tq (v := .ref (zf 14)) F hZ.2.2.2.2.1 4 c15 (by decide) (by decide) rfl dX8_takeToken_30 ?_
      refine g_astore_n F [(1, .ref (zf 14)), (0, .ref (a 4))] dX8_takeToken_31 rfl (by decide) rfl ?_
      refine g_aload_n F 0 dX8_takeToken_32 rfl rfl ?_
      refine uz_call0Vi (k := 0) (n := 0) (b := (zf 14)) (As := []) (st := []) F xZ_st hZ (fun sz => S_X1_isSum_c4 l D zf sz) (cwV 0 hts gX8_takeToken_X1_isSum rfl rfl rfl (by decide +kernel) ⟨Nat.le_of_ble_eq_true rfl, Nat.le_of_ble_eq_true rfl⟩) (hZ.2.2.2.2.2 4 (by decide)).1 rfl (Nat.le_of_ble_eq_true rfl) ⟨Nat.zero_le _, Nat.zero_le _⟩ dX8_takeToken_33 (fun r68 _ hw69 => ?_)
      have hw69 : r68.toInt = 0 := hw69
      refine g_fold 0 ((ti_eq rfl (show (0 : Int32).toInt = 0 from rfl)).mpr hw69) ?_
      refine v_if_eq F 47 dX8_takeToken_36 (by decide) 0 rfl (fun c70 => ?_) (fun c70 => absurd c70 (by decide))
      refine g_aload_n F 1 dX8_takeToken_47 rfl rfl ?_
      refine g_aload_n F 0 dX8_takeToken_48 rfl rfl ?_
      refine uz_callVi (k := 0) (n := 0) (b := a 4) (As := [.ref (zf 14)]) (st := []) F xZ_st hZ (fun sz => S_X8_takeOfNumbers_c4 l D K a G zf  (nb) (by (first | omega | (simp only [Int32.reduceToInt, true_and, and_true, ne_eq, not_true_eq_false, false_and, or_false, false_or, true_or, or_true, false_implies] <;> omega))) hI sz) (cwV 1 hts gX8_takeToken_X8_takeOfNumbers rfl rfl rfl (by decide +kernel) ⟨Nat.le_of_ble_eq_true rfl, Nat.le_of_ble_eq_true rfl⟩) rfl 4 xc_4 rfl (Nat.le_of_ble_eq_true rfl) ⟨Nat.zero_le _, Nat.zero_le _⟩ dX8_takeToken_49 (fun r71 G73 hw72 => ?_)
      have hI74 : xI G73 := hw72.1
      have hU75 : gu_un xcd [403, 405, 406, 407, 1900] G G73 := hw72.2.1
      have hp76 := hw72.2.2
      have q77 : xNb (G73 19) := hp76.2.1
      have b78 : ((-1) : Int) ≤ (G73 4 4).toInt ∧ (G73 4 4).toInt ≤ 12 := hI74 4 4
      have b79 : (0 : Int) ≤ (G73 4 5).toInt ∧ (G73 4 5).toInt ≤ 6 := hI74 4 5
      have q80 : ((G73 4 4).toInt = -1 ∨ (G73 4 5).toInt ≤ 1 ∨ ((G73 4 5).toInt ≤ 2 ∧ ((G73 4 4).toInt = 3 ∨ (G73 4 4).toInt = 4)) ∨ ((G73 4 5).toInt ≤ 4 ∧ (G73 4 4).toInt = 8) ∨ (G73 4 4).toInt = 9) := hp76.2.2
      exact u_iret F hA hQ hr G73 (⟨hI74, (gu_un.tr gu_un.rf (gu_un.su hU75 rfl)), (by have h9 := ti_rng r71; omega), ((xF3.un f3 (show gu_un xcd [403, 405, 406, 407, 1900] G G73 from (gu_un.tr gu_un.rf (gu_un.su hU75 rfl))) rfl rfl rfl)), (q77), (by show ((G73 4 4).toInt = -1 ∨ (G73 4 5).toInt ≤ 1 ∨ ((G73 4 5).toInt ≤ 2 ∧ ((G73 4 4).toInt = 3 ∨ (G73 4 4).toInt = 4)) ∨ ((G73 4 5).toInt ≤ 4 ∧ (G73 4 4).toInt = 8) ∨ (G73 4 4).toInt = 9); (first | omega | (simp only [Int32.reduceToInt, true_and, and_true, ne_eq, not_true_eq_false, false_and, or_false, false_or, true_or, or_true, false_implies] <;> omega)))⟩) rfl rfl dX8_takeToken_52
    · refine uz_tq (v := .ref (zf 15)) F hZ.2.2.2.2.1 5 c15 (by decide) (by decide) rfl dX8_takeToken_30 ?_
      refine g_astore_n F [(1, .ref (zf 15)), (0, .ref (a 4))] dX8_takeToken_31 rfl (by decide) rfl ?_
      refine g_aload_n F 0 dX8_takeToken_32 rfl rfl ?_
      refine uz_call0Vi (k := 0) (n := 0) (b := (zf 15)) (As := []) (st := []) F xZ_st hZ (fun sz => S_X1_isSum_c5 l D zf sz) (cwV 0 hts gX8_takeToken_X1_isSum rfl rfl rfl (by decide +kernel) ⟨Nat.le_of_ble_eq_true rfl, Nat.le_of_ble_eq_true rfl⟩) (hZ.2.2.2.2.2 5 (by decide)).1 rfl (Nat.le_of_ble_eq_true rfl) ⟨Nat.zero_le _, Nat.zero_le _⟩ dX8_takeToken_33 (fun r81 _ hw82 => ?_)
      have hw82 : r81.toInt = 0 := hw82
      refine g_fold 0 ((ti_eq rfl (show (0 : Int32).toInt = 0 from rfl)).mpr hw82) ?_
      refine v_if_eq F 47 dX8_takeToken_36 (by decide) 0 rfl (fun c83 => ?_) (fun c83 => absurd c83 (by decide))
      refine g_aload_n F 1 dX8_takeToken_47 rfl rfl ?_
      refine g_aload_n F 0 dX8_takeToken_48 rfl rfl ?_
      refine uz_callVi (k := 0) (n := 0) (b := a 4) (As := [.ref (zf 15)]) (st := []) F xZ_st hZ (fun sz => S_X8_takeOfNumbers_c5 l D K a G zf  (nb) (by (first | omega | (simp only [Int32.reduceToInt, true_and, and_true, ne_eq, not_true_eq_false, false_and, or_false, false_or, true_or, or_true, false_implies] <;> omega))) hI sz) (cwV 1 hts gX8_takeToken_X8_takeOfNumbers rfl rfl rfl (by decide +kernel) ⟨Nat.le_of_ble_eq_true rfl, Nat.le_of_ble_eq_true rfl⟩) rfl 4 xc_4 rfl (Nat.le_of_ble_eq_true rfl) ⟨Nat.zero_le _, Nat.zero_le _⟩ dX8_takeToken_49 (fun r84 G86 hw85 => ?_)
      have hI87 : xI G86 := hw85.1
      have hU88 : gu_un xcd [403, 405, 406, 407, 1900] G G86 := hw85.2.1
      have hp89 := hw85.2.2
      have q90 : xNb (G86 19) := hp89.2.1
      have b91 : ((-1) : Int) ≤ (G86 4 4).toInt ∧ (G86 4 4).toInt ≤ 12 := hI87 4 4
      have b92 : (0 : Int) ≤ (G86 4 5).toInt ∧ (G86 4 5).toInt ≤ 6 := hI87 4 5
      have q93 : ((G86 4 4).toInt = -1 ∨ (G86 4 5).toInt ≤ 1 ∨ ((G86 4 5).toInt ≤ 2 ∧ ((G86 4 4).toInt = 3 ∨ (G86 4 4).toInt = 4)) ∨ ((G86 4 5).toInt ≤ 4 ∧ (G86 4 4).toInt = 8) ∨ (G86 4 4).toInt = 9) := hp89.2.2
      exact u_iret F hA hQ hr G86 (⟨hI87, (gu_un.tr gu_un.rf (gu_un.su hU88 rfl)), (by have h9 := ti_rng r84; omega), ((xF3.un f3 (show gu_un xcd [403, 405, 406, 407, 1900] G G86 from (gu_un.tr gu_un.rf (gu_un.su hU88 rfl))) rfl rfl rfl)), (q90), (by show ((G86 4 4).toInt = -1 ∨ (G86 4 5).toInt ≤ 1 ∨ ((G86 4 5).toInt ≤ 2 ∧ ((G86 4 4).toInt = 3 ∨ (G86 4 4).toInt = 4)) ∨ ((G86 4 5).toInt ≤ 4 ∧ (G86 4 4).toInt = 8) ∨ (G86 4 4).toInt = 9); (first | omega | (simp only [Int32.reduceToInt, true_and, and_true, ne_eq, not_true_eq_false, false_and, or_false, false_or, true_or, or_true, false_implies] <;> omega)))⟩) rfl rfl dX8_takeToken_52
    · refine uz_tq (v := .ref (zf 16)) F hZ.2.2.2.2.1 6 c15 (by decide) (by decide) rfl dX8_takeToken_30 ?_
      refine g_astore_n F [(1, .ref (zf 16)), (0, .ref (a 4))] dX8_takeToken_31 rfl (by decide) rfl ?_
      refine g_aload_n F 0 dX8_takeToken_32 rfl rfl ?_
      refine uz_call0Vi (k := 0) (n := 0) (b := (zf 16)) (As := []) (st := []) F xZ_st hZ (fun sz => S_X1_isSum_c6 l D zf sz) (cwV 0 hts gX8_takeToken_X1_isSum rfl rfl rfl (by decide +kernel) ⟨Nat.le_of_ble_eq_true rfl, Nat.le_of_ble_eq_true rfl⟩) (hZ.2.2.2.2.2 6 (by decide)).1 rfl (Nat.le_of_ble_eq_true rfl) ⟨Nat.zero_le _, Nat.zero_le _⟩ dX8_takeToken_33 (fun r94 _ hw95 => ?_)
      have hw95 : r94.toInt = 0 := hw95
      refine g_fold 0 ((ti_eq rfl (show (0 : Int32).toInt = 0 from rfl)).mpr hw95) ?_
      refine v_if_eq F 47 dX8_takeToken_36 (by decide) 0 rfl (fun c96 => ?_) (fun c96 => absurd c96 (by decide))
      refine g_aload_n F 1 dX8_takeToken_47 rfl rfl ?_
      refine g_aload_n F 0 dX8_takeToken_48 rfl rfl ?_
      refine uz_callVi (k := 0) (n := 0) (b := a 4) (As := [.ref (zf 16)]) (st := []) F xZ_st hZ (fun sz => S_X8_takeOfNumbers_c6 l D K a G zf  (nb) (by (first | omega | (simp only [Int32.reduceToInt, true_and, and_true, ne_eq, not_true_eq_false, false_and, or_false, false_or, true_or, or_true, false_implies] <;> omega))) hI sz) (cwV 1 hts gX8_takeToken_X8_takeOfNumbers rfl rfl rfl (by decide +kernel) ⟨Nat.le_of_ble_eq_true rfl, Nat.le_of_ble_eq_true rfl⟩) rfl 4 xc_4 rfl (Nat.le_of_ble_eq_true rfl) ⟨Nat.zero_le _, Nat.zero_le _⟩ dX8_takeToken_49 (fun r97 G99 hw98 => ?_)
      have hI100 : xI G99 := hw98.1
      have hU101 : gu_un xcd [403, 405, 406, 407, 1900] G G99 := hw98.2.1
      have hp102 := hw98.2.2
      have q103 : xNb (G99 19) := hp102.2.1
      have b104 : ((-1) : Int) ≤ (G99 4 4).toInt ∧ (G99 4 4).toInt ≤ 12 := hI100 4 4
      have b105 : (0 : Int) ≤ (G99 4 5).toInt ∧ (G99 4 5).toInt ≤ 6 := hI100 4 5
      have q106 : ((G99 4 4).toInt = -1 ∨ (G99 4 5).toInt ≤ 1 ∨ ((G99 4 5).toInt ≤ 2 ∧ ((G99 4 4).toInt = 3 ∨ (G99 4 4).toInt = 4)) ∨ ((G99 4 5).toInt ≤ 4 ∧ (G99 4 4).toInt = 8) ∨ (G99 4 4).toInt = 9) := hp102.2.2
      exact u_iret F hA hQ hr G99 (⟨hI100, (gu_un.tr gu_un.rf (gu_un.su hU101 rfl)), (by have h9 := ti_rng r97; omega), ((xF3.un f3 (show gu_un xcd [403, 405, 406, 407, 1900] G G99 from (gu_un.tr gu_un.rf (gu_un.su hU101 rfl))) rfl rfl rfl)), (q103), (by show ((G99 4 4).toInt = -1 ∨ (G99 4 5).toInt ≤ 1 ∨ ((G99 4 5).toInt ≤ 2 ∧ ((G99 4 4).toInt = 3 ∨ (G99 4 4).toInt = 4)) ∨ ((G99 4 5).toInt ≤ 4 ∧ (G99 4 4).toInt = 8) ∨ (G99 4 4).toInt = 9); (first | omega | (simp only [Int32.reduceToInt, true_and, and_true, ne_eq, not_true_eq_false, false_and, or_false, false_or, true_or, or_true, false_implies] <;> omega)))⟩) rfl rfl dX8_takeToken_52
    · refine uz_tq (v := .ref (zf 17)) F hZ.2.2.2.2.1 7 c15 (by decide) (by decide) rfl dX8_takeToken_30 ?_
      refine g_astore_n F [(1, .ref (zf 17)), (0, .ref (a 4))] dX8_takeToken_31 rfl (by decide) rfl ?_
      refine g_aload_n F 0 dX8_takeToken_32 rfl rfl ?_
      refine uz_call0Vi (k := 0) (n := 0) (b := (zf 17)) (As := []) (st := []) F xZ_st hZ (fun sz => S_X1_isSum_c7 l D zf sz) (cwV 0 hts gX8_takeToken_X1_isSum rfl rfl rfl (by decide +kernel) ⟨Nat.le_of_ble_eq_true rfl, Nat.le_of_ble_eq_true rfl⟩) (hZ.2.2.2.2.2 7 (by decide)).1 rfl (Nat.le_of_ble_eq_true rfl) ⟨Nat.zero_le _, Nat.zero_le _⟩ dX8_takeToken_33 (fun r107 _ hw108 => ?_)
      have hw108 : r107.toInt = 0 := hw108
      refine g_fold 0 ((ti_eq rfl (show (0 : Int32).toInt = 0 from rfl)).mpr hw108) ?_
      refine v_if_eq F 47 dX8_takeToken_36 (by decide) 0 rfl (fun c109 => ?_) (fun c109 => absurd c109 (by decide))
      refine g_aload_n F 1 dX8_takeToken_47 rfl rfl ?_
      refine g_aload_n F 0 dX8_takeToken_48 rfl rfl ?_
      refine uz_callVi (k := 0) (n := 0) (b := a 4) (As := [.ref (zf 17)]) (st := []) F xZ_st hZ (fun sz => S_X8_takeOfNumbers_c7 l D K a G zf  (nb) (by (first | omega | (simp only [Int32.reduceToInt, true_and, and_true, ne_eq, not_true_eq_false, false_and, or_false, false_or, true_or, or_true, false_implies] <;> omega))) hI sz) (cwV 1 hts gX8_takeToken_X8_takeOfNumbers rfl rfl rfl (by decide +kernel) ⟨Nat.le_of_ble_eq_true rfl, Nat.le_of_ble_eq_true rfl⟩) rfl 4 xc_4 rfl (Nat.le_of_ble_eq_true rfl) ⟨Nat.zero_le _, Nat.zero_le _⟩ dX8_takeToken_49 (fun r110 G112 hw111 => ?_)
      have hI113 : xI G112 := hw111.1
      have hU114 : gu_un xcd [403, 405, 406, 407, 1900] G G112 := hw111.2.1
      have hp115 := hw111.2.2
      have q116 : xNb (G112 19) := hp115.2.1
      have b117 : ((-1) : Int) ≤ (G112 4 4).toInt ∧ (G112 4 4).toInt ≤ 12 := hI113 4 4
      have b118 : (0 : Int) ≤ (G112 4 5).toInt ∧ (G112 4 5).toInt ≤ 6 := hI113 4 5
      have q119 : ((G112 4 4).toInt = -1 ∨ (G112 4 5).toInt ≤ 1 ∨ ((G112 4 5).toInt ≤ 2 ∧ ((G112 4 4).toInt = 3 ∨ (G112 4 4).toInt = 4)) ∨ ((G112 4 5).toInt ≤ 4 ∧ (G112 4 4).toInt = 8) ∨ (G112 4 4).toInt = 9) := hp115.2.2
      exact u_iret F hA hQ hr G112 (⟨hI113, (gu_un.tr gu_un.rf (gu_un.su hU114 rfl)), (by have h9 := ti_rng r110; omega), ((xF3.un f3 (show gu_un xcd [403, 405, 406, 407, 1900] G G112 from (gu_un.tr gu_un.rf (gu_un.su hU114 rfl))) rfl rfl rfl)), (q116), (by show ((G112 4 4).toInt = -1 ∨ (G112 4 5).toInt ≤ 1 ∨ ((G112 4 5).toInt ≤ 2 ∧ ((G112 4 4).toInt = 3 ∨ (G112 4 4).toInt = 4)) ∨ ((G112 4 5).toInt ≤ 4 ∧ (G112 4 4).toInt = 8) ∨ (G112 4 4).toInt = 9); (first | omega | (simp only [Int32.reduceToInt, true_and, and_true, ne_eq, not_true_eq_false, false_and, or_false, false_or, true_or, or_true, false_implies] <;> omega)))⟩) rfl rfl dX8_takeToken_52
    · refine uz_tq (v := .ref (zf 18)) F hZ.2.2.2.2.1 8 c15 (by decide) (by decide) rfl dX8_takeToken_30 ?_
      refine g_astore_n F [(1, .ref (zf 18)), (0, .ref (a 4))] dX8_takeToken_31 rfl (by decide) rfl ?_
      refine g_aload_n F 0 dX8_takeToken_32 rfl rfl ?_
      refine uz_call0Vi (k := 0) (n := 0) (b := (zf 18)) (As := []) (st := []) F xZ_st hZ (fun sz => S_X1_isSum_c8 l D zf sz) (cwV 0 hts gX8_takeToken_X1_isSum rfl rfl rfl (by decide +kernel) ⟨Nat.le_of_ble_eq_true rfl, Nat.le_of_ble_eq_true rfl⟩) (hZ.2.2.2.2.2 8 (by decide)).1 rfl (Nat.le_of_ble_eq_true rfl) ⟨Nat.zero_le _, Nat.zero_le _⟩ dX8_takeToken_33 (fun r120 _ hw121 => ?_)
      have hw121 : r120.toInt = 0 := hw121
      refine g_fold 0 ((ti_eq rfl (show (0 : Int32).toInt = 0 from rfl)).mpr hw121) ?_
      refine v_if_eq F 47 dX8_takeToken_36 (by decide) 0 rfl (fun c122 => ?_) (fun c122 => absurd c122 (by decide))
      refine g_aload_n F 1 dX8_takeToken_47 rfl rfl ?_
      refine g_aload_n F 0 dX8_takeToken_48 rfl rfl ?_
      refine uz_callVi (k := 0) (n := 0) (b := a 4) (As := [.ref (zf 18)]) (st := []) F xZ_st hZ (fun sz => S_X8_takeOfNumbers_c8 l D K a G zf  (nb) (by (first | omega | (simp only [Int32.reduceToInt, true_and, and_true, ne_eq, not_true_eq_false, false_and, or_false, false_or, true_or, or_true, false_implies] <;> omega))) hI sz) (cwV 1 hts gX8_takeToken_X8_takeOfNumbers rfl rfl rfl (by decide +kernel) ⟨Nat.le_of_ble_eq_true rfl, Nat.le_of_ble_eq_true rfl⟩) rfl 4 xc_4 rfl (Nat.le_of_ble_eq_true rfl) ⟨Nat.zero_le _, Nat.zero_le _⟩ dX8_takeToken_49 (fun r123 G125 hw124 => ?_)
      have hI126 : xI G125 := hw124.1
      have hU127 : gu_un xcd [403, 405, 406, 407, 1900] G G125 := hw124.2.1
      have hp128 := hw124.2.2
      have q129 : xNb (G125 19) := hp128.2.1
      have b130 : ((-1) : Int) ≤ (G125 4 4).toInt ∧ (G125 4 4).toInt ≤ 12 := hI126 4 4
      have b131 : (0 : Int) ≤ (G125 4 5).toInt ∧ (G125 4 5).toInt ≤ 6 := hI126 4 5
      have q132 : ((G125 4 4).toInt = -1 ∨ (G125 4 5).toInt ≤ 1 ∨ ((G125 4 5).toInt ≤ 2 ∧ ((G125 4 4).toInt = 3 ∨ (G125 4 4).toInt = 4)) ∨ ((G125 4 5).toInt ≤ 4 ∧ (G125 4 4).toInt = 8) ∨ (G125 4 4).toInt = 9) := hp128.2.2
      exact u_iret F hA hQ hr G125 (⟨hI126, (gu_un.tr gu_un.rf (gu_un.su hU127 rfl)), (by have h9 := ti_rng r123; omega), ((xF3.un f3 (show gu_un xcd [403, 405, 406, 407, 1900] G G125 from (gu_un.tr gu_un.rf (gu_un.su hU127 rfl))) rfl rfl rfl)), (q129), (by show ((G125 4 4).toInt = -1 ∨ (G125 4 5).toInt ≤ 1 ∨ ((G125 4 5).toInt ≤ 2 ∧ ((G125 4 4).toInt = 3 ∨ (G125 4 4).toInt = 4)) ∨ ((G125 4 5).toInt ≤ 4 ∧ (G125 4 4).toInt = 8) ∨ (G125 4 4).toInt = 9); (first | omega | (simp only [Int32.reduceToInt, true_and, and_true, ne_eq, not_true_eq_false, false_and, or_false, false_or, true_or, or_true, false_implies] <;> omega)))⟩) rfl rfl dX8_takeToken_52
    · refine uz_tq (v := .ref (zf 19)) F hZ.2.2.2.2.1 9 c15 (by decide) (by decide) rfl dX8_takeToken_30 ?_
      refine g_astore_n F [(1, .ref (zf 19)), (0, .ref (a 4))] dX8_takeToken_31 rfl (by decide) rfl ?_
      refine g_aload_n F 0 dX8_takeToken_32 rfl rfl ?_
      refine uz_call0Vi (k := 0) (n := 0) (b := (zf 19)) (As := []) (st := []) F xZ_st hZ (fun sz => S_X1_isSum_c9 l D zf sz) (cwV 0 hts gX8_takeToken_X1_isSum rfl rfl rfl (by decide +kernel) ⟨Nat.le_of_ble_eq_true rfl, Nat.le_of_ble_eq_true rfl⟩) (hZ.2.2.2.2.2 9 (by decide)).1 rfl (Nat.le_of_ble_eq_true rfl) ⟨Nat.zero_le _, Nat.zero_le _⟩ dX8_takeToken_33 (fun r133 _ hw134 => ?_)
      have hw134 : r133.toInt = 0 := hw134
      refine g_fold 0 ((ti_eq rfl (show (0 : Int32).toInt = 0 from rfl)).mpr hw134) ?_
      refine v_if_eq F 47 dX8_takeToken_36 (by decide) 0 rfl (fun c135 => ?_) (fun c135 => absurd c135 (by decide))
      refine g_aload_n F 1 dX8_takeToken_47 rfl rfl ?_
      refine g_aload_n F 0 dX8_takeToken_48 rfl rfl ?_
      refine uz_callVi (k := 0) (n := 0) (b := a 4) (As := [.ref (zf 19)]) (st := []) F xZ_st hZ (fun sz => S_X8_takeOfNumbers_c9 l D K a G zf  (nb) (by (first | omega | (simp only [Int32.reduceToInt, true_and, and_true, ne_eq, not_true_eq_false, false_and, or_false, false_or, true_or, or_true, false_implies] <;> omega))) hI sz) (cwV 1 hts gX8_takeToken_X8_takeOfNumbers rfl rfl rfl (by decide +kernel) ⟨Nat.le_of_ble_eq_true rfl, Nat.le_of_ble_eq_true rfl⟩) rfl 4 xc_4 rfl (Nat.le_of_ble_eq_true rfl) ⟨Nat.zero_le _, Nat.zero_le _⟩ dX8_takeToken_49 (fun r136 G138 hw137 => ?_)
      have hI139 : xI G138 := hw137.1
      have hU140 : gu_un xcd [403, 405, 406, 407, 1900] G G138 := hw137.2.1
      have hp141 := hw137.2.2
      have q142 : xNb (G138 19) := hp141.2.1
      have b143 : ((-1) : Int) ≤ (G138 4 4).toInt ∧ (G138 4 4).toInt ≤ 12 := hI139 4 4
      have b144 : (0 : Int) ≤ (G138 4 5).toInt ∧ (G138 4 5).toInt ≤ 6 := hI139 4 5
      have q145 : ((G138 4 4).toInt = -1 ∨ (G138 4 5).toInt ≤ 1 ∨ ((G138 4 5).toInt ≤ 2 ∧ ((G138 4 4).toInt = 3 ∨ (G138 4 4).toInt = 4)) ∨ ((G138 4 5).toInt ≤ 4 ∧ (G138 4 4).toInt = 8) ∨ (G138 4 4).toInt = 9) := hp141.2.2
      exact u_iret F hA hQ hr G138 (⟨hI139, (gu_un.tr gu_un.rf (gu_un.su hU140 rfl)), (by have h9 := ti_rng r136; omega), ((xF3.un f3 (show gu_un xcd [403, 405, 406, 407, 1900] G G138 from (gu_un.tr gu_un.rf (gu_un.su hU140 rfl))) rfl rfl rfl)), (q142), (by show ((G138 4 4).toInt = -1 ∨ (G138 4 5).toInt ≤ 1 ∨ ((G138 4 5).toInt ≤ 2 ∧ ((G138 4 4).toInt = 3 ∨ (G138 4 4).toInt = 4)) ∨ ((G138 4 5).toInt ≤ 4 ∧ (G138 4 4).toInt = 8) ∨ (G138 4 4).toInt = 9); (first | omega | (simp only [Int32.reduceToInt, true_and, and_true, ne_eq, not_true_eq_false, false_and, or_false, false_or, true_or, or_true, false_implies] <;> omega)))⟩) rfl rfl dX8_takeToken_52
    · refine uz_tq (v := .ref (zf 20)) F hZ.2.2.2.2.1 10 c15 (by decide) (by decide) rfl dX8_takeToken_30 ?_
      refine g_astore_n F [(1, .ref (zf 20)), (0, .ref (a 4))] dX8_takeToken_31 rfl (by decide) rfl ?_
      refine g_aload_n F 0 dX8_takeToken_32 rfl rfl ?_
      refine uz_call0Vi (k := 0) (n := 0) (b := (zf 20)) (As := []) (st := []) F xZ_st hZ (fun sz => S_X1_isSum_c10 l D zf sz) (cwV 0 hts gX8_takeToken_X1_isSum rfl rfl rfl (by decide +kernel) ⟨Nat.le_of_ble_eq_true rfl, Nat.le_of_ble_eq_true rfl⟩) (hZ.2.2.2.2.2 10 (by decide)).1 rfl (Nat.le_of_ble_eq_true rfl) ⟨Nat.zero_le _, Nat.zero_le _⟩ dX8_takeToken_33 (fun r146 _ hw147 => ?_)
      have hw147 : r146.toInt = 1 := hw147
      refine g_fold 1 ((ti_eq rfl (show (1 : Int32).toInt = 1 from rfl)).mpr hw147) ?_
      refine v_if_eq F 47 dX8_takeToken_36 (by decide) 1 rfl (fun c148 => absurd c148 (by decide)) (fun c148 => ?_)
      refine g_aload_n F 1 dX8_takeToken_39 rfl rfl ?_
      refine g_aload_n F 0 dX8_takeToken_40 rfl rfl ?_
      refine uz_callVi (k := 0) (n := 0) (b := a 4) (As := [.ref (zf 20)]) (st := []) F xZ_st hZ (fun sz => S_X8_takeOfSum_c10 l D K a G zf  (f3) hI sz) (cwV 1 hts gX8_takeToken_X8_takeOfSum rfl rfl rfl (by decide +kernel) ⟨Nat.le_of_ble_eq_true rfl, Nat.le_of_ble_eq_true rfl⟩) rfl 4 xc_4 rfl (Nat.le_of_ble_eq_true rfl) ⟨Nat.zero_le _, Nat.zero_le _⟩ dX8_takeToken_41 (fun r149 G151 hw150 => ?_)
      have hI152 : xI G151 := hw150.1
      have hU153 : gu_un xcd [403, 405, 1402, 1405, 1406, 1407, 1408, 1409, 2900, 3100] G G151 := hw150.2.1
      have hp154 := hw150.2.2
      have q155 : xF3 G151 := hp154.2.1
      have b156 : ((-1) : Int) ≤ (G151 4 4).toInt ∧ (G151 4 4).toInt ≤ 12 := hI152 4 4
      have q157 : (((G151 4 4).toInt = -1 ∨ (G151 4 4).toInt = (G 4 4).toInt) ∧ (G 4 5).toInt = (G 4 5).toInt) := by have h9 := hp154.2.2; (try simp only [(show G151 4 5 = (G 4 5) from hU153 4 5 (by decide))] at h9); first | exact h9 | omega
      refine g_goto F 52 dX8_takeToken_44 (by decide) ?_
      exact u_iret F hA hQ hr G151 (⟨hI152, (gu_un.tr gu_un.rf (gu_un.su hU153 rfl)), (by have h9 := ti_rng r149; omega), (q155), ((xNb.un nb (show gu_un xcd [403, 405, 1402, 1405, 1406, 1407, 1408, 1409, 2900, 3100] G G151 from (gu_un.tr gu_un.rf (gu_un.su hU153 rfl))) rfl)), (by show ((G151 4 4).toInt = -1 ∨ (G151 4 5).toInt ≤ 1 ∨ ((G151 4 5).toInt ≤ 2 ∧ ((G151 4 4).toInt = 3 ∨ (G151 4 4).toInt = 4)) ∨ ((G151 4 5).toInt ≤ 4 ∧ (G151 4 4).toInt = 8) ∨ (G151 4 4).toInt = 9); have e9_4_5 : G151 4 5 = (G 4 5) := hU153 4 5 (by decide); (try simp only [e9_4_5, true_and, and_true]) <;> (first | omega | (simp only [Int32.reduceToInt, true_and, and_true, ne_eq, not_true_eq_false, false_and, or_false, false_or, true_or, or_true, false_implies] <;> omega)))⟩) rfl rfl dX8_takeToken_52
    · refine uz_tq (v := .ref (zf 21)) F hZ.2.2.2.2.1 11 c15 (by decide) (by decide) rfl dX8_takeToken_30 ?_
      refine g_astore_n F [(1, .ref (zf 21)), (0, .ref (a 4))] dX8_takeToken_31 rfl (by decide) rfl ?_
      refine g_aload_n F 0 dX8_takeToken_32 rfl rfl ?_
      refine uz_call0Vi (k := 0) (n := 0) (b := (zf 21)) (As := []) (st := []) F xZ_st hZ (fun sz => S_X1_isSum_c11 l D zf sz) (cwV 0 hts gX8_takeToken_X1_isSum rfl rfl rfl (by decide +kernel) ⟨Nat.le_of_ble_eq_true rfl, Nat.le_of_ble_eq_true rfl⟩) (hZ.2.2.2.2.2 11 (by decide)).1 rfl (Nat.le_of_ble_eq_true rfl) ⟨Nat.zero_le _, Nat.zero_le _⟩ dX8_takeToken_33 (fun r158 _ hw159 => ?_)
      have hw159 : r158.toInt = 1 := hw159
      refine g_fold 1 ((ti_eq rfl (show (1 : Int32).toInt = 1 from rfl)).mpr hw159) ?_
      refine v_if_eq F 47 dX8_takeToken_36 (by decide) 1 rfl (fun c160 => absurd c160 (by decide)) (fun c160 => ?_)
      refine g_aload_n F 1 dX8_takeToken_39 rfl rfl ?_
      refine g_aload_n F 0 dX8_takeToken_40 rfl rfl ?_
      refine uz_callVi (k := 0) (n := 0) (b := a 4) (As := [.ref (zf 21)]) (st := []) F xZ_st hZ (fun sz => S_X8_takeOfSum_c11 l D K a G zf  (f3) hI sz) (cwV 1 hts gX8_takeToken_X8_takeOfSum rfl rfl rfl (by decide +kernel) ⟨Nat.le_of_ble_eq_true rfl, Nat.le_of_ble_eq_true rfl⟩) rfl 4 xc_4 rfl (Nat.le_of_ble_eq_true rfl) ⟨Nat.zero_le _, Nat.zero_le _⟩ dX8_takeToken_41 (fun r161 G163 hw162 => ?_)
      have hI164 : xI G163 := hw162.1
      have hU165 : gu_un xcd [403, 405, 1502, 1505, 1506, 1507, 1508, 1509, 3200, 3400] G G163 := hw162.2.1
      have hp166 := hw162.2.2
      have q167 : xF3 G163 := hp166.2.1
      have b168 : ((-1) : Int) ≤ (G163 4 4).toInt ∧ (G163 4 4).toInt ≤ 12 := hI164 4 4
      have q169 : (((G163 4 4).toInt = -1 ∨ (G163 4 4).toInt = (G 4 4).toInt) ∧ (G 4 5).toInt = (G 4 5).toInt) := by have h9 := hp166.2.2; (try simp only [(show G163 4 5 = (G 4 5) from hU165 4 5 (by decide))] at h9); first | exact h9 | omega
      refine g_goto F 52 dX8_takeToken_44 (by decide) ?_
      exact u_iret F hA hQ hr G163 (⟨hI164, (gu_un.tr gu_un.rf (gu_un.su hU165 rfl)), (by have h9 := ti_rng r161; omega), (q167), ((xNb.un nb (show gu_un xcd [403, 405, 1502, 1505, 1506, 1507, 1508, 1509, 3200, 3400] G G163 from (gu_un.tr gu_un.rf (gu_un.su hU165 rfl))) rfl)), (by show ((G163 4 4).toInt = -1 ∨ (G163 4 5).toInt ≤ 1 ∨ ((G163 4 5).toInt ≤ 2 ∧ ((G163 4 4).toInt = 3 ∨ (G163 4 4).toInt = 4)) ∨ ((G163 4 5).toInt ≤ 4 ∧ (G163 4 4).toInt = 8) ∨ (G163 4 4).toInt = 9); have e9_4_5 : G163 4 5 = (G 4 5) := hU165 4 5 (by decide); (try simp only [e9_4_5, true_and, and_true]) <;> (first | omega | (simp only [Int32.reduceToInt, true_and, and_true, ne_eq, not_true_eq_false, false_and, or_false, false_or, true_or, or_true, false_implies] <;> omega)))⟩) rfl rfl dX8_takeToken_52
    · refine uz_tq (v := .ref (zf 22)) F hZ.2.2.2.2.1 12 c15 (by decide) (by decide) rfl dX8_takeToken_30 ?_
      refine g_astore_n F [(1, .ref (zf 22)), (0, .ref (a 4))] dX8_takeToken_31 rfl (by decide) rfl ?_
      refine g_aload_n F 0 dX8_takeToken_32 rfl rfl ?_
      refine uz_call0Vi (k := 0) (n := 0) (b := (zf 22)) (As := []) (st := []) F xZ_st hZ (fun sz => S_X1_isSum_c12 l D zf sz) (cwV 0 hts gX8_takeToken_X1_isSum rfl rfl rfl (by decide +kernel) ⟨Nat.le_of_ble_eq_true rfl, Nat.le_of_ble_eq_true rfl⟩) (hZ.2.2.2.2.2 12 (by decide)).1 rfl (Nat.le_of_ble_eq_true rfl) ⟨Nat.zero_le _, Nat.zero_le _⟩ dX8_takeToken_33 (fun r170 _ hw171 => ?_)
      have hw171 : r170.toInt = 1 := hw171
      refine g_fold 1 ((ti_eq rfl (show (1 : Int32).toInt = 1 from rfl)).mpr hw171) ?_
      refine v_if_eq F 47 dX8_takeToken_36 (by decide) 1 rfl (fun c172 => absurd c172 (by decide)) (fun c172 => ?_)
      refine g_aload_n F 1 dX8_takeToken_39 rfl rfl ?_
      refine g_aload_n F 0 dX8_takeToken_40 rfl rfl ?_
      refine uz_callVi (k := 0) (n := 0) (b := a 4) (As := [.ref (zf 22)]) (st := []) F xZ_st hZ (fun sz => S_X8_takeOfSum_c12 l D K a G zf  (f3) hI sz) (cwV 1 hts gX8_takeToken_X8_takeOfSum rfl rfl rfl (by decide +kernel) ⟨Nat.le_of_ble_eq_true rfl, Nat.le_of_ble_eq_true rfl⟩) rfl 4 xc_4 rfl (Nat.le_of_ble_eq_true rfl) ⟨Nat.zero_le _, Nat.zero_le _⟩ dX8_takeToken_41 (fun r173 G175 hw174 => ?_)
      have hI176 : xI G175 := hw174.1
      have hU177 : gu_un xcd [403, 405, 1602, 1605, 1606, 1607, 1608, 1609, 3500, 3700] G G175 := hw174.2.1
      have hp178 := hw174.2.2
      have q179 : xF3 G175 := hp178.2.1
      have b180 : ((-1) : Int) ≤ (G175 4 4).toInt ∧ (G175 4 4).toInt ≤ 12 := hI176 4 4
      have q181 : (((G175 4 4).toInt = -1 ∨ (G175 4 4).toInt = (G 4 4).toInt) ∧ (G 4 5).toInt = (G 4 5).toInt) := by have h9 := hp178.2.2; (try simp only [(show G175 4 5 = (G 4 5) from hU177 4 5 (by decide))] at h9); first | exact h9 | omega
      refine g_goto F 52 dX8_takeToken_44 (by decide) ?_
      exact u_iret F hA hQ hr G175 (⟨hI176, (gu_un.tr gu_un.rf (gu_un.su hU177 rfl)), (by have h9 := ti_rng r173; omega), (q179), ((xNb.un nb (show gu_un xcd [403, 405, 1602, 1605, 1606, 1607, 1608, 1609, 3500, 3700] G G175 from (gu_un.tr gu_un.rf (gu_un.su hU177 rfl))) rfl)), (by show ((G175 4 4).toInt = -1 ∨ (G175 4 5).toInt ≤ 1 ∨ ((G175 4 5).toInt ≤ 2 ∧ ((G175 4 4).toInt = 3 ∨ (G175 4 4).toInt = 4)) ∨ ((G175 4 5).toInt ≤ 4 ∧ (G175 4 4).toInt = 8) ∨ (G175 4 4).toInt = 9); have e9_4_5 : G175 4 5 = (G 4 5) := hU177 4 5 (by decide); (try simp only [e9_4_5, true_and, and_true]) <;> (first | omega | (simp only [Int32.reduceToInt, true_and, and_true, ne_eq, not_true_eq_false, false_and, or_false, false_or, true_or, or_true, false_implies] <;> omega)))⟩) rfl rfl dX8_takeToken_52

theorem dX8_read_0 : decode cX8_read 0 = .ok (.aload_n 0, 1) := by decide +kernel
theorem dX8_read_1 : decode cX8_read 1 = .ok (.getfield 15, 3) := by decide +kernel
theorem dX8_read_4 : decode cX8_read 4 = .ok (.invokevirtual 19, 3) := by decide +kernel
theorem dX8_read_7 : decode cX8_read 7 = .ok (.aload_n 0, 1) := by decide +kernel
theorem dX8_read_8 : decode cX8_read 8 = .ok (.iconst 0, 1) := by decide +kernel
theorem dX8_read_9 : decode cX8_read 9 = .ok (.putfield 24, 3) := by decide +kernel
theorem dX8_read_12 : decode cX8_read 12 = .ok (.aload_n 0, 1) := by decide +kernel
theorem dX8_read_13 : decode cX8_read 13 = .ok (.iconst 0, 1) := by decide +kernel
theorem dX8_read_14 : decode cX8_read 14 = .ok (.putfield 28, 3) := by decide +kernel
theorem dX8_read_17 : decode cX8_read 17 = .ok (.aload_n 0, 1) := by decide +kernel
theorem dX8_read_18 : decode cX8_read 18 = .ok (.iconst (-1), 1) := by decide +kernel
theorem dX8_read_19 : decode cX8_read 19 = .ok (.putfield 31, 3) := by decide +kernel
theorem dX8_read_22 : decode cX8_read 22 = .ok (.aload_n 0, 1) := by decide +kernel
theorem dX8_read_23 : decode cX8_read 23 = .ok (.getfield 9, 3) := by decide +kernel
theorem dX8_read_26 : decode cX8_read 26 = .ok (.invokevirtual 34, 3) := by decide +kernel
theorem dX8_read_29 : decode cX8_read 29 = .ok (.iconst 0, 1) := by decide +kernel
theorem dX8_read_30 : decode cX8_read 30 = .ok (.istore_n 1, 1) := by decide +kernel
theorem dX8_read_31 : decode cX8_read 31 = .ok (.iload_n 1, 1) := by decide +kernel
theorem dX8_read_32 : decode cX8_read 32 = .ok (.sipush 1000, 3) := by decide +kernel
theorem dX8_read_35 : decode cX8_read 35 = .ok (.if_icmp .gt 47, 3) := by decide +kernel
theorem dX8_read_38 : decode cX8_read 38 = .ok (.aload_n 0, 1) := by decide +kernel
theorem dX8_read_39 : decode cX8_read 39 = .ok (.getfield 9, 3) := by decide +kernel
theorem dX8_read_42 : decode cX8_read 42 = .ok (.invokevirtual 39, 3) := by decide +kernel
theorem dX8_read_45 : decode cX8_read 45 = .ok (.aload_n 0, 1) := by decide +kernel
theorem dX8_read_46 : decode cX8_read 46 = .ok (.getfield 31, 3) := by decide +kernel
theorem dX8_read_49 : decode cX8_read 49 = .ok (.iconst (-1), 1) := by decide +kernel
theorem dX8_read_50 : decode cX8_read 50 = .ok (.if_icmp .ne 15, 3) := by decide +kernel
theorem dX8_read_53 : decode cX8_read 53 = .ok (.aload_n 0, 1) := by decide +kernel
theorem dX8_read_54 : decode cX8_read 54 = .ok (.getfield 9, 3) := by decide +kernel
theorem dX8_read_57 : decode cX8_read 57 = .ok (.getfield 42, 3) := by decide +kernel
theorem dX8_read_60 : decode cX8_read 60 = .ok (.ifCond .ne 5, 3) := by decide +kernel
theorem dX8_read_63 : decode cX8_read 63 = .ok (.iconst 0, 1) := by decide +kernel
theorem dX8_read_64 : decode cX8_read 64 = .ok (.ireturn, 1) := by decide +kernel
theorem dX8_read_65 : decode cX8_read 65 = .ok (.aload_n 0, 1) := by decide +kernel
theorem dX8_read_66 : decode cX8_read 66 = .ok (.invokevirtual 45, 3) := by decide +kernel
theorem dX8_read_69 : decode cX8_read 69 = .ok (.istore_n 2, 1) := by decide +kernel
theorem dX8_read_70 : decode cX8_read 70 = .ok (.iload_n 2, 1) := by decide +kernel
theorem dX8_read_71 : decode cX8_read 71 = .ok (.ifCond .eq 5, 3) := by decide +kernel
theorem dX8_read_74 : decode cX8_read 74 = .ok (.iload_n 2, 1) := by decide +kernel
theorem dX8_read_75 : decode cX8_read 75 = .ok (.ireturn, 1) := by decide +kernel
theorem dX8_read_76 : decode cX8_read 76 = .ok (.iinc 1 1, 3) := by decide +kernel
theorem dX8_read_79 : decode cX8_read 79 = .ok (.goto (-48), 3) := by decide +kernel
theorem dX8_read_82 : decode cX8_read 82 = .ok (.iconst 1, 1) := by decide +kernel
theorem dX8_read_83 : decode cX8_read 83 = .ok (.ireturn, 1) := by decide +kernel
set_option maxRecDepth 20000 in
theorem ggX8_read_X10_readToken : GoodIn wsX8_read wsX10_readToken := goodIn_r _ [49, 45, 50, 51, 52, 53, 54, 55, 56, 43, 57, 58, 59, 60, 61, 62, 63, 64, 65, 66, 67, 68, 69, 70, 71, 72, 73, 74, 75, 76, 77, 78, 79, 80, 81, 82, 83, 84, 85, 86, 87, 88, 89, 90, 91, 92, 93, 94, 95, 96, 97, 98, 99, 100, 101, 102, 103, 104, 105, 106, 107, 108, 109, 110, 111, 112, 113, 114, 115, 116, 117, 118, 119, 120, 121, 122, 123, 124, 125, 126, 127, 128, 129, 130, 131, 132, 133, 134, 135, 136, 137, 138, 139, 140, 141, 142, 143, 144, 145, 146, 147, 148, 149, 150, 151, 152, 153, 154, 155, 156, 157, 158, 159, 160, 161, 162, 163, 164, 315, 316, 317, 318, 319, 320] rfl (by decide +kernel)
set_option maxRecDepth 20000 in
theorem gX8_read_X10_readToken : GoodIn wsX8_read (wsV RX8 39 RX10 yX10_readToken wsX10_readToken) := goodIn_app (goodIn_of _ (by decide +kernel)) ggX8_read_X10_readToken
set_option maxRecDepth 20000 in
theorem ggX8_read_X10_rewind : GoodIn wsX8_read wsX10_rewind := goodIn_r _ [44, 45, 315, 316, 317, 318, 319, 320] rfl (by decide +kernel)
set_option maxRecDepth 20000 in
theorem gX8_read_X10_rewind : GoodIn wsX8_read (wsV RX8 34 RX10 yX10_rewind wsX10_rewind) := goodIn_app (goodIn_of _ (by decide +kernel)) ggX8_read_X10_rewind
set_option maxRecDepth 20000 in
theorem ggX8_read_X7_beUntold : GoodIn wsX8_read wsX7_beUntold := goodIn_r _ [11, 12, 13, 14, 15, 16, 17, 18, 19, 20, 21, 22, 23, 24, 25, 26, 27, 28, 29, 30, 31, 32, 33, 34, 35, 36, 37, 38, 39, 321, 322, 323, 324, 325, 326, 327, 328, 329, 330, 331, 332, 333] rfl (by decide +kernel)
set_option maxRecDepth 20000 in
theorem gX8_read_X7_beUntold : GoodIn wsX8_read (wsV RX8 19 RX7 yX7_beUntold wsX7_beUntold) := goodIn_app (goodIn_of _ (by decide +kernel)) ggX8_read_X7_beUntold
set_option maxRecDepth 20000 in
theorem ggX8_read_X8_takeToken : GoodIn wsX8_read wsX8_takeToken := goodIn_r _ [169, 4, 170, 171, 172, 173, 168, 174, 5, 175, 3, 176, 1, 177, 178, 179, 180, 43, 181, 53, 45, 51, 182, 93, 94, 79, 95, 85, 96, 97, 98, 99, 90, 91, 54, 55, 56, 57, 50, 58, 183, 184, 185, 186, 86, 87, 88, 89, 187, 188, 102, 189, 190, 191, 192, 136, 193, 194, 139, 195, 196, 197, 119, 198, 199, 200, 201, 130, 131, 132, 202, 144, 145, 146, 147, 148, 149, 203, 204, 205, 206, 207, 208, 209, 210, 211, 212, 213, 214, 215, 10, 216, 18, 19, 20, 217, 218, 219, 28, 220, 30, 221, 222, 223, 224, 225, 226, 227, 228, 229, 230, 231, 232, 233, 234, 52, 235, 236, 237, 238, 239, 240, 241, 242, 243, 244, 245, 246, 247, 248, 249, 250, 251, 252, 253, 31, 32, 33, 34, 35, 254, 255, 256, 257, 2, 258, 259, 260, 261, 262, 263, 264, 265, 266, 267, 268, 269, 270, 271, 272, 273, 274, 275, 276, 277, 278, 279, 280, 281, 282, 283, 284, 285, 77, 78, 80, 81, 82, 83, 84, 92, 100, 101, 103, 104, 105, 106, 107, 108, 109, 110, 111, 112, 113, 114, 115, 116, 117, 118, 120, 121, 122, 123, 124, 125, 126, 127, 128, 129, 133, 134, 135, 137, 138, 140, 141, 142, 143, 150, 151, 152, 153, 154, 155, 156, 157, 158, 159, 160, 161, 162, 163, 164, 286, 287, 288, 289, 290, 6, 291, 292, 293, 294, 295, 296, 297, 298, 299, 300, 301, 12, 302, 303, 304, 305, 306, 307, 308, 309, 310, 311, 312, 313, 314, 315, 316, 317, 318, 319, 320, 321, 322, 323, 324, 325, 326, 327, 328, 329, 330, 331, 332, 333] rfl (by decide +kernel)
set_option maxRecDepth 20000 in
theorem gX8_read_X8_takeToken : GoodIn wsX8_read (wsV RX8 45 RX8 yX8_takeToken wsX8_takeToken) := goodIn_app (goodIn_of _ (by decide +kernel)) ggX8_read_X8_takeToken
set_option maxHeartbeats 4000000 in
set_option maxRecDepth 100000 in
theorem S_X8_read (l : Launch) (D : va_G) (K : Nat → ClassId) (a : Nat → Nat) (G : gS) (zf : Nat → Nat) (f3 : xF3 G) (hI : xI G) (sz : Nat) : KiZ (xZ zf) l yX8_read wsX8_read 8 197 D [.ref (a 4)] (xW K a G) (tK K) sz (fun (r : Int32) (G' : gS) => (xI G') ∧ (gu_un xcd [103, 104, 105, 106, 403, 404, 405, 406, 407, 1402, 1405, 1406, 1407, 1408, 1409, 1502, 1505, 1506, 1507, 1508, 1509, 1602, 1605, 1606, 1607, 1608, 1609, 1900, 2900, 3100, 3200, 3400, 3500, 3700] G G') ∧ (0 ≤ r.toInt ∧ r.toInt ≤ 4) ∧ (xF3 G') ∧ (xNb (G' 19))) (fun (G' : gS) => (xW K a G')) := by
  unfold KiZ
  refine gz_ofW (cc := cX8_read) (lv := [(0, .ref (a 4))]) (by decide) rfl (Nat.le_of_ble_eq_true rfl) rfl ?_
  intro p e s m args below meth c A Q hA hQ hZ F hr hnm
  have hts := F.2.2.2.2.1
  have w_0 : (Cond.fieldLink RX8 9 "QuietCut$ShopReader" "tape" "LQuietCut$Tape;").before args s = true := hts _ (List.mem_of_getElem? (i := 5) rfl)
  have i_X8 : ∀ w ∈ u_ws RX8 TX8 7, w ∈ wsX8_read := fun _ h => List.mem_cons_of_mem _ (List.mem_append_left _ (List.mem_append_left _ (List.mem_append_left _ (List.mem_append_right _ h))))
  have w_1 : (Cond.fieldLink RX8 31 "QuietCut$ShopReader" "open" "I").before args s = true := hts _ (List.mem_of_getElem? (i := 4) rfl)
  have w_2 : (Cond.fieldLink RX8 42 "QuietCut$Tape" "kind" "I").before args s = true := hts _ (List.mem_of_getElem? (i := 6) rfl)
  have i_X10 : ∀ w ∈ u_ws RX10 TX10 6, w ∈ wsX8_read := fun _ h => List.mem_cons_of_mem _ (List.mem_append_left _ (List.mem_append_left _ (List.mem_append_right _ h)))
  have w_3 : (Cond.fieldLink RX8 15 "QuietCut$ShopReader" "target" "LQuietCut$Shop;").before args s = true := hts _ (List.mem_of_getElem? (i := 1) rfl)
  have w_4 : (Cond.fieldLink RX8 24 "QuietCut$ShopReader" "clauses" "I").before args s = true := hts _ (List.mem_of_getElem? (i := 2) rfl)
  have w_5 : (Cond.fieldLink RX8 28 "QuietCut$ShopReader" "wordsTold" "I").before args s = true := hts _ (List.mem_of_getElem? (i := 3) rfl)
  have J_31 : ∀ (fuel : Nat) (x31_1 : Int32) (Gj31 : gS), (2147483647 - x31_1.toInt).toNat < fuel → (0 ≤ x31_1.toInt ∧ x31_1.toInt ≤ 1001) → (xI Gj31) → (gu_un xcd [103, 104, 105, 106, 403, 404, 405, 406, 407, 1402, 1405, 1406, 1407, 1408, 1409, 1502, 1505, 1506, 1507, 1508, 1509, 1602, 1605, 1606, 1607, 1608, 1609, 1900, 2900, 3100, 3200, 3400, 3500, 3700] G Gj31) → (xF3 Gj31) → (xNb (Gj31 19)) → (((Gj31 4 4).toInt = -1 ∨ (Gj31 4 5).toInt ≤ 1 ∨ ((Gj31 4 5).toInt ≤ 2 ∧ ((Gj31 4 4).toInt = 3 ∨ (Gj31 4 4).toInt = 4)) ∨ ((Gj31 4 5).toInt ≤ 4 ∧ (Gj31 4 4).toInt = 8) ∨ (Gj31 4 4).toInt = 9)) → gG p l e (gR 8 0 0 197) s m args below meth c D A 3 Q 0 0 (xW K a Gj31) (tK K) [(0, .ref (a 4)), (1, .int x31_1)] 31 [] := by
    intro fuel
    induction fuel with
    | zero => intro x31_1 Gj31 hm; exact absurd hm (Nat.not_lt_zero _)
    | succ fuel_31 ih_31 =>
      intro x31_1 Gj31 hm_31 h31_1 jI31 jU31 f3_31 nb_31 ri_31
      refine g_iload_n F 1 dX8_read_31 rfl rfl ?_
      refine g_sipush F 1000 dX8_read_32 (by decide) ?_
      refine v_icmp_gt F 82 dX8_read_35 (by decide) x31_1.toInt 1000 rfl rfl (fun c1 => ?_) (fun c1 => ?_)
      · refine g_iconst F 1 dX8_read_82 (by decide) ?_
        exact u_iret F hA hQ hr Gj31 (⟨jI31, (gu_un.tr gu_un.rf (gu_un.su jU31 rfl)), (by decide), (f3_31), (nb_31)⟩) rfl rfl dX8_read_83
      · refine g_aload_n F 0 dX8_read_38 rfl rfl ?_
        refine xg_4_0 F i_X8 w_0 dX8_read_39 ?_
        refine uz_callVv (k := 0) (n := 0) (b := a 1) (As := []) (st := []) F xZ_st hZ (fun sz => S_X10_readToken l D K a Gj31 zf  jI31 sz) (cwV 0 hts gX8_read_X10_readToken rfl rfl rfl (by decide +kernel) ⟨Nat.le_of_ble_eq_true rfl, Nat.le_of_ble_eq_true rfl⟩) rfl 1 xc_1 rfl (Nat.le_of_ble_eq_true rfl) ⟨Nat.zero_le _, Nat.zero_le _⟩ dX8_read_42 (fun G4 hw3 => ?_)
        have hI5 : xI G4 := hw3.1
        have hU6 : gu_un xcd [103, 104, 105, 106] Gj31 G4 := hw3.2
        refine g_aload_n F 0 dX8_read_45 rfl rfl ?_
        refine xg_4_4 F i_X8 w_1 dX8_read_46 (Gj31 4 4) (hU6 4 4 (by decide)) ?_
        refine g_iconst F (-1) dX8_read_49 (by decide) ?_
        have b8 : ((-1) : Int) ≤ (Gj31 4 4).toInt ∧ (Gj31 4 4).toInt ≤ 12 := jI31 4 4
        refine v_icmp_ne F 65 dX8_read_50 (by decide) (Gj31 4 4).toInt (-1) rfl rfl (fun c9 => ?_) (fun c9 => ?_)
        · refine g_aload_n F 0 dX8_read_65 rfl rfl ?_
          have b10 : (0 : Int) ≤ (Gj31 4 5).toInt ∧ (Gj31 4 5).toInt ≤ 6 := jI31 4 5
          refine uz_callVi (k := 0) (n := 0) (b := a 4) (As := []) (st := []) F xZ_st hZ (fun sz => S_X8_takeToken l D K a G4 zf  ((xF3.un f3_31 (show gu_un xcd [103, 104, 105, 106] Gj31 G4 from (gu_un.tr gu_un.rf (gu_un.su hU6 rfl))) rfl rfl rfl)) ((xNb.un nb_31 (show gu_un xcd [103, 104, 105, 106] Gj31 G4 from (gu_un.tr gu_un.rf (gu_un.su hU6 rfl))) rfl)) (by have e9_4_4 : G4 4 4 = (Gj31 4 4) := hU6 4 4 (by decide); have e9_4_5 : G4 4 5 = (Gj31 4 5) := hU6 4 5 (by decide); (try simp only [e9_4_4, e9_4_5, true_and, and_true]) <;> (first | omega | (simp only [Int32.reduceToInt, true_and, and_true, ne_eq, not_true_eq_false, false_and, or_false, false_or, true_or, or_true, false_implies] <;> omega))) hI5 sz) (cwV 0 hts gX8_read_X8_takeToken rfl rfl rfl (by decide +kernel) ⟨Nat.le_of_ble_eq_true rfl, Nat.le_of_ble_eq_true rfl⟩) rfl 4 xc_4 rfl (Nat.le_of_ble_eq_true rfl) ⟨Nat.zero_le _, Nat.zero_le _⟩ dX8_read_66 (fun r11 G13 hw12 => ?_)
          have hI14 : xI G13 := hw12.1
          have hU15 : gu_un xcd [403, 404, 405, 406, 407, 1402, 1405, 1406, 1407, 1408, 1409, 1502, 1505, 1506, 1507, 1508, 1509, 1602, 1605, 1606, 1607, 1608, 1609, 1900, 2900, 3100, 3200, 3400, 3500, 3700] G4 G13 := hw12.2.1
          have hp16 := hw12.2.2
          have q17 : xF3 G13 := hp16.2.1
          have q18 : xNb (G13 19) := hp16.2.2.1
          have b19 : ((-1) : Int) ≤ (G13 4 4).toInt ∧ (G13 4 4).toInt ≤ 12 := hI14 4 4
          have b20 : (0 : Int) ≤ (G13 4 5).toInt ∧ (G13 4 5).toInt ≤ 6 := hI14 4 5
          have q21 : ((G13 4 4).toInt = -1 ∨ (G13 4 5).toInt ≤ 1 ∨ ((G13 4 5).toInt ≤ 2 ∧ ((G13 4 4).toInt = 3 ∨ (G13 4 4).toInt = 4)) ∨ ((G13 4 5).toInt ≤ 4 ∧ (G13 4 4).toInt = 8) ∨ (G13 4 4).toInt = 9) := hp16.2.2.2
          refine g_istore_n F [(2, .int r11), (0, .ref (a 4)), (1, .int x31_1)] dX8_read_69 rfl (by decide) rfl ?_
          refine g_iload_n F 0 dX8_read_70 rfl rfl ?_
          refine v_if_eq F 76 dX8_read_71 (by decide) r11.toInt rfl (fun c22 => ?_) (fun c22 => ?_)
          · refine u_iinc F (fun v_ => [(1, .int v_), (2, .int r11), (0, .ref (a 4))]) dX8_read_76 (j := 2) rfl x31_1.toInt 1 rfl rfl (by omega) (by omega) (by decide) (fun _ => rfl) (fun y23 ey23 => ?_)
            refine g_goto F 31 dX8_read_79 (by decide) ?_
            refine g_locals [(0, .ref (a 4)), (1, .int y23)] [2, 0] rfl ?_
            exact ih_31 y23 G13 (by omega) (by have h9 := ti_rng y23; omega) hI14 (gu_un.tr (gu_un.tr (gu_un.tr gu_un.rf (gu_un.su jU31 rfl)) (gu_un.su hU6 rfl)) (gu_un.su hU15 rfl)) (q17) (q18) (by (first | omega | (simp only [Int32.reduceToInt, true_and, and_true, ne_eq, not_true_eq_false, false_and, or_false, false_or, true_or, or_true, false_implies] <;> omega)))
          · refine g_iload_n F 0 dX8_read_74 rfl rfl ?_
            exact u_iret F hA hQ hr G13 (⟨hI14, (gu_un.tr (gu_un.tr (gu_un.tr gu_un.rf (gu_un.su jU31 rfl)) (gu_un.su hU6 rfl)) (gu_un.su hU15 rfl)), (by have h9 := ti_rng r11; omega), (q17), (q18)⟩) rfl rfl dX8_read_75
        · refine g_aload_n F 0 dX8_read_53 rfl rfl ?_
          refine xg_4_0 F i_X8 w_0 dX8_read_54 ?_
          refine xg_1_3 F i_X10 w_2 dX8_read_57 (G4 1 3) (rfl) ?_
          have b24 : (0 : Int) ≤ (G4 1 3).toInt ∧ (G4 1 3).toInt ≤ 4 := hI5 1 3
          refine v_if_ne F 65 dX8_read_60 (by decide) (G4 1 3).toInt rfl (fun c25 => ?_) (fun c25 => ?_)
          · refine g_aload_n F 0 dX8_read_65 rfl rfl ?_
            have b26 : (0 : Int) ≤ (Gj31 4 5).toInt ∧ (Gj31 4 5).toInt ≤ 6 := jI31 4 5
            refine uz_callVi (k := 0) (n := 0) (b := a 4) (As := []) (st := []) F xZ_st hZ (fun sz => S_X8_takeToken l D K a G4 zf  ((xF3.un f3_31 (show gu_un xcd [103, 104, 105, 106] Gj31 G4 from (gu_un.tr gu_un.rf (gu_un.su hU6 rfl))) rfl rfl rfl)) ((xNb.un nb_31 (show gu_un xcd [103, 104, 105, 106] Gj31 G4 from (gu_un.tr gu_un.rf (gu_un.su hU6 rfl))) rfl)) (by have e9_4_4 : G4 4 4 = (Gj31 4 4) := hU6 4 4 (by decide); have e9_4_5 : G4 4 5 = (Gj31 4 5) := hU6 4 5 (by decide); (try simp only [e9_4_4, e9_4_5, true_and, and_true]) <;> (first | omega | (simp only [Int32.reduceToInt, true_and, and_true, ne_eq, not_true_eq_false, false_and, or_false, false_or, true_or, or_true, false_implies] <;> omega))) hI5 sz) (cwV 0 hts gX8_read_X8_takeToken rfl rfl rfl (by decide +kernel) ⟨Nat.le_of_ble_eq_true rfl, Nat.le_of_ble_eq_true rfl⟩) rfl 4 xc_4 rfl (Nat.le_of_ble_eq_true rfl) ⟨Nat.zero_le _, Nat.zero_le _⟩ dX8_read_66 (fun r27 G29 hw28 => ?_)
            have hI30 : xI G29 := hw28.1
            have hU31 : gu_un xcd [403, 404, 405, 406, 407, 1402, 1405, 1406, 1407, 1408, 1409, 1502, 1505, 1506, 1507, 1508, 1509, 1602, 1605, 1606, 1607, 1608, 1609, 1900, 2900, 3100, 3200, 3400, 3500, 3700] G4 G29 := hw28.2.1
            have hp32 := hw28.2.2
            have q33 : xF3 G29 := hp32.2.1
            have q34 : xNb (G29 19) := hp32.2.2.1
            have b35 : ((-1) : Int) ≤ (G29 4 4).toInt ∧ (G29 4 4).toInt ≤ 12 := hI30 4 4
            have b36 : (0 : Int) ≤ (G29 4 5).toInt ∧ (G29 4 5).toInt ≤ 6 := hI30 4 5
            have q37 : ((G29 4 4).toInt = -1 ∨ (G29 4 5).toInt ≤ 1 ∨ ((G29 4 5).toInt ≤ 2 ∧ ((G29 4 4).toInt = 3 ∨ (G29 4 4).toInt = 4)) ∨ ((G29 4 5).toInt ≤ 4 ∧ (G29 4 4).toInt = 8) ∨ (G29 4 4).toInt = 9) := hp32.2.2.2
            refine g_istore_n F [(2, .int r27), (0, .ref (a 4)), (1, .int x31_1)] dX8_read_69 rfl (by decide) rfl ?_
            refine g_iload_n F 0 dX8_read_70 rfl rfl ?_
            refine v_if_eq F 76 dX8_read_71 (by decide) r27.toInt rfl (fun c38 => ?_) (fun c38 => ?_)
            · refine u_iinc F (fun v_ => [(1, .int v_), (2, .int r27), (0, .ref (a 4))]) dX8_read_76 (j := 2) rfl x31_1.toInt 1 rfl rfl (by omega) (by omega) (by decide) (fun _ => rfl) (fun y39 ey39 => ?_)
              refine g_goto F 31 dX8_read_79 (by decide) ?_
              refine g_locals [(0, .ref (a 4)), (1, .int y39)] [2, 0] rfl ?_
              exact ih_31 y39 G29 (by omega) (by have h9 := ti_rng y39; omega) hI30 (gu_un.tr (gu_un.tr (gu_un.tr gu_un.rf (gu_un.su jU31 rfl)) (gu_un.su hU6 rfl)) (gu_un.su hU31 rfl)) (q33) (q34) (by (first | omega | (simp only [Int32.reduceToInt, true_and, and_true, ne_eq, not_true_eq_false, false_and, or_false, false_or, true_or, or_true, false_implies] <;> omega)))
            · refine g_iload_n F 0 dX8_read_74 rfl rfl ?_
              exact u_iret F hA hQ hr G29 (⟨hI30, (gu_un.tr (gu_un.tr (gu_un.tr gu_un.rf (gu_un.su jU31 rfl)) (gu_un.su hU6 rfl)) (gu_un.su hU31 rfl)), (by have h9 := ti_rng r27; omega), (q33), (q34)⟩) rfl rfl dX8_read_75
          · refine g_iconst F 0 dX8_read_63 (by decide) ?_
            exact u_iret F hA hQ hr G4 (⟨hI5, (gu_un.tr (gu_un.tr gu_un.rf (gu_un.su jU31 rfl)) (gu_un.su hU6 rfl)), (by decide), ((xF3.un f3_31 (show gu_un xcd [103, 104, 105, 106] Gj31 G4 from (gu_un.tr gu_un.rf (gu_un.su hU6 rfl))) rfl rfl rfl)), ((xNb.un nb_31 (show gu_un xcd [103, 104, 105, 106] Gj31 G4 from (gu_un.tr gu_un.rf (gu_un.su hU6 rfl))) rfl))⟩) rfl rfl dX8_read_64
  refine g_aload_n F 0 dX8_read_0 rfl rfl ?_
  refine xg_4_1 F i_X8 w_3 dX8_read_1 ?_
  refine uz_callVv (k := 0) (n := 0) (b := a 3) (As := []) (st := []) F xZ_st hZ (fun sz => S_X7_beUntold_3 l D K a G zf  hI sz) (cwV 0 hts gX8_read_X7_beUntold rfl rfl rfl (by decide +kernel) ⟨Nat.le_of_ble_eq_true rfl, Nat.le_of_ble_eq_true rfl⟩) rfl 3 xc_3 rfl (Nat.le_of_ble_eq_true rfl) ⟨Nat.zero_le _, Nat.zero_le _⟩ dX8_read_4 (fun G42 hw41 => ?_)
  have hI43 : xI G42 := hw41.1
  have hU44 : gu_un xcd [1402, 1502, 1602, 1900, 2900, 3200, 3500] G G42 := hw41.2.1
  have hp45 := hw41.2.2
  have q46 : xNb (G42 19) := hp45
  refine g_aload_n F 0 dX8_read_7 rfl rfl ?_
  refine g_iconst F 0 dX8_read_8 (by decide) ?_
  refine xp_4_2 F i_X8 w_4 dX8_read_9 ?_
  refine g_aload_n F 0 dX8_read_12 rfl rfl ?_
  refine g_iconst F 0 dX8_read_13 (by decide) ?_
  refine xp_4_3 F i_X8 w_5 dX8_read_14 ?_
  refine g_aload_n F 0 dX8_read_17 rfl rfl ?_
  refine g_iconst F (-1) dX8_read_18 (by decide) ?_
  refine xp_4_4 F i_X8 w_1 dX8_read_19 ?_
  refine g_aload_n F 0 dX8_read_22 rfl rfl ?_
  refine xg_4_0 F i_X8 w_0 dX8_read_23 ?_
  refine u_callVv (k := 0) (n := 0) (b := a 1) (As := []) (st := []) F (fun sz => S_X10_rewind l D K a (gu_up (gu_up (gu_up G42 4 2 0) 4 3 0) 4 4 (-1))  (gu_I.up (j := 4) (k := 4) (v := (-1)) (gu_I.up (j := 4) (k := 3) (v := 0) (gu_I.up (j := 4) (k := 2) (v := 0) hI43 (ti_rng _).1 (ti_rng _).2) (ti_rng _).1 (ti_rng _).2) (show ((-1) : Int) ≤ ((-1) : Int32).toInt by decide) (show ((-1) : Int32).toInt ≤ 12 by decide)) sz) (cwV 0 hts gX8_read_X10_rewind rfl rfl rfl (by decide +kernel) ⟨Nat.le_of_ble_eq_true rfl, Nat.le_of_ble_eq_true rfl⟩) rfl 1 xc_1 rfl (Nat.le_of_ble_eq_true rfl) ⟨Nat.zero_le _, Nat.zero_le _⟩ dX8_read_26 (fun G49 hw48 => ?_)
  have hI50 : xI G49 := hw48.1
  have hU51 : gu_un xcd [103] (gu_up (gu_up (gu_up G42 4 2 0) 4 3 0) 4 4 (-1)) G49 := hw48.2
  refine g_iconst F 0 dX8_read_29 (by decide) ?_
  refine g_istore_n F [(1, .int 0), (0, .ref (a 4))] dX8_read_30 rfl (by decide) rfl ?_
  refine g_locals [(0, .ref (a 4)), (1, .int 0)] [1, 0] rfl ?_
  have b53 : (0 : Int) ≤ (G 4 5).toInt ∧ (G 4 5).toInt ≤ 6 := hI 4 5
  exact J_31 _ 0 G49 (Nat.lt_succ_self _) (by decide) hI50 (gu_un.tr (gu_un.up (j := 4) (k := 4) (v := (-1)) (gu_un.up (j := 4) (k := 3) (v := 0) (gu_un.up (j := 4) (k := 2) (v := 0) (gu_un.tr gu_un.rf (gu_un.su hU44 rfl)) (show (403 : Nat) ∈ ([103, 104, 105, 106, 403, 404, 405, 406, 407, 1402, 1405, 1406, 1407, 1408, 1409, 1502, 1505, 1506, 1507, 1508, 1509, 1602, 1605, 1606, 1607, 1608, 1609, 1900, 2900, 3100, 3200, 3400, 3500, 3700] : List Nat) by decide)) (show (404 : Nat) ∈ ([103, 104, 105, 106, 403, 404, 405, 406, 407, 1402, 1405, 1406, 1407, 1408, 1409, 1502, 1505, 1506, 1507, 1508, 1509, 1602, 1605, 1606, 1607, 1608, 1609, 1900, 2900, 3100, 3200, 3400, 3500, 3700] : List Nat) by decide)) (show (405 : Nat) ∈ ([103, 104, 105, 106, 403, 404, 405, 406, 407, 1402, 1405, 1406, 1407, 1408, 1409, 1502, 1505, 1506, 1507, 1508, 1509, 1602, 1605, 1606, 1607, 1608, 1609, 1900, 2900, 3100, 3200, 3400, 3500, 3700] : List Nat) by decide)) (gu_un.su hU51 rfl)) ((xF3.un f3 (show gu_un xcd [103, 403, 404, 405, 1402, 1502, 1602, 1900, 2900, 3200, 3500] G G49 from (gu_un.tr (gu_un.up (j := 4) (k := 4) (v := (-1)) (gu_un.up (j := 4) (k := 3) (v := 0) (gu_un.up (j := 4) (k := 2) (v := 0) (gu_un.tr gu_un.rf (gu_un.su hU44 rfl)) (show (403 : Nat) ∈ ([103, 403, 404, 405, 1402, 1502, 1602, 1900, 2900, 3200, 3500] : List Nat) by decide)) (show (404 : Nat) ∈ ([103, 403, 404, 405, 1402, 1502, 1602, 1900, 2900, 3200, 3500] : List Nat) by decide)) (show (405 : Nat) ∈ ([103, 403, 404, 405, 1402, 1502, 1602, 1900, 2900, 3200, 3500] : List Nat) by decide)) (gu_un.su hU51 rfl))) rfl rfl rfl)) ((xNb.un q46 (show gu_un xcd [103, 403, 404, 405] G42 G49 from (gu_un.tr (gu_un.up (j := 4) (k := 4) (v := (-1)) (gu_un.up (j := 4) (k := 3) (v := 0) (gu_un.up (j := 4) (k := 2) (v := 0) gu_un.rf (show (403 : Nat) ∈ ([103, 403, 404, 405] : List Nat) by decide)) (show (404 : Nat) ∈ ([103, 403, 404, 405] : List Nat) by decide)) (show (405 : Nat) ∈ ([103, 403, 404, 405] : List Nat) by decide)) (gu_un.su hU51 rfl))) rfl)) (by have e9_4_4 : G49 4 4 = (-1) := hU51 4 4 (by decide); have e9_4_5 : G49 4 5 = (G 4 5) := (hU51 4 5 (by decide)).trans (hU44 4 5 (by decide)); (try simp only [e9_4_4, e9_4_5, true_and, and_true]) <;> (first | omega | (simp only [Int32.reduceToInt, true_and, and_true, ne_eq, not_true_eq_false, false_and, or_false, false_or, true_or, or_true, false_implies] <;> omega)))
