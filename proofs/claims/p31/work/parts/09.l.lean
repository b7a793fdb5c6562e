theorem dX8_takeToken_0 : decode cX8_takeToken 0 = .ok (.aload_n 0, 1) := by decide +kernel
theorem dX8_takeToken_1 : decode cX8_takeToken 1 = .ok (.getfield 31, 3) := by decide +kernel
theorem dX8_takeToken_4 : decode cX8_takeToken 4 = .ok (.ifCond .lt 14, 3) := by decide +kernel
theorem dX8_takeToken_7 : decode cX8_takeToken 7 = .ok (.aload_n 0, 1) := by decide +kernel
theorem dX8_takeToken_8 : decode cX8_takeToken 8 = .ok (.getfield 31, 3) := by decide +kernel
theorem dX8_takeToken_11 : decode cX8_takeToken 11 = .ok (.getstatic 49, 3) := by decide +kernel
theorem dX8_takeToken_14 : decode cX8_takeToken 14 = .ok (.arraylength, 1) := by decide +kernel
theorem dX8_takeToken_15 : decode cX8_takeToken 15 = .ok (.if_icmp .lt 8, 3) := by decide +kernel
theorem dX8_takeToken_18 : decode cX8_takeToken 18 = .ok (.aload_n 0, 1) := by decide +kernel
theorem dX8_takeToken_19 : decode cX8_takeToken 19 = .ok (.invokevirtual 53, 3) := by decide +kernel
theorem dX8_takeToken_22 : decode cX8_takeToken 22 = .ok (.ireturn, 1) := by decide +kernel
theorem dX8_takeToken_23 : decode cX8_takeToken 23 = .ok (.getstatic 49, 3) := by decide +kernel
theorem dX8_takeToken_26 : decode cX8_takeToken 26 = .ok (.aload_n 0, 1) := by decide +kernel
theorem dX8_takeToken_27 : decode cX8_takeToken 27 = .ok (.getfield 31, 3) := by decide +kernel
theorem dX8_takeToken_30 : decode cX8_takeToken 30 = .ok (.aaload, 1) := by decide +kernel
theorem dX8_takeToken_31 : decode cX8_takeToken 31 = .ok (.astore_n 1, 1) := by decide +kernel
theorem dX8_takeToken_32 : decode cX8_takeToken 32 = .ok (.aload_n 1, 1) := by decide +kernel
theorem dX8_takeToken_33 : decode cX8_takeToken 33 = .ok (.invokevirtual 56, 3) := by decide +kernel
theorem dX8_takeToken_36 : decode cX8_takeToken 36 = .ok (.ifCond .eq 11, 3) := by decide +kernel
theorem dX8_takeToken_39 : decode cX8_takeToken 39 = .ok (.aload_n 0, 1) := by decide +kernel
theorem dX8_takeToken_40 : decode cX8_takeToken 40 = .ok (.aload_n 1, 1) := by decide +kernel
theorem dX8_takeToken_41 : decode cX8_takeToken 41 = .ok (.invokevirtual 62, 3) := by decide +kernel
theorem dX8_takeToken_44 : decode cX8_takeToken 44 = .ok (.goto 8, 3) := by decide +kernel
theorem dX8_takeToken_47 : decode cX8_takeToken 47 = .ok (.aload_n 0, 1) := by decide +kernel
theorem dX8_takeToken_48 : decode cX8_takeToken 48 = .ok (.aload_n 1, 1) := by decide +kernel
theorem dX8_takeToken_49 : decode cX8_takeToken 49 = .ok (.invokevirtual 66, 3) := by decide +kernel
theorem dX8_takeToken_52 : decode cX8_takeToken 52 = .ok (.ireturn, 1) := by decide +kernel
set_option maxRecDepth 20000 in
theorem ggX8_takeToken_X1_isSum : GoodIn wsX8_takeToken wsX1_isSum := goodIn_r _ [81, 82, 83, 84, 85, 25, 86, 27] rfl (by decide +kernel)
set_option maxRecDepth 20000 in
theorem gX8_takeToken_X1_isSum : GoodIn wsX8_takeToken (wsV RX8 56 RX1 yX1_isSum wsX1_isSum) := goodIn_app (goodIn_of _ (by decide +kernel)) ggX8_takeToken_X1_isSum
set_option maxRecDepth 20000 in
theorem ggX8_takeToken_X8_takeClauseWord : GoodIn wsX8_takeToken wsX8_takeClauseWord := goodIn_r _ [7, 2, 8, 9, 10, 1, 11, 12, 13, 14, 15, 16, 17, 18, 19, 20, 21, 22, 23, 24, 25, 26, 27, 28, 29, 30, 31, 32, 33, 34, 35, 36, 37, 38, 39, 40, 41, 42, 43, 44, 45, 46, 47, 48, 49, 50, 51, 52, 53, 54, 55, 56, 57, 58, 59, 60, 61, 62, 63, 64, 65, 66, 67, 68, 69, 70, 71, 72, 73, 74, 75, 76, 77, 78, 79, 80, 81, 82, 83, 84, 85, 86, 87, 88, 89, 90, 91, 92, 93, 94, 95, 96, 97, 98, 99, 100, 101, 102, 103, 104, 105, 257, 258, 259, 260, 261, 262, 263, 264, 265, 266, 267, 268, 269, 270, 271, 272, 273, 274, 275, 276, 277, 278, 279, 280, 281, 282] rfl (by decide +kernel)
set_option maxRecDepth 20000 in
theorem gX8_takeToken_X8_takeClauseWord : GoodIn wsX8_takeToken (wsV RX8 53 RX8 yX8_takeClauseWord wsX8_takeClauseWord) := goodIn_app (goodIn_of _ (by decide +kernel)) ggX8_takeToken_X8_takeClauseWord
set_option maxRecDepth 20000 in
theorem ggX8_takeToken_X8_takeOfNumbers : GoodIn wsX8_takeToken wsX8_takeOfNumbers := goodIn_r _ [236, 8, 11, 237, 12, 238, 13, 239, 240, 241, 242, 243, 80, 244, 245, 111, 112, 113, 17, 114, 19, 115, 246, 247, 248, 90, 249, 250, 140, 141, 142, 6, 143, 1, 144, 251, 252, 253, 254, 255, 256, 257, 258, 259, 260, 261, 262, 263, 264, 265, 266, 267, 268, 269, 270, 271, 272, 273] rfl (by decide +kernel)
set_option maxRecDepth 20000 in
theorem gX8_takeToken_X8_takeOfNumbers : GoodIn wsX8_takeToken (wsV RX8 66 RX8 yX8_takeOfNumbers wsX8_takeOfNumbers) := goodIn_app (goodIn_of _ (by decide +kernel)) ggX8_takeToken_X8_takeOfNumbers
set_option maxRecDepth 20000 in
theorem ggX8_takeToken_X8_takeOfSum : GoodIn wsX8_takeToken wsX8_takeOfSum := goodIn_r _ [109, 12, 13, 8, 110, 87, 88, 89, 90, 91, 92, 93, 94, 111, 112, 113, 17, 114, 19, 115, 116, 117, 118, 98, 119, 105, 104, 120, 121, 122, 123, 124, 125, 126, 127, 101, 128, 129, 130, 131, 132, 133, 134, 135, 136, 137, 138, 100, 139, 140, 141, 142, 6, 143, 1, 144, 145, 146, 147, 148, 149, 150, 151, 152, 153, 154, 103, 155, 156, 157, 158, 159, 160, 161, 162, 163, 164, 165, 166, 167, 168, 169, 170, 171, 102, 172, 173, 174, 25, 175, 176, 177, 178, 179, 27, 44, 45, 46, 47, 32, 33, 180, 23, 24, 26, 28, 29, 30, 31, 181, 182, 50, 183, 184, 185, 186, 187, 188, 189, 190, 191, 192, 193, 194, 195, 196, 197, 198, 62, 199, 200, 201, 202, 203, 204, 205, 206, 207, 208, 67, 68, 69, 209, 210, 211, 55, 212, 213, 58, 214, 215, 216, 217, 71, 72, 73, 74, 75, 76, 218, 219, 220, 221, 222, 223, 224, 225, 226, 227, 228, 229, 230, 231, 232, 257, 258, 259, 260, 261, 262, 263, 270, 271, 272, 273, 264, 265, 266, 267, 268, 269, 274, 275, 276, 277, 278, 279, 280, 281, 282] rfl (by decide +kernel)
set_option maxRecDepth 20000 in
theorem gX8_takeToken_X8_takeOfSum : GoodIn wsX8_takeToken (wsV RX8 62 RX8 yX8_takeOfSum wsX8_takeOfSum) := goodIn_app (goodIn_of _ (by decide +kernel)) ggX8_takeToken_X8_takeOfSum
set_option maxHeartbeats 4000000 in
set_option maxRecDepth 100000 in
theorem S_X8_takeToken (l : Launch) (D : va_G) (K : Nat → ClassId) (a : Nat → Nat) (G : gS) (zf : Nat → Nat) (f3 : xF3 G) (nb : xNb (G 19)) (ri : (tY ((G 4 4).toInt = -1 ∨ (G 4 5).toInt ≤ 1 ∨ ((G 4 5).toInt ≤ 2 ∧ ((G 4 4).toInt = 3 ∨ (G 4 4).toInt = 4)) ∨ ((G 4 5).toInt ≤ 4 ∧ (G 4 4).toInt = 8) ∨ (G 4 4).toInt = 9))) (n3 : xN3 G) (vl : (tY ((G 1 3).toInt ≠ 1 ∨ (0 ≤ (G 1 5).toInt ∧ (G 1 5).toInt ≤ 255)))) (ck : ((G 4 2).toInt ≤ 1000)) (k0 : (tY ((G 4 4).toInt ≠ -1 ∨ (G 1 3).toInt ≠ 0))) (pq : ((G 1 4).toInt ≤ (G 1 2).toInt)) (hI : xI G) (sz : Nat) : KiZ (xZ zf) l yX8_takeToken wsX8_takeToken 7 176 D [.ref (a 4)] (xW K a G) (tK K) sz (fun (r : Int32) (G' : gS) => (xI G') ∧ (gu_un xcd [403, 404, 405, 406, 407, 1402, 1405, 1406, 1407, 1408, 1409, 1502, 1505, 1506, 1507, 1508, 1509, 1602, 1605, 1606, 1607, 1608, 1609, 1900, 2900, 3100, 3200, 3400, 3500, 3700] G G') ∧ (0 ≤ r.toInt ∧ r.toInt ≤ 4) ∧ (xF3 G') ∧ (xNb (G' 19)) ∧ (((G' 4 4).toInt = -1 ∨ (G' 4 5).toInt ≤ 1 ∨ ((G' 4 5).toInt ≤ 2 ∧ ((G' 4 4).toInt = 3 ∨ (G' 4 4).toInt = 4)) ∨ ((G' 4 5).toInt ≤ 4 ∧ (G' 4 4).toInt = 8) ∨ (G' 4 4).toInt = 9)) ∧ (xN3 G') ∧ (((G' 4 2).toInt ≤ (G 4 2).toInt + 1)) ∧ ((r.toInt ≠ 0 ∨ (G 1 3).toInt ≠ 0))) (fun (G' : gS) => (xW K a G')) := by
  unfold KiZ
  refine gz_ofW (cc := cX8_takeToken) (lv := [(0, .ref (a 4))]) (by decide) rfl (Nat.le_of_ble_eq_true rfl) rfl ?_
  intro p e s m args below meth c A Q hA hQ hZ F hr hnm
  have hts := F.2.2.2.2.1
  have w_0 : (Cond.fieldLink RX8 31 "QuietCut$ShopReader" "open" "I").before args s = true := hts _ (List.mem_of_getElem? (i := 1) rfl)
  have i_X8 : ∀ w ∈ u_ws RX8 TX8 7, w ∈ wsX8_takeToken := fun _ h => List.mem_cons_of_mem _ (List.mem_append_left _ (List.mem_append_left _ (List.mem_append_left _ (List.mem_append_right _ h))))
  have w_1 : (Cond.fieldLink RX8 49 "QuietCut$ShopReader" "CLAUSES" "[LQuietCut$Clause;").before args s = true := hts _ (List.mem_of_getElem? (i := 2) rfl)
  have b1 : ((-1) : Int) ≤ (G 4 4).toInt ∧ (G 4 4).toInt ≤ 12 := hI 4 4
  have b2 : (0 : Int) ≤ (G 4 5).toInt ∧ (G 4 5).toInt ≤ 6 := hI 4 5
  have b3 : (0 : Int) ≤ (G 4 2).toInt ∧ (G 4 2).toInt ≤ 1001 := hI 4 2
  have b4 : (0 : Int) ≤ (G 1 3).toInt ∧ (G 1 3).toInt ≤ 4 := hI 1 3
  refine g_aload_n F 0 dX8_takeToken_0 rfl rfl ?_
  refine xg_4_4 F i_X8 w_0 dX8_takeToken_1 (G 4 4) (rfl) ?_
  refine v_if_lt F 18 dX8_takeToken_4 (by decide) (G 4 4).toInt rfl (fun c5 => ?_) (fun c5 => ?_)
  · refine g_aload_n F 0 dX8_takeToken_18 rfl rfl ?_
    refine uz_callVi (k := 0) (n := 0) (b := a 4) (As := []) (st := []) F xZ_st hZ (fun sz => S_X8_takeClauseWord l D K a G zf  (f3) (ri) (by (first | omega | (simp only [Int32.reduceToInt, true_and, and_true, ne_eq, not_true_eq_false, false_and, or_false, false_or, true_or, or_true, false_implies] <;> omega))) (by have h9 := k0; unfold tY at h9; omega) (pq) hI sz) (cwV 0 hts gX8_takeToken_X8_takeClauseWord rfl rfl rfl (by decide +kernel) ⟨Nat.le_of_ble_eq_true rfl, Nat.le_of_ble_eq_true rfl⟩) rfl 4 xc_4 rfl (Nat.le_of_ble_eq_true rfl) ⟨Nat.zero_le _, Nat.zero_le _⟩ dX8_takeToken_19 (fun r6 G8 hw7 => ?_)
    have hI9 : xI G8 := hw7.1
    have hU10 : gu_un xcd [404, 405, 406, 1402, 1405, 1406, 1407, 1408, 1409, 1502, 1505, 1506, 1507, 1508, 1509, 1602, 1605, 1606, 1607, 1608, 1609] G G8 := hw7.2.1
    have hp11 := hw7.2.2
    have q12 : xF3 G8 := hp11.2.1
    have b13 : ((-1) : Int) ≤ (G8 4 4).toInt ∧ (G8 4 4).toInt ≤ 12 := hI9 4 4
    have b14 : (0 : Int) ≤ (G8 4 5).toInt ∧ (G8 4 5).toInt ≤ 6 := hI9 4 5
    have q15 : tY (((G8 4 4).toInt = -1 ∨ (G8 4 5).toInt ≤ 1 ∨ ((G8 4 5).toInt ≤ 2 ∧ ((G8 4 4).toInt = 3 ∨ (G8 4 4).toInt = 4)) ∨ ((G8 4 5).toInt ≤ 4 ∧ (G8 4 4).toInt = 8) ∨ (G8 4 4).toInt = 9)) := hp11.2.2.1
    have q16 : xN3 G8 := hp11.2.2.2.1
    have q17 : ((G 4 2).toInt = (G 4 2).toInt) := by have h9 := hp11.2.2.2.2; (try simp only [(show G8 4 2 = (G 4 2) from hU10 4 2 (by decide))] at h9); first | exact h9 | omega
    have rg18 := hp11.1
    clear hp11 hw7
    exact u_iret F hA hQ hr G8 (⟨hI9, (gu_un.tr gu_un.rf (gu_un.su hU10 rfl)), (by have h9 := ti_rng r6; omega), (q12), ((xNb.un nb (show gu_un xcd [404, 405, 406, 1402, 1405, 1406, 1407, 1408, 1409, 1502, 1505, 1506, 1507, 1508, 1509, 1602, 1605, 1606, 1607, 1608, 1609] G G8 from (gu_un.tr gu_un.rf (gu_un.su hU10 rfl))) rfl)), (q15), (q16), (by have e9_4_2 : G8 4 2 = (G 4 2) := hU10 4 2 (by decide); (try simp only [e9_4_2, true_and, and_true]) <;> (first | omega | (simp only [Int32.reduceToInt, true_and, and_true, ne_eq, not_true_eq_false, false_and, or_false, false_or, true_or, or_true, false_implies] <;> omega))), (Or.inr ((show _ ∨ _ from k0).resolve_left (fun h9 => h9 (show (G 4 4).toInt = -1 by omega))))⟩) rfl rfl dX8_takeToken_22
  · refine g_aload_n F 0 dX8_takeToken_7 rfl rfl ?_
    refine xg_4_4 F i_X8 w_0 dX8_takeToken_8 (G 4 4) (rfl) ?_
    refine uz_gets F hZ.2.2.2.1 w_1 dX8_takeToken_11 ?_
    refine uz_tlen F hZ.2.2.2.2.1 13 rfl dX8_takeToken_14 ?_
    refine v_icmp_lt F 23 dX8_takeToken_15 (by decide) (G 4 4).toInt 13 rfl rfl (fun c19 => ?_) (fun c19 => absurd c19 (by omega))
    refine uz_gets F hZ.2.2.2.1 w_1 dX8_takeToken_23 ?_
    refine g_aload_n F 0 dX8_takeToken_26 rfl rfl ?_
    refine xg_4_4 F i_X8 w_0 dX8_takeToken_27 (G 4 4) (rfl) ?_
    rcases (show (G 4 4).toInt = 0 ∨ (G 4 4).toInt = 1 ∨ (G 4 4).toInt = 2 ∨ (G 4 4).toInt = 3 ∨ (G 4 4).toInt = 4 ∨ (G 4 4).toInt = 5 ∨ (G 4 4).toInt = 6 ∨ (G 4 4).toInt = 7 ∨ (G 4 4).toInt = 8 ∨ (G 4 4).toInt = 9 ∨ (G 4 4).toInt = 10 ∨ (G 4 4).toInt = 11 ∨ (G 4 4).toInt = 12 by omega) with c20 | c20 | c20 | c20 | c20 | c20 | c20 | c20 | c20 | c20 | c20 | c20 | c20
    · refine uz_tq (v := .ref (zf 10)) F hZ.2.2.2.2.1 0 c20 (by decide) (by decide) rfl dX8_takeToken_30 ?_
      refine g_astore_n F [(1, .ref (zf 10)), (0, .ref (a 4))] dX8_takeToken_31 rfl (by decide) rfl ?_
      refine g_aload_n F 0 dX8_takeToken_32 rfl rfl ?_
      refine uz_call0Vi (k := 0) (n := 0) (b := (zf 10)) (As := []) (st := []) F xZ_st hZ (fun sz => S_X1_isSum_c0 l D zf sz) (cwV 0 hts gX8_takeToken_X1_isSum rfl rfl rfl (by decide +kernel) ⟨Nat.le_of_ble_eq_true rfl, Nat.le_of_ble_eq_true rfl⟩) (hZ.2.2.2.2.2 0 (by decide)).1 rfl (Nat.le_of_ble_eq_true rfl) ⟨Nat.zero_le _, Nat.zero_le _⟩ dX8_takeToken_33 (fun r21 _ hw22 => ?_)
      have hw22 : r21.toInt = 0 := hw22
      refine g_fold 0 ((ti_eq rfl (show (0 : Int32).toInt = 0 from rfl)).mpr hw22) ?_
      refine v_if_eq F 47 dX8_takeToken_36 (by decide) 0 rfl (fun c23 => ?_) (fun c23 => absurd c23 (by decide))
      refine g_aload_n F 1 dX8_takeToken_47 rfl rfl ?_
      refine g_aload_n F 0 dX8_takeToken_48 rfl rfl ?_
      refine uz_callVi (k := 0) (n := 0) (b := a 4) (As := [.ref (zf 10)]) (st := []) F xZ_st hZ (fun sz => S_X8_takeOfNumbers_c0 l D K a G zf  (nb) (ck) (by have h9 := ri; unfold tY at h9; omega) hI sz) (cwV 1 hts gX8_takeToken_X8_takeOfNumbers rfl rfl rfl (by decide +kernel) ⟨Nat.le_of_ble_eq_true rfl, Nat.le_of_ble_eq_true rfl⟩) rfl 4 xc_4 rfl (Nat.le_of_ble_eq_true rfl) ⟨Nat.zero_le _, Nat.zero_le _⟩ dX8_takeToken_49 (fun r24 G26 hw25 => ?_)
      have hI27 : xI G26 := hw25.1
      have hU28 : gu_un xcd [403, 405, 406, 407, 1900] G G26 := hw25.2.1
      have hp29 := hw25.2.2
      have q30 : xNb (G26 19) := hp29.2.1
      have b31 : ((-1) : Int) ≤ (G26 4 4).toInt ∧ (G26 4 4).toInt ≤ 12 := hI27 4 4
      have b32 : (0 : Int) ≤ (G26 4 5).toInt ∧ (G26 4 5).toInt ≤ 6 := hI27 4 5
      have q33 : tY (((G26 4 4).toInt = -1 ∨ (G26 4 5).toInt ≤ 1 ∨ ((G26 4 5).toInt ≤ 2 ∧ ((G26 4 4).toInt = 3 ∨ (G26 4 4).toInt = 4)) ∨ ((G26 4 5).toInt ≤ 4 ∧ (G26 4 4).toInt = 8) ∨ (G26 4 4).toInt = 9)) := hp29.2.2.1
      have q34 : tY (((G26 4 4).toInt = -1 ∨ (G26 4 4).toInt = (G 4 4).toInt)) := hp29.2.2.2.1
      have b35 : (0 : Int) ≤ (G26 4 2).toInt ∧ (G26 4 2).toInt ≤ 1001 := hI27 4 2
      have q36 : ((G26 4 2).toInt ≤ (G 4 2).toInt + 1) := hp29.2.2.2.2.1
      have q37 : tY ((r24.toInt ≠ 0 ∨ (G 1 3).toInt ≠ 0)) := hp29.2.2.2.2.2
      have rg38 := hp29.1
      clear hp29 hw25
      exact u_iret F hA hQ hr G26 (⟨hI27, (gu_un.tr gu_un.rf (gu_un.su hU28 rfl)), (by have h9 := ti_rng r24; omega), ((xF3.un f3 (show gu_un xcd [403, 405, 406, 407, 1900] G G26 from (gu_un.tr gu_un.rf (gu_un.su hU28 rfl))) rfl rfl rfl)), (q30), (q33), (xN3.no (by have h9 := q34; unfold tY at h9; omega)), (q36), (q37)⟩) rfl rfl dX8_takeToken_52
    · refine uz_tq (v := .ref (zf 11)) F hZ.2.2.2.2.1 1 c20 (by decide) (by decide) rfl dX8_takeToken_30 ?_
      refine g_astore_n F [(1, .ref (zf 11)), (0, .ref (a 4))] dX8_takeToken_31 rfl (by decide) rfl ?_
      refine g_aload_n F 0 dX8_takeToken_32 rfl rfl ?_
      refine uz_call0Vi (k := 0) (n := 0) (b := (zf 11)) (As := []) (st := []) F xZ_st hZ (fun sz => S_X1_isSum_c1 l D zf sz) (cwV 0 hts gX8_takeToken_X1_isSum rfl rfl rfl (by decide +kernel) ⟨Nat.le_of_ble_eq_true rfl, Nat.le_of_ble_eq_true rfl⟩) (hZ.2.2.2.2.2 1 (by decide)).1 rfl (Nat.le_of_ble_eq_true rfl) ⟨Nat.zero_le _, Nat.zero_le _⟩ dX8_takeToken_33 (fun r39 _ hw40 => ?_)
      have hw40 : r39.toInt = 0 := hw40
      refine g_fold 0 ((ti_eq rfl (show (0 : Int32).toInt = 0 from rfl)).mpr hw40) ?_
      refine v_if_eq F 47 dX8_takeToken_36 (by decide) 0 rfl (fun c41 => ?_) (fun c41 => absurd c41 (by decide))
      refine g_aload_n F 1 dX8_takeToken_47 rfl rfl ?_
      refine g_aload_n F 0 dX8_takeToken_48 rfl rfl ?_
      refine uz_callVi (k := 0) (n := 0) (b := a 4) (As := [.ref (zf 11)]) (st := []) F xZ_st hZ (fun sz => S_X8_takeOfNumbers_c1 l D K a G zf  (nb) (ck) (by have h9 := ri; unfold tY at h9; omega) hI sz) (cwV 1 hts gX8_takeToken_X8_takeOfNumbers rfl rfl rfl (by decide +kernel) ⟨Nat.le_of_ble_eq_true rfl, Nat.le_of_ble_eq_true rfl⟩) rfl 4 xc_4 rfl (Nat.le_of_ble_eq_true rfl) ⟨Nat.zero_le _, Nat.zero_le _⟩ dX8_takeToken_49 (fun r42 G44 hw43 => ?_)
      have hI45 : xI G44 := hw43.1
      have hU46 : gu_un xcd [403, 405, 406, 407, 1900] G G44 := hw43.2.1
      have hp47 := hw43.2.2
      have q48 : xNb (G44 19) := hp47.2.1
      have b49 : ((-1) : Int) ≤ (G44 4 4).toInt ∧ (G44 4 4).toInt ≤ 12 := hI45 4 4
      have b50 : (0 : Int) ≤ (G44 4 5).toInt ∧ (G44 4 5).toInt ≤ 6 := hI45 4 5
      have q51 : tY (((G44 4 4).toInt = -1 ∨ (G44 4 5).toInt ≤ 1 ∨ ((G44 4 5).toInt ≤ 2 ∧ ((G44 4 4).toInt = 3 ∨ (G44 4 4).toInt = 4)) ∨ ((G44 4 5).toInt ≤ 4 ∧ (G44 4 4).toInt = 8) ∨ (G44 4 4).toInt = 9)) := hp47.2.2.1
      have q52 : tY (((G44 4 4).toInt = -1 ∨ (G44 4 4).toInt = (G 4 4).toInt)) := hp47.2.2.2.1
      have b53 : (0 : Int) ≤ (G44 4 2).toInt ∧ (G44 4 2).toInt ≤ 1001 := hI45 4 2
      have q54 : ((G44 4 2).toInt ≤ (G 4 2).toInt + 1) := hp47.2.2.2.2.1
      have q55 : tY ((r42.toInt ≠ 0 ∨ (G 1 3).toInt ≠ 0)) := hp47.2.2.2.2.2
      have rg56 := hp47.1
      clear hp47 hw43
      exact u_iret F hA hQ hr G44 (⟨hI45, (gu_un.tr gu_un.rf (gu_un.su hU46 rfl)), (by have h9 := ti_rng r42; omega), ((xF3.un f3 (show gu_un xcd [403, 405, 406, 407, 1900] G G44 from (gu_un.tr gu_un.rf (gu_un.su hU46 rfl))) rfl rfl rfl)), (q48), (q51), (xN3.no (by have h9 := q52; unfold tY at h9; omega)), (q54), (q55)⟩) rfl rfl dX8_takeToken_52
    · refine uz_tq (v := .ref (zf 12)) F hZ.2.2.2.2.1 2 c20 (by decide) (by decide) rfl dX8_takeToken_30 ?_
      refine g_astore_n F [(1, .ref (zf 12)), (0, .ref (a 4))] dX8_takeToken_31 rfl (by decide) rfl ?_
      refine g_aload_n F 0 dX8_takeToken_32 rfl rfl ?_
      refine uz_call0Vi (k := 0) (n := 0) (b := (zf 12)) (As := []) (st := []) F xZ_st hZ (fun sz => S_X1_isSum_c2 l D zf sz) (cwV 0 hts gX8_takeToken_X1_isSum rfl rfl rfl (by decide +kernel) ⟨Nat.le_of_ble_eq_true rfl, Nat.le_of_ble_eq_true rfl⟩) (hZ.2.2.2.2.2 2 (by decide)).1 rfl (Nat.le_of_ble_eq_true rfl) ⟨Nat.zero_le _, Nat.zero_le _⟩ dX8_takeToken_33 (fun r57 _ hw58 => ?_)
      have hw58 : r57.toInt = 0 := hw58
      refine g_fold 0 ((ti_eq rfl (show (0 : Int32).toInt = 0 from rfl)).mpr hw58) ?_
      refine v_if_eq F 47 dX8_takeToken_36 (by decide) 0 rfl (fun c59 => ?_) (fun c59 => absurd c59 (by decide))
      refine g_aload_n F 1 dX8_takeToken_47 rfl rfl ?_
      refine g_aload_n F 0 dX8_takeToken_48 rfl rfl ?_
      refine uz_callVi (k := 0) (n := 0) (b := a 4) (As := [.ref (zf 12)]) (st := []) F xZ_st hZ (fun sz => S_X8_takeOfNumbers_c2 l D K a G zf  (nb) (ck) (by have h9 := ri; unfold tY at h9; omega) hI sz) (cwV 1 hts gX8_takeToken_X8_takeOfNumbers rfl rfl rfl (by decide +kernel) ⟨Nat.le_of_ble_eq_true rfl, Nat.le_of_ble_eq_true rfl⟩) rfl 4 xc_4 rfl (Nat.le_of_ble_eq_true rfl) ⟨Nat.zero_le _, Nat.zero_le _⟩ dX8_takeToken_49 (fun r60 G62 hw61 => ?_)
      have hI63 : xI G62 := hw61.1
      have hU64 : gu_un xcd [403, 405, 406, 407, 1900] G G62 := hw61.2.1
      have hp65 := hw61.2.2
      have q66 : xNb (G62 19) := hp65.2.1
      have b67 : ((-1) : Int) ≤ (G62 4 4).toInt ∧ (G62 4 4).toInt ≤ 12 := hI63 4 4
      have b68 : (0 : Int) ≤ (G62 4 5).toInt ∧ (G62 4 5).toInt ≤ 6 := hI63 4 5
      have q69 : tY (((G62 4 4).toInt = -1 ∨ (G62 4 5).toInt ≤ 1 ∨ ((G62 4 5).toInt ≤ 2 ∧ ((G62 4 4).toInt = 3 ∨ (G62 4 4).toInt = 4)) ∨ ((G62 4 5).toInt ≤ 4 ∧ (G62 4 4).toInt = 8) ∨ (G62 4 4).toInt = 9)) := hp65.2.2.1
      have q70 : tY (((G62 4 4).toInt = -1 ∨ (G62 4 4).toInt = (G 4 4).toInt)) := hp65.2.2.2.1
      have b71 : (0 : Int) ≤ (G62 4 2).toInt ∧ (G62 4 2).toInt ≤ 1001 := hI63 4 2
      have q72 : ((G62 4 2).toInt ≤ (G 4 2).toInt + 1) := hp65.2.2.2.2.1
      have q73 : tY ((r60.toInt ≠ 0 ∨ (G 1 3).toInt ≠ 0)) := hp65.2.2.2.2.2
      have rg74 := hp65.1
      clear hp65 hw61
      exact u_iret F hA hQ hr G62 (⟨hI63, (gu_un.tr gu_un.rf (gu_un.su hU64 rfl)), (by have h9 := ti_rng r60; omega), ((xF3.un f3 (show gu_un xcd [403, 405, 406, 407, 1900] G G62 from (gu_un.tr gu_un.rf (gu_un.su hU64 rfl))) rfl rfl rfl)), (q66), (q69), (xN3.no (by have h9 := q70; unfold tY at h9; omega)), (q72), (q73)⟩) rfl rfl dX8_takeToken_52
    · refine uz_tq (v := .ref (zf 13)) F hZ.2.2.2.2.1 3 c20 (by decide) (by decide) rfl dX8_takeToken_30 ?_
      refine g_astore_n F [(1, .ref (zf 13)), (0, .ref (a 4))] dX8_takeToken_31 rfl (by decide) rfl ?_
      refine g_aload_n F 0 dX8_takeToken_32 rfl rfl ?_
      refine uz_call0Vi (k := 0) (n := 0) (b := (zf 13)) (As := []) (st := []) F xZ_st hZ (fun sz => S_X1_isSum_c3 l D zf sz) (cwV 0 hts gX8_takeToken_X1_isSum rfl rfl rfl (by decide +kernel) ⟨Nat.le_of_ble_eq_true rfl, Nat.le_of_ble_eq_true rfl⟩) (hZ.2.2.2.2.2 3 (by decide)).1 rfl (Nat.le_of_ble_eq_true rfl) ⟨Nat.zero_le _, Nat.zero_le _⟩ dX8_takeToken_33 (fun r75 _ hw76 => ?_)
      have hw76 : r75.toInt = 0 := hw76
      refine g_fold 0 ((ti_eq rfl (show (0 : Int32).toInt = 0 from rfl)).mpr hw76) ?_
      refine v_if_eq F 47 dX8_takeToken_36 (by decide) 0 rfl (fun c77 => ?_) (fun c77 => absurd c77 (by decide))
      refine g_aload_n F 1 dX8_takeToken_47 rfl rfl ?_
      refine g_aload_n F 0 dX8_takeToken_48 rfl rfl ?_
      refine uz_callVi (k := 0) (n := 0) (b := a 4) (As := [.ref (zf 13)]) (st := []) F xZ_st hZ (fun sz => S_X8_takeOfNumbers_c3 l D K a G zf  (nb) (ck) (by have h9 := ri; unfold tY at h9; omega) hI sz) (cwV 1 hts gX8_takeToken_X8_takeOfNumbers rfl rfl rfl (by decide +kernel) ⟨Nat.le_of_ble_eq_true rfl, Nat.le_of_ble_eq_true rfl⟩) rfl 4 xc_4 rfl (Nat.le_of_ble_eq_true rfl) ⟨Nat.zero_le _, Nat.zero_le _⟩ dX8_takeToken_49 (fun r78 G80 hw79 => ?_)
      have hI81 : xI G80 := hw79.1
      have hU82 : gu_un xcd [403, 405, 406, 407, 1900] G G80 := hw79.2.1
      have hp83 := hw79.2.2
      have q84 : xNb (G80 19) := hp83.2.1
      have b85 : ((-1) : Int) ≤ (G80 4 4).toInt ∧ (G80 4 4).toInt ≤ 12 := hI81 4 4
      have b86 : (0 : Int) ≤ (G80 4 5).toInt ∧ (G80 4 5).toInt ≤ 6 := hI81 4 5
      have q87 : tY (((G80 4 4).toInt = -1 ∨ (G80 4 5).toInt ≤ 1 ∨ ((G80 4 5).toInt ≤ 2 ∧ ((G80 4 4).toInt = 3 ∨ (G80 4 4).toInt = 4)) ∨ ((G80 4 5).toInt ≤ 4 ∧ (G80 4 4).toInt = 8) ∨ (G80 4 4).toInt = 9)) := hp83.2.2.1
      have q88 : tY (((G80 4 4).toInt = -1 ∨ (G80 4 4).toInt = (G 4 4).toInt)) := hp83.2.2.2.1
      have b89 : (0 : Int) ≤ (G80 4 2).toInt ∧ (G80 4 2).toInt ≤ 1001 := hI81 4 2
      have q90 : ((G80 4 2).toInt ≤ (G 4 2).toInt + 1) := hp83.2.2.2.2.1
      have q91 : tY ((r78.toInt ≠ 0 ∨ (G 1 3).toInt ≠ 0)) := hp83.2.2.2.2.2
      have rg92 := hp83.1
      clear hp83 hw79
      exact u_iret F hA hQ hr G80 (⟨hI81, (gu_un.tr gu_un.rf (gu_un.su hU82 rfl)), (by have h9 := ti_rng r78; omega), ((xF3.un f3 (show gu_un xcd [403, 405, 406, 407, 1900] G G80 from (gu_un.tr gu_un.rf (gu_un.su hU82 rfl))) rfl rfl rfl)), (q84), (q87), (xN3.no (by have h9 := q88; unfold tY at h9; omega)), (q90), (q91)⟩) rfl rfl dX8_takeToken_52
    · refine uz_tq (v := .ref (zf 14)) F hZ.2.2.2.2.1 4 c20 (by decide) (by decide) rfl dX8_takeToken_30 ?_
      refine g_astore_n F [(1, .ref (zf 14)), (0, .ref (a 4))] dX8_takeToken_31 rfl (by decide) rfl ?_
      refine g_aload_n F 0 dX8_takeToken_32 rfl rfl ?_
      refine uz_call0Vi (k := 0) (n := 0) (b := (zf 14)) (As := []) (st := []) F xZ_st hZ (fun sz => S_X1_isSum_c4 l D zf sz) (cwV 0 hts gX8_takeToken_X1_isSum rfl rfl rfl (by decide +kernel) ⟨Nat.le_of_ble_eq_true rfl, Nat.le_of_ble_eq_true rfl⟩) (hZ.2.2.2.2.2 4 (by decide)).1 rfl (Nat.le_of_ble_eq_true rfl) ⟨Nat.zero_le _, Nat.zero_le _⟩ dX8_takeToken_33 (fun r93 _ hw94 => ?_)
      have hw94 : r93.toInt = 0 := hw94
      refine g_fold 0 ((ti_eq rfl (show (0 : Int32).toInt = 0 from rfl)).mpr hw94) ?_
      refine v_if_eq F 47 dX8_takeToken_36 (by decide) 0 rfl (fun c95 => ?_) (fun c95 => absurd c95 (by decide))
      refine g_aload_n F 1 dX8_takeToken_47 rfl rfl ?_
      refine g_aload_n F 0 dX8_takeToken_48 rfl rfl ?_
      refine uz_callVi (k := 0) (n := 0) (b := a 4) (As := [.ref (zf 14)]) (st := []) F xZ_st hZ (fun sz => S_X8_takeOfNumbers_c4 l D K a G zf  (nb) (ck) (by have h9 := ri; unfold tY at h9; omega) hI sz) (cwV 1 hts gX8_takeToken_X8_takeOfNumbers rfl rfl rfl (by decide +kernel) ⟨Nat.le_of_ble_eq_true rfl, Nat.le_of_ble_eq_true rfl⟩) rfl 4 xc_4 rfl (Nat.le_of_ble_eq_true rfl) ⟨Nat.zero_le _, Nat.zero_le _⟩ dX8_takeToken_49 (fun r96 G98 hw97 => ?_)
      have hI99 : xI G98 := hw97.1
      have hU100 : gu_un xcd [403, 405, 406, 407, 1900] G G98 := hw97.2.1
      have hp101 := hw97.2.2
      have q102 : xNb (G98 19) := hp101.2.1
      have b103 : ((-1) : Int) ≤ (G98 4 4).toInt ∧ (G98 4 4).toInt ≤ 12 := hI99 4 4
      have b104 : (0 : Int) ≤ (G98 4 5).toInt ∧ (G98 4 5).toInt ≤ 6 := hI99 4 5
      have q105 : tY (((G98 4 4).toInt = -1 ∨ (G98 4 5).toInt ≤ 1 ∨ ((G98 4 5).toInt ≤ 2 ∧ ((G98 4 4).toInt = 3 ∨ (G98 4 4).toInt = 4)) ∨ ((G98 4 5).toInt ≤ 4 ∧ (G98 4 4).toInt = 8) ∨ (G98 4 4).toInt = 9)) := hp101.2.2.1
      have q106 : tY (((G98 4 4).toInt = -1 ∨ (G98 4 4).toInt = (G 4 4).toInt)) := hp101.2.2.2.1
      have b107 : (0 : Int) ≤ (G98 4 2).toInt ∧ (G98 4 2).toInt ≤ 1001 := hI99 4 2
      have q108 : ((G98 4 2).toInt ≤ (G 4 2).toInt + 1) := hp101.2.2.2.2.1
      have q109 : tY ((r96.toInt ≠ 0 ∨ (G 1 3).toInt ≠ 0)) := hp101.2.2.2.2.2
      have rg110 := hp101.1
      clear hp101 hw97
      exact u_iret F hA hQ hr G98 (⟨hI99, (gu_un.tr gu_un.rf (gu_un.su hU100 rfl)), (by have h9 := ti_rng r96; omega), ((xF3.un f3 (show gu_un xcd [403, 405, 406, 407, 1900] G G98 from (gu_un.tr gu_un.rf (gu_un.su hU100 rfl))) rfl rfl rfl)), (q102), (q105), (xN3.no (by have h9 := q106; unfold tY at h9; omega)), (q108), (q109)⟩) rfl rfl dX8_takeToken_52
    · refine uz_tq (v := .ref (zf 15)) F hZ.2.2.2.2.1 5 c20 (by decide) (by decide) rfl dX8_takeToken_30 ?_
      refine g_astore_n F [(1, .ref (zf 15)), (0, .ref (a 4))] dX8_takeToken_31 rfl (by decide) rfl ?_
      refine g_aload_n F 0 dX8_takeToken_32 rfl rfl ?_
      refine uz_call0Vi (k := 0) (n := 0) (b := (zf 15)) (As := []) (st := []) F xZ_st hZ (fun sz => S_X1_isSum_c5 l D zf sz) (cwV 0 hts gX8_takeToken_X1_isSum rfl rfl rfl (by decide +kernel) ⟨Nat.le_of_ble_eq_true rfl, Nat.le_of_ble_eq_true rfl⟩) (hZ.2.2.2.2.2 5 (by decide)).1 rfl (Nat.le_of_ble_eq_true rfl) ⟨Nat.zero_le _, Nat.zero_le _⟩ dX8_takeToken_33 (fun r111 _ hw112 => ?_)
      have hw112 : r111.toInt = 0 := hw112
      refine g_fold 0 ((ti_eq rfl (show (0 : Int32).toInt = 0 from rfl)).mpr hw112) ?_
      refine v_if_eq F 47 dX8_takeToken_36 (by decide) 0 rfl (fun c113 => ?_) (fun c113 => absurd c113 (by decide))
      refine g_aload_n F 1 dX8_takeToken_47 rfl rfl ?_
      refine g_aload_n F 0 dX8_takeToken_48 rfl rfl ?_
      refine uz_callVi (k := 0) (n := 0) (b := a 4) (As := [.ref (zf 15)]) (st := []) F xZ_st hZ (fun sz => S_X8_takeOfNumbers_c5 l D K a G zf  (nb) (ck) (by have h9 := ri; unfold tY at h9; omega) hI sz) (cwV 1 hts gX8_takeToken_X8_takeOfNumbers rfl rfl rfl (by decide +kernel) ⟨Nat.le_of_ble_eq_true rfl, Nat.le_of_ble_eq_true rfl⟩) rfl 4 xc_4 rfl (Nat.le_of_ble_eq_true rfl) ⟨Nat.zero_le _, Nat.zero_le _⟩ dX8_takeToken_49 (fun r114 G116 hw115 => ?_)
      have hI117 : xI G116 := hw115.1
      have hU118 : gu_un xcd [403, 405, 406, 407, 1900] G G116 := hw115.2.1
      have hp119 := hw115.2.2
      have q120 : xNb (G116 19) := hp119.2.1
      have b121 : ((-1) : Int) ≤ (G116 4 4).toInt ∧ (G116 4 4).toInt ≤ 12 := hI117 4 4
      have b122 : (0 : Int) ≤ (G116 4 5).toInt ∧ (G116 4 5).toInt ≤ 6 := hI117 4 5
      have q123 : tY (((G116 4 4).toInt = -1 ∨ (G116 4 5).toInt ≤ 1 ∨ ((G116 4 5).toInt ≤ 2 ∧ ((G116 4 4).toInt = 3 ∨ (G116 4 4).toInt = 4)) ∨ ((G116 4 5).toInt ≤ 4 ∧ (G116 4 4).toInt = 8) ∨ (G116 4 4).toInt = 9)) := hp119.2.2.1
      have q124 : tY (((G116 4 4).toInt = -1 ∨ (G116 4 4).toInt = (G 4 4).toInt)) := hp119.2.2.2.1
      have b125 : (0 : Int) ≤ (G116 4 2).toInt ∧ (G116 4 2).toInt ≤ 1001 := hI117 4 2
      have q126 : ((G116 4 2).toInt ≤ (G 4 2).toInt + 1) := hp119.2.2.2.2.1
      have q127 : tY ((r114.toInt ≠ 0 ∨ (G 1 3).toInt ≠ 0)) := hp119.2.2.2.2.2
      have rg128 := hp119.1
      clear hp119 hw115
      exact u_iret F hA hQ hr G116 (⟨hI117, (gu_un.tr gu_un.rf (gu_un.su hU118 rfl)), (by have h9 := ti_rng r114; omega), ((xF3.un f3 (show gu_un xcd [403, 405, 406, 407, 1900] G G116 from (gu_un.tr gu_un.rf (gu_un.su hU118 rfl))) rfl rfl rfl)), (q120), (q123), (xN3.no (by have h9 := q124; unfold tY at h9; omega)), (q126), (q127)⟩) rfl rfl dX8_takeToken_52
    · refine uz_tq (v := .ref (zf 16)) F hZ.2.2.2.2.1 6 c20 (by decide) (by decide) rfl dX8_takeToken_30 ?_
      refine g_astore_n F [(1, .ref (zf 16)), (0, .ref (a 4))] dX8_takeToken_31 rfl (by decide) rfl ?_
      refine g_aload_n F 0 dX8_takeToken_32 rfl rfl ?_
      refine uz_call0Vi (k := 0) (n := 0) (b := (zf 16)) (As := []) (st := []) F xZ_st hZ (fun sz => S_X1_isSum_c6 l D zf sz) (cwV 0 hts gX8_takeToken_X1_isSum rfl rfl rfl (by decide +kernel) ⟨Nat.le_of_ble_eq_true rfl, Nat.le_of_ble_eq_true rfl⟩) (hZ.2.2.2.2.2 6 (by decide)).1 rfl (Nat.le_of_ble_eq_true rfl) ⟨Nat.zero_le _, Nat.zero_le _⟩ dX8_takeToken_33 (fun r129 _ hw130 => ?_)
      have hw130 : r129.toInt = 0 := hw130
      refine g_fold 0 ((ti_eq rfl (show (0 : Int32).toInt = 0 from rfl)).mpr hw130) ?_
      refine v_if_eq F 47 dX8_takeToken_36 (by decide) 0 rfl (fun c131 => ?_) (fun c131 => absurd c131 (by decide))
      refine g_aload_n F 1 dX8_takeToken_47 rfl rfl ?_
      refine g_aload_n F 0 dX8_takeToken_48 rfl rfl ?_
      refine uz_callVi (k := 0) (n := 0) (b := a 4) (As := [.ref (zf 16)]) (st := []) F xZ_st hZ (fun sz => S_X8_takeOfNumbers_c6 l D K a G zf  (nb) (ck) (by have h9 := ri; unfold tY at h9; omega) hI sz) (cwV 1 hts gX8_takeToken_X8_takeOfNumbers rfl rfl rfl (by decide +kernel) ⟨Nat.le_of_ble_eq_true rfl, Nat.le_of_ble_eq_true rfl⟩) rfl 4 xc_4 rfl (Nat.le_of_ble_eq_true rfl) ⟨Nat.zero_le _, Nat.zero_le _⟩ dX8_takeToken_49 (fun r132 G134 hw133 => ?_)
      have hI135 : xI G134 := hw133.1
      have hU136 : gu_un xcd [403, 405, 406, 407, 1900] G G134 := hw133.2.1
      have hp137 := hw133.2.2
      have q138 : xNb (G134 19) := hp137.2.1
      have b139 : ((-1) : Int) ≤ (G134 4 4).toInt ∧ (G134 4 4).toInt ≤ 12 := hI135 4 4
      have b140 : (0 : Int) ≤ (G134 4 5).toInt ∧ (G134 4 5).toInt ≤ 6 := hI135 4 5
      have q141 : tY (((G134 4 4).toInt = -1 ∨ (G134 4 5).toInt ≤ 1 ∨ ((G134 4 5).toInt ≤ 2 ∧ ((G134 4 4).toInt = 3 ∨ (G134 4 4).toInt = 4)) ∨ ((G134 4 5).toInt ≤ 4 ∧ (G134 4 4).toInt = 8) ∨ (G134 4 4).toInt = 9)) := hp137.2.2.1
      have q142 : tY (((G134 4 4).toInt = -1 ∨ (G134 4 4).toInt = (G 4 4).toInt)) := hp137.2.2.2.1
      have b143 : (0 : Int) ≤ (G134 4 2).toInt ∧ (G134 4 2).toInt ≤ 1001 := hI135 4 2
      have q144 : ((G134 4 2).toInt ≤ (G 4 2).toInt + 1) := hp137.2.2.2.2.1
      have q145 : tY ((r132.toInt ≠ 0 ∨ (G 1 3).toInt ≠ 0)) := hp137.2.2.2.2.2
      have rg146 := hp137.1
      clear hp137 hw133
      exact u_iret F hA hQ hr G134 (⟨hI135, (gu_un.tr gu_un.rf (gu_un.su hU136 rfl)), (by have h9 := ti_rng r132; omega), ((xF3.un f3 (show gu_un xcd [403, 405, 406, 407, 1900] G G134 from (gu_un.tr gu_un.rf (gu_un.su hU136 rfl))) rfl rfl rfl)), (q138), (q141), (xN3.no (by have h9 := q142; unfold tY at h9; omega)), (q144), (q145)⟩) rfl rfl dX8_takeToken_52
    · refine uz_tq (v := .ref (zf 17)) F hZ.2.2.2.2.1 7 c20 (by decide) (by decide) rfl dX8_takeToken_30 ?_
      refine g_astore_n F [(1, .ref (zf 17)), (0, .ref (a 4))] dX8_takeToken_31 rfl (by decide) rfl ?_
      refine g_aload_n F 0 dX8_takeToken_32 rfl rfl ?_
      refine uz_call0Vi (k := 0) (n := 0) (b := (zf 17)) (As := []) (st := []) F xZ_st hZ (fun sz => S_X1_isSum_c7 l D zf sz) (cwV 0 hts gX8_takeToken_X1_isSum rfl rfl rfl (by decide +kernel) ⟨Nat.le_of_ble_eq_true rfl, Nat.le_of_ble_eq_true rfl⟩) (hZ.2.2.2.2.2 7 (by decide)).1 rfl (Nat.le_of_ble_eq_true rfl) ⟨Nat.zero_le _, Nat.zero_le _⟩ dX8_takeToken_33 (fun r147 _ hw148 => ?_)
      have hw148 : r147.toInt = 0 := hw148
      refine g_fold 0 ((ti_eq rfl (show (0 : Int32).toInt = 0 from rfl)).mpr hw148) ?_
      refine v_if_eq F 47 dX8_takeToken_36 (by decide) 0 rfl (fun c149 => ?_) (fun c149 => absurd c149 (by decide))
      refine g_aload_n F 1 dX8_takeToken_47 rfl rfl ?_
      refine g_aload_n F 0 dX8_takeToken_48 rfl rfl ?_
      refine uz_callVi (k := 0) (n := 0) (b := a 4) (As := [.ref (zf 17)]) (st := []) F xZ_st hZ (fun sz => S_X8_takeOfNumbers_c7 l D K a G zf  (nb) (ck) (by have h9 := ri; unfold tY at h9; omega) hI sz) (cwV 1 hts gX8_takeToken_X8_takeOfNumbers rfl rfl rfl (by decide +kernel) ⟨Nat.le_of_ble_eq_true rfl, Nat.le_of_ble_eq_true rfl⟩) rfl 4 xc_4 rfl (Nat.le_of_ble_eq_true rfl) ⟨Nat.zero_le _, Nat.zero_le _⟩ dX8_takeToken_49 (fun r150 G152 hw151 => ?_)
      have hI153 : xI G152 := hw151.1
      have hU154 : gu_un xcd [403, 405, 406, 407, 1900] G G152 := hw151.2.1
      have hp155 := hw151.2.2
      have q156 : xNb (G152 19) := hp155.2.1
      have b157 : ((-1) : Int) ≤ (G152 4 4).toInt ∧ (G152 4 4).toInt ≤ 12 := hI153 4 4
      have b158 : (0 : Int) ≤ (G152 4 5).toInt ∧ (G152 4 5).toInt ≤ 6 := hI153 4 5
      have q159 : tY (((G152 4 4).toInt = -1 ∨ (G152 4 5).toInt ≤ 1 ∨ ((G152 4 5).toInt ≤ 2 ∧ ((G152 4 4).toInt = 3 ∨ (G152 4 4).toInt = 4)) ∨ ((G152 4 5).toInt ≤ 4 ∧ (G152 4 4).toInt = 8) ∨ (G152 4 4).toInt = 9)) := hp155.2.2.1
      have q160 : tY (((G152 4 4).toInt = -1 ∨ (G152 4 4).toInt = (G 4 4).toInt)) := hp155.2.2.2.1
      have b161 : (0 : Int) ≤ (G152 4 2).toInt ∧ (G152 4 2).toInt ≤ 1001 := hI153 4 2
      have q162 : ((G152 4 2).toInt ≤ (G 4 2).toInt + 1) := hp155.2.2.2.2.1
      have q163 : tY ((r150.toInt ≠ 0 ∨ (G 1 3).toInt ≠ 0)) := hp155.2.2.2.2.2
      have rg164 := hp155.1
      clear hp155 hw151
      exact u_iret F hA hQ hr G152 (⟨hI153, (gu_un.tr gu_un.rf (gu_un.su hU154 rfl)), (by have h9 := ti_rng r150; omega), ((xF3.un f3 (show gu_un xcd [403, 405, 406, 407, 1900] G G152 from (gu_un.tr gu_un.rf (gu_un.su hU154 rfl))) rfl rfl rfl)), (q156), (q159), (xN3.no (by have h9 := q160; unfold tY at h9; omega)), (q162), (q163)⟩) rfl rfl dX8_takeToken_52
    · refine uz_tq (v := .ref (zf 18)) F hZ.2.2.2.2.1 8 c20 (by decide) (by decide) rfl dX8_takeToken_30 ?_
      refine g_astore_n F [(1, .ref (zf 18)), (0, .ref (a 4))] dX8_takeToken_31 rfl (by decide) rfl ?_
      refine g_aload_n F 0 dX8_takeToken_32 rfl rfl ?_
      refine uz_call0Vi (k := 0) (n := 0) (b := (zf 18)) (As := []) (st := []) F xZ_st hZ (fun sz => S_X1_isSum_c8 l D zf sz) (cwV 0 hts gX8_takeToken_X1_isSum rfl rfl rfl (by decide +kernel) ⟨Nat.le_of_ble_eq_true rfl, Nat.le_of_ble_eq_true rfl⟩) (hZ.2.2.2.2.2 8 (by decide)).1 rfl (Nat.le_of_ble_eq_true rfl) ⟨Nat.zero_le _, Nat.zero_le _⟩ dX8_takeToken_33 (fun r165 _ hw166 => ?_)
      have hw166 : r165.toInt = 0 := hw166
      refine g_fold 0 ((ti_eq rfl (show (0 : Int32).toInt = 0 from rfl)).mpr hw166) ?_
      refine v_if_eq F 47 dX8_takeToken_36 (by decide) 0 rfl (fun c167 => ?_) (fun c167 => absurd c167 (by decide))
      refine g_aload_n F 1 dX8_takeToken_47 rfl rfl ?_
      refine g_aload_n F 0 dX8_takeToken_48 rfl rfl ?_
      refine uz_callVi (k := 0) (n := 0) (b := a 4) (As := [.ref (zf 18)]) (st := []) F xZ_st hZ (fun sz => S_X8_takeOfNumbers_c8 l D K a G zf  (nb) (ck) (by have h9 := ri; unfold tY at h9; omega) hI sz) (cwV 1 hts gX8_takeToken_X8_takeOfNumbers rfl rfl rfl (by decide +kernel) ⟨Nat.le_of_ble_eq_true rfl, Nat.le_of_ble_eq_true rfl⟩) rfl 4 xc_4 rfl (Nat.le_of_ble_eq_true rfl) ⟨Nat.zero_le _, Nat.zero_le _⟩ dX8_takeToken_49 (fun r168 G170 hw169 => ?_)
      have hI171 : xI G170 := hw169.1
      have hU172 : gu_un xcd [403, 405, 406, 407, 1900] G G170 := hw169.2.1
      have hp173 := hw169.2.2
      have q174 : xNb (G170 19) := hp173.2.1
      have b175 : ((-1) : Int) ≤ (G170 4 4).toInt ∧ (G170 4 4).toInt ≤ 12 := hI171 4 4
      have b176 : (0 : Int) ≤ (G170 4 5).toInt ∧ (G170 4 5).toInt ≤ 6 := hI171 4 5
      have q177 : tY (((G170 4 4).toInt = -1 ∨ (G170 4 5).toInt ≤ 1 ∨ ((G170 4 5).toInt ≤ 2 ∧ ((G170 4 4).toInt = 3 ∨ (G170 4 4).toInt = 4)) ∨ ((G170 4 5).toInt ≤ 4 ∧ (G170 4 4).toInt = 8) ∨ (G170 4 4).toInt = 9)) := hp173.2.2.1
      have q178 : tY (((G170 4 4).toInt = -1 ∨ (G170 4 4).toInt = (G 4 4).toInt)) := hp173.2.2.2.1
      have b179 : (0 : Int) ≤ (G170 4 2).toInt ∧ (G170 4 2).toInt ≤ 1001 := hI171 4 2
      have q180 : ((G170 4 2).toInt ≤ (G 4 2).toInt + 1) := hp173.2.2.2.2.1
      have q181 : tY ((r168.toInt ≠ 0 ∨ (G 1 3).toInt ≠ 0)) := hp173.2.2.2.2.2
      have rg182 := hp173.1
      clear hp173 hw169
      exact u_iret F hA hQ hr G170 (⟨hI171, (gu_un.tr gu_un.rf (gu_un.su hU172 rfl)), (by have h9 := ti_rng r168; omega), ((xF3.un f3 (show gu_un xcd [403, 405, 406, 407, 1900] G G170 from (gu_un.tr gu_un.rf (gu_un.su hU172 rfl))) rfl rfl rfl)), (q174), (q177), (xN3.no (by have h9 := q178; unfold tY at h9; omega)), (q180), (q181)⟩) rfl rfl dX8_takeToken_52
    · refine uz_tq (v := .ref (zf 19)) F hZ.2.2.2.2.1 9 c20 (by decide) (by decide) rfl dX8_takeToken_30 ?_
      refine g_astore_n F [(1, .ref (zf 19)), (0, .ref (a 4))] dX8_takeToken_31 rfl (by decide) rfl ?_
      refine g_aload_n F 0 dX8_takeToken_32 rfl rfl ?_
      refine uz_call0Vi (k := 0) (n := 0) (b := (zf 19)) (As := []) (st := []) F xZ_st hZ (fun sz => S_X1_isSum_c9 l D zf sz) (cwV 0 hts gX8_takeToken_X1_isSum rfl rfl rfl (by decide +kernel) ⟨Nat.le_of_ble_eq_true rfl, Nat.le_of_ble_eq_true rfl⟩) (hZ.2.2.2.2.2 9 (by decide)).1 rfl (Nat.le_of_ble_eq_true rfl) ⟨Nat.zero_le _, Nat.zero_le _⟩ dX8_takeToken_33 (fun r183 _ hw184 => ?_)
      have hw184 : r183.toInt = 0 := hw184
      refine g_fold 0 ((ti_eq rfl (show (0 : Int32).toInt = 0 from rfl)).mpr hw184) ?_
      refine v_if_eq F 47 dX8_takeToken_36 (by decide) 0 rfl (fun c185 => ?_) (fun c185 => absurd c185 (by decide))
      refine g_aload_n F 1 dX8_takeToken_47 rfl rfl ?_
      refine g_aload_n F 0 dX8_takeToken_48 rfl rfl ?_
      refine uz_callVi (k := 0) (n := 0) (b := a 4) (As := [.ref (zf 19)]) (st := []) F xZ_st hZ (fun sz => S_X8_takeOfNumbers_c9 l D K a G zf  (nb) (ck) (by have h9 := ri; unfold tY at h9; omega) hI sz) (cwV 1 hts gX8_takeToken_X8_takeOfNumbers rfl rfl rfl (by decide +kernel) ⟨Nat.le_of_ble_eq_true rfl, Nat.le_of_ble_eq_true rfl⟩) rfl 4 xc_4 rfl (Nat.le_of_ble_eq_true rfl) ⟨Nat.zero_le _, Nat.zero_le _⟩ dX8_takeToken_49 (fun r186 G188 hw187 => ?_)
      have hI189 : xI G188 := hw187.1
      have hU190 : gu_un xcd [403, 405, 406, 407, 1900] G G188 := hw187.2.1
      have hp191 := hw187.2.2
      have q192 : xNb (G188 19) := hp191.2.1
      have b193 : ((-1) : Int) ≤ (G188 4 4).toInt ∧ (G188 4 4).toInt ≤ 12 := hI189 4 4
      have b194 : (0 : Int) ≤ (G188 4 5).toInt ∧ (G188 4 5).toInt ≤ 6 := hI189 4 5
      have q195 : tY (((G188 4 4).toInt = -1 ∨ (G188 4 5).toInt ≤ 1 ∨ ((G188 4 5).toInt ≤ 2 ∧ ((G188 4 4).toInt = 3 ∨ (G188 4 4).toInt = 4)) ∨ ((G188 4 5).toInt ≤ 4 ∧ (G188 4 4).toInt = 8) ∨ (G188 4 4).toInt = 9)) := hp191.2.2.1
      have q196 : tY (((G188 4 4).toInt = -1 ∨ (G188 4 4).toInt = (G 4 4).toInt)) := hp191.2.2.2.1
      have b197 : (0 : Int) ≤ (G188 4 2).toInt ∧ (G188 4 2).toInt ≤ 1001 := hI189 4 2
      have q198 : ((G188 4 2).toInt ≤ (G 4 2).toInt + 1) := hp191.2.2.2.2.1
      have q199 : tY ((r186.toInt ≠ 0 ∨ (G 1 3).toInt ≠ 0)) := hp191.2.2.2.2.2
      have rg200 := hp191.1
      clear hp191 hw187
      exact u_iret F hA hQ hr G188 (⟨hI189, (gu_un.tr gu_un.rf (gu_un.su hU190 rfl)), (by have h9 := ti_rng r186; omega), ((xF3.un f3 (show gu_un xcd [403, 405, 406, 407, 1900] G G188 from (gu_un.tr gu_un.rf (gu_un.su hU190 rfl))) rfl rfl rfl)), (q192), (q195), (xN3.no (by have h9 := q196; unfold tY at h9; omega)), (q198), (q199)⟩) rfl rfl dX8_takeToken_52
    · refine uz_tq (v := .ref (zf 20)) F hZ.2.2.2.2.1 10 c20 (by decide) (by decide) rfl dX8_takeToken_30 ?_
      refine g_astore_n F [(1, .ref (zf 20)), (0, .ref (a 4))] dX8_takeToken_31 rfl (by decide) rfl ?_
      refine g_aload_n F 0 dX8_takeToken_32 rfl rfl ?_
      refine uz_call0Vi (k := 0) (n := 0) (b := (zf 20)) (As := []) (st := []) F xZ_st hZ (fun sz => S_X1_isSum_c10 l D zf sz) (cwV 0 hts gX8_takeToken_X1_isSum rfl rfl rfl (by decide +kernel) ⟨Nat.le_of_ble_eq_true rfl, Nat.le_of_ble_eq_true rfl⟩) (hZ.2.2.2.2.2 10 (by decide)).1 rfl (Nat.le_of_ble_eq_true rfl) ⟨Nat.zero_le _, Nat.zero_le _⟩ dX8_takeToken_33 (fun r201 _ hw202 => ?_)
      have hw202 : r201.toInt = 1 := hw202
      refine g_fold 1 ((ti_eq rfl (show (1 : Int32).toInt = 1 from rfl)).mpr hw202) ?_
      refine v_if_eq F 47 dX8_takeToken_36 (by decide) 1 rfl (fun c203 => absurd c203 (by decide)) (fun c203 => ?_)
      refine g_aload_n F 1 dX8_takeToken_39 rfl rfl ?_
      refine g_aload_n F 0 dX8_takeToken_40 rfl rfl ?_
      refine uz_callVi (k := 0) (n := 0) (b := a 4) (As := [.ref (zf 20)]) (st := []) F xZ_st hZ (fun sz => S_X8_takeOfSum_c10 l D K a G zf  (f3) (by (first | omega | (simp only [Int32.reduceToInt, true_and, and_true, ne_eq, not_true_eq_false, false_and, or_false, false_or, true_or, or_true, false_implies] <;> omega))) (n3) (vl) (ck) hI sz) (cwV 1 hts gX8_takeToken_X8_takeOfSum rfl rfl rfl (by decide +kernel) ⟨Nat.le_of_ble_eq_true rfl, Nat.le_of_ble_eq_true rfl⟩) rfl 4 xc_4 rfl (Nat.le_of_ble_eq_true rfl) ⟨Nat.zero_le _, Nat.zero_le _⟩ dX8_takeToken_41 (fun r204 G206 hw205 => ?_)
      have hI207 : xI G206 := hw205.1
      have hU208 : gu_un xcd [403, 405, 1402, 1405, 1406, 1407, 1408, 1409, 2900, 3100] G G206 := hw205.2.1
      have hp209 := hw205.2.2
      have q210 : xF3 G206 := hp209.2.1
      have b211 : ((-1) : Int) ≤ (G206 4 4).toInt ∧ (G206 4 4).toInt ≤ 12 := hI207 4 4
      have q212 : tY ((((G206 4 4).toInt = -1 ∨ (G206 4 4).toInt = (G 4 4).toInt) ∧ (G 4 5).toInt = (G 4 5).toInt)) := by have h9 := hp209.2.2.1; (try simp only [(show G206 4 5 = (G 4 5) from hU208 4 5 (by decide))] at h9); first | exact h9 | (unfold tY; omega)
      have q213 : xN3 G206 := hp209.2.2.2.1
      have b214 : (0 : Int) ≤ (G206 4 2).toInt ∧ (G206 4 2).toInt ≤ 1001 := hI207 4 2
      have q215 : ((G206 4 2).toInt ≤ (G 4 2).toInt + 1) := hp209.2.2.2.2.1
      have q216 : tY ((r204.toInt ≠ 0 ∨ (G 1 3).toInt ≠ 0)) := hp209.2.2.2.2.2
      have rg217 := hp209.1
      clear hp209 hw205
      refine g_goto F 52 dX8_takeToken_44 (by decide) ?_
      exact u_iret F hA hQ hr G206 (⟨hI207, (gu_un.tr gu_un.rf (gu_un.su hU208 rfl)), (by have h9 := ti_rng r204; omega), (q210), ((xNb.un nb (show gu_un xcd [403, 405, 1402, 1405, 1406, 1407, 1408, 1409, 2900, 3100] G G206 from (gu_un.tr gu_un.rf (gu_un.su hU208 rfl))) rfl)), (by obtain ⟨h8, h7⟩ := (show _ ∧ _ from q212); rw [show G206 4 5 = (G 4 5) from hU208 4 5 (by decide)]; rcases h8 with h8 | h8 <;> first | exact Or.inl h8 | (rw [h8]; exact ri)), (q213), (q215), (q216)⟩) rfl rfl dX8_takeToken_52
    · refine uz_tq (v := .ref (zf 21)) F hZ.2.2.2.2.1 11 c20 (by decide) (by decide) rfl dX8_takeToken_30 ?_
      refine g_astore_n F [(1, .ref (zf 21)), (0, .ref (a 4))] dX8_takeToken_31 rfl (by decide) rfl ?_
      refine g_aload_n F 0 dX8_takeToken_32 rfl rfl ?_
      refine uz_call0Vi (k := 0) (n := 0) (b := (zf 21)) (As := []) (st := []) F xZ_st hZ (fun sz => S_X1_isSum_c11 l D zf sz) (cwV 0 hts gX8_takeToken_X1_isSum rfl rfl rfl (by decide +kernel) ⟨Nat.le_of_ble_eq_true rfl, Nat.le_of_ble_eq_true rfl⟩) (hZ.2.2.2.2.2 11 (by decide)).1 rfl (Nat.le_of_ble_eq_true rfl) ⟨Nat.zero_le _, Nat.zero_le _⟩ dX8_takeToken_33 (fun r218 _ hw219 => ?_)
      have hw219 : r218.toInt = 1 := hw219
      refine g_fold 1 ((ti_eq rfl (show (1 : Int32).toInt = 1 from rfl)).mpr hw219) ?_
      refine v_if_eq F 47 dX8_takeToken_36 (by decide) 1 rfl (fun c220 => absurd c220 (by decide)) (fun c220 => ?_)
      refine g_aload_n F 1 dX8_takeToken_39 rfl rfl ?_
      refine g_aload_n F 0 dX8_takeToken_40 rfl rfl ?_
      refine uz_callVi (k := 0) (n := 0) (b := a 4) (As := [.ref (zf 21)]) (st := []) F xZ_st hZ (fun sz => S_X8_takeOfSum_c11 l D K a G zf  (f3) (by (first | omega | (simp only [Int32.reduceToInt, true_and, and_true, ne_eq, not_true_eq_false, false_and, or_false, false_or, true_or, or_true, false_implies] <;> omega))) (n3) (vl) (ck) hI sz) (cwV 1 hts gX8_takeToken_X8_takeOfSum rfl rfl rfl (by decide +kernel) ⟨Nat.le_of_ble_eq_true rfl, Nat.le_of_ble_eq_true rfl⟩) rfl 4 xc_4 rfl (Nat.le_of_ble_eq_true rfl) ⟨Nat.zero_le _, Nat.zero_le _⟩ dX8_takeToken_41 (fun r221 G223 hw222 => ?_)
      have hI224 : xI G223 := hw222.1
      have hU225 : gu_un xcd [403, 405, 1502, 1505, 1506, 1507, 1508, 1509, 3200, 3400] G G223 := hw222.2.1
      have hp226 := hw222.2.2
      have q227 : xF3 G223 := hp226.2.1
      have b228 : ((-1) : Int) ≤ (G223 4 4).toInt ∧ (G223 4 4).toInt ≤ 12 := hI224 4 4
      have q229 : tY ((((G223 4 4).toInt = -1 ∨ (G223 4 4).toInt = (G 4 4).toInt) ∧ (G 4 5).toInt = (G 4 5).toInt)) := by have h9 := hp226.2.2.1; (try simp only [(show G223 4 5 = (G 4 5) from hU225 4 5 (by decide))] at h9); first | exact h9 | (unfold tY; omega)
      have q230 : xN3 G223 := hp226.2.2.2.1
      have b231 : (0 : Int) ≤ (G223 4 2).toInt ∧ (G223 4 2).toInt ≤ 1001 := hI224 4 2
      have q232 : ((G223 4 2).toInt ≤ (G 4 2).toInt + 1) := hp226.2.2.2.2.1
      have q233 : tY ((r221.toInt ≠ 0 ∨ (G 1 3).toInt ≠ 0)) := hp226.2.2.2.2.2
      have rg234 := hp226.1
      clear hp226 hw222
      refine g_goto F 52 dX8_takeToken_44 (by decide) ?_
      exact u_iret F hA hQ hr G223 (⟨hI224, (gu_un.tr gu_un.rf (gu_un.su hU225 rfl)), (by have h9 := ti_rng r221; omega), (q227), ((xNb.un nb (show gu_un xcd [403, 405, 1502, 1505, 1506, 1507, 1508, 1509, 3200, 3400] G G223 from (gu_un.tr gu_un.rf (gu_un.su hU225 rfl))) rfl)), (by obtain ⟨h8, h7⟩ := (show _ ∧ _ from q229); rw [show G223 4 5 = (G 4 5) from hU225 4 5 (by decide)]; rcases h8 with h8 | h8 <;> first | exact Or.inl h8 | (rw [h8]; exact ri)), (q230), (q232), (q233)⟩) rfl rfl dX8_takeToken_52
    · refine uz_tq (v := .ref (zf 22)) F hZ.2.2.2.2.1 12 c20 (by decide) (by decide) rfl dX8_takeToken_30 ?_
      refine g_astore_n F [(1, .ref (zf 22)), (0, .ref (a 4))] dX8_takeToken_31 rfl (by decide) rfl ?_
      refine g_aload_n F 0 dX8_takeToken_32 rfl rfl ?_
      refine uz_call0Vi (k := 0) (n := 0) (b := (zf 22)) (As := []) (st := []) F xZ_st hZ (fun sz => S_X1_isSum_c12 l D zf sz) (cwV 0 hts gX8_takeToken_X1_isSum rfl rfl rfl (by decide +kernel) ⟨Nat.le_of_ble_eq_true rfl, Nat.le_of_ble_eq_true rfl⟩) (hZ.2.2.2.2.2 12 (by decide)).1 rfl (Nat.le_of_ble_eq_true rfl) ⟨Nat.zero_le _, Nat.zero_le _⟩ dX8_takeToken_33 (fun r235 _ hw236 => ?_)
      have hw236 : r235.toInt = 1 := hw236
      refine g_fold 1 ((ti_eq rfl (show (1 : Int32).toInt = 1 from rfl)).mpr hw236) ?_
      refine v_if_eq F 47 dX8_takeToken_36 (by decide) 1 rfl (fun c237 => absurd c237 (by decide)) (fun c237 => ?_)
      refine g_aload_n F 1 dX8_takeToken_39 rfl rfl ?_
      refine g_aload_n F 0 dX8_takeToken_40 rfl rfl ?_
      refine uz_callVi (k := 0) (n := 0) (b := a 4) (As := [.ref (zf 22)]) (st := []) F xZ_st hZ (fun sz => S_X8_takeOfSum_c12 l D K a G zf  (f3) (by (first | omega | (simp only [Int32.reduceToInt, true_and, and_true, ne_eq, not_true_eq_false, false_and, or_false, false_or, true_or, or_true, false_implies] <;> omega))) (n3) (vl) (ck) hI sz) (cwV 1 hts gX8_takeToken_X8_takeOfSum rfl rfl rfl (by decide +kernel) ⟨Nat.le_of_ble_eq_true rfl, Nat.le_of_ble_eq_true rfl⟩) rfl 4 xc_4 rfl (Nat.le_of_ble_eq_true rfl) ⟨Nat.zero_le _, Nat.zero_le _⟩ dX8_takeToken_41 (fun r238 G240 hw239 => ?_)
      have hI241 : xI G240 := hw239.1
      have hU242 : gu_un xcd [403, 405, 1602, 1605, 1606, 1607, 1608, 1609, 3500, 3700] G G240 := hw239.2.1
      have hp243 := hw239.2.2
      have q244 : xF3 G240 := hp243.2.1
      have b245 : ((-1) : Int) ≤ (G240 4 4).toInt ∧ (G240 4 4).toInt ≤ 12 := hI241 4 4
      have q246 : tY ((((G240 4 4).toInt = -1 ∨ (G240 4 4).toInt = (G 4 4).toInt) ∧ (G 4 5).toInt = (G 4 5).toInt)) := by have h9 := hp243.2.2.1; (try simp only [(show G240 4 5 = (G 4 5) from hU242 4 5 (by decide))] at h9); first | exact h9 | (unfold tY; omega)
      have q247 : xN3 G240 := hp243.2.2.2.1
      have b248 : (0 : Int) ≤ (G240 4 2).toInt ∧ (G240 4 2).toInt ≤ 1001 := hI241 4 2
      have q249 : ((G240 4 2).toInt ≤ (G 4 2).toInt + 1) := hp243.2.2.2.2.1
      have q250 : tY ((r238.toInt ≠ 0 ∨ (G 1 3).toInt ≠ 0)) := hp243.2.2.2.2.2
      have rg251 := hp243.1
      clear hp243 hw239
      refine g_goto F 52 dX8_takeToken_44 (by decide) ?_
      exact u_iret F hA hQ hr G240 (⟨hI241, (gu_un.tr gu_un.rf (gu_un.su hU242 rfl)), (by have h9 := ti_rng r238; omega), (q244), ((xNb.un nb (show gu_un xcd [403, 405, 1602, 1605, 1606, 1607, 1608, 1609, 3500, 3700] G G240 from (gu_un.tr gu_un.rf (gu_un.su hU242 rfl))) rfl)), (by obtain ⟨h8, h7⟩ := (show _ ∧ _ from q246); rw [show G240 4 5 = (G 4 5) from hU242 4 5 (by decide)]; rcases h8 with h8 | h8 <;> first | exact Or.inl h8 | (rw [h8]; exact ri)), (q247), (q249), (q250)⟩) rfl rfl dX8_takeToken_52

theorem dX8_read_0 : decode cX8_read 0 = .ok (.aload_n 0, 1) := by decide +kernel
theorem dX8_read_1 : decode cX8_read 1 = .ok (.getfield 15, 3) := by decide +kernel
theorem dX8_read_4 : decode cX8_read 4 = .ok (.invokevirtual 19, 3) := by decide +kernel
theorem dX8_read_7 : decode cX8_read 7 = .ok (.aload_n 0, 1) := by decide +kernel
theorem dX8_read_8 : decode cX8_read 8 = .ok (.iconst 0, 1) := by decide +kernel
theorem dX8_read_9 : decode cX8_read 9 = .ok (.putfield 24, 3) := by decide +kernel
theorem dX8_read_12 : decode cX8_read 12 = .ok (.aload_n 0, 1) := by decide +kernel
theorem dX8_read_13 : decode cX8_read 13 = .ok (.iconst 0, 1) := by decide +kernel
theorem dX8_read_14 : decode cX8_read 14 = .ok (.putfield 28, 3) := by decide +kernel
theorem dX8_read_17 : decode cX8_read 17 = .ok (.aload_n 0, 1) := by decide +kernel
theorem dX8_read_18 : decode cX8_read 18 = .ok (.iconst (-1), 1) := by decide +kernel
theorem dX8_read_19 : decode cX8_read 19 = .ok (.putfield 31, 3) := by decide +kernel
theorem dX8_read_22 : decode cX8_read 22 = .ok (.aload_n 0, 1) := by decide +kernel
theorem dX8_read_23 : decode cX8_read 23 = .ok (.getfield 9, 3) := by decide +kernel
theorem dX8_read_26 : decode cX8_read 26 = .ok (.invokevirtual 34, 3) := by decide +kernel
theorem dX8_read_29 : decode cX8_read 29 = .ok (.iconst 0, 1) := by decide +kernel
theorem dX8_read_30 : decode cX8_read 30 = .ok (.istore_n 1, 1) := by decide +kernel
theorem dX8_read_31 : decode cX8_read 31 = .ok (.iload_n 1, 1) := by decide +kernel
theorem dX8_read_32 : decode cX8_read 32 = .ok (.sipush 1000, 3) := by decide +kernel
theorem dX8_read_35 : decode cX8_read 35 = .ok (.if_icmp .gt 47, 3) := by decide +kernel
theorem dX8_read_38 : decode cX8_read 38 = .ok (.aload_n 0, 1) := by decide +kernel
theorem dX8_read_39 : decode cX8_read 39 = .ok (.getfield 9, 3) := by decide +kernel
theorem dX8_read_42 : decode cX8_read 42 = .ok (.invokevirtual 39, 3) := by decide +kernel
theorem dX8_read_45 : decode cX8_read 45 = .ok (.aload_n 0, 1) := by decide +kernel
theorem dX8_read_46 : decode cX8_read 46 = .ok (.getfield 31, 3) := by decide +kernel
theorem dX8_read_49 : decode cX8_read 49 = .ok (.iconst (-1), 1) := by decide +kernel
theorem dX8_read_50 : decode cX8_read 50 = .ok (.if_icmp .ne 15, 3) := by decide +kernel
theorem dX8_read_53 : decode cX8_read 53 = .ok (.aload_n 0, 1) := by decide +kernel
theorem dX8_read_54 : decode cX8_read 54 = .ok (.getfield 9, 3) := by decide +kernel
theorem dX8_read_57 : decode cX8_read 57 = .ok (.getfield 42, 3) := by decide +kernel
theorem dX8_read_60 : decode cX8_read 60 = .ok (.ifCond .ne 5, 3) := by decide +kernel
theorem dX8_read_63 : decode cX8_read 63 = .ok (.iconst 0, 1) := by decide +kernel
theorem dX8_read_64 : decode cX8_read 64 = .ok (.ireturn, 1) := by decide +kernel
theorem dX8_read_65 : decode cX8_read 65 = .ok (.aload_n 0, 1) := by decide +kernel
theorem dX8_read_66 : decode cX8_read 66 = .ok (.invokevirtual 45, 3) := by decide +kernel
theorem dX8_read_69 : decode cX8_read 69 = .ok (.istore_n 2, 1) := by decide +kernel
theorem dX8_read_70 : decode cX8_read 70 = .ok (.iload_n 2, 1) := by decide +kernel
theorem dX8_read_71 : decode cX8_read 71 = .ok (.ifCond .eq 5, 3) := by decide +kernel
theorem dX8_read_74 : decode cX8_read 74 = .ok (.iload_n 2, 1) := by decide +kernel
theorem dX8_read_75 : decode cX8_read 75 = .ok (.ireturn, 1) := by decide +kernel
theorem dX8_read_76 : decode cX8_read 76 = .ok (.iinc 1 1, 3) := by decide +kernel
theorem dX8_read_79 : decode cX8_read 79 = .ok (.goto (-48), 3) := by decide +kernel
theorem dX8_read_82 : decode cX8_read 82 = .ok (.iconst 1, 1) := by decide +kernel
theorem dX8_read_83 : decode cX8_read 83 = .ok (.ireturn, 1) := by decide +kernel
set_option maxRecDepth 20000 in
theorem ggX8_read_X10_readToken : GoodIn wsX8_read wsX10_readToken := goodIn_r _ [49, 45, 50, 51, 52, 53, 54, 55, 56, 43, 57, 58, 59, 60, 61, 62, 63, 64, 65, 66, 67, 68, 69, 70, 71, 72, 73, 74, 75, 76, 77, 78, 79, 80, 81, 82, 83, 84, 85, 86, 87, 88, 89, 90, 91, 92, 93, 94, 95, 96, 97, 98, 99, 100, 101, 102, 103, 104, 105, 106, 107, 108, 109, 110, 111, 112, 113, 114, 115, 116, 117, 118, 119, 120, 121, 122, 123, 124, 125, 126, 127, 128, 129, 130, 131, 132, 133, 134, 135, 136, 137, 138, 139, 140, 141, 142, 143, 144, 145, 146, 147, 148, 149, 150, 151, 152, 153, 154, 155, 156, 157, 158, 159, 160, 161, 162, 163, 164, 315, 316, 317, 318, 319, 320] rfl (by decide +kernel)
set_option maxRecDepth 20000 in
theorem gX8_read_X10_readToken : GoodIn wsX8_read (wsV RX8 39 RX10 yX10_readToken wsX10_readToken) := goodIn_app (goodIn_of _ (by decide +kernel)) ggX8_read_X10_readToken
set_option maxRecDepth 20000 in
theorem ggX8_read_X10_rewind : GoodIn wsX8_read wsX10_rewind := goodIn_r _ [44, 45, 315, 316, 317, 318, 319, 320] rfl (by decide +kernel)
set_option maxRecDepth 20000 in
theorem gX8_read_X10_rewind : GoodIn wsX8_read (wsV RX8 34 RX10 yX10_rewind wsX10_rewind) := goodIn_app (goodIn_of _ (by decide +kernel)) ggX8_read_X10_rewind
set_option maxRecDepth 20000 in
theorem ggX8_read_X7_beUntold : GoodIn wsX8_read wsX7_beUntold := goodIn_r _ [11, 12, 13, 14, 15, 16, 17, 18, 19, 20, 21, 22, 23, 24, 25, 26, 27, 28, 29, 30, 31, 32, 33, 34, 35, 36, 37, 38, 39, 321, 322, 323, 324, 325, 326, 327, 328, 329, 330, 331, 332, 333] rfl (by decide +kernel)
set_option maxRecDepth 20000 in
theorem gX8_read_X7_beUntold : GoodIn wsX8_read (wsV RX8 19 RX7 yX7_beUntold wsX7_beUntold) := goodIn_app (goodIn_of _ (by decide +kernel)) ggX8_read_X7_beUntold
set_option maxRecDepth 20000 in
theorem ggX8_read_X8_takeToken : GoodIn wsX8_read wsX8_takeToken := goodIn_r _ [169, 4, 170, 171, 172, 173, 168, 174, 5, 175, 3, 176, 1, 177, 178, 179, 180, 43, 181, 53, 45, 51, 182, 93, 94, 79, 95, 85, 96, 97, 98, 99, 90, 91, 54, 55, 56, 57, 50, 58, 183, 184, 185, 186, 86, 87, 88, 89, 187, 188, 102, 189, 190, 191, 192, 136, 193, 194, 139, 195, 196, 197, 119, 198, 199, 200, 201, 130, 131, 132, 202, 144, 145, 146, 147, 148, 149, 203, 204, 205, 206, 207, 208, 209, 210, 211, 212, 213, 214, 215, 10, 216, 18, 19, 20, 217, 218, 219, 28, 220, 30, 221, 222, 223, 224, 225, 226, 227, 228, 229, 230, 231, 232, 233, 234, 52, 235, 236, 237, 238, 239, 240, 241, 242, 243, 244, 245, 246, 247, 248, 249, 250, 251, 252, 253, 31, 32, 33, 34, 35, 254, 255, 256, 257, 2, 258, 259, 260, 261, 262, 263, 264, 265, 266, 267, 268, 269, 270, 271, 272, 273, 274, 275, 276, 277, 278, 279, 280, 281, 282, 283, 284, 285, 77, 78, 80, 81, 82, 83, 84, 92, 100, 101, 103, 104, 105, 106, 107, 108, 109, 110, 111, 112, 113, 114, 115, 116, 117, 118, 120, 121, 122, 123, 124, 125, 126, 127, 128, 129, 133, 134, 135, 137, 138, 140, 141, 142, 143, 150, 151, 152, 153, 154, 155, 156, 157, 158, 159, 160, 161, 162, 163, 164, 286, 287, 288, 289, 290, 6, 291, 292, 293, 294, 295, 296, 297, 298, 299, 300, 301, 12, 302, 303, 304, 305, 306, 307, 308, 309, 310, 311, 312, 313, 314, 315, 316, 317, 318, 319, 320, 321, 322, 323, 324, 325, 326, 327, 328, 329, 330, 331, 332, 333] rfl (by decide +kernel)
set_option maxRecDepth 20000 in
theorem gX8_read_X8_takeToken : GoodIn wsX8_read (wsV RX8 45 RX8 yX8_takeToken wsX8_takeToken) := goodIn_app (goodIn_of _ (by decide +kernel)) ggX8_read_X8_takeToken
set_option maxHeartbeats 4000000 in
set_option maxRecDepth 100000 in
theorem S_X8_read (l : Launch) (D : va_G) (K : Nat → ClassId) (a : Nat → Nat) (G : gS) (zf : Nat → Nat) (f3 : xF3 G) (hI : xI G) (sz : Nat) : KiZ (xZ zf) l yX8_read wsX8_read 8 197 D [.ref (a 4)] (xW K a G) (tK K) sz (fun (r : Int32) (G' : gS) => (xI G') ∧ (gu_un xcd [103, 104, 105, 106, 403, 404, 405, 406, 407, 1402, 1405, 1406, 1407, 1408, 1409, 1502, 1505, 1506, 1507, 1508, 1509, 1602, 1605, 1606, 1607, 1608, 1609, 1900, 2900, 3100, 3200, 3400, 3500, 3700] G G') ∧ (0 ≤ r.toInt ∧ r.toInt ≤ 4) ∧ (xF3 G') ∧ (xNb (G' 19))) (fun (G' : gS) => (xW K a G')) := by
  unfold KiZ
  refine gz_ofW (cc := cX8_read) (lv := [(0, .ref (a 4))]) (by decide) rfl (Nat.le_of_ble_eq_true rfl) rfl ?_
  intro p e s m args below meth c A Q hA hQ hZ F hr hnm
  have hts := F.2.2.2.2.1
  have w_0 : (Cond.fieldLink RX8 9 "QuietCut$ShopReader" "tape" "LQuietCut$Tape;").before args s = true := hts _ (List.mem_of_getElem? (i := 5) rfl)
  have i_X8 : ∀ w ∈ u_ws RX8 TX8 7, w ∈ wsX8_read := fun _ h => List.mem_cons_of_mem _ (List.mem_append_left _ (List.mem_append_left _ (List.mem_append_left _ (List.mem_append_right _ h))))
  have w_1 : (Cond.fieldLink RX8 31 "QuietCut$ShopReader" "open" "I").before args s = true := hts _ (List.mem_of_getElem? (i := 4) rfl)
  have w_2 : (Cond.fieldLink RX8 42 "QuietCut$Tape" "kind" "I").before args s = true := hts _ (List.mem_of_getElem? (i := 6) rfl)
  have i_X10 : ∀ w ∈ u_ws RX10 TX10 6, w ∈ wsX8_read := fun _ h => List.mem_cons_of_mem _ (List.mem_append_left _ (List.mem_append_left _ (List.mem_append_right _ h)))
  have w_3 : (Cond.fieldLink RX8 15 "QuietCut$ShopReader" "target" "LQuietCut$Shop;").before args s = true := hts _ (List.mem_of_getElem? (i := 1) rfl)
  have w_4 : (Cond.fieldLink RX8 24 "QuietCut$ShopReader" "clauses" "I").before args s = true := hts _ (List.mem_of_getElem? (i := 2) rfl)
  have w_5 : (Cond.fieldLink RX8 28 "QuietCut$ShopReader" "wordsTold" "I").before args s = true := hts _ (List.mem_of_getElem? (i := 3) rfl)
  have b1 : (0 : Int) ≤ (G 1 1).toInt ∧ (G 1 1).toInt ≤ 1000 := hI 1 1
  have J_31 : ∀ (fuel : Nat) (x31_1 : Int32) (Gj31 : gS), (2147483647 - x31_1.toInt).toNat < fuel → (0 ≤ x31_1.toInt ∧ x31_1.toInt ≤ 1001) → (xI Gj31) → (gu_un xcd [103, 104, 105, 106, 403, 404, 405, 406, 407, 1402, 1405, 1406, 1407, 1408, 1409, 1502, 1505, 1506, 1507, 1508, 1509, 1602, 1605, 1606, 1607, 1608, 1609, 1900, 2900, 3100, 3200, 3400, 3500, 3700] G Gj31) → (xF3 Gj31) → (xNb (Gj31 19)) → ((tY ((Gj31 4 4).toInt = -1 ∨ (Gj31 4 5).toInt ≤ 1 ∨ ((Gj31 4 5).toInt ≤ 2 ∧ ((Gj31 4 4).toInt = 3 ∨ (Gj31 4 4).toInt = 4)) ∨ ((Gj31 4 5).toInt ≤ 4 ∧ (Gj31 4 4).toInt = 8) ∨ (Gj31 4 4).toInt = 9))) → (xN3 Gj31) → (((Gj31 4 2).toInt ≤ x31_1.toInt)) → ((x31_1.toInt ≤ (Gj31 1 2).toInt ∧ (Gj31 1 2).toInt ≤ (G 1 1).toInt)) → gG p l e (gR 8 0 0 197) s m args below meth c D A 3 Q 0 0 (xW K a Gj31) (tK K) [(0, .ref (a 4)), (1, .int x31_1)] 31 [] := by
    intro fuel
    induction fuel with
    | zero => intro x31_1 Gj31 hm; exact absurd hm (Nat.not_lt_zero _)
    | succ fuel_31 ih_31 =>
      intro x31_1 Gj31 hm_31 h31_1 jI31 jU31 f3_31 nb_31 ri_31 n3_31 ck_31 nn
      refine g_iload_n F 1 dX8_read_31 rfl rfl ?_
      refine g_sipush F 1000 dX8_read_32 (by decide) ?_
      refine v_icmp_gt F 82 dX8_read_35 (by decide) x31_1.toInt 1000 rfl rfl (fun c2 => ?_) (fun c2 => ?_)
      · refine g_iconst F 1 dX8_read_82 (by decide) ?_
        exact u_iret F hA hQ hr Gj31 (⟨jI31, (gu_un.tr gu_un.rf (gu_un.su jU31 rfl)), (by decide), (f3_31), (nb_31)⟩) rfl rfl dX8_read_83
      · refine g_aload_n F 0 dX8_read_38 rfl rfl ?_
        refine xg_4_0 F i_X8 w_0 dX8_read_39 ?_
        refine uz_callVv (k := 0) (n := 0) (b := a 1) (As := []) (st := []) F xZ_st hZ (fun sz => S_X10_readToken l D K a Gj31 zf  jI31 sz) (cwV 0 hts gX8_read_X10_readToken rfl rfl rfl (by decide +kernel) ⟨Nat.le_of_ble_eq_true rfl, Nat.le_of_ble_eq_true rfl⟩) rfl 1 xc_1 rfl (Nat.le_of_ble_eq_true rfl) ⟨Nat.zero_le _, Nat.zero_le _⟩ dX8_read_42 (fun G5 hw4 => ?_)
        have hI6 : xI G5 := hw4.1
        have hU7 : gu_un xcd [103, 104, 105, 106] Gj31 G5 := hw4.2.1
        have hp8 := hw4.2.2
        have b9 : (0 : Int) ≤ (Gj31 1 2).toInt ∧ (Gj31 1 2).toInt ≤ 1000 := jI31 1 2
        have b10 : (0 : Int) ≤ (G5 1 3).toInt ∧ (G5 1 3).toInt ≤ 4 := hI6 1 3
        have b11 : (0 : Int) ≤ (G5 1 4).toInt ∧ (G5 1 4).toInt ≤ 1000 := hI6 1 4
        have b12 : (0 : Int) ≤ (G5 1 2).toInt ∧ (G5 1 2).toInt ≤ 1000 := hI6 1 2
        have q13 : tTok (G 17) (G 1 1).toInt (Gj31 1 2).toInt (G5 1 3).toInt (G5 1 4).toInt (G5 1 5).toInt (G5 1 2).toInt := by have h9 := hp8.1; (try simp only [(show Gj31 1 1 = (G 1 1) from jU31 1 1 (by decide)), (show Gj31 17 = (G 17) from (show Gj31 17 = G 17 from funext fun k_ => jU31 17 k_ (show (1700 : Nat) ∉ ([103, 104, 105, 106, 403, 404, 405, 406, 407, 1402, 1405, 1406, 1407, 1408, 1409, 1502, 1505, 1506, 1507, 1508, 1509, 1602, 1605, 1606, 1607, 1608, 1609, 1900, 2900, 3100, 3200, 3400, 3500, 3700] : List Nat) by decide)))] at h9); first | exact h9 | omega
        have q14 : tY (((G5 1 3).toInt = 1 → (((G5 1 2).toInt - (G5 1 4).toInt = 1 ∧ (G5 1 5).toInt = yBi (G 17) (G 1 1).toInt (G5 1 4).toInt) ∨ ((G5 1 2).toInt - (G5 1 4).toInt ≠ 1 ∧ (G5 1 5).toInt = 0)))) := by have h9 := hp8.2; (try simp only [(show Gj31 1 1 = (G 1 1) from jU31 1 1 (by decide)), (show Gj31 17 = (G 17) from (show Gj31 17 = G 17 from funext fun k_ => jU31 17 k_ (show (1700 : Nat) ∉ ([103, 104, 105, 106, 403, 404, 405, 406, 407, 1402, 1405, 1406, 1407, 1408, 1409, 1502, 1505, 1506, 1507, 1508, 1509, 1602, 1605, 1606, 1607, 1608, 1609, 1900, 2900, 3100, 3200, 3400, 3500, 3700] : List Nat) by decide)))] at h9); first | exact h9 | (unfold tY; omega)
        have tl15 : tY _ := (show tTok _ _ _ _ _ _ _ from q13).lt (by omega)
        have tl16 := (show _ ∧ _ from tl15).1
        have tl17 := (show _ ∧ _ ∧ _ from tl15).2.1
        have tl18 := (show _ ∧ _ ∧ _ ∧ _ from tl15).2.2.1
        have tr19 := yBi_rng (b := G 17) (n := (G 1 1).toInt) (k := (G5 1 4).toInt)
        clear hp8 hw4
        refine g_aload_n F 0 dX8_read_45 rfl rfl ?_
        refine xg_4_4 F i_X8 w_1 dX8_read_46 (Gj31 4 4) (hU7 4 4 (by decide)) ?_
        refine g_iconst F (-1) dX8_read_49 (by decide) ?_
        have b20 : ((-1) : Int) ≤ (Gj31 4 4).toInt ∧ (Gj31 4 4).toInt ≤ 12 := jI31 4 4
        refine v_icmp_ne F 65 dX8_read_50 (by decide) (Gj31 4 4).toInt (-1) rfl rfl (fun c21 => ?_) (fun c21 => ?_)
        · refine g_aload_n F 0 dX8_read_65 rfl rfl ?_
          have b22 : (0 : Int) ≤ (Gj31 4 2).toInt ∧ (Gj31 4 2).toInt ≤ 1001 := jI31 4 2
          refine uz_callVi (k := 0) (n := 0) (b := a 4) (As := []) (st := []) F xZ_st hZ (fun sz => S_X8_takeToken l D K a G5 zf  ((xF3.un f3_31 (show gu_un xcd [103, 104, 105, 106] Gj31 G5 from (gu_un.tr gu_un.rf (gu_un.su hU7 rfl))) rfl rfl rfl)) ((xNb.un nb_31 (show gu_un xcd [103, 104, 105, 106] Gj31 G5 from (gu_un.tr gu_un.rf (gu_un.su hU7 rfl))) rfl)) (by rw [show G5 4 4 = (Gj31 4 4) from hU7 4 4 (by decide), show G5 4 5 = (Gj31 4 5) from hU7 4 5 (by decide)]; exact ri_31) ((xN3.un n3_31 (show gu_un xcd [103, 104, 105, 106] Gj31 G5 from (gu_un.tr gu_un.rf (gu_un.su hU7 rfl))) rfl)) (by have h9 := q14; have h8 := tr19; unfold tY at h9 ⊢; omega) (by have e9_4_2 : G5 4 2 = (Gj31 4 2) := hU7 4 2 (by decide); (try simp only [e9_4_2, true_and, and_true]) <;> (first | omega | (simp only [Int32.reduceToInt, true_and, and_true, ne_eq, not_true_eq_false, false_and, or_false, false_or, true_or, or_true, false_implies] <;> omega))) (by unfold tY; have e9_4_4 : G5 4 4 = (Gj31 4 4) := hU7 4 4 (by decide); (try simp only [e9_4_4, true_and, and_true]) <;> omega) (by (first | omega | (simp only [Int32.reduceToInt, true_and, and_true, ne_eq, not_true_eq_false, false_and, or_false, false_or, true_or, or_true, false_implies] <;> omega))) hI6 sz) (cwV 0 hts gX8_read_X8_takeToken rfl rfl rfl (by decide +kernel) ⟨Nat.le_of_ble_eq_true rfl, Nat.le_of_ble_eq_true rfl⟩) rfl 4 xc_4 rfl (Nat.le_of_ble_eq_true rfl) ⟨Nat.zero_le _, Nat.zero_le _⟩ dX8_read_66 (fun r23 G25 hw24 => ?_)
          have hI26 : xI G25 := hw24.1
          have hU27 : gu_un xcd [403, 404, 405, 406, 407, 1402, 1405, 1406, 1407, 1408, 1409, 1502, 1505, 1506, 1507, 1508, 1509, 1602, 1605, 1606, 1607, 1608, 1609, 1900, 2900, 3100, 3200, 3400, 3500, 3700] G5 G25 := hw24.2.1
          have hp28 := hw24.2.2
          have q29 : xF3 G25 := hp28.2.1
          have q30 : xNb (G25 19) := hp28.2.2.1
          have b31 : ((-1) : Int) ≤ (G25 4 4).toInt ∧ (G25 4 4).toInt ≤ 12 := hI26 4 4
          have b32 : (0 : Int) ≤ (G25 4 5).toInt ∧ (G25 4 5).toInt ≤ 6 := hI26 4 5
          have q33 : tY (((G25 4 4).toInt = -1 ∨ (G25 4 5).toInt ≤ 1 ∨ ((G25 4 5).toInt ≤ 2 ∧ ((G25 4 4).toInt = 3 ∨ (G25 4 4).toInt = 4)) ∨ ((G25 4 5).toInt ≤ 4 ∧ (G25 4 4).toInt = 8) ∨ (G25 4 4).toInt = 9)) := hp28.2.2.2.1
          have q34 : xN3 G25 := hp28.2.2.2.2.1
          have b35 : (0 : Int) ≤ (G25 4 2).toInt ∧ (G25 4 2).toInt ≤ 1001 := hI26 4 2
          have q36 : ((G25 4 2).toInt ≤ (Gj31 4 2).toInt + 1) := by have h9 := hp28.2.2.2.2.2.1; (try simp only [(show G5 4 2 = (Gj31 4 2) from hU7 4 2 (by decide))] at h9); first | exact h9 | omega
          have q37 : tY ((r23.toInt ≠ 0 ∨ (G5 1 3).toInt ≠ 0)) := hp28.2.2.2.2.2.2
          have rg38 := hp28.1
          clear hp28 hw24
          refine g_istore_n F [(2, .int r23), (0, .ref (a 4)), (1, .int x31_1)] dX8_read_69 rfl (by decide) rfl ?_
          refine g_iload_n F 0 dX8_read_70 rfl rfl ?_
          refine v_if_eq F 76 dX8_read_71 (by decide) r23.toInt rfl (fun c39 => ?_) (fun c39 => ?_)
          · refine u_iinc F (fun v_ => [(1, .int v_), (2, .int r23), (0, .ref (a 4))]) dX8_read_76 (j := 2) rfl x31_1.toInt 1 rfl rfl (by omega) (by omega) (by decide) (fun _ => rfl) (fun y40 ey40 => ?_)
            refine g_goto F 31 dX8_read_79 (by decide) ?_
            refine g_locals [(0, .ref (a 4)), (1, .int y40)] [2, 0] rfl ?_
            exact ih_31 y40 G25 (by omega) (by have h9 := ti_rng y40; omega) hI26 (gu_un.tr (gu_un.tr (gu_un.tr gu_un.rf (gu_un.su jU31 rfl)) (gu_un.su hU7 rfl)) (gu_un.su hU27 rfl)) (q29) (q30) (q33) (q34) (by (first | omega | (simp only [Int32.reduceToInt, true_and, and_true, ne_eq, not_true_eq_false, false_and, or_false, false_or, true_or, or_true, false_implies] <;> omega))) (by have h7 := (show _ ∧ _ ∧ _ ∧ _ ∧ _ from tl15).2.2.2.1 (by have h9 := q37; unfold tY at h9; omega); have e9_1_1 : G25 1 1 = (G 1 1) := (hU27 1 1 (by decide)).trans ((hU7 1 1 (by decide)).trans (jU31 1 1 (by decide))); have e9_1_2 : G25 1 2 = (G5 1 2) := hU27 1 2 (by decide); (try simp only [e9_1_1, e9_1_2, true_and, and_true]) <;> omega)
          · refine g_iload_n F 0 dX8_read_74 rfl rfl ?_
            exact u_iret F hA hQ hr G25 (⟨hI26, (gu_un.tr (gu_un.tr (gu_un.tr gu_un.rf (gu_un.su jU31 rfl)) (gu_un.su hU7 rfl)) (gu_un.su hU27 rfl)), (by have h9 := ti_rng r23; omega), (q29), (q30)⟩) rfl rfl dX8_read_75
        · refine g_aload_n F 0 dX8_read_53 rfl rfl ?_
          refine xg_4_0 F i_X8 w_0 dX8_read_54 ?_
          refine xg_1_3 F i_X10 w_2 dX8_read_57 (G5 1 3) (rfl) ?_
          refine v_if_ne F 65 dX8_read_60 (by decide) (G5 1 3).toInt rfl (fun c41 => ?_) (fun c41 => ?_)
          · refine g_aload_n F 0 dX8_read_65 rfl rfl ?_
            have b42 : (0 : Int) ≤ (Gj31 4 2).toInt ∧ (Gj31 4 2).toInt ≤ 1001 := jI31 4 2
            refine uz_callVi (k := 0) (n := 0) (b := a 4) (As := []) (st := []) F xZ_st hZ (fun sz => S_X8_takeToken l D K a G5 zf  ((xF3.un f3_31 (show gu_un xcd [103, 104, 105, 106] Gj31 G5 from (gu_un.tr gu_un.rf (gu_un.su hU7 rfl))) rfl rfl rfl)) ((xNb.un nb_31 (show gu_un xcd [103, 104, 105, 106] Gj31 G5 from (gu_un.tr gu_un.rf (gu_un.su hU7 rfl))) rfl)) (by rw [show G5 4 4 = (Gj31 4 4) from hU7 4 4 (by decide), show G5 4 5 = (Gj31 4 5) from hU7 4 5 (by decide)]; exact ri_31) ((xN3.un n3_31 (show gu_un xcd [103, 104, 105, 106] Gj31 G5 from (gu_un.tr gu_un.rf (gu_un.su hU7 rfl))) rfl)) (by have h9 := q14; have h8 := tr19; unfold tY at h9 ⊢; omega) (by have e9_4_2 : G5 4 2 = (Gj31 4 2) := hU7 4 2 (by decide); (try simp only [e9_4_2, true_and, and_true]) <;> (first | omega | (simp only [Int32.reduceToInt, true_and, and_true, ne_eq, not_true_eq_false, false_and, or_false, false_or, true_or, or_true, false_implies] <;> omega))) (by unfold tY; have e9_4_4 : G5 4 4 = (Gj31 4 4) := hU7 4 4 (by decide); (try simp only [e9_4_4, true_and, and_true]) <;> omega) (by (first | omega | (simp only [Int32.reduceToInt, true_and, and_true, ne_eq, not_true_eq_false, false_and, or_false, false_or, true_or, or_true, false_implies] <;> omega))) hI6 sz) (cwV 0 hts gX8_read_X8_takeToken rfl rfl rfl (by decide +kernel) ⟨Nat.le_of_ble_eq_true rfl, Nat.le_of_ble_eq_true rfl⟩) rfl 4 xc_4 rfl (Nat.le_of_ble_eq_true rfl) ⟨Nat.zero_le _, Nat.zero_le _⟩ dX8_read_66 (fun r43 G45 hw44 => ?_)
            have hI46 : xI G45 := hw44.1
            have hU47 : gu_un xcd [403, 404, 405, 406, 407, 1402, 1405, 1406, 1407, 1408, 1409, 1502, 1505, 1506, 1507, 1508, 1509, 1602, 1605, 1606, 1607, 1608, 1609, 1900, 2900, 3100, 3200, 3400, 3500, 3700] G5 G45 := hw44.2.1
            have hp48 := hw44.2.2
            have q49 : xF3 G45 := hp48.2.1
            have q50 : xNb (G45 19) := hp48.2.2.1
            have b51 : ((-1) : Int) ≤ (G45 4 4).toInt ∧ (G45 4 4).toInt ≤ 12 := hI46 4 4
            have b52 : (0 : Int) ≤ (G45 4 5).toInt ∧ (G45 4 5).toInt ≤ 6 := hI46 4 5
            have q53 : tY (((G45 4 4).toInt = -1 ∨ (G45 4 5).toInt ≤ 1 ∨ ((G45 4 5).toInt ≤ 2 ∧ ((G45 4 4).toInt = 3 ∨ (G45 4 4).toInt = 4)) ∨ ((G45 4 5).toInt ≤ 4 ∧ (G45 4 4).toInt = 8) ∨ (G45 4 4).toInt = 9)) := hp48.2.2.2.1
            have q54 : xN3 G45 := hp48.2.2.2.2.1
            have b55 : (0 : Int) ≤ (G45 4 2).toInt ∧ (G45 4 2).toInt ≤ 1001 := hI46 4 2
            have q56 : ((G45 4 2).toInt ≤ (Gj31 4 2).toInt + 1) := by have h9 := hp48.2.2.2.2.2.1; (try simp only [(show G5 4 2 = (Gj31 4 2) from hU7 4 2 (by decide))] at h9); first | exact h9 | omega
            have q57 : tY ((r43.toInt ≠ 0 ∨ (G5 1 3).toInt ≠ 0)) := hp48.2.2.2.2.2.2
            have rg58 := hp48.1
            clear hp48 hw44
            refine g_istore_n F [(2, .int r43), (0, .ref (a 4)), (1, .int x31_1)] dX8_read_69 rfl (by decide) rfl ?_
            refine g_iload_n F 0 dX8_read_70 rfl rfl ?_
            refine v_if_eq F 76 dX8_read_71 (by decide) r43.toInt rfl (fun c59 => ?_) (fun c59 => ?_)
            · refine u_iinc F (fun v_ => [(1, .int v_), (2, .int r43), (0, .ref (a 4))]) dX8_read_76 (j := 2) rfl x31_1.toInt 1 rfl rfl (by omega) (by omega) (by decide) (fun _ => rfl) (fun y60 ey60 => ?_)
              refine g_goto F 31 dX8_read_79 (by decide) ?_
              refine g_locals [(0, .ref (a 4)), (1, .int y60)] [2, 0] rfl ?_
              exact ih_31 y60 G45 (by omega) (by have h9 := ti_rng y60; omega) hI46 (gu_un.tr (gu_un.tr (gu_un.tr gu_un.rf (gu_un.su jU31 rfl)) (gu_un.su hU7 rfl)) (gu_un.su hU47 rfl)) (q49) (q50) (q53) (q54) (by (first | omega | (simp only [Int32.reduceToInt, true_and, and_true, ne_eq, not_true_eq_false, false_and, or_false, false_or, true_or, or_true, false_implies] <;> omega))) (by have h7 := (show _ ∧ _ ∧ _ ∧ _ ∧ _ from tl15).2.2.2.1 (by have h9 := q57; unfold tY at h9; omega); have e9_1_1 : G45 1 1 = (G 1 1) := (hU47 1 1 (by decide)).trans ((hU7 1 1 (by decide)).trans (jU31 1 1 (by decide))); have e9_1_2 : G45 1 2 = (G5 1 2) := hU47 1 2 (by decide); (try simp only [e9_1_1, e9_1_2, true_and, and_true]) <;> omega)
            · refine g_iload_n F 0 dX8_read_74 rfl rfl ?_
              exact u_iret F hA hQ hr G45 (⟨hI46, (gu_un.tr (gu_un.tr (gu_un.tr gu_un.rf (gu_un.su jU31 rfl)) (gu_un.su hU7 rfl)) (gu_un.su hU47 rfl)), (by have h9 := ti_rng r43; omega), (q49), (q50)⟩) rfl rfl dX8_read_75
          · refine g_iconst F 0 dX8_read_63 (by decide) ?_
            exact u_iret F hA hQ hr G5 (⟨hI6, (gu_un.tr (gu_un.tr gu_un.rf (gu_un.su jU31 rfl)) (gu_un.su hU7 rfl)), (by decide), ((xF3.un f3_31 (show gu_un xcd [103, 104, 105, 106] Gj31 G5 from (gu_un.tr gu_un.rf (gu_un.su hU7 rfl))) rfl rfl rfl)), ((xNb.un nb_31 (show gu_un xcd [103, 104, 105, 106] Gj31 G5 from (gu_un.tr gu_un.rf (gu_un.su hU7 rfl))) rfl))⟩) rfl rfl dX8_read_64
  refine g_aload_n F 0 dX8_read_0 rfl rfl ?_
  refine xg_4_1 F i_X8 w_3 dX8_read_1 ?_
  refine uz_callVv (k := 0) (n := 0) (b := a 3) (As := []) (st := []) F xZ_st hZ (fun sz => S_X7_beUntold_3 l D K a G zf  hI sz) (cwV 0 hts gX8_read_X7_beUntold rfl rfl rfl (by decide +kernel) ⟨Nat.le_of_ble_eq_true rfl, Nat.le_of_ble_eq_true rfl⟩) rfl 3 xc_3 rfl (Nat.le_of_ble_eq_true rfl) ⟨Nat.zero_le _, Nat.zero_le _⟩ dX8_read_4 (fun G63 hw62 => ?_)
  have hI64 : xI G63 := hw62.1
  have hU65 : gu_un xcd [1402, 1502, 1602, 1900, 2900, 3200, 3500] G G63 := hw62.2.1
  have hp66 := hw62.2.2
  have q67 : xNb (G63 19) := hp66.1
  have q68 : (∀ q : Nat, q < 36 → G63 19 q = hU q) := hp66.2.1
  have b69 : (0 : Int) ≤ (G63 14 1).toInt ∧ (G63 14 1).toInt ≤ 80 := hI64 14 1
  have q70 : (tkr (G63 29) ((G63 14 1).toInt).toNat = [-1]) := hp66.2.2.1
  have b71 : (0 : Int) ≤ (G63 15 1).toInt ∧ (G63 15 1).toInt ≤ 80 := hI64 15 1
  have q72 : (tkr (G63 32) ((G63 15 1).toInt).toNat = [0]) := hp66.2.2.2.1
  have b73 : (0 : Int) ≤ (G63 16 1).toInt ∧ (G63 16 1).toInt ≤ 80 := hI64 16 1
  have q74 : (tkr (G63 35) ((G63 16 1).toInt).toNat = [0]) := hp66.2.2.2.2
  clear hp66 hw62
  refine g_aload_n F 0 dX8_read_7 rfl rfl ?_
  refine g_iconst F 0 dX8_read_8 (by decide) ?_
  refine xp_4_2 F i_X8 w_4 dX8_read_9 ?_
  refine g_aload_n F 0 dX8_read_12 rfl rfl ?_
  refine g_iconst F 0 dX8_read_13 (by decide) ?_
  refine xp_4_3 F i_X8 w_5 dX8_read_14 ?_
  refine g_aload_n F 0 dX8_read_17 rfl rfl ?_
  refine g_iconst F (-1) dX8_read_18 (by decide) ?_
  refine xp_4_4 F i_X8 w_1 dX8_read_19 ?_
  refine g_aload_n F 0 dX8_read_22 rfl rfl ?_
  refine xg_4_0 F i_X8 w_0 dX8_read_23 ?_
  refine u_callVv (k := 0) (n := 0) (b := a 1) (As := []) (st := []) F (fun sz => S_X10_rewind l D K a (gu_up (gu_up (gu_up G63 4 2 0) 4 3 0) 4 4 (-1))  (gu_I.up (j := 4) (k := 4) (v := (-1)) (gu_I.up (j := 4) (k := 3) (v := 0) (gu_I.up (j := 4) (k := 2) (v := 0) hI64 (show (0 : Int) ≤ (0 : Int32).toInt by decide) (show (0 : Int32).toInt ≤ 1001 by decide)) (ti_rng _).1 (ti_rng _).2) (show ((-1) : Int) ≤ ((-1) : Int32).toInt by decide) (show ((-1) : Int32).toInt ≤ 12 by decide)) sz) (cwV 0 hts gX8_read_X10_rewind rfl rfl rfl (by decide +kernel) ⟨Nat.le_of_ble_eq_true rfl, Nat.le_of_ble_eq_true rfl⟩) rfl 1 xc_1 rfl (Nat.le_of_ble_eq_true rfl) ⟨Nat.zero_le _, Nat.zero_le _⟩ dX8_read_26 (fun G77 hw76 => ?_)
  have hI78 : xI G77 := hw76.1
  have hU79 : gu_un xcd [103] (gu_up (gu_up (gu_up G63 4 2 0) 4 3 0) 4 4 (-1)) G77 := hw76.2.1
  have hp80 := hw76.2.2
  have b81 : (0 : Int) ≤ (G77 1 2).toInt ∧ (G77 1 2).toInt ≤ 1000 := hI78 1 2
  have q82 : ((G77 1 2).toInt = 0) := hp80
  clear hp80 hw76
  refine g_iconst F 0 dX8_read_29 (by decide) ?_
  refine g_istore_n F [(1, .int 0), (0, .ref (a 4))] dX8_read_30 rfl (by decide) rfl ?_
  refine g_locals [(0, .ref (a 4)), (1, .int 0)] [1, 0] rfl ?_
  exact J_31 _ 0 G77 (Nat.lt_succ_self _) (by decide) hI78 (gu_un.tr (gu_un.up (j := 4) (k := 4) (v := (-1)) (gu_un.up (j := 4) (k := 3) (v := 0) (gu_un.up (j := 4) (k := 2) (v := 0) (gu_un.tr gu_un.rf (gu_un.su hU65 rfl)) (show (403 : Nat) ∈ ([103, 104, 105, 106, 403, 404, 405, 406, 407, 1402, 1405, 1406, 1407, 1408, 1409, 1502, 1505, 1506, 1507, 1508, 1509, 1602, 1605, 1606, 1607, 1608, 1609, 1900, 2900, 3100, 3200, 3400, 3500, 3700] : List Nat) by decide)) (show (404 : Nat) ∈ ([103, 104, 105, 106, 403, 404, 405, 406, 407, 1402, 1405, 1406, 1407, 1408, 1409, 1502, 1505, 1506, 1507, 1508, 1509, 1602, 1605, 1606, 1607, 1608, 1609, 1900, 2900, 3100, 3200, 3400, 3500, 3700] : List Nat) by decide)) (show (405 : Nat) ∈ ([103, 104, 105, 106, 403, 404, 405, 406, 407, 1402, 1405, 1406, 1407, 1408, 1409, 1502, 1505, 1506, 1507, 1508, 1509, 1602, 1605, 1606, 1607, 1608, 1609, 1900, 2900, 3100, 3200, 3400, 3500, 3700] : List Nat) by decide)) (gu_un.su hU79 rfl)) ((xF3.un f3 (show gu_un xcd [103, 403, 404, 405, 1402, 1502, 1602, 1900, 2900, 3200, 3500] G G77 from (gu_un.tr (gu_un.up (j := 4) (k := 4) (v := (-1)) (gu_un.up (j := 4) (k := 3) (v := 0) (gu_un.up (j := 4) (k := 2) (v := 0) (gu_un.tr gu_un.rf (gu_un.su hU65 rfl)) (show (403 : Nat) ∈ ([103, 403, 404, 405, 1402, 1502, 1602, 1900, 2900, 3200, 3500] : List Nat) by decide)) (show (404 : Nat) ∈ ([103, 403, 404, 405, 1402, 1502, 1602, 1900, 2900, 3200, 3500] : List Nat) by decide)) (show (405 : Nat) ∈ ([103, 403, 404, 405, 1402, 1502, 1602, 1900, 2900, 3200, 3500] : List Nat) by decide)) (gu_un.su hU79 rfl))) rfl rfl rfl)) ((xNb.un q67 (show gu_un xcd [103, 403, 404, 405] G63 G77 from (gu_un.tr (gu_un.up (j := 4) (k := 4) (v := (-1)) (gu_un.up (j := 4) (k := 3) (v := 0) (gu_un.up (j := 4) (k := 2) (v := 0) gu_un.rf (show (403 : Nat) ∈ ([103, 403, 404, 405] : List Nat) by decide)) (show (404 : Nat) ∈ ([103, 403, 404, 405] : List Nat) by decide)) (show (405 : Nat) ∈ ([103, 403, 404, 405] : List Nat) by decide)) (gu_un.su hU79 rfl))) rfl)) (Or.inl (by have e9_4_4 : G77 4 4 = (-1) := hU79 4 4 (by decide); (try simp only [e9_4_4, true_and, and_true]) <;> (first | omega | (simp only [Int32.reduceToInt, true_and, and_true, ne_eq, not_true_eq_false, false_and, or_false, false_or, true_or, or_true, false_implies] <;> omega)))) (xN3.no (by have e9_4_4 : G77 4 4 = (-1) := hU79 4 4 (by decide); (try simp only [e9_4_4, true_and, and_true]) <;> (first | omega | (simp only [Int32.reduceToInt, true_and, and_true, ne_eq, not_true_eq_false, false_and, or_false, false_or, true_or, or_true, false_implies] <;> omega)))) (by have e9_4_2 : G77 4 2 = 0 := hU79 4 2 (by decide); (try simp only [e9_4_2, true_and, and_true]) <;> (first | omega | (simp only [Int32.reduceToInt, true_and, and_true, ne_eq, not_true_eq_false, false_and, or_false, false_or, true_or, or_true, false_implies] <;> omega))) (by have e9_1_1 : G77 1 1 = (G 1 1) := (hU79 1 1 (by decide)).trans (hU65 1 1 (by decide)); (try simp only [e9_1_1, true_and, and_true]) <;> (first | omega | (simp only [Int32.reduceToInt, true_and, and_true, ne_eq, not_true_eq_false, false_and, or_false, false_or, true_or, or_true, false_implies] <;> omega)))
