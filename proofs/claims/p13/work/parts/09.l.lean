theorem dX8_takeToken_0 : decode cX8_takeToken 0 = .ok (.aload_n 0, 1) := by decide +kernel
theorem dX8_takeToken_1 : decode cX8_takeToken 1 = .ok (.getfield 31, 3) := by decide +kernel
theorem dX8_takeToken_4 : decode cX8_takeToken 4 = .ok (.ifCond .lt 14, 3) := by decide +kernel
theorem dX8_takeToken_7 : decode cX8_takeToken 7 = .ok (.aload_n 0, 1) := by decide +kernel
theorem dX8_takeToken_8 : decode cX8_takeToken 8 = .ok (.getfield 31, 3) := by decide +kernel
theorem dX8_takeToken_11 : decode cX8_takeToken 11 = .ok (.getstatic 49, 3) := by decide +kernel
theorem dX8_takeToken_14 : decode cX8_takeToken 14 = .ok (.arraylength, 1) := by decide +kernel
theorem dX8_takeToken_15 : decode cX8_takeToken 15 = .ok (.if_icmp .lt 8, 3) := by decide +kernel
theorem dX8_takeToken_18 : decode cX8_takeToken 18 = .ok (.aload_n 0, 1) := by decide +kernel
theorem dX8_takeToken_19 : decode cX8_takeToken 19 = .ok (.invokevirtual 53, 3) := by decide +kernel
theorem dX8_takeToken_22 : decode cX8_takeToken 22 = .ok (.ireturn, 1) := by decide +kernel
theorem dX8_takeToken_23 : decode cX8_takeToken 23 = .ok (.getstatic 49, 3) := by decide +kernel
theorem dX8_takeToken_26 : decode cX8_takeToken 26 = .ok (.aload_n 0, 1) := by decide +kernel
theorem dX8_takeToken_27 : decode cX8_takeToken 27 = .ok (.getfield 31, 3) := by decide +kernel
theorem dX8_takeToken_30 : decode cX8_takeToken 30 = .ok (.aaload, 1) := by decide +kernel
theorem dX8_takeToken_31 : decode cX8_takeToken 31 = .ok (.astore_n 1, 1) := by decide +kernel
theorem dX8_takeToken_32 : decode cX8_takeToken 32 = .ok (.aload_n 1, 1) := by decide +kernel
theorem dX8_takeToken_33 : decode cX8_takeToken 33 = .ok (.invokevirtual 56, 3) := by decide +kernel
theorem dX8_takeToken_36 : decode cX8_takeToken 36 = .ok (.ifCond .eq 11, 3) := by decide +kernel
theorem dX8_takeToken_39 : decode cX8_takeToken 39 = .ok (.aload_n 0, 1) := by decide +kernel
theorem dX8_takeToken_40 : decode cX8_takeToken 40 = .ok (.aload_n 1, 1) := by decide +kernel
theorem dX8_takeToken_41 : decode cX8_takeToken 41 = .ok (.invokevirtual 62, 3) := by decide +kernel
theorem dX8_takeToken_44 : decode cX8_takeToken 44 = .ok (.goto 8, 3) := by decide +kernel
theorem dX8_takeToken_47 : decode cX8_takeToken 47 = .ok (.aload_n 0, 1) := by decide +kernel
theorem dX8_takeToken_48 : decode cX8_takeToken 48 = .ok (.aload_n 1, 1) := by decide +kernel
theorem dX8_takeToken_49 : decode cX8_takeToken 49 = .ok (.invokevirtual 66, 3) := by decide +kernel
theorem dX8_takeToken_52 : decode cX8_takeToken 52 = .ok (.ireturn, 1) := by decide +kernel
set_option maxRecDepth 20000 in
theorem ggX8_takeToken_X1_isSum : GoodIn wsX8_takeToken wsX1_isSum := goodIn_r _ [81, 82, 83, 84, 85, 25, 86, 27] rfl (by decide +kernel)
set_option maxRecDepth 20000 in
theorem gX8_takeToken_X1_isSum : GoodIn wsX8_takeToken (wsV RX8 56 RX1 yX1_isSum wsX1_isSum) := goodIn_app (goodIn_of _ (by decide +kernel)) ggX8_takeToken_X1_isSum
set_option maxRecDepth 20000 in
theorem ggX8_takeToken_X8_takeClauseWord : GoodIn wsX8_takeToken wsX8_takeClauseWord := goodIn_r _ [7, 2, 8, 9, 10, 1, 11, 12, 13, 14, 15, 16, 17, 18, 19, 20, 21, 22, 23, 24, 25, 26, 27, 28, 29, 30, 31, 32, 33, 34, 35, 36, 37, 38, 39, 40, 41, 42, 43, 44, 45, 46, 47, 48, 49, 50, 51, 52, 53, 54, 55, 56, 57, 58, 59, 60, 61, 62, 63, 64, 65, 66, 67, 68, 69, 70, 71, 72, 73, 74, 75, 76, 77, 78, 79, 80, 81, 82, 83, 84, 85, 86, 87, 88, 89, 90, 91, 92, 93, 94, 95, 96, 97, 98, 99, 100, 101, 102, 103, 104, 105, 257, 258, 259, 260, 261, 262, 263, 264, 265, 266, 267, 268, 269, 270, 271, 272, 273, 274, 275, 276, 277, 278, 279, 280, 281, 282] rfl (by decide +kernel)
set_option maxRecDepth 20000 in
theorem gX8_takeToken_X8_takeClauseWord : GoodIn wsX8_takeToken (wsV RX8 53 RX8 yX8_takeClauseWord wsX8_takeClauseWord) := goodIn_app (goodIn_of _ (by decide +kernel)) ggX8_takeToken_X8_takeClauseWord
set_option maxRecDepth 20000 in
theorem ggX8_takeToken_X8_takeOfNumbers : GoodIn wsX8_takeToken wsX8_takeOfNumbers := goodIn_r _ [236, 8, 11, 237, 12, 238, 13, 239, 240, 241, 242, 243, 80, 244, 245, 111, 112, 113, 17, 114, 19, 115, 246, 247, 248, 90, 249, 250, 140, 141, 142, 6, 143, 1, 144, 251, 252, 253, 254, 255, 256, 257, 258, 259, 260, 261, 262, 263, 264, 265, 266, 267, 268, 269, 270, 271, 272, 273] rfl (by decide +kernel)
set_option maxRecDepth 20000 in
theorem gX8_takeToken_X8_takeOfNumbers : GoodIn wsX8_takeToken (wsV RX8 66 RX8 yX8_takeOfNumbers wsX8_takeOfNumbers) := goodIn_app (goodIn_of _ (by decide +kernel)) ggX8_takeToken_X8_takeOfNumbers
set_option maxRecDepth 20000 in
theorem ggX8_takeToken_X8_takeOfSum : GoodIn wsX8_takeToken wsX8_takeOfSum := goodIn_r _ [109, 12, 13, 8, 110, 87, 88, 89, 90, 91, 92, 93, 94, 111, 112, 113, 17, 114, 19, 115, 116, 117, 118, 98, 119, 105, 104, 120, 121, 122, 123, 124, 125, 126, 127, 101, 128, 129, 130, 131, 132, 133, 134, 135, 136, 137, 138, 100, 139, 140, 141, 142, 6, 143, 1, 144, 145, 146, 147, 148, 149, 150, 151, 152, 153, 154, 103, 155, 156, 157, 158, 159, 160, 161, 162, 163, 164, 165, 166, 167, 168, 169, 170, 171, 102, 172, 173, 174, 25, 175, 176, 177, 178, 179, 27, 44, 45, 46, 47, 32, 33, 180, 23, 24, 26, 28, 29, 30, 31, 181, 182, 50, 183, 184, 185, 186, 187, 188, 189, 190, 191, 192, 193, 194, 195, 196, 197, 198, 62, 199, 200, 201, 202, 203, 204, 205, 206, 207, 208, 67, 68, 69, 209, 210, 211, 55, 212, 213, 58, 214, 215, 216, 217, 71, 72, 73, 74, 75, 76, 218, 219, 220, 221, 222, 223, 224, 225, 226, 227, 228, 229, 230, 231, 232, 257, 258, 259, 260, 261, 262, 263, 270, 271, 272, 273, 264, 265, 266, 267, 268, 269, 274, 275, 276, 277, 278, 279, 280, 281, 282] rfl (by decide +kernel)
set_option maxRecDepth 20000 in
theorem gX8_takeToken_X8_takeOfSum : GoodIn wsX8_takeToken (wsV RX8 62 RX8 yX8_takeOfSum wsX8_takeOfSum) := goodIn_app (goodIn_of _ (by decide +kernel)) ggX8_takeToken_X8_takeOfSum
set_option maxHeartbeats 4000000 in
set_option maxRecDepth 100000 in
theorem S_X8_takeToken (l : Launch) (D : va_G) (K : Nat → ClassId) (a : Nat → Nat) (G : gS) (zf : Nat → Nat) (f3 : xF3 G) (nb : xNb (G 19)) (ri : (tY ((G 4 4).toInt = -1 ∨ (G 4 5).toInt ≤ 1 ∨ ((G 4 5).toInt ≤ 2 ∧ ((G 4 4).toInt = 3 ∨ (G 4 4).toInt = 4)) ∨ ((G 4 5).toInt ≤ 4 ∧ (G 4 4).toInt = 8) ∨ (G 4 4).toInt = 9))) (n3 : xN3 G) (vl : (tY ((G 1 3).toInt ≠ 1 ∨ (0 ≤ (G 1 5).toInt ∧ (G 1 5).toInt ≤ 255)))) (ck : ((G 4 2).toInt ≤ 1000)) (k0 : (tY ((G 4 4).toInt ≠ -1 ∨ (G 1 3).toInt ≠ 0))) (pq : ((G 1 4).toInt ≤ (G 1 2).toInt)) (hI : xI G) (sz : Nat) : KiZ (xZ zf) l yX8_takeToken wsX8_takeToken 7 176 D [.ref (a 4)] (xW K a G) (tK K) sz (fun (r : Int32) (G' : gS) => (xI G') ∧ (gu_un xcd [403, 404, 405, 406, 407, 1402, 1405, 1406, 1407, 1408, 1409, 1502, 1505, 1506, 1507, 1508, 1509, 1602, 1605, 1606, 1607, 1608, 1609, 1900, 2900, 3100, 3200, 3400, 3500, 3700] G G') ∧ (0 ≤ r.toInt ∧ r.toInt ≤ 4) ∧ (xF3 G') ∧ (xNb (G' 19)) ∧ (((G' 4 4).toInt = -1 ∨ (G' 4 5).toInt ≤ 1 ∨ ((G' 4 5).toInt ≤ 2 ∧ ((G' 4 4).toInt = 3 ∨ (G' 4 4).toInt = 4)) ∨ ((G' 4 5).toInt ≤ 4 ∧ (G' 4 4).toInt = 8) ∨ (G' 4 4).toInt = 9)) ∧ (xN3 G') ∧ (((G' 4 2).toInt ≤ (G 4 2).toInt + 1)) ∧ ((∀ (ts : List hTk) (pl : Int), xH (((G 1 3).toInt, pl, (G 1 5).toInt, cix (G 1 3).toInt (tW (G 17) (G 1 1).toInt (G 1 4).toInt (G 1 2).toInt)) :: ts) G = if r.toInt = 0 then xH ts G' else hBad r.toInt pl)) ∧ ((r.toInt ≠ 0 ∨ (G 1 3).toInt ≠ 0))) (fun (G' : gS) => (xW K a G')) := by
  unfold KiZ
  refine gz_ofW (cc := cX8_takeToken) (lv := [(0, .ref (a 4))]) (by decide) rfl (Nat.le_of_ble_eq_true rfl) rfl ?_
  intro p e s m args below meth c A Q hA hQ hZ F hr hnm
  have hts := F.2.2.2.2.1
  have w_0 : (Cond.fieldLink RX8 31 "QuietCut$ShopReader" "open" "I").before args s = true := hts _ (List.mem_of_getElem? (i := 1) rfl)
  have i_X8 : ∀ w ∈ u_ws RX8 TX8 7, w ∈ wsX8_takeToken := fun _ h => List.mem_cons_of_mem _ (List.mem_append_left _ (List.mem_append_left _ (List.mem_append_left _ (List.mem_append_right _ h))))
  have w_1 : (Cond.fieldLink RX8 49 "QuietCut$ShopReader" "CLAUSES" "[LQuietCut$Clause;").before args s = true := hts _ (List.mem_of_getElem? (i := 2) rfl)
  have b1 : ((-1) : Int) ≤ (G 4 4).toInt ∧ (G 4 4).toInt ≤ 12 := hI 4 4
  have b2 : (0 : Int) ≤ (G 4 5).toInt ∧ (G 4 5).toInt ≤ 6 := hI 4 5
  have b3 : (0 : Int) ≤ (G 4 2).toInt ∧ (G 4 2).toInt ≤ 1001 := hI 4 2
  have b4 : (0 : Int) ≤ (G 1 3).toInt ∧ (G 1 3).toInt ≤ 4 := hI 1 3
  refine g_aload_n F 0 dX8_takeToken_0 rfl rfl ?_
  refine xg_4_4 F i_X8 w_0 dX8_takeToken_1 (G 4 4) (rfl) ?_
  refine v_if_lt F 18 dX8_takeToken_4 (by decide) (G 4 4).toInt rfl (fun c5 => ?_) (fun c5 => ?_)
  · refine g_aload_n F 0 dX8_takeToken_18 rfl rfl ?_
    refine uz_callVi (k := 0) (n := 0) (b := a 4) (As := []) (st := []) F xZ_st hZ (fun sz => S_X8_takeClauseWord l D K a G zf  (f3) (ri) (by (first | omega | (simp only [Int32.reduceToInt, true_and, and_true, ne_eq, not_true_eq_false, false_and, or_false, false_or, true_or, or_true, false_implies] <;> omega))) (by have h9 := k0; unfold tY at h9; omega) (pq) hI sz) (cwV 0 hts gX8_takeToken_X8_takeClauseWord rfl rfl rfl (by decide +kernel) ⟨Nat.le_of_ble_eq_true rfl, Nat.le_of_ble_eq_true rfl⟩) rfl 4 xc_4 rfl (Nat.le_of_ble_eq_true rfl) ⟨Nat.zero_le _, Nat.zero_le _⟩ dX8_takeToken_19 (fun r6 G8 hw7 => ?_)
    have hI9 : xI G8 := hw7.1
    have hU10 : gu_un xcd [404, 405, 406, 1402, 1405, 1406, 1407, 1408, 1409, 1502, 1505, 1506, 1507, 1508, 1509, 1602, 1605, 1606, 1607, 1608, 1609] G G8 := hw7.2.1
    have hp11 := hw7.2.2
    have q12 : xF3 G8 := hp11.2.1
    have b13 : ((-1) : Int) ≤ (G8 4 4).toInt ∧ (G8 4 4).toInt ≤ 12 := hI9 4 4
    have b14 : (0 : Int) ≤ (G8 4 5).toInt ∧ (G8 4 5).toInt ≤ 6 := hI9 4 5
    have q15 : tY (((G8 4 4).toInt = -1 ∨ (G8 4 5).toInt ≤ 1 ∨ ((G8 4 5).toInt ≤ 2 ∧ ((G8 4 4).toInt = 3 ∨ (G8 4 4).toInt = 4)) ∨ ((G8 4 5).toInt ≤ 4 ∧ (G8 4 4).toInt = 8) ∨ (G8 4 4).toInt = 9)) := hp11.2.2.1
    have q16 : xN3 G8 := hp11.2.2.2.1
    have q17 : ((G 4 2).toInt = (G 4 2).toInt) := by have h9 := hp11.2.2.2.2.1; (try simp only [(show G8 4 2 = (G 4 2) from hU10 4 2 (by decide))] at h9); first | exact h9 | omega
    have b18 : (0 : Int) ≤ (G 1 1).toInt ∧ (G 1 1).toInt ≤ 1000 := hI 1 1
    have b19 : (0 : Int) ≤ (G 1 4).toInt ∧ (G 1 4).toInt ≤ 1000 := hI 1 4
    have b20 : (0 : Int) ≤ (G 1 2).toInt ∧ (G 1 2).toInt ≤ 1000 := hI 1 2
    have q21 : tY ((∀ (ts : List hTk) (pl : Int), xH (((G 1 3).toInt, pl, (G 1 5).toInt, cix (G 1 3).toInt (tW (G 17) (G 1 1).toInt (G 1 4).toInt (G 1 2).toInt)) :: ts) G = if r6.toInt = 0 then xH ts G8 else hBad r6.toInt pl)) := hp11.2.2.2.2.2
    have rg22 := hp11.1
    clear hp11 hw7
    exact u_iret F hA hQ hr G8 (⟨hI9, (gu_un.tr gu_un.rf (gu_un.su hU10 rfl)), (by have h9 := ti_rng r6; omega), (q12), ((xNb.un nb (show gu_un xcd [404, 405, 406, 1402, 1405, 1406, 1407, 1408, 1409, 1502, 1505, 1506, 1507, 1508, 1509, 1602, 1605, 1606, 1607, 1608, 1609] G G8 from (gu_un.tr gu_un.rf (gu_un.su hU10 rfl))) rfl)), (q15), (q16), (by have e9_4_2 : G8 4 2 = (G 4 2) := hU10 4 2 (by decide); (try simp only [e9_4_2, true_and, and_true]) <;> (first | omega | (simp only [Int32.reduceToInt, true_and, and_true, ne_eq, not_true_eq_false, false_and, or_false, false_or, true_or, or_true, false_implies] <;> omega))), (fun ts pl => q21 ts pl), (Or.inr ((show _ ∨ _ from k0).resolve_left (fun h9 => h9 (show (G 4 4).toInt = -1 by omega))))⟩) rfl rfl dX8_takeToken_22
  · refine g_aload_n F 0 dX8_takeToken_7 rfl rfl ?_
    refine xg_4_4 F i_X8 w_0 dX8_takeToken_8 (G 4 4) (rfl) ?_
    refine uz_gets F hZ.2.2.2.1 w_1 dX8_takeToken_11 ?_
    refine uz_tlen F hZ.2.2.2.2.1 13 rfl dX8_takeToken_14 ?_
    refine v_icmp_lt F 23 dX8_takeToken_15 (by decide) (G 4 4).toInt 13 rfl rfl (fun c23 => ?_) (fun c23 => absurd c23 (by omega))
    refine uz_gets F hZ.2.2.2.1 w_1 dX8_takeToken_23 ?_
    refine g_aload_n F 0 dX8_takeToken_26 rfl rfl ?_
    refine xg_4_4 F i_X8 w_0 dX8_takeToken_27 (G 4 4) (rfl) ?_
    rcases (show (G 4 4).toInt = 0 ∨ (G 4 4).toInt = 1 ∨ (G 4 4).toInt = 2 ∨ (G 4 4).toInt = 3 ∨ (G 4 4).toInt = 4 ∨ (G 4 4).toInt = 5 ∨ (G 4 4).toInt = 6 ∨ (G 4 4).toInt = 7 ∨ (G 4 4).toInt = 8 ∨ (G 4 4).toInt = 9 ∨ (G 4 4).toInt = 10 ∨ (G 4 4).toInt = 11 ∨ (G 4 4).toInt = 12 by omega) with c24 | c24 | c24 | c24 | c24 | c24 | c24 | c24 | c24 | c24 | c24 | c24 | c24
    · refine uz_tq (v := .ref (zf 10)) F hZ.2.2.2.2.1 0 c24 (by decide) (by decide) rfl dX8_takeToken_30 ?_
      refine g_astore_n F [(1, .ref (zf 10)), (0, .ref (a 4))] dX8_takeToken_31 rfl (by decide) rfl ?_
      refine g_aload_n F 0 dX8_takeToken_32 rfl rfl ?_
      refine uz_call0Vi (k := 0) (n := 0) (b := (zf 10)) (As := []) (st := []) F xZ_st hZ (fun sz => S_X1_isSum_c0 l D zf sz) (cwV 0 hts gX8_takeToken_X1_isSum rfl rfl rfl (by decide +kernel) ⟨Nat.le_of_ble_eq_true rfl, Nat.le_of_ble_eq_true rfl⟩) (hZ.2.2.2.2.2 0 (by decide)).1 rfl (Nat.le_of_ble_eq_true rfl) ⟨Nat.zero_le _, Nat.zero_le _⟩ dX8_takeToken_33 (fun r25 _ hw26 => ?_)
      have hw26 : r25.toInt = 0 := hw26
      refine g_fold 0 ((ti_eq rfl (show (0 : Int32).toInt = 0 from rfl)).mpr hw26) ?_
      refine v_if_eq F 47 dX8_takeToken_36 (by decide) 0 rfl (fun c27 => ?_) (fun c27 => absurd c27 (by decide))
      refine g_aload_n F 1 dX8_takeToken_47 rfl rfl ?_
      refine g_aload_n F 0 dX8_takeToken_48 rfl rfl ?_
      refine uz_callVi (k := 0) (n := 0) (b := a 4) (As := [.ref (zf 10)]) (st := []) F xZ_st hZ (fun sz => S_X8_takeOfNumbers_c0 l D K a G zf  (nb) (ck) (by have h9 := ri; unfold tY at h9; omega) hI sz) (cwV 1 hts gX8_takeToken_X8_takeOfNumbers rfl rfl rfl (by decide +kernel) ⟨Nat.le_of_ble_eq_true rfl, Nat.le_of_ble_eq_true rfl⟩) rfl 4 xc_4 rfl (Nat.le_of_ble_eq_true rfl) ⟨Nat.zero_le _, Nat.zero_le _⟩ dX8_takeToken_49 (fun r28 G30 hw29 => ?_)
      have hI31 : xI G30 := hw29.1
      have hU32 : gu_un xcd [403, 405, 406, 407, 1900] G G30 := hw29.2.1
      have hp33 := hw29.2.2
      have q34 : xNb (G30 19) := hp33.2.1
      have b35 : ((-1) : Int) ≤ (G30 4 4).toInt ∧ (G30 4 4).toInt ≤ 12 := hI31 4 4
      have b36 : (0 : Int) ≤ (G30 4 5).toInt ∧ (G30 4 5).toInt ≤ 6 := hI31 4 5
      have q37 : tY (((G30 4 4).toInt = -1 ∨ (G30 4 5).toInt ≤ 1 ∨ ((G30 4 5).toInt ≤ 2 ∧ ((G30 4 4).toInt = 3 ∨ (G30 4 4).toInt = 4)) ∨ ((G30 4 5).toInt ≤ 4 ∧ (G30 4 4).toInt = 8) ∨ (G30 4 4).toInt = 9)) := hp33.2.2.1
      have q38 : tY (((G30 4 4).toInt = -1 ∨ (G30 4 4).toInt = (G 4 4).toInt)) := hp33.2.2.2.1
      have b39 : (0 : Int) ≤ (G30 4 2).toInt ∧ (G30 4 2).toInt ≤ 1001 := hI31 4 2
      have q40 : ((G30 4 2).toInt ≤ (G 4 2).toInt + 1) := hp33.2.2.2.2.1
      have q41 : tY ((∀ (ts : List hTk) (pl ci : Int), xH (((G 1 3).toInt, pl, (G 1 5).toInt, ci) :: ts) G = if r28.toInt = 0 then xH ts G30 else hBad r28.toInt pl)) := hp33.2.2.2.2.2.1
      have q42 : tY ((r28.toInt ≠ 0 ∨ (G 1 3).toInt ≠ 0)) := hp33.2.2.2.2.2.2
      have rg43 := hp33.1
      clear hp33 hw29
      exact u_iret F hA hQ hr G30 (⟨hI31, (gu_un.tr gu_un.rf (gu_un.su hU32 rfl)), (by have h9 := ti_rng r28; omega), ((xF3.un f3 (show gu_un xcd [403, 405, 406, 407, 1900] G G30 from (gu_un.tr gu_un.rf (gu_un.su hU32 rfl))) rfl rfl rfl)), (q34), (q37), (xN3.no (by have h9 := q38; unfold tY at h9; omega)), (q40), (fun ts pl => q41 ts pl _), (q42)⟩) rfl rfl dX8_takeToken_52
    · refine uz_tq (v := .ref (zf 11)) F hZ.2.2.2.2.1 1 c24 (by decide) (by decide) rfl dX8_takeToken_30 ?_
      refine g_astore_n F [(1, .ref (zf 11)), (0, .ref (a 4))] dX8_takeToken_31 rfl (by decide) rfl ?_
      refine g_aload_n F 0 dX8_takeToken_32 rfl rfl ?_
      refine uz_call0Vi (k := 0) (n := 0) (b := (zf 11)) (As := []) (st := []) F xZ_st hZ (fun sz => S_X1_isSum_c1 l D zf sz) (cwV 0 hts gX8_takeToken_X1_isSum rfl rfl rfl (by decide +kernel) ⟨Nat.le_of_ble_eq_true rfl, Nat.le_of_ble_eq_true rfl⟩) (hZ.2.2.2.2.2 1 (by decide)).1 rfl (Nat.le_of_ble_eq_true rfl) ⟨Nat.zero_le _, Nat.zero_le _⟩ dX8_takeToken_33 (fun r44 _ hw45 => ?_)
      have hw45 : r44.toInt = 0 := hw45
      refine g_fold 0 ((ti_eq rfl (show (0 : Int32).toInt = 0 from rfl)).mpr hw45) ?_
      refine v_if_eq F 47 dX8_takeToken_36 (by decide) 0 rfl (fun c46 => ?_) (fun c46 => absurd c46 (by decide))
      refine g_aload_n F 1 dX8_takeToken_47 rfl rfl ?_
      refine g_aload_n F 0 dX8_takeToken_48 rfl rfl ?_
      refine uz_callVi (k := 0) (n := 0) (b := a 4) (As := [.ref (zf 11)]) (st := []) F xZ_st hZ (fun sz => S_X8_takeOfNumbers_c1 l D K a G zf  (nb) (ck) (by have h9 := ri; unfold tY at h9; omega) hI sz) (cwV 1 hts gX8_takeToken_X8_takeOfNumbers rfl rfl rfl (by decide +kernel) ⟨Nat.le_of_ble_eq_true rfl, Nat.le_of_ble_eq_true rfl⟩) rfl 4 xc_4 rfl (Nat.le_of_ble_eq_true rfl) ⟨Nat.zero_le _, Nat.zero_le _⟩ dX8_takeToken_49 (fun r47 G49 hw48 => ?_)
      have hI50 : xI G49 := hw48.1
      have hU51 : gu_un xcd [403, 405, 406, 407, 1900] G G49 := hw48.2.1
      have hp52 := hw48.2.2
      have q53 : xNb (G49 19) := hp52.2.1
      have b54 : ((-1) : Int) ≤ (G49 4 4).toInt ∧ (G49 4 4).toInt ≤ 12 := hI50 4 4
      have b55 : (0 : Int) ≤ (G49 4 5).toInt ∧ (G49 4 5).toInt ≤ 6 := hI50 4 5
      have q56 : tY (((G49 4 4).toInt = -1 ∨ (G49 4 5).toInt ≤ 1 ∨ ((G49 4 5).toInt ≤ 2 ∧ ((G49 4 4).toInt = 3 ∨ (G49 4 4).toInt = 4)) ∨ ((G49 4 5).toInt ≤ 4 ∧ (G49 4 4).toInt = 8) ∨ (G49 4 4).toInt = 9)) := hp52.2.2.1
      have q57 : tY (((G49 4 4).toInt = -1 ∨ (G49 4 4).toInt = (G 4 4).toInt)) := hp52.2.2.2.1
      have b58 : (0 : Int) ≤ (G49 4 2).toInt ∧ (G49 4 2).toInt ≤ 1001 := hI50 4 2
      have q59 : ((G49 4 2).toInt ≤ (G 4 2).toInt + 1) := hp52.2.2.2.2.1
      have q60 : tY ((∀ (ts : List hTk) (pl ci : Int), xH (((G 1 3).toInt, pl, (G 1 5).toInt, ci) :: ts) G = if r47.toInt = 0 then xH ts G49 else hBad r47.toInt pl)) := hp52.2.2.2.2.2.1
      have q61 : tY ((r47.toInt ≠ 0 ∨ (G 1 3).toInt ≠ 0)) := hp52.2.2.2.2.2.2
      have rg62 := hp52.1
      clear hp52 hw48
      exact u_iret F hA hQ hr G49 (⟨hI50, (gu_un.tr gu_un.rf (gu_un.su hU51 rfl)), (by have h9 := ti_rng r47; omega), ((xF3.un f3 (show gu_un xcd [403, 405, 406, 407, 1900] G G49 from (gu_un.tr gu_un.rf (gu_un.su hU51 rfl))) rfl rfl rfl)), (q53), (q56), (xN3.no (by have h9 := q57; unfold tY at h9; omega)), (q59), (fun ts pl => q60 ts pl _), (q61)⟩) rfl rfl dX8_takeToken_52
    · refine uz_tq (v := .ref (zf 12)) F hZ.2.2.2.2.1 2 c24 (by decide) (by decide) rfl dX8_takeToken_30 ?_
      refine g_astore_n F [(1, .ref (zf 12)), (0, .ref (a 4))] dX8_takeToken_31 rfl (by decide) rfl ?_
      refine g_aload_n F 0 dX8_takeToken_32 rfl rfl ?_
      refine uz_call0Vi (k := 0) (n := 0) (b := (zf 12)) (As := []) (st := []) F xZ_st hZ (fun sz => S_X1_isSum_c2 l D zf sz) (cwV 0 hts gX8_takeToken_X1_isSum rfl rfl rfl (by decide +kernel) ⟨Nat.le_of_ble_eq_true rfl, Nat.le_of_ble_eq_true rfl⟩) (hZ.2.2.2.2.2 2 (by decide)).1 rfl (Nat.le_of_ble_eq_true rfl) ⟨Nat.zero_le _, Nat.zero_le _⟩ dX8_takeToken_33 (fun r63 _ hw64 => ?_)
      have hw64 : r63.toInt = 0 := hw64
      refine g_fold 0 ((ti_eq rfl (show (0 : Int32).toInt = 0 from rfl)).mpr hw64) ?_
      refine v_if_eq F 47 dX8_takeToken_36 (by decide) 0 rfl (fun c65 => ?_) (fun c65 => absurd c65 (by decide))
      refine g_aload_n F 1 dX8_takeToken_47 rfl rfl ?_
      refine g_aload_n F 0 dX8_takeToken_48 rfl rfl ?_
      refine uz_callVi (k := 0) (n := 0) (b := a 4) (As := [.ref (zf 12)]) (st := []) F xZ_st hZ (fun sz => S_X8_takeOfNumbers_c2 l D K a G zf  (nb) (ck) (by have h9 := ri; unfold tY at h9; omega) hI sz) (cwV 1 hts gX8_takeToken_X8_takeOfNumbers rfl rfl rfl (by decide +kernel) ⟨Nat.le_of_ble_eq_true rfl, Nat.le_of_ble_eq_true rfl⟩) rfl 4 xc_4 rfl (Nat.le_of_ble_eq_true rfl) ⟨Nat.zero_le _, Nat.zero_le _⟩ dX8_takeToken_49 (fun r66 G68 hw67 => ?_)
      have hI69 : xI G68 := hw67.1
      have hU70 : gu_un xcd [403, 405, 406, 407, 1900] G G68 := hw67.2.1
      have hp71 := hw67.2.2
      have q72 : xNb (G68 19) := hp71.2.1
      have b73 : ((-1) : Int) ≤ (G68 4 4).toInt ∧ (G68 4 4).toInt ≤ 12 := hI69 4 4
      have b74 : (0 : Int) ≤ (G68 4 5).toInt ∧ (G68 4 5).toInt ≤ 6 := hI69 4 5
      have q75 : tY (((G68 4 4).toInt = -1 ∨ (G68 4 5).toInt ≤ 1 ∨ ((G68 4 5).toInt ≤ 2 ∧ ((G68 4 4).toInt = 3 ∨ (G68 4 4).toInt = 4)) ∨ ((G68 4 5).toInt ≤ 4 ∧ (G68 4 4).toInt = 8) ∨ (G68 4 4).toInt = 9)) := hp71.2.2.1
      have q76 : tY (((G68 4 4).toInt = -1 ∨ (G68 4 4).toInt = (G 4 4).toInt)) := hp71.2.2.2.1
      have b77 : (0 : Int) ≤ (G68 4 2).toInt ∧ (G68 4 2).toInt ≤ 1001 := hI69 4 2
      have q78 : ((G68 4 2).toInt ≤ (G 4 2).toInt + 1) := hp71.2.2.2.2.1
      have q79 : tY ((∀ (ts : List hTk) (pl ci : Int), xH (((G 1 3).toInt, pl, (G 1 5).toInt, ci) :: ts) G = if r66.toInt = 0 then xH ts G68 else hBad r66.toInt pl)) := hp71.2.2.2.2.2.1
      have q80 : tY ((r66.toInt ≠ 0 ∨ (G 1 3).toInt ≠ 0)) := hp71.2.2.2.2.2.2
      have rg81 := hp71.1
      clear hp71 hw67
      exact u_iret F hA hQ hr G68 (⟨hI69, (gu_un.tr gu_un.rf (gu_un.su hU70 rfl)), (by have h9 := ti_rng r66; omega), ((xF3.un f3 (show gu_un xcd [403, 405, 406, 407, 1900] G G68 from (gu_un.tr gu_un.rf (gu_un.su hU70 rfl))) rfl rfl rfl)), (q72), (q75), (xN3.no (by have h9 := q76; unfold tY at h9; omega)), (q78), (fun ts pl => q79 ts pl _), (q80)⟩) rfl rfl dX8_takeToken_52
    · refine uz_tq (v := .ref (zf 13)) F hZ.2.2.2.2.1 3 c24 (by decide) (by decide) rfl dX8_takeToken_30 ?_
      refine g_astore_n F [(1, .ref (zf 13)), (0, .ref (a 4))] dX8_takeToken_31 rfl (by decide) rfl ?_
      refine g_aload_n F 0 dX8_takeToken_32 rfl rfl ?_
      refine uz_call0Vi (k := 0) (n := 0) (b := (zf 13)) (As := []) (st := []) F xZ_st hZ (fun sz => S_X1_isSum_c3 l D zf sz) (cwV 0 hts gX8_takeToken_X1_isSum rfl rfl rfl (by decide +kernel) ⟨Nat.le_of_ble_eq_true rfl, Nat.le_of_ble_eq_true rfl⟩) (hZ.2.2.2.2.2 3 (by decide)).1 rfl (Nat.le_of_ble_eq_true rfl) ⟨Nat.zero_le _, Nat.zero_le _⟩ dX8_takeToken_33 (fun r82 _ hw83 => ?_)
      have hw83 : r82.toInt = 0 := hw83
      refine g_fold 0 ((ti_eq rfl (show (0 : Int32).toInt = 0 from rfl)).mpr hw83) ?_
      refine v_if_eq F 47 dX8_takeToken_36 (by decide) 0 rfl (fun c84 => ?_) (fun c84 => absurd c84 (by decide))
      refine g_aload_n F 1 dX8_takeToken_47 rfl rfl ?_
      refine g_aload_n F 0 dX8_takeToken_48 rfl rfl ?_
      refine uz_callVi (k := 0) (n := 0) (b := a 4) (As := [.ref (zf 13)]) (st := []) F xZ_st hZ (fun sz => S_X8_takeOfNumbers_c3 l D K a G zf  (nb) (ck) (by have h9 := ri; unfold tY at h9; omega) hI sz) (cwV 1 hts gX8_takeToken_X8_takeOfNumbers rfl rfl rfl (by decide +kernel) ⟨Nat.le_of_ble_eq_true rfl, Nat.le_of_ble_eq_true rfl⟩) rfl 4 xc_4 rfl (Nat.le_of_ble_eq_true rfl) ⟨Nat.zero_le _, Nat.zero_le _⟩ dX8_takeToken_49 (fun r85 G87 hw86 => ?_)
      have hI88 : xI G87 := hw86.1
      have hU89 : gu_un xcd [403, 405, 406, 407, 1900] G G87 := hw86.2.1
      have hp90 := hw86.2.2
      have q91 : xNb (G87 19) := hp90.2.1
      have b92 : ((-1) : Int) ≤ (G87 4 4).toInt ∧ (G87 4 4).toInt ≤ 12 := hI88 4 4
      have b93 : (0 : Int) ≤ (G87 4 5).toInt ∧ (G87 4 5).toInt ≤ 6 := hI88 4 5
      have q94 : tY (((G87 4 4).toInt = -1 ∨ (G87 4 5).toInt ≤ 1 ∨ ((G87 4 5).toInt ≤ 2 ∧ ((G87 4 4).toInt = 3 ∨ (G87 4 4).toInt = 4)) ∨ ((G87 4 5).toInt ≤ 4 ∧ (G87 4 4).toInt = 8) ∨ (G87 4 4).toInt = 9)) := hp90.2.2.1
      have q95 : tY (((G87 4 4).toInt = -1 ∨ (G87 4 4).toInt = (G 4 4).toInt)) := hp90.2.2.2.1
      have b96 : (0 : Int) ≤ (G87 4 2).toInt ∧ (G87 4 2).toInt ≤ 1001 := hI88 4 2
      have q97 : ((G87 4 2).toInt ≤ (G 4 2).toInt + 1) := hp90.2.2.2.2.1
      have q98 : tY ((∀ (ts : List hTk) (pl ci : Int), xH (((G 1 3).toInt, pl, (G 1 5).toInt, ci) :: ts) G = if r85.toInt = 0 then xH ts G87 else hBad r85.toInt pl)) := hp90.2.2.2.2.2.1
      have q99 : tY ((r85.toInt ≠ 0 ∨ (G 1 3).toInt ≠ 0)) := hp90.2.2.2.2.2.2
      have rg100 := hp90.1
      clear hp90 hw86
      exact u_iret F hA hQ hr G87 (⟨hI88, (gu_un.tr gu_un.rf (gu_un.su hU89 rfl)), (by have h9 := ti_rng r85; omega), ((xF3.un f3 (show gu_un xcd [403, 405, 406, 407, 1900] G G87 from (gu_un.tr gu_un.rf (gu_un.su hU89 rfl))) rfl rfl rfl)), (q91), (q94), (xN3.no (by have h9 := q95; unfold tY at h9; omega)), (q97), (fun ts pl => q98 ts pl _), (q99)⟩) rfl rfl dX8_takeToken_52
    · refine uz_tq (v := .ref (zf 14)) F hZ.2.2.2.2.1 4 c24 (by decide) (by decide) rfl dX8_takeToken_30 ?_
      refine g_astore_n F [(1, .ref (zf 14)), (0, .ref (a 4))] dX8_takeToken_31 rfl (by decide) rfl ?_
      refine g_aload_n F 0 dX8_takeToken_32 rfl rfl ?_
      refine uz_call0Vi (k := 0) (n := 0) (b := (zf 14)) (As := []) (st := []) F xZ_st hZ (fun sz => S_X1_isSum_c4 l D zf sz) (cwV 0 hts gX8_takeToken_X1_isSum rfl rfl rfl (by decide +kernel) ⟨Nat.le_of_ble_eq_true rfl, Nat.le_of_ble_eq_true rfl⟩) (hZ.2.2.2.2.2 4 (by decide)).1 rfl (Nat.le_of_ble_eq_true rfl) ⟨Nat.zero_le _, Nat.zero_le _⟩ dX8_takeToken_33 (fun r101 _ hw102 => ?_)
      have hw102 : r101.toInt = 0 := hw102
      refine g_fold 0 ((ti_eq rfl (show (0 : Int32).toInt = 0 from rfl)).mpr hw102) ?_
      refine v_if_eq F 47 dX8_takeToken_36 (by decide) 0 rfl (fun c103 => ?_) (fun c103 => absurd c103 (by decide))
      refine g_aload_n F 1 dX8_takeToken_47 rfl rfl ?_
      refine g_aload_n F 0 dX8_takeToken_48 rfl rfl ?_
      refine uz_callVi (k := 0) (n := 0) (b := a 4) (As := [.ref (zf 14)]) (st := []) F xZ_st hZ (fun sz => S_X8_takeOfNumbers_c4 l D K a G zf  (nb) (ck) (by have h9 := ri; unfold tY at h9; omega) hI sz) (cwV 1 hts gX8_takeToken_X8_takeOfNumbers rfl rfl rfl (by decide +kernel) ⟨Nat.le_of_ble_eq_true rfl, Nat.le_of_ble_eq_true rfl⟩) rfl 4 xc_4 rfl (Nat.le_of_ble_eq_true rfl) ⟨Nat.zero_le _, Nat.zero_le _⟩ dX8_takeToken_49 (fun r104 G106 hw105 => ?_)
      have hI107 : xI G106 := hw105.1
      have hU108 : gu_un xcd [403, 405, 406, 407, 1900] G G106 := hw105.2.1
      have hp109 := hw105.2.2
      have q110 : xNb (G106 19) := hp109.2.1
      have b111 : ((-1) : Int) ≤ (G106 4 4).toInt ∧ (G106 4 4).toInt ≤ 12 := hI107 4 4
      have b112 : (0 : Int) ≤ (G106 4 5).toInt ∧ (G106 4 5).toInt ≤ 6 := hI107 4 5
      have q113 : tY (((G106 4 4).toInt = -1 ∨ (G106 4 5).toInt ≤ 1 ∨ ((G106 4 5).toInt ≤ 2 ∧ ((G106 4 4).toInt = 3 ∨ (G106 4 4).toInt = 4)) ∨ ((G106 4 5).toInt ≤ 4 ∧ (G106 4 4).toInt = 8) ∨ (G106 4 4).toInt = 9)) := hp109.2.2.1
      have q114 : tY (((G106 4 4).toInt = -1 ∨ (G106 4 4).toInt = (G 4 4).toInt)) := hp109.2.2.2.1
      have b115 : (0 : Int) ≤ (G106 4 2).toInt ∧ (G106 4 2).toInt ≤ 1001 := hI107 4 2
      have q116 : ((G106 4 2).toInt ≤ (G 4 2).toInt + 1) := hp109.2.2.2.2.1
      have q117 : tY ((∀ (ts : List hTk) (pl ci : Int), xH (((G 1 3).toInt, pl, (G 1 5).toInt, ci) :: ts) G = if r104.toInt = 0 then xH ts G106 else hBad r104.toInt pl)) := hp109.2.2.2.2.2.1
      have q118 : tY ((r104.toInt ≠ 0 ∨ (G 1 3).toInt ≠ 0)) := hp109.2.2.2.2.2.2
      have rg119 := hp109.1
      clear hp109 hw105
      exact u_iret F hA hQ hr G106 (⟨hI107, (gu_un.tr gu_un.rf (gu_un.su hU108 rfl)), (by have h9 := ti_rng r104; omega), ((xF3.un f3 (show gu_un xcd [403, 405, 406, 407, 1900] G G106 from (gu_un.tr gu_un.rf (gu_un.su hU108 rfl))) rfl rfl rfl)), (q110), (q113), (xN3.no (by have h9 := q114; unfold tY at h9; omega)), (q116), (fun ts pl => q117 ts pl _), (q118)⟩) rfl rfl dX8_takeToken_52
    · refine uz_tq (v := .ref (zf 15)) F hZ.2.2.2.2.1 5 c24 (by decide) (by decide) rfl dX8_takeToken_30 ?_
      refine g_astore_n F [(1, .ref (zf 15)), (0, .ref (a 4))] dX8_takeToken_31 rfl (by decide) rfl ?_
      refine g_aload_n F 0 dX8_takeToken_32 rfl rfl ?_
      refine uz_call0Vi (k := 0) (n := 0) (b := (zf 15)) (As := []) (st := []) F xZ_st hZ (fun sz => S_X1_isSum_c5 l D zf sz) (cwV 0 hts gX8_takeToken_X1_isSum rfl rfl rfl (by decide +kernel) ⟨Nat.le_of_ble_eq_true rfl, Nat.le_of_ble_eq_true rfl⟩) (hZ.2.2.2.2.2 5 (by decide)).1 rfl (Nat.le_of_ble_eq_true rfl) ⟨Nat.zero_le _, Nat.zero_le _⟩ dX8_takeToken_33 (fun r120 _ hw121 => ?_)
      have hw121 : r120.toInt = 0 := hw121
      refine g_fold 0 ((ti_eq rfl (show (0 : Int32).toInt = 0 from rfl)).mpr hw121) ?_
      refine v_if_eq F 47 dX8_takeToken_36 (by decide) 0 rfl (fun c122 => ?_) (fun c122 => absurd c122 (by decide))
      refine g_aload_n F 1 dX8_takeToken_47 rfl rfl ?_
      refine g_aload_n F 0 dX8_takeToken_48 rfl rfl ?_
      refine uz_callVi (k := 0) (n := 0) (b := a 4) (As := [.ref (zf 15)]) (st := []) F xZ_st hZ (fun sz => S_X8_takeOfNumbers_c5 l D K a G zf  (nb) (ck) (by have h9 := ri; unfold tY at h9; omega) hI sz) (cwV 1 hts gX8_takeToken_X8_takeOfNumbers rfl rfl rfl (by decide +kernel) ⟨Nat.le_of_ble_eq_true rfl, Nat.le_of_ble_eq_true rfl⟩) rfl 4 xc_4 rfl (Nat.le_of_ble_eq_true rfl) ⟨Nat.zero_le _, Nat.zero_le _⟩ dX8_takeToken_49 (fun r123 G125 hw124 => ?_)
      have hI126 : xI G125 := hw124.1
      have hU127 : gu_un xcd [403, 405, 406, 407, 1900] G G125 := hw124.2.1
      have hp128 := hw124.2.2
      have q129 : xNb (G125 19) := hp128.2.1
      have b130 : ((-1) : Int) ≤ (G125 4 4).toInt ∧ (G125 4 4).toInt ≤ 12 := hI126 4 4
      have b131 : (0 : Int) ≤ (G125 4 5).toInt ∧ (G125 4 5).toInt ≤ 6 := hI126 4 5
      have q132 : tY (((G125 4 4).toInt = -1 ∨ (G125 4 5).toInt ≤ 1 ∨ ((G125 4 5).toInt ≤ 2 ∧ ((G125 4 4).toInt = 3 ∨ (G125 4 4).toInt = 4)) ∨ ((G125 4 5).toInt ≤ 4 ∧ (G125 4 4).toInt = 8) ∨ (G125 4 4).toInt = 9)) := hp128.2.2.1
      have q133 : tY (((G125 4 4).toInt = -1 ∨ (G125 4 4).toInt = (G 4 4).toInt)) := hp128.2.2.2.1
      have b134 : (0 : Int) ≤ (G125 4 2).toInt ∧ (G125 4 2).toInt ≤ 1001 := hI126 4 2
      have q135 : ((G125 4 2).toInt ≤ (G 4 2).toInt + 1) := hp128.2.2.2.2.1
      have q136 : tY ((∀ (ts : List hTk) (pl ci : Int), xH (((G 1 3).toInt, pl, (G 1 5).toInt, ci) :: ts) G = if r123.toInt = 0 then xH ts G125 else hBad r123.toInt pl)) := hp128.2.2.2.2.2.1
      have q137 : tY ((r123.toInt ≠ 0 ∨ (G 1 3).toInt ≠ 0)) := hp128.2.2.2.2.2.2
      have rg138 := hp128.1
      clear hp128 hw124
      exact u_iret F hA hQ hr G125 (⟨hI126, (gu_un.tr gu_un.rf (gu_un.su hU127 rfl)), (by have h9 := ti_rng r123; omega), ((xF3.un f3 (show gu_un xcd [403, 405, 406, 407, 1900] G G125 from (gu_un.tr gu_un.rf (gu_un.su hU127 rfl))) rfl rfl rfl)), (q129), (q132), (xN3.no (by have h9 := q133; unfold tY at h9; omega)), (q135), (fun ts pl => q136 ts pl _), (q137)⟩) rfl rfl dX8_takeToken_52
    · refine uz_tq (v := .ref (zf 16)) F hZ.2.2.2.2.1 6 c24 (by decide) (by decide) rfl dX8_takeToken_30 ?_
      refine g_astore_n F [(1, .ref (zf 16)), (0, .ref (a 4))] dX8_takeToken_31 rfl (by decide) rfl ?_
      refine g_aload_n F 0 dX8_takeToken_32 rfl rfl ?_
      refine uz_call0Vi (k := 0) (n := 0) (b := (zf 16)) (As := []) (st := []) F xZ_st hZ (fun sz => S_X1_isSum_c6 l D zf sz) (cwV 0 hts gX8_takeToken_X1_isSum rfl rfl rfl (by decide +kernel) ⟨Nat.le_of_ble_eq_true rfl, Nat.le_of_ble_eq_true rfl⟩) (hZ.2.2.2.2.2 6 (by decide)).1 rfl (Nat.le_of_ble_eq_true rfl) ⟨Nat.zero_le _, Nat.zero_le _⟩ dX8_takeToken_33 (fun r139 _ hw140 => ?_)
      have hw140 : r139.toInt = 0 := hw140
      refine g_fold 0 ((ti_eq rfl (show (0 : Int32).toInt = 0 from rfl)).mpr hw140) ?_
      refine v_if_eq F 47 dX8_takeToken_36 (by decide) 0 rfl (fun c141 => ?_) (fun c141 => absurd c141 (by decide))
      refine g_aload_n F 1 dX8_takeToken_47 rfl rfl ?_
      refine g_aload_n F 0 dX8_takeToken_48 rfl rfl ?_
      refine uz_callVi (k := 0) (n := 0) (b := a 4) (As := [.ref (zf 16)]) (st := []) F xZ_st hZ (fun sz => S_X8_takeOfNumbers_c6 l D K a G zf  (nb) (ck) (by have h9 := ri; unfold tY at h9; omega) hI sz) (cwV 1 hts gX8_takeToken_X8_takeOfNumbers rfl rfl rfl (by decide +kernel) ⟨Nat.le_of_ble_eq_true rfl, Nat.le_of_ble_eq_true rfl⟩) rfl 4 xc_4 rfl (Nat.le_of_ble_eq_true rfl) ⟨Nat.zero_le _, Nat.zero_le _⟩ dX8_takeToken_49 (fun r142 G144 hw143 => ?_)
      have hI145 : xI G144 := hw143.1
      have hU146 : gu_un xcd [403, 405, 406, 407, 1900] G G144 := hw143.2.1
      have hp147 := hw143.2.2
      have q148 : xNb (G144 19) := hp147.2.1
      have b149 : ((-1) : Int) ≤ (G144 4 4).toInt ∧ (G144 4 4).toInt ≤ 12 := hI145 4 4
      have b150 : (0 : Int) ≤ (G144 4 5).toInt ∧ (G144 4 5).toInt ≤ 6 := hI145 4 5
      have q151 : tY (((G144 4 4).toInt = -1 ∨ (G144 4 5).toInt ≤ 1 ∨ ((G144 4 5).toInt ≤ 2 ∧ ((G144 4 4).toInt = 3 ∨ (G144 4 4).toInt = 4)) ∨ ((G144 4 5).toInt ≤ 4 ∧ (G144 4 4).toInt = 8) ∨ (G144 4 4).toInt = 9)) := hp147.2.2.1
      have q152 : tY (((G144 4 4).toInt = -1 ∨ (G144 4 4).toInt = (G 4 4).toInt)) := hp147.2.2.2.1
      have b153 : (0 : Int) ≤ (G144 4 2).toInt ∧ (G144 4 2).toInt ≤ 1001 := hI145 4 2
      have q154 : ((G144 4 2).toInt ≤ (G 4 2).toInt + 1) := hp147.2.2.2.2.1
      have q155 : tY ((∀ (ts : List hTk) (pl ci : Int), xH (((G 1 3).toInt, pl, (G 1 5).toInt, ci) :: ts) G = if r142.toInt = 0 then xH ts G144 else hBad r142.toInt pl)) := hp147.2.2.2.2.2.1
      have q156 : tY ((r142.toInt ≠ 0 ∨ (G 1 3).toInt ≠ 0)) := hp147.2.2.2.2.2.2
      have rg157 := hp147.1
      clear hp147 hw143
      exact u_iret F hA hQ hr G144 (⟨hI145, (gu_un.tr gu_un.rf (gu_un.su hU146 rfl)), (by have h9 := ti_rng r142; omega), ((xF3.un f3 (show gu_un xcd [403, 405, 406, 407, 1900] G G144 from (gu_un.tr gu_un.rf (gu_un.su hU146 rfl))) rfl rfl rfl)), (q148), (q151), (xN3.no (by have h9 := q152; unfold tY at h9; omega)), (q154), (fun ts pl => q155 ts pl _), (q156)⟩) rfl rfl dX8_takeToken_52
    · refine uz_tq (v := .ref (zf 17)) F hZ.2.2.2.2.1 7 c24 (by decide) (by decide) rfl dX8_takeToken_30 ?_
      refine g_astore_n F [(1, .ref (zf 17)), (0, .ref (a 4))] dX8_takeToken_31 rfl (by decide) rfl ?_
      refine g_aload_n F 0 dX8_takeToken_32 rfl rfl ?_
      refine uz_call0Vi (k := 0) (n := 0) (b := (zf 17)) (As := []) (st := []) F xZ_st hZ (fun sz => S_X1_isSum_c7 l D zf sz) (cwV 0 hts gX8_takeToken_X1_isSum rfl rfl rfl (by decide +kernel) ⟨Nat.le_of_ble_eq_true rfl, Nat.le_of_ble_eq_true rfl⟩) (hZ.2.2.2.2.2 7 (by decide)).1 rfl (Nat.le_of_ble_eq_true rfl) ⟨Nat.zero_le _, Nat.zero_le _⟩ dX8_takeToken_33 (fun r158 _ hw159 => ?_)
      have hw159 : r158.toInt = 0 := hw159
      refine g_fold 0 ((ti_eq rfl (show (0 : Int32).toInt = 0 from rfl)).mpr hw159) ?_
      refine v_if_eq F 47 dX8_takeToken_36 (by decide) 0 rfl (fun c160 => ?_) (fun c160 => absurd c160 (by decide))
      refine g_aload_n F 1 dX8_takeToken_47 rfl rfl ?_
      refine g_aload_n F 0 dX8_takeToken_48 rfl rfl ?_
      refine uz_callVi (k := 0) (n := 0) (b := a 4) (As := [.ref (zf 17)]) (st := []) F xZ_st hZ (fun sz => S_X8_takeOfNumbers_c7 l D K a G zf  (nb) (ck) (by have h9 := ri; unfold tY at h9; omega) hI sz) (cwV 1 hts gX8_takeToken_X8_takeOfNumbers rfl rfl rfl (by decide +kernel) ⟨Nat.le_of_ble_eq_true rfl, Nat.le_of_ble_eq_true rfl⟩) rfl 4 xc_4 rfl (Nat.le_of_ble_eq_true rfl) ⟨Nat.zero_le _, Nat.zero_le _⟩ dX8_takeToken_49 (fun r161 G163 hw162 => ?_)
      have hI164 : xI G163 := hw162.1
      have hU165 : gu_un xcd [403, 405, 406, 407, 1900] G G163 := hw162.2.1
      have hp166 := hw162.2.2
      have q167 : xNb (G163 19) := hp166.2.1
      have b168 : ((-1) : Int) ≤ (G163 4 4).toInt ∧ (G163 4 4).toInt ≤ 12 := hI164 4 4
      have b169 : (0 : Int) ≤ (G163 4 5).toInt ∧ (G163 4 5).toInt ≤ 6 := hI164 4 5
      have q170 : tY (((G163 4 4).toInt = -1 ∨ (G163 4 5).toInt ≤ 1 ∨ ((G163 4 5).toInt ≤ 2 ∧ ((G163 4 4).toInt = 3 ∨ (G163 4 4).toInt = 4)) ∨ ((G163 4 5).toInt ≤ 4 ∧ (G163 4 4).toInt = 8) ∨ (G163 4 4).toInt = 9)) := hp166.2.2.1
      have q171 : tY (((G163 4 4).toInt = -1 ∨ (G163 4 4).toInt = (G 4 4).toInt)) := hp166.2.2.2.1
      have b172 : (0 : Int) ≤ (G163 4 2).toInt ∧ (G163 4 2).toInt ≤ 1001 := hI164 4 2
      have q173 : ((G163 4 2).toInt ≤ (G 4 2).toInt + 1) := hp166.2.2.2.2.1
      have q174 : tY ((∀ (ts : List hTk) (pl ci : Int), xH (((G 1 3).toInt, pl, (G 1 5).toInt, ci) :: ts) G = if r161.toInt = 0 then xH ts G163 else hBad r161.toInt pl)) := hp166.2.2.2.2.2.1
      have q175 : tY ((r161.toInt ≠ 0 ∨ (G 1 3).toInt ≠ 0)) := hp166.2.2.2.2.2.2
      have rg176 := hp166.1
      clear hp166 hw162
      exact u_iret F hA hQ hr G163 (⟨hI164, (gu_un.tr gu_un.rf (gu_un.su hU165 rfl)), (by have h9 := ti_rng r161; omega), ((xF3.un f3 (show gu_un xcd [403, 405, 406, 407, 1900] G G163 from (gu_un.tr gu_un.rf (gu_un.su hU165 rfl))) rfl rfl rfl)), (q167), (q170), (xN3.no (by have h9 := q171; unfold tY at h9; omega)), (q173), (fun ts pl => q174 ts pl _), (q175)⟩) rfl rfl dX8_takeToken_52
    · refine uz_tq (v := .ref (zf 18)) F hZ.2.2.2.2.1 8 c24 (by decide) (by decide) rfl dX8_takeToken_30 ?_
      refine g_astore_n F [(1, .ref (zf 18)), (0, .ref (a 4))] dX8_takeToken_31 rfl (by decide) rfl ?_
      refine g_aload_n F 0 dX8_takeToken_32 rfl rfl ?_
      refine uz_call0Vi (k := 0) (n := 0) (b := (zf 18)) (As := []) (st := []) F xZ_st hZ (fun sz => S_X1_isSum_c8 l D zf sz) (cwV 0 hts gX8_takeToken_X1_isSum rfl rfl rfl (by decide +kernel) ⟨Nat.le_of_ble_eq_true rfl, Nat.le_of_ble_eq_true rfl⟩) (hZ.2.2.2.2.2 8 (by decide)).1 rfl (Nat.le_of_ble_eq_true rfl) ⟨Nat.zero_le _, Nat.zero_le _⟩ dX8_takeToken_33 (fun r177 _ hw178 => ?_)
      have hw178 : r177.toInt = 0 := hw178
      refine g_fold 0 ((ti_eq rfl (show (0 : Int32).toInt = 0 from rfl)).mpr hw178) ?_
      refine v_if_eq F 47 dX8_takeToken_36 (by decide) 0 rfl (fun c179 => ?_) (fun c179 => absurd c179 (by decide))
      refine g_aload_n F 1 dX8_takeToken_47 rfl rfl ?_
      refine g_aload_n F 0 dX8_takeToken_48 rfl rfl ?_
      refine uz_callVi (k := 0) (n := 0) (b := a 4) (As := [.ref (zf 18)]) (st := []) F xZ_st hZ (fun sz => S_X8_takeOfNumbers_c8 l D K a G zf  (nb) (ck) (by have h9 := ri; unfold tY at h9; omega) hI sz) (cwV 1 hts gX8_takeToken_X8_takeOfNumbers rfl rfl rfl (by decide +kernel) ⟨Nat.le_of_ble_eq_true rfl, Nat.le_of_ble_eq_true rfl⟩) rfl 4 xc_4 rfl (Nat.le_of_ble_eq_true rfl) ⟨Nat.zero_le _, Nat.zero_le _⟩ dX8_takeToken_49 (fun r180 G182 hw181 => ?_)
      have hI183 : xI G182 := hw181.1
      have hU184 : gu_un xcd [403, 405, 406, 407, 1900] G G182 := hw181.2.1
      have hp185 := hw181.2.2
      have q186 : xNb (G182 19) := hp185.2.1
      have b187 : ((-1) : Int) ≤ (G182 4 4).toInt ∧ (G182 4 4).toInt ≤ 12 := hI183 4 4
      have b188 : (0 : Int) ≤ (G182 4 5).toInt ∧ (G182 4 5).toInt ≤ 6 := hI183 4 5
      have q189 : tY (((G182 4 4).toInt = -1 ∨ (G182 4 5).toInt ≤ 1 ∨ ((G182 4 5).toInt ≤ 2 ∧ ((G182 4 4).toInt = 3 ∨ (G182 4 4).toInt = 4)) ∨ ((G182 4 5).toInt ≤ 4 ∧ (G182 4 4).toInt = 8) ∨ (G182 4 4).toInt = 9)) := hp185.2.2.1
      have q190 : tY (((G182 4 4).toInt = -1 ∨ (G182 4 4).toInt = (G 4 4).toInt)) := hp185.2.2.2.1
      have b191 : (0 : Int) ≤ (G182 4 2).toInt ∧ (G182 4 2).toInt ≤ 1001 := hI183 4 2
      have q192 : ((G182 4 2).toInt ≤ (G 4 2).toInt + 1) := hp185.2.2.2.2.1
      have q193 : tY ((∀ (ts : List hTk) (pl ci : Int), xH (((G 1 3).toInt, pl, (G 1 5).toInt, ci) :: ts) G = if r180.toInt = 0 then xH ts G182 else hBad r180.toInt pl)) := hp185.2.2.2.2.2.1
      have q194 : tY ((r180.toInt ≠ 0 ∨ (G 1 3).toInt ≠ 0)) := hp185.2.2.2.2.2.2
      have rg195 := hp185.1
      clear hp185 hw181
      exact u_iret F hA hQ hr G182 (⟨hI183, (gu_un.tr gu_un.rf (gu_un.su hU184 rfl)), (by have h9 := ti_rng r180; omega), ((xF3.un f3 (show gu_un xcd [403, 405, 406, 407, 1900] G G182 from (gu_un.tr gu_un.rf (gu_un.su hU184 rfl))) rfl rfl rfl)), (q186), (q189), (xN3.no (by have h9 := q190; unfold tY at h9; omega)), (q192), (fun ts pl => q193 ts pl _), (q194)⟩) rfl rfl dX8_takeToken_52
    · refine uz_tq (v := .ref (zf 19)) F hZ.2.2.2.2.1 9 c24 (by decide) (by decide) rfl dX8_takeToken_30 ?_
      refine g_astore_n F [(1, .ref (zf 19)), (0, .ref (a 4))] dX8_takeToken_31 rfl (by decide) rfl ?_
      refine g_aload_n F 0 dX8_takeToken_32 rfl rfl ?_
      refine uz_call0Vi (k := 0) (n := 0) (b := (zf 19)) (As := []) (st := []) F xZ_st hZ (fun sz => S_X1_isSum_c9 l D zf sz) (cwV 0 hts gX8_takeToken_X1_isSum rfl rfl rfl (by decide +kernel) ⟨Nat.le_of_ble_eq_true rfl, Nat.le_of_ble_eq_true rfl⟩) (hZ.2.2.2.2.2 9 (by decide)).1 rfl (Nat.le_of_ble_eq_true rfl) ⟨Nat.zero_le _, Nat.zero_le _⟩ dX8_takeToken_33 (fun r196 _ hw197 => ?_)
      have hw197 : r196.toInt = 0 := hw197
      refine g_fold 0 ((ti_eq rfl (show (0 : Int32).toInt = 0 from rfl)).mpr hw197) ?_
      refine v_if_eq F 47 dX8_takeToken_36 (by decide) 0 rfl (fun c198 => ?_) (fun c198 => absurd c198 (by decide))
      refine g_aload_n F 1 dX8_takeToken_47 rfl rfl ?_
      refine g_aload_n F 0 dX8_takeToken_48 rfl rfl ?_
      refine uz_callVi (k := 0) (n := 0) (b := a 4) (As := [.ref (zf 19)]) (st := []) F xZ_st hZ (fun sz => S_X8_takeOfNumbers_c9 l D K a G zf  (nb) (ck) (by have h9 := ri; unfold tY at h9; omega) hI sz) (cwV 1 hts gX8_takeToken_X8_takeOfNumbers rfl rfl rfl (by decide +kernel) ⟨Nat.le_of_ble_eq_true rfl, Nat.le_of_ble_eq_true rfl⟩) rfl 4 xc_4 rfl (Nat.le_of_ble_eq_true rfl) ⟨Nat.zero_le _, Nat.zero_le _⟩ dX8_takeToken_49 (fun r199 G201 hw200 => ?_)
      have hI202 : xI G201 := hw200.1
      have hU203 : gu_un xcd [403, 405, 406, 407, 1900] G G201 := hw200.2.1
      have hp204 := hw200.2.2
      have q205 : xNb (G201 19) := hp204.2.1
      have b206 : ((-1) : Int) ≤ (G201 4 4).toInt ∧ (G201 4 4).toInt ≤ 12 := hI202 4 4
      have b207 : (0 : Int) ≤ (G201 4 5).toInt ∧ (G201 4 5).toInt ≤ 6 := hI202 4 5
      have q208 : tY (((G201 4 4).toInt = -1 ∨ (G201 4 5).toInt ≤ 1 ∨ ((G201 4 5).toInt ≤ 2 ∧ ((G201 4 4).toInt = 3 ∨ (G201 4 4).toInt = 4)) ∨ ((G201 4 5).toInt ≤ 4 ∧ (G201 4 4).toInt = 8) ∨ (G201 4 4).toInt = 9)) := hp204.2.2.1
      have q209 : tY (((G201 4 4).toInt = -1 ∨ (G201 4 4).toInt = (G 4 4).toInt)) := hp204.2.2.2.1
      have b210 : (0 : Int) ≤ (G201 4 2).toInt ∧ (G201 4 2).toInt ≤ 1001 := hI202 4 2
      have q211 : ((G201 4 2).toInt ≤ (G 4 2).toInt + 1) := hp204.2.2.2.2.1
      have q212 : tY ((∀ (ts : List hTk) (pl ci : Int), xH (((G 1 3).toInt, pl, (G 1 5).toInt, ci) :: ts) G = if r199.toInt = 0 then xH ts G201 else hBad r199.toInt pl)) := hp204.2.2.2.2.2.1
      have q213 : tY ((r199.toInt ≠ 0 ∨ (G 1 3).toInt ≠ 0)) := hp204.2.2.2.2.2.2
      have rg214 := hp204.1
      clear hp204 hw200
      exact u_iret F hA hQ hr G201 (⟨hI202, (gu_un.tr gu_un.rf (gu_un.su hU203 rfl)), (by have h9 := ti_rng r199; omega), ((xF3.un f3 (show gu_un xcd [403, 405, 406, 407, 1900] G G201 from (gu_un.tr gu_un.rf (gu_un.su hU203 rfl))) rfl rfl rfl)), (q205), (q208), (xN3.no (by have h9 := q209; unfold tY at h9; omega)), (q211), (fun ts pl => q212 ts pl _), (q213)⟩) rfl rfl dX8_takeToken_52
    · refine uz_tq (v := .ref (zf 20)) F hZ.2.2.2.2.1 10 c24 (by decide) (by decide) rfl dX8_takeToken_30 ?_
      refine g_astore_n F [(1, .ref (zf 20)), (0, .ref (a 4))] dX8_takeToken_31 rfl (by decide) rfl ?_
      refine g_aload_n F 0 dX8_takeToken_32 rfl rfl ?_
      refine uz_call0Vi (k := 0) (n := 0) (b := (zf 20)) (As := []) (st := []) F xZ_st hZ (fun sz => S_X1_isSum_c10 l D zf sz) (cwV 0 hts gX8_takeToken_X1_isSum rfl rfl rfl (by decide +kernel) ⟨Nat.le_of_ble_eq_true rfl, Nat.le_of_ble_eq_true rfl⟩) (hZ.2.2.2.2.2 10 (by decide)).1 rfl (Nat.le_of_ble_eq_true rfl) ⟨Nat.zero_le _, Nat.zero_le _⟩ dX8_takeToken_33 (fun r215 _ hw216 => ?_)
      have hw216 : r215.toInt = 1 := hw216
      refine g_fold 1 ((ti_eq rfl (show (1 : Int32).toInt = 1 from rfl)).mpr hw216) ?_
      refine v_if_eq F 47 dX8_takeToken_36 (by decide) 1 rfl (fun c217 => absurd c217 (by decide)) (fun c217 => ?_)
      refine g_aload_n F 1 dX8_takeToken_39 rfl rfl ?_
      refine g_aload_n F 0 dX8_takeToken_40 rfl rfl ?_
      refine uz_callVi (k := 0) (n := 0) (b := a 4) (As := [.ref (zf 20)]) (st := []) F xZ_st hZ (fun sz => S_X8_takeOfSum_c10 l D K a G zf  (f3) (by (first | omega | (simp only [Int32.reduceToInt, true_and, and_true, ne_eq, not_true_eq_false, false_and, or_false, false_or, true_or, or_true, false_implies] <;> omega))) (n3) (vl) (ck) hI sz) (cwV 1 hts gX8_takeToken_X8_takeOfSum rfl rfl rfl (by decide +kernel) ⟨Nat.le_of_ble_eq_true rfl, Nat.le_of_ble_eq_true rfl⟩) rfl 4 xc_4 rfl (Nat.le_of_ble_eq_true rfl) ⟨Nat.zero_le _, Nat.zero_le _⟩ dX8_takeToken_41 (fun r218 G220 hw219 => ?_)
      have hI221 : xI G220 := hw219.1
      have hU222 : gu_un xcd [403, 405, 1402, 1405, 1406, 1407, 1408, 1409, 2900, 3100] G G220 := hw219.2.1
      have hp223 := hw219.2.2
      have q224 : xF3 G220 := hp223.2.1
      have b225 : ((-1) : Int) ≤ (G220 4 4).toInt ∧ (G220 4 4).toInt ≤ 12 := hI221 4 4
      have q226 : tY ((((G220 4 4).toInt = -1 ∨ (G220 4 4).toInt = (G 4 4).toInt) ∧ (G 4 5).toInt = (G 4 5).toInt)) := by have h9 := hp223.2.2.1; (try simp only [(show G220 4 5 = (G 4 5) from hU222 4 5 (by decide))] at h9); first | exact h9 | (unfold tY; omega)
      have q227 : xN3 G220 := hp223.2.2.2.1
      have b228 : (0 : Int) ≤ (G220 4 2).toInt ∧ (G220 4 2).toInt ≤ 1001 := hI221 4 2
      have q229 : ((G220 4 2).toInt ≤ (G 4 2).toInt + 1) := hp223.2.2.2.2.1
      have q230 : tY ((∀ (ts : List hTk) (pl ci : Int), xH (((G 1 3).toInt, pl, (G 1 5).toInt, ci) :: ts) G = if r218.toInt = 0 then xH ts G220 else hBad r218.toInt pl)) := hp223.2.2.2.2.2.1
      have q231 : tY ((r218.toInt ≠ 0 ∨ (G 1 3).toInt ≠ 0)) := hp223.2.2.2.2.2.2
      have rg232 := hp223.1
      clear hp223 hw219
      refine g_goto F 52 dX8_takeToken_44 (by decide) ?_
      exact u_iret F hA hQ hr G220 (⟨hI221, (gu_un.tr gu_un.rf (gu_un.su hU222 rfl)), (by have h9 := ti_rng r218; omega), (q224), ((xNb.un nb (show gu_un xcd [403, 405, 1402, 1405, 1406, 1407, 1408, 1409, 2900, 3100] G G220 from (gu_un.tr gu_un.rf (gu_un.su hU222 rfl))) rfl)), (by obtain ⟨h8, h7⟩ := (show _ ∧ _ from q226); rw [show G220 4 5 = (G 4 5) from hU222 4 5 (by decide)]; rcases h8 with h8 | h8 <;> first | exact Or.inl h8 | (rw [h8]; exact ri)), (q227), (q229), (fun ts pl => q230 ts pl _), (q231)⟩) rfl rfl dX8_takeToken_52
    · refine uz_tq (v := .ref (zf 21)) F hZ.2.2.2.2.1 11 c24 (by decide) (by decide) rfl dX8_takeToken_30 ?_
      refine g_astore_n F [(1, .ref (zf 21)), (0, .ref (a 4))] dX8_takeToken_31 rfl (by decide) rfl ?_
      refine g_aload_n F 0 dX8_takeToken_32 rfl rfl ?_
      refine uz_call0Vi (k := 0) (n := 0) (b := (zf 21)) (As := []) (st := []) F xZ_st hZ (fun sz => S_X1_isSum_c11 l D zf sz) (cwV 0 hts gX8_takeToken_X1_isSum rfl rfl rfl (by decide +kernel) ⟨Nat.le_of_ble_eq_true rfl, Nat.le_of_ble_eq_true rfl⟩) (hZ.2.2.2.2.2 11 (by decide)).1 rfl (Nat.le_of_ble_eq_true rfl) ⟨Nat.zero_le _, Nat.zero_le _⟩ dX8_takeToken_33 (fun r233 _ hw234 => ?_)
      have hw234 : r233.toInt = 1 := hw234
      refine g_fold 1 ((ti_eq rfl (show (1 : Int32).toInt = 1 from rfl)).mpr hw234) ?_
      refine v_if_eq F 47 dX8_takeToken_36 (by decide) 1 rfl (fun c235 => absurd c235 (by decide)) (fun c235 => ?_)
      refine g_aload_n F 1 dX8_takeToken_39 rfl rfl ?_
      refine g_aload_n F 0 dX8_takeToken_40 rfl rfl ?_
      refine uz_callVi (k := 0) (n := 0) (b := a 4) (As := [.ref (zf 21)]) (st := []) F xZ_st hZ (fun sz => S_X8_takeOfSum_c11 l D K a G zf  (f3) (by (first | omega | (simp only [Int32.reduceToInt, true_and, and_true, ne_eq, not_true_eq_false, false_and, or_false, false_or, true_or, or_true, false_implies] <;> omega))) (n3) (vl) (ck) hI sz) (cwV 1 hts gX8_takeToken_X8_takeOfSum rfl rfl rfl (by decide +kernel) ⟨Nat.le_of_ble_eq_true rfl, Nat.le_of_ble_eq_true rfl⟩) rfl 4 xc_4 rfl (Nat.le_of_ble_eq_true rfl) ⟨Nat.zero_le _, Nat.zero_le _⟩ dX8_takeToken_41 (fun r236 G238 hw237 => ?_)
      have hI239 : xI G238 := hw237.1
      have hU240 : gu_un xcd [403, 405, 1502, 1505, 1506, 1507, 1508, 1509, 3200, 3400] G G238 := hw237.2.1
      have hp241 := hw237.2.2
      have q242 : xF3 G238 := hp241.2.1
      have b243 : ((-1) : Int) ≤ (G238 4 4).toInt ∧ (G238 4 4).toInt ≤ 12 := hI239 4 4
      have q244 : tY ((((G238 4 4).toInt = -1 ∨ (G238 4 4).toInt = (G 4 4).toInt) ∧ (G 4 5).toInt = (G 4 5).toInt)) := by have h9 := hp241.2.2.1; (try simp only [(show G238 4 5 = (G 4 5) from hU240 4 5 (by decide))] at h9); first | exact h9 | (unfold tY; omega)
      have q245 : xN3 G238 := hp241.2.2.2.1
      have b246 : (0 : Int) ≤ (G238 4 2).toInt ∧ (G238 4 2).toInt ≤ 1001 := hI239 4 2
      have q247 : ((G238 4 2).toInt ≤ (G 4 2).toInt + 1) := hp241.2.2.2.2.1
      have q248 : tY ((∀ (ts : List hTk) (pl ci : Int), xH (((G 1 3).toInt, pl, (G 1 5).toInt, ci) :: ts) G = if r236.toInt = 0 then xH ts G238 else hBad r236.toInt pl)) := hp241.2.2.2.2.2.1
      have q249 : tY ((r236.toInt ≠ 0 ∨ (G 1 3).toInt ≠ 0)) := hp241.2.2.2.2.2.2
      have rg250 := hp241.1
      clear hp241 hw237
      refine g_goto F 52 dX8_takeToken_44 (by decide) ?_
      exact u_iret F hA hQ hr G238 (⟨hI239, (gu_un.tr gu_un.rf (gu_un.su hU240 rfl)), (by have h9 := ti_rng r236; omega), (q242), ((xNb.un nb (show gu_un xcd [403, 405, 1502, 1505, 1506, 1507, 1508, 1509, 3200, 3400] G G238 from (gu_un.tr gu_un.rf (gu_un.su hU240 rfl))) rfl)), (by obtain ⟨h8, h7⟩ := (show _ ∧ _ from q244); rw [show G238 4 5 = (G 4 5) from hU240 4 5 (by decide)]; rcases h8 with h8 | h8 <;> first | exact Or.inl h8 | (rw [h8]; exact ri)), (q245), (q247), (fun ts pl => q248 ts pl _), (q249)⟩) rfl rfl dX8_takeToken_52
    · refine uz_tq (v := .ref (zf 22)) F hZ.2.2.2.2.1 12 c24 (by decide) (by decide) rfl dX8_takeToken_30 ?_
      refine g_astore_n F [(1, .ref (zf 22)), (0, .ref (a 4))] dX8_takeToken_31 rfl (by decide) rfl ?_
      refine g_aload_n F 0 dX8_takeToken_32 rfl rfl ?_
      refine uz_call0Vi (k := 0) (n := 0) (b := (zf 22)) (As := []) (st := []) F xZ_st hZ (fun sz => S_X1_isSum_c12 l D zf sz) (cwV 0 hts gX8_takeToken_X1_isSum rfl rfl rfl (by decide +kernel) ⟨Nat.le_of_ble_eq_true rfl, Nat.le_of_ble_eq_true rfl⟩) (hZ.2.2.2.2.2 12 (by decide)).1 rfl (Nat.le_of_ble_eq_true rfl) ⟨Nat.zero_le _, Nat.zero_le _⟩ dX8_takeToken_33 (fun r251 _ hw252 => ?_)
      have hw252 : r251.toInt = 1 := hw252
      refine g_fold 1 ((ti_eq rfl (show (1 : Int32).toInt = 1 from rfl)).mpr hw252) ?_
      refine v_if_eq F 47 dX8_takeToken_36 (by decide) 1 rfl (fun c253 => absurd c253 (by decide)) (fun c253 => ?_)
      refine g_aload_n F 1 dX8_takeToken_39 rfl rfl ?_
      refine g_aload_n F 0 dX8_takeToken_40 rfl rfl ?_
      refine uz_callVi (k := 0) (n := 0) (b := a 4) (As := [.ref (zf 22)]) (st := []) F xZ_st hZ (fun sz => S_X8_takeOfSum_c12 l D K a G zf  (f3) (by (first | omega | (simp only [Int32.reduceToInt, true_and, and_true, ne_eq, not_true_eq_false, false_and, or_false, false_or, true_or, or_true, false_implies] <;> omega))) (n3) (vl) (ck) hI sz) (cwV 1 hts gX8_takeToken_X8_takeOfSum rfl rfl rfl (by decide +kernel) ⟨Nat.le_of_ble_eq_true rfl, Nat.le_of_ble_eq_true rfl⟩) rfl 4 xc_4 rfl (Nat.le_of_ble_eq_true rfl) ⟨Nat.zero_le _, Nat.zero_le _⟩ dX8_takeToken_41 (fun r254 G256 hw255 => ?_)
      have hI257 : xI G256 := hw255.1
      have hU258 : gu_un xcd [403, 405, 1602, 1605, 1606, 1607, 1608, 1609, 3500, 3700] G G256 := hw255.2.1
      have hp259 := hw255.2.2
      have q260 : xF3 G256 := hp259.2.1
      have b261 : ((-1) : Int) ≤ (G256 4 4).toInt ∧ (G256 4 4).toInt ≤ 12 := hI257 4 4
      have q262 : tY ((((G256 4 4).toInt = -1 ∨ (G256 4 4).toInt = (G 4 4).toInt) ∧ (G 4 5).toInt = (G 4 5).toInt)) := by have h9 := hp259.2.2.1; (try simp only [(show G256 4 5 = (G 4 5) from hU258 4 5 (by decide))] at h9); first | exact h9 | (unfold tY; omega)
      have q263 : xN3 G256 := hp259.2.2.2.1
      have b264 : (0 : Int) ≤ (G256 4 2).toInt ∧ (G256 4 2).toInt ≤ 1001 := hI257 4 2
      have q265 : ((G256 4 2).toInt ≤ (G 4 2).toInt + 1) := hp259.2.2.2.2.1
      have q266 : tY ((∀ (ts : List hTk) (pl ci : Int), xH (((G 1 3).toInt, pl, (G 1 5).toInt, ci) :: ts) G = if r254.toInt = 0 then xH ts G256 else hBad r254.toInt pl)) := hp259.2.2.2.2.2.1
      have q267 : tY ((r254.toInt ≠ 0 ∨ (G 1 3).toInt ≠ 0)) := hp259.2.2.2.2.2.2
      have rg268 := hp259.1
      clear hp259 hw255
      refine g_goto F 52 dX8_takeToken_44 (by decide) ?_
      exact u_iret F hA hQ hr G256 (⟨hI257, (gu_un.tr gu_un.rf (gu_un.su hU258 rfl)), (by have h9 := ti_rng r254; omega), (q260), ((xNb.un nb (show gu_un xcd [403, 405, 1602, 1605, 1606, 1607, 1608, 1609, 3500, 3700] G G256 from (gu_un.tr gu_un.rf (gu_un.su hU258 rfl))) rfl)), (by obtain ⟨h8, h7⟩ := (show _ ∧ _ from q262); rw [show G256 4 5 = (G 4 5) from hU258 4 5 (by decide)]; rcases h8 with h8 | h8 <;> first | exact Or.inl h8 | (rw [h8]; exact ri)), (q263), (q265), (fun ts pl => q266 ts pl _), (q267)⟩) rfl rfl dX8_takeToken_52

theorem dX8_read_0 : decode cX8_read 0 = .ok (.aload_n 0, 1) := by decide +kernel
theorem dX8_read_1 : decode cX8_read 1 = .ok (.getfield 15, 3) := by decide +kernel
theorem dX8_read_4 : decode cX8_read 4 = .ok (.invokevirtual 19, 3) := by decide +kernel
theorem dX8_read_7 : decode cX8_read 7 = .ok (.aload_n 0, 1) := by decide +kernel
theorem dX8_read_8 : decode cX8_read 8 = .ok (.iconst 0, 1) := by decide +kernel
theorem dX8_read_9 : decode cX8_read 9 = .ok (.putfield 24, 3) := by decide +kernel
theorem dX8_read_12 : decode cX8_read 12 = .ok (.aload_n 0, 1) := by decide +kernel
theorem dX8_read_13 : decode cX8_read 13 = .ok (.iconst 0, 1) := by decide +kernel
theorem dX8_read_14 : decode cX8_read 14 = .ok (.putfield 28, 3) := by decide +kernel
theorem dX8_read_17 : decode cX8_read 17 = .ok (.aload_n 0, 1) := by decide +kernel
theorem dX8_read_18 : decode cX8_read 18 = .ok (.iconst (-1), 1) := by decide +kernel
theorem dX8_read_19 : decode cX8_read 19 = .ok (.putfield 31, 3) := by decide +kernel
theorem dX8_read_22 : decode cX8_read 22 = .ok (.aload_n 0, 1) := by decide +kernel
theorem dX8_read_23 : decode cX8_read 23 = .ok (.getfield 9, 3) := by decide +kernel
theorem dX8_read_26 : decode cX8_read 26 = .ok (.invokevirtual 34, 3) := by decide +kernel
theorem dX8_read_29 : decode cX8_read 29 = .ok (.iconst 0, 1) := by decide +kernel
theorem dX8_read_30 : decode cX8_read 30 = .ok (.istore_n 1, 1) := by decide +kernel
theorem dX8_read_31 : decode cX8_read 31 = .ok (.iload_n 1, 1) := by decide +kernel
theorem dX8_read_32 : decode cX8_read 32 = .ok (.sipush 1000, 3) := by decide +kernel
theorem dX8_read_35 : decode cX8_read 35 = .ok (.if_icmp .gt 47, 3) := by decide +kernel
theorem dX8_read_38 : decode cX8_read 38 = .ok (.aload_n 0, 1) := by decide +kernel
theorem dX8_read_39 : decode cX8_read 39 = .ok (.getfield 9, 3) := by decide +kernel
theorem dX8_read_42 : decode cX8_read 42 = .ok (.invokevirtual 39, 3) := by decide +kernel
theorem dX8_read_45 : decode cX8_read 45 = .ok (.aload_n 0, 1) := by decide +kernel
theorem dX8_read_46 : decode cX8_read 46 = .ok (.getfield 31, 3) := by decide +kernel
theorem dX8_read_49 : decode cX8_read 49 = .ok (.iconst (-1), 1) := by decide +kernel
theorem dX8_read_50 : decode cX8_read 50 = .ok (.if_icmp .ne 15, 3) := by decide +kernel
theorem dX8_read_53 : decode cX8_read 53 = .ok (.aload_n 0, 1) := by decide +kernel
theorem dX8_read_54 : decode cX8_read 54 = .ok (.getfield 9, 3) := by decide +kernel
theorem dX8_read_57 : decode cX8_read 57 = .ok (.getfield 42, 3) := by decide +kernel
theorem dX8_read_60 : decode cX8_read 60 = .ok (.ifCond .ne 5, 3) := by decide +kernel
theorem dX8_read_63 : decode cX8_read 63 = .ok (.iconst 0, 1) := by decide +kernel
theorem dX8_read_64 : decode cX8_read 64 = .ok (.ireturn, 1) := by decide +kernel
theorem dX8_read_65 : decode cX8_read 65 = .ok (.aload_n 0, 1) := by decide +kernel
theorem dX8_read_66 : decode cX8_read 66 = .ok (.invokevirtual 45, 3) := by decide +kernel
theorem dX8_read_69 : decode cX8_read 69 = .ok (.istore_n 2, 1) := by decide +kernel
theorem dX8_read_70 : decode cX8_read 70 = .ok (.iload_n 2, 1) := by decide +kernel
theorem dX8_read_71 : decode cX8_read 71 = .ok (.ifCond .eq 5, 3) := by decide +kernel
theorem dX8_read_74 : decode cX8_read 74 = .ok (.iload_n 2, 1) := by decide +kernel
theorem dX8_read_75 : decode cX8_read 75 = .ok (.ireturn, 1) := by decide +kernel
theorem dX8_read_76 : decode cX8_read 76 = .ok (.iinc 1 1, 3) := by decide +kernel
theorem dX8_read_79 : decode cX8_read 79 = .ok (.goto (-48), 3) := by decide +kernel
theorem dX8_read_82 : decode cX8_read 82 = .ok (.iconst 1, 1) := by decide +kernel
theorem dX8_read_83 : decode cX8_read 83 = .ok (.ireturn, 1) := by decide +kernel
set_option maxRecDepth 20000 in
theorem ggX8_read_X10_readToken : GoodIn wsX8_read wsX10_readToken := goodIn_r _ [49, 45, 50, 51, 52, 53, 54, 55, 56, 43, 57, 58, 59, 60, 61, 62, 63, 64, 65, 66, 67, 68, 69, 70, 71, 72, 73, 74, 75, 76, 77, 78, 79, 80, 81, 82, 83, 84, 85, 86, 87, 88, 89, 90, 91, 92, 93, 94, 95, 96, 97, 98, 99, 100, 101, 102, 103, 104, 105, 106, 107, 108, 109, 110, 111, 112, 113, 114, 115, 116, 117, 118, 119, 120, 121, 122, 123, 124, 125, 126, 127, 128, 129, 130, 131, 132, 133, 134, 135, 136, 137, 138, 139, 140, 141, 142, 143, 144, 145, 146, 147, 148, 149, 150, 151, 152, 153, 154, 155, 156, 157, 158, 159, 160, 161, 162, 163, 164, 315, 316, 317, 318, 319, 320] rfl (by decide +kernel)
set_option maxRecDepth 20000 in
theorem gX8_read_X10_readToken : GoodIn wsX8_read (wsV RX8 39 RX10 yX10_readToken wsX10_readToken) := goodIn_app (goodIn_of _ (by decide +kernel)) ggX8_read_X10_readToken
set_option maxRecDepth 20000 in
theorem ggX8_read_X10_rewind : GoodIn wsX8_read wsX10_rewind := goodIn_r _ [44, 45, 315, 316, 317, 318, 319, 320] rfl (by decide +kernel)
set_option maxRecDepth 20000 in
theorem gX8_read_X10_rewind : GoodIn wsX8_read (wsV RX8 34 RX10 yX10_rewind wsX10_rewind) := goodIn_app (goodIn_of _ (by decide +kernel)) ggX8_read_X10_rewind
set_option maxRecDepth 20000 in
theorem ggX8_read_X7_beUntold : GoodIn wsX8_read wsX7_beUntold := goodIn_r _ [11, 12, 13, 14, 15, 16, 17, 18, 19, 20, 21, 22, 23, 24, 25, 26, 27, 28, 29, 30, 31, 32, 33, 34, 35, 36, 37, 38, 39, 321, 322, 323, 324, 325, 326, 327, 328, 329, 330, 331, 332, 333] rfl (by decide +kernel)
set_option maxRecDepth 20000 in
theorem gX8_read_X7_beUntold : GoodIn wsX8_read (wsV RX8 19 RX7 yX7_beUntold wsX7_beUntold) := goodIn_app (goodIn_of _ (by decide +kernel)) ggX8_read_X7_beUntold
set_option maxRecDepth 20000 in
theorem ggX8_read_X8_takeToken : GoodIn wsX8_read wsX8_takeToken := goodIn_r _ [169, 4, 170, 171, 172, 173, 168, 174, 5, 175, 3, 176, 1, 177, 178, 179, 180, 43, 181, 53, 45, 51, 182, 93, 94, 79, 95, 85, 96, 97, 98, 99, 90, 91, 54, 55, 56, 57, 50, 58, 183, 184, 185, 186, 86, 87, 88, 89, 187, 188, 102, 189, 190, 191, 192, 136, 193, 194, 139, 195, 196, 197, 119, 198, 199, 200, 201, 130, 131, 132, 202, 144, 145, 146, 147, 148, 149, 203, 204, 205, 206, 207, 208, 209, 210, 211, 212, 213, 214, 215, 10, 216, 18, 19, 20, 217, 218, 219, 28, 220, 30, 221, 222, 223, 224, 225, 226, 227, 228, 229, 230, 231, 232, 233, 234, 52, 235, 236, 237, 238, 239, 240, 241, 242, 243, 244, 245, 246, 247, 248, 249, 250, 251, 252, 253, 31, 32, 33, 34, 35, 254, 255, 256, 257, 2, 258, 259, 260, 261, 262, 263, 264, 265, 266, 267, 268, 269, 270, 271, 272, 273, 274, 275, 276, 277, 278, 279, 280, 281, 282, 283, 284, 285, 77, 78, 80, 81, 82, 83, 84, 92, 100, 101, 103, 104, 105, 106, 107, 108, 109, 110, 111, 112, 113, 114, 115, 116, 117, 118, 120, 121, 122, 123, 124, 125, 126, 127, 128, 129, 133, 134, 135, 137, 138, 140, 141, 142, 143, 150, 151, 152, 153, 154, 155, 156, 157, 158, 159, 160, 161, 162, 163, 164, 286, 287, 288, 289, 290, 6, 291, 292, 293, 294, 295, 296, 297, 298, 299, 300, 301, 12, 302, 303, 304, 305, 306, 307, 308, 309, 310, 311, 312, 313, 314, 315, 316, 317, 318, 319, 320, 321, 322, 323, 324, 325, 326, 327, 328, 329, 330, 331, 332, 333] rfl (by decide +kernel)
set_option maxRecDepth 20000 in
theorem gX8_read_X8_takeToken : GoodIn wsX8_read (wsV RX8 45 RX8 yX8_takeToken wsX8_takeToken) := goodIn_app (goodIn_of _ (by decide +kernel)) ggX8_read_X8_takeToken
set_option maxHeartbeats 4000000 in
set_option maxRecDepth 100000 in
theorem S_X8_read (l : Launch) (D : va_G) (K : Nat → ClassId) (a : Nat → Nat) (G : gS) (zf : Nat → Nat) (f3 : xF3 G) (hI : xI G) (sz : Nat) : KiZ (xZ zf) l yX8_read wsX8_read 8 197 D [.ref (a 4)] (xW K a G) (tK K) sz (fun (r : Int32) (G' : gS) => (xI G') ∧ (gu_un xcd [103, 104, 105, 106, 403, 404, 405, 406, 407, 1402, 1405, 1406, 1407, 1408, 1409, 1502, 1505, 1506, 1507, 1508, 1509, 1602, 1605, 1606, 1607, 1608, 1609, 1900, 2900, 3100, 3200, 3400, 3500, 3700] G G') ∧ (0 ≤ r.toInt ∧ r.toInt ≤ 4) ∧ (xF3 G') ∧ (xNb (G' 19)) ∧ ((∃ (ts : List hTk) (X : gS), tL (G 17) (G 1 1).toInt 0 ts ∧ xIn X ∧ ((r.toInt = 0 ∧ xH ts X = (0, -1, (G' 4 2).toInt, G' 19, tkr (G' 29) ((G' 14 1).toInt).toNat, tkr (G' 32) ((G' 15 1).toInt).toNat, tkr (G' 35) ((G' 16 1).toInt).toNat)) ∨ (r.toInt ≠ 0 ∧ xH ts X = hBad r.toInt (G' 1 4).toInt))))) (fun (G' : gS) => (xW K a G')) := by
  unfold KiZ
  refine gz_ofW (cc := cX8_read) (lv := [(0, .ref (a 4))]) (by decide) rfl (Nat.le_of_ble_eq_true rfl) rfl ?_
  intro p e s m args below meth c A Q hA hQ hZ F hr hnm
  have hts := F.2.2.2.2.1
  have w_0 : (Cond.fieldLink RX8 9 "QuietCut$ShopReader" "tape" "LQuietCut$Tape;").before args s = true := hts _ (List.mem_of_getElem? (i := 5) rfl)
  have i_X8 : ∀ w ∈ u_ws RX8 TX8 7, w ∈ wsX8_read := fun _ h => List.mem_cons_of_mem _ (List.mem_append_left _ (List.mem_append_left _ (List.mem_append_left _ (List.mem_append_right _ h))))
  have w_1 : (Cond.fieldLink RX8 31 "QuietCut$ShopReader" "open" "I").before args s = true := hts _ (List.mem_of_getElem? (i := 4) rfl)
  have w_2 : (Cond.fieldLink RX8 42 "QuietCut$Tape" "kind" "I").before args s = true := hts _ (List.mem_of_getElem? (i := 6) rfl)
  have i_X10 : ∀ w ∈ u_ws RX10 TX10 6, w ∈ wsX8_read := fun _ h => List.mem_cons_of_mem _ (List.mem_append_left _ (List.mem_append_left _ (List.mem_append_right _ h)))
  have w_3 : (Cond.fieldLink RX8 15 "QuietCut$ShopReader" "target" "LQuietCut$Shop;").before args s = true := hts _ (List.mem_of_getElem? (i := 1) rfl)
  have w_4 : (Cond.fieldLink RX8 24 "QuietCut$ShopReader" "clauses" "I").before args s = true := hts _ (List.mem_of_getElem? (i := 2) rfl)
  have w_5 : (Cond.fieldLink RX8 28 "QuietCut$ShopReader" "wordsTold" "I").before args s = true := hts _ (List.mem_of_getElem? (i := 3) rfl)
  have b1 : (0 : Int) ≤ (G 1 1).toInt ∧ (G 1 1).toInt ≤ 1000 := hI 1 1
  have J_31 : ∀ (fuel : Nat) (x31_1 : Int32) (Gj31 : gS), (2147483647 - x31_1.toInt).toNat < fuel → (0 ≤ x31_1.toInt ∧ x31_1.toInt ≤ 1001) → (xI Gj31) → (gu_un xcd [103, 104, 105, 106, 403, 404, 405, 406, 407, 1402, 1405, 1406, 1407, 1408, 1409, 1502, 1505, 1506, 1507, 1508, 1509, 1602, 1605, 1606, 1607, 1608, 1609, 1900, 2900, 3100, 3200, 3400, 3500, 3700] G Gj31) → (xF3 Gj31) → (xNb (Gj31 19)) → ((tY ((Gj31 4 4).toInt = -1 ∨ (Gj31 4 5).toInt ≤ 1 ∨ ((Gj31 4 5).toInt ≤ 2 ∧ ((Gj31 4 4).toInt = 3 ∨ (Gj31 4 4).toInt = 4)) ∨ ((Gj31 4 5).toInt ≤ 4 ∧ (Gj31 4 4).toInt = 8) ∨ (Gj31 4 4).toInt = 9))) → (xN3 Gj31) → (((Gj31 4 2).toInt ≤ x31_1.toInt)) → ((x31_1.toInt ≤ (Gj31 1 2).toInt ∧ (Gj31 1 2).toInt ≤ (G 1 1).toInt)) → (∃ (ts0 : List hTk) (X : gS), tL (G 17) (G 1 1).toInt 0 ts0 ∧ xIn X ∧ ∃ ts : List hTk, tL (G 17) (G 1 1).toInt (Gj31 1 2).toInt ts ∧ xH ts Gj31 = xH ts0 X) → gG p l e (gR 8 0 0 197) s m args below meth c D A 3 Q 0 0 (xW K a Gj31) (tK K) [(0, .ref (a 4)), (1, .int x31_1)] 31 [] := by
    intro fuel
    induction fuel with
    | zero => intro x31_1 Gj31 hm; exact absurd hm (Nat.not_lt_zero _)
    | succ fuel_31 ih_31 =>
      intro x31_1 Gj31 hm_31 h31_1 jI31 jU31 f3_31 nb_31 ri_31 n3_31 ck_31 nn rd
      refine g_iload_n F 1 dX8_read_31 rfl rfl ?_
      refine g_sipush F 1000 dX8_read_32 (by decide) ?_
      refine v_icmp_gt F 82 dX8_read_35 (by decide) x31_1.toInt 1000 rfl rfl (fun c2 => ?_) (fun c2 => ?_)
      · refine g_iconst F 1 dX8_read_82 (by decide) ?_
        exact u_iret F hA hQ hr Gj31 (⟨jI31, (gu_un.tr gu_un.rf (gu_un.su jU31 rfl)), (by decide), (f3_31), (nb_31), (by exfalso; omega)⟩) rfl rfl dX8_read_83
      · refine g_aload_n F 0 dX8_read_38 rfl rfl ?_
        refine xg_4_0 F i_X8 w_0 dX8_read_39 ?_
        refine uz_callVv (k := 0) (n := 0) (b := a 1) (As := []) (st := []) F xZ_st hZ (fun sz => S_X10_readToken l D K a Gj31 zf  jI31 sz) (cwV 0 hts gX8_read_X10_readToken rfl rfl rfl (by decide +kernel) ⟨Nat.le_of_ble_eq_true rfl, Nat.le_of_ble_eq_true rfl⟩) rfl 1 xc_1 rfl (Nat.le_of_ble_eq_true rfl) ⟨Nat.zero_le _, Nat.zero_le _⟩ dX8_read_42 (fun G5 hw4 => ?_)
        have hI6 : xI G5 := hw4.1
        have hU7 : gu_un xcd [103, 104, 105, 106] Gj31 G5 := hw4.2.1
        have hp8 := hw4.2.2
        have b9 : (0 : Int) ≤ (Gj31 1 2).toInt ∧ (Gj31 1 2).toInt ≤ 1000 := jI31 1 2
        have b10 : (0 : Int) ≤ (G5 1 3).toInt ∧ (G5 1 3).toInt ≤ 4 := hI6 1 3
        have b11 : (0 : Int) ≤ (G5 1 4).toInt ∧ (G5 1 4).toInt ≤ 1000 := hI6 1 4
        have b12 : (0 : Int) ≤ (G5 1 2).toInt ∧ (G5 1 2).toInt ≤ 1000 := hI6 1 2
        have q13 : tTok (G 17) (G 1 1).toInt (Gj31 1 2).toInt (G5 1 3).toInt (G5 1 4).toInt (G5 1 5).toInt (G5 1 2).toInt := by have h9 := hp8.1; (try simp only [(show Gj31 1 1 = (G 1 1) from jU31 1 1 (by decide)), (show Gj31 17 = (G 17) from (show Gj31 17 = G 17 from funext fun k_ => jU31 17 k_ (show (1700 : Nat) ∉ ([103, 104, 105, 106, 403, 404, 405, 406, 407, 1402, 1405, 1406, 1407, 1408, 1409, 1502, 1505, 1506, 1507, 1508, 1509, 1602, 1605, 1606, 1607, 1608, 1609, 1900, 2900, 3100, 3200, 3400, 3500, 3700] : List Nat) by decide)))] at h9); first | exact h9 | omega
        have q14 : tY (((G5 1 3).toInt = 1 → (((G5 1 2).toInt - (G5 1 4).toInt = 1 ∧ (G5 1 5).toInt = yBi (G 17) (G 1 1).toInt (G5 1 4).toInt) ∨ ((G5 1 2).toInt - (G5 1 4).toInt ≠ 1 ∧ (G5 1 5).toInt = 0)))) := by have h9 := hp8.2; (try simp only [(show Gj31 1 1 = (G 1 1) from jU31 1 1 (by decide)), (show Gj31 17 = (G 17) from (show Gj31 17 = G 17 from funext fun k_ => jU31 17 k_ (show (1700 : Nat) ∉ ([103, 104, 105, 106, 403, 404, 405, 406, 407, 1402, 1405, 1406, 1407, 1408, 1409, 1502, 1505, 1506, 1507, 1508, 1509, 1602, 1605, 1606, 1607, 1608, 1609, 1900, 2900, 3100, 3200, 3400, 3500, 3700] : List Nat) by decide)))] at h9); first | exact h9 | (unfold tY; omega)
        have tl15 : tY _ := (show tTok _ _ _ _ _ _ _ from q13).lt (by omega)
        have tl16 := (show _ ∧ _ from tl15).1
        have tl17 := (show _ ∧ _ ∧ _ from tl15).2.1
        have tl18 := (show _ ∧ _ ∧ _ ∧ _ from tl15).2.2.1
        have tr19 := yBi_rng (b := G 17) (n := (G 1 1).toInt) (k := (G5 1 4).toInt)
        clear hp8 hw4
        refine g_aload_n F 0 dX8_read_45 rfl rfl ?_
        refine xg_4_4 F i_X8 w_1 dX8_read_46 (Gj31 4 4) (hU7 4 4 (by decide)) ?_
        refine g_iconst F (-1) dX8_read_49 (by decide) ?_
        have b20 : ((-1) : Int) ≤ (Gj31 4 4).toInt ∧ (Gj31 4 4).toInt ≤ 12 := jI31 4 4
        refine v_icmp_ne F 65 dX8_read_50 (by decide) (Gj31 4 4).toInt (-1) rfl rfl (fun c21 => ?_) (fun c21 => ?_)
        · refine g_aload_n F 0 dX8_read_65 rfl rfl ?_
          have b22 : (0 : Int) ≤ (Gj31 4 2).toInt ∧ (Gj31 4 2).toInt ≤ 1001 := jI31 4 2
          refine uz_callVi (k := 0) (n := 0) (b := a 4) (As := []) (st := []) F xZ_st hZ (fun sz => S_X8_takeToken l D K a G5 zf  ((xF3.un f3_31 (show gu_un xcd [103, 104, 105, 106] Gj31 G5 from (gu_un.tr gu_un.rf (gu_un.su hU7 rfl))) rfl rfl rfl)) ((xNb.un nb_31 (show gu_un xcd [103, 104, 105, 106] Gj31 G5 from (gu_un.tr gu_un.rf (gu_un.su hU7 rfl))) rfl)) (by rw [show G5 4 4 = (Gj31 4 4) from hU7 4 4 (by decide), show G5 4 5 = (Gj31 4 5) from hU7 4 5 (by decide)]; exact ri_31) ((xN3.un n3_31 (show gu_un xcd [103, 104, 105, 106] Gj31 G5 from (gu_un.tr gu_un.rf (gu_un.su hU7 rfl))) rfl)) (by have h9 := q14; have h8 := tr19; unfold tY at h9 ⊢; omega) (by have e9_4_2 : G5 4 2 = (Gj31 4 2) := hU7 4 2 (by decide); (try simp only [e9_4_2, true_and, and_true]) <;> (first | omega | (simp only [Int32.reduceToInt, true_and, and_true, ne_eq, not_true_eq_false, false_and, or_false, false_or, true_or, or_true, false_implies] <;> omega))) (by unfold tY; have e9_4_4 : G5 4 4 = (Gj31 4 4) := hU7 4 4 (by decide); (try simp only [e9_4_4, true_and, and_true]) <;> omega) (by (first | omega | (simp only [Int32.reduceToInt, true_and, and_true, ne_eq, not_true_eq_false, false_and, or_false, false_or, true_or, or_true, false_implies] <;> omega))) hI6 sz) (cwV 0 hts gX8_read_X8_takeToken rfl rfl rfl (by decide +kernel) ⟨Nat.le_of_ble_eq_true rfl, Nat.le_of_ble_eq_true rfl⟩) rfl 4 xc_4 rfl (Nat.le_of_ble_eq_true rfl) ⟨Nat.zero_le _, Nat.zero_le _⟩ dX8_read_66 (fun r23 G25 hw24 => ?_)
          have hI26 : xI G25 := hw24.1
          have hU27 : gu_un xcd [403, 404, 405, 406, 407, 1402, 1405, 1406, 1407, 1408, 1409, 1502, 1505, 1506, 1507, 1508, 1509, 1602, 1605, 1606, 1607, 1608, 1609, 1900, 2900, 3100, 3200, 3400, 3500, 3700] G5 G25 := hw24.2.1
          have hp28 := hw24.2.2
          have q29 : xF3 G25 := hp28.2.1
          have q30 : xNb (G25 19) := hp28.2.2.1
          have b31 : ((-1) : Int) ≤ (G25 4 4).toInt ∧ (G25 4 4).toInt ≤ 12 := hI26 4 4
          have b32 : (0 : Int) ≤ (G25 4 5).toInt ∧ (G25 4 5).toInt ≤ 6 := hI26 4 5
          have q33 : tY (((G25 4 4).toInt = -1 ∨ (G25 4 5).toInt ≤ 1 ∨ ((G25 4 5).toInt ≤ 2 ∧ ((G25 4 4).toInt = 3 ∨ (G25 4 4).toInt = 4)) ∨ ((G25 4 5).toInt ≤ 4 ∧ (G25 4 4).toInt = 8) ∨ (G25 4 4).toInt = 9)) := hp28.2.2.2.1
          have q34 : xN3 G25 := hp28.2.2.2.2.1
          have b35 : (0 : Int) ≤ (G25 4 2).toInt ∧ (G25 4 2).toInt ≤ 1001 := hI26 4 2
          have q36 : ((G25 4 2).toInt ≤ (Gj31 4 2).toInt + 1) := by have h9 := hp28.2.2.2.2.2.1; (try simp only [(show G5 4 2 = (Gj31 4 2) from hU7 4 2 (by decide))] at h9); first | exact h9 | omega
          have q37 : tY ((∀ (ts : List hTk) (pl : Int), xH (((G5 1 3).toInt, pl, (G5 1 5).toInt, cix (G5 1 3).toInt (tW (G 17) (G 1 1).toInt (G5 1 4).toInt (G5 1 2).toInt)) :: ts) G5 = if r23.toInt = 0 then xH ts G25 else hBad r23.toInt pl)) := by have h9 := hp28.2.2.2.2.2.2.1; (try simp only [(show G5 1 1 = (G 1 1) from (hU7 1 1 (by decide)).trans (jU31 1 1 (by decide))), (show G5 17 = (G 17) from (show G5 17 = Gj31 17 from funext fun k_ => hU7 17 k_ (show (1700 : Nat) ∉ ([103, 104, 105, 106] : List Nat) by decide)).trans ((show Gj31 17 = G 17 from funext fun k_ => jU31 17 k_ (show (1700 : Nat) ∉ ([103, 104, 105, 106, 403, 404, 405, 406, 407, 1402, 1405, 1406, 1407, 1408, 1409, 1502, 1505, 1506, 1507, 1508, 1509, 1602, 1605, 1606, 1607, 1608, 1609, 1900, 2900, 3100, 3200, 3400, 3500, 3700] : List Nat) by decide))))] at h9); first | exact h9 | (unfold tY; omega)
          have q38 : tY ((r23.toInt ≠ 0 ∨ (G5 1 3).toInt ≠ 0)) := hp28.2.2.2.2.2.2.2
          have rg39 := hp28.1
          clear hp28 hw24
          refine g_istore_n F [(2, .int r23), (0, .ref (a 4)), (1, .int x31_1)] dX8_read_69 rfl (by decide) rfl ?_
          refine g_iload_n F 0 dX8_read_70 rfl rfl ?_
          refine v_if_eq F 76 dX8_read_71 (by decide) r23.toInt rfl (fun c40 => ?_) (fun c40 => ?_)
          · refine u_iinc F (fun v_ => [(1, .int v_), (2, .int r23), (0, .ref (a 4))]) dX8_read_76 (j := 2) rfl x31_1.toInt 1 rfl rfl (by omega) (by omega) (by decide) (fun _ => rfl) (fun y41 ey41 => ?_)
            refine g_goto F 31 dX8_read_79 (by decide) ?_
            refine g_locals [(0, .ref (a 4)), (1, .int y41)] [2, 0] rfl ?_
            exact ih_31 y41 G25 (by omega) (by have h9 := ti_rng y41; omega) hI26 (gu_un.tr (gu_un.tr (gu_un.tr gu_un.rf (gu_un.su jU31 rfl)) (gu_un.su hU7 rfl)) (gu_un.su hU27 rfl)) (q29) (q30) (q33) (q34) (by (first | omega | (simp only [Int32.reduceToInt, true_and, and_true, ne_eq, not_true_eq_false, false_and, or_false, false_or, true_or, or_true, false_implies] <;> omega))) (by have h7 := (show _ ∧ _ ∧ _ ∧ _ ∧ _ from tl15).2.2.2.1 (by have h9 := q38; unfold tY at h9; omega); have e9_1_1 : G25 1 1 = (G 1 1) := (hU27 1 1 (by decide)).trans ((hU7 1 1 (by decide)).trans (jU31 1 1 (by decide))); have e9_1_2 : G25 1 2 = (G5 1 2) := hU27 1 2 (by decide); (try simp only [e9_1_1, e9_1_2, true_and, and_true]) <;> omega) (by obtain ⟨ts0, X, h1, h2, ts, h3, h4⟩ := rd; obtain ⟨ts9, h5, h6⟩ := (rd_step h3 h4 q13 (by omega) q14 (xH_un (show gu_un xcd [103, 104, 105, 106] Gj31 G5 from (gu_un.tr gu_un.rf (gu_un.su hU7 rfl))) rfl rfl rfl rfl) q37).1 (by omega) (by have h9 := q38; unfold tY at h9; omega); exact ⟨ts0, X, h1, h2, ts9, by rw [show G25 1 2 = (G5 1 2) from hU27 1 2 (by decide)]; exact h5, h6⟩)
          · refine g_iload_n F 0 dX8_read_74 rfl rfl ?_
            exact u_iret F hA hQ hr G25 (⟨hI26, (gu_un.tr (gu_un.tr (gu_un.tr gu_un.rf (gu_un.su jU31 rfl)) (gu_un.su hU7 rfl)) (gu_un.su hU27 rfl)), (by have h9 := ti_rng r23; omega), (q29), (q30), (by obtain ⟨ts0, X, h1, h2, ts, h3, h4⟩ := rd; have h5 := (rd_step h3 h4 q13 (by omega) q14 (xH_un (show gu_un xcd [103, 104, 105, 106] Gj31 G5 from (gu_un.tr gu_un.rf (gu_un.su hU7 rfl))) rfl rfl rfl rfl) q37).2 (by omega); exact ⟨ts0, X, h1, h2, Or.inr ⟨by omega, by rw [show G25 1 4 = (G5 1 4) from hU27 1 4 (by decide)]; exact h5⟩⟩)⟩) rfl rfl dX8_read_75
        · refine g_aload_n F 0 dX8_read_53 rfl rfl ?_
          refine xg_4_0 F i_X8 w_0 dX8_read_54 ?_
          refine xg_1_3 F i_X10 w_2 dX8_read_57 (G5 1 3) (rfl) ?_
          refine v_if_ne F 65 dX8_read_60 (by decide) (G5 1 3).toInt rfl (fun c42 => ?_) (fun c42 => ?_)
          · refine g_aload_n F 0 dX8_read_65 rfl rfl ?_
            have b43 : (0 : Int) ≤ (Gj31 4 2).toInt ∧ (Gj31 4 2).toInt ≤ 1001 := jI31 4 2
            refine uz_callVi (k := 0) (n := 0) (b := a 4) (As := []) (st := []) F xZ_st hZ (fun sz => S_X8_takeToken l D K a G5 zf  ((xF3.un f3_31 (show gu_un xcd [103, 104, 105, 106] Gj31 G5 from (gu_un.tr gu_un.rf (gu_un.su hU7 rfl))) rfl rfl rfl)) ((xNb.un nb_31 (show gu_un xcd [103, 104, 105, 106] Gj31 G5 from (gu_un.tr gu_un.rf (gu_un.su hU7 rfl))) rfl)) (by rw [show G5 4 4 = (Gj31 4 4) from hU7 4 4 (by decide), show G5 4 5 = (Gj31 4 5) from hU7 4 5 (by decide)]; exact ri_31) ((xN3.un n3_31 (show gu_un xcd [103, 104, 105, 106] Gj31 G5 from (gu_un.tr gu_un.rf (gu_un.su hU7 rfl))) rfl)) (by have h9 := q14; have h8 := tr19; unfold tY at h9 ⊢; omega) (by have e9_4_2 : G5 4 2 = (Gj31 4 2) := hU7 4 2 (by decide); (try simp only [e9_4_2, true_and, and_true]) <;> (first | omega | (simp only [Int32.reduceToInt, true_and, and_true, ne_eq, not_true_eq_false, false_and, or_false, false_or, true_or, or_true, false_implies] <;> omega))) (by unfold tY; have e9_4_4 : G5 4 4 = (Gj31 4 4) := hU7 4 4 (by decide); (try simp only [e9_4_4, true_and, and_true]) <;> omega) (by (first | omega | (simp only [Int32.reduceToInt, true_and, and_true, ne_eq, not_true_eq_false, false_and, or_false, false_or, true_or, or_true, false_implies] <;> omega))) hI6 sz) (cwV 0 hts gX8_read_X8_takeToken rfl rfl rfl (by decide +kernel) ⟨Nat.le_of_ble_eq_true rfl, Nat.le_of_ble_eq_true rfl⟩) rfl 4 xc_4 rfl (Nat.le_of_ble_eq_true rfl) ⟨Nat.zero_le _, Nat.zero_le _⟩ dX8_read_66 (fun r44 G46 hw45 => ?_)
            have hI47 : xI G46 := hw45.1
            have hU48 : gu_un xcd [403, 404, 405, 406, 407, 1402, 1405, 1406, 1407, 1408, 1409, 1502, 1505, 1506, 1507, 1508, 1509, 1602, 1605, 1606, 1607, 1608, 1609, 1900, 2900, 3100, 3200, 3400, 3500, 3700] G5 G46 := hw45.2.1
            have hp49 := hw45.2.2
            have q50 : xF3 G46 := hp49.2.1
            have q51 : xNb (G46 19) := hp49.2.2.1
            have b52 : ((-1) : Int) ≤ (G46 4 4).toInt ∧ (G46 4 4).toInt ≤ 12 := hI47 4 4
            have b53 : (0 : Int) ≤ (G46 4 5).toInt ∧ (G46 4 5).toInt ≤ 6 := hI47 4 5
            have q54 : tY (((G46 4 4).toInt = -1 ∨ (G46 4 5).toInt ≤ 1 ∨ ((G46 4 5).toInt ≤ 2 ∧ ((G46 4 4).toInt = 3 ∨ (G46 4 4).toInt = 4)) ∨ ((G46 4 5).toInt ≤ 4 ∧ (G46 4 4).toInt = 8) ∨ (G46 4 4).toInt = 9)) := hp49.2.2.2.1
            have q55 : xN3 G46 := hp49.2.2.2.2.1
            have b56 : (0 : Int) ≤ (G46 4 2).toInt ∧ (G46 4 2).toInt ≤ 1001 := hI47 4 2
            have q57 : ((G46 4 2).toInt ≤ (Gj31 4 2).toInt + 1) := by have h9 := hp49.2.2.2.2.2.1; (try simp only [(show G5 4 2 = (Gj31 4 2) from hU7 4 2 (by decide))] at h9); first | exact h9 | omega
            have q58 : tY ((∀ (ts : List hTk) (pl : Int), xH (((G5 1 3).toInt, pl, (G5 1 5).toInt, cix (G5 1 3).toInt (tW (G 17) (G 1 1).toInt (G5 1 4).toInt (G5 1 2).toInt)) :: ts) G5 = if r44.toInt = 0 then xH ts G46 else hBad r44.toInt pl)) := by have h9 := hp49.2.2.2.2.2.2.1; (try simp only [(show G5 1 1 = (G 1 1) from (hU7 1 1 (by decide)).trans (jU31 1 1 (by decide))), (show G5 17 = (G 17) from (show G5 17 = Gj31 17 from funext fun k_ => hU7 17 k_ (show (1700 : Nat) ∉ ([103, 104, 105, 106] : List Nat) by decide)).trans ((show Gj31 17 = G 17 from funext fun k_ => jU31 17 k_ (show (1700 : Nat) ∉ ([103, 104, 105, 106, 403, 404, 405, 406, 407, 1402, 1405, 1406, 1407, 1408, 1409, 1502, 1505, 1506, 1507, 1508, 1509, 1602, 1605, 1606, 1607, 1608, 1609, 1900, 2900, 3100, 3200, 3400, 3500, 3700] : List Nat) by decide))))] at h9); first | exact h9 | (unfold tY; omega)
            have q59 : tY ((r44.toInt ≠ 0 ∨ (G5 1 3).toInt ≠ 0)) := hp49.2.2.2.2.2.2.2
            have rg60 := hp49.1
            clear hp49 hw45
            refine g_istore_n F [(2, .int r44), (0, .ref (a 4)), (1, .int x31_1)] dX8_read_69 rfl (by decide) rfl ?_
            refine g_iload_n F 0 dX8_read_70 rfl rfl ?_
            refine v_if_eq F 76 dX8_read_71 (by decide) r44.toInt rfl (fun c61 => ?_) (fun c61 => ?_)
            · refine u_iinc F (fun v_ => [(1, .int v_), (2, .int r44), (0, .ref (a 4))]) dX8_read_76 (j := 2) rfl x31_1.toInt 1 rfl rfl (by omega) (by omega) (by decide) (fun _ => rfl) (fun y62 ey62 => ?_)
              refine g_goto F 31 dX8_read_79 (by decide) ?_
              refine g_locals [(0, .ref (a 4)), (1, .int y62)] [2, 0] rfl ?_
              exact ih_31 y62 G46 (by omega) (by have h9 := ti_rng y62; omega) hI47 (gu_un.tr (gu_un.tr (gu_un.tr gu_un.rf (gu_un.su jU31 rfl)) (gu_un.su hU7 rfl)) (gu_un.su hU48 rfl)) (q50) (q51) (q54) (q55) (by (first | omega | (simp only [Int32.reduceToInt, true_and, and_true, ne_eq, not_true_eq_false, false_and, or_false, false_or, true_or, or_true, false_implies] <;> omega))) (by have h7 := (show _ ∧ _ ∧ _ ∧ _ ∧ _ from tl15).2.2.2.1 (by have h9 := q59; unfold tY at h9; omega); have e9_1_1 : G46 1 1 = (G 1 1) := (hU48 1 1 (by decide)).trans ((hU7 1 1 (by decide)).trans (jU31 1 1 (by decide))); have e9_1_2 : G46 1 2 = (G5 1 2) := hU48 1 2 (by decide); (try simp only [e9_1_1, e9_1_2, true_and, and_true]) <;> omega) (by obtain ⟨ts0, X, h1, h2, ts, h3, h4⟩ := rd; obtain ⟨ts9, h5, h6⟩ := (rd_step h3 h4 q13 (by omega) q14 (xH_un (show gu_un xcd [103, 104, 105, 106] Gj31 G5 from (gu_un.tr gu_un.rf (gu_un.su hU7 rfl))) rfl rfl rfl rfl) q58).1 (by omega) (by have h9 := q59; unfold tY at h9; omega); exact ⟨ts0, X, h1, h2, ts9, by rw [show G46 1 2 = (G5 1 2) from hU48 1 2 (by decide)]; exact h5, h6⟩)
            · refine g_iload_n F 0 dX8_read_74 rfl rfl ?_
              exact u_iret F hA hQ hr G46 (⟨hI47, (gu_un.tr (gu_un.tr (gu_un.tr gu_un.rf (gu_un.su jU31 rfl)) (gu_un.su hU7 rfl)) (gu_un.su hU48 rfl)), (by have h9 := ti_rng r44; omega), (q50), (q51), (by obtain ⟨ts0, X, h1, h2, ts, h3, h4⟩ := rd; have h5 := (rd_step h3 h4 q13 (by omega) q14 (xH_un (show gu_un xcd [103, 104, 105, 106] Gj31 G5 from (gu_un.tr gu_un.rf (gu_un.su hU7 rfl))) rfl rfl rfl rfl) q58).2 (by omega); exact ⟨ts0, X, h1, h2, Or.inr ⟨by omega, by rw [show G46 1 4 = (G5 1 4) from hU48 1 4 (by decide)]; exact h5⟩⟩)⟩) rfl rfl dX8_read_75
          · refine g_iconst F 0 dX8_read_63 (by decide) ?_
            exact u_iret F hA hQ hr G5 (⟨hI6, (gu_un.tr (gu_un.tr gu_un.rf (gu_un.su jU31 rfl)) (gu_un.su hU7 rfl)), (by decide), ((xF3.un f3_31 (show gu_un xcd [103, 104, 105, 106] Gj31 G5 from (gu_un.tr gu_un.rf (gu_un.su hU7 rfl))) rfl rfl rfl)), ((xNb.un nb_31 (show gu_un xcd [103, 104, 105, 106] Gj31 G5 from (gu_un.tr gu_un.rf (gu_un.su hU7 rfl))) rfl)), (by obtain ⟨ts0, X, h1, h2, ts, h3, h4⟩ := rd; have h5 := rd_end h3 h4 q13 (by omega) (by omega) (by omega); exact ⟨ts0, X, h1, h2, Or.inl ⟨by decide, by rw [h5, show G5 4 2 = Gj31 4 2 from (show gu_un xcd [103, 104, 105, 106] Gj31 G5 from (gu_un.tr gu_un.rf (gu_un.su hU7 rfl))) 4 2 (by decide), show G5 19 = Gj31 19 from funext fun k_ => (show gu_un xcd [103, 104, 105, 106] Gj31 G5 from (gu_un.tr gu_un.rf (gu_un.su hU7 rfl))) 19 k_ (by simp [xcd]), show G5 29 = Gj31 29 from funext fun k_ => (show gu_un xcd [103, 104, 105, 106] Gj31 G5 from (gu_un.tr gu_un.rf (gu_un.su hU7 rfl))) 29 k_ (by simp [xcd]), show G5 14 1 = Gj31 14 1 from (show gu_un xcd [103, 104, 105, 106] Gj31 G5 from (gu_un.tr gu_un.rf (gu_un.su hU7 rfl))) 14 1 (by decide), show G5 32 = Gj31 32 from funext fun k_ => (show gu_un xcd [103, 104, 105, 106] Gj31 G5 from (gu_un.tr gu_un.rf (gu_un.su hU7 rfl))) 32 k_ (by simp [xcd]), show G5 15 1 = Gj31 15 1 from (show gu_un xcd [103, 104, 105, 106] Gj31 G5 from (gu_un.tr gu_un.rf (gu_un.su hU7 rfl))) 15 1 (by decide), show G5 35 = Gj31 35 from funext fun k_ => (show gu_un xcd [103, 104, 105, 106] Gj31 G5 from (gu_un.tr gu_un.rf (gu_un.su hU7 rfl))) 35 k_ (by simp [xcd]), show G5 16 1 = Gj31 16 1 from (show gu_un xcd [103, 104, 105, 106] Gj31 G5 from (gu_un.tr gu_un.rf (gu_un.su hU7 rfl))) 16 1 (by decide)]⟩⟩)⟩) rfl rfl dX8_read_64
  refine g_aload_n F 0 dX8_read_0 rfl rfl ?_
  refine xg_4_1 F i_X8 w_3 dX8_read_1 ?_
  refine uz_callVv (k := 0) (n := 0) (b := a 3) (As := []) (st := []) F xZ_st hZ (fun sz => S_X7_beUntold_3 l D K a G zf  hI sz) (cwV 0 hts gX8_read_X7_beUntold rfl rfl rfl (by decide +kernel) ⟨Nat.le_of_ble_eq_true rfl, Nat.le_of_ble_eq_true rfl⟩) rfl 3 xc_3 rfl (Nat.le_of_ble_eq_true rfl) ⟨Nat.zero_le _, Nat.zero_le _⟩ dX8_read_4 (fun G65 hw64 => ?_)
  have hI66 : xI G65 := hw64.1
  have hU67 : gu_un xcd [1402, 1502, 1602, 1900, 2900, 3200, 3500] G G65 := hw64.2.1
  have hp68 := hw64.2.2
  have q69 : xNb (G65 19) := hp68.1
  have q70 : (∀ q : Nat, q < 36 → G65 19 q = hU q) := hp68.2.1
  have b71 : (0 : Int) ≤ (G65 14 1).toInt ∧ (G65 14 1).toInt ≤ 80 := hI66 14 1
  have q72 : (tkr (G65 29) ((G65 14 1).toInt).toNat = [-1]) := hp68.2.2.1
  have b73 : (0 : Int) ≤ (G65 15 1).toInt ∧ (G65 15 1).toInt ≤ 80 := hI66 15 1
  have q74 : (tkr (G65 32) ((G65 15 1).toInt).toNat = [0]) := hp68.2.2.2.1
  have b75 : (0 : Int) ≤ (G65 16 1).toInt ∧ (G65 16 1).toInt ≤ 80 := hI66 16 1
  have q76 : (tkr (G65 35) ((G65 16 1).toInt).toNat = [0]) := hp68.2.2.2.2
  clear hp68 hw64
  refine g_aload_n F 0 dX8_read_7 rfl rfl ?_
  refine g_iconst F 0 dX8_read_8 (by decide) ?_
  refine xp_4_2 F i_X8 w_4 dX8_read_9 ?_
  refine g_aload_n F 0 dX8_read_12 rfl rfl ?_
  refine g_iconst F 0 dX8_read_13 (by decide) ?_
  refine xp_4_3 F i_X8 w_5 dX8_read_14 ?_
  refine g_aload_n F 0 dX8_read_17 rfl rfl ?_
  refine g_iconst F (-1) dX8_read_18 (by decide) ?_
  refine xp_4_4 F i_X8 w_1 dX8_read_19 ?_
  refine g_aload_n F 0 dX8_read_22 rfl rfl ?_
  refine xg_4_0 F i_X8 w_0 dX8_read_23 ?_
  refine u_callVv (k := 0) (n := 0) (b := a 1) (As := []) (st := []) F (fun sz => S_X10_rewind l D K a (gu_up (gu_up (gu_up G65 4 2 0) 4 3 0) 4 4 (-1))  (gu_I.up (j := 4) (k := 4) (v := (-1)) (gu_I.up (j := 4) (k := 3) (v := 0) (gu_I.up (j := 4) (k := 2) (v := 0) hI66 (show (0 : Int) ≤ (0 : Int32).toInt by decide) (show (0 : Int32).toInt ≤ 1001 by decide)) (ti_rng _).1 (ti_rng _).2) (show ((-1) : Int) ≤ ((-1) : Int32).toInt by decide) (show ((-1) : Int32).toInt ≤ 12 by decide)) sz) (cwV 0 hts gX8_read_X10_rewind rfl rfl rfl (by decide +kernel) ⟨Nat.le_of_ble_eq_true rfl, Nat.le_of_ble_eq_true rfl⟩) rfl 1 xc_1 rfl (Nat.le_of_ble_eq_true rfl) ⟨Nat.zero_le _, Nat.zero_le _⟩ dX8_read_26 (fun G79 hw78 => ?_)
  have hI80 : xI G79 := hw78.1
  have hU81 : gu_un xcd [103] (gu_up (gu_up (gu_up G65 4 2 0) 4 3 0) 4 4 (-1)) G79 := hw78.2.1
  have hp82 := hw78.2.2
  have b83 : (0 : Int) ≤ (G79 1 2).toInt ∧ (G79 1 2).toInt ≤ 1000 := hI80 1 2
  have q84 : ((G79 1 2).toInt = 0) := hp82
  clear hp82 hw78
  refine g_iconst F 0 dX8_read_29 (by decide) ?_
  refine g_istore_n F [(1, .int 0), (0, .ref (a 4))] dX8_read_30 rfl (by decide) rfl ?_
  refine g_locals [(0, .ref (a 4)), (1, .int 0)] [1, 0] rfl ?_
  exact J_31 _ 0 G79 (Nat.lt_succ_self _) (by decide) hI80 (gu_un.tr (gu_un.up (j := 4) (k := 4) (v := (-1)) (gu_un.up (j := 4) (k := 3) (v := 0) (gu_un.up (j := 4) (k := 2) (v := 0) (gu_un.tr gu_un.rf (gu_un.su hU67 rfl)) (show (403 : Nat) ∈ ([103, 104, 105, 106, 403, 404, 405, 406, 407, 1402, 1405, 1406, 1407, 1408, 1409, 1502, 1505, 1506, 1507, 1508, 1509, 1602, 1605, 1606, 1607, 1608, 1609, 1900, 2900, 3100, 3200, 3400, 3500, 3700] : List Nat) by decide)) (show (404 : Nat) ∈ ([103, 104, 105, 106, 403, 404, 405, 406, 407, 1402, 1405, 1406, 1407, 1408, 1409, 1502, 1505, 1506, 1507, 1508, 1509, 1602, 1605, 1606, 1607, 1608, 1609, 1900, 2900, 3100, 3200, 3400, 3500, 3700] : List Nat) by decide)) (show (405 : Nat) ∈ ([103, 104, 105, 106, 403, 404, 405, 406, 407, 1402, 1405, 1406, 1407, 1408, 1409, 1502, 1505, 1506, 1507, 1508, 1509, 1602, 1605, 1606, 1607, 1608, 1609, 1900, 2900, 3100, 3200, 3400, 3500, 3700] : List Nat) by decide)) (gu_un.su hU81 rfl)) ((xF3.un f3 (show gu_un xcd [103, 403, 404, 405, 1402, 1502, 1602, 1900, 2900, 3200, 3500] G G79 from (gu_un.tr (gu_un.up (j := 4) (k := 4) (v := (-1)) (gu_un.up (j := 4) (k := 3) (v := 0) (gu_un.up (j := 4) (k := 2) (v := 0) (gu_un.tr gu_un.rf (gu_un.su hU67 rfl)) (show (403 : Nat) ∈ ([103, 403, 404, 405, 1402, 1502, 1602, 1900, 2900, 3200, 3500] : List Nat) by decide)) (show (404 : Nat) ∈ ([103, 403, 404, 405, 1402, 1502, 1602, 1900, 2900, 3200, 3500] : List Nat) by decide)) (show (405 : Nat) ∈ ([103, 403, 404, 405, 1402, 1502, 1602, 1900, 2900, 3200, 3500] : List Nat) by decide)) (gu_un.su hU81 rfl))) rfl rfl rfl)) ((xNb.un q69 (show gu_un xcd [103, 403, 404, 405] G65 G79 from (gu_un.tr (gu_un.up (j := 4) (k := 4) (v := (-1)) (gu_un.up (j := 4) (k := 3) (v := 0) (gu_un.up (j := 4) (k := 2) (v := 0) gu_un.rf (show (403 : Nat) ∈ ([103, 403, 404, 405] : List Nat) by decide)) (show (404 : Nat) ∈ ([103, 403, 404, 405] : List Nat) by decide)) (show (405 : Nat) ∈ ([103, 403, 404, 405] : List Nat) by decide)) (gu_un.su hU81 rfl))) rfl)) (Or.inl (by have e9_4_4 : G79 4 4 = (-1) := hU81 4 4 (by decide); (try simp only [e9_4_4, true_and, and_true]) <;> (first | omega | (simp only [Int32.reduceToInt, true_and, and_true, ne_eq, not_true_eq_false, false_and, or_false, false_or, true_or, or_true, false_implies] <;> omega)))) (xN3.no (by have e9_4_4 : G79 4 4 = (-1) := hU81 4 4 (by decide); (try simp only [e9_4_4, true_and, and_true]) <;> (first | omega | (simp only [Int32.reduceToInt, true_and, and_true, ne_eq, not_true_eq_false, false_and, or_false, false_or, true_or, or_true, false_implies] <;> omega)))) (by have e9_4_2 : G79 4 2 = 0 := hU81 4 2 (by decide); (try simp only [e9_4_2, true_and, and_true]) <;> (first | omega | (simp only [Int32.reduceToInt, true_and, and_true, ne_eq, not_true_eq_false, false_and, or_false, false_or, true_or, or_true, false_implies] <;> omega))) (by have e9_1_1 : G79 1 1 = (G 1 1) := (hU81 1 1 (by decide)).trans (hU67 1 1 (by decide)); (try simp only [e9_1_1, true_and, and_true]) <;> (first | omega | (simp only [Int32.reduceToInt, true_and, and_true, ne_eq, not_true_eq_false, false_and, or_false, false_or, true_or, or_true, false_implies] <;> omega))) (by obtain ⟨ts9, h9⟩ := tL_ex (b := G 17) (n := (G 1 1).toInt) (m := (G 1 1).toInt.toNat) (p := 0) (by omega) (by omega); exact ⟨ts9, G79, h9, ⟨(show (G79 4 4).toInt = -1 by rw [show G79 4 4 = (-1) from hU81 4 4 (by decide)] <;> first | rfl | omega), (show (G79 4 2).toInt = 0 by rw [show G79 4 2 = 0 from hU81 4 2 (by decide)] <;> first | rfl | omega), (show G79 4 3 = 0 from hU81 4 3 (by decide)), fun q hq => by rw [show G79 19 q = G65 19 q from (show gu_un xcd [103, 403, 404, 405] G65 G79 from (gu_un.tr (gu_un.up (j := 4) (k := 4) (v := (-1)) (gu_un.up (j := 4) (k := 3) (v := 0) (gu_un.up (j := 4) (k := 2) (v := 0) gu_un.rf (show (403 : Nat) ∈ ([103, 403, 404, 405] : List Nat) by decide)) (show (404 : Nat) ∈ ([103, 403, 404, 405] : List Nat) by decide)) (show (405 : Nat) ∈ ([103, 403, 404, 405] : List Nat) by decide)) (gu_un.su hU81 rfl))) 19 q (by simp [xcd])]; exact q70 q hq, by rw [show G79 29 = G65 29 from funext fun k_ => (show gu_un xcd [103, 403, 404, 405] G65 G79 from (gu_un.tr (gu_un.up (j := 4) (k := 4) (v := (-1)) (gu_un.up (j := 4) (k := 3) (v := 0) (gu_un.up (j := 4) (k := 2) (v := 0) gu_un.rf (show (403 : Nat) ∈ ([103, 403, 404, 405] : List Nat) by decide)) (show (404 : Nat) ∈ ([103, 403, 404, 405] : List Nat) by decide)) (show (405 : Nat) ∈ ([103, 403, 404, 405] : List Nat) by decide)) (gu_un.su hU81 rfl))) 29 k_ (by simp [xcd]), show G79 14 1 = G65 14 1 from (show gu_un xcd [103, 403, 404, 405] G65 G79 from (gu_un.tr (gu_un.up (j := 4) (k := 4) (v := (-1)) (gu_un.up (j := 4) (k := 3) (v := 0) (gu_un.up (j := 4) (k := 2) (v := 0) gu_un.rf (show (403 : Nat) ∈ ([103, 403, 404, 405] : List Nat) by decide)) (show (404 : Nat) ∈ ([103, 403, 404, 405] : List Nat) by decide)) (show (405 : Nat) ∈ ([103, 403, 404, 405] : List Nat) by decide)) (gu_un.su hU81 rfl))) 14 1 (by decide)]; exact q72, by rw [show G79 32 = G65 32 from funext fun k_ => (show gu_un xcd [103, 403, 404, 405] G65 G79 from (gu_un.tr (gu_un.up (j := 4) (k := 4) (v := (-1)) (gu_un.up (j := 4) (k := 3) (v := 0) (gu_un.up (j := 4) (k := 2) (v := 0) gu_un.rf (show (403 : Nat) ∈ ([103, 403, 404, 405] : List Nat) by decide)) (show (404 : Nat) ∈ ([103, 403, 404, 405] : List Nat) by decide)) (show (405 : Nat) ∈ ([103, 403, 404, 405] : List Nat) by decide)) (gu_un.su hU81 rfl))) 32 k_ (by simp [xcd]), show G79 15 1 = G65 15 1 from (show gu_un xcd [103, 403, 404, 405] G65 G79 from (gu_un.tr (gu_un.up (j := 4) (k := 4) (v := (-1)) (gu_un.up (j := 4) (k := 3) (v := 0) (gu_un.up (j := 4) (k := 2) (v := 0) gu_un.rf (show (403 : Nat) ∈ ([103, 403, 404, 405] : List Nat) by decide)) (show (404 : Nat) ∈ ([103, 403, 404, 405] : List Nat) by decide)) (show (405 : Nat) ∈ ([103, 403, 404, 405] : List Nat) by decide)) (gu_un.su hU81 rfl))) 15 1 (by decide)]; exact q74, by rw [show G79 35 = G65 35 from funext fun k_ => (show gu_un xcd [103, 403, 404, 405] G65 G79 from (gu_un.tr (gu_un.up (j := 4) (k := 4) (v := (-1)) (gu_un.up (j := 4) (k := 3) (v := 0) (gu_un.up (j := 4) (k := 2) (v := 0) gu_un.rf (show (403 : Nat) ∈ ([103, 403, 404, 405] : List Nat) by decide)) (show (404 : Nat) ∈ ([103, 403, 404, 405] : List Nat) by decide)) (show (405 : Nat) ∈ ([103, 403, 404, 405] : List Nat) by decide)) (gu_un.su hU81 rfl))) 35 k_ (by simp [xcd]), show G79 16 1 = G65 16 1 from (show gu_un xcd [103, 403, 404, 405] G65 G79 from (gu_un.tr (gu_un.up (j := 4) (k := 4) (v := (-1)) (gu_un.up (j := 4) (k := 3) (v := 0) (gu_un.up (j := 4) (k := 2) (v := 0) gu_un.rf (show (403 : Nat) ∈ ([103, 403, 404, 405] : List Nat) by decide)) (show (404 : Nat) ∈ ([103, 403, 404, 405] : List Nat) by decide)) (show (405 : Nat) ∈ ([103, 403, 404, 405] : List Nat) by decide)) (gu_un.su hU81 rfl))) 16 1 (by decide)]; exact q76⟩, ts9, by rw [show (G79 1 2).toInt = 0 by omega]; exact h9, rfl⟩)
